set_option maxRecDepth 100000 in
theorem ml_X0_1 : Cond.methodLink RX0 1 objectInit ∈ lw_g := z_mem (k := 147) rfl rfl
set_option maxRecDepth 100000 in
theorem cl_X0_7 : Cond.classLink RX0 7 "EliminateLoci$Plane" ∈ lw_g := z_mem (k := 148) rfl rfl
set_option maxRecDepth 100000 in
theorem ins_X0 : Cond.instantiable RX0 4 ∈ lw_g := z_mem (k := 143) rfl rfl
set_option maxRecDepth 100000 in
theorem ml_X1_3 : Cond.methodLink RX1 3 objectInit ∈ lw_g := z_mem (k := 72) rfl rfl
set_option maxRecDepth 100000 in
theorem ins_X1 : Cond.instantiable RX1 3 ∈ lw_g := z_mem (k := 68) rfl rfl
set_option maxRecDepth 100000 in
theorem ml_X2_3 : Cond.methodLink RX2 3 objectInit ∈ lw_g := z_mem (k := 88) rfl rfl
set_option maxRecDepth 100000 in
theorem cl_X2_9 : Cond.classLink RX2 9 "EliminateLoci$Plane" ∈ lw_g := z_mem (k := 89) rfl rfl
set_option maxRecDepth 100000 in
theorem ins_X2 : Cond.instantiable RX2 4 ∈ lw_g := z_mem (k := 84) rfl rfl
set_option maxRecDepth 100000 in
theorem ml_X3_3 : Cond.methodLink RX3 3 objectInit ∈ lw_g := z_mem (k := 95) rfl rfl
set_option maxRecDepth 100000 in
theorem ins_X3 : Cond.instantiable RX3 2 ∈ lw_g := z_mem (k := 91) rfl rfl
set_option maxRecDepth 100000 in
theorem ml_X4_1 : Cond.methodLink RX4 1 objectInit ∈ lw_g := z_mem (k := 126) rfl rfl
set_option maxRecDepth 100000 in
theorem cl_X4_7 : Cond.classLink RX4 7 "EliminateLoci$Plane" ∈ lw_g := z_mem (k := 127) rfl rfl
set_option maxRecDepth 100000 in
theorem ins_X4 : Cond.instantiable RX4 4 ∈ lw_g := z_mem (k := 122) rfl rfl
set_option maxRecDepth 100000 in
theorem ml_X5_3 : Cond.methodLink RX5 3 objectInit ∈ lw_g := z_mem (k := 56) rfl rfl
set_option maxRecDepth 100000 in
theorem cl_X5_9 : Cond.classLink RX5 9 "[[J" ∈ lw_g := z_mem (k := 57) rfl rfl
set_option maxRecDepth 100000 in
theorem ins_X5 : Cond.instantiable RX5 1 ∈ lw_g := z_mem (k := 52) rfl rfl
set_option maxRecDepth 100000 in
theorem ml_X6_1 : Cond.methodLink RX6 1 objectInit ∈ lw_g := z_mem (k := 48) rfl rfl
set_option maxRecDepth 100000 in
theorem cl_X6_7 : Cond.classLink RX6 7 "EliminateLoci$Row" ∈ lw_g := z_mem (k := 51) rfl rfl
set_option maxRecDepth 100000 in
theorem cl_X6_19 : Cond.classLink RX6 19 "EliminateLoci$Divisor" ∈ lw_g := z_mem (k := 67) rfl rfl
set_option maxRecDepth 100000 in
theorem cl_X6_26 : Cond.classLink RX6 26 "EliminateLoci$Eliminant" ∈ lw_g := z_mem (k := 83) rfl rfl
set_option maxRecDepth 100000 in
theorem cl_X6_33 : Cond.classLink RX6 33 "EliminateLoci$RootFinder" ∈ lw_g := z_mem (k := 121) rfl rfl
set_option maxRecDepth 100000 in
theorem cl_X6_40 : Cond.classLink RX6 40 "EliminateLoci$Curve" ∈ lw_g := z_mem (k := 142) rfl rfl
set_option maxRecDepth 100000 in
theorem ins_X6 : Cond.instantiable RX6 9 ∈ lw_g := z_mem (k := 44) rfl rfl
theorem df_X0 : ∀ j, j < 4 → defaultValue (tyX0 j) = vp_V [.null, .int (zI 0), .int (zI 0), .int (zI 0)] j := by
  intro j hj
  rcases (show j = 0 ∨ j = 1 ∨ j = 2 ∨ j = 3 by omega) with rfl | rfl | rfl | rfl <;> rfl
theorem df_X1 : ∀ j, j < 3 → defaultValue (tyX1 j) = vp_V [.null, .null, .null] j := by
  intro j hj
  rcases (show j = 0 ∨ j = 1 ∨ j = 2 by omega) with rfl | rfl | rfl <;> rfl
theorem df_X2 : ∀ j, j < 4 → defaultValue (tyX2 j) = vp_V [.null, .null, .null, .null] j := by
  intro j hj
  rcases (show j = 0 ∨ j = 1 ∨ j = 2 ∨ j = 3 by omega) with rfl | rfl | rfl | rfl <;> rfl
theorem df_X3 : ∀ j, j < 2 → defaultValue (tyX3 j) = vp_V [.null, .int (zI 0)] j := by
  intro j hj
  rcases (show j = 0 ∨ j = 1 by omega) with rfl | rfl <;> rfl
theorem df_X4 : ∀ j, j < 4 → defaultValue (tyX4 j) = vp_V [.null, .null, .null, .null] j := by
  intro j hj
  rcases (show j = 0 ∨ j = 1 ∨ j = 2 ∨ j = 3 by omega) with rfl | rfl | rfl | rfl <;> rfl
theorem df_X5 : ∀ j, j < 1 → defaultValue (tyX5 j) = vp_V [.null] j := by
  intro j hj
  rcases (show j = 0 by omega) with rfl <;> rfl
theorem df_X6 : ∀ j, j < 9 → defaultValue (tyX6 j) = vp_V [.null, .null, .null, .null, .null, .null, .null, .null, .int (zI 0)] j := by
  intro j hj
  rcases (show j = 0 ∨ j = 1 ∨ j = 2 ∨ j = 3 ∨ j = 4 ∨ j = 5 ∨ j = 6 ∨ j = 7 ∨ j = 8 by omega) with rfl | rfl | rfl | rfl | rfl | rfl | rfl | rfl | rfl <;> rfl
theorem dX3_init_0 : decode cX3_init 0 = .ok (.aload_n 0, 1) := by decide +kernel
theorem dX3_init_1 : decode cX3_init 1 = .ok (.invokespecial 3, 3) := by decide +kernel
theorem dX3_init_4 : decode cX3_init 4 = .ok (.aload_n 0, 1) := by decide +kernel
theorem dX3_init_5 : decode cX3_init 5 = .ok (.bipush 28, 2) := by decide +kernel
theorem dX3_init_7 : decode cX3_init 7 = .ok (.newarray .long, 2) := by decide +kernel
theorem dX3_init_9 : decode cX3_init 9 = .ok (.putfield 9, 3) := by decide +kernel
theorem dX3_init_12 : decode cX3_init 12 = .ok (.aload_n 0, 1) := by decide +kernel
theorem dX3_init_13 : decode cX3_init 13 = .ok (.iconst 0, 1) := by decide +kernel
theorem dX3_init_14 : decode cX3_init 14 = .ok (.putfield 15, 3) := by decide +kernel
theorem dX3_init_17 : decode cX3_init 17 = .ok (.return_, 1) := by decide +kernel
set_option maxHeartbeats 4000000 in
set_option maxRecDepth 100000 in
theorem ct_X3_init (l : Launch) (D : va_G) (ce : Nat → ClassId) (h0 : Nat) : Ct l yX3_init cX3_init 1 none { frames := 1, cells := 1, slots := 28, locals := 12 } 1 28 D (TY ce) [.ref h0] [(h0, .inr (3, [.null, .int (zI 0)]))] (QV D (TY ce) (fun w1 => ∃ r : Nat, w1 = plW ce h0 r)) := by
  refine Ct.ofV (by decide) (Nat.le_of_ble_eq_true rfl) ?_
  intro p e s m args below meth c A Q hX hnm hR
  refine Z.pick (lv' := [(0, .ref h0)]) [0] rfl ?_
  refine Z.aload_n hX dX3_init_0 rfl rfl ?_
  refine Z.objI hX dX3_init_1 ml_X3_3 im_obj mc_obj (by decide) (by decide) ?_
  refine Z.aload_n hX dX3_init_4 rfl rfl ?_
  refine Z.bipush hX dX3_init_5 (by decide) ?_
  refine Z.newl (N := 28) hX 1 dX3_init_7 rfl ac_1 rfl (by decide) (Nat.le_of_ble_eq_true rfl) (Nat.le_of_ble_eq_true rfl) ?_
  intro q1
  refine Z.toW (w' := (h0, .inr (3, [.null, .int (zI 0)])) :: (([]) ++ [(q1, .inl (ce 1, 28, .inr (.inl (fun _ => 0))))])) rfl ?_
  refine Z.putF (ty := tyX3 0) hX 3 0 0 tyX3 hnm dX3_init_9 rfl rfl inX3 tyX3_ok nmX3 (by decide) fl_X3_9 rfl rfl rfl (by decide +kernel) rfl rfl (Nat.le_of_ble_eq_true rfl) ?_
  refine Z.toW (w' := (h0, .inr (3, [.ref q1, .int (zI 0)])) :: (([]) ++ [(q1, .inl (ce 1, 28, .inr (.inl (fun _ => 0))))])) rfl ?_
  refine Z.aload_n hX dX3_init_12 rfl rfl ?_
  refine Z.iconst hX dX3_init_13 ?_
  refine Z.putf (ty := tyX3 1) hX 3 0 1 tyX3 dX3_init_14 rfl rfl inX3 tyX3_ok nmX3 (by decide) fl_X3_15 rfl rfl (by decide +kernel) rfl rfl (Nat.le_of_ble_eq_true rfl) ?_
  refine Z.toW (w' := (h0, .inr (3, [.ref q1, .int (zI 0)])) :: (([]) ++ [(q1, .inl (ce 1, 28, .inr (.inl (fun _ => 0))))])) rfl ?_
  exact hR _ _ _ dX3_init_17 ⟨q1, rfl⟩
theorem dX5_init_0 : decode cX5_init 0 = .ok (.aload_n 0, 1) := by decide +kernel
theorem dX5_init_1 : decode cX5_init 1 = .ok (.invokespecial 3, 3) := by decide +kernel
theorem dX5_init_4 : decode cX5_init 4 = .ok (.aload_n 0, 1) := by decide +kernel
theorem dX5_init_5 : decode cX5_init 5 = .ok (.iconst 3, 1) := by decide +kernel
theorem dX5_init_6 : decode cX5_init 6 = .ok (.iconst 5, 1) := by decide +kernel
theorem dX5_init_7 : decode cX5_init 7 = .ok (.multianewarray 9 2, 4) := by decide +kernel
theorem dX5_init_11 : decode cX5_init 11 = .ok (.putfield 11, 3) := by decide +kernel
theorem dX5_init_14 : decode cX5_init 14 = .ok (.return_, 1) := by decide +kernel
set_option maxHeartbeats 4000000 in
set_option maxRecDepth 100000 in
theorem ct_X5_init (l : Launch) (D : va_G) (ce : Nat → ClassId) (h0 : Nat) : Ct l yX5_init cX5_init 1 none { frames := 1, cells := 4, slots := 18, locals := 12 } 4 18 D (TY ce) [.ref h0] [(h0, .inr (5, [.null]))] (QV D (TY ce) (fun w1 => ∃ r : Nat, w1 = rowW ce h0 r (fun i => some (r + 1 + i)))) := by
  refine Ct.ofV (by decide) (Nat.le_of_ble_eq_true rfl) ?_
  intro p e s m args below meth c A Q hX hnm hR
  refine Z.pick (lv' := [(0, .ref h0)]) [0] rfl ?_
  refine Z.aload_n hX dX5_init_0 rfl rfl ?_
  refine Z.objI hX dX5_init_1 ml_X5_3 im_obj mc_obj (by decide) (by decide) ?_
  refine Z.aload_n hX dX5_init_4 rfl rfl ?_
  refine Z.iconst hX dX5_init_5 ?_
  refine Z.iconst hX dX5_init_6 ?_
  refine Z.mna hX 3 1 dX5_init_7 rfl rfl cl_X5_9 ac_1 (Nat.le_of_ble_eq_true rfl) (Nat.le_of_ble_eq_true rfl) ?_
  intro q1
  refine Z.toW (w' := (h0, .inr (5, [.null])) :: (([]) ++ [(q1, .inl (ce 3, 3, .inr (.inr (.inr (.inr (fun i => some (q1 + 1 + i))))))), (q1 + 1, .inl (ce 1, 5, .inr (.inl (fun _ => 0)))), (q1 + 2, .inl (ce 1, 5, .inr (.inl (fun _ => 0)))), (q1 + 3, .inl (ce 1, 5, .inr (.inl (fun _ => 0))))])) rfl ?_
  refine Z.putF (ty := tyX5 0) hX 5 0 0 tyX5 hnm dX5_init_11 rfl rfl inX5 tyX5_ok nmX5 (by decide) fl_X5_11 rfl rfl rfl (by decide +kernel) rfl rfl (Nat.le_of_ble_eq_true rfl) ?_
  refine Z.toW (w' := (h0, .inr (5, [.ref q1])) :: (([]) ++ [(q1, .inl (ce 3, 3, .inr (.inr (.inr (.inr (fun i => some (q1 + 1 + i))))))), (q1 + 1, .inl (ce 1, 5, .inr (.inl (fun _ => 0)))), (q1 + 2, .inl (ce 1, 5, .inr (.inl (fun _ => 0)))), (q1 + 3, .inl (ce 1, 5, .inr (.inl (fun _ => 0))))])) rfl ?_
  exact hR _ _ _ dX5_init_14 ⟨q1, rfl⟩
theorem dX1_init_0 : decode cX1_init 0 = .ok (.aload_n 0, 1) := by decide +kernel
theorem dX1_init_1 : decode cX1_init 1 = .ok (.invokespecial 3, 3) := by decide +kernel
theorem dX1_init_4 : decode cX1_init 4 = .ok (.aload_n 0, 1) := by decide +kernel
theorem dX1_init_5 : decode cX1_init 5 = .ok (.iconst 5, 1) := by decide +kernel
theorem dX1_init_6 : decode cX1_init 6 = .ok (.newarray .long, 2) := by decide +kernel
theorem dX1_init_8 : decode cX1_init 8 = .ok (.putfield 9, 3) := by decide +kernel
theorem dX1_init_11 : decode cX1_init 11 = .ok (.aload_n 0, 1) := by decide +kernel
theorem dX1_init_12 : decode cX1_init 12 = .ok (.iconst 5, 1) := by decide +kernel
theorem dX1_init_13 : decode cX1_init 13 = .ok (.newarray .long, 2) := by decide +kernel
theorem dX1_init_15 : decode cX1_init 15 = .ok (.putfield 15, 3) := by decide +kernel
theorem dX1_init_18 : decode cX1_init 18 = .ok (.aload_n 0, 1) := by decide +kernel
theorem dX1_init_19 : decode cX1_init 19 = .ok (.iconst 5, 1) := by decide +kernel
theorem dX1_init_20 : decode cX1_init 20 = .ok (.newarray .long, 2) := by decide +kernel
theorem dX1_init_22 : decode cX1_init 22 = .ok (.putfield 18, 3) := by decide +kernel
theorem dX1_init_25 : decode cX1_init 25 = .ok (.return_, 1) := by decide +kernel
set_option maxHeartbeats 4000000 in
set_option maxRecDepth 100000 in
theorem ct_X1_init (l : Launch) (D : va_G) (ce : Nat → ClassId) (h0 : Nat) : Ct l yX1_init cX1_init 1 none { frames := 1, cells := 3, slots := 15, locals := 12 } 3 15 D (TY ce) [.ref h0] [(h0, .inr (1, [.null, .null, .null]))] (QV D (TY ce) (fun w1 => ∃ g : Nat → Nat, w1 = divW ce h0 g)) := by
  refine Ct.ofV (by decide) (Nat.le_of_ble_eq_true rfl) ?_
  intro p e s m args below meth c A Q hX hnm hR
  refine Z.pick (lv' := [(0, .ref h0)]) [0] rfl ?_
  refine Z.aload_n hX dX1_init_0 rfl rfl ?_
  refine Z.objI hX dX1_init_1 ml_X1_3 im_obj mc_obj (by decide) (by decide) ?_
  refine Z.aload_n hX dX1_init_4 rfl rfl ?_
  refine Z.iconst hX dX1_init_5 ?_
  refine Z.newl (N := 5) hX 1 dX1_init_6 rfl ac_1 rfl (by decide) (Nat.le_of_ble_eq_true rfl) (Nat.le_of_ble_eq_true rfl) ?_
  intro q1
  refine Z.toW (w' := (h0, .inr (1, [.null, .null, .null])) :: (([]) ++ [(q1, .inl (ce 1, 5, .inr (.inl (fun _ => 0))))])) rfl ?_
  refine Z.putF (ty := tyX1 0) hX 1 0 0 tyX1 hnm dX1_init_8 rfl rfl inX1 tyX1_ok nmX1 (by decide) fl_X1_9 rfl rfl rfl (by decide +kernel) rfl rfl (Nat.le_of_ble_eq_true rfl) ?_
  refine Z.toW (w' := (h0, .inr (1, [.ref q1, .null, .null])) :: (([]) ++ [(q1, .inl (ce 1, 5, .inr (.inl (fun _ => 0))))])) rfl ?_
  refine Z.aload_n hX dX1_init_11 rfl rfl ?_
  refine Z.iconst hX dX1_init_12 ?_
  refine Z.newl (N := 5) hX 1 dX1_init_13 rfl ac_1 rfl (by decide) (Nat.le_of_ble_eq_true rfl) (Nat.le_of_ble_eq_true rfl) ?_
  intro q2
  refine Z.toW (w' := (h0, .inr (1, [.ref q1, .null, .null])) :: ((([]) ++ [(q1, .inl (ce 1, 5, .inr (.inl (fun _ => 0))))]) ++ [(q2, .inl (ce 1, 5, .inr (.inl (fun _ => 0))))])) rfl ?_
  refine Z.putF (ty := tyX1 1) hX 1 0 1 tyX1 hnm dX1_init_15 rfl rfl inX1 tyX1_ok nmX1 (by decide) fl_X1_15 rfl rfl rfl (by decide +kernel) rfl rfl (Nat.le_of_ble_eq_true rfl) ?_
  refine Z.toW (w' := (h0, .inr (1, [.ref q1, .ref q2, .null])) :: ((([]) ++ [(q1, .inl (ce 1, 5, .inr (.inl (fun _ => 0))))]) ++ [(q2, .inl (ce 1, 5, .inr (.inl (fun _ => 0))))])) rfl ?_
  refine Z.aload_n hX dX1_init_18 rfl rfl ?_
  refine Z.iconst hX dX1_init_19 ?_
  refine Z.newl (N := 5) hX 1 dX1_init_20 rfl ac_1 rfl (by decide) (Nat.le_of_ble_eq_true rfl) (Nat.le_of_ble_eq_true rfl) ?_
  intro q3
  refine Z.toW (w' := (h0, .inr (1, [.ref q1, .ref q2, .null])) :: (((([]) ++ [(q1, .inl (ce 1, 5, .inr (.inl (fun _ => 0))))]) ++ [(q2, .inl (ce 1, 5, .inr (.inl (fun _ => 0))))]) ++ [(q3, .inl (ce 1, 5, .inr (.inl (fun _ => 0))))])) rfl ?_
  refine Z.putF (ty := tyX1 2) hX 1 0 2 tyX1 hnm dX1_init_22 rfl rfl inX1 tyX1_ok nmX1 (by decide) fl_X1_18 rfl rfl rfl (by decide +kernel) rfl rfl (Nat.le_of_ble_eq_true rfl) ?_
  refine Z.toW (w' := (h0, .inr (1, [.ref q1, .ref q2, .ref q3])) :: (((([]) ++ [(q1, .inl (ce 1, 5, .inr (.inl (fun _ => 0))))]) ++ [(q2, .inl (ce 1, 5, .inr (.inl (fun _ => 0))))]) ++ [(q3, .inl (ce 1, 5, .inr (.inl (fun _ => 0))))])) rfl ?_
  exact hR _ _ _ dX1_init_25 ⟨fun k => ([q1, q2, q3] : List Nat).getD k 0, rfl⟩
theorem dX0_init_0 : decode cX0_init 0 = .ok (.aload_n 0, 1) := by decide +kernel
theorem dX0_init_1 : decode cX0_init 1 = .ok (.invokespecial 1, 3) := by decide +kernel
theorem dX0_init_4 : decode cX0_init 4 = .ok (.aload_n 0, 1) := by decide +kernel
theorem dX0_init_5 : decode cX0_init 5 = .ok (.new 7, 3) := by decide +kernel
theorem dX0_init_8 : decode cX0_init 8 = .ok (.dup, 1) := by decide +kernel
theorem dX0_init_9 : decode cX0_init 9 = .ok (.invokespecial 9, 3) := by decide +kernel
theorem dX0_init_12 : decode cX0_init 12 = .ok (.putfield 10, 3) := by decide +kernel
theorem dX0_init_15 : decode cX0_init 15 = .ok (.aload_n 0, 1) := by decide +kernel
theorem dX0_init_16 : decode cX0_init 16 = .ok (.iconst 0, 1) := by decide +kernel
theorem dX0_init_17 : decode cX0_init 17 = .ok (.putfield 16, 3) := by decide +kernel
theorem dX0_init_20 : decode cX0_init 20 = .ok (.aload_n 0, 1) := by decide +kernel
theorem dX0_init_21 : decode cX0_init 21 = .ok (.iconst 0, 1) := by decide +kernel
theorem dX0_init_22 : decode cX0_init 22 = .ok (.putfield 20, 3) := by decide +kernel
theorem dX0_init_25 : decode cX0_init 25 = .ok (.aload_n 0, 1) := by decide +kernel
theorem dX0_init_26 : decode cX0_init 26 = .ok (.iconst 0, 1) := by decide +kernel
theorem dX0_init_27 : decode cX0_init 27 = .ok (.putfield 24, 3) := by decide +kernel
theorem dX0_init_30 : decode cX0_init 30 = .ok (.return_, 1) := by decide +kernel
set_option maxHeartbeats 4000000 in
set_option maxRecDepth 100000 in
theorem ct_X0_init (l : Launch) (D : va_G) (ce : Nat → ClassId) (h0 : Nat) : Ct l yX0_init cX0_init 1 none { frames := 2, cells := 2, slots := 30, locals := 32 } 2 30 D (TY ce) [.ref h0] [(h0, .inr (0, [.null, .int (zI 0), .int (zI 0), .int (zI 0)]))] (QV D (TY ce) (fun w1 => ∃ b : Nat, ∃ r : Nat, w1 = curW ce h0 b r)) := by
  refine Ct.ofV (by decide) (Nat.le_of_ble_eq_true rfl) ?_
  intro p e s m args below meth c A Q hX hnm hR
  refine Z.pick (lv' := [(0, .ref h0)]) [0] rfl ?_
  refine Z.aload_n hX dX0_init_0 rfl rfl ?_
  refine Z.objI hX dX0_init_1 ml_X0_1 im_obj mc_obj (by decide) (by decide) ?_
  refine Z.aload_n hX dX0_init_4 rfl rfl ?_
  refine Z.newO (fs := [.null, .int (zI 0)]) hX 3 tyX3 dX0_init_5 rfl inX3 tyX3_ok cl_X0_7 ins_X3 ini_X3 df_X3 (Nat.le_of_ble_eq_true rfl) (Nat.le_of_ble_eq_true rfl) ?_
  intro a1
  refine Z.dup hX dX0_init_8 rfl ?_
  refine Z.initN (wr := (h0, .inr (0, [.null, .int (zI 0), .int (zI 0), .int (zI 0)])) :: ([])) hX (ct_X3_init l D ce a1) mc_X3_init ns_X0_9 rfl im_X3_init ini_X3 nd_X3_init ⟨Nat.le_of_ble_eq_true rfl, Nat.le_of_ble_eq_true rfl⟩ ⟨rfl, rfl⟩ ⟨Nat.le_of_ble_eq_true rfl, Nat.le_of_ble_eq_true rfl⟩ (Nat.le_of_ble_eq_true rfl) dX0_init_9 ?_
  rintro w1 ⟨r2, hw_⟩
  subst hw_
  refine Z.toW (w' := (h0, .inr (0, [.null, .int (zI 0), .int (zI 0), .int (zI 0)])) :: (([]) ++ plW ce a1 r2)) rfl ?_
  refine Z.putF (ty := tyX0 0) hX 0 0 0 tyX0 hnm dX0_init_12 rfl rfl inX0 tyX0_ok nmX0 (by decide) fl_X0_10 rfl rfl rfl (by decide +kernel) rfl rfl (Nat.le_of_ble_eq_true rfl) ?_
  refine Z.toW (w' := (h0, .inr (0, [.ref a1, .int (zI 0), .int (zI 0), .int (zI 0)])) :: (([]) ++ plW ce a1 r2)) rfl ?_
  refine Z.aload_n hX dX0_init_15 rfl rfl ?_
  refine Z.iconst hX dX0_init_16 ?_
  refine Z.putf (ty := tyX0 1) hX 0 0 1 tyX0 dX0_init_17 rfl rfl inX0 tyX0_ok nmX0 (by decide) fl_X0_16 rfl rfl (by decide +kernel) rfl rfl (Nat.le_of_ble_eq_true rfl) ?_
  refine Z.toW (w' := (h0, .inr (0, [.ref a1, .int (zI 0), .int (zI 0), .int (zI 0)])) :: (([]) ++ plW ce a1 r2)) rfl ?_
  refine Z.aload_n hX dX0_init_20 rfl rfl ?_
  refine Z.iconst hX dX0_init_21 ?_
  refine Z.putf (ty := tyX0 2) hX 0 0 2 tyX0 dX0_init_22 rfl rfl inX0 tyX0_ok nmX0 (by decide) fl_X0_20 rfl rfl (by decide +kernel) rfl rfl (Nat.le_of_ble_eq_true rfl) ?_
  refine Z.toW (w' := (h0, .inr (0, [.ref a1, .int (zI 0), .int (zI 0), .int (zI 0)])) :: (([]) ++ plW ce a1 r2)) rfl ?_
  refine Z.aload_n hX dX0_init_25 rfl rfl ?_
  refine Z.iconst hX dX0_init_26 ?_
  refine Z.putf (ty := tyX0 3) hX 0 0 3 tyX0 dX0_init_27 rfl rfl inX0 tyX0_ok nmX0 (by decide) fl_X0_24 rfl rfl (by decide +kernel) rfl rfl (Nat.le_of_ble_eq_true rfl) ?_
  refine Z.toW (w' := (h0, .inr (0, [.ref a1, .int (zI 0), .int (zI 0), .int (zI 0)])) :: (([]) ++ plW ce a1 r2)) rfl ?_
  exact hR _ _ _ dX0_init_30 ⟨a1, r2, rfl⟩
theorem dX4_init_0 : decode cX4_init 0 = .ok (.aload_n 0, 1) := by decide +kernel
theorem dX4_init_1 : decode cX4_init 1 = .ok (.invokespecial 1, 3) := by decide +kernel
theorem dX4_init_4 : decode cX4_init 4 = .ok (.aload_n 0, 1) := by decide +kernel
theorem dX4_init_5 : decode cX4_init 5 = .ok (.new 7, 3) := by decide +kernel
theorem dX4_init_8 : decode cX4_init 8 = .ok (.dup, 1) := by decide +kernel
theorem dX4_init_9 : decode cX4_init 9 = .ok (.invokespecial 9, 3) := by decide +kernel
theorem dX4_init_12 : decode cX4_init 12 = .ok (.putfield 10, 3) := by decide +kernel
theorem dX4_init_15 : decode cX4_init 15 = .ok (.aload_n 0, 1) := by decide +kernel
theorem dX4_init_16 : decode cX4_init 16 = .ok (.new 7, 3) := by decide +kernel
theorem dX4_init_19 : decode cX4_init 19 = .ok (.dup, 1) := by decide +kernel
theorem dX4_init_20 : decode cX4_init 20 = .ok (.invokespecial 9, 3) := by decide +kernel
theorem dX4_init_23 : decode cX4_init 23 = .ok (.putfield 16, 3) := by decide +kernel
theorem dX4_init_26 : decode cX4_init 26 = .ok (.aload_n 0, 1) := by decide +kernel
theorem dX4_init_27 : decode cX4_init 27 = .ok (.new 7, 3) := by decide +kernel
theorem dX4_init_30 : decode cX4_init 30 = .ok (.dup, 1) := by decide +kernel
theorem dX4_init_31 : decode cX4_init 31 = .ok (.invokespecial 9, 3) := by decide +kernel
theorem dX4_init_34 : decode cX4_init 34 = .ok (.putfield 19, 3) := by decide +kernel
theorem dX4_init_37 : decode cX4_init 37 = .ok (.aload_n 0, 1) := by decide +kernel
theorem dX4_init_38 : decode cX4_init 38 = .ok (.new 7, 3) := by decide +kernel
theorem dX4_init_41 : decode cX4_init 41 = .ok (.dup, 1) := by decide +kernel
theorem dX4_init_42 : decode cX4_init 42 = .ok (.invokespecial 9, 3) := by decide +kernel
theorem dX4_init_45 : decode cX4_init 45 = .ok (.putfield 22, 3) := by decide +kernel
theorem dX4_init_48 : decode cX4_init 48 = .ok (.return_, 1) := by decide +kernel
set_option maxHeartbeats 4000000 in
set_option maxRecDepth 100000 in
theorem ct_X4_init (l : Launch) (D : va_G) (ce : Nat → ClassId) (h0 : Nat) : Ct l yX4_init cX4_init 1 none { frames := 2, cells := 8, slots := 120, locals := 32 } 8 120 D (TY ce) [.ref h0] [(h0, .inr (4, [.null, .null, .null, .null]))] (QV D (TY ce) (fun w1 => ∃ b : Nat → Nat, ∃ r : Nat → Nat, w1 = rfW ce h0 b r)) := by
  refine Ct.ofV (by decide) (Nat.le_of_ble_eq_true rfl) ?_
  intro p e s m args below meth c A Q hX hnm hR
  refine Z.pick (lv' := [(0, .ref h0)]) [0] rfl ?_
  refine Z.aload_n hX dX4_init_0 rfl rfl ?_
  refine Z.objI hX dX4_init_1 ml_X4_1 im_obj mc_obj (by decide) (by decide) ?_
  refine Z.aload_n hX dX4_init_4 rfl rfl ?_
  refine Z.newO (fs := [.null, .int (zI 0)]) hX 3 tyX3 dX4_init_5 rfl inX3 tyX3_ok cl_X4_7 ins_X3 ini_X3 df_X3 (Nat.le_of_ble_eq_true rfl) (Nat.le_of_ble_eq_true rfl) ?_
  intro a1
  refine Z.dup hX dX4_init_8 rfl ?_
  refine Z.initN (wr := (h0, .inr (4, [.null, .null, .null, .null])) :: ([])) hX (ct_X3_init l D ce a1) mc_X3_init ns_X4_9 rfl im_X3_init ini_X3 nd_X3_init ⟨Nat.le_of_ble_eq_true rfl, Nat.le_of_ble_eq_true rfl⟩ ⟨rfl, rfl⟩ ⟨Nat.le_of_ble_eq_true rfl, Nat.le_of_ble_eq_true rfl⟩ (Nat.le_of_ble_eq_true rfl) dX4_init_9 ?_
  rintro w1 ⟨r2, hw_⟩
  subst hw_
  refine Z.toW (w' := (h0, .inr (4, [.null, .null, .null, .null])) :: (([]) ++ plW ce a1 r2)) rfl ?_
  refine Z.putF (ty := tyX4 0) hX 4 0 0 tyX4 hnm dX4_init_12 rfl rfl inX4 tyX4_ok nmX4 (by decide) fl_X4_10 rfl rfl rfl (by decide +kernel) rfl rfl (Nat.le_of_ble_eq_true rfl) ?_
  refine Z.toW (w' := (h0, .inr (4, [.ref a1, .null, .null, .null])) :: (([]) ++ plW ce a1 r2)) rfl ?_
  refine Z.aload_n hX dX4_init_15 rfl rfl ?_
  refine Z.newO (fs := [.null, .int (zI 0)]) hX 3 tyX3 dX4_init_16 rfl inX3 tyX3_ok cl_X4_7 ins_X3 ini_X3 df_X3 (Nat.le_of_ble_eq_true rfl) (Nat.le_of_ble_eq_true rfl) ?_
  intro a3
  refine Z.dup hX dX4_init_19 rfl ?_
  refine Z.initN (wr := (h0, .inr (4, [.ref a1, .null, .null, .null])) :: (([]) ++ plW ce a1 r2)) hX (ct_X3_init l D ce a3) mc_X3_init ns_X4_9 rfl im_X3_init ini_X3 nd_X3_init ⟨Nat.le_of_ble_eq_true rfl, Nat.le_of_ble_eq_true rfl⟩ ⟨rfl, rfl⟩ ⟨Nat.le_of_ble_eq_true rfl, Nat.le_of_ble_eq_true rfl⟩ (Nat.le_of_ble_eq_true rfl) dX4_init_20 ?_
  rintro w1 ⟨r4, hw_⟩
  subst hw_
  refine Z.toW (w' := (h0, .inr (4, [.ref a1, .null, .null, .null])) :: ((([]) ++ plW ce a1 r2) ++ plW ce a3 r4)) rfl ?_
  refine Z.putF (ty := tyX4 1) hX 4 0 1 tyX4 hnm dX4_init_23 rfl rfl inX4 tyX4_ok nmX4 (by decide) fl_X4_16 rfl rfl rfl (by decide +kernel) rfl rfl (Nat.le_of_ble_eq_true rfl) ?_
  refine Z.toW (w' := (h0, .inr (4, [.ref a1, .ref a3, .null, .null])) :: ((([]) ++ plW ce a1 r2) ++ plW ce a3 r4)) rfl ?_
  refine Z.aload_n hX dX4_init_26 rfl rfl ?_
  refine Z.newO (fs := [.null, .int (zI 0)]) hX 3 tyX3 dX4_init_27 rfl inX3 tyX3_ok cl_X4_7 ins_X3 ini_X3 df_X3 (Nat.le_of_ble_eq_true rfl) (Nat.le_of_ble_eq_true rfl) ?_
  intro a5
  refine Z.dup hX dX4_init_30 rfl ?_
  refine Z.initN (wr := (h0, .inr (4, [.ref a1, .ref a3, .null, .null])) :: ((([]) ++ plW ce a1 r2) ++ plW ce a3 r4)) hX (ct_X3_init l D ce a5) mc_X3_init ns_X4_9 rfl im_X3_init ini_X3 nd_X3_init ⟨Nat.le_of_ble_eq_true rfl, Nat.le_of_ble_eq_true rfl⟩ ⟨rfl, rfl⟩ ⟨Nat.le_of_ble_eq_true rfl, Nat.le_of_ble_eq_true rfl⟩ (Nat.le_of_ble_eq_true rfl) dX4_init_31 ?_
  rintro w1 ⟨r6, hw_⟩
  subst hw_
  refine Z.toW (w' := (h0, .inr (4, [.ref a1, .ref a3, .null, .null])) :: (((([]) ++ plW ce a1 r2) ++ plW ce a3 r4) ++ plW ce a5 r6)) rfl ?_
  refine Z.putF (ty := tyX4 2) hX 4 0 2 tyX4 hnm dX4_init_34 rfl rfl inX4 tyX4_ok nmX4 (by decide) fl_X4_19 rfl rfl rfl (by decide +kernel) rfl rfl (Nat.le_of_ble_eq_true rfl) ?_
  refine Z.toW (w' := (h0, .inr (4, [.ref a1, .ref a3, .ref a5, .null])) :: (((([]) ++ plW ce a1 r2) ++ plW ce a3 r4) ++ plW ce a5 r6)) rfl ?_
  refine Z.aload_n hX dX4_init_37 rfl rfl ?_
  refine Z.newO (fs := [.null, .int (zI 0)]) hX 3 tyX3 dX4_init_38 rfl inX3 tyX3_ok cl_X4_7 ins_X3 ini_X3 df_X3 (Nat.le_of_ble_eq_true rfl) (Nat.le_of_ble_eq_true rfl) ?_
  intro a7
  refine Z.dup hX dX4_init_41 rfl ?_
  refine Z.initN (wr := (h0, .inr (4, [.ref a1, .ref a3, .ref a5, .null])) :: (((([]) ++ plW ce a1 r2) ++ plW ce a3 r4) ++ plW ce a5 r6)) hX (ct_X3_init l D ce a7) mc_X3_init ns_X4_9 rfl im_X3_init ini_X3 nd_X3_init ⟨Nat.le_of_ble_eq_true rfl, Nat.le_of_ble_eq_true rfl⟩ ⟨rfl, rfl⟩ ⟨Nat.le_of_ble_eq_true rfl, Nat.le_of_ble_eq_true rfl⟩ (Nat.le_of_ble_eq_true rfl) dX4_init_42 ?_
  rintro w1 ⟨r8, hw_⟩
  subst hw_
  refine Z.toW (w' := (h0, .inr (4, [.ref a1, .ref a3, .ref a5, .null])) :: ((((([]) ++ plW ce a1 r2) ++ plW ce a3 r4) ++ plW ce a5 r6) ++ plW ce a7 r8)) rfl ?_
  refine Z.putF (ty := tyX4 3) hX 4 0 3 tyX4 hnm dX4_init_45 rfl rfl inX4 tyX4_ok nmX4 (by decide) fl_X4_22 rfl rfl rfl (by decide +kernel) rfl rfl (Nat.le_of_ble_eq_true rfl) ?_
  refine Z.toW (w' := (h0, .inr (4, [.ref a1, .ref a3, .ref a5, .ref a7])) :: ((((([]) ++ plW ce a1 r2) ++ plW ce a3 r4) ++ plW ce a5 r6) ++ plW ce a7 r8)) rfl ?_
  exact hR _ _ _ dX4_init_48 ⟨fun k => ([a1, a3, a5, a7] : List Nat).getD k 0, fun k => ([r2, r4, r6, r8] : List Nat).getD k 0, rfl⟩
