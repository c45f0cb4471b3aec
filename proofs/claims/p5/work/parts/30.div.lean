theorem dX1_swap_0 : decode cX1_swap 0 = .ok (.aload_n 0, 1) := by decide +kernel
theorem dX1_swap_1 : decode cX1_swap 1 = .ok (.getfield 9, 3) := by decide +kernel
theorem dX1_swap_4 : decode cX1_swap 4 = .ok (.iconst 0, 1) := by decide +kernel
theorem dX1_swap_5 : decode cX1_swap 5 = .ok (.aload_n 0, 1) := by decide +kernel
theorem dX1_swap_6 : decode cX1_swap 6 = .ok (.getfield 18, 3) := by decide +kernel
theorem dX1_swap_9 : decode cX1_swap 9 = .ok (.iconst 0, 1) := by decide +kernel
theorem dX1_swap_10 : decode cX1_swap 10 = .ok (.iconst 5, 1) := by decide +kernel
theorem dX1_swap_11 : decode cX1_swap 11 = .ok (.invokestatic 33, 3) := by decide +kernel
theorem dX1_swap_14 : decode cX1_swap 14 = .ok (.aload_n 0, 1) := by decide +kernel
theorem dX1_swap_15 : decode cX1_swap 15 = .ok (.getfield 15, 3) := by decide +kernel
theorem dX1_swap_18 : decode cX1_swap 18 = .ok (.iconst 0, 1) := by decide +kernel
theorem dX1_swap_19 : decode cX1_swap 19 = .ok (.aload_n 0, 1) := by decide +kernel
theorem dX1_swap_20 : decode cX1_swap 20 = .ok (.getfield 9, 3) := by decide +kernel
theorem dX1_swap_23 : decode cX1_swap 23 = .ok (.iconst 0, 1) := by decide +kernel
theorem dX1_swap_24 : decode cX1_swap 24 = .ok (.iconst 5, 1) := by decide +kernel
theorem dX1_swap_25 : decode cX1_swap 25 = .ok (.invokestatic 33, 3) := by decide +kernel
theorem dX1_swap_28 : decode cX1_swap 28 = .ok (.aload_n 0, 1) := by decide +kernel
theorem dX1_swap_29 : decode cX1_swap 29 = .ok (.getfield 18, 3) := by decide +kernel
theorem dX1_swap_32 : decode cX1_swap 32 = .ok (.iconst 0, 1) := by decide +kernel
theorem dX1_swap_33 : decode cX1_swap 33 = .ok (.aload_n 0, 1) := by decide +kernel
theorem dX1_swap_34 : decode cX1_swap 34 = .ok (.getfield 15, 3) := by decide +kernel
theorem dX1_swap_37 : decode cX1_swap 37 = .ok (.iconst 0, 1) := by decide +kernel
theorem dX1_swap_38 : decode cX1_swap 38 = .ok (.iconst 5, 1) := by decide +kernel
theorem dX1_swap_39 : decode cX1_swap 39 = .ok (.invokestatic 33, 3) := by decide +kernel
theorem dX1_swap_42 : decode cX1_swap 42 = .ok (.return_, 1) := by decide +kernel
set_option maxHeartbeats 4000000 in
set_option maxRecDepth 100000 in
theorem ct_X1_swap (l : Launch) (D : va_G) (ce : Nat → ClassId) (h pl ar : Nat → Nat) (G : Nat → Int) (L : Nat → Nat → Int64) (B : Nat → Int) (J : Nat → Nat → Int64)  : Ct l yX1_swap cX1_swap 1 none { frames := 1, cells := 0, slots := 0, locals := 40 } 0 0 D (TY ce) [.ref (h 3)] (cW ce h pl ar G L B J) (QV D (TY ce) (fun w1 => ∃ L2 : Nat → Nat → Int64, w1 = cW ce h pl ar G L2 B J ∧ (∀ k, k ≠ 6 → k ≠ 7 → k ≠ 8 → L2 k = L k))) := by
  refine Ct.ofV (by decide) (Nat.le_of_ble_eq_true rfl) ?_
  intro p e s m args below meth c A Q hX hnm hR
  refine Z.pick (lv' := [(0, .ref (h 3))]) [0] rfl ?_
  refine Z.aload_n hX dX1_swap_0 rfl rfl ?_
  refine Z.getf hX 1 3 0 dX1_swap_1 rfl rfl inX1 (by decide) fl_X1_9 rfl rfl ?_
  refine Z.iconst hX dX1_swap_4 ?_
  refine Z.aload_n hX dX1_swap_5 rfl rfl ?_
  refine Z.getf hX 1 3 2 dX1_swap_6 rfl rfl inX1 (by decide) fl_X1_18 rfl rfl ?_
  refine Z.iconst hX dX1_swap_9 ?_
  refine Z.iconst hX dX1_swap_10 ?_
  refine Z.copyA hX 11 13 1 dX1_swap_11 rfl rfl rfl rfl (by decide) ml_X1_33 (by decide) (Nat.le_of_ble_eq_true rfl) ?_
  obtain ⟨L1, eL1⟩ : ∃ J' : Nat → Nat → Int64, J' = va_up L 8 (va_cpy (L 6) (L 8) 0 0 5) := ⟨_, rfl⟩
  refine Z.toW (w' := cW ce h pl ar G L1 B J) (by rw [eL1]; rfl) ?_
  have gL1 : L1 8 = va_cpy (L 6) (L 8) 0 0 5 := by rw [eL1]; exact up_eq
  have fL1 : ∀ j_, j_ ≠ 8 → L1 j_ = L j_ := fun j_ hj_ => by rw [eL1]; exact up_ne hj_
  refine Z.aload_n hX dX1_swap_14 rfl rfl ?_
  refine Z.getf hX 1 3 1 dX1_swap_15 rfl rfl inX1 (by decide) fl_X1_15 rfl rfl ?_
  refine Z.iconst hX dX1_swap_18 ?_
  refine Z.aload_n hX dX1_swap_19 rfl rfl ?_
  refine Z.getf hX 1 3 0 dX1_swap_20 rfl rfl inX1 (by decide) fl_X1_9 rfl rfl ?_
  refine Z.iconst hX dX1_swap_23 ?_
  refine Z.iconst hX dX1_swap_24 ?_
  refine Z.copyA hX 12 11 1 dX1_swap_25 rfl rfl rfl rfl (by decide) ml_X1_33 (by decide) (Nat.le_of_ble_eq_true rfl) ?_
  obtain ⟨L2, eL2⟩ : ∃ J' : Nat → Nat → Int64, J' = va_up L1 6 (va_cpy (L1 7) (L1 6) 0 0 5) := ⟨_, rfl⟩
  refine Z.toW (w' := cW ce h pl ar G L2 B J) (by rw [eL2]; rfl) ?_
  have gL2 : L2 6 = va_cpy (L1 7) (L1 6) 0 0 5 := by rw [eL2]; exact up_eq
  have fL2 : ∀ j_, j_ ≠ 6 → L2 j_ = L1 j_ := fun j_ hj_ => by rw [eL2]; exact up_ne hj_
  refine Z.aload_n hX dX1_swap_28 rfl rfl ?_
  refine Z.getf hX 1 3 2 dX1_swap_29 rfl rfl inX1 (by decide) fl_X1_18 rfl rfl ?_
  refine Z.iconst hX dX1_swap_32 ?_
  refine Z.aload_n hX dX1_swap_33 rfl rfl ?_
  refine Z.getf hX 1 3 1 dX1_swap_34 rfl rfl inX1 (by decide) fl_X1_15 rfl rfl ?_
  refine Z.iconst hX dX1_swap_37 ?_
  refine Z.iconst hX dX1_swap_38 ?_
  refine Z.copyA hX 13 12 1 dX1_swap_39 rfl rfl rfl rfl (by decide) ml_X1_33 (by decide) (Nat.le_of_ble_eq_true rfl) ?_
  obtain ⟨L3, eL3⟩ : ∃ J' : Nat → Nat → Int64, J' = va_up L2 7 (va_cpy (L2 8) (L2 7) 0 0 5) := ⟨_, rfl⟩
  refine Z.toW (w' := cW ce h pl ar G L3 B J) (by rw [eL3]; rfl) ?_
  have gL3 : L3 7 = va_cpy (L2 8) (L2 7) 0 0 5 := by rw [eL3]; exact up_eq
  have fL3 : ∀ j_, j_ ≠ 7 → L3 j_ = L2 j_ := fun j_ hj_ => by rw [eL3]; exact up_ne hj_
  exact hR _ _ _ dX1_swap_42 ⟨L3, rfl, (fun j_ h_6 h_7 h_8 => ((fL3 j_ h_7).trans ((fL2 j_ h_6).trans ((fL1 j_ h_8).trans rfl))))⟩

theorem dX1_lowerShared_0 : decode cX1_lowerShared 0 = .ok (.aload_n 0, 1) := by decide +kernel
theorem dX1_lowerShared_1 : decode cX1_lowerShared 1 = .ok (.getfield 9, 3) := by decide +kernel
theorem dX1_lowerShared_4 : decode cX1_lowerShared 4 = .ok (.iload_n 1, 1) := by decide +kernel
theorem dX1_lowerShared_5 : decode cX1_lowerShared 5 = .ok (.laload, 1) := by decide +kernel
theorem dX1_lowerShared_6 : decode cX1_lowerShared 6 = .ok (.aload_n 0, 1) := by decide +kernel
theorem dX1_lowerShared_7 : decode cX1_lowerShared 7 = .ok (.getfield 15, 3) := by decide +kernel
theorem dX1_lowerShared_10 : decode cX1_lowerShared 10 = .ok (.iload_n 2, 1) := by decide +kernel
theorem dX1_lowerShared_11 : decode cX1_lowerShared 11 = .ok (.laload, 1) := by decide +kernel
theorem dX1_lowerShared_12 : decode cX1_lowerShared 12 = .ok (.invokestatic 60, 3) := by decide +kernel
theorem dX1_lowerShared_15 : decode cX1_lowerShared 15 = .ok (.lstore_n 3, 1) := by decide +kernel
theorem dX1_lowerShared_16 : decode cX1_lowerShared 16 = .ok (.lload_n 3, 1) := by decide +kernel
theorem dX1_lowerShared_17 : decode cX1_lowerShared 17 = .ok (.lconst 0, 1) := by decide +kernel
theorem dX1_lowerShared_18 : decode cX1_lowerShared 18 = .ok (.lcmp, 1) := by decide +kernel
theorem dX1_lowerShared_19 : decode cX1_lowerShared 19 = .ok (.ifCond .ne 4, 3) := by decide +kernel
theorem dX1_lowerShared_22 : decode cX1_lowerShared 22 = .ok (.return_, 1) := by decide +kernel
theorem dX1_lowerShared_23 : decode cX1_lowerShared 23 = .ok (.aload_n 0, 1) := by decide +kernel
theorem dX1_lowerShared_24 : decode cX1_lowerShared 24 = .ok (.getfield 15, 3) := by decide +kernel
theorem dX1_lowerShared_27 : decode cX1_lowerShared 27 = .ok (.iload_n 2, 1) := by decide +kernel
theorem dX1_lowerShared_28 : decode cX1_lowerShared 28 = .ok (.laload, 1) := by decide +kernel
theorem dX1_lowerShared_29 : decode cX1_lowerShared 29 = .ok (.lload_n 3, 1) := by decide +kernel
theorem dX1_lowerShared_30 : decode cX1_lowerShared 30 = .ok (.ldiv, 1) := by decide +kernel
theorem dX1_lowerShared_31 : decode cX1_lowerShared 31 = .ok (.lstore 5, 2) := by decide +kernel
theorem dX1_lowerShared_33 : decode cX1_lowerShared 33 = .ok (.aload_n 0, 1) := by decide +kernel
theorem dX1_lowerShared_34 : decode cX1_lowerShared 34 = .ok (.getfield 9, 3) := by decide +kernel
theorem dX1_lowerShared_37 : decode cX1_lowerShared 37 = .ok (.iload_n 1, 1) := by decide +kernel
theorem dX1_lowerShared_38 : decode cX1_lowerShared 38 = .ok (.laload, 1) := by decide +kernel
theorem dX1_lowerShared_39 : decode cX1_lowerShared 39 = .ok (.lload_n 3, 1) := by decide +kernel
theorem dX1_lowerShared_40 : decode cX1_lowerShared 40 = .ok (.ldiv, 1) := by decide +kernel
theorem dX1_lowerShared_41 : decode cX1_lowerShared 41 = .ok (.lstore 7, 2) := by decide +kernel
theorem dX1_lowerShared_43 : decode cX1_lowerShared 43 = .ok (.iload_n 1, 1) := by decide +kernel
theorem dX1_lowerShared_44 : decode cX1_lowerShared 44 = .ok (.iload_n 2, 1) := by decide +kernel
theorem dX1_lowerShared_45 : decode cX1_lowerShared 45 = .ok (.isub, 1) := by decide +kernel
theorem dX1_lowerShared_46 : decode cX1_lowerShared 46 = .ok (.istore 9, 2) := by decide +kernel
theorem dX1_lowerShared_48 : decode cX1_lowerShared 48 = .ok (.iconst 0, 1) := by decide +kernel
theorem dX1_lowerShared_49 : decode cX1_lowerShared 49 = .ok (.istore 10, 2) := by decide +kernel
theorem dX1_lowerShared_51 : decode cX1_lowerShared 51 = .ok (.iload 10, 2) := by decide +kernel
theorem dX1_lowerShared_53 : decode cX1_lowerShared 53 = .ok (.iload_n 1, 1) := by decide +kernel
theorem dX1_lowerShared_54 : decode cX1_lowerShared 54 = .ok (.if_icmp .gt 55, 3) := by decide +kernel
theorem dX1_lowerShared_57 : decode cX1_lowerShared 57 = .ok (.iload 10, 2) := by decide +kernel
theorem dX1_lowerShared_59 : decode cX1_lowerShared 59 = .ok (.iload 9, 2) := by decide +kernel
theorem dX1_lowerShared_61 : decode cX1_lowerShared 61 = .ok (.if_icmp .ge 7, 3) := by decide +kernel
theorem dX1_lowerShared_64 : decode cX1_lowerShared 64 = .ok (.lconst 0, 1) := by decide +kernel
theorem dX1_lowerShared_65 : decode cX1_lowerShared 65 = .ok (.goto 16, 3) := by decide +kernel
theorem dX1_lowerShared_68 : decode cX1_lowerShared 68 = .ok (.lload 7, 2) := by decide +kernel
theorem dX1_lowerShared_70 : decode cX1_lowerShared 70 = .ok (.aload_n 0, 1) := by decide +kernel
theorem dX1_lowerShared_71 : decode cX1_lowerShared 71 = .ok (.getfield 15, 3) := by decide +kernel
theorem dX1_lowerShared_74 : decode cX1_lowerShared 74 = .ok (.iload 10, 2) := by decide +kernel
theorem dX1_lowerShared_76 : decode cX1_lowerShared 76 = .ok (.iload 9, 2) := by decide +kernel
theorem dX1_lowerShared_78 : decode cX1_lowerShared 78 = .ok (.isub, 1) := by decide +kernel
theorem dX1_lowerShared_79 : decode cX1_lowerShared 79 = .ok (.laload, 1) := by decide +kernel
theorem dX1_lowerShared_80 : decode cX1_lowerShared 80 = .ok (.lmul, 1) := by decide +kernel
theorem dX1_lowerShared_81 : decode cX1_lowerShared 81 = .ok (.lstore 11, 2) := by decide +kernel
theorem dX1_lowerShared_83 : decode cX1_lowerShared 83 = .ok (.aload_n 0, 1) := by decide +kernel
theorem dX1_lowerShared_84 : decode cX1_lowerShared 84 = .ok (.getfield 9, 3) := by decide +kernel
theorem dX1_lowerShared_87 : decode cX1_lowerShared 87 = .ok (.iload 10, 2) := by decide +kernel
theorem dX1_lowerShared_89 : decode cX1_lowerShared 89 = .ok (.lload 5, 2) := by decide +kernel
theorem dX1_lowerShared_91 : decode cX1_lowerShared 91 = .ok (.aload_n 0, 1) := by decide +kernel
theorem dX1_lowerShared_92 : decode cX1_lowerShared 92 = .ok (.getfield 9, 3) := by decide +kernel
theorem dX1_lowerShared_95 : decode cX1_lowerShared 95 = .ok (.iload 10, 2) := by decide +kernel
theorem dX1_lowerShared_97 : decode cX1_lowerShared 97 = .ok (.laload, 1) := by decide +kernel
theorem dX1_lowerShared_98 : decode cX1_lowerShared 98 = .ok (.lmul, 1) := by decide +kernel
theorem dX1_lowerShared_99 : decode cX1_lowerShared 99 = .ok (.lload 11, 2) := by decide +kernel
theorem dX1_lowerShared_101 : decode cX1_lowerShared 101 = .ok (.lsub, 1) := by decide +kernel
theorem dX1_lowerShared_102 : decode cX1_lowerShared 102 = .ok (.lastore, 1) := by decide +kernel
theorem dX1_lowerShared_103 : decode cX1_lowerShared 103 = .ok (.iinc 10 1, 3) := by decide +kernel
theorem dX1_lowerShared_106 : decode cX1_lowerShared 106 = .ok (.goto (-55), 3) := by decide +kernel
theorem dX1_lowerShared_109 : decode cX1_lowerShared 109 = .ok (.return_, 1) := by decide +kernel
set_option maxHeartbeats 4000000 in
set_option maxRecDepth 100000 in
theorem ct_X1_lowerShared (l : Launch) (D : va_G) (ce : Nat → ClassId) (h pl ar : Nat → Nat) (G : Nat → Int) (L : Nat → Nat → Int64) (B : Nat → Int) (J : Nat → Nat → Int64) (st_ ot : Int) (hs : 0 ≤ ot ∧ ot ≤ st_ ∧ st_ ≤ 4) : Ct l yX1_lowerShared cX1_lowerShared 13 none { frames := 1, cells := 0, slots := 0, locals := 30 } 0 0 D (TY ce) [.ref (h 3), .int (zI st_), .int (zI ot)] (cW ce h pl ar G L B J) (QV D (TY ce) (fun w1 => ∃ L2 : Nat → Nat → Int64, w1 = cW ce h pl ar G L2 B J ∧ (∀ k, k ≠ 6 → L2 k = L k))) := by
  refine Ct.ofV (by decide) (Nat.le_of_ble_eq_true rfl) ?_
  intro p e s m args below meth c A Q hX hnm hR
  refine Z.pick (lv' := [(0, .ref (h 3)), (1, .int (zI st_)), (2, .int (zI ot))]) [0, 1, 2] rfl ?_
  refine Z.aload_n hX dX1_lowerShared_0 rfl rfl ?_
  refine Z.getf hX 1 3 0 dX1_lowerShared_1 rfl rfl inX1 (by decide) fl_X1_9 rfl rfl ?_
  refine Z.iload_n hX dX1_lowerShared_4 rfl rfl ?_
  refine Z.laload hX 11 1 dX1_lowerShared_5 rfl rfl (by omega) (by omega) (by decide) ?_
  refine Z.aload_n hX dX1_lowerShared_6 rfl rfl ?_
  refine Z.getf hX 1 3 1 dX1_lowerShared_7 rfl rfl inX1 (by decide) fl_X1_15 rfl rfl ?_
  refine Z.iload_n hX dX1_lowerShared_10 rfl rfl ?_
  refine Z.laload hX 12 1 dX1_lowerShared_11 rfl rfl (by omega) (by omega) (by decide) ?_
  refine Z.callSNl (As := [.long (L 6 (st_ : Int).toNat), .long (L 7 (ot : Int).toNat)]) (rest := []) hX (ct_X6_commonOf l D ce (L 6 (st_ : Int).toNat) (L 7 (ot : Int).toNat) ) mc_X6_commonOf ns_X1_60 st_X6_commonOf ini_X6 nd_X6_commonOf ⟨Nat.le_of_ble_eq_true rfl, Nat.le_of_ble_eq_true rfl⟩ ⟨rfl, rfl⟩ ⟨Nat.le_refl _, Nat.le_refl _⟩ rfl (Nat.le_of_ble_eq_true rfl) dX1_lowerShared_12 ?_
  rintro cm w1 ⟨r02, hr_, hw_, hq3⟩
  subst hr_
  refine ⟨hw_, ?_⟩
  refine Z.lstore_n (lv' := [(3, .long cm), (0, .ref (h 3)), (1, .int (zI st_)), (2, .int (zI ot))]) hX dX1_lowerShared_15 rfl (by decide) rfl ?_
  refine Z.lload_n hX dX1_lowerShared_16 rfl rfl ?_
  refine Z.lconst (v := 0) hX dX1_lowerShared_17 rfl ?_
  refine Z.lcmp_ne hX 23 dX1_lowerShared_18 dX1_lowerShared_19 (by decide) ?_ ?_
  · intro c4
    refine Z.aload_n hX dX1_lowerShared_23 rfl rfl ?_
    refine Z.getf hX 1 3 1 dX1_lowerShared_24 rfl rfl inX1 (by decide) fl_X1_15 rfl rfl ?_
    refine Z.iload_n hX dX1_lowerShared_27 rfl rfl ?_
    refine Z.laload hX 12 1 dX1_lowerShared_28 rfl rfl (by omega) (by omega) (by decide) ?_
    refine Z.lload_n hX dX1_lowerShared_29 rfl rfl ?_
    refine Z.ldiv hX dX1_lowerShared_30 (by assumption) ?_
    refine Z.lstore (lv' := [(5, .long ((L 7 (ot : Int).toNat) / cm)), (3, .long cm), (0, .ref (h 3)), (1, .int (zI st_)), (2, .int (zI ot))]) hX dX1_lowerShared_31 (by decide) rfl ?_
    obtain ⟨sf, esf⟩ : ∃ x : Int64, x = (L 7 (ot : Int).toNat) / cm := ⟨_, rfl⟩
    rw [← esf]
    refine Z.aload_n hX dX1_lowerShared_33 rfl rfl ?_
    refine Z.getf hX 1 3 0 dX1_lowerShared_34 rfl rfl inX1 (by decide) fl_X1_9 rfl rfl ?_
    refine Z.iload_n hX dX1_lowerShared_37 rfl rfl ?_
    refine Z.laload hX 11 1 dX1_lowerShared_38 rfl rfl (by omega) (by omega) (by decide) ?_
    refine Z.lload_n hX dX1_lowerShared_39 rfl rfl ?_
    refine Z.ldiv hX dX1_lowerShared_40 (by assumption) ?_
    refine Z.lstore (lv' := [(7, .long ((L 6 (st_ : Int).toNat) / cm)), (5, .long sf), (3, .long cm), (0, .ref (h 3)), (1, .int (zI st_)), (2, .int (zI ot))]) hX dX1_lowerShared_41 (by decide) rfl ?_
    obtain ⟨of, eof⟩ : ∃ x : Int64, x = (L 6 (st_ : Int).toNat) / cm := ⟨_, rfl⟩
    rw [← eof]
    refine Z.iload_n hX dX1_lowerShared_43 rfl rfl ?_
    refine Z.iload_n hX dX1_lowerShared_44 rfl rfl ?_
    refine Z.isub hX dX1_lowerShared_45 ?_
    refine Z.istore (lv' := [(9, .int (zI (st_ - ot))), (7, .long of), (5, .long sf), (3, .long cm), (0, .ref (h 3)), (1, .int (zI st_)), (2, .int (zI ot))]) hX dX1_lowerShared_46 (by decide) rfl ?_
    refine Z.iconst hX dX1_lowerShared_48 ?_
    refine Z.istore (lv' := [(10, .int (zI 0)), (9, .int (zI (st_ - ot))), (7, .long of), (5, .long sf), (3, .long cm), (0, .ref (h 3)), (1, .int (zI st_)), (2, .int (zI ot))]) hX dX1_lowerShared_49 (by decide) rfl ?_
    have key_51 : ∀ (N : Nat), ∀ (i : Int) (M : Nat → Nat → Int64), (st_ + 1 - i).toNat < N → (hi : 0 ≤ i ∧ i ≤ st_ + 1) → (hM : ∀ k, k ≠ 6 → M k = L k) → Z p l e { frames := 1, cells := 0, slots := 0, locals := 30 } s m args below meth c D A 13 0 0 Q 51 [(10, .int (zI i)), (9, .int (zI (st_ - ot))), (7, .long of), (5, .long sf), (2, .int (zI ot)), (1, .int (zI st_)), (0, .ref (h 3))] [] (cW ce h pl ar G M B J) := by
      intro N
      induction N with
      | zero => intro i M hm; exact absurd hm (Nat.not_lt_zero _)
      | succ N ih_51 =>
        intro i M hm hi hM
        refine Z.iload hX dX1_lowerShared_51 rfl ?_
        refine Z.iload_n hX dX1_lowerShared_53 rfl rfl ?_
        refine Z.icmp_gt hX 109 dX1_lowerShared_54 (by decide) ⟨by omega, by omega⟩ ⟨by omega, by omega⟩ ?_ ?_
        · intro c5
          exact hR _ _ _ dX1_lowerShared_109 ⟨M, rfl, hM⟩
        · intro c5
          refine Z.iload hX dX1_lowerShared_57 rfl ?_
          refine Z.iload hX dX1_lowerShared_59 rfl ?_
          refine Z.icmp_ge hX 68 dX1_lowerShared_61 (by decide) ⟨by omega, by omega⟩ ⟨by omega, by omega⟩ ?_ ?_
          · intro c6
            refine Z.lload hX dX1_lowerShared_68 rfl ?_
            refine Z.aload_n hX dX1_lowerShared_70 rfl rfl ?_
            refine Z.getf hX 1 3 1 dX1_lowerShared_71 rfl rfl inX1 (by decide) fl_X1_15 rfl rfl ?_
            refine Z.iload hX dX1_lowerShared_74 rfl ?_
            refine Z.iload hX dX1_lowerShared_76 rfl ?_
            refine Z.isub hX dX1_lowerShared_78 ?_
            refine Z.laload hX 12 1 dX1_lowerShared_79 rfl rfl (by omega) (by omega) (by decide) ?_
            refine Z.lmul hX dX1_lowerShared_80 ?_
            refine Z.lstore (lv' := [(11, .long (of * (M 7 (i - (st_ - ot) : Int).toNat))), (10, .int (zI i)), (9, .int (zI (st_ - ot))), (7, .long of), (5, .long sf), (2, .int (zI ot)), (1, .int (zI st_)), (0, .ref (h 3))]) hX dX1_lowerShared_81 (by decide) rfl ?_
            refine Z.aload_n hX dX1_lowerShared_83 rfl rfl ?_
            refine Z.getf hX 1 3 0 dX1_lowerShared_84 rfl rfl inX1 (by decide) fl_X1_9 rfl rfl ?_
            refine Z.iload hX dX1_lowerShared_87 rfl ?_
            refine Z.lload hX dX1_lowerShared_89 rfl ?_
            refine Z.aload_n hX dX1_lowerShared_91 rfl rfl ?_
            refine Z.getf hX 1 3 0 dX1_lowerShared_92 rfl rfl inX1 (by decide) fl_X1_9 rfl rfl ?_
            refine Z.iload hX dX1_lowerShared_95 rfl ?_
            refine Z.laload hX 11 1 dX1_lowerShared_97 rfl rfl (by omega) (by omega) (by decide) ?_
            refine Z.lmul hX dX1_lowerShared_98 ?_
            refine Z.lload hX dX1_lowerShared_99 rfl ?_
            refine Z.lsub hX dX1_lowerShared_101 ?_
            refine Z.lastore hX 11 1 dX1_lowerShared_102 rfl rfl (by omega) (by omega) (by decide) ?_
            obtain ⟨L7, eL7⟩ : ∃ J' : Nat → Nat → Int64, J' = va_up M 6 (vp_updL (M 6) (i : Int).toNat ((sf * (M 6 (i : Int).toNat)) - (of * (M 7 (i - (st_ - ot) : Int).toNat)))) := ⟨_, rfl⟩
            refine Z.toW (w' := cW ce h pl ar G L7 B J) (by rw [eL7]; rfl) ?_
            have gL7 : L7 6 = vp_updL (M 6) (i : Int).toNat ((sf * (M 6 (i : Int).toNat)) - (of * (M 7 (i - (st_ - ot) : Int).toNat))) := by rw [eL7]; exact up_eq
            have fL7 : ∀ j_, j_ ≠ 6 → L7 j_ = M j_ := fun j_ hj_ => by rw [eL7]; exact up_ne hj_
            refine Z.iinc (lv' := [(10, .int (zI (i + 1))), (11, .long (of * (M 7 (i - (st_ - ot) : Int).toNat))), (9, .int (zI (st_ - ot))), (7, .long of), (5, .long sf), (2, .int (zI ot)), (1, .int (zI st_)), (0, .ref (h 3))]) hX dX1_lowerShared_103 rfl (by decide) rfl ?_
            refine Z.goto hX 51 dX1_lowerShared_106 (by decide) ?_
            refine Z.pick [0, 2, 3, 4, 5, 6, 7] rfl ?_
            exact ih_51 _ _ (by omega) (by omega) (fun j_ h_6 => ((fL7 j_ h_6).trans (hM j_ h_6)))
          · intro c6
            refine Z.lconst (v := 0) hX dX1_lowerShared_64 rfl ?_
            refine Z.goto hX 81 dX1_lowerShared_65 (by decide) ?_
            refine Z.lstore (lv' := [(11, .long 0), (10, .int (zI i)), (9, .int (zI (st_ - ot))), (7, .long of), (5, .long sf), (2, .int (zI ot)), (1, .int (zI st_)), (0, .ref (h 3))]) hX dX1_lowerShared_81 (by decide) rfl ?_
            refine Z.aload_n hX dX1_lowerShared_83 rfl rfl ?_
            refine Z.getf hX 1 3 0 dX1_lowerShared_84 rfl rfl inX1 (by decide) fl_X1_9 rfl rfl ?_
            refine Z.iload hX dX1_lowerShared_87 rfl ?_
            refine Z.lload hX dX1_lowerShared_89 rfl ?_
            refine Z.aload_n hX dX1_lowerShared_91 rfl rfl ?_
            refine Z.getf hX 1 3 0 dX1_lowerShared_92 rfl rfl inX1 (by decide) fl_X1_9 rfl rfl ?_
            refine Z.iload hX dX1_lowerShared_95 rfl ?_
            refine Z.laload hX 11 1 dX1_lowerShared_97 rfl rfl (by omega) (by omega) (by decide) ?_
            refine Z.lmul hX dX1_lowerShared_98 ?_
            refine Z.lload hX dX1_lowerShared_99 rfl ?_
            refine Z.lsub hX dX1_lowerShared_101 ?_
            refine Z.lastore hX 11 1 dX1_lowerShared_102 rfl rfl (by omega) (by omega) (by decide) ?_
            obtain ⟨L8, eL8⟩ : ∃ J' : Nat → Nat → Int64, J' = va_up M 6 (vp_updL (M 6) (i : Int).toNat ((sf * (M 6 (i : Int).toNat)) - 0)) := ⟨_, rfl⟩
            refine Z.toW (w' := cW ce h pl ar G L8 B J) (by rw [eL8]; rfl) ?_
            have gL8 : L8 6 = vp_updL (M 6) (i : Int).toNat ((sf * (M 6 (i : Int).toNat)) - 0) := by rw [eL8]; exact up_eq
            have fL8 : ∀ j_, j_ ≠ 6 → L8 j_ = M j_ := fun j_ hj_ => by rw [eL8]; exact up_ne hj_
            refine Z.iinc (lv' := [(10, .int (zI (i + 1))), (11, .long 0), (9, .int (zI (st_ - ot))), (7, .long of), (5, .long sf), (2, .int (zI ot)), (1, .int (zI st_)), (0, .ref (h 3))]) hX dX1_lowerShared_103 rfl (by decide) rfl ?_
            refine Z.goto hX 51 dX1_lowerShared_106 (by decide) ?_
            refine Z.pick [0, 2, 3, 4, 5, 6, 7] rfl ?_
            exact ih_51 _ _ (by omega) (by omega) (fun j_ h_6 => ((fL8 j_ h_6).trans (hM j_ h_6)))
    refine Z.pick [0, 1, 2, 3, 7, 6, 5] rfl ?_
    exact key_51 _ _ _ (Nat.lt_succ_self _) (by omega) (fun _ _ => rfl)
  · intro c4
    exact hR _ _ _ dX1_lowerShared_22 ⟨L, rfl, (fun _ _ => rfl)⟩

theorem dX1_makePrimitive_0 : decode cX1_makePrimitive 0 = .ok (.aload_n 1, 1) := by decide +kernel
theorem dX1_makePrimitive_1 : decode cX1_makePrimitive 1 = .ok (.invokestatic 46, 3) := by decide +kernel
theorem dX1_makePrimitive_4 : decode cX1_makePrimitive 4 = .ok (.istore_n 2, 1) := by decide +kernel
theorem dX1_makePrimitive_5 : decode cX1_makePrimitive 5 = .ok (.iload_n 2, 1) := by decide +kernel
theorem dX1_makePrimitive_6 : decode cX1_makePrimitive 6 = .ok (.ifCond .ge 4, 3) := by decide +kernel
theorem dX1_makePrimitive_9 : decode cX1_makePrimitive 9 = .ok (.return_, 1) := by decide +kernel
theorem dX1_makePrimitive_10 : decode cX1_makePrimitive 10 = .ok (.lconst 0, 1) := by decide +kernel
theorem dX1_makePrimitive_11 : decode cX1_makePrimitive 11 = .ok (.lstore_n 3, 1) := by decide +kernel
theorem dX1_makePrimitive_12 : decode cX1_makePrimitive 12 = .ok (.iconst 0, 1) := by decide +kernel
theorem dX1_makePrimitive_13 : decode cX1_makePrimitive 13 = .ok (.istore 5, 2) := by decide +kernel
theorem dX1_makePrimitive_15 : decode cX1_makePrimitive 15 = .ok (.iload 5, 2) := by decide +kernel
theorem dX1_makePrimitive_17 : decode cX1_makePrimitive 17 = .ok (.iload_n 2, 1) := by decide +kernel
theorem dX1_makePrimitive_18 : decode cX1_makePrimitive 18 = .ok (.if_icmp .gt 18, 3) := by decide +kernel
theorem dX1_makePrimitive_21 : decode cX1_makePrimitive 21 = .ok (.lload_n 3, 1) := by decide +kernel
theorem dX1_makePrimitive_22 : decode cX1_makePrimitive 22 = .ok (.aload_n 1, 1) := by decide +kernel
theorem dX1_makePrimitive_23 : decode cX1_makePrimitive 23 = .ok (.iload 5, 2) := by decide +kernel
theorem dX1_makePrimitive_25 : decode cX1_makePrimitive 25 = .ok (.laload, 1) := by decide +kernel
theorem dX1_makePrimitive_26 : decode cX1_makePrimitive 26 = .ok (.invokestatic 60, 3) := by decide +kernel
theorem dX1_makePrimitive_29 : decode cX1_makePrimitive 29 = .ok (.lstore_n 3, 1) := by decide +kernel
theorem dX1_makePrimitive_30 : decode cX1_makePrimitive 30 = .ok (.iinc 5 1, 3) := by decide +kernel
theorem dX1_makePrimitive_33 : decode cX1_makePrimitive 33 = .ok (.goto (-18), 3) := by decide +kernel
theorem dX1_makePrimitive_36 : decode cX1_makePrimitive 36 = .ok (.lload_n 3, 1) := by decide +kernel
theorem dX1_makePrimitive_37 : decode cX1_makePrimitive 37 = .ok (.lconst 0, 1) := by decide +kernel
theorem dX1_makePrimitive_38 : decode cX1_makePrimitive 38 = .ok (.lcmp, 1) := by decide +kernel
theorem dX1_makePrimitive_39 : decode cX1_makePrimitive 39 = .ok (.ifCond .ne 4, 3) := by decide +kernel
theorem dX1_makePrimitive_42 : decode cX1_makePrimitive 42 = .ok (.return_, 1) := by decide +kernel
theorem dX1_makePrimitive_43 : decode cX1_makePrimitive 43 = .ok (.aload_n 1, 1) := by decide +kernel
theorem dX1_makePrimitive_44 : decode cX1_makePrimitive 44 = .ok (.iload_n 2, 1) := by decide +kernel
theorem dX1_makePrimitive_45 : decode cX1_makePrimitive 45 = .ok (.laload, 1) := by decide +kernel
theorem dX1_makePrimitive_46 : decode cX1_makePrimitive 46 = .ok (.lconst 0, 1) := by decide +kernel
theorem dX1_makePrimitive_47 : decode cX1_makePrimitive 47 = .ok (.lcmp, 1) := by decide +kernel
theorem dX1_makePrimitive_48 : decode cX1_makePrimitive 48 = .ok (.ifCond .ge 6, 3) := by decide +kernel
theorem dX1_makePrimitive_51 : decode cX1_makePrimitive 51 = .ok (.lload_n 3, 1) := by decide +kernel
theorem dX1_makePrimitive_52 : decode cX1_makePrimitive 52 = .ok (.lneg, 1) := by decide +kernel
theorem dX1_makePrimitive_53 : decode cX1_makePrimitive 53 = .ok (.lstore_n 3, 1) := by decide +kernel
theorem dX1_makePrimitive_54 : decode cX1_makePrimitive 54 = .ok (.iconst 0, 1) := by decide +kernel
theorem dX1_makePrimitive_55 : decode cX1_makePrimitive 55 = .ok (.istore 5, 2) := by decide +kernel
theorem dX1_makePrimitive_57 : decode cX1_makePrimitive 57 = .ok (.iload 5, 2) := by decide +kernel
theorem dX1_makePrimitive_59 : decode cX1_makePrimitive 59 = .ok (.iload_n 2, 1) := by decide +kernel
theorem dX1_makePrimitive_60 : decode cX1_makePrimitive 60 = .ok (.if_icmp .gt 17, 3) := by decide +kernel
theorem dX1_makePrimitive_63 : decode cX1_makePrimitive 63 = .ok (.aload_n 1, 1) := by decide +kernel
theorem dX1_makePrimitive_64 : decode cX1_makePrimitive 64 = .ok (.iload 5, 2) := by decide +kernel
theorem dX1_makePrimitive_66 : decode cX1_makePrimitive 66 = .ok (.dup2, 1) := by decide +kernel
theorem dX1_makePrimitive_67 : decode cX1_makePrimitive 67 = .ok (.laload, 1) := by decide +kernel
theorem dX1_makePrimitive_68 : decode cX1_makePrimitive 68 = .ok (.lload_n 3, 1) := by decide +kernel
theorem dX1_makePrimitive_69 : decode cX1_makePrimitive 69 = .ok (.ldiv, 1) := by decide +kernel
theorem dX1_makePrimitive_70 : decode cX1_makePrimitive 70 = .ok (.lastore, 1) := by decide +kernel
theorem dX1_makePrimitive_71 : decode cX1_makePrimitive 71 = .ok (.iinc 5 1, 3) := by decide +kernel
theorem dX1_makePrimitive_74 : decode cX1_makePrimitive 74 = .ok (.goto (-17), 3) := by decide +kernel
theorem dX1_makePrimitive_77 : decode cX1_makePrimitive 77 = .ok (.return_, 1) := by decide +kernel
set_option maxHeartbeats 4000000 in
set_option maxRecDepth 100000 in
theorem ct_X1_makePrimitive (l : Launch) (D : va_G) (ce : Nat → ClassId) (h pl ar : Nat → Nat) (G : Nat → Int) (L : Nat → Nat → Int64) (B : Nat → Int) (J : Nat → Nat → Int64)  : Ct l yX1_makePrimitive cX1_makePrimitive 6 none { frames := 1, cells := 0, slots := 0, locals := 30 } 0 0 D (TY ce) [.ref (h 3), .ref (h 11)] (cW ce h pl ar G L B J) (QV D (TY ce) (fun w1 => ∃ L2 : Nat → Nat → Int64, w1 = cW ce h pl ar G L2 B J ∧ (∀ k, k ≠ 6 → L2 k = L k))) := by
  refine Ct.ofV (by decide) (Nat.le_of_ble_eq_true rfl) ?_
  intro p e s m args below meth c A Q hX hnm hR
  refine Z.pick (lv' := [(0, .ref (h 3)), (1, .ref (h 11))]) [0, 1] rfl ?_
  refine Z.aload_n hX dX1_makePrimitive_0 rfl rfl ?_
  refine Z.callS1i (As := [.ref (h 11)]) (rest := []) hX 11 rfl (ct_X5_topOf l D ce ((h 11)) (L 6) ) mc_X5_topOf ml_X1_46 st_X5_topOf ini_X5 nd_X5_topOf ⟨Nat.le_of_ble_eq_true rfl, Nat.le_of_ble_eq_true rfl⟩ ⟨rfl, rfl⟩ ⟨Nat.le_refl _, Nat.le_refl _⟩ rfl (Nat.le_of_ble_eq_true rfl) dX1_makePrimitive_1 ?_
  rintro r_1 w1 ⟨tp, hr_, hw_, t1, t2, t3⟩
  subst hr_
  refine ⟨_, hw_, ?_⟩
  refine Z.toW (w' := cW ce h pl ar G L B J) (set_self rfl) ?_
  refine Z.istore_n (lv' := [(2, .int (zI tp)), (0, .ref (h 3)), (1, .ref (h 11))]) hX dX1_makePrimitive_4 rfl (by decide) rfl ?_
  refine Z.iload_n hX dX1_makePrimitive_5 rfl rfl ?_
  refine Z.if_ge hX 10 dX1_makePrimitive_6 (by decide) ⟨by omega, by omega⟩ ?_ ?_
  · intro c2
    refine Z.lconst (v := 0) hX dX1_makePrimitive_10 rfl ?_
    refine Z.lstore_n (lv' := [(3, .long 0), (2, .int (zI tp)), (0, .ref (h 3)), (1, .ref (h 11))]) hX dX1_makePrimitive_11 rfl (by decide) rfl ?_
    refine Z.iconst hX dX1_makePrimitive_12 ?_
    refine Z.istore (lv' := [(5, .int (zI 0)), (3, .long 0), (2, .int (zI tp)), (0, .ref (h 3)), (1, .ref (h 11))]) hX dX1_makePrimitive_13 (by decide) rfl ?_
    have key_15 : ∀ (N : Nat), ∀ (i : Int) (x : Int64), (tp + 1 - i).toNat < N → (hi : 0 ≤ i ∧ i ≤ tp + 1) → Z p l e { frames := 1, cells := 0, slots := 0, locals := 30 } s m args below meth c D A 6 0 0 Q 15 [(5, .int (zI i)), (3, .long x), (2, .int (zI tp)), (1, .ref (h 11)), (0, .ref (h 3))] [] (cW ce h pl ar G L B J) := by
      intro N
      induction N with
      | zero => intro i x hm; exact absurd hm (Nat.not_lt_zero _)
      | succ N ih_15 =>
        intro i x hm hi
        refine Z.iload hX dX1_makePrimitive_15 rfl ?_
        refine Z.iload_n hX dX1_makePrimitive_17 rfl rfl ?_
        refine Z.icmp_gt hX 36 dX1_makePrimitive_18 (by decide) ⟨by omega, by omega⟩ ⟨by omega, by omega⟩ ?_ ?_
        · intro c3
          refine Z.lload_n hX dX1_makePrimitive_36 rfl rfl ?_
          refine Z.lconst (v := 0) hX dX1_makePrimitive_37 rfl ?_
          refine Z.lcmp_ne hX 43 dX1_makePrimitive_38 dX1_makePrimitive_39 (by decide) ?_ ?_
          · intro c4
            have key_54 : ∀ (y : Int64), (hy0 : ¬ y = 0) → Z p l e { frames := 1, cells := 0, slots := 0, locals := 30 } s m args below meth c D A 6 0 0 Q 54 [(3, .long y), (2, .int (zI tp)), (1, .ref (h 11)), (0, .ref (h 3))] [] (cW ce h pl ar G L B J) := by
              intro y hy0
              refine Z.iconst hX dX1_makePrimitive_54 ?_
              refine Z.istore (lv' := [(5, .int (zI 0)), (3, .long y), (2, .int (zI tp)), (1, .ref (h 11)), (0, .ref (h 3))]) hX dX1_makePrimitive_55 (by decide) rfl ?_
              have key_57 : ∀ (N : Nat), ∀ (i : Int) (M : Nat → Nat → Int64), (tp + 1 - i).toNat < N → (hi2 : 0 ≤ i ∧ i ≤ tp + 1) → (hM : ∀ k, k ≠ 6 → M k = L k) → Z p l e { frames := 1, cells := 0, slots := 0, locals := 30 } s m args below meth c D A 6 0 0 Q 57 [(5, .int (zI i)), (3, .long y), (2, .int (zI tp)), (1, .ref (h 11)), (0, .ref (h 3))] [] (cW ce h pl ar G M B J) := by
                intro N
                induction N with
                | zero => intro i M hm; exact absurd hm (Nat.not_lt_zero _)
                | succ N ih_57 =>
                  intro i M hm hi2 hM
                  refine Z.iload hX dX1_makePrimitive_57 rfl ?_
                  refine Z.iload_n hX dX1_makePrimitive_59 rfl rfl ?_
                  refine Z.icmp_gt hX 77 dX1_makePrimitive_60 (by decide) ⟨by omega, by omega⟩ ⟨by omega, by omega⟩ ?_ ?_
                  · intro c5
                    exact hR _ _ _ dX1_makePrimitive_77 ⟨M, rfl, hM⟩
                  · intro c5
                    refine Z.aload_n hX dX1_makePrimitive_63 rfl rfl ?_
                    refine Z.iload hX dX1_makePrimitive_64 rfl ?_
                    refine Z.dup2 hX dX1_makePrimitive_66 rfl rfl ?_
                    refine Z.laload hX 11 1 dX1_makePrimitive_67 rfl rfl (by omega) (by omega) (by decide) ?_
                    refine Z.lload_n hX dX1_makePrimitive_68 rfl rfl ?_
                    refine Z.ldiv hX dX1_makePrimitive_69 hy0 ?_
                    refine Z.lastore hX 11 1 dX1_makePrimitive_70 rfl rfl (by omega) (by omega) (by decide) ?_
                    obtain ⟨L6, eL6⟩ : ∃ J' : Nat → Nat → Int64, J' = va_up M 6 (vp_updL (M 6) (i : Int).toNat ((M 6 (i : Int).toNat) / y)) := ⟨_, rfl⟩
                    refine Z.toW (w' := cW ce h pl ar G L6 B J) (by rw [eL6]; rfl) ?_
                    have gL6 : L6 6 = vp_updL (M 6) (i : Int).toNat ((M 6 (i : Int).toNat) / y) := by rw [eL6]; exact up_eq
                    have fL6 : ∀ j_, j_ ≠ 6 → L6 j_ = M j_ := fun j_ hj_ => by rw [eL6]; exact up_ne hj_
                    refine Z.iinc (lv' := [(5, .int (zI (i + 1))), (3, .long y), (2, .int (zI tp)), (1, .ref (h 11)), (0, .ref (h 3))]) hX dX1_makePrimitive_71 rfl (by decide) rfl ?_
                    refine Z.goto hX 57 dX1_makePrimitive_74 (by decide) ?_
                    refine Z.pick [0, 1, 2, 3, 4] rfl ?_
                    exact ih_57 _ _ (by omega) (by omega) (fun j_ h_6 => ((fL6 j_ h_6).trans (hM j_ h_6)))
              refine Z.pick [0, 1, 2, 3, 4] rfl ?_
              exact key_57 _ _ _ (Nat.lt_succ_self _) (by omega) (fun _ _ => rfl)
            refine Z.aload_n hX dX1_makePrimitive_43 rfl rfl ?_
            refine Z.iload_n hX dX1_makePrimitive_44 rfl rfl ?_
            refine Z.laload hX 11 1 dX1_makePrimitive_45 rfl rfl (by omega) (by omega) (by decide) ?_
            refine Z.lconst (v := 0) hX dX1_makePrimitive_46 rfl ?_
            refine Z.lcmp_ge hX 54 dX1_makePrimitive_47 dX1_makePrimitive_48 (by decide) ?_ ?_
            · intro c7
              refine Z.pick [1, 2, 3, 4] rfl ?_
              exact key_54 _ (by omega)
            · intro c7
              refine Z.lload_n hX dX1_makePrimitive_51 rfl rfl ?_
              refine Z.lneg hX dX1_makePrimitive_52 ?_
              refine Z.lstore_n (lv' := [(3, .long (-x)), (5, .int (zI i)), (2, .int (zI tp)), (1, .ref (h 11)), (0, .ref (h 3))]) hX dX1_makePrimitive_53 rfl (by decide) rfl ?_
              refine Z.pick [0, 2, 3, 4] rfl ?_
              exact key_54 _ (tl_n (by assumption))
          · intro c4
            exact hR _ _ _ dX1_makePrimitive_42 ⟨L, rfl, (fun _ _ => rfl)⟩
        · intro c3
          refine Z.lload_n hX dX1_makePrimitive_21 rfl rfl ?_
          refine Z.aload_n hX dX1_makePrimitive_22 rfl rfl ?_
          refine Z.iload hX dX1_makePrimitive_23 rfl ?_
          refine Z.laload hX 11 1 dX1_makePrimitive_25 rfl rfl (by omega) (by omega) (by decide) ?_
          refine Z.callSNl (As := [.long x, .long (L 6 (i : Int).toNat)]) (rest := []) hX (ct_X6_commonOf l D ce x (L 6 (i : Int).toNat) ) mc_X6_commonOf ns_X1_60 st_X6_commonOf ini_X6 nd_X6_commonOf ⟨Nat.le_of_ble_eq_true rfl, Nat.le_of_ble_eq_true rfl⟩ ⟨rfl, rfl⟩ ⟨Nat.le_refl _, Nat.le_refl _⟩ rfl (Nat.le_of_ble_eq_true rfl) dX1_makePrimitive_26 ?_
          rintro r_8 w1 ⟨r09, hr_, hw_, hq10⟩
          subst hr_
          refine ⟨hw_, ?_⟩
          refine Z.lstore_n (lv' := [(3, .long r_8), (5, .int (zI i)), (2, .int (zI tp)), (1, .ref (h 11)), (0, .ref (h 3))]) hX dX1_makePrimitive_29 rfl (by decide) rfl ?_
          refine Z.iinc (lv' := [(5, .int (zI (i + 1))), (3, .long r_8), (2, .int (zI tp)), (1, .ref (h 11)), (0, .ref (h 3))]) hX dX1_makePrimitive_30 rfl (by decide) rfl ?_
          refine Z.goto hX 15 dX1_makePrimitive_33 (by decide) ?_
          refine Z.pick [0, 1, 2, 3, 4] rfl ?_
          exact ih_15 _ _ (by omega) (by omega)
    refine Z.pick [0, 1, 2, 4, 3] rfl ?_
    exact key_15 _ _ _ (Nat.lt_succ_self _) (by omega)
  · intro c2
    exact hR _ _ _ dX1_makePrimitive_9 ⟨L, rfl, (fun _ _ => rfl)⟩

theorem dX1_shareWithOther_0 : decode cX1_shareWithOther 0 = .ok (.iconst 0, 1) := by decide +kernel
theorem dX1_shareWithOther_1 : decode cX1_shareWithOther 1 = .ok (.istore_n 1, 1) := by decide +kernel
theorem dX1_shareWithOther_2 : decode cX1_shareWithOther 2 = .ok (.iload_n 1, 1) := by decide +kernel
theorem dX1_shareWithOther_3 : decode cX1_shareWithOther 3 = .ok (.bipush 32, 2) := by decide +kernel
theorem dX1_shareWithOther_5 : decode cX1_shareWithOther 5 = .ok (.if_icmp .ge 56, 3) := by decide +kernel
theorem dX1_shareWithOther_8 : decode cX1_shareWithOther 8 = .ok (.aload_n 0, 1) := by decide +kernel
theorem dX1_shareWithOther_9 : decode cX1_shareWithOther 9 = .ok (.getfield 9, 3) := by decide +kernel
theorem dX1_shareWithOther_12 : decode cX1_shareWithOther 12 = .ok (.invokestatic 46, 3) := by decide +kernel
theorem dX1_shareWithOther_15 : decode cX1_shareWithOther 15 = .ok (.istore_n 2, 1) := by decide +kernel
theorem dX1_shareWithOther_16 : decode cX1_shareWithOther 16 = .ok (.aload_n 0, 1) := by decide +kernel
theorem dX1_shareWithOther_17 : decode cX1_shareWithOther 17 = .ok (.getfield 15, 3) := by decide +kernel
theorem dX1_shareWithOther_20 : decode cX1_shareWithOther 20 = .ok (.invokestatic 46, 3) := by decide +kernel
theorem dX1_shareWithOther_23 : decode cX1_shareWithOther 23 = .ok (.istore_n 3, 1) := by decide +kernel
theorem dX1_shareWithOther_24 : decode cX1_shareWithOther 24 = .ok (.iload_n 3, 1) := by decide +kernel
theorem dX1_shareWithOther_25 : decode cX1_shareWithOther 25 = .ok (.ifCond .ge 4, 3) := by decide +kernel
theorem dX1_shareWithOther_28 : decode cX1_shareWithOther 28 = .ok (.return_, 1) := by decide +kernel
theorem dX1_shareWithOther_29 : decode cX1_shareWithOther 29 = .ok (.iload_n 2, 1) := by decide +kernel
theorem dX1_shareWithOther_30 : decode cX1_shareWithOther 30 = .ok (.iload_n 3, 1) := by decide +kernel
theorem dX1_shareWithOther_31 : decode cX1_shareWithOther 31 = .ok (.if_icmp .ge 10, 3) := by decide +kernel
theorem dX1_shareWithOther_34 : decode cX1_shareWithOther 34 = .ok (.aload_n 0, 1) := by decide +kernel
theorem dX1_shareWithOther_35 : decode cX1_shareWithOther 35 = .ok (.invokevirtual 53, 3) := by decide +kernel
theorem dX1_shareWithOther_38 : decode cX1_shareWithOther 38 = .ok (.goto 17, 3) := by decide +kernel
theorem dX1_shareWithOther_41 : decode cX1_shareWithOther 41 = .ok (.aload_n 0, 1) := by decide +kernel
theorem dX1_shareWithOther_42 : decode cX1_shareWithOther 42 = .ok (.iload_n 2, 1) := by decide +kernel
theorem dX1_shareWithOther_43 : decode cX1_shareWithOther 43 = .ok (.iload_n 3, 1) := by decide +kernel
theorem dX1_shareWithOther_44 : decode cX1_shareWithOther 44 = .ok (.invokevirtual 56, 3) := by decide +kernel
theorem dX1_shareWithOther_47 : decode cX1_shareWithOther 47 = .ok (.aload_n 0, 1) := by decide +kernel
theorem dX1_shareWithOther_48 : decode cX1_shareWithOther 48 = .ok (.aload_n 0, 1) := by decide +kernel
theorem dX1_shareWithOther_49 : decode cX1_shareWithOther 49 = .ok (.getfield 9, 3) := by decide +kernel
theorem dX1_shareWithOther_52 : decode cX1_shareWithOther 52 = .ok (.invokevirtual 42, 3) := by decide +kernel
theorem dX1_shareWithOther_55 : decode cX1_shareWithOther 55 = .ok (.iinc 1 1, 3) := by decide +kernel
theorem dX1_shareWithOther_58 : decode cX1_shareWithOther 58 = .ok (.goto (-56), 3) := by decide +kernel
theorem dX1_shareWithOther_61 : decode cX1_shareWithOther 61 = .ok (.return_, 1) := by decide +kernel
set_option maxHeartbeats 4000000 in
set_option maxRecDepth 100000 in
theorem ct_X1_shareWithOther (l : Launch) (D : va_G) (ce : Nat → ClassId) (h pl ar : Nat → Nat) (G : Nat → Int) (L : Nat → Nat → Int64) (B : Nat → Int) (J : Nat → Nat → Int64)  : Ct l yX1_shareWithOther cX1_shareWithOther 4 none { frames := 2, cells := 0, slots := 0, locals := 62 } 0 0 D (TY ce) [.ref (h 3)] (cW ce h pl ar G L B J) (QV D (TY ce) (fun w1 => ∃ L2 : Nat → Nat → Int64, w1 = cW ce h pl ar G L2 B J ∧ (∀ k, k ≠ 6 → k ≠ 7 → k ≠ 8 → L2 k = L k))) := by
  refine Ct.ofV (by decide) (Nat.le_of_ble_eq_true rfl) ?_
  intro p e s m args below meth c A Q hX hnm hR
  refine Z.pick (lv' := [(0, .ref (h 3))]) [0] rfl ?_
  refine Z.iconst hX dX1_shareWithOther_0 ?_
  refine Z.istore_n (lv' := [(1, .int (zI 0)), (0, .ref (h 3))]) hX dX1_shareWithOther_1 rfl (by decide) rfl ?_
  have key_2 : ∀ (N : Nat), ∀ (i : Int) (M : Nat → Nat → Int64), (32 - i).toNat < N → (hi : 0 ≤ i ∧ i ≤ 32) → (hM : ∀ k, k ≠ 6 → k ≠ 7 → k ≠ 8 → M k = L k) → Z p l e { frames := 2, cells := 0, slots := 0, locals := 62 } s m args below meth c D A 4 0 0 Q 2 [(1, .int (zI i)), (0, .ref (h 3))] [] (cW ce h pl ar G M B J) := by
    intro N
    induction N with
    | zero => intro i M hm; exact absurd hm (Nat.not_lt_zero _)
    | succ N ih_2 =>
      intro i M hm hi hM
      refine Z.iload_n hX dX1_shareWithOther_2 rfl rfl ?_
      refine Z.bipush hX dX1_shareWithOther_3 (by decide) ?_
      refine Z.icmp_ge hX 61 dX1_shareWithOther_5 (by decide) ⟨by omega, by omega⟩ ⟨by omega, by omega⟩ ?_ ?_
      · intro c1
        exact hR _ _ _ dX1_shareWithOther_61 ⟨M, rfl, hM⟩
      · intro c1
        refine Z.aload_n hX dX1_shareWithOther_8 rfl rfl ?_
        refine Z.getf hX 1 3 0 dX1_shareWithOther_9 rfl rfl inX1 (by decide) fl_X1_9 rfl rfl ?_
        refine Z.callS1i (As := [.ref (h 11)]) (rest := []) hX 11 rfl (ct_X5_topOf l D ce ((h 11)) (M 6) ) mc_X5_topOf ml_X1_46 st_X5_topOf ini_X5 nd_X5_topOf ⟨Nat.le_of_ble_eq_true rfl, Nat.le_of_ble_eq_true rfl⟩ ⟨rfl, rfl⟩ ⟨Nat.le_refl _, Nat.le_refl _⟩ rfl (Nat.le_of_ble_eq_true rfl) dX1_shareWithOther_12 ?_
        rintro r_2 w1 ⟨ta, hr_, hw_, a1, a2, a3⟩
        subst hr_
        refine ⟨_, hw_, ?_⟩
        refine Z.toW (w' := cW ce h pl ar G M B J) (set_self rfl) ?_
        refine Z.istore_n (lv' := [(2, .int (zI ta)), (1, .int (zI i)), (0, .ref (h 3))]) hX dX1_shareWithOther_15 rfl (by decide) rfl ?_
        refine Z.aload_n hX dX1_shareWithOther_16 rfl rfl ?_
        refine Z.getf hX 1 3 1 dX1_shareWithOther_17 rfl rfl inX1 (by decide) fl_X1_15 rfl rfl ?_
        refine Z.callS1i (As := [.ref (h 12)]) (rest := []) hX 12 rfl (ct_X5_topOf l D ce ((h 12)) (M 7) ) mc_X5_topOf ml_X1_46 st_X5_topOf ini_X5 nd_X5_topOf ⟨Nat.le_of_ble_eq_true rfl, Nat.le_of_ble_eq_true rfl⟩ ⟨rfl, rfl⟩ ⟨Nat.le_refl _, Nat.le_refl _⟩ rfl (Nat.le_of_ble_eq_true rfl) dX1_shareWithOther_20 ?_
        rintro r_3 w1 ⟨tb, hr_, hw_, b1, b2, b3⟩
        subst hr_
        refine ⟨_, hw_, ?_⟩
        refine Z.toW (w' := cW ce h pl ar G M B J) (set_self rfl) ?_
        refine Z.istore_n (lv' := [(3, .int (zI tb)), (2, .int (zI ta)), (1, .int (zI i)), (0, .ref (h 3))]) hX dX1_shareWithOther_23 rfl (by decide) rfl ?_
        refine Z.iload_n hX dX1_shareWithOther_24 rfl rfl ?_
        refine Z.if_ge hX 29 dX1_shareWithOther_25 (by decide) ⟨by omega, by omega⟩ ?_ ?_
        · intro c4
          refine Z.iload_n hX dX1_shareWithOther_29 rfl rfl ?_
          refine Z.iload_n hX dX1_shareWithOther_30 rfl rfl ?_
          refine Z.icmp_ge hX 41 dX1_shareWithOther_31 (by decide) ⟨by omega, by omega⟩ ⟨by omega, by omega⟩ ?_ ?_
          · intro c5
            refine Z.aload_n hX dX1_shareWithOther_41 rfl rfl ?_
            refine Z.iload_n hX dX1_shareWithOther_42 rfl rfl ?_
            refine Z.iload_n hX dX1_shareWithOther_43 rfl rfl ?_
            refine Z.callVfv (As := [.int (zI ta), .int (zI tb)]) (rest := []) hX 1 3 rfl rfl (ct_X1_lowerShared l D ce h pl ar G M B J ta tb (by omega)) mc_X1_lowerShared ml_X1_56 im_X1_lowerShared se_X1_lowerShared ini_X1 nd_X1_lowerShared ⟨Nat.le_of_ble_eq_true rfl, Nat.le_of_ble_eq_true rfl⟩ ⟨rfl, rfl⟩ ⟨Nat.le_refl _, Nat.le_refl _⟩ rfl (Nat.le_of_ble_eq_true rfl) dX1_shareWithOther_44 ?_
            rintro w1 ⟨L27, hw_, hq8⟩
            subst hw_
            refine Z.aload_n hX dX1_shareWithOther_47 rfl rfl ?_
            refine Z.aload_n hX dX1_shareWithOther_48 rfl rfl ?_
            refine Z.getf hX 1 3 0 dX1_shareWithOther_49 rfl rfl inX1 (by decide) fl_X1_9 rfl rfl ?_
            refine Z.callVfv (As := [.ref (h 11)]) (rest := []) hX 1 3 rfl rfl (ct_X1_makePrimitive l D ce h pl ar G L27 B J ) mc_X1_makePrimitive ml_X1_42 im_X1_makePrimitive se_X1_makePrimitive ini_X1 nd_X1_makePrimitive ⟨Nat.le_of_ble_eq_true rfl, Nat.le_of_ble_eq_true rfl⟩ ⟨rfl, rfl⟩ ⟨Nat.le_refl _, Nat.le_refl _⟩ rfl (Nat.le_of_ble_eq_true rfl) dX1_shareWithOther_52 ?_
            rintro w1 ⟨L210, hw_, hq11⟩
            subst hw_
            refine Z.iinc (lv' := [(1, .int (zI (i + 1))), (3, .int (zI tb)), (2, .int (zI ta)), (0, .ref (h 3))]) hX dX1_shareWithOther_55 rfl (by decide) rfl ?_
            refine Z.goto hX 2 dX1_shareWithOther_58 (by decide) ?_
            refine Z.pick [0, 3] rfl ?_
            exact ih_2 _ _ (by omega) (by omega) (fun j_ h_6 h_7 h_8 => ((hq11 j_ h_6).trans ((hq8 j_ h_6).trans (hM j_ h_6 h_7 h_8))))
          · intro c5
            refine Z.aload_n hX dX1_shareWithOther_34 rfl rfl ?_
            refine Z.callVfv (As := []) (rest := []) hX 1 3 rfl rfl (ct_X1_swap l D ce h pl ar G M B J ) mc_X1_swap ml_X1_53 im_X1_swap se_X1_swap ini_X1 nd_X1_swap ⟨Nat.le_of_ble_eq_true rfl, Nat.le_of_ble_eq_true rfl⟩ ⟨rfl, rfl⟩ ⟨Nat.le_refl _, Nat.le_refl _⟩ rfl (Nat.le_of_ble_eq_true rfl) dX1_shareWithOther_35 ?_
            rintro w1 ⟨L213, hw_, hq14⟩
            subst hw_
            refine Z.goto hX 55 dX1_shareWithOther_38 (by decide) ?_
            refine Z.iinc (lv' := [(1, .int (zI (i + 1))), (3, .int (zI tb)), (2, .int (zI ta)), (0, .ref (h 3))]) hX dX1_shareWithOther_55 rfl (by decide) rfl ?_
            refine Z.goto hX 2 dX1_shareWithOther_58 (by decide) ?_
            refine Z.pick [0, 3] rfl ?_
            exact ih_2 _ _ (by omega) (by omega) (fun j_ h_6 h_7 h_8 => ((hq14 j_ h_6 h_7 h_8).trans (hM j_ h_6 h_7 h_8)))
        · intro c4
          exact hR _ _ _ dX1_shareWithOther_28 ⟨M, rfl, hM⟩
  refine Z.pick [0, 1] rfl ?_
  exact key_2 _ _ _ (Nat.lt_succ_self _) (by omega) (fun _ _ _ _ => rfl)

theorem dX1_divideByShared_0 : decode cX1_divideByShared 0 = .ok (.aload_n 0, 1) := by decide +kernel
theorem dX1_divideByShared_1 : decode cX1_divideByShared 1 = .ok (.getfield 9, 3) := by decide +kernel
theorem dX1_divideByShared_4 : decode cX1_divideByShared 4 = .ok (.invokestatic 46, 3) := by decide +kernel
theorem dX1_divideByShared_7 : decode cX1_divideByShared 7 = .ok (.istore_n 2, 1) := by decide +kernel
theorem dX1_divideByShared_8 : decode cX1_divideByShared 8 = .ok (.iload_n 2, 1) := by decide +kernel
theorem dX1_divideByShared_9 : decode cX1_divideByShared 9 = .ok (.ifCond .lt 14, 3) := by decide +kernel
theorem dX1_divideByShared_12 : decode cX1_divideByShared 12 = .ok (.aload_n 0, 1) := by decide +kernel
theorem dX1_divideByShared_13 : decode cX1_divideByShared 13 = .ok (.getfield 9, 3) := by decide +kernel
theorem dX1_divideByShared_16 : decode cX1_divideByShared 16 = .ok (.iload_n 2, 1) := by decide +kernel
theorem dX1_divideByShared_17 : decode cX1_divideByShared 17 = .ok (.laload, 1) := by decide +kernel
theorem dX1_divideByShared_18 : decode cX1_divideByShared 18 = .ok (.lconst 0, 1) := by decide +kernel
theorem dX1_divideByShared_19 : decode cX1_divideByShared 19 = .ok (.lcmp, 1) := by decide +kernel
theorem dX1_divideByShared_20 : decode cX1_divideByShared 20 = .ok (.ifCond .ne 4, 3) := by decide +kernel
theorem dX1_divideByShared_23 : decode cX1_divideByShared 23 = .ok (.return_, 1) := by decide +kernel
theorem dX1_divideByShared_24 : decode cX1_divideByShared 24 = .ok (.aload_n 1, 1) := by decide +kernel
theorem dX1_divideByShared_25 : decode cX1_divideByShared 25 = .ok (.iconst 0, 1) := by decide +kernel
theorem dX1_divideByShared_26 : decode cX1_divideByShared 26 = .ok (.aload_n 0, 1) := by decide +kernel
theorem dX1_divideByShared_27 : decode cX1_divideByShared 27 = .ok (.getfield 18, 3) := by decide +kernel
theorem dX1_divideByShared_30 : decode cX1_divideByShared 30 = .ok (.iconst 0, 1) := by decide +kernel
theorem dX1_divideByShared_31 : decode cX1_divideByShared 31 = .ok (.iconst 5, 1) := by decide +kernel
theorem dX1_divideByShared_32 : decode cX1_divideByShared 32 = .ok (.invokestatic 33, 3) := by decide +kernel
theorem dX1_divideByShared_35 : decode cX1_divideByShared 35 = .ok (.aload_n 1, 1) := by decide +kernel
theorem dX1_divideByShared_36 : decode cX1_divideByShared 36 = .ok (.lconst 0, 1) := by decide +kernel
theorem dX1_divideByShared_37 : decode cX1_divideByShared 37 = .ok (.invokestatic 21, 3) := by decide +kernel
theorem dX1_divideByShared_40 : decode cX1_divideByShared 40 = .ok (.iconst 4, 1) := by decide +kernel
theorem dX1_divideByShared_41 : decode cX1_divideByShared 41 = .ok (.iload_n 2, 1) := by decide +kernel
theorem dX1_divideByShared_42 : decode cX1_divideByShared 42 = .ok (.isub, 1) := by decide +kernel
theorem dX1_divideByShared_43 : decode cX1_divideByShared 43 = .ok (.istore_n 3, 1) := by decide +kernel
theorem dX1_divideByShared_44 : decode cX1_divideByShared 44 = .ok (.iload_n 3, 1) := by decide +kernel
theorem dX1_divideByShared_45 : decode cX1_divideByShared 45 = .ok (.ifCond .lt 68, 3) := by decide +kernel
theorem dX1_divideByShared_48 : decode cX1_divideByShared 48 = .ok (.aload_n 0, 1) := by decide +kernel
theorem dX1_divideByShared_49 : decode cX1_divideByShared 49 = .ok (.getfield 18, 3) := by decide +kernel
theorem dX1_divideByShared_52 : decode cX1_divideByShared 52 = .ok (.iload_n 3, 1) := by decide +kernel
theorem dX1_divideByShared_53 : decode cX1_divideByShared 53 = .ok (.iload_n 2, 1) := by decide +kernel
theorem dX1_divideByShared_54 : decode cX1_divideByShared 54 = .ok (.iadd, 1) := by decide +kernel
theorem dX1_divideByShared_55 : decode cX1_divideByShared 55 = .ok (.laload, 1) := by decide +kernel
theorem dX1_divideByShared_56 : decode cX1_divideByShared 56 = .ok (.aload_n 0, 1) := by decide +kernel
theorem dX1_divideByShared_57 : decode cX1_divideByShared 57 = .ok (.getfield 9, 3) := by decide +kernel
theorem dX1_divideByShared_60 : decode cX1_divideByShared 60 = .ok (.iload_n 2, 1) := by decide +kernel
theorem dX1_divideByShared_61 : decode cX1_divideByShared 61 = .ok (.laload, 1) := by decide +kernel
theorem dX1_divideByShared_62 : decode cX1_divideByShared 62 = .ok (.ldiv, 1) := by decide +kernel
theorem dX1_divideByShared_63 : decode cX1_divideByShared 63 = .ok (.lstore 4, 2) := by decide +kernel
theorem dX1_divideByShared_65 : decode cX1_divideByShared 65 = .ok (.aload_n 1, 1) := by decide +kernel
theorem dX1_divideByShared_66 : decode cX1_divideByShared 66 = .ok (.iload_n 3, 1) := by decide +kernel
theorem dX1_divideByShared_67 : decode cX1_divideByShared 67 = .ok (.lload 4, 2) := by decide +kernel
theorem dX1_divideByShared_69 : decode cX1_divideByShared 69 = .ok (.lastore, 1) := by decide +kernel
theorem dX1_divideByShared_70 : decode cX1_divideByShared 70 = .ok (.iconst 0, 1) := by decide +kernel
theorem dX1_divideByShared_71 : decode cX1_divideByShared 71 = .ok (.istore 6, 2) := by decide +kernel
theorem dX1_divideByShared_73 : decode cX1_divideByShared 73 = .ok (.iload 6, 2) := by decide +kernel
theorem dX1_divideByShared_75 : decode cX1_divideByShared 75 = .ok (.iload_n 2, 1) := by decide +kernel
theorem dX1_divideByShared_76 : decode cX1_divideByShared 76 = .ok (.if_icmp .gt 31, 3) := by decide +kernel
theorem dX1_divideByShared_79 : decode cX1_divideByShared 79 = .ok (.aload_n 0, 1) := by decide +kernel
theorem dX1_divideByShared_80 : decode cX1_divideByShared 80 = .ok (.getfield 18, 3) := by decide +kernel
theorem dX1_divideByShared_83 : decode cX1_divideByShared 83 = .ok (.iload_n 3, 1) := by decide +kernel
theorem dX1_divideByShared_84 : decode cX1_divideByShared 84 = .ok (.iload 6, 2) := by decide +kernel
theorem dX1_divideByShared_86 : decode cX1_divideByShared 86 = .ok (.iadd, 1) := by decide +kernel
theorem dX1_divideByShared_87 : decode cX1_divideByShared 87 = .ok (.dup2, 1) := by decide +kernel
theorem dX1_divideByShared_88 : decode cX1_divideByShared 88 = .ok (.laload, 1) := by decide +kernel
theorem dX1_divideByShared_89 : decode cX1_divideByShared 89 = .ok (.lload 4, 2) := by decide +kernel
theorem dX1_divideByShared_91 : decode cX1_divideByShared 91 = .ok (.aload_n 0, 1) := by decide +kernel
theorem dX1_divideByShared_92 : decode cX1_divideByShared 92 = .ok (.getfield 9, 3) := by decide +kernel
theorem dX1_divideByShared_95 : decode cX1_divideByShared 95 = .ok (.iload 6, 2) := by decide +kernel
theorem dX1_divideByShared_97 : decode cX1_divideByShared 97 = .ok (.laload, 1) := by decide +kernel
theorem dX1_divideByShared_98 : decode cX1_divideByShared 98 = .ok (.lmul, 1) := by decide +kernel
theorem dX1_divideByShared_99 : decode cX1_divideByShared 99 = .ok (.lsub, 1) := by decide +kernel
theorem dX1_divideByShared_100 : decode cX1_divideByShared 100 = .ok (.lastore, 1) := by decide +kernel
theorem dX1_divideByShared_101 : decode cX1_divideByShared 101 = .ok (.iinc 6 1, 3) := by decide +kernel
theorem dX1_divideByShared_104 : decode cX1_divideByShared 104 = .ok (.goto (-31), 3) := by decide +kernel
theorem dX1_divideByShared_107 : decode cX1_divideByShared 107 = .ok (.iinc 3 (-1), 3) := by decide +kernel
theorem dX1_divideByShared_110 : decode cX1_divideByShared 110 = .ok (.goto (-66), 3) := by decide +kernel
theorem dX1_divideByShared_113 : decode cX1_divideByShared 113 = .ok (.return_, 1) := by decide +kernel
set_option maxHeartbeats 4000000 in
set_option maxRecDepth 100000 in
theorem ct_X1_divideByShared (l : Launch) (D : va_G) (ce : Nat → ClassId) (h pl ar : Nat → Nat) (G : Nat → Int) (L : Nat → Nat → Int64) (B : Nat → Int) (J : Nat → Nat → Int64) (K : Nat) (hK : 3 ≤ K ∧ K < 6) : Ct l yX1_divideByShared cX1_divideByShared 7 none { frames := 1, cells := 0, slots := 0, locals := 40 } 0 0 D (TY ce) [.ref (h 3), .ref (h (18 + K))] (cW ce h pl ar G L B J) (QV D (TY ce) (fun w1 => ∃ L2 : Nat → Nat → Int64, w1 = cW ce h pl ar G L2 B J ∧ (∀ k, k ≠ K → k ≠ 8 → L2 k = L k))) := by
  refine Ct.ofV (by decide) (Nat.le_of_ble_eq_true rfl) ?_
  intro p e s m args below meth c A Q hX hnm hR
  refine Z.pick (lv' := [(0, .ref (h 3)), (1, .ref (h (18 + K)))]) [0, 1] rfl ?_
  refine Z.aload_n hX dX1_divideByShared_0 rfl rfl ?_
  refine Z.getf hX 1 3 0 dX1_divideByShared_1 rfl rfl inX1 (by decide) fl_X1_9 rfl rfl ?_
  refine Z.callS1i (As := [.ref (h 11)]) (rest := []) hX 11 rfl (ct_X5_topOf l D ce ((h 11)) (L 6) ) mc_X5_topOf ml_X1_46 st_X5_topOf ini_X5 nd_X5_topOf ⟨Nat.le_of_ble_eq_true rfl, Nat.le_of_ble_eq_true rfl⟩ ⟨rfl, rfl⟩ ⟨Nat.le_refl _, Nat.le_refl _⟩ rfl (Nat.le_of_ble_eq_true rfl) dX1_divideByShared_4 ?_
  rintro r_1 w1 ⟨lo, hr_, hw_, l1, l2, l3⟩
  subst hr_
  refine ⟨_, hw_, ?_⟩
  refine Z.toW (w' := cW ce h pl ar G L B J) (set_self rfl) ?_
  refine Z.istore_n (lv' := [(2, .int (zI lo)), (0, .ref (h 3)), (1, .ref (h (18 + K)))]) hX dX1_divideByShared_7 rfl (by decide) rfl ?_
  refine Z.iload_n hX dX1_divideByShared_8 rfl rfl ?_
  refine Z.if_lt hX 23 dX1_divideByShared_9 (by decide) ⟨by omega, by omega⟩ ?_ ?_
  · intro c2
    exact hR _ _ _ dX1_divideByShared_23 ⟨L, rfl, (fun _ _ _ => rfl)⟩
  · intro c2
    refine Z.aload_n hX dX1_divideByShared_12 rfl rfl ?_
    refine Z.getf hX 1 3 0 dX1_divideByShared_13 rfl rfl inX1 (by decide) fl_X1_9 rfl rfl ?_
    refine Z.iload_n hX dX1_divideByShared_16 rfl rfl ?_
    refine Z.laload hX 11 1 dX1_divideByShared_17 rfl rfl (by omega) (by omega) (by decide) ?_
    refine Z.lconst (v := 0) hX dX1_divideByShared_18 rfl ?_
    refine Z.lcmp_ne hX 24 dX1_divideByShared_19 dX1_divideByShared_20 (by decide) ?_ ?_
    · intro c3
      refine Z.aload_n hX dX1_divideByShared_24 rfl rfl ?_
      refine Z.iconst hX dX1_divideByShared_25 ?_
      refine Z.aload_n hX dX1_divideByShared_26 rfl rfl ?_
      refine Z.getf hX 1 3 2 dX1_divideByShared_27 rfl rfl inX1 (by decide) fl_X1_18 rfl rfl ?_
      refine Z.iconst hX dX1_divideByShared_30 ?_
      refine Z.iconst hX dX1_divideByShared_31 ?_
      refine Z.copyA hX (18 + K) 13 1 dX1_divideByShared_32 (cW_in (by omega)) rfl rfl rfl (by decide) ml_X1_33 (by decide) (Nat.le_of_ble_eq_true rfl) ?_
      obtain ⟨L4, eL4⟩ : ∃ J' : Nat → Nat → Int64, J' = va_up L 8 (va_cpy (L K) (L 8) 0 0 5) := ⟨_, rfl⟩
      refine Z.toW (w' := cW ce h pl ar G L4 B J) (by rw [eL4]; rfl) ?_
      have gL4 : L4 8 = va_cpy (L K) (L 8) 0 0 5 := by rw [eL4]; exact up_eq
      have fL4 : ∀ j_, j_ ≠ 8 → L4 j_ = L j_ := fun j_ hj_ => by rw [eL4]; exact up_ne hj_
      refine Z.aload_n hX dX1_divideByShared_35 rfl rfl ?_
      refine Z.lconst (v := 0) hX dX1_divideByShared_36 rfl ?_
      refine Z.callS1v (As := [.ref (h (18 + K)), .long 0]) (rest := []) hX (18 + K) (cW_in (by omega)) (ct_J7_fill_d0a16 l D ce ((h (18 + K))) 5 (L4 K) 0 (by decide)) mc_J7_fill_d0a16 ml_X1_21 st_J7_fill_d0a16 ini_J7 nd_J7_fill_d0a16 ⟨Nat.le_of_ble_eq_true rfl, Nat.le_of_ble_eq_true rfl⟩ ⟨rfl, rfl⟩ ⟨Nat.le_refl _, Nat.le_refl _⟩ rfl (Nat.le_of_ble_eq_true rfl) dX1_divideByShared_37 ?_
      rintro w1 ⟨f26, hw_, hq7⟩
      refine ⟨_, hw_, ?_⟩
      obtain ⟨L8, eL8⟩ : ∃ J' : Nat → Nat → Int64, J' = va_up L4 K (f26) := ⟨_, rfl⟩
      refine Z.toW (w' := cW ce h pl ar G L8 B J) (by rw [eL8]; exact cW_setL (by omega)) ?_
      have gL8 : L8 K = f26 := by rw [eL8]; exact up_eq
      have fL8 : ∀ j_, j_ ≠ K → L8 j_ = L4 j_ := fun j_ hj_ => by rw [eL8]; exact up_ne hj_
      refine Z.iconst hX dX1_divideByShared_40 ?_
      refine Z.iload_n hX dX1_divideByShared_41 rfl rfl ?_
      refine Z.isub hX dX1_divideByShared_42 ?_
      refine Z.istore_n (lv' := [(3, .int (zI (4 - lo))), (2, .int (zI lo)), (0, .ref (h 3)), (1, .ref (h (18 + K)))]) hX dX1_divideByShared_43 rfl (by decide) rfl ?_
      have key_44 : ∀ (N : Nat), ∀ (i : Int) (M : Nat → Nat → Int64), (i + 1).toNat < N → (hi : -1 ≤ i ∧ i ≤ 4 - lo) → (ho : M 6 = L 6) → (hM : ∀ k, k ≠ K → k ≠ 8 → M k = L k) → Z p l e { frames := 1, cells := 0, slots := 0, locals := 40 } s m args below meth c D A 7 0 0 Q 44 [(3, .int (zI i)), (2, .int (zI lo)), (1, .ref (h (18 + K))), (0, .ref (h 3))] [] (cW ce h pl ar G M B J) := by
        intro N
        induction N with
        | zero => intro i M hm; exact absurd hm (Nat.not_lt_zero _)
        | succ N ih_44 =>
          intro i M hm hi ho hM
          refine Z.iload_n hX dX1_divideByShared_44 rfl rfl ?_
          refine Z.if_lt hX 113 dX1_divideByShared_45 (by decide) ⟨by omega, by omega⟩ ?_ ?_
          · intro c9
            exact hR _ _ _ dX1_divideByShared_113 ⟨M, rfl, hM⟩
          · intro c9
            refine Z.aload_n hX dX1_divideByShared_48 rfl rfl ?_
            refine Z.getf hX 1 3 2 dX1_divideByShared_49 rfl rfl inX1 (by decide) fl_X1_18 rfl rfl ?_
            refine Z.iload_n hX dX1_divideByShared_52 rfl rfl ?_
            refine Z.iload_n hX dX1_divideByShared_53 rfl rfl ?_
            refine Z.iadd hX dX1_divideByShared_54 ?_
            refine Z.laload hX 13 1 dX1_divideByShared_55 rfl rfl (by omega) (by omega) (by decide) ?_
            refine Z.aload_n hX dX1_divideByShared_56 rfl rfl ?_
            refine Z.getf hX 1 3 0 dX1_divideByShared_57 rfl rfl inX1 (by decide) fl_X1_9 rfl rfl ?_
            refine Z.iload_n hX dX1_divideByShared_60 rfl rfl ?_
            refine Z.laload hX 11 1 dX1_divideByShared_61 rfl rfl (by omega) (by omega) (by decide) ?_
            refine Z.ldiv hX dX1_divideByShared_62 (by rw [ho]; assumption) ?_
            refine Z.lstore (lv' := [(4, .long ((M 8 (i + lo : Int).toNat) / (M 6 (lo : Int).toNat))), (3, .int (zI i)), (2, .int (zI lo)), (1, .ref (h (18 + K))), (0, .ref (h 3))]) hX dX1_divideByShared_63 (by decide) rfl ?_
            obtain ⟨qq, eqq⟩ : ∃ x : Int64, x = (M 8 (i + lo : Int).toNat) / (M 6 (lo : Int).toNat) := ⟨_, rfl⟩
            rw [← eqq]
            refine Z.aload_n hX dX1_divideByShared_65 rfl rfl ?_
            refine Z.iload_n hX dX1_divideByShared_66 rfl rfl ?_
            refine Z.lload hX dX1_divideByShared_67 rfl ?_
            refine Z.lastore hX (18 + K) 1 dX1_divideByShared_69 (cW_in (by omega)) rfl (by omega) (by omega) (by decide) ?_
            obtain ⟨L10, eL10⟩ : ∃ J' : Nat → Nat → Int64, J' = va_up M K (vp_updL (M K) (i : Int).toNat (qq)) := ⟨_, rfl⟩
            refine Z.toW (w' := cW ce h pl ar G L10 B J) (by rw [eL10]; exact cW_setL (by omega)) ?_
            have gL10 : L10 K = vp_updL (M K) (i : Int).toNat (qq) := by rw [eL10]; exact up_eq
            have fL10 : ∀ j_, j_ ≠ K → L10 j_ = M j_ := fun j_ hj_ => by rw [eL10]; exact up_ne hj_
            refine Z.iconst hX dX1_divideByShared_70 ?_
            refine Z.istore (lv' := [(6, .int (zI 0)), (4, .long qq), (3, .int (zI i)), (2, .int (zI lo)), (1, .ref (h (18 + K))), (0, .ref (h 3))]) hX dX1_divideByShared_71 (by decide) rfl ?_
            have key_73 : ∀ (N : Nat), ∀ (q : Int) (M : Nat → Nat → Int64), (lo + 1 - q).toNat < N → (hq : 0 ≤ q ∧ q ≤ lo + 1) → (ho : M 6 = L 6) → (hM : ∀ k, k ≠ K → k ≠ 8 → M k = L k) → Z p l e { frames := 1, cells := 0, slots := 0, locals := 40 } s m args below meth c D A 7 0 0 Q 73 [(6, .int (zI q)), (4, .long qq), (3, .int (zI i)), (2, .int (zI lo)), (1, .ref (h (18 + K))), (0, .ref (h 3))] [] (cW ce h pl ar G M B J) := by
              intro N
              induction N with
              | zero => intro q M hm; exact absurd hm (Nat.not_lt_zero _)
              | succ N ih_73 =>
                intro q M hm hq ho hM
                refine Z.iload hX dX1_divideByShared_73 rfl ?_
                refine Z.iload_n hX dX1_divideByShared_75 rfl rfl ?_
                refine Z.icmp_gt hX 107 dX1_divideByShared_76 (by decide) ⟨by omega, by omega⟩ ⟨by omega, by omega⟩ ?_ ?_
                · intro c11
                  refine Z.iinc (lv' := [(3, .int (zI (i + -1))), (6, .int (zI q)), (4, .long qq), (2, .int (zI lo)), (1, .ref (h (18 + K))), (0, .ref (h 3))]) hX dX1_divideByShared_107 rfl (by decide) rfl ?_
                  refine Z.goto hX 44 dX1_divideByShared_110 (by decide) ?_
                  refine Z.pick [0, 3, 4, 5] rfl ?_
                  exact ih_44 _ _ (by omega) (by omega) ho hM
                · intro c11
                  refine Z.aload_n hX dX1_divideByShared_79 rfl rfl ?_
                  refine Z.getf hX 1 3 2 dX1_divideByShared_80 rfl rfl inX1 (by decide) fl_X1_18 rfl rfl ?_
                  refine Z.iload_n hX dX1_divideByShared_83 rfl rfl ?_
                  refine Z.iload hX dX1_divideByShared_84 rfl ?_
                  refine Z.iadd hX dX1_divideByShared_86 ?_
                  refine Z.dup2 hX dX1_divideByShared_87 rfl rfl ?_
                  refine Z.laload hX 13 1 dX1_divideByShared_88 rfl rfl (by omega) (by omega) (by decide) ?_
                  refine Z.lload hX dX1_divideByShared_89 rfl ?_
                  refine Z.aload_n hX dX1_divideByShared_91 rfl rfl ?_
                  refine Z.getf hX 1 3 0 dX1_divideByShared_92 rfl rfl inX1 (by decide) fl_X1_9 rfl rfl ?_
                  refine Z.iload hX dX1_divideByShared_95 rfl ?_
                  refine Z.laload hX 11 1 dX1_divideByShared_97 rfl rfl (by omega) (by omega) (by decide) ?_
                  refine Z.lmul hX dX1_divideByShared_98 ?_
                  refine Z.lsub hX dX1_divideByShared_99 ?_
                  refine Z.lastore hX 13 1 dX1_divideByShared_100 rfl rfl (by omega) (by omega) (by decide) ?_
                  obtain ⟨L12, eL12⟩ : ∃ J' : Nat → Nat → Int64, J' = va_up M 8 (vp_updL (M 8) (i + q : Int).toNat ((M 8 (i + q : Int).toNat) - (qq * (M 6 (q : Int).toNat)))) := ⟨_, rfl⟩
                  refine Z.toW (w' := cW ce h pl ar G L12 B J) (by rw [eL12]; rfl) ?_
                  have gL12 : L12 8 = vp_updL (M 8) (i + q : Int).toNat ((M 8 (i + q : Int).toNat) - (qq * (M 6 (q : Int).toNat))) := by rw [eL12]; exact up_eq
                  have fL12 : ∀ j_, j_ ≠ 8 → L12 j_ = M j_ := fun j_ hj_ => by rw [eL12]; exact up_ne hj_
                  refine Z.iinc (lv' := [(6, .int (zI (q + 1))), (4, .long qq), (3, .int (zI i)), (2, .int (zI lo)), (1, .ref (h (18 + K))), (0, .ref (h 3))]) hX dX1_divideByShared_101 rfl (by decide) rfl ?_
                  refine Z.goto hX 73 dX1_divideByShared_104 (by decide) ?_
                  refine Z.pick [0, 1, 2, 3, 4, 5] rfl ?_
                  exact ih_73 _ _ (by omega) (by omega) ((fL12 6 (by omega)).trans ho) (fun j_ h_K h_8 => ((fL12 j_ h_8).trans (hM j_ h_K h_8)))
            refine Z.pick [0, 1, 2, 3, 4, 5] rfl ?_
            exact key_73 _ _ _ (Nat.lt_succ_self _) (by omega) ((fL10 6 (by omega)).trans ho) (fun j_ h_K h_8 => ((fL10 j_ h_K).trans (hM j_ h_K h_8)))
      refine Z.pick [0, 1, 3, 2] rfl ?_
      exact key_44 _ _ _ (Nat.lt_succ_self _) (by omega) ((fL8 6 (by omega)).trans ((fL4 6 (by omega)).trans rfl)) (fun j_ h_K h_8 => ((fL8 j_ h_K).trans ((fL4 j_ h_8).trans rfl)))
    · intro c3
      exact hR _ _ _ dX1_divideByShared_23 ⟨L, rfl, (fun _ _ _ => rfl)⟩

theorem dX1_free_0 : decode cX1_free 0 = .ok (.aload_n 0, 1) := by decide +kernel
theorem dX1_free_1 : decode cX1_free 1 = .ok (.getfield 9, 3) := by decide +kernel
theorem dX1_free_4 : decode cX1_free 4 = .ok (.lconst 0, 1) := by decide +kernel
theorem dX1_free_5 : decode cX1_free 5 = .ok (.invokestatic 21, 3) := by decide +kernel
theorem dX1_free_8 : decode cX1_free 8 = .ok (.iconst 0, 1) := by decide +kernel
theorem dX1_free_9 : decode cX1_free 9 = .ok (.istore_n 3, 1) := by decide +kernel
theorem dX1_free_10 : decode cX1_free 10 = .ok (.iload_n 3, 1) := by decide +kernel
theorem dX1_free_11 : decode cX1_free 11 = .ok (.iconst 3, 1) := by decide +kernel
theorem dX1_free_12 : decode cX1_free 12 = .ok (.if_icmp .ge 47, 3) := by decide +kernel
theorem dX1_free_15 : decode cX1_free 15 = .ok (.aload_n 1, 1) := by decide +kernel
theorem dX1_free_16 : decode cX1_free 16 = .ok (.getfield 27, 3) := by decide +kernel
theorem dX1_free_19 : decode cX1_free 19 = .ok (.iload_n 3, 1) := by decide +kernel
theorem dX1_free_20 : decode cX1_free 20 = .ok (.aaload, 1) := by decide +kernel
theorem dX1_free_21 : decode cX1_free 21 = .ok (.iconst 0, 1) := by decide +kernel
theorem dX1_free_22 : decode cX1_free 22 = .ok (.aload_n 2, 1) := by decide +kernel
theorem dX1_free_23 : decode cX1_free 23 = .ok (.getfield 27, 3) := by decide +kernel
theorem dX1_free_26 : decode cX1_free 26 = .ok (.iload_n 3, 1) := by decide +kernel
theorem dX1_free_27 : decode cX1_free 27 = .ok (.aaload, 1) := by decide +kernel
theorem dX1_free_28 : decode cX1_free 28 = .ok (.iconst 0, 1) := by decide +kernel
theorem dX1_free_29 : decode cX1_free 29 = .ok (.iconst 5, 1) := by decide +kernel
theorem dX1_free_30 : decode cX1_free 30 = .ok (.invokestatic 33, 3) := by decide +kernel
theorem dX1_free_33 : decode cX1_free 33 = .ok (.aload_n 1, 1) := by decide +kernel
theorem dX1_free_34 : decode cX1_free 34 = .ok (.getfield 27, 3) := by decide +kernel
theorem dX1_free_37 : decode cX1_free 37 = .ok (.iload_n 3, 1) := by decide +kernel
theorem dX1_free_38 : decode cX1_free 38 = .ok (.aaload, 1) := by decide +kernel
theorem dX1_free_39 : decode cX1_free 39 = .ok (.iconst 0, 1) := by decide +kernel
theorem dX1_free_40 : decode cX1_free 40 = .ok (.aload_n 0, 1) := by decide +kernel
theorem dX1_free_41 : decode cX1_free 41 = .ok (.getfield 15, 3) := by decide +kernel
theorem dX1_free_44 : decode cX1_free 44 = .ok (.iconst 0, 1) := by decide +kernel
theorem dX1_free_45 : decode cX1_free 45 = .ok (.iconst 5, 1) := by decide +kernel
theorem dX1_free_46 : decode cX1_free 46 = .ok (.invokestatic 33, 3) := by decide +kernel
theorem dX1_free_49 : decode cX1_free 49 = .ok (.aload_n 0, 1) := by decide +kernel
theorem dX1_free_50 : decode cX1_free 50 = .ok (.invokevirtual 39, 3) := by decide +kernel
theorem dX1_free_53 : decode cX1_free 53 = .ok (.iinc 3 1, 3) := by decide +kernel
theorem dX1_free_56 : decode cX1_free 56 = .ok (.goto (-46), 3) := by decide +kernel
theorem dX1_free_59 : decode cX1_free 59 = .ok (.aload_n 0, 1) := by decide +kernel
theorem dX1_free_60 : decode cX1_free 60 = .ok (.aload_n 0, 1) := by decide +kernel
theorem dX1_free_61 : decode cX1_free 61 = .ok (.getfield 9, 3) := by decide +kernel
theorem dX1_free_64 : decode cX1_free 64 = .ok (.invokevirtual 42, 3) := by decide +kernel
theorem dX1_free_67 : decode cX1_free 67 = .ok (.aload_n 0, 1) := by decide +kernel
theorem dX1_free_68 : decode cX1_free 68 = .ok (.getfield 9, 3) := by decide +kernel
theorem dX1_free_71 : decode cX1_free 71 = .ok (.invokestatic 46, 3) := by decide +kernel
theorem dX1_free_74 : decode cX1_free 74 = .ok (.iconst 1, 1) := by decide +kernel
theorem dX1_free_75 : decode cX1_free 75 = .ok (.if_icmp .lt 26, 3) := by decide +kernel
theorem dX1_free_78 : decode cX1_free 78 = .ok (.iconst 0, 1) := by decide +kernel
theorem dX1_free_79 : decode cX1_free 79 = .ok (.istore_n 3, 1) := by decide +kernel
theorem dX1_free_80 : decode cX1_free 80 = .ok (.iload_n 3, 1) := by decide +kernel
theorem dX1_free_81 : decode cX1_free 81 = .ok (.iconst 3, 1) := by decide +kernel
theorem dX1_free_82 : decode cX1_free 82 = .ok (.if_icmp .ge 19, 3) := by decide +kernel
theorem dX1_free_85 : decode cX1_free 85 = .ok (.aload_n 0, 1) := by decide +kernel
theorem dX1_free_86 : decode cX1_free 86 = .ok (.aload_n 2, 1) := by decide +kernel
theorem dX1_free_87 : decode cX1_free 87 = .ok (.getfield 27, 3) := by decide +kernel
theorem dX1_free_90 : decode cX1_free 90 = .ok (.iload_n 3, 1) := by decide +kernel
theorem dX1_free_91 : decode cX1_free 91 = .ok (.aaload, 1) := by decide +kernel
theorem dX1_free_92 : decode cX1_free 92 = .ok (.invokevirtual 50, 3) := by decide +kernel
theorem dX1_free_95 : decode cX1_free 95 = .ok (.iinc 3 1, 3) := by decide +kernel
theorem dX1_free_98 : decode cX1_free 98 = .ok (.goto (-18), 3) := by decide +kernel
theorem dX1_free_101 : decode cX1_free 101 = .ok (.return_, 1) := by decide +kernel
set_option maxHeartbeats 4000000 in
set_option maxRecDepth 100000 in
theorem ct_X1_free (l : Launch) (D : va_G) (ce : Nat → ClassId) (h pl ar : Nat → Nat) (G : Nat → Int) (L : Nat → Nat → Int64) (B : Nat → Int) (J : Nat → Nat → Int64)  : Ct l yX1_free cX1_free 4 none { frames := 3, cells := 0, slots := 0, locals := 85 } 0 0 D (TY ce) [.ref (h 3), .ref (h 1), .ref (h 2)] (cW ce h pl ar G L B J) (QV D (TY ce) (fun w1 => ∃ L2 : Nat → Nat → Int64, w1 = cW ce h pl ar G L2 B J ∧ (∀ k, k ≠ 3 → k ≠ 4 → k ≠ 5 → k ≠ 6 → k ≠ 7 → k ≠ 8 → L2 k = L k))) := by
  refine Ct.ofV (by decide) (Nat.le_of_ble_eq_true rfl) ?_
  intro p e s m args below meth c A Q hX hnm hR
  refine Z.pick (lv' := [(0, .ref (h 3)), (1, .ref (h 1)), (2, .ref (h 2))]) [0, 1, 2] rfl ?_
  refine Z.aload_n hX dX1_free_0 rfl rfl ?_
  refine Z.getf hX 1 3 0 dX1_free_1 rfl rfl inX1 (by decide) fl_X1_9 rfl rfl ?_
  refine Z.lconst (v := 0) hX dX1_free_4 rfl ?_
  refine Z.callS1v (As := [.ref (h 11), .long 0]) (rest := []) hX 11 rfl (ct_J7_fill_d0a16 l D ce ((h 11)) 5 (L 6) 0 (by decide)) mc_J7_fill_d0a16 ml_X1_21 st_J7_fill_d0a16 ini_J7 nd_J7_fill_d0a16 ⟨Nat.le_of_ble_eq_true rfl, Nat.le_of_ble_eq_true rfl⟩ ⟨rfl, rfl⟩ ⟨Nat.le_refl _, Nat.le_refl _⟩ rfl (Nat.le_of_ble_eq_true rfl) dX1_free_5 ?_
  rintro w1 ⟨f22, hw_, hfl⟩
  refine ⟨_, hw_, ?_⟩
  obtain ⟨L3, eL3⟩ : ∃ J' : Nat → Nat → Int64, J' = va_up L 6 (f22) := ⟨_, rfl⟩
  refine Z.toW (w' := cW ce h pl ar G L3 B J) (by rw [eL3]; rfl) ?_
  have gL3 : L3 6 = f22 := by rw [eL3]; exact up_eq
  have fL3 : ∀ j_, j_ ≠ 6 → L3 j_ = L j_ := fun j_ hj_ => by rw [eL3]; exact up_ne hj_
  refine Z.iconst hX dX1_free_8 ?_
  refine Z.istore_n (lv' := [(3, .int (zI 0)), (0, .ref (h 3)), (1, .ref (h 1)), (2, .ref (h 2))]) hX dX1_free_9 rfl (by decide) rfl ?_
  have key_10 : ∀ (N : Nat), ∀ (i : Int) (M : Nat → Nat → Int64), (3 - i).toNat < N → (hi : 0 ≤ i ∧ i ≤ 3) → (hM : ∀ k, k ≠ 3 → k ≠ 4 → k ≠ 5 → k ≠ 6 → k ≠ 7 → k ≠ 8 → M k = L k) → Z p l e { frames := 3, cells := 0, slots := 0, locals := 85 } s m args below meth c D A 4 0 0 Q 10 [(3, .int (zI i)), (2, .ref (h 2)), (1, .ref (h 1)), (0, .ref (h 3))] [] (cW ce h pl ar G M B J) := by
    intro N
    induction N with
    | zero => intro i M hm; exact absurd hm (Nat.not_lt_zero _)
    | succ N ih_10 =>
      intro i M hm hi hM
      refine Z.iload_n hX dX1_free_10 rfl rfl ?_
      refine Z.iconst hX dX1_free_11 ?_
      refine Z.icmp_ge hX 59 dX1_free_12 (by decide) ⟨by omega, by omega⟩ ⟨by omega, by omega⟩ ?_ ?_
      · intro c4
        refine Z.aload_n hX dX1_free_59 rfl rfl ?_
        refine Z.aload_n hX dX1_free_60 rfl rfl ?_
        refine Z.getf hX 1 3 0 dX1_free_61 rfl rfl inX1 (by decide) fl_X1_9 rfl rfl ?_
        refine Z.callVfv (As := [.ref (h 11)]) (rest := []) hX 1 3 rfl rfl (ct_X1_makePrimitive l D ce h pl ar G M B J ) mc_X1_makePrimitive ml_X1_42 im_X1_makePrimitive se_X1_makePrimitive ini_X1 nd_X1_makePrimitive ⟨Nat.le_of_ble_eq_true rfl, Nat.le_of_ble_eq_true rfl⟩ ⟨rfl, rfl⟩ ⟨Nat.le_refl _, Nat.le_refl _⟩ rfl (Nat.le_of_ble_eq_true rfl) dX1_free_64 ?_
        rintro w1 ⟨L26, hw_, hmp⟩
        subst hw_
        refine Z.aload_n hX dX1_free_67 rfl rfl ?_
        refine Z.getf hX 1 3 0 dX1_free_68 rfl rfl inX1 (by decide) fl_X1_9 rfl rfl ?_
        refine Z.callS1i (As := [.ref (h 11)]) (rest := []) hX 11 rfl (ct_X5_topOf l D ce ((h 11)) (L26 6) ) mc_X5_topOf ml_X1_46 st_X5_topOf ini_X5 nd_X5_topOf ⟨Nat.le_of_ble_eq_true rfl, Nat.le_of_ble_eq_true rfl⟩ ⟨rfl, rfl⟩ ⟨Nat.le_refl _, Nat.le_refl _⟩ rfl (Nat.le_of_ble_eq_true rfl) dX1_free_71 ?_
        rintro r_7 w1 ⟨tp, hr_, hw_, t1, t2, t3⟩
        subst hr_
        refine ⟨_, hw_, ?_⟩
        refine Z.toW (w' := cW ce h pl ar G L26 B J) (set_self rfl) ?_
        refine Z.iconst hX dX1_free_74 ?_
        refine Z.icmp_lt hX 101 dX1_free_75 (by decide) ⟨by omega, by omega⟩ ⟨by omega, by omega⟩ ?_ ?_
        · intro c8
          exact hR _ _ _ dX1_free_101 ⟨L26, rfl, (fun j_ h_3 h_4 h_5 h_6 h_7 h_8 => ((hmp j_ h_6).trans (hM j_ h_3 h_4 h_5 h_6 h_7 h_8)))⟩
        · intro c8
          refine Z.iconst hX dX1_free_78 ?_
          refine Z.istore_n (lv' := [(3, .int (zI 0)), (2, .ref (h 2)), (1, .ref (h 1)), (0, .ref (h 3))]) hX dX1_free_79 rfl (by decide) rfl ?_
          have key_80 : ∀ (N : Nat), ∀ (i : Int) (M : Nat → Nat → Int64), (3 - i).toNat < N → (hi2 : 0 ≤ i ∧ i ≤ 3) → (hM : ∀ k, k ≠ 3 → k ≠ 4 → k ≠ 5 → k ≠ 6 → k ≠ 7 → k ≠ 8 → M k = L k) → Z p l e { frames := 3, cells := 0, slots := 0, locals := 85 } s m args below meth c D A 4 0 0 Q 80 [(3, .int (zI i)), (2, .ref (h 2)), (0, .ref (h 3))] [] (cW ce h pl ar G M B J) := by
            intro N
            induction N with
            | zero => intro i M hm; exact absurd hm (Nat.not_lt_zero _)
            | succ N ih_80 =>
              intro i M hm hi2 hM
              refine Z.iload_n hX dX1_free_80 rfl rfl ?_
              refine Z.iconst hX dX1_free_81 ?_
              refine Z.icmp_ge hX 101 dX1_free_82 (by decide) ⟨by omega, by omega⟩ ⟨by omega, by omega⟩ ?_ ?_
              · intro c9
                exact hR _ _ _ dX1_free_101 ⟨M, rfl, (fun j_ h_3 h_4 h_5 h_6 h_7 h_8 => (hM j_ h_3 h_4 h_5 h_6 h_7 h_8))⟩
              · intro c9
                refine Z.aload_n hX dX1_free_85 rfl rfl ?_
                refine Z.aload_n hX dX1_free_86 rfl rfl ?_
                refine Z.getf hX 5 2 0 dX1_free_87 rfl rfl inX5 (by decide) fl_X1_27 rfl rfl ?_
                refine Z.iload_n hX dX1_free_90 rfl rfl ?_
                refine Z.aaload hX 10 3 dX1_free_91 rfl rfl rfl (by omega) (by omega) (by decide) rfl ?_
                refine Z.callVfv (As := [.ref (h (18 + (3 + (i : Int).toNat)))]) (rest := []) hX 1 3 rfl rfl (ct_X1_divideByShared l D ce h pl ar G M B J ((3 + (i : Int).toNat)) (by omega)) mc_X1_divideByShared ml_X1_50 im_X1_divideByShared se_X1_divideByShared ini_X1 nd_X1_divideByShared ⟨Nat.le_of_ble_eq_true rfl, Nat.le_of_ble_eq_true rfl⟩ ⟨rfl, rfl⟩ ⟨Nat.le_refl _, Nat.le_refl _⟩ rfl (Nat.le_of_ble_eq_true rfl) dX1_free_92 ?_
                rintro w1 ⟨L211, hw_, hdv⟩
                subst hw_
                refine Z.iinc (lv' := [(3, .int (zI (i + 1))), (2, .ref (h 2)), (0, .ref (h 3))]) hX dX1_free_95 rfl (by decide) rfl ?_
                refine Z.goto hX 80 dX1_free_98 (by decide) ?_
                refine Z.pick [0, 1, 2] rfl ?_
                exact ih_80 _ _ (by omega) (by omega) (fun j_ h_3 h_4 h_5 h_6 h_7 h_8 => ((hdv j_ (by omega) h_8).trans (hM j_ h_3 h_4 h_5 h_6 h_7 h_8)))
          refine Z.pick [0, 1, 3] rfl ?_
          exact key_80 _ _ _ (Nat.lt_succ_self _) (by omega) (fun j_ h_3 h_4 h_5 h_6 h_7 h_8 => ((hmp j_ h_6).trans (hM j_ h_3 h_4 h_5 h_6 h_7 h_8)))
      · intro c4
        refine Z.aload_n hX dX1_free_15 rfl rfl ?_
        refine Z.getf hX 5 1 0 dX1_free_16 rfl rfl inX5 (by decide) fl_X1_27 rfl rfl ?_
        refine Z.iload_n hX dX1_free_19 rfl rfl ?_
        refine Z.aaload hX 9 3 dX1_free_20 rfl rfl rfl (by omega) (by omega) (by decide) rfl ?_
        refine Z.iconst hX dX1_free_21 ?_
        refine Z.aload_n hX dX1_free_22 rfl rfl ?_
        refine Z.getf hX 5 2 0 dX1_free_23 rfl rfl inX5 (by decide) fl_X1_27 rfl rfl ?_
        refine Z.iload_n hX dX1_free_26 rfl rfl ?_
        refine Z.aaload hX 10 3 dX1_free_27 rfl rfl rfl (by omega) (by omega) (by decide) rfl ?_
        refine Z.iconst hX dX1_free_28 ?_
        refine Z.iconst hX dX1_free_29 ?_
        refine Z.copyA hX (18 + (i : Int).toNat) (18 + (3 + (i : Int).toNat)) 1 dX1_free_30 (cW_in (by omega)) (cW_in (by omega)) rfl rfl (by decide) ml_X1_33 (by decide) (Nat.le_of_ble_eq_true rfl) ?_
        obtain ⟨L12, eL12⟩ : ∃ J' : Nat → Nat → Int64, J' = va_up M ((3 + (i : Int).toNat)) (va_cpy (M ((i : Int).toNat)) (M ((3 + (i : Int).toNat))) 0 0 5) := ⟨_, rfl⟩
        refine Z.toW (w' := cW ce h pl ar G L12 B J) (by rw [eL12]; exact cW_setL (by omega)) ?_
        have gL12 : L12 ((3 + (i : Int).toNat)) = va_cpy (M ((i : Int).toNat)) (M ((3 + (i : Int).toNat))) 0 0 5 := by rw [eL12]; exact up_eq
        have fL12 : ∀ j_, j_ ≠ (3 + (i : Int).toNat) → L12 j_ = M j_ := fun j_ hj_ => by rw [eL12]; exact up_ne hj_
        refine Z.aload_n hX dX1_free_33 rfl rfl ?_
        refine Z.getf hX 5 1 0 dX1_free_34 rfl rfl inX5 (by decide) fl_X1_27 rfl rfl ?_
        refine Z.iload_n hX dX1_free_37 rfl rfl ?_
        refine Z.aaload hX 9 3 dX1_free_38 rfl rfl rfl (by omega) (by omega) (by decide) rfl ?_
        refine Z.iconst hX dX1_free_39 ?_
        refine Z.aload_n hX dX1_free_40 rfl rfl ?_
        refine Z.getf hX 1 3 1 dX1_free_41 rfl rfl inX1 (by decide) fl_X1_15 rfl rfl ?_
        refine Z.iconst hX dX1_free_44 ?_
        refine Z.iconst hX dX1_free_45 ?_
        refine Z.copyA hX (18 + (i : Int).toNat) 12 1 dX1_free_46 (cW_in (by omega)) rfl rfl rfl (by decide) ml_X1_33 (by decide) (Nat.le_of_ble_eq_true rfl) ?_
        obtain ⟨L13, eL13⟩ : ∃ J' : Nat → Nat → Int64, J' = va_up L12 7 (va_cpy (L12 ((i : Int).toNat)) (L12 7) 0 0 5) := ⟨_, rfl⟩
        refine Z.toW (w' := cW ce h pl ar G L13 B J) (by rw [eL13]; rfl) ?_
        have gL13 : L13 7 = va_cpy (L12 ((i : Int).toNat)) (L12 7) 0 0 5 := by rw [eL13]; exact up_eq
        have fL13 : ∀ j_, j_ ≠ 7 → L13 j_ = L12 j_ := fun j_ hj_ => by rw [eL13]; exact up_ne hj_
        refine Z.aload_n hX dX1_free_49 rfl rfl ?_
        refine Z.callVfv (As := []) (rest := []) hX 1 3 rfl rfl (ct_X1_shareWithOther l D ce h pl ar G L13 B J ) mc_X1_shareWithOther ml_X1_39 im_X1_shareWithOther se_X1_shareWithOther ini_X1 nd_X1_shareWithOther ⟨Nat.le_of_ble_eq_true rfl, Nat.le_of_ble_eq_true rfl⟩ ⟨rfl, rfl⟩ ⟨Nat.le_refl _, Nat.le_refl _⟩ rfl (Nat.le_of_ble_eq_true rfl) dX1_free_50 ?_
        rintro w1 ⟨L215, hw_, hsw⟩
        subst hw_
        refine Z.iinc (lv' := [(3, .int (zI (i + 1))), (2, .ref (h 2)), (1, .ref (h 1)), (0, .ref (h 3))]) hX dX1_free_53 rfl (by decide) rfl ?_
        refine Z.goto hX 10 dX1_free_56 (by decide) ?_
        refine Z.pick [0, 1, 2, 3] rfl ?_
        exact ih_10 _ _ (by omega) (by omega) (fun j_ h_3 h_4 h_5 h_6 h_7 h_8 => ((hsw j_ h_6 h_7 h_8).trans ((fL13 j_ h_7).trans ((fL12 j_ (by omega)).trans (hM j_ h_3 h_4 h_5 h_6 h_7 h_8)))))
  refine Z.pick [0, 3, 2, 1] rfl ?_
  exact key_10 _ _ _ (Nat.lt_succ_self _) (by omega) (fun j_ h_3 h_4 h_5 h_6 h_7 h_8 => ((fL3 j_ h_6).trans rfl))

