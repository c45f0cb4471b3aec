theorem dJ6_bitCount_0f7a4_0 : decode cJ6_bitCount_0f7a4 0 = .ok (.iload_n 0, 1) := by decide +kernel
theorem dJ6_bitCount_0f7a4_1 : decode cJ6_bitCount_0f7a4 1 = .ok (.iload_n 0, 1) := by decide +kernel
theorem dJ6_bitCount_0f7a4_2 : decode cJ6_bitCount_0f7a4 2 = .ok (.iconst 1, 1) := by decide +kernel
theorem dJ6_bitCount_0f7a4_3 : decode cJ6_bitCount_0f7a4 3 = .ok (.iushr, 1) := by decide +kernel
theorem dJ6_bitCount_0f7a4_4 : decode cJ6_bitCount_0f7a4 4 = .ok (.ldc_w 265, 3) := by decide +kernel
theorem dJ6_bitCount_0f7a4_7 : decode cJ6_bitCount_0f7a4 7 = .ok (.iand, 1) := by decide +kernel
theorem dJ6_bitCount_0f7a4_8 : decode cJ6_bitCount_0f7a4 8 = .ok (.isub, 1) := by decide +kernel
theorem dJ6_bitCount_0f7a4_9 : decode cJ6_bitCount_0f7a4 9 = .ok (.istore_n 0, 1) := by decide +kernel
theorem dJ6_bitCount_0f7a4_10 : decode cJ6_bitCount_0f7a4 10 = .ok (.iload_n 0, 1) := by decide +kernel
theorem dJ6_bitCount_0f7a4_11 : decode cJ6_bitCount_0f7a4 11 = .ok (.ldc_w 266, 3) := by decide +kernel
theorem dJ6_bitCount_0f7a4_14 : decode cJ6_bitCount_0f7a4 14 = .ok (.iand, 1) := by decide +kernel
theorem dJ6_bitCount_0f7a4_15 : decode cJ6_bitCount_0f7a4 15 = .ok (.iload_n 0, 1) := by decide +kernel
theorem dJ6_bitCount_0f7a4_16 : decode cJ6_bitCount_0f7a4 16 = .ok (.iconst 2, 1) := by decide +kernel
theorem dJ6_bitCount_0f7a4_17 : decode cJ6_bitCount_0f7a4 17 = .ok (.iushr, 1) := by decide +kernel
theorem dJ6_bitCount_0f7a4_18 : decode cJ6_bitCount_0f7a4 18 = .ok (.ldc_w 266, 3) := by decide +kernel
theorem dJ6_bitCount_0f7a4_21 : decode cJ6_bitCount_0f7a4 21 = .ok (.iand, 1) := by decide +kernel
theorem dJ6_bitCount_0f7a4_22 : decode cJ6_bitCount_0f7a4 22 = .ok (.iadd, 1) := by decide +kernel
theorem dJ6_bitCount_0f7a4_23 : decode cJ6_bitCount_0f7a4 23 = .ok (.istore_n 0, 1) := by decide +kernel
theorem dJ6_bitCount_0f7a4_24 : decode cJ6_bitCount_0f7a4 24 = .ok (.iload_n 0, 1) := by decide +kernel
theorem dJ6_bitCount_0f7a4_25 : decode cJ6_bitCount_0f7a4 25 = .ok (.iload_n 0, 1) := by decide +kernel
theorem dJ6_bitCount_0f7a4_26 : decode cJ6_bitCount_0f7a4 26 = .ok (.iconst 4, 1) := by decide +kernel
theorem dJ6_bitCount_0f7a4_27 : decode cJ6_bitCount_0f7a4 27 = .ok (.iushr, 1) := by decide +kernel
theorem dJ6_bitCount_0f7a4_28 : decode cJ6_bitCount_0f7a4 28 = .ok (.iadd, 1) := by decide +kernel
theorem dJ6_bitCount_0f7a4_29 : decode cJ6_bitCount_0f7a4 29 = .ok (.ldc_w 267, 3) := by decide +kernel
theorem dJ6_bitCount_0f7a4_32 : decode cJ6_bitCount_0f7a4 32 = .ok (.iand, 1) := by decide +kernel
theorem dJ6_bitCount_0f7a4_33 : decode cJ6_bitCount_0f7a4 33 = .ok (.istore_n 0, 1) := by decide +kernel
theorem dJ6_bitCount_0f7a4_34 : decode cJ6_bitCount_0f7a4 34 = .ok (.iload_n 0, 1) := by decide +kernel
theorem dJ6_bitCount_0f7a4_35 : decode cJ6_bitCount_0f7a4 35 = .ok (.iload_n 0, 1) := by decide +kernel
theorem dJ6_bitCount_0f7a4_36 : decode cJ6_bitCount_0f7a4 36 = .ok (.bipush 8, 2) := by decide +kernel
theorem dJ6_bitCount_0f7a4_38 : decode cJ6_bitCount_0f7a4 38 = .ok (.iushr, 1) := by decide +kernel
theorem dJ6_bitCount_0f7a4_39 : decode cJ6_bitCount_0f7a4 39 = .ok (.iadd, 1) := by decide +kernel
theorem dJ6_bitCount_0f7a4_40 : decode cJ6_bitCount_0f7a4 40 = .ok (.istore_n 0, 1) := by decide +kernel
theorem dJ6_bitCount_0f7a4_41 : decode cJ6_bitCount_0f7a4 41 = .ok (.iload_n 0, 1) := by decide +kernel
theorem dJ6_bitCount_0f7a4_42 : decode cJ6_bitCount_0f7a4 42 = .ok (.iload_n 0, 1) := by decide +kernel
theorem dJ6_bitCount_0f7a4_43 : decode cJ6_bitCount_0f7a4 43 = .ok (.bipush 16, 2) := by decide +kernel
theorem dJ6_bitCount_0f7a4_45 : decode cJ6_bitCount_0f7a4 45 = .ok (.iushr, 1) := by decide +kernel
theorem dJ6_bitCount_0f7a4_46 : decode cJ6_bitCount_0f7a4 46 = .ok (.iadd, 1) := by decide +kernel
theorem dJ6_bitCount_0f7a4_47 : decode cJ6_bitCount_0f7a4 47 = .ok (.istore_n 0, 1) := by decide +kernel
theorem dJ6_bitCount_0f7a4_48 : decode cJ6_bitCount_0f7a4 48 = .ok (.iload_n 0, 1) := by decide +kernel
theorem dJ6_bitCount_0f7a4_49 : decode cJ6_bitCount_0f7a4 49 = .ok (.bipush 63, 2) := by decide +kernel
theorem dJ6_bitCount_0f7a4_51 : decode cJ6_bitCount_0f7a4 51 = .ok (.iand, 1) := by decide +kernel
theorem dJ6_bitCount_0f7a4_52 : decode cJ6_bitCount_0f7a4 52 = .ok (.ireturn, 1) := by decide +kernel
set_option maxHeartbeats 4000000 in
set_option maxRecDepth 100000 in
theorem ct_J6_bitCount_0f7a4 (l : Launch) (D : va_G) (ce : Nat → ClassId) (a : Int) (ha : 0 ≤ a ∧ a < 16) : Ct l yJ6_bitCount_0f7a4 cJ6_bitCount_0f7a4 1 (some .int) { frames := 0, cells := 0, slots := 0, locals := 0 } 0 0 D (TY ce) [.int (zI a)] ([]) (QI D (TY ce) (fun r w1 => ∃ z : Int, r = zI z ∧ w1 = [] ∧ (z = pc8 a.toNat))) := by
  refine Ct.ofI (by decide) (Nat.le_of_ble_eq_true rfl) ?_
  intro p e s m args below meth c A Q hX hnm hR
  refine Z.pick (lv' := [(0, .int (zI a))]) [0] rfl ?_
  refine Z.iload_n hX dJ6_bitCount_0f7a4_0 rfl rfl ?_
  refine Z.iload_n hX dJ6_bitCount_0f7a4_1 rfl rfl ?_
  refine Z.iconst hX dJ6_bitCount_0f7a4_2 ?_
  refine Z.iushr hX dJ6_bitCount_0f7a4_3 ?_
  refine Z.ldcw hX dJ6_bitCount_0f7a4_4 co_J6_265 ?_
  refine Z.iand hX dJ6_bitCount_0f7a4_7 ?_
  refine Z.isubR hX dJ6_bitCount_0f7a4_8 ?_
  obtain ⟨x1, ex1⟩ : ∃ y : Int32, y = zI a - ((((zI a).toUInt32 >>> ((zI 1).toUInt32 &&& Int32.toUInt32 31)).toInt32) &&& 1431655765) := ⟨_, rfl⟩
  rw [← ex1]
  refine Z.istore_n (lv' := [(0, .int (x1))]) hX dJ6_bitCount_0f7a4_9 rfl (by decide) rfl ?_
  refine Z.iload_n hX dJ6_bitCount_0f7a4_10 rfl rfl ?_
  refine Z.ldcw hX dJ6_bitCount_0f7a4_11 co_J6_266 ?_
  refine Z.iand hX dJ6_bitCount_0f7a4_14 ?_
  refine Z.iload_n hX dJ6_bitCount_0f7a4_15 rfl rfl ?_
  refine Z.iconst hX dJ6_bitCount_0f7a4_16 ?_
  refine Z.iushr hX dJ6_bitCount_0f7a4_17 ?_
  refine Z.ldcw hX dJ6_bitCount_0f7a4_18 co_J6_266 ?_
  refine Z.iand hX dJ6_bitCount_0f7a4_21 ?_
  refine Z.iaddR hX dJ6_bitCount_0f7a4_22 ?_
  obtain ⟨x2, ex2⟩ : ∃ y : Int32, y = (x1 &&& 858993459) + (((x1.toUInt32 >>> ((zI 2).toUInt32 &&& Int32.toUInt32 31)).toInt32) &&& 858993459) := ⟨_, rfl⟩
  rw [← ex2]
  refine Z.istore_n (lv' := [(0, .int (x2))]) hX dJ6_bitCount_0f7a4_23 rfl (by decide) rfl ?_
  refine Z.iload_n hX dJ6_bitCount_0f7a4_24 rfl rfl ?_
  refine Z.iload_n hX dJ6_bitCount_0f7a4_25 rfl rfl ?_
  refine Z.iconst hX dJ6_bitCount_0f7a4_26 ?_
  refine Z.iushr hX dJ6_bitCount_0f7a4_27 ?_
  refine Z.iaddR hX dJ6_bitCount_0f7a4_28 ?_
  refine Z.ldcw hX dJ6_bitCount_0f7a4_29 co_J6_267 ?_
  refine Z.iand hX dJ6_bitCount_0f7a4_32 ?_
  obtain ⟨x3, ex3⟩ : ∃ y : Int32, y = (x2 + ((x2.toUInt32 >>> ((zI 4).toUInt32 &&& Int32.toUInt32 31)).toInt32)) &&& 252645135 := ⟨_, rfl⟩
  rw [← ex3]
  refine Z.istore_n (lv' := [(0, .int (x3))]) hX dJ6_bitCount_0f7a4_33 rfl (by decide) rfl ?_
  refine Z.iload_n hX dJ6_bitCount_0f7a4_34 rfl rfl ?_
  refine Z.iload_n hX dJ6_bitCount_0f7a4_35 rfl rfl ?_
  refine Z.bipush hX dJ6_bitCount_0f7a4_36 (by decide) ?_
  refine Z.iushr hX dJ6_bitCount_0f7a4_38 ?_
  refine Z.iaddR hX dJ6_bitCount_0f7a4_39 ?_
  obtain ⟨x4, ex4⟩ : ∃ y : Int32, y = x3 + ((x3.toUInt32 >>> ((zI 8).toUInt32 &&& Int32.toUInt32 31)).toInt32) := ⟨_, rfl⟩
  rw [← ex4]
  refine Z.istore_n (lv' := [(0, .int (x4))]) hX dJ6_bitCount_0f7a4_40 rfl (by decide) rfl ?_
  refine Z.iload_n hX dJ6_bitCount_0f7a4_41 rfl rfl ?_
  refine Z.iload_n hX dJ6_bitCount_0f7a4_42 rfl rfl ?_
  refine Z.bipush hX dJ6_bitCount_0f7a4_43 (by decide) ?_
  refine Z.iushr hX dJ6_bitCount_0f7a4_45 ?_
  refine Z.iaddR hX dJ6_bitCount_0f7a4_46 ?_
  obtain ⟨x5, ex5⟩ : ∃ y : Int32, y = x4 + ((x4.toUInt32 >>> ((zI 16).toUInt32 &&& Int32.toUInt32 31)).toInt32) := ⟨_, rfl⟩
  rw [← ex5]
  refine Z.istore_n (lv' := [(0, .int (x5))]) hX dJ6_bitCount_0f7a4_47 rfl (by decide) rfl ?_
  refine Z.iload_n hX dJ6_bitCount_0f7a4_48 rfl rfl ?_
  refine Z.bipush hX dJ6_bitCount_0f7a4_49 (by decide) ?_
  refine Z.iand hX dJ6_bitCount_0f7a4_51 ?_
  refine Z.vali (y := zI ((pc8 a.toNat : Int))) (bc_all ha ex1 ex2 ex3 ex4 ex5) ?_
  exact hR _ _ _ _ dJ6_bitCount_0f7a4_52 ⟨((pc8 a.toNat : Int)), rfl, rfl, rfl⟩

theorem dX2_setScaledLine_0 : decode cX2_setScaledLine 0 = .ok (.aload_n 0, 1) := by decide +kernel
theorem dX2_setScaledLine_1 : decode cX2_setScaledLine 1 = .ok (.lload_n 3, 1) := by decide +kernel
theorem dX2_setScaledLine_2 : decode cX2_setScaledLine 2 = .ok (.aload_n 1, 1) := by decide +kernel
theorem dX2_setScaledLine_3 : decode cX2_setScaledLine 3 = .ok (.getfield 37, 3) := by decide +kernel
theorem dX2_setScaledLine_6 : decode cX2_setScaledLine 6 = .ok (.iconst 0, 1) := by decide +kernel
theorem dX2_setScaledLine_7 : decode cX2_setScaledLine 7 = .ok (.aaload, 1) := by decide +kernel
theorem dX2_setScaledLine_8 : decode cX2_setScaledLine 8 = .ok (.iload_n 2, 1) := by decide +kernel
theorem dX2_setScaledLine_9 : decode cX2_setScaledLine 9 = .ok (.laload, 1) := by decide +kernel
theorem dX2_setScaledLine_10 : decode cX2_setScaledLine 10 = .ok (.lmul, 1) := by decide +kernel
theorem dX2_setScaledLine_11 : decode cX2_setScaledLine 11 = .ok (.lload_n 3, 1) := by decide +kernel
theorem dX2_setScaledLine_12 : decode cX2_setScaledLine 12 = .ok (.aload_n 1, 1) := by decide +kernel
theorem dX2_setScaledLine_13 : decode cX2_setScaledLine 13 = .ok (.getfield 37, 3) := by decide +kernel
theorem dX2_setScaledLine_16 : decode cX2_setScaledLine 16 = .ok (.iconst 1, 1) := by decide +kernel
theorem dX2_setScaledLine_17 : decode cX2_setScaledLine 17 = .ok (.aaload, 1) := by decide +kernel
theorem dX2_setScaledLine_18 : decode cX2_setScaledLine 18 = .ok (.iload_n 2, 1) := by decide +kernel
theorem dX2_setScaledLine_19 : decode cX2_setScaledLine 19 = .ok (.laload, 1) := by decide +kernel
theorem dX2_setScaledLine_20 : decode cX2_setScaledLine 20 = .ok (.lmul, 1) := by decide +kernel
theorem dX2_setScaledLine_21 : decode cX2_setScaledLine 21 = .ok (.lload_n 3, 1) := by decide +kernel
theorem dX2_setScaledLine_22 : decode cX2_setScaledLine 22 = .ok (.aload_n 1, 1) := by decide +kernel
theorem dX2_setScaledLine_23 : decode cX2_setScaledLine 23 = .ok (.getfield 37, 3) := by decide +kernel
theorem dX2_setScaledLine_26 : decode cX2_setScaledLine 26 = .ok (.iconst 2, 1) := by decide +kernel
theorem dX2_setScaledLine_27 : decode cX2_setScaledLine 27 = .ok (.aaload, 1) := by decide +kernel
theorem dX2_setScaledLine_28 : decode cX2_setScaledLine 28 = .ok (.iload_n 2, 1) := by decide +kernel
theorem dX2_setScaledLine_29 : decode cX2_setScaledLine 29 = .ok (.laload, 1) := by decide +kernel
theorem dX2_setScaledLine_30 : decode cX2_setScaledLine 30 = .ok (.lmul, 1) := by decide +kernel
theorem dX2_setScaledLine_31 : decode cX2_setScaledLine 31 = .ok (.invokevirtual 41, 3) := by decide +kernel
theorem dX2_setScaledLine_34 : decode cX2_setScaledLine 34 = .ok (.return_, 1) := by decide +kernel
set_option maxHeartbeats 4000000 in
set_option maxRecDepth 100000 in
theorem ct_X2_setScaledLine (l : Launch) (D : va_G) (ce : Nat → ClassId) (h pl ar : Nat → Nat) (G : Nat → Int) (L : Nat → Nat → Int64) (B : Nat → Int) (J : Nat → Nat → Int64) (k : Nat) (i : Int) (sc : Int64) (hB : BOK B) (hk : k < 42) (hi : 0 ≤ i ∧ i ≤ 4) : Ct l yX2_setScaledLine cX2_setScaledLine 5 none { frames := 3, cells := 0, slots := 0, locals := 70 } 0 0 D (TY ce) [.ref (pl k), .ref (h 1), .int (zI i), .long sc] (cW ce h pl ar G L B J) (QV D (TY ce) (fun w1 => ∃ B2 : Nat → Int, ∃ J2 : Nat → Nat → Int64, w1 = cW ce h pl ar G L B2 J2 ∧ (BOK B2))) := by
  refine Ct.ofV (by decide) (Nat.le_of_ble_eq_true rfl) ?_
  intro p e s m args below meth c A Q hX hnm hR
  refine Z.pick (lv' := [(0, .ref (pl k)), (1, .ref (h 1)), (2, .int (zI i)), (3, .long sc)]) [0, 1, 2, 3] rfl ?_
  refine Z.aload_n hX dX2_setScaledLine_0 rfl rfl ?_
  refine Z.lload_n hX dX2_setScaledLine_1 rfl rfl ?_
  refine Z.aload_n hX dX2_setScaledLine_2 rfl rfl ?_
  refine Z.getf hX 5 1 0 dX2_setScaledLine_3 rfl rfl inX5 (by decide) fl_X2_37 rfl rfl ?_
  refine Z.iconst hX dX2_setScaledLine_6 ?_
  refine Z.aaload hX 9 3 dX2_setScaledLine_7 rfl rfl rfl (by omega) (by omega) (by decide) rfl ?_
  refine Z.iload_n hX dX2_setScaledLine_8 rfl rfl ?_
  refine Z.laload hX (18 + 0) 1 dX2_setScaledLine_9 (cW_in (by decide)) rfl (by omega) (by omega) (by decide) ?_
  refine Z.lmul hX dX2_setScaledLine_10 ?_
  refine Z.lload_n hX dX2_setScaledLine_11 rfl rfl ?_
  refine Z.aload_n hX dX2_setScaledLine_12 rfl rfl ?_
  refine Z.getf hX 5 1 0 dX2_setScaledLine_13 rfl rfl inX5 (by decide) fl_X2_37 rfl rfl ?_
  refine Z.iconst hX dX2_setScaledLine_16 ?_
  refine Z.aaload hX 9 3 dX2_setScaledLine_17 rfl rfl rfl (by omega) (by omega) (by decide) rfl ?_
  refine Z.iload_n hX dX2_setScaledLine_18 rfl rfl ?_
  refine Z.laload hX (18 + 1) 1 dX2_setScaledLine_19 (cW_in (by decide)) rfl (by omega) (by omega) (by decide) ?_
  refine Z.lmul hX dX2_setScaledLine_20 ?_
  refine Z.lload_n hX dX2_setScaledLine_21 rfl rfl ?_
  refine Z.aload_n hX dX2_setScaledLine_22 rfl rfl ?_
  refine Z.getf hX 5 1 0 dX2_setScaledLine_23 rfl rfl inX5 (by decide) fl_X2_37 rfl rfl ?_
  refine Z.iconst hX dX2_setScaledLine_26 ?_
  refine Z.aaload hX 9 3 dX2_setScaledLine_27 rfl rfl rfl (by omega) (by omega) (by decide) rfl ?_
  refine Z.iload_n hX dX2_setScaledLine_28 rfl rfl ?_
  refine Z.laload hX (18 + 2) 1 dX2_setScaledLine_29 (cW_in (by decide)) rfl (by omega) (by omega) (by decide) ?_
  refine Z.lmul hX dX2_setScaledLine_30 ?_
  refine Z.callVfv (As := [.long (sc * (L 0 (i : Int).toNat)), .long (sc * (L 1 (i : Int).toNat)), .long (sc * (L 2 (i : Int).toNat))]) (rest := []) hX 3 (24 + k) rfl (cW_pl (by omega)) (ct_X3_setLine l D ce h pl ar G L B J k (sc * (L 0 (i : Int).toNat)) (sc * (L 1 (i : Int).toNat)) (sc * (L 2 (i : Int).toNat)) hk hB) mc_X3_setLine ml_X2_41 im_X3_setLine se_X3_setLine ini_X3 nd_X3_setLine ⟨Nat.le_of_ble_eq_true rfl, Nat.le_of_ble_eq_true rfl⟩ ⟨rfl, rfl⟩ ⟨Nat.le_refl _, Nat.le_refl _⟩ rfl (Nat.le_of_ble_eq_true rfl) dX2_setScaledLine_31 ?_
  rintro w1 ⟨B22, J23, hw_, hs1, hs2, hs3, hs4⟩
  subst hw_
  exact hR _ _ _ dX2_setScaledLine_34 ⟨B22, J23, rfl, hs3⟩

theorem dX2_takeMover_0 : decode cX2_takeMover 0 = .ok (.aload_n 1, 1) := by decide +kernel
theorem dX2_takeMover_1 : decode cX2_takeMover 1 = .ok (.iconst 2, 1) := by decide +kernel
theorem dX2_takeMover_2 : decode cX2_takeMover 2 = .ok (.invokevirtual 27, 3) := by decide +kernel
theorem dX2_takeMover_5 : decode cX2_takeMover 5 = .ok (.ifCond .eq 7, 3) := by decide +kernel
theorem dX2_takeMover_8 : decode cX2_takeMover 8 = .ok (.iconst 0, 1) := by decide +kernel
theorem dX2_takeMover_9 : decode cX2_takeMover 9 = .ok (.goto 7, 3) := by decide +kernel
theorem dX2_takeMover_12 : decode cX2_takeMover 12 = .ok (.aload_n 1, 1) := by decide +kernel
theorem dX2_takeMover_13 : decode cX2_takeMover 13 = .ok (.invokevirtual 33, 3) := by decide +kernel
theorem dX2_takeMover_16 : decode cX2_takeMover 16 = .ok (.istore_n 2, 1) := by decide +kernel
theorem dX2_takeMover_17 : decode cX2_takeMover 17 = .ok (.iconst 0, 1) := by decide +kernel
theorem dX2_takeMover_18 : decode cX2_takeMover 18 = .ok (.istore_n 3, 1) := by decide +kernel
theorem dX2_takeMover_19 : decode cX2_takeMover 19 = .ok (.iload_n 3, 1) := by decide +kernel
theorem dX2_takeMover_20 : decode cX2_takeMover 20 = .ok (.iload_n 2, 1) := by decide +kernel
theorem dX2_takeMover_21 : decode cX2_takeMover 21 = .ok (.if_icmp .gt 63, 3) := by decide +kernel
theorem dX2_takeMover_24 : decode cX2_takeMover 24 = .ok (.aload_n 0, 1) := by decide +kernel
theorem dX2_takeMover_25 : decode cX2_takeMover 25 = .ok (.getfield 11, 3) := by decide +kernel
theorem dX2_takeMover_28 : decode cX2_takeMover 28 = .ok (.iload_n 3, 1) := by decide +kernel
theorem dX2_takeMover_29 : decode cX2_takeMover 29 = .ok (.aaload, 1) := by decide +kernel
theorem dX2_takeMover_30 : decode cX2_takeMover 30 = .ok (.aload_n 1, 1) := by decide +kernel
theorem dX2_takeMover_31 : decode cX2_takeMover 31 = .ok (.getfield 37, 3) := by decide +kernel
theorem dX2_takeMover_34 : decode cX2_takeMover 34 = .ok (.iconst 2, 1) := by decide +kernel
theorem dX2_takeMover_35 : decode cX2_takeMover 35 = .ok (.aaload, 1) := by decide +kernel
theorem dX2_takeMover_36 : decode cX2_takeMover 36 = .ok (.iload_n 3, 1) := by decide +kernel
theorem dX2_takeMover_37 : decode cX2_takeMover 37 = .ok (.laload, 1) := by decide +kernel
theorem dX2_takeMover_38 : decode cX2_takeMover 38 = .ok (.lneg, 1) := by decide +kernel
theorem dX2_takeMover_39 : decode cX2_takeMover 39 = .ok (.lconst 0, 1) := by decide +kernel
theorem dX2_takeMover_40 : decode cX2_takeMover 40 = .ok (.aload_n 1, 1) := by decide +kernel
theorem dX2_takeMover_41 : decode cX2_takeMover 41 = .ok (.getfield 37, 3) := by decide +kernel
theorem dX2_takeMover_44 : decode cX2_takeMover 44 = .ok (.iconst 0, 1) := by decide +kernel
theorem dX2_takeMover_45 : decode cX2_takeMover 45 = .ok (.aaload, 1) := by decide +kernel
theorem dX2_takeMover_46 : decode cX2_takeMover 46 = .ok (.iload_n 3, 1) := by decide +kernel
theorem dX2_takeMover_47 : decode cX2_takeMover 47 = .ok (.laload, 1) := by decide +kernel
theorem dX2_takeMover_48 : decode cX2_takeMover 48 = .ok (.invokevirtual 41, 3) := by decide +kernel
theorem dX2_takeMover_51 : decode cX2_takeMover 51 = .ok (.aload_n 0, 1) := by decide +kernel
theorem dX2_takeMover_52 : decode cX2_takeMover 52 = .ok (.getfield 17, 3) := by decide +kernel
theorem dX2_takeMover_55 : decode cX2_takeMover 55 = .ok (.iload_n 3, 1) := by decide +kernel
theorem dX2_takeMover_56 : decode cX2_takeMover 56 = .ok (.aaload, 1) := by decide +kernel
theorem dX2_takeMover_57 : decode cX2_takeMover 57 = .ok (.lconst 0, 1) := by decide +kernel
theorem dX2_takeMover_58 : decode cX2_takeMover 58 = .ok (.aload_n 1, 1) := by decide +kernel
theorem dX2_takeMover_59 : decode cX2_takeMover 59 = .ok (.getfield 37, 3) := by decide +kernel
theorem dX2_takeMover_62 : decode cX2_takeMover 62 = .ok (.iconst 2, 1) := by decide +kernel
theorem dX2_takeMover_63 : decode cX2_takeMover 63 = .ok (.aaload, 1) := by decide +kernel
theorem dX2_takeMover_64 : decode cX2_takeMover 64 = .ok (.iload_n 3, 1) := by decide +kernel
theorem dX2_takeMover_65 : decode cX2_takeMover 65 = .ok (.laload, 1) := by decide +kernel
theorem dX2_takeMover_66 : decode cX2_takeMover 66 = .ok (.lneg, 1) := by decide +kernel
theorem dX2_takeMover_67 : decode cX2_takeMover 67 = .ok (.aload_n 1, 1) := by decide +kernel
theorem dX2_takeMover_68 : decode cX2_takeMover 68 = .ok (.getfield 37, 3) := by decide +kernel
theorem dX2_takeMover_71 : decode cX2_takeMover 71 = .ok (.iconst 1, 1) := by decide +kernel
theorem dX2_takeMover_72 : decode cX2_takeMover 72 = .ok (.aaload, 1) := by decide +kernel
theorem dX2_takeMover_73 : decode cX2_takeMover 73 = .ok (.iload_n 3, 1) := by decide +kernel
theorem dX2_takeMover_74 : decode cX2_takeMover 74 = .ok (.laload, 1) := by decide +kernel
theorem dX2_takeMover_75 : decode cX2_takeMover 75 = .ok (.invokevirtual 41, 3) := by decide +kernel
theorem dX2_takeMover_78 : decode cX2_takeMover 78 = .ok (.iinc 3 1, 3) := by decide +kernel
theorem dX2_takeMover_81 : decode cX2_takeMover 81 = .ok (.goto (-62), 3) := by decide +kernel
theorem dX2_takeMover_84 : decode cX2_takeMover 84 = .ok (.iload_n 2, 1) := by decide +kernel
theorem dX2_takeMover_85 : decode cX2_takeMover 85 = .ok (.ireturn, 1) := by decide +kernel
set_option maxHeartbeats 4000000 in
set_option maxRecDepth 100000 in
theorem ct_X2_takeMover (l : Launch) (D : va_G) (ce : Nat → ClassId) (h pl ar : Nat → Nat) (G : Nat → Int) (L : Nat → Nat → Int64) (B : Nat → Int) (J : Nat → Nat → Int64) (hB : BOK B) : Ct l yX2_takeMover cX2_takeMover 4 (some .int) { frames := 3, cells := 0, slots := 0, locals := 70 } 0 0 D (TY ce) [.ref (h 4), .ref (h 2)] (cW ce h pl ar G L B J) (QI D (TY ce) (fun r w1 => ∃ z : Int, ∃ B2 : Nat → Int, ∃ J2 : Nat → Nat → Int64, r = zI z ∧ w1 = cW ce h pl ar G L B2 J2 ∧ (BOK B2) ∧ (0 ≤ z ∧ z ≤ 4))) := by
  refine Ct.ofI (by decide) (Nat.le_of_ble_eq_true rfl) ?_
  intro p e s m args below meth c A Q hX hnm hR
  refine Z.pick (lv' := [(0, .ref (h 4)), (1, .ref (h 2))]) [0, 1] rfl ?_
  have key_16 : ∀ (tp : Int), (ht : 0 ≤ tp ∧ tp ≤ 4) → Z p l e { frames := 3, cells := 0, slots := 0, locals := 70 } s m args below meth c D A 4 0 0 Q 16 [(1, .ref (h 2)), (0, .ref (h 4))] [.int (zI tp)] (cW ce h pl ar G L B J) := by
    intro tp ht
    refine Z.istore_n (lv' := [(2, .int (zI tp)), (1, .ref (h 2)), (0, .ref (h 4))]) hX dX2_takeMover_16 rfl (by decide) rfl ?_
    refine Z.iconst hX dX2_takeMover_17 ?_
    refine Z.istore_n (lv' := [(3, .int (zI 0)), (2, .int (zI tp)), (1, .ref (h 2)), (0, .ref (h 4))]) hX dX2_takeMover_18 rfl (by decide) rfl ?_
    have key_19 : ∀ (N : Nat), ∀ (i : Int) (BB : Nat → Int) (MM : Nat → Nat → Int64), (tp + 1 - i).toNat < N → (hi : 0 ≤ i ∧ i ≤ tp + 1) → (hM : BOK BB) → Z p l e { frames := 3, cells := 0, slots := 0, locals := 70 } s m args below meth c D A 4 0 0 Q 19 [(3, .int (zI i)), (2, .int (zI tp)), (1, .ref (h 2)), (0, .ref (h 4))] [] (cW ce h pl ar G L BB MM) := by
      intro N
      induction N with
      | zero => intro i BB MM hm; exact absurd hm (Nat.not_lt_zero _)
      | succ N ih_19 =>
        intro i BB MM hm hi hM
        refine Z.iload_n hX dX2_takeMover_19 rfl rfl ?_
        refine Z.iload_n hX dX2_takeMover_20 rfl rfl ?_
        refine Z.icmp_gt hX 84 dX2_takeMover_21 (by decide) ⟨by omega, by omega⟩ ⟨by omega, by omega⟩ ?_ ?_
        · intro c1
          refine Z.iload_n hX dX2_takeMover_84 rfl rfl ?_
          exact hR _ _ _ _ dX2_takeMover_85 ⟨tp, BB, MM, rfl, rfl, hM, (by omega)⟩
        · intro c1
          refine Z.aload_n hX dX2_takeMover_24 rfl rfl ?_
          refine Z.getf hX 2 4 0 dX2_takeMover_25 rfl rfl inX2 (by decide) fl_X2_11 rfl rfl ?_
          refine Z.iload_n hX dX2_takeMover_28 rfl rfl ?_
          refine Z.aaload hX 14 4 dX2_takeMover_29 rfl rfl rfl (by omega) (by omega) (by decide) rfl ?_
          refine Z.aload_n hX dX2_takeMover_30 rfl rfl ?_
          refine Z.getf hX 5 2 0 dX2_takeMover_31 rfl rfl inX5 (by decide) fl_X2_37 rfl rfl ?_
          refine Z.iconst hX dX2_takeMover_34 ?_
          refine Z.aaload hX 10 3 dX2_takeMover_35 rfl rfl rfl (by omega) (by omega) (by decide) rfl ?_
          refine Z.iload_n hX dX2_takeMover_36 rfl rfl ?_
          refine Z.laload hX (18 + (3 + 2)) 1 dX2_takeMover_37 (cW_in (by omega)) rfl (by omega) (by omega) (by decide) ?_
          refine Z.lneg hX dX2_takeMover_38 ?_
          refine Z.lconst (v := 0) hX dX2_takeMover_39 rfl ?_
          refine Z.aload_n hX dX2_takeMover_40 rfl rfl ?_
          refine Z.getf hX 5 2 0 dX2_takeMover_41 rfl rfl inX5 (by decide) fl_X2_37 rfl rfl ?_
          refine Z.iconst hX dX2_takeMover_44 ?_
          refine Z.aaload hX 10 3 dX2_takeMover_45 rfl rfl rfl (by omega) (by omega) (by decide) rfl ?_
          refine Z.iload_n hX dX2_takeMover_46 rfl rfl ?_
          refine Z.laload hX (18 + (3 + 0)) 1 dX2_takeMover_47 (cW_in (by omega)) rfl (by omega) (by omega) (by decide) ?_
          refine Z.callVfv (As := [.long (-(L ((3 + 2)) (i : Int).toNat)), .long 0, .long (L ((3 + 0)) (i : Int).toNat)]) (rest := []) hX 3 (24 + (i : Int).toNat) rfl (cW_pl (by omega)) (ct_X3_setLine l D ce h pl ar G L BB MM ((i : Int).toNat) (-(L ((3 + 2)) (i : Int).toNat)) 0 (L ((3 + 0)) (i : Int).toNat) (by omega) hM) mc_X3_setLine ml_X2_41 im_X3_setLine se_X3_setLine ini_X3 nd_X3_setLine ⟨Nat.le_of_ble_eq_true rfl, Nat.le_of_ble_eq_true rfl⟩ ⟨rfl, rfl⟩ ⟨Nat.le_refl _, Nat.le_refl _⟩ rfl (Nat.le_of_ble_eq_true rfl) dX2_takeMover_48 ?_
          rintro w1 ⟨B23, J24, hw_, hs1, hs2, hs3, hs4⟩
          subst hw_
          refine Z.aload_n hX dX2_takeMover_51 rfl rfl ?_
          refine Z.getf hX 2 4 1 dX2_takeMover_52 rfl rfl inX2 (by decide) fl_X2_17 rfl rfl ?_
          refine Z.iload_n hX dX2_takeMover_55 rfl rfl ?_
          refine Z.aaload hX 15 4 dX2_takeMover_56 rfl rfl rfl (by omega) (by omega) (by decide) rfl ?_
          refine Z.lconst (v := 0) hX dX2_takeMover_57 rfl ?_
          refine Z.aload_n hX dX2_takeMover_58 rfl rfl ?_
          refine Z.getf hX 5 2 0 dX2_takeMover_59 rfl rfl inX5 (by decide) fl_X2_37 rfl rfl ?_
          refine Z.iconst hX dX2_takeMover_62 ?_
          refine Z.aaload hX 10 3 dX2_takeMover_63 rfl rfl rfl (by omega) (by omega) (by decide) rfl ?_
          refine Z.iload_n hX dX2_takeMover_64 rfl rfl ?_
          refine Z.laload hX (18 + (3 + 2)) 1 dX2_takeMover_65 (cW_in (by omega)) rfl (by omega) (by omega) (by decide) ?_
          refine Z.lneg hX dX2_takeMover_66 ?_
          refine Z.aload_n hX dX2_takeMover_67 rfl rfl ?_
          refine Z.getf hX 5 2 0 dX2_takeMover_68 rfl rfl inX5 (by decide) fl_X2_37 rfl rfl ?_
          refine Z.iconst hX dX2_takeMover_71 ?_
          refine Z.aaload hX 10 3 dX2_takeMover_72 rfl rfl rfl (by omega) (by omega) (by decide) rfl ?_
          refine Z.iload_n hX dX2_takeMover_73 rfl rfl ?_
          refine Z.laload hX (18 + (3 + 1)) 1 dX2_takeMover_74 (cW_in (by omega)) rfl (by omega) (by omega) (by decide) ?_
          refine Z.callVfv (As := [.long 0, .long (-(L ((3 + 2)) (i : Int).toNat)), .long (L ((3 + 1)) (i : Int).toNat)]) (rest := []) hX 3 (24 + (5 + (i : Int).toNat)) rfl (cW_pl (by omega)) (ct_X3_setLine l D ce h pl ar G L B23 J24 ((5 + (i : Int).toNat)) 0 (-(L ((3 + 2)) (i : Int).toNat)) (L ((3 + 1)) (i : Int).toNat) (by omega) hs3) mc_X3_setLine ml_X2_41 im_X3_setLine se_X3_setLine ini_X3 nd_X3_setLine ⟨Nat.le_of_ble_eq_true rfl, Nat.le_of_ble_eq_true rfl⟩ ⟨rfl, rfl⟩ ⟨Nat.le_refl _, Nat.le_refl _⟩ rfl (Nat.le_of_ble_eq_true rfl) dX2_takeMover_75 ?_
          rintro w1 ⟨B26, J27, hw_, ht1, ht2, ht3, ht4⟩
          subst hw_
          refine Z.iinc (lv' := [(3, .int (zI (i + 1))), (2, .int (zI tp)), (1, .ref (h 2)), (0, .ref (h 4))]) hX dX2_takeMover_78 rfl (by decide) rfl ?_
          refine Z.goto hX 19 dX2_takeMover_81 (by decide) ?_
          refine Z.pick [0, 1, 2, 3] rfl ?_
          exact ih_19 _ _ _ (by omega) (by omega) ht3
    refine Z.pick [0, 1, 2, 3] rfl ?_
    exact key_19 _ _ _ _ (Nat.lt_succ_self _) (by omega) hB
  refine Z.aload_n hX dX2_takeMover_0 rfl rfl ?_
  refine Z.iconst hX dX2_takeMover_1 ?_
  refine Z.callVfi (As := [.int (zI 2)]) (rest := []) hX 5 2 rfl rfl (ct_X5_isZero_f l D ce h pl ar G L B J 2 (by omega)) mc_X5_isZero ml_X2_27 im_X5_isZero se_X5_isZero ini_X5 nd_X5_isZero ⟨Nat.le_of_ble_eq_true rfl, Nat.le_of_ble_eq_true rfl⟩ ⟨rfl, rfl⟩ ⟨Nat.le_refl _, Nat.le_refl _⟩ rfl (Nat.le_of_ble_eq_true rfl) dX2_takeMover_2 ?_
  rintro r_8 w1 ⟨z9, hr_, hw_, hq10⟩
  subst hr_
  subst hw_
  refine Z.if_eq hX 12 dX2_takeMover_5 (by decide) ⟨by omega, by omega⟩ ?_ ?_
  · intro c11
    refine Z.aload_n hX dX2_takeMover_12 rfl rfl ?_
    refine Z.callVfi (As := []) (rest := []) hX 5 2 rfl rfl (ct_X5_highestPower_f l D ce h pl ar G L B J ) mc_X5_highestPower ml_X2_33 im_X5_highestPower se_X5_highestPower ini_X5 nd_X5_highestPower ⟨Nat.le_of_ble_eq_true rfl, Nat.le_of_ble_eq_true rfl⟩ ⟨rfl, rfl⟩ ⟨Nat.le_refl _, Nat.le_refl _⟩ rfl (Nat.le_of_ble_eq_true rfl) dX2_takeMover_13 ?_
    rintro r_12 w1 ⟨z13, hr_, hw_, hq14, hq15, hq16⟩
    subst hr_
    subst hw_
    refine Z.pick [1, 0] rfl ?_
    exact key_16 _ (by omega)
  · intro c11
    refine Z.iconst hX dX2_takeMover_8 ?_
    refine Z.goto hX 16 dX2_takeMover_9 (by decide) ?_
    refine Z.pick [1, 0] rfl ?_
    exact key_16 _ (by omega)

theorem dX2_takeLines_0 : decode cX2_takeLines 0 = .ok (.aload_n 1, 1) := by decide +kernel
theorem dX2_takeLines_1 : decode cX2_takeLines 1 = .ok (.invokevirtual 33, 3) := by decide +kernel
theorem dX2_takeLines_4 : decode cX2_takeLines 4 = .ok (.istore_n 2, 1) := by decide +kernel
theorem dX2_takeLines_5 : decode cX2_takeLines 5 = .ok (.iconst 0, 1) := by decide +kernel
theorem dX2_takeLines_6 : decode cX2_takeLines 6 = .ok (.istore_n 3, 1) := by decide +kernel
theorem dX2_takeLines_7 : decode cX2_takeLines 7 = .ok (.iload_n 3, 1) := by decide +kernel
theorem dX2_takeLines_8 : decode cX2_takeLines 8 = .ok (.iload_n 2, 1) := by decide +kernel
theorem dX2_takeLines_9 : decode cX2_takeLines 9 = .ok (.if_icmp .ge 41, 3) := by decide +kernel
theorem dX2_takeLines_12 : decode cX2_takeLines 12 = .ok (.aload_n 0, 1) := by decide +kernel
theorem dX2_takeLines_13 : decode cX2_takeLines 13 = .ok (.getfield 11, 3) := by decide +kernel
theorem dX2_takeLines_16 : decode cX2_takeLines 16 = .ok (.iload_n 3, 1) := by decide +kernel
theorem dX2_takeLines_17 : decode cX2_takeLines 17 = .ok (.aaload, 1) := by decide +kernel
theorem dX2_takeLines_18 : decode cX2_takeLines 18 = .ok (.aload_n 1, 1) := by decide +kernel
theorem dX2_takeLines_19 : decode cX2_takeLines 19 = .ok (.iload_n 3, 1) := by decide +kernel
theorem dX2_takeLines_20 : decode cX2_takeLines 20 = .ok (.iconst 1, 1) := by decide +kernel
theorem dX2_takeLines_21 : decode cX2_takeLines 21 = .ok (.iadd, 1) := by decide +kernel
theorem dX2_takeLines_22 : decode cX2_takeLines 22 = .ok (.iload_n 3, 1) := by decide +kernel
theorem dX2_takeLines_23 : decode cX2_takeLines 23 = .ok (.iconst 1, 1) := by decide +kernel
theorem dX2_takeLines_24 : decode cX2_takeLines 24 = .ok (.iadd, 1) := by decide +kernel
theorem dX2_takeLines_25 : decode cX2_takeLines 25 = .ok (.i2l, 1) := by decide +kernel
theorem dX2_takeLines_26 : decode cX2_takeLines 26 = .ok (.invokestatic 45, 3) := by decide +kernel
theorem dX2_takeLines_29 : decode cX2_takeLines 29 = .ok (.aload_n 0, 1) := by decide +kernel
theorem dX2_takeLines_30 : decode cX2_takeLines 30 = .ok (.getfield 17, 3) := by decide +kernel
theorem dX2_takeLines_33 : decode cX2_takeLines 33 = .ok (.iload_n 3, 1) := by decide +kernel
theorem dX2_takeLines_34 : decode cX2_takeLines 34 = .ok (.aaload, 1) := by decide +kernel
theorem dX2_takeLines_35 : decode cX2_takeLines 35 = .ok (.aload_n 1, 1) := by decide +kernel
theorem dX2_takeLines_36 : decode cX2_takeLines 36 = .ok (.iload_n 3, 1) := by decide +kernel
theorem dX2_takeLines_37 : decode cX2_takeLines 37 = .ok (.iload_n 2, 1) := by decide +kernel
theorem dX2_takeLines_38 : decode cX2_takeLines 38 = .ok (.iload_n 3, 1) := by decide +kernel
theorem dX2_takeLines_39 : decode cX2_takeLines 39 = .ok (.isub, 1) := by decide +kernel
theorem dX2_takeLines_40 : decode cX2_takeLines 40 = .ok (.i2l, 1) := by decide +kernel
theorem dX2_takeLines_41 : decode cX2_takeLines 41 = .ok (.invokestatic 45, 3) := by decide +kernel
theorem dX2_takeLines_44 : decode cX2_takeLines 44 = .ok (.iinc 3 1, 3) := by decide +kernel
theorem dX2_takeLines_47 : decode cX2_takeLines 47 = .ok (.goto (-40), 3) := by decide +kernel
theorem dX2_takeLines_50 : decode cX2_takeLines 50 = .ok (.iload_n 2, 1) := by decide +kernel
theorem dX2_takeLines_51 : decode cX2_takeLines 51 = .ok (.iconst 2, 1) := by decide +kernel
theorem dX2_takeLines_52 : decode cX2_takeLines 52 = .ok (.if_icmp .ge 7, 3) := by decide +kernel
theorem dX2_takeLines_55 : decode cX2_takeLines 55 = .ok (.iconst 0, 1) := by decide +kernel
theorem dX2_takeLines_56 : decode cX2_takeLines 56 = .ok (.goto 6, 3) := by decide +kernel
theorem dX2_takeLines_59 : decode cX2_takeLines 59 = .ok (.iload_n 2, 1) := by decide +kernel
theorem dX2_takeLines_60 : decode cX2_takeLines 60 = .ok (.iconst 1, 1) := by decide +kernel
theorem dX2_takeLines_61 : decode cX2_takeLines 61 = .ok (.isub, 1) := by decide +kernel
theorem dX2_takeLines_62 : decode cX2_takeLines 62 = .ok (.ireturn, 1) := by decide +kernel
set_option maxHeartbeats 4000000 in
set_option maxRecDepth 100000 in
theorem ct_X2_takeLines (l : Launch) (D : va_G) (ce : Nat → ClassId) (h pl ar : Nat → Nat) (G : Nat → Int) (L : Nat → Nat → Int64) (B : Nat → Int) (J : Nat → Nat → Int64) (hB : BOK B) : Ct l yX2_takeLines cX2_takeLines 4 (some .int) { frames := 4, cells := 0, slots := 0, locals := 94 } 0 0 D (TY ce) [.ref (h 4), .ref (h 1)] (cW ce h pl ar G L B J) (QI D (TY ce) (fun r w1 => ∃ z : Int, ∃ B2 : Nat → Int, ∃ J2 : Nat → Nat → Int64, r = zI z ∧ w1 = cW ce h pl ar G L B2 J2 ∧ (BOK B2) ∧ (0 ≤ z ∧ z ≤ 3))) := by
  refine Ct.ofI (by decide) (Nat.le_of_ble_eq_true rfl) ?_
  intro p e s m args below meth c A Q hX hnm hR
  refine Z.pick (lv' := [(0, .ref (h 4)), (1, .ref (h 1))]) [0, 1] rfl ?_
  refine Z.aload_n hX dX2_takeLines_0 rfl rfl ?_
  refine Z.callVfi (As := []) (rest := []) hX 5 1 rfl rfl (ct_X5_highestPower_r l D ce h pl ar G L B J ) mc_X5_highestPower ml_X2_33 im_X5_highestPower se_X5_highestPower ini_X5 nd_X5_highestPower ⟨Nat.le_of_ble_eq_true rfl, Nat.le_of_ble_eq_true rfl⟩ ⟨rfl, rfl⟩ ⟨Nat.le_refl _, Nat.le_refl _⟩ rfl (Nat.le_of_ble_eq_true rfl) dX2_takeLines_1 ?_
  rintro r_1 w1 ⟨tp, hr_, hw_, t1, t2, t3⟩
  subst hr_
  subst hw_
  refine Z.istore_n (lv' := [(2, .int (zI tp)), (0, .ref (h 4)), (1, .ref (h 1))]) hX dX2_takeLines_4 rfl (by decide) rfl ?_
  refine Z.iconst hX dX2_takeLines_5 ?_
  refine Z.istore_n (lv' := [(3, .int (zI 0)), (2, .int (zI tp)), (0, .ref (h 4)), (1, .ref (h 1))]) hX dX2_takeLines_6 rfl (by decide) rfl ?_
  have key_7 : ∀ (N : Nat), ∀ (i : Int) (BB : Nat → Int) (MM : Nat → Nat → Int64), (tp - i).toNat < N → (hi : 0 ≤ i ∧ i ≤ tp) → (hM : BOK BB) → Z p l e { frames := 4, cells := 0, slots := 0, locals := 94 } s m args below meth c D A 4 0 0 Q 7 [(3, .int (zI i)), (2, .int (zI tp)), (1, .ref (h 1)), (0, .ref (h 4))] [] (cW ce h pl ar G L BB MM) := by
    intro N
    induction N with
    | zero => intro i BB MM hm; exact absurd hm (Nat.not_lt_zero _)
    | succ N ih_7 =>
      intro i BB MM hm hi hM
      refine Z.iload_n hX dX2_takeLines_7 rfl rfl ?_
      refine Z.iload_n hX dX2_takeLines_8 rfl rfl ?_
      refine Z.icmp_ge hX 50 dX2_takeLines_9 (by decide) ⟨by omega, by omega⟩ ⟨by omega, by omega⟩ ?_ ?_
      · intro c2
        refine Z.iload_n hX dX2_takeLines_50 rfl rfl ?_
        refine Z.iconst hX dX2_takeLines_51 ?_
        refine Z.icmp_ge hX 59 dX2_takeLines_52 (by decide) ⟨by omega, by omega⟩ ⟨by omega, by omega⟩ ?_ ?_
        · intro c3
          refine Z.iload_n hX dX2_takeLines_59 rfl rfl ?_
          refine Z.iconst hX dX2_takeLines_60 ?_
          refine Z.isub hX dX2_takeLines_61 ?_
          exact hR _ _ _ _ dX2_takeLines_62 ⟨(tp - 1), BB, MM, rfl, rfl, hM, (by omega)⟩
        · intro c3
          refine Z.iconst hX dX2_takeLines_55 ?_
          refine Z.goto hX 62 dX2_takeLines_56 (by decide) ?_
          exact hR _ _ _ _ dX2_takeLines_62 ⟨0, BB, MM, rfl, rfl, hM, (by omega)⟩
      · intro c2
        refine Z.aload_n hX dX2_takeLines_12 rfl rfl ?_
        refine Z.getf hX 2 4 0 dX2_takeLines_13 rfl rfl inX2 (by decide) fl_X2_11 rfl rfl ?_
        refine Z.iload_n hX dX2_takeLines_16 rfl rfl ?_
        refine Z.aaload hX 14 4 dX2_takeLines_17 rfl rfl rfl (by omega) (by omega) (by decide) rfl ?_
        refine Z.aload_n hX dX2_takeLines_18 rfl rfl ?_
        refine Z.iload_n hX dX2_takeLines_19 rfl rfl ?_
        refine Z.iconst hX dX2_takeLines_20 ?_
        refine Z.iadd hX dX2_takeLines_21 ?_
        refine Z.iload_n hX dX2_takeLines_22 rfl rfl ?_
        refine Z.iconst hX dX2_takeLines_23 ?_
        refine Z.iadd hX dX2_takeLines_24 ?_
        refine Z.i2l hX dX2_takeLines_25 ⟨by omega, by omega⟩ ?_
        refine Z.callSfv (As := [.ref (pl (i : Int).toNat), .ref (h 1), .int (zI (i + 1)), .long (zL (i + 1))]) (rest := []) hX (ct_X2_setScaledLine l D ce h pl ar G L BB MM ((i : Int).toNat) (i + 1) (zL (i + 1)) hM (by omega) (by omega)) mc_X2_setScaledLine ml_X2_45 st_X2_setScaledLine ini_X2 nd_X2_setScaledLine ⟨Nat.le_of_ble_eq_true rfl, Nat.le_of_ble_eq_true rfl⟩ ⟨rfl, rfl⟩ ⟨Nat.le_refl _, Nat.le_refl _⟩ rfl (Nat.le_of_ble_eq_true rfl) dX2_takeLines_26 ?_
        rintro w1 ⟨B25, J26, hw_, hs3⟩
        subst hw_
        refine Z.aload_n hX dX2_takeLines_29 rfl rfl ?_
        refine Z.getf hX 2 4 1 dX2_takeLines_30 rfl rfl inX2 (by decide) fl_X2_17 rfl rfl ?_
        refine Z.iload_n hX dX2_takeLines_33 rfl rfl ?_
        refine Z.aaload hX 15 4 dX2_takeLines_34 rfl rfl rfl (by omega) (by omega) (by decide) rfl ?_
        refine Z.aload_n hX dX2_takeLines_35 rfl rfl ?_
        refine Z.iload_n hX dX2_takeLines_36 rfl rfl ?_
        refine Z.iload_n hX dX2_takeLines_37 rfl rfl ?_
        refine Z.iload_n hX dX2_takeLines_38 rfl rfl ?_
        refine Z.isub hX dX2_takeLines_39 ?_
        refine Z.i2l hX dX2_takeLines_40 ⟨by omega, by omega⟩ ?_
        refine Z.callSfv (As := [.ref (pl (5 + (i : Int).toNat)), .ref (h 1), .int (zI i), .long (zL (tp - i))]) (rest := []) hX (ct_X2_setScaledLine l D ce h pl ar G L B25 J26 ((5 + (i : Int).toNat)) i (zL (tp - i)) hs3 (by omega) (by omega)) mc_X2_setScaledLine ml_X2_45 st_X2_setScaledLine ini_X2 nd_X2_setScaledLine ⟨Nat.le_of_ble_eq_true rfl, Nat.le_of_ble_eq_true rfl⟩ ⟨rfl, rfl⟩ ⟨Nat.le_refl _, Nat.le_refl _⟩ rfl (Nat.le_of_ble_eq_true rfl) dX2_takeLines_41 ?_
        rintro w1 ⟨B28, J29, hw_, ht3⟩
        subst hw_
        refine Z.iinc (lv' := [(3, .int (zI (i + 1))), (2, .int (zI tp)), (1, .ref (h 1)), (0, .ref (h 4))]) hX dX2_takeLines_44 rfl (by decide) rfl ?_
        refine Z.goto hX 7 dX2_takeLines_47 (by decide) ?_
        refine Z.pick [0, 1, 2, 3] rfl ?_
        exact ih_7 _ _ _ (by omega) (by omega) ht3
  refine Z.pick [0, 1, 3, 2] rfl ?_
  exact key_7 _ _ _ _ (Nat.lt_succ_self _) (by omega) hB

theorem dX2_fillEntry_0 : decode cX2_fillEntry 0 = .ok (.aload_n 0, 1) := by decide +kernel
theorem dX2_fillEntry_1 : decode cX2_fillEntry 1 = .ok (.getfield 20, 3) := by decide +kernel
theorem dX2_fillEntry_4 : decode cX2_fillEntry 4 = .ok (.iload_n 1, 1) := by decide +kernel
theorem dX2_fillEntry_5 : decode cX2_fillEntry 5 = .ok (.iconst 4, 1) := by decide +kernel
theorem dX2_fillEntry_6 : decode cX2_fillEntry 6 = .ok (.imul, 1) := by decide +kernel
theorem dX2_fillEntry_7 : decode cX2_fillEntry 7 = .ok (.iload_n 2, 1) := by decide +kernel
theorem dX2_fillEntry_8 : decode cX2_fillEntry 8 = .ok (.iadd, 1) := by decide +kernel
theorem dX2_fillEntry_9 : decode cX2_fillEntry 9 = .ok (.aaload, 1) := by decide +kernel
theorem dX2_fillEntry_10 : decode cX2_fillEntry 10 = .ok (.astore 4, 2) := by decide +kernel
theorem dX2_fillEntry_12 : decode cX2_fillEntry 12 = .ok (.aload 4, 2) := by decide +kernel
theorem dX2_fillEntry_14 : decode cX2_fillEntry 14 = .ok (.invokevirtual 53, 3) := by decide +kernel
theorem dX2_fillEntry_17 : decode cX2_fillEntry 17 = .ok (.iload_n 1, 1) := by decide +kernel
theorem dX2_fillEntry_18 : decode cX2_fillEntry 18 = .ok (.iload_n 3, 1) := by decide +kernel
theorem dX2_fillEntry_19 : decode cX2_fillEntry 19 = .ok (.iconst 1, 1) := by decide +kernel
theorem dX2_fillEntry_20 : decode cX2_fillEntry 20 = .ok (.isub, 1) := by decide +kernel
theorem dX2_fillEntry_21 : decode cX2_fillEntry 21 = .ok (.iload_n 2, 1) := by decide +kernel
theorem dX2_fillEntry_22 : decode cX2_fillEntry 22 = .ok (.isub, 1) := by decide +kernel
theorem dX2_fillEntry_23 : decode cX2_fillEntry 23 = .ok (.invokestatic 64, 3) := by decide +kernel
theorem dX2_fillEntry_26 : decode cX2_fillEntry 26 = .ok (.istore 5, 2) := by decide +kernel
theorem dX2_fillEntry_28 : decode cX2_fillEntry 28 = .ok (.iconst 0, 1) := by decide +kernel
theorem dX2_fillEntry_29 : decode cX2_fillEntry 29 = .ok (.istore 6, 2) := by decide +kernel
theorem dX2_fillEntry_31 : decode cX2_fillEntry 31 = .ok (.iload 6, 2) := by decide +kernel
theorem dX2_fillEntry_33 : decode cX2_fillEntry 33 = .ok (.iload 5, 2) := by decide +kernel
theorem dX2_fillEntry_35 : decode cX2_fillEntry 35 = .ok (.if_icmp .gt 63, 3) := by decide +kernel
theorem dX2_fillEntry_38 : decode cX2_fillEntry 38 = .ok (.aload 4, 2) := by decide +kernel
theorem dX2_fillEntry_40 : decode cX2_fillEntry 40 = .ok (.aload_n 0, 1) := by decide +kernel
theorem dX2_fillEntry_41 : decode cX2_fillEntry 41 = .ok (.getfield 11, 3) := by decide +kernel
theorem dX2_fillEntry_44 : decode cX2_fillEntry 44 = .ok (.iload_n 2, 1) := by decide +kernel
theorem dX2_fillEntry_45 : decode cX2_fillEntry 45 = .ok (.iload 6, 2) := by decide +kernel
theorem dX2_fillEntry_47 : decode cX2_fillEntry 47 = .ok (.iadd, 1) := by decide +kernel
theorem dX2_fillEntry_48 : decode cX2_fillEntry 48 = .ok (.iconst 1, 1) := by decide +kernel
theorem dX2_fillEntry_49 : decode cX2_fillEntry 49 = .ok (.iadd, 1) := by decide +kernel
theorem dX2_fillEntry_50 : decode cX2_fillEntry 50 = .ok (.aaload, 1) := by decide +kernel
theorem dX2_fillEntry_51 : decode cX2_fillEntry 51 = .ok (.aload_n 0, 1) := by decide +kernel
theorem dX2_fillEntry_52 : decode cX2_fillEntry 52 = .ok (.getfield 17, 3) := by decide +kernel
theorem dX2_fillEntry_55 : decode cX2_fillEntry 55 = .ok (.iload_n 1, 1) := by decide +kernel
theorem dX2_fillEntry_56 : decode cX2_fillEntry 56 = .ok (.iload 6, 2) := by decide +kernel
theorem dX2_fillEntry_58 : decode cX2_fillEntry 58 = .ok (.isub, 1) := by decide +kernel
theorem dX2_fillEntry_59 : decode cX2_fillEntry 59 = .ok (.aaload, 1) := by decide +kernel
theorem dX2_fillEntry_60 : decode cX2_fillEntry 60 = .ok (.lconst 1, 1) := by decide +kernel
theorem dX2_fillEntry_61 : decode cX2_fillEntry 61 = .ok (.invokevirtual 70, 3) := by decide +kernel
theorem dX2_fillEntry_64 : decode cX2_fillEntry 64 = .ok (.aload 4, 2) := by decide +kernel
theorem dX2_fillEntry_66 : decode cX2_fillEntry 66 = .ok (.aload_n 0, 1) := by decide +kernel
theorem dX2_fillEntry_67 : decode cX2_fillEntry 67 = .ok (.getfield 11, 3) := by decide +kernel
theorem dX2_fillEntry_70 : decode cX2_fillEntry 70 = .ok (.iload_n 1, 1) := by decide +kernel
theorem dX2_fillEntry_71 : decode cX2_fillEntry 71 = .ok (.iload 6, 2) := by decide +kernel
theorem dX2_fillEntry_73 : decode cX2_fillEntry 73 = .ok (.isub, 1) := by decide +kernel
theorem dX2_fillEntry_74 : decode cX2_fillEntry 74 = .ok (.aaload, 1) := by decide +kernel
theorem dX2_fillEntry_75 : decode cX2_fillEntry 75 = .ok (.aload_n 0, 1) := by decide +kernel
theorem dX2_fillEntry_76 : decode cX2_fillEntry 76 = .ok (.getfield 17, 3) := by decide +kernel
theorem dX2_fillEntry_79 : decode cX2_fillEntry 79 = .ok (.iload_n 2, 1) := by decide +kernel
theorem dX2_fillEntry_80 : decode cX2_fillEntry 80 = .ok (.iload 6, 2) := by decide +kernel
theorem dX2_fillEntry_82 : decode cX2_fillEntry 82 = .ok (.iadd, 1) := by decide +kernel
theorem dX2_fillEntry_83 : decode cX2_fillEntry 83 = .ok (.iconst 1, 1) := by decide +kernel
theorem dX2_fillEntry_84 : decode cX2_fillEntry 84 = .ok (.iadd, 1) := by decide +kernel
theorem dX2_fillEntry_85 : decode cX2_fillEntry 85 = .ok (.aaload, 1) := by decide +kernel
theorem dX2_fillEntry_86 : decode cX2_fillEntry 86 = .ok (.ldc2_w 74, 3) := by decide +kernel
theorem dX2_fillEntry_89 : decode cX2_fillEntry 89 = .ok (.invokevirtual 70, 3) := by decide +kernel
theorem dX2_fillEntry_92 : decode cX2_fillEntry 92 = .ok (.iinc 6 1, 3) := by decide +kernel
theorem dX2_fillEntry_95 : decode cX2_fillEntry 95 = .ok (.goto (-64), 3) := by decide +kernel
theorem dX2_fillEntry_98 : decode cX2_fillEntry 98 = .ok (.aload 4, 2) := by decide +kernel
theorem dX2_fillEntry_100 : decode cX2_fillEntry 100 = .ok (.invokevirtual 76, 3) := by decide +kernel
theorem dX2_fillEntry_103 : decode cX2_fillEntry 103 = .ok (.return_, 1) := by decide +kernel
set_option maxHeartbeats 4000000 in
set_option maxRecDepth 100000 in
theorem ct_X2_fillEntry (l : Launch) (D : va_G) (ce : Nat → ClassId) (h pl ar : Nat → Nat) (G : Nat → Int) (L : Nat → Nat → Int64) (B : Nat → Int) (J : Nat → Nat → Int64) (i j size : Int) (hB : BOK B) (hij : 0 ≤ i ∧ i ≤ j ∧ j < size ∧ size ≤ 4) : Ct l yX2_fillEntry cX2_fillEntry 7 none { frames := 3, cells := 0, slots := 0, locals := 62 } 0 0 D (TY ce) [.ref (h 4), .int (zI i), .int (zI j), .int (zI size)] (cW ce h pl ar G L B J) (QV D (TY ce) (fun w1 => ∃ B2 : Nat → Int, ∃ J2 : Nat → Nat → Int64, w1 = cW ce h pl ar G L B2 J2 ∧ (BOK B2))) := by
  refine Ct.ofV (by decide) (Nat.le_of_ble_eq_true rfl) ?_
  intro p e s m args below meth c A Q hX hnm hR
  refine Z.pick (lv' := [(0, .ref (h 4)), (1, .int (zI i)), (2, .int (zI j)), (3, .int (zI size))]) [0, 1, 2, 3] rfl ?_
  have htl := tri_lt (i * 4 + j : Int).toNat
  refine Z.aload_n hX dX2_fillEntry_0 rfl rfl ?_
  refine Z.getf hX 2 4 2 dX2_fillEntry_1 rfl rfl inX2 (by decide) fl_X2_20 rfl rfl ?_
  refine Z.iload_n hX dX2_fillEntry_4 rfl rfl ?_
  refine Z.iconst hX dX2_fillEntry_5 ?_
  refine Z.imul hX dX2_fillEntry_6 ?_
  refine Z.iload_n hX dX2_fillEntry_7 rfl rfl ?_
  refine Z.iadd hX dX2_fillEntry_8 ?_
  refine Z.aaload hX 16 4 dX2_fillEntry_9 rfl rfl rfl (by omega) (by omega) (by decide) rfl ?_
  refine Z.astore (lv' := [(4, .ref (pl (10 + tri ((i * 4) + j : Int).toNat))), (0, .ref (h 4)), (1, .int (zI i)), (2, .int (zI j)), (3, .int (zI size))]) hX dX2_fillEntry_10 (by decide) rfl ?_
  refine Z.aload hX dX2_fillEntry_12 rfl ?_
  refine Z.callVfv (As := []) (rest := []) hX 3 (24 + (10 + tri ((i * 4) + j : Int).toNat)) rfl (cW_pl (by have := tri_lt ((i * 4) + j : Int).toNat; omega)) (ct_X3_erase l D ce h pl ar G L B J ((10 + tri ((i * 4) + j : Int).toNat)) (by omega) hB) mc_X3_erase ml_X2_53 im_X3_erase se_X3_erase ini_X3 nd_X3_erase ⟨Nat.le_of_ble_eq_true rfl, Nat.le_of_ble_eq_true rfl⟩ ⟨rfl, rfl⟩ ⟨Nat.le_refl _, Nat.le_refl _⟩ rfl (Nat.le_of_ble_eq_true rfl) dX2_fillEntry_14 ?_
  rintro w1 ⟨B22, J23, hw_, hp1, hp2, hp3, hp4⟩
  subst hw_
  refine Z.iload_n hX dX2_fillEntry_17 rfl rfl ?_
  refine Z.iload_n hX dX2_fillEntry_18 rfl rfl ?_
  refine Z.iconst hX dX2_fillEntry_19 ?_
  refine Z.isub hX dX2_fillEntry_20 ?_
  refine Z.iload_n hX dX2_fillEntry_21 rfl rfl ?_
  refine Z.isub hX dX2_fillEntry_22 ?_
  refine Z.mmin hX dX2_fillEntry_23 mm_X2_64 ⟨by omega, by omega⟩ ⟨by omega, by omega⟩ (by decide) (Nat.le_of_ble_eq_true rfl) (Nat.le_refl _) (Nat.le_refl _) ?_
  obtain ⟨z4, ez4⟩ : ∃ x : Int, x = (if (size - 1) - j < i then (size - 1) - j else i) := ⟨_, rfl⟩
  rw [← ez4]
  have hla : z4 ≤ i ∧ z4 ≤ size - 1 - j := by rw [ez4]; split <;> omega
  obtain ⟨la, ela⟩ : ∃ x : Int, x = z4 := ⟨_, rfl⟩
  rw [← ela]
  rw [← ela] at hla
  refine Z.istore (lv' := [(5, .int (zI la)), (4, .ref (pl (10 + tri ((i * 4) + j : Int).toNat))), (0, .ref (h 4)), (1, .int (zI i)), (2, .int (zI j)), (3, .int (zI size))]) hX dX2_fillEntry_26 (by decide) rfl ?_
  refine Z.iconst hX dX2_fillEntry_28 ?_
  refine Z.istore (lv' := [(6, .int (zI 0)), (5, .int (zI la)), (4, .ref (pl (10 + tri ((i * 4) + j : Int).toNat))), (0, .ref (h 4)), (1, .int (zI i)), (2, .int (zI j)), (3, .int (zI size))]) hX dX2_fillEntry_29 (by decide) rfl ?_
  have key_31 : ∀ (N : Nat), ∀ (q : Int) (BB : Nat → Int) (MM : Nat → Nat → Int64), (la + 1 - q).toNat < N → (hq : 0 ≤ q ∧ (q ≤ la + 1 ∨ q = 0)) → (hM : BOK BB) → Z p l e { frames := 3, cells := 0, slots := 0, locals := 62 } s m args below meth c D A 7 0 0 Q 31 [(6, .int (zI q)), (5, .int (zI la)), (4, .ref (pl (10 + tri (i * 4 + j : Int).toNat))), (3, .int (zI size)), (2, .int (zI j)), (1, .int (zI i)), (0, .ref (h 4))] [] (cW ce h pl ar G L BB MM) := by
    intro N
    induction N with
    | zero => intro q BB MM hm; exact absurd hm (Nat.not_lt_zero _)
    | succ N ih_31 =>
      intro q BB MM hm hq hM
      refine Z.iload hX dX2_fillEntry_31 rfl ?_
      refine Z.iload hX dX2_fillEntry_33 rfl ?_
      refine Z.icmp_gt hX 98 dX2_fillEntry_35 (by decide) ⟨by omega, by omega⟩ ⟨by omega, by omega⟩ ?_ ?_
      · intro c5
        refine Z.aload hX dX2_fillEntry_98 rfl ?_
        refine Z.callVfv (As := []) (rest := []) hX 3 (24 + (10 + tri (i * 4 + j : Int).toNat)) rfl (cW_pl (by have := tri_lt (i * 4 + j : Int).toNat; omega)) (ct_X3_tighten l D ce h pl ar G L BB MM ((10 + tri (i * 4 + j : Int).toNat)) (by omega) hM) mc_X3_tighten ml_X2_76 im_X3_tighten se_X3_tighten ini_X3 nd_X3_tighten ⟨Nat.le_of_ble_eq_true rfl, Nat.le_of_ble_eq_true rfl⟩ ⟨rfl, rfl⟩ ⟨Nat.le_refl _, Nat.le_refl _⟩ rfl (Nat.le_of_ble_eq_true rfl) dX2_fillEntry_100 ?_
        rintro w1 ⟨B27, hw_, hc1, hc2, hc3⟩
        subst hw_
        exact hR _ _ _ dX2_fillEntry_103 ⟨B27, MM, rfl, hc2⟩
      · intro c5
        refine Z.aload hX dX2_fillEntry_38 rfl ?_
        refine Z.aload_n hX dX2_fillEntry_40 rfl rfl ?_
        refine Z.getf hX 2 4 0 dX2_fillEntry_41 rfl rfl inX2 (by decide) fl_X2_11 rfl rfl ?_
        refine Z.iload_n hX dX2_fillEntry_44 rfl rfl ?_
        refine Z.iload hX dX2_fillEntry_45 rfl ?_
        refine Z.iadd hX dX2_fillEntry_47 ?_
        refine Z.iconst hX dX2_fillEntry_48 ?_
        refine Z.iadd hX dX2_fillEntry_49 ?_
        refine Z.aaload hX 14 4 dX2_fillEntry_50 rfl rfl rfl (by omega) (by omega) (by decide) rfl ?_
        refine Z.aload_n hX dX2_fillEntry_51 rfl rfl ?_
        refine Z.getf hX 2 4 1 dX2_fillEntry_52 rfl rfl inX2 (by decide) fl_X2_17 rfl rfl ?_
        refine Z.iload_n hX dX2_fillEntry_55 rfl rfl ?_
        refine Z.iload hX dX2_fillEntry_56 rfl ?_
        refine Z.isub hX dX2_fillEntry_58 ?_
        refine Z.aaload hX 15 4 dX2_fillEntry_59 rfl rfl rfl (by omega) (by omega) (by decide) rfl ?_
        refine Z.lconst (v := 1) hX dX2_fillEntry_60 rfl ?_
        refine Z.callVfv (As := [.ref (pl ((j + q) + 1 : Int).toNat), .ref (pl (5 + (i - q : Int).toNat)), .long 1]) (rest := []) hX 3 (24 + (10 + tri (i * 4 + j : Int).toNat)) rfl (cW_pl (by have := tri_lt (i * 4 + j : Int).toNat; omega)) (ct_X3_addProduct l D ce h pl ar G L BB MM ((10 + tri (i * 4 + j : Int).toNat)) (((j + q) + 1 : Int).toNat) ((5 + (i - q : Int).toNat)) 1 (by omega) hM (by omega) (by omega)) mc_X3_addProduct ml_X2_70 im_X3_addProduct se_X3_addProduct ini_X3 nd_X3_addProduct ⟨Nat.le_of_ble_eq_true rfl, Nat.le_of_ble_eq_true rfl⟩ ⟨rfl, rfl⟩ ⟨Nat.le_refl _, Nat.le_refl _⟩ rfl (Nat.le_of_ble_eq_true rfl) dX2_fillEntry_61 ?_
        rintro w1 ⟨B29, J210, hw_, ha1, ha2, ha3⟩
        subst hw_
        refine Z.aload hX dX2_fillEntry_64 rfl ?_
        refine Z.aload_n hX dX2_fillEntry_66 rfl rfl ?_
        refine Z.getf hX 2 4 0 dX2_fillEntry_67 rfl rfl inX2 (by decide) fl_X2_11 rfl rfl ?_
        refine Z.iload_n hX dX2_fillEntry_70 rfl rfl ?_
        refine Z.iload hX dX2_fillEntry_71 rfl ?_
        refine Z.isub hX dX2_fillEntry_73 ?_
        refine Z.aaload hX 14 4 dX2_fillEntry_74 rfl rfl rfl (by omega) (by omega) (by decide) rfl ?_
        refine Z.aload_n hX dX2_fillEntry_75 rfl rfl ?_
        refine Z.getf hX 2 4 1 dX2_fillEntry_76 rfl rfl inX2 (by decide) fl_X2_17 rfl rfl ?_
        refine Z.iload_n hX dX2_fillEntry_79 rfl rfl ?_
        refine Z.iload hX dX2_fillEntry_80 rfl ?_
        refine Z.iadd hX dX2_fillEntry_82 ?_
        refine Z.iconst hX dX2_fillEntry_83 ?_
        refine Z.iadd hX dX2_fillEntry_84 ?_
        refine Z.aaload hX 15 4 dX2_fillEntry_85 rfl rfl rfl (by omega) (by omega) (by decide) rfl ?_
        refine Z.ldc2 hX dX2_fillEntry_86 co_X2_74 ?_
        refine Z.callVfv (As := [.ref (pl (i - q : Int).toNat), .ref (pl (5 + ((j + q) + 1 : Int).toNat)), .long (-1)]) (rest := []) hX 3 (24 + (10 + tri (i * 4 + j : Int).toNat)) rfl (cW_pl (by have := tri_lt (i * 4 + j : Int).toNat; omega)) (ct_X3_addProduct l D ce h pl ar G L B29 J210 ((10 + tri (i * 4 + j : Int).toNat)) ((i - q : Int).toNat) ((5 + ((j + q) + 1 : Int).toNat)) (-1) (by omega) ha3 (by omega) (by omega)) mc_X3_addProduct ml_X2_70 im_X3_addProduct se_X3_addProduct ini_X3 nd_X3_addProduct ⟨Nat.le_of_ble_eq_true rfl, Nat.le_of_ble_eq_true rfl⟩ ⟨rfl, rfl⟩ ⟨Nat.le_refl _, Nat.le_refl _⟩ rfl (Nat.le_of_ble_eq_true rfl) dX2_fillEntry_89 ?_
        rintro w1 ⟨B212, J213, hw_, hb1, hb2, hb3⟩
        subst hw_
        refine Z.iinc (lv' := [(6, .int (zI (q + 1))), (5, .int (zI la)), (4, .ref (pl (10 + tri (i * 4 + j : Int).toNat))), (3, .int (zI size)), (2, .int (zI j)), (1, .int (zI i)), (0, .ref (h 4))]) hX dX2_fillEntry_92 rfl (by decide) rfl ?_
        refine Z.goto hX 31 dX2_fillEntry_95 (by decide) ?_
        refine Z.pick [0, 1, 2, 3, 4, 5, 6] rfl ?_
        exact ih_31 _ _ _ (by omega) (by omega) hb3
  refine Z.pick [0, 1, 2, 6, 5, 4, 3] rfl ?_
  exact key_31 _ _ _ _ (Nat.lt_succ_self _) (by omega) hp3

theorem dX2_fillMinor_0 : decode cX2_fillMinor 0 = .ok (.aload_n 0, 1) := by decide +kernel
theorem dX2_fillMinor_1 : decode cX2_fillMinor 1 = .ok (.getfield 23, 3) := by decide +kernel
theorem dX2_fillMinor_4 : decode cX2_fillMinor 4 = .ok (.iload_n 1, 1) := by decide +kernel
theorem dX2_fillMinor_5 : decode cX2_fillMinor 5 = .ok (.aaload, 1) := by decide +kernel
theorem dX2_fillMinor_6 : decode cX2_fillMinor 6 = .ok (.astore_n 3, 1) := by decide +kernel
theorem dX2_fillMinor_7 : decode cX2_fillMinor 7 = .ok (.aload_n 3, 1) := by decide +kernel
theorem dX2_fillMinor_8 : decode cX2_fillMinor 8 = .ok (.invokevirtual 53, 3) := by decide +kernel
theorem dX2_fillMinor_11 : decode cX2_fillMinor 11 = .ok (.iload_n 1, 1) := by decide +kernel
theorem dX2_fillMinor_12 : decode cX2_fillMinor 12 = .ok (.invokestatic 79, 3) := by decide +kernel
theorem dX2_fillMinor_15 : decode cX2_fillMinor 15 = .ok (.iconst 1, 1) := by decide +kernel
theorem dX2_fillMinor_16 : decode cX2_fillMinor 16 = .ok (.isub, 1) := by decide +kernel
theorem dX2_fillMinor_17 : decode cX2_fillMinor 17 = .ok (.istore 4, 2) := by decide +kernel
theorem dX2_fillMinor_19 : decode cX2_fillMinor 19 = .ok (.iconst 1, 1) := by decide +kernel
theorem dX2_fillMinor_20 : decode cX2_fillMinor 20 = .ok (.istore 5, 2) := by decide +kernel
theorem dX2_fillMinor_22 : decode cX2_fillMinor 22 = .ok (.iload_n 2, 1) := by decide +kernel
theorem dX2_fillMinor_23 : decode cX2_fillMinor 23 = .ok (.iconst 1, 1) := by decide +kernel
theorem dX2_fillMinor_24 : decode cX2_fillMinor 24 = .ok (.isub, 1) := by decide +kernel
theorem dX2_fillMinor_25 : decode cX2_fillMinor 25 = .ok (.istore 6, 2) := by decide +kernel
theorem dX2_fillMinor_27 : decode cX2_fillMinor 27 = .ok (.iload 6, 2) := by decide +kernel
theorem dX2_fillMinor_29 : decode cX2_fillMinor 29 = .ok (.ifCond .lt 54, 3) := by decide +kernel
theorem dX2_fillMinor_32 : decode cX2_fillMinor 32 = .ok (.iload_n 1, 1) := by decide +kernel
theorem dX2_fillMinor_33 : decode cX2_fillMinor 33 = .ok (.iload 6, 2) := by decide +kernel
theorem dX2_fillMinor_35 : decode cX2_fillMinor 35 = .ok (.ishr, 1) := by decide +kernel
theorem dX2_fillMinor_36 : decode cX2_fillMinor 36 = .ok (.iconst 1, 1) := by decide +kernel
theorem dX2_fillMinor_37 : decode cX2_fillMinor 37 = .ok (.iand, 1) := by decide +kernel
theorem dX2_fillMinor_38 : decode cX2_fillMinor 38 = .ok (.iconst 1, 1) := by decide +kernel
theorem dX2_fillMinor_39 : decode cX2_fillMinor 39 = .ok (.if_icmp .ne 38, 3) := by decide +kernel
theorem dX2_fillMinor_42 : decode cX2_fillMinor 42 = .ok (.aload_n 3, 1) := by decide +kernel
theorem dX2_fillMinor_43 : decode cX2_fillMinor 43 = .ok (.aload_n 0, 1) := by decide +kernel
theorem dX2_fillMinor_44 : decode cX2_fillMinor 44 = .ok (.getfield 20, 3) := by decide +kernel
theorem dX2_fillMinor_47 : decode cX2_fillMinor 47 = .ok (.iload 4, 2) := by decide +kernel
theorem dX2_fillMinor_49 : decode cX2_fillMinor 49 = .ok (.iconst 4, 1) := by decide +kernel
theorem dX2_fillMinor_50 : decode cX2_fillMinor 50 = .ok (.imul, 1) := by decide +kernel
theorem dX2_fillMinor_51 : decode cX2_fillMinor 51 = .ok (.iload 6, 2) := by decide +kernel
theorem dX2_fillMinor_53 : decode cX2_fillMinor 53 = .ok (.iadd, 1) := by decide +kernel
theorem dX2_fillMinor_54 : decode cX2_fillMinor 54 = .ok (.aaload, 1) := by decide +kernel
theorem dX2_fillMinor_55 : decode cX2_fillMinor 55 = .ok (.aload_n 0, 1) := by decide +kernel
theorem dX2_fillMinor_56 : decode cX2_fillMinor 56 = .ok (.getfield 23, 3) := by decide +kernel
theorem dX2_fillMinor_59 : decode cX2_fillMinor 59 = .ok (.iload_n 1, 1) := by decide +kernel
theorem dX2_fillMinor_60 : decode cX2_fillMinor 60 = .ok (.iconst 1, 1) := by decide +kernel
theorem dX2_fillMinor_61 : decode cX2_fillMinor 61 = .ok (.iload 6, 2) := by decide +kernel
theorem dX2_fillMinor_63 : decode cX2_fillMinor 63 = .ok (.ishl, 1) := by decide +kernel
theorem dX2_fillMinor_64 : decode cX2_fillMinor 64 = .ok (.ixor, 1) := by decide +kernel
theorem dX2_fillMinor_65 : decode cX2_fillMinor 65 = .ok (.aaload, 1) := by decide +kernel
theorem dX2_fillMinor_66 : decode cX2_fillMinor 66 = .ok (.iload 5, 2) := by decide +kernel
theorem dX2_fillMinor_68 : decode cX2_fillMinor 68 = .ok (.i2l, 1) := by decide +kernel
theorem dX2_fillMinor_69 : decode cX2_fillMinor 69 = .ok (.invokevirtual 70, 3) := by decide +kernel
theorem dX2_fillMinor_72 : decode cX2_fillMinor 72 = .ok (.iload 5, 2) := by decide +kernel
theorem dX2_fillMinor_74 : decode cX2_fillMinor 74 = .ok (.ineg, 1) := by decide +kernel
theorem dX2_fillMinor_75 : decode cX2_fillMinor 75 = .ok (.istore 5, 2) := by decide +kernel
theorem dX2_fillMinor_77 : decode cX2_fillMinor 77 = .ok (.iinc 6 (-1), 3) := by decide +kernel
theorem dX2_fillMinor_80 : decode cX2_fillMinor 80 = .ok (.goto (-53), 3) := by decide +kernel
theorem dX2_fillMinor_83 : decode cX2_fillMinor 83 = .ok (.return_, 1) := by decide +kernel
set_option maxHeartbeats 4000000 in
set_option maxRecDepth 100000 in
theorem ct_X2_fillMinor (l : Launch) (D : va_G) (ce : Nat → ClassId) (h pl ar : Nat → Nat) (G : Nat → Int) (L : Nat → Nat → Int64) (B : Nat → Int) (J : Nat → Nat → Int64) (col size : Int) (hB : BOK B) (hc : 1 ≤ col ∧ col < 16) (hs : 1 ≤ size ∧ size ≤ 4) : Ct l yX2_fillMinor cX2_fillMinor 7 none { frames := 2, cells := 0, slots := 0, locals := 55 } 0 0 D (TY ce) [.ref (h 4), .int (zI col), .int (zI size)] (cW ce h pl ar G L B J) (QV D (TY ce) (fun w1 => ∃ B2 : Nat → Int, ∃ J2 : Nat → Nat → Int64, w1 = cW ce h pl ar G L B2 J2 ∧ (BOK B2))) := by
  refine Ct.ofV (by decide) (Nat.le_of_ble_eq_true rfl) ?_
  intro p e s m args below meth c A Q hX hnm hR
  refine Z.pick (lv' := [(0, .ref (h 4)), (1, .int (zI col)), (2, .int (zI size))]) [0, 1, 2] rfl ?_
  refine Z.aload_n hX dX2_fillMinor_0 rfl rfl ?_
  refine Z.getf hX 2 4 3 dX2_fillMinor_1 rfl rfl inX2 (by decide) fl_X2_23 rfl rfl ?_
  refine Z.iload_n hX dX2_fillMinor_4 rfl rfl ?_
  refine Z.aaload hX 17 4 dX2_fillMinor_5 rfl rfl rfl (by omega) (by omega) (by decide) rfl ?_
  refine Z.astore_n (lv' := [(3, .ref (pl (20 + (col : Int).toNat))), (0, .ref (h 4)), (1, .int (zI col)), (2, .int (zI size))]) hX dX2_fillMinor_6 rfl (by decide) rfl ?_
  refine Z.aload_n hX dX2_fillMinor_7 rfl rfl ?_
  refine Z.callVfv (As := []) (rest := []) hX 3 (24 + (20 + (col : Int).toNat)) rfl (cW_pl (by omega)) (ct_X3_erase l D ce h pl ar G L B J ((20 + (col : Int).toNat)) (by omega) hB) mc_X3_erase ml_X2_53 im_X3_erase se_X3_erase ini_X3 nd_X3_erase ⟨Nat.le_of_ble_eq_true rfl, Nat.le_of_ble_eq_true rfl⟩ ⟨rfl, rfl⟩ ⟨Nat.le_refl _, Nat.le_refl _⟩ rfl (Nat.le_of_ble_eq_true rfl) dX2_fillMinor_8 ?_
  rintro w1 ⟨B22, J23, hw_, hp1, hp2, hp3, hp4⟩
  subst hw_
  refine Z.iload_n hX dX2_fillMinor_11 rfl rfl ?_
  refine Z.callS0i (As := [.int (zI col)]) (rest := []) hX (ct_J6_bitCount_0f7a4 l D ce col (by omega)) mc_J6_bitCount_0f7a4 ml_X2_79 st_J6_bitCount_0f7a4 ini_J6 nd_J6_bitCount_0f7a4 ⟨Nat.le_of_ble_eq_true rfl, Nat.le_of_ble_eq_true rfl⟩ ⟨rfl, rfl⟩ ⟨Nat.le_refl _, Nat.le_refl _⟩ rfl (Nat.le_of_ble_eq_true rfl) dX2_fillMinor_12 ?_
  rintro r_4 w1 ⟨bcn, hr_, hw_, ebc⟩
  subst hr_
  refine ⟨hw_, ?_⟩
  have hbc := pc16b (a := col) (by omega) (by omega)
  refine Z.iconst hX dX2_fillMinor_15 ?_
  refine Z.isub hX dX2_fillMinor_16 ?_
  refine Z.istore (lv' := [(4, .int (zI (bcn - 1))), (3, .ref (pl (20 + (col : Int).toNat))), (0, .ref (h 4)), (1, .int (zI col)), (2, .int (zI size))]) hX dX2_fillMinor_17 (by decide) rfl ?_
  refine Z.iconst hX dX2_fillMinor_19 ?_
  refine Z.istore (lv' := [(5, .int (zI 1)), (4, .int (zI (bcn - 1))), (3, .ref (pl (20 + (col : Int).toNat))), (0, .ref (h 4)), (1, .int (zI col)), (2, .int (zI size))]) hX dX2_fillMinor_20 (by decide) rfl ?_
  refine Z.iload_n hX dX2_fillMinor_22 rfl rfl ?_
  refine Z.iconst hX dX2_fillMinor_23 ?_
  refine Z.isub hX dX2_fillMinor_24 ?_
  refine Z.istore (lv' := [(6, .int (zI (size - 1))), (5, .int (zI 1)), (4, .int (zI (bcn - 1))), (3, .ref (pl (20 + (col : Int).toNat))), (0, .ref (h 4)), (1, .int (zI col)), (2, .int (zI size))]) hX dX2_fillMinor_25 (by decide) rfl ?_
  have key_27 : ∀ (N : Nat), ∀ (cn sg : Int) (BB : Nat → Int) (MM : Nat → Nat → Int64), (cn + 1).toNat < N → (hcn : -1 ≤ cn ∧ cn ≤ size - 1) → (hsg : -1 ≤ sg ∧ sg ≤ 1) → (hM : BOK BB) → Z p l e { frames := 2, cells := 0, slots := 0, locals := 55 } s m args below meth c D A 7 0 0 Q 27 [(6, .int (zI cn)), (5, .int (zI sg)), (4, .int (zI (bcn - 1))), (3, .ref (pl (20 + (col : Int).toNat))), (2, .int (zI size)), (1, .int (zI col)), (0, .ref (h 4))] [] (cW ce h pl ar G L BB MM) := by
    intro N
    induction N with
    | zero => intro cn sg BB MM hm; exact absurd hm (Nat.not_lt_zero _)
    | succ N ih_27 =>
      intro cn sg BB MM hm hcn hsg hM
      refine Z.iload hX dX2_fillMinor_27 rfl ?_
      refine Z.if_lt hX 83 dX2_fillMinor_29 (by decide) ⟨by omega, by omega⟩ ?_ ?_
      · intro c5
        exact hR _ _ _ dX2_fillMinor_83 ⟨BB, MM, rfl, hM⟩
      · intro c5
        obtain ⟨b, t, eb, eb1, eb3, eb4, eb2⟩ := bitc4 (s := col) (c := cn) (by omega) (by omega) (by omega) (by omega)
        refine Z.iload_n hX dX2_fillMinor_32 rfl rfl ?_
        refine Z.iload hX dX2_fillMinor_33 rfl ?_
        refine Z.ishr hX dX2_fillMinor_35 ?_
        refine Z.iconst hX dX2_fillMinor_36 ?_
        refine Z.iand hX dX2_fillMinor_37 ?_
        refine Z.vali (y := zI b) eb ?_
        refine Z.iconst hX dX2_fillMinor_38 ?_
        refine Z.icmp_ne hX 77 dX2_fillMinor_39 (by decide) ⟨by omega, by omega⟩ ⟨by omega, by omega⟩ ?_ ?_
        · intro c6
          refine Z.iinc (lv' := [(6, .int (zI (cn + -1))), (5, .int (zI sg)), (4, .int (zI (bcn - 1))), (3, .ref (pl (20 + (col : Int).toNat))), (2, .int (zI size)), (1, .int (zI col)), (0, .ref (h 4))]) hX dX2_fillMinor_77 rfl (by decide) rfl ?_
          refine Z.goto hX 27 dX2_fillMinor_80 (by decide) ?_
          refine Z.pick [0, 1, 2, 3, 4, 5, 6] rfl ?_
          exact ih_27 _ _ _ _ (by omega) (by omega) (by omega) hM
        · intro c6
          have htc := (eb2 (by omega)).2
          refine Z.aload_n hX dX2_fillMinor_42 rfl rfl ?_
          refine Z.aload_n hX dX2_fillMinor_43 rfl rfl ?_
          refine Z.getf hX 2 4 2 dX2_fillMinor_44 rfl rfl inX2 (by decide) fl_X2_20 rfl rfl ?_
          refine Z.iload hX dX2_fillMinor_47 rfl ?_
          refine Z.iconst hX dX2_fillMinor_49 ?_
          refine Z.imul hX dX2_fillMinor_50 ?_
          refine Z.iload hX dX2_fillMinor_51 rfl ?_
          refine Z.iadd hX dX2_fillMinor_53 ?_
          refine Z.aaload hX 16 4 dX2_fillMinor_54 rfl rfl rfl (by omega) (by omega) (by decide) rfl ?_
          refine Z.aload_n hX dX2_fillMinor_55 rfl rfl ?_
          refine Z.getf hX 2 4 3 dX2_fillMinor_56 rfl rfl inX2 (by decide) fl_X2_23 rfl rfl ?_
          refine Z.iload_n hX dX2_fillMinor_59 rfl rfl ?_
          refine Z.iconst hX dX2_fillMinor_60 ?_
          refine Z.iload hX dX2_fillMinor_61 rfl ?_
          refine Z.ishl hX dX2_fillMinor_63 ?_
          refine Z.ixor hX dX2_fillMinor_64 ?_
          refine Z.vali (y := zI t) (eb2 (by omega)).1 ?_
          refine Z.aaload hX 17 4 dX2_fillMinor_65 rfl rfl rfl (by omega) (by omega) (by decide) rfl ?_
          refine Z.iload hX dX2_fillMinor_66 rfl ?_
          refine Z.i2l hX dX2_fillMinor_68 ⟨by omega, by omega⟩ ?_
          refine Z.callVfv (As := [.ref (pl (10 + tri (((bcn - 1) * 4) + cn : Int).toNat)), .ref (pl (20 + (t : Int).toNat)), .long (zL sg)]) (rest := []) hX 3 (24 + (20 + (col : Int).toNat)) rfl (cW_pl (by omega)) (ct_X3_addProduct l D ce h pl ar G L BB MM ((20 + (col : Int).toNat)) ((10 + tri (((bcn - 1) * 4) + cn : Int).toNat)) ((20 + (t : Int).toNat)) (zL sg) (by omega) hM (by have := tri_lt ((bcn - 1) * 4 + cn : Int).toNat; omega) (by omega)) mc_X3_addProduct ml_X2_70 im_X3_addProduct se_X3_addProduct ini_X3 nd_X3_addProduct ⟨Nat.le_of_ble_eq_true rfl, Nat.le_of_ble_eq_true rfl⟩ ⟨rfl, rfl⟩ ⟨Nat.le_refl _, Nat.le_refl _⟩ rfl (Nat.le_of_ble_eq_true rfl) dX2_fillMinor_69 ?_
          rintro w1 ⟨B28, J29, hw_, ha1, ha2, ha3⟩
          subst hw_
          refine Z.iload hX dX2_fillMinor_72 rfl ?_
          refine Z.ineg hX dX2_fillMinor_74 ?_
          refine Z.istore (lv' := [(5, .int (zI (-sg))), (6, .int (zI cn)), (4, .int (zI (bcn - 1))), (3, .ref (pl (20 + (col : Int).toNat))), (2, .int (zI size)), (1, .int (zI col)), (0, .ref (h 4))]) hX dX2_fillMinor_75 (by decide) rfl ?_
          refine Z.iinc (lv' := [(6, .int (zI (cn + -1))), (5, .int (zI (-sg))), (4, .int (zI (bcn - 1))), (3, .ref (pl (20 + (col : Int).toNat))), (2, .int (zI size)), (1, .int (zI col)), (0, .ref (h 4))]) hX dX2_fillMinor_77 rfl (by decide) rfl ?_
          refine Z.goto hX 27 dX2_fillMinor_80 (by decide) ?_
          refine Z.pick [0, 1, 2, 3, 4, 5, 6] rfl ?_
          exact ih_27 _ _ _ _ (by omega) (by omega) (by omega) ha3
  refine Z.pick [0, 1, 2, 3, 6, 5, 4] rfl ?_
  exact key_27 _ _ _ _ _ (Nat.lt_succ_self _) (by omega) (by omega) hp3

theorem dX2_resultant_0 : decode cX2_resultant 0 = .ok (.iconst 0, 1) := by decide +kernel
theorem dX2_resultant_1 : decode cX2_resultant 1 = .ok (.istore_n 2, 1) := by decide +kernel
theorem dX2_resultant_2 : decode cX2_resultant 2 = .ok (.iload_n 2, 1) := by decide +kernel
theorem dX2_resultant_3 : decode cX2_resultant 3 = .ok (.iload_n 1, 1) := by decide +kernel
theorem dX2_resultant_4 : decode cX2_resultant 4 = .ok (.if_icmp .ge 29, 3) := by decide +kernel
theorem dX2_resultant_7 : decode cX2_resultant 7 = .ok (.iload_n 2, 1) := by decide +kernel
theorem dX2_resultant_8 : decode cX2_resultant 8 = .ok (.istore_n 3, 1) := by decide +kernel
theorem dX2_resultant_9 : decode cX2_resultant 9 = .ok (.iload_n 3, 1) := by decide +kernel
theorem dX2_resultant_10 : decode cX2_resultant 10 = .ok (.iload_n 1, 1) := by decide +kernel
theorem dX2_resultant_11 : decode cX2_resultant 11 = .ok (.if_icmp .ge 16, 3) := by decide +kernel
theorem dX2_resultant_14 : decode cX2_resultant 14 = .ok (.aload_n 0, 1) := by decide +kernel
theorem dX2_resultant_15 : decode cX2_resultant 15 = .ok (.iload_n 2, 1) := by decide +kernel
theorem dX2_resultant_16 : decode cX2_resultant 16 = .ok (.iload_n 3, 1) := by decide +kernel
theorem dX2_resultant_17 : decode cX2_resultant 17 = .ok (.iload_n 1, 1) := by decide +kernel
theorem dX2_resultant_18 : decode cX2_resultant 18 = .ok (.invokevirtual 49, 3) := by decide +kernel
theorem dX2_resultant_21 : decode cX2_resultant 21 = .ok (.iinc 3 1, 3) := by decide +kernel
theorem dX2_resultant_24 : decode cX2_resultant 24 = .ok (.goto (-15), 3) := by decide +kernel
theorem dX2_resultant_27 : decode cX2_resultant 27 = .ok (.iinc 2 1, 3) := by decide +kernel
theorem dX2_resultant_30 : decode cX2_resultant 30 = .ok (.goto (-28), 3) := by decide +kernel
theorem dX2_resultant_33 : decode cX2_resultant 33 = .ok (.aload_n 0, 1) := by decide +kernel
theorem dX2_resultant_34 : decode cX2_resultant 34 = .ok (.getfield 23, 3) := by decide +kernel
theorem dX2_resultant_37 : decode cX2_resultant 37 = .ok (.iconst 0, 1) := by decide +kernel
theorem dX2_resultant_38 : decode cX2_resultant 38 = .ok (.aaload, 1) := by decide +kernel
theorem dX2_resultant_39 : decode cX2_resultant 39 = .ok (.invokevirtual 53, 3) := by decide +kernel
theorem dX2_resultant_42 : decode cX2_resultant 42 = .ok (.aload_n 0, 1) := by decide +kernel
theorem dX2_resultant_43 : decode cX2_resultant 43 = .ok (.getfield 23, 3) := by decide +kernel
theorem dX2_resultant_46 : decode cX2_resultant 46 = .ok (.iconst 0, 1) := by decide +kernel
theorem dX2_resultant_47 : decode cX2_resultant 47 = .ok (.aaload, 1) := by decide +kernel
theorem dX2_resultant_48 : decode cX2_resultant 48 = .ok (.getfield 56, 3) := by decide +kernel
theorem dX2_resultant_51 : decode cX2_resultant 51 = .ok (.iconst 0, 1) := by decide +kernel
theorem dX2_resultant_52 : decode cX2_resultant 52 = .ok (.lconst 1, 1) := by decide +kernel
theorem dX2_resultant_53 : decode cX2_resultant 53 = .ok (.lastore, 1) := by decide +kernel
theorem dX2_resultant_54 : decode cX2_resultant 54 = .ok (.iconst 1, 1) := by decide +kernel
theorem dX2_resultant_55 : decode cX2_resultant 55 = .ok (.iload_n 1, 1) := by decide +kernel
theorem dX2_resultant_56 : decode cX2_resultant 56 = .ok (.ishl, 1) := by decide +kernel
theorem dX2_resultant_57 : decode cX2_resultant 57 = .ok (.iconst 1, 1) := by decide +kernel
theorem dX2_resultant_58 : decode cX2_resultant 58 = .ok (.isub, 1) := by decide +kernel
theorem dX2_resultant_59 : decode cX2_resultant 59 = .ok (.istore_n 2, 1) := by decide +kernel
theorem dX2_resultant_60 : decode cX2_resultant 60 = .ok (.iconst 1, 1) := by decide +kernel
theorem dX2_resultant_61 : decode cX2_resultant 61 = .ok (.istore_n 3, 1) := by decide +kernel
theorem dX2_resultant_62 : decode cX2_resultant 62 = .ok (.iload_n 3, 1) := by decide +kernel
theorem dX2_resultant_63 : decode cX2_resultant 63 = .ok (.iload_n 2, 1) := by decide +kernel
theorem dX2_resultant_64 : decode cX2_resultant 64 = .ok (.if_icmp .gt 15, 3) := by decide +kernel
theorem dX2_resultant_67 : decode cX2_resultant 67 = .ok (.aload_n 0, 1) := by decide +kernel
theorem dX2_resultant_68 : decode cX2_resultant 68 = .ok (.iload_n 3, 1) := by decide +kernel
theorem dX2_resultant_69 : decode cX2_resultant 69 = .ok (.iload_n 1, 1) := by decide +kernel
theorem dX2_resultant_70 : decode cX2_resultant 70 = .ok (.invokevirtual 60, 3) := by decide +kernel
theorem dX2_resultant_73 : decode cX2_resultant 73 = .ok (.iinc 3 1, 3) := by decide +kernel
theorem dX2_resultant_76 : decode cX2_resultant 76 = .ok (.goto (-14), 3) := by decide +kernel
theorem dX2_resultant_79 : decode cX2_resultant 79 = .ok (.aload_n 0, 1) := by decide +kernel
theorem dX2_resultant_80 : decode cX2_resultant 80 = .ok (.getfield 23, 3) := by decide +kernel
theorem dX2_resultant_83 : decode cX2_resultant 83 = .ok (.iload_n 2, 1) := by decide +kernel
theorem dX2_resultant_84 : decode cX2_resultant 84 = .ok (.aaload, 1) := by decide +kernel
theorem dX2_resultant_85 : decode cX2_resultant 85 = .ok (.areturn, 1) := by decide +kernel
set_option maxHeartbeats 4000000 in
set_option maxRecDepth 100000 in
theorem ct_X2_resultant (l : Launch) (D : va_G) (ce : Nat → ClassId) (h pl ar : Nat → Nat) (G : Nat → Int) (L : Nat → Nat → Int64) (B : Nat → Int) (J : Nat → Nat → Int64) (size : Int) (hB : BOK B) (hs : 1 ≤ size ∧ size ≤ 4) : Ct l yX2_resultant cX2_resultant 4 (some (.object "EliminateLoci$Plane")) { frames := 4, cells := 0, slots := 0, locals := 88 } 0 0 D (TY ce) [.ref (h 4), .int (zI size)] (cW ce h pl ar G L B J) (QR D (TY ce) (fun r w1 => ∃ k2 : Nat, ∃ B2 : Nat → Int, ∃ J2 : Nat → Nat → Int64, r = (pl k2) ∧ w1 = cW ce h pl ar G L B2 J2 ∧ (BOK B2) ∧ (k2 < 42 ∧ 20 ≤ k2 ∧ k2 < 36))) := by
  refine Ct.ofR (by decide) (Nat.le_of_ble_eq_true rfl) (Or.inl ⟨_, rfl⟩) ?_
  intro p e s m args below meth c A Q hX hnm hR
  refine Z.pick (lv' := [(0, .ref (h 4)), (1, .int (zI size))]) [0, 1] rfl ?_
  obtain ⟨T, hT, hT1, hT2⟩ := sh4 hs.1 hs.2
  refine Z.iconst hX dX2_resultant_0 ?_
  refine Z.istore_n (lv' := [(2, .int (zI 0)), (0, .ref (h 4)), (1, .int (zI size))]) hX dX2_resultant_1 rfl (by decide) rfl ?_
  have key_2 : ∀ (N : Nat), ∀ (i : Int) (BB : Nat → Int) (MM : Nat → Nat → Int64), (size - i).toNat < N → (hi : 0 ≤ i ∧ i ≤ size) → (hM : BOK BB) → Z p l e { frames := 4, cells := 0, slots := 0, locals := 88 } s m args below meth c D A 4 0 0 Q 2 [(2, .int (zI i)), (1, .int (zI size)), (0, .ref (h 4))] [] (cW ce h pl ar G L BB MM) := by
    intro N
    induction N with
    | zero => intro i BB MM hm; exact absurd hm (Nat.not_lt_zero _)
    | succ N ih_2 =>
      intro i BB MM hm hi hM
      refine Z.iload_n hX dX2_resultant_2 rfl rfl ?_
      refine Z.iload_n hX dX2_resultant_3 rfl rfl ?_
      refine Z.icmp_ge hX 33 dX2_resultant_4 (by decide) ⟨by omega, by omega⟩ ⟨by omega, by omega⟩ ?_ ?_
      · intro c1
        refine Z.aload_n hX dX2_resultant_33 rfl rfl ?_
        refine Z.getf hX 2 4 3 dX2_resultant_34 rfl rfl inX2 (by decide) fl_X2_23 rfl rfl ?_
        refine Z.iconst hX dX2_resultant_37 ?_
        refine Z.aaload hX 17 4 dX2_resultant_38 rfl rfl rfl (by omega) (by omega) (by decide) rfl ?_
        refine Z.callVfv (As := []) (rest := []) hX 3 (24 + (20 + 0)) rfl (cW_pl (by omega)) (ct_X3_erase l D ce h pl ar G L BB MM ((20 + 0)) (by omega) hM) mc_X3_erase ml_X2_53 im_X3_erase se_X3_erase ini_X3 nd_X3_erase ⟨Nat.le_of_ble_eq_true rfl, Nat.le_of_ble_eq_true rfl⟩ ⟨rfl, rfl⟩ ⟨Nat.le_refl _, Nat.le_refl _⟩ rfl (Nat.le_of_ble_eq_true rfl) dX2_resultant_39 ?_
        rintro w1 ⟨B23, J24, hw_, hp1, hp2, hp3, hp4⟩
        subst hw_
        refine Z.aload_n hX dX2_resultant_42 rfl rfl ?_
        refine Z.getf hX 2 4 3 dX2_resultant_43 rfl rfl inX2 (by decide) fl_X2_23 rfl rfl ?_
        refine Z.iconst hX dX2_resultant_46 ?_
        refine Z.aaload hX 17 4 dX2_resultant_47 rfl rfl rfl (by omega) (by omega) (by decide) rfl ?_
        refine Z.getf hX 3 (24 + (20 + 0)) 0 dX2_resultant_48 (cW_pl (by omega)) rfl inX3 (by decide) fl_X2_56 rfl rfl ?_
        refine Z.iconst hX dX2_resultant_51 ?_
        refine Z.lconst (v := 1) hX dX2_resultant_52 rfl ?_
        refine Z.lastore hX (66 + (20 + 0)) 1 dX2_resultant_53 (cW_ar (by omega)) rfl (by omega) (by omega) (by decide) ?_
        obtain ⟨J5, eJ5⟩ : ∃ J' : Nat → Nat → Int64, J' = va_up J24 ((20 + 0)) (vp_updL (J24 ((20 + 0))) (0 : Int).toNat (1)) := ⟨_, rfl⟩
        refine Z.toW (w' := cW ce h pl ar G L B23 J5) (by rw [eJ5]; exact cW_setJ (by omega)) ?_
        have gJ5 : J5 ((20 + 0)) = vp_updL (J24 ((20 + 0))) (0 : Int).toNat (1) := by rw [eJ5]; exact up_eq
        have fJ5 : ∀ j_, j_ ≠ (20 + 0) → J5 j_ = J24 j_ := fun j_ hj_ => by rw [eJ5]; exact up_ne hj_
        refine Z.iconst hX dX2_resultant_54 ?_
        refine Z.iload_n hX dX2_resultant_55 rfl rfl ?_
        refine Z.ishl hX dX2_resultant_56 ?_
        refine Z.vali (y := zI T) hT ?_
        refine Z.iconst hX dX2_resultant_57 ?_
        refine Z.isub hX dX2_resultant_58 ?_
        refine Z.istore_n (lv' := [(2, .int (zI (T - 1))), (1, .int (zI size)), (0, .ref (h 4))]) hX dX2_resultant_59 rfl (by decide) rfl ?_
        refine Z.iconst hX dX2_resultant_60 ?_
        refine Z.istore_n (lv' := [(3, .int (zI 1)), (2, .int (zI (T - 1))), (1, .int (zI size)), (0, .ref (h 4))]) hX dX2_resultant_61 rfl (by decide) rfl ?_
        have key_62 : ∀ (N : Nat), ∀ (q : Int) (BB : Nat → Int) (MM : Nat → Nat → Int64), (T - q).toNat < N → (hq : 1 ≤ q ∧ q ≤ T) → (hM : BOK BB) → Z p l e { frames := 4, cells := 0, slots := 0, locals := 88 } s m args below meth c D A 4 0 0 Q 62 [(3, .int (zI q)), (2, .int (zI (T - 1))), (1, .int (zI size)), (0, .ref (h 4))] [] (cW ce h pl ar G L BB MM) := by
          intro N
          induction N with
          | zero => intro q BB MM hm; exact absurd hm (Nat.not_lt_zero _)
          | succ N ih_62 =>
            intro q BB MM hm hq hM
            refine Z.iload_n hX dX2_resultant_62 rfl rfl ?_
            refine Z.iload_n hX dX2_resultant_63 rfl rfl ?_
            refine Z.icmp_gt hX 79 dX2_resultant_64 (by decide) ⟨by omega, by omega⟩ ⟨by omega, by omega⟩ ?_ ?_
            · intro c6
              refine Z.aload_n hX dX2_resultant_79 rfl rfl ?_
              refine Z.getf hX 2 4 3 dX2_resultant_80 rfl rfl inX2 (by decide) fl_X2_23 rfl rfl ?_
              refine Z.iload_n hX dX2_resultant_83 rfl rfl ?_
              refine Z.aaload hX 17 4 dX2_resultant_84 rfl rfl rfl (by omega) (by omega) (by decide) rfl ?_
              exact hR _ _ _ _ dX2_resultant_85 ⟨_, BB, MM, rfl, rfl, hM, (by omega)⟩
            · intro c6
              refine Z.aload_n hX dX2_resultant_67 rfl rfl ?_
              refine Z.iload_n hX dX2_resultant_68 rfl rfl ?_
              refine Z.iload_n hX dX2_resultant_69 rfl rfl ?_
              refine Z.callVfv (As := [.int (zI q), .int (zI size)]) (rest := []) hX 2 4 rfl rfl (ct_X2_fillMinor l D ce h pl ar G L BB MM q size hM (by omega) hs) mc_X2_fillMinor ml_X2_60 im_X2_fillMinor se_X2_fillMinor ini_X2 nd_X2_fillMinor ⟨Nat.le_of_ble_eq_true rfl, Nat.le_of_ble_eq_true rfl⟩ ⟨rfl, rfl⟩ ⟨Nat.le_refl _, Nat.le_refl _⟩ rfl (Nat.le_of_ble_eq_true rfl) dX2_resultant_70 ?_
              rintro w1 ⟨B28, J29, hw_, hg1⟩
              subst hw_
              refine Z.iinc (lv' := [(3, .int (zI (q + 1))), (2, .int (zI (T - 1))), (1, .int (zI size)), (0, .ref (h 4))]) hX dX2_resultant_73 rfl (by decide) rfl ?_
              refine Z.goto hX 62 dX2_resultant_76 (by decide) ?_
              refine Z.pick [0, 1, 2, 3] rfl ?_
              exact ih_62 _ _ _ (by omega) (by omega) hg1
        refine Z.pick [0, 1, 2, 3] rfl ?_
        exact key_62 _ _ _ _ (Nat.lt_succ_self _) (by omega) hp3
      · intro c1
        refine Z.iload_n hX dX2_resultant_7 rfl rfl ?_
        refine Z.istore_n (lv' := [(3, .int (zI i)), (2, .int (zI i)), (1, .int (zI size)), (0, .ref (h 4))]) hX dX2_resultant_8 rfl (by decide) rfl ?_
        have key_9 : ∀ (N : Nat), ∀ (j : Int) (BB : Nat → Int) (MM : Nat → Nat → Int64), (size - j).toNat < N → (hj : i ≤ j ∧ j ≤ size) → (hM : BOK BB) → Z p l e { frames := 4, cells := 0, slots := 0, locals := 88 } s m args below meth c D A 4 0 0 Q 9 [(3, .int (zI j)), (2, .int (zI i)), (1, .int (zI size)), (0, .ref (h 4))] [] (cW ce h pl ar G L BB MM) := by
          intro N
          induction N with
          | zero => intro j BB MM hm; exact absurd hm (Nat.not_lt_zero _)
          | succ N ih_9 =>
            intro j BB MM hm hj hM
            refine Z.iload_n hX dX2_resultant_9 rfl rfl ?_
            refine Z.iload_n hX dX2_resultant_10 rfl rfl ?_
            refine Z.icmp_ge hX 27 dX2_resultant_11 (by decide) ⟨by omega, by omega⟩ ⟨by omega, by omega⟩ ?_ ?_
            · intro c10
              refine Z.iinc (lv' := [(2, .int (zI (i + 1))), (3, .int (zI j)), (1, .int (zI size)), (0, .ref (h 4))]) hX dX2_resultant_27 rfl (by decide) rfl ?_
              refine Z.goto hX 2 dX2_resultant_30 (by decide) ?_
              refine Z.pick [0, 2, 3] rfl ?_
              exact ih_2 _ _ _ (by omega) (by omega) hM
            · intro c10
              refine Z.aload_n hX dX2_resultant_14 rfl rfl ?_
              refine Z.iload_n hX dX2_resultant_15 rfl rfl ?_
              refine Z.iload_n hX dX2_resultant_16 rfl rfl ?_
              refine Z.iload_n hX dX2_resultant_17 rfl rfl ?_
              refine Z.callVfv (As := [.int (zI i), .int (zI j), .int (zI size)]) (rest := []) hX 2 4 rfl rfl (ct_X2_fillEntry l D ce h pl ar G L BB MM i j size hM (by omega)) mc_X2_fillEntry ml_X2_49 im_X2_fillEntry se_X2_fillEntry ini_X2 nd_X2_fillEntry ⟨Nat.le_of_ble_eq_true rfl, Nat.le_of_ble_eq_true rfl⟩ ⟨rfl, rfl⟩ ⟨Nat.le_refl _, Nat.le_refl _⟩ rfl (Nat.le_of_ble_eq_true rfl) dX2_resultant_18 ?_
              rintro w1 ⟨B212, J213, hw_, hf1⟩
              subst hw_
              refine Z.iinc (lv' := [(3, .int (zI (j + 1))), (2, .int (zI i)), (1, .int (zI size)), (0, .ref (h 4))]) hX dX2_resultant_21 rfl (by decide) rfl ?_
              refine Z.goto hX 9 dX2_resultant_24 (by decide) ?_
              refine Z.pick [0, 1, 2, 3] rfl ?_
              exact ih_9 _ _ _ (by omega) (by omega) hf1
        refine Z.pick [0, 1, 2, 3] rfl ?_
        exact key_9 _ _ _ _ (Nat.lt_succ_self _) (by omega) hM
  refine Z.pick [0, 2, 1] rfl ?_
  exact key_2 _ _ _ _ (Nat.lt_succ_self _) (by omega) hB

