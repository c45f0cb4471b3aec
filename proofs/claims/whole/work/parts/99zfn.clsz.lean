set_option maxHeartbeats 4000000 in
set_option maxRecDepth 100000 in
theorem ct_X2_setScaledLine_z (l : Launch) (D : va_G) (ce : Nat → ClassId) (h pl ar : Nat → Nat) (G : Nat → Int) (L : Nat → Nat → Int64) (B : Nat → Int) (J : Nat → Nat → Int64) (k : Nat) (i : Int) (sc : Int64) (hB : BOK B) (hk : k < 42) (hi : 0 ≤ i ∧ i ≤ 4) : Ct l yX2_setScaledLine cX2_setScaledLine 5 none { frames := 3, cells := 0, slots := 0, locals := 70 } 0 0 D (TY ce) [.ref (pl k), .ref (h 1), .int (zI i), .long sc] (cW ce h pl ar G L B J) (QV D (TY ce) (fun w1 => ∃ B2 : Nat → Int, ∃ J2 : Nat → Nat → Int64, w1 = cW ce h pl ar G L B2 J2 ∧ (BOK B2) ∧ (∀ j, j ≠ k → B2 j = B j) ∧ (∀ j, j ≠ k → J2 j = J j) ∧ (B2 k = 1) ∧ (LNp (J2 k) (sc * L 0 i.toNat) (sc * L 1 i.toNat) (sc * L 2 i.toNat)))) := by
  refine Ct.ofV (by decide) (Nat.le_of_ble_eq_true rfl) ?_
  intro p e s m args below meth c A Q hX hnm hR
  refine Z.pick (lv' := [(0, .ref (pl k)), (1, .ref (h 1)), (2, .int (zI i)), (3, .long sc)]) [0, 1, 2, 3] rfl ?_
  refine Z.aload_n hX dX2_setScaledLine_0 rfl rfl ?_
  refine Z.lload_n hX dX2_setScaledLine_1 rfl rfl ?_
  refine Z.aload_n hX dX2_setScaledLine_2 rfl rfl ?_
  refine Z.getf hX 5 1 0 dX2_setScaledLine_3 rfl rfl inX5 (by decide) fl_X2_37 rfl rfl ?_
  refine Z.iconst hX dX2_setScaledLine_6 ?_
  refine Z.aaload hX 9 3 dX2_setScaledLine_7 rfl rfl rfl (by omega) (by omega) (by decide) rfl ?_
  refine Z.iload_n hX dX2_setScaledLine_8 rfl rfl ?_
  refine Z.laload hX (18 + 0) 1 dX2_setScaledLine_9 (cW_in (by decide)) rfl (by omega) (by omega) (by decide) ?_
  refine Z.lmul hX dX2_setScaledLine_10 ?_
  refine Z.lload_n hX dX2_setScaledLine_11 rfl rfl ?_
  refine Z.aload_n hX dX2_setScaledLine_12 rfl rfl ?_
  refine Z.getf hX 5 1 0 dX2_setScaledLine_13 rfl rfl inX5 (by decide) fl_X2_37 rfl rfl ?_
  refine Z.iconst hX dX2_setScaledLine_16 ?_
  refine Z.aaload hX 9 3 dX2_setScaledLine_17 rfl rfl rfl (by omega) (by omega) (by decide) rfl ?_
  refine Z.iload_n hX dX2_setScaledLine_18 rfl rfl ?_
  refine Z.laload hX (18 + 1) 1 dX2_setScaledLine_19 (cW_in (by decide)) rfl (by omega) (by omega) (by decide) ?_
  refine Z.lmul hX dX2_setScaledLine_20 ?_
  refine Z.lload_n hX dX2_setScaledLine_21 rfl rfl ?_
  refine Z.aload_n hX dX2_setScaledLine_22 rfl rfl ?_
  refine Z.getf hX 5 1 0 dX2_setScaledLine_23 rfl rfl inX5 (by decide) fl_X2_37 rfl rfl ?_
  refine Z.iconst hX dX2_setScaledLine_26 ?_
  refine Z.aaload hX 9 3 dX2_setScaledLine_27 rfl rfl rfl (by omega) (by omega) (by decide) rfl ?_
  refine Z.iload_n hX dX2_setScaledLine_28 rfl rfl ?_
  refine Z.laload hX (18 + 2) 1 dX2_setScaledLine_29 (cW_in (by decide)) rfl (by omega) (by omega) (by decide) ?_
  refine Z.lmul hX dX2_setScaledLine_30 ?_
  refine Z.callVfv (As := [.long (sc * (L 0 (i : Int).toNat)), .long (sc * (L 1 (i : Int).toNat)), .long (sc * (L 2 (i : Int).toNat))]) (rest := []) hX 3 (24 + k) rfl (cW_pl (by omega)) (ct_X3_setLine_y l D ce h pl ar G L B J k (sc * (L 0 (i : Int).toNat)) (sc * (L 1 (i : Int).toNat)) (sc * (L 2 (i : Int).toNat)) hk hB) mc_X3_setLine ml_X2_41 im_X3_setLine se_X3_setLine ini_X3 nd_X3_setLine ⟨Nat.le_of_ble_eq_true rfl, Nat.le_of_ble_eq_true rfl⟩ ⟨rfl, rfl⟩ ⟨Nat.le_refl _, Nat.le_refl _⟩ rfl (Nat.le_of_ble_eq_true rfl) dX2_setScaledLine_31 ?_
  rintro w1 ⟨B22, J23, hw_, hs1, hs2, hs3, hs4, hs5⟩
  subst hw_
  exact hR _ _ _ dX2_setScaledLine_34 ⟨B22, J23, rfl, hs3, hs1, hs2, hs4, hs5⟩

set_option maxHeartbeats 4000000 in
set_option maxRecDepth 100000 in
theorem ct_X2_takeLines_z (l : Launch) (D : va_G) (ce : Nat → ClassId) (h pl ar : Nat → Nat) (G : Nat → Int) (L : Nat → Nat → Int64) (B : Nat → Int) (J : Nat → Nat → Int64) (hB : BOK B) (hbl : bL L) : Ct l yX2_takeLines cX2_takeLines 4 (some .int) { frames := 4, cells := 0, slots := 0, locals := 94 } 0 0 D (TY ce) [.ref (h 4), .ref (h 1)] (cW ce h pl ar G L B J) (QI D (TY ce) (fun r w1 => ∃ z : Int, ∃ B2 : Nat → Int, ∃ J2 : Nat → Nat → Int64, r = zI z ∧ w1 = cW ce h pl ar G L B2 J2 ∧ (BOK B2) ∧ (0 ≤ z ∧ z ≤ 3) ∧ (TKz L z) ∧ (1 ≤ z → MVz B2 J2 (fun t => dva (zL3 L t)) (fun t => dvn (z + 1).toNat (zL3 L t)) (z + 1)))) := by
  refine Ct.ofI (by decide) (Nat.le_of_ble_eq_true rfl) ?_
  intro p e s m args below meth c A Q hX hnm hR
  refine Z.pick (lv' := [(0, .ref (h 4)), (1, .ref (h 1))]) [0, 1] rfl ?_
  refine Z.aload_n hX dX2_takeLines_0 rfl rfl ?_
  refine Z.callVfi (As := []) (rest := []) hX 5 1 rfl rfl (ct_X5_highestPower_r l D ce h pl ar G L B J ) mc_X5_highestPower ml_X2_33 im_X5_highestPower se_X5_highestPower ini_X5 nd_X5_highestPower ⟨Nat.le_of_ble_eq_true rfl, Nat.le_of_ble_eq_true rfl⟩ ⟨rfl, rfl⟩ ⟨Nat.le_refl _, Nat.le_refl _⟩ rfl (Nat.le_of_ble_eq_true rfl) dX2_takeLines_1 ?_
  rintro r_1 w1 ⟨tp, hr_, hw_, t1, t2, t3⟩
  subst hr_
  subst hw_
  refine Z.istore_n (lv' := [(2, .int (zI tp)), (0, .ref (h 4)), (1, .ref (h 1))]) hX dX2_takeLines_4 rfl (by decide) rfl ?_
  refine Z.iconst hX dX2_takeLines_5 ?_
  refine Z.istore_n (lv' := [(3, .int (zI 0)), (2, .int (zI tp)), (0, .ref (h 4)), (1, .ref (h 1))]) hX dX2_takeLines_6 rfl (by decide) rfl ?_
  have key_7 : ∀ (N : Nat), ∀ (i : Int) (BB : Nat → Int) (MM : Nat → Nat → Int64), (tp - i).toNat < N → (hi : 0 ≤ i ∧ i ≤ tp) → (hM : BOK BB) → (hmv : MVz BB MM (fun t => dva (zL3 L t)) (fun t => dvn (tp).toNat (zL3 L t)) i) → Z p l e { frames := 4, cells := 0, slots := 0, locals := 94 } s m args below meth c D A 4 0 0 Q 7 [(3, .int (zI i)), (2, .int (zI tp)), (1, .ref (h 1)), (0, .ref (h 4))] [] (cW ce h pl ar G L BB MM) := by
    intro N
    induction N with
    | zero => intro i BB MM hm; exact absurd hm (Nat.not_lt_zero _)
    | succ N ih_7 =>
      intro i BB MM hm hi hM hmv
      refine Z.iload_n hX dX2_takeLines_7 rfl rfl ?_
      refine Z.iload_n hX dX2_takeLines_8 rfl rfl ?_
      refine Z.icmp_ge hX 50 dX2_takeLines_9 (by decide) ⟨by omega, by omega⟩ ⟨by omega, by omega⟩ ?_ ?_
      · intro c2
        refine Z.iload_n hX dX2_takeLines_50 rfl rfl ?_
        refine Z.iconst hX dX2_takeLines_51 ?_
        refine Z.icmp_ge hX 59 dX2_takeLines_52 (by decide) ⟨by omega, by omega⟩ ⟨by omega, by omega⟩ ?_ ?_
        · intro c3
          refine Z.iload_n hX dX2_takeLines_59 rfl rfl ?_
          refine Z.iconst hX dX2_takeLines_60 ?_
          refine Z.isub hX dX2_takeLines_61 ?_
          exact hR _ _ _ _ dX2_takeLines_62 ⟨(tp - 1), BB, MM, rfl, rfl, hM, (by omega), ⟨tp, ⟨t1, t2, t3⟩, Or.inr ⟨by omega, rfl⟩⟩, (fun _ => by rw [show tp - 1 + 1 = i by omega]; rw [show tp = i by omega] at hmv; exact hmv)⟩
        · intro c3
          refine Z.iconst hX dX2_takeLines_55 ?_
          refine Z.goto hX 62 dX2_takeLines_56 (by decide) ?_
          exact hR _ _ _ _ dX2_takeLines_62 ⟨0, BB, MM, rfl, rfl, hM, (by omega), ⟨tp, ⟨t1, t2, t3⟩, Or.inl ⟨by omega, rfl⟩⟩, (fun q => absurd q (by decide))⟩
      · intro c2
        refine Z.aload_n hX dX2_takeLines_12 rfl rfl ?_
        refine Z.getf hX 2 4 0 dX2_takeLines_13 rfl rfl inX2 (by decide) fl_X2_11 rfl rfl ?_
        refine Z.iload_n hX dX2_takeLines_16 rfl rfl ?_
        refine Z.aaload hX 14 4 dX2_takeLines_17 rfl rfl rfl (by omega) (by omega) (by decide) rfl ?_
        refine Z.aload_n hX dX2_takeLines_18 rfl rfl ?_
        refine Z.iload_n hX dX2_takeLines_19 rfl rfl ?_
        refine Z.iconst hX dX2_takeLines_20 ?_
        refine Z.iadd hX dX2_takeLines_21 ?_
        refine Z.iload_n hX dX2_takeLines_22 rfl rfl ?_
        refine Z.iconst hX dX2_takeLines_23 ?_
        refine Z.iadd hX dX2_takeLines_24 ?_
        refine Z.i2l hX dX2_takeLines_25 ⟨by omega, by omega⟩ ?_
        refine Z.callSfv (As := [.ref (pl (i : Int).toNat), .ref (h 1), .int (zI (i + 1)), .long (zL (i + 1))]) (rest := []) hX (ct_X2_setScaledLine_z l D ce h pl ar G L BB MM ((i : Int).toNat) (i + 1) (zL (i + 1)) hM (by omega) (by omega)) mc_X2_setScaledLine ml_X2_45 st_X2_setScaledLine ini_X2 nd_X2_setScaledLine ⟨Nat.le_of_ble_eq_true rfl, Nat.le_of_ble_eq_true rfl⟩ ⟨rfl, rfl⟩ ⟨Nat.le_refl _, Nat.le_refl _⟩ rfl (Nat.le_of_ble_eq_true rfl) dX2_takeLines_26 ?_
        rintro w1 ⟨Bs, Js, hw_, hs3, hs1, hs2, hs4, hs5⟩
        subst hw_
        refine Z.aload_n hX dX2_takeLines_29 rfl rfl ?_
        refine Z.getf hX 2 4 1 dX2_takeLines_30 rfl rfl inX2 (by decide) fl_X2_17 rfl rfl ?_
        refine Z.iload_n hX dX2_takeLines_33 rfl rfl ?_
        refine Z.aaload hX 15 4 dX2_takeLines_34 rfl rfl rfl (by omega) (by omega) (by decide) rfl ?_
        refine Z.aload_n hX dX2_takeLines_35 rfl rfl ?_
        refine Z.iload_n hX dX2_takeLines_36 rfl rfl ?_
        refine Z.iload_n hX dX2_takeLines_37 rfl rfl ?_
        refine Z.iload_n hX dX2_takeLines_38 rfl rfl ?_
        refine Z.isub hX dX2_takeLines_39 ?_
        refine Z.i2l hX dX2_takeLines_40 ⟨by omega, by omega⟩ ?_
        refine Z.callSfv (As := [.ref (pl (5 + (i : Int).toNat)), .ref (h 1), .int (zI i), .long (zL (tp - i))]) (rest := []) hX (ct_X2_setScaledLine_z l D ce h pl ar G L Bs Js ((5 + (i : Int).toNat)) i (zL (tp - i)) hs3 (by omega) (by omega)) mc_X2_setScaledLine ml_X2_45 st_X2_setScaledLine ini_X2 nd_X2_setScaledLine ⟨Nat.le_of_ble_eq_true rfl, Nat.le_of_ble_eq_true rfl⟩ ⟨rfl, rfl⟩ ⟨Nat.le_refl _, Nat.le_refl _⟩ rfl (Nat.le_of_ble_eq_true rfl) dX2_takeLines_41 ?_
        rintro w1 ⟨Bt, Jt, hw_, ht3, ht1, ht2, ht4, ht5⟩
        subst hw_
        refine Z.iinc (lv' := [(3, .int (zI (i + 1))), (2, .int (zI tp)), (1, .ref (h 1)), (0, .ref (h 4))]) hX dX2_takeLines_44 rfl (by decide) rfl ?_
        refine Z.goto hX 7 dX2_takeLines_47 (by decide) ?_
        refine Z.pick [0, 1, 2, 3] rfl ?_
        exact ih_7 _ _ _ (by omega) (by omega) ht3 (mvz_s (by omega) hmv hs1 hs2 hs4 (mv_l hbl (by omega) hs5) ht1 ht2 ht4 (mv_r hbl (by omega) ht5))
  refine Z.pick [0, 1, 3, 2] rfl ?_
  exact key_7 _ _ _ _ (Nat.lt_succ_self _) (by omega) hB mvz_0

set_option maxHeartbeats 4000000 in
set_option maxRecDepth 100000 in
theorem ct_X2_fillEntry_z (l : Launch) (D : va_G) (ce : Nat → ClassId) (h pl ar : Nat → Nat) (G : Nat → Int) (L : Nat → Nat → Int64) (B : Nat → Int) (J : Nat → Nat → Int64) (i j size : Int) (f g : Int → Nat → Int) (hB : BOK B) (hij : 0 ≤ i ∧ i ≤ j ∧ j < size ∧ size ≤ 4) (hmv : MVz B J f g (size + 1)) : Ct l yX2_fillEntry cX2_fillEntry 7 none { frames := 3, cells := 0, slots := 0, locals := 62 } 0 0 D (TY ce) [.ref (h 4), .int (zI i), .int (zI j), .int (zI size)] (cW ce h pl ar G L B J) (QV D (TY ce) (fun w1 => ∃ B2 : Nat → Int, ∃ J2 : Nat → Nat → Int64, w1 = cW ce h pl ar G L B2 J2 ∧ (BOK B2) ∧ (∀ k, k ≠ (10 + tri (i * 4 + j).toNat) → B2 k = B k) ∧ (∀ k, k ≠ (10 + tri (i * 4 + j).toNat) → J2 k = J k) ∧ (ENTz B2 J2 f g size.toNat i j))) := by
  refine Ct.ofV (by decide) (Nat.le_of_ble_eq_true rfl) ?_
  intro p e s m args below meth c A Q hX hnm hR
  refine Z.pick (lv' := [(0, .ref (h 4)), (1, .int (zI i)), (2, .int (zI j)), (3, .int (zI size))]) [0, 1, 2, 3] rfl ?_
  have htl := tri_lt (i * 4 + j : Int).toNat
  refine Z.aload_n hX dX2_fillEntry_0 rfl rfl ?_
  refine Z.getf hX 2 4 2 dX2_fillEntry_1 rfl rfl inX2 (by decide) fl_X2_20 rfl rfl ?_
  refine Z.iload_n hX dX2_fillEntry_4 rfl rfl ?_
  refine Z.iconst hX dX2_fillEntry_5 ?_
  refine Z.imul hX dX2_fillEntry_6 ?_
  refine Z.iload_n hX dX2_fillEntry_7 rfl rfl ?_
  refine Z.iadd hX dX2_fillEntry_8 ?_
  refine Z.aaload hX 16 4 dX2_fillEntry_9 rfl rfl rfl (by omega) (by omega) (by decide) rfl ?_
  refine Z.astore (lv' := [(4, .ref (pl (10 + tri ((i * 4) + j : Int).toNat))), (0, .ref (h 4)), (1, .int (zI i)), (2, .int (zI j)), (3, .int (zI size))]) hX dX2_fillEntry_10 (by decide) rfl ?_
  refine Z.aload hX dX2_fillEntry_12 rfl ?_
  refine Z.callVfv (As := []) (rest := []) hX 3 (24 + (10 + tri ((i * 4) + j : Int).toNat)) rfl (cW_pl (by have := tri_lt ((i * 4) + j : Int).toNat; omega)) (ct_X3_erase_y l D ce h pl ar G L B J ((10 + tri ((i * 4) + j : Int).toNat)) (by omega) hB) mc_X3_erase ml_X2_53 im_X3_erase se_X3_erase ini_X3 nd_X3_erase ⟨Nat.le_of_ble_eq_true rfl, Nat.le_of_ble_eq_true rfl⟩ ⟨rfl, rfl⟩ ⟨Nat.le_refl _, Nat.le_refl _⟩ rfl (Nat.le_of_ble_eq_true rfl) dX2_fillEntry_14 ?_
  rintro w1 ⟨Bp, Jp, hw_, hp1, hp2, hp3, hp4, hp5⟩
  subst hw_
  refine Z.iload_n hX dX2_fillEntry_17 rfl rfl ?_
  refine Z.iload_n hX dX2_fillEntry_18 rfl rfl ?_
  refine Z.iconst hX dX2_fillEntry_19 ?_
  refine Z.isub hX dX2_fillEntry_20 ?_
  refine Z.iload_n hX dX2_fillEntry_21 rfl rfl ?_
  refine Z.isub hX dX2_fillEntry_22 ?_
  refine Z.mmin hX dX2_fillEntry_23 mm_X2_64 ⟨by omega, by omega⟩ ⟨by omega, by omega⟩ (by decide) (Nat.le_of_ble_eq_true rfl) (Nat.le_refl _) (Nat.le_refl _) ?_
  obtain ⟨z2, ez2⟩ : ∃ x : Int, x = (if (size - 1) - j < i then (size - 1) - j else i) := ⟨_, rfl⟩
  rw [← ez2]
  have hla : z2 ≤ i ∧ z2 ≤ size - 1 - j := by rw [ez2]; split <;> omega
  have hla2 : z2 = i ∨ z2 = size - 1 - j := by rw [ez2]; split <;> omega
  obtain ⟨la, ela⟩ : ∃ x : Int, x = z2 := ⟨_, rfl⟩
  rw [← ela]
  rw [← ela] at hla hla2
  refine Z.istore (lv' := [(5, .int (zI la)), (4, .ref (pl (10 + tri ((i * 4) + j : Int).toNat))), (0, .ref (h 4)), (1, .int (zI i)), (2, .int (zI j)), (3, .int (zI size))]) hX dX2_fillEntry_26 (by decide) rfl ?_
  refine Z.iconst hX dX2_fillEntry_28 ?_
  refine Z.istore (lv' := [(6, .int (zI 0)), (5, .int (zI la)), (4, .ref (pl (10 + tri ((i * 4) + j : Int).toNat))), (0, .ref (h 4)), (1, .int (zI i)), (2, .int (zI j)), (3, .int (zI size))]) hX dX2_fillEntry_29 (by decide) rfl ?_
  have key_31 : ∀ (N : Nat), ∀ (q : Int) (BB : Nat → Int) (MM : Nat → Nat → Int64), (la + 1 - q).toNat < N → (hq : 0 ≤ q ∧ (q ≤ la + 1 ∨ q = 0)) → (hM : BOK BB) → (hfr : ∀ k, k ≠ (10 + tri (i * 4 + j).toNat) → BB k = B k ∧ MM k = J k) → (hC : CG (pw ixs (MM (10 + tri (i * 4 + j).toNat)) 28) (fun z => bzs (f z) (g z) i.toNat j.toNat q.toNat)) → (hpz : PZ (MM (10 + tri (i * 4 + j).toNat)) (BB (10 + tri (i * 4 + j).toNat))) → (hbe : BB (10 + tri (i * 4 + j).toNat) ≤ 2) → Z p l e { frames := 3, cells := 0, slots := 0, locals := 62 } s m args below meth c D A 7 0 0 Q 31 [(6, .int (zI q)), (5, .int (zI la)), (4, .ref (pl (10 + tri (i * 4 + j : Int).toNat))), (3, .int (zI size)), (2, .int (zI j)), (1, .int (zI i)), (0, .ref (h 4))] [] (cW ce h pl ar G L BB MM) := by
    intro N
    induction N with
    | zero => intro q BB MM hm; exact absurd hm (Nat.not_lt_zero _)
    | succ N ih_31 =>
      intro q BB MM hm hq hM hfr hC hpz hbe
      refine Z.iload hX dX2_fillEntry_31 rfl ?_
      refine Z.iload hX dX2_fillEntry_33 rfl ?_
      refine Z.icmp_gt hX 98 dX2_fillEntry_35 (by decide) ⟨by omega, by omega⟩ ⟨by omega, by omega⟩ ?_ ?_
      · intro c3
        refine Z.aload hX dX2_fillEntry_98 rfl ?_
        refine Z.callVfv (As := []) (rest := []) hX 3 (24 + (10 + tri (i * 4 + j : Int).toNat)) rfl (cW_pl (by have := tri_lt (i * 4 + j : Int).toNat; omega)) (ct_X3_tighten_y l D ce h pl ar G L BB MM ((10 + tri (i * 4 + j : Int).toNat)) (by omega) hM hpz) mc_X3_tighten ml_X2_76 im_X3_tighten se_X3_tighten ini_X3 nd_X3_tighten ⟨Nat.le_of_ble_eq_true rfl, Nat.le_of_ble_eq_true rfl⟩ ⟨rfl, rfl⟩ ⟨Nat.le_refl _, Nat.le_refl _⟩ rfl (Nat.le_of_ble_eq_true rfl) dX2_fillEntry_100 ?_
        rintro w1 ⟨Bc, hw_, hc1, hc2, hc3, hc4, hc5⟩
        subst hw_
        exact hR _ _ _ dX2_fillEntry_103 ⟨Bc, MM, rfl, hc2, (fun k hk => (hc1 k hk).trans (hfr k hk).1), (fun k hk => (hfr k hk).2), ⟨bz_I (by omega) (by omega) hC, hc4, by omega⟩⟩
      · intro c3
        refine Z.aload hX dX2_fillEntry_38 rfl ?_
        refine Z.aload_n hX dX2_fillEntry_40 rfl rfl ?_
        refine Z.getf hX 2 4 0 dX2_fillEntry_41 rfl rfl inX2 (by decide) fl_X2_11 rfl rfl ?_
        refine Z.iload_n hX dX2_fillEntry_44 rfl rfl ?_
        refine Z.iload hX dX2_fillEntry_45 rfl ?_
        refine Z.iadd hX dX2_fillEntry_47 ?_
        refine Z.iconst hX dX2_fillEntry_48 ?_
        refine Z.iadd hX dX2_fillEntry_49 ?_
        refine Z.aaload hX 14 4 dX2_fillEntry_50 rfl rfl rfl (by omega) (by omega) (by decide) rfl ?_
        refine Z.aload_n hX dX2_fillEntry_51 rfl rfl ?_
        refine Z.getf hX 2 4 1 dX2_fillEntry_52 rfl rfl inX2 (by decide) fl_X2_17 rfl rfl ?_
        refine Z.iload_n hX dX2_fillEntry_55 rfl rfl ?_
        refine Z.iload hX dX2_fillEntry_56 rfl ?_
        refine Z.isub hX dX2_fillEntry_58 ?_
        refine Z.aaload hX 15 4 dX2_fillEntry_59 rfl rfl rfl (by omega) (by omega) (by decide) rfl ?_
        refine Z.lconst (v := 1) hX dX2_fillEntry_60 rfl ?_
        have hx1 := hmv (j + q + 1) (by omega) (by omega)
        have hx2 := hmv (i - q) (by omega) (by omega)
        have bx1 : BB (j + q + 1).toNat = 1 := by rw [(hfr _ (by omega)).1]; exact hx1.1.1
        have zx1 : PZ (MM (j + q + 1).toNat) (BB (j + q + 1).toNat) := by rw [bx1, (hfr _ (by omega)).2]; exact hx1.1.2.1
        have by2 : BB (5 + (i - q).toNat) = 1 := by rw [(hfr _ (by omega)).1]; exact hx2.2.1
        have zy2 : PZ (MM (5 + (i - q).toNat)) (BB (5 + (i - q).toNat)) := by rw [by2, (hfr _ (by omega)).2]; exact hx2.2.2.1
        have ex1 : ∀ t, pw ixs (MM (j + q + 1).toNat) 28 t = f t (j.toNat + q.toNat + 1) := fun t => by rw [(hfr _ (by omega)).2, hx1.1.2.2 t, show (j + q + 1).toNat = j.toNat + q.toNat + 1 by omega]
        have ey2 : ∀ t, pw ixs (MM (5 + (i - q).toNat)) 28 t = g t (i.toNat - q.toNat) := fun t => by rw [(hfr _ (by omega)).2, hx2.2.2.2 t, show (i - q).toNat = i.toNat - q.toNat by omega]
        refine Z.callVfv (As := [.ref (pl ((j + q) + 1 : Int).toNat), .ref (pl (5 + (i - q : Int).toNat)), .long 1]) (rest := []) hX 3 (24 + (10 + tri (i * 4 + j : Int).toNat)) rfl (cW_pl (by have := tri_lt (i * 4 + j : Int).toNat; omega)) (ct_X3_addProduct_y l D ce h pl ar G L BB MM ((10 + tri (i * 4 + j : Int).toNat)) (((j + q) + 1 : Int).toNat) ((5 + (i - q : Int).toNat)) 1 (by omega) hM (by omega) (by omega) zx1 zy2 hpz (by omega)) mc_X3_addProduct ml_X2_70 im_X3_addProduct se_X3_addProduct ini_X3 nd_X3_addProduct ⟨Nat.le_of_ble_eq_true rfl, Nat.le_of_ble_eq_true rfl⟩ ⟨rfl, rfl⟩ ⟨Nat.le_refl _, Nat.le_refl _⟩ rfl (Nat.le_of_ble_eq_true rfl) dX2_fillEntry_61 ?_
        rintro w1 ⟨Ba, Ja, hw_, ha1, ha2, ha3, ha4, ha5, ha6⟩
        subst hw_
        refine Z.aload hX dX2_fillEntry_64 rfl ?_
        refine Z.aload_n hX dX2_fillEntry_66 rfl rfl ?_
        refine Z.getf hX 2 4 0 dX2_fillEntry_67 rfl rfl inX2 (by decide) fl_X2_11 rfl rfl ?_
        refine Z.iload_n hX dX2_fillEntry_70 rfl rfl ?_
        refine Z.iload hX dX2_fillEntry_71 rfl ?_
        refine Z.isub hX dX2_fillEntry_73 ?_
        refine Z.aaload hX 14 4 dX2_fillEntry_74 rfl rfl rfl (by omega) (by omega) (by decide) rfl ?_
        refine Z.aload_n hX dX2_fillEntry_75 rfl rfl ?_
        refine Z.getf hX 2 4 1 dX2_fillEntry_76 rfl rfl inX2 (by decide) fl_X2_17 rfl rfl ?_
        refine Z.iload_n hX dX2_fillEntry_79 rfl rfl ?_
        refine Z.iload hX dX2_fillEntry_80 rfl ?_
        refine Z.iadd hX dX2_fillEntry_82 ?_
        refine Z.iconst hX dX2_fillEntry_83 ?_
        refine Z.iadd hX dX2_fillEntry_84 ?_
        refine Z.aaload hX 15 4 dX2_fillEntry_85 rfl rfl rfl (by omega) (by omega) (by decide) rfl ?_
        refine Z.ldc2 hX dX2_fillEntry_86 co_X2_74 ?_
        have bx3 : Ba (i - q).toNat = 1 := by rw [ha1 _ (by omega), (hfr _ (by omega)).1]; exact hx2.1.1
        have zx3 : PZ (Ja (i - q).toNat) (Ba (i - q).toNat) := by rw [bx3, ha2 _ (by omega), (hfr _ (by omega)).2]; exact hx2.1.2.1
        have by4 : Ba (5 + (j + q + 1).toNat) = 1 := by rw [ha1 _ (by omega), (hfr _ (by omega)).1]; exact hx1.2.1
        have zy4 : PZ (Ja (5 + (j + q + 1).toNat)) (Ba (5 + (j + q + 1).toNat)) := by rw [by4, ha2 _ (by omega), (hfr _ (by omega)).2]; exact hx1.2.2.1
        have ex3 : ∀ t, pw ixs (Ja (i - q).toNat) 28 t = f t (i.toNat - q.toNat) := fun t => by rw [ha2 _ (by omega), (hfr _ (by omega)).2, hx2.1.2.2 t, show (i - q).toNat = i.toNat - q.toNat by omega]
        have ey4 : ∀ t, pw ixs (Ja (5 + (j + q + 1).toNat)) 28 t = g t (j.toNat + q.toNat + 1) := fun t => by rw [ha2 _ (by omega), (hfr _ (by omega)).2, hx1.2.2.2 t, show (j + q + 1).toNat = j.toNat + q.toNat + 1 by omega]
        refine Z.callVfv (As := [.ref (pl (i - q : Int).toNat), .ref (pl (5 + ((j + q) + 1 : Int).toNat)), .long (-1)]) (rest := []) hX 3 (24 + (10 + tri (i * 4 + j : Int).toNat)) rfl (cW_pl (by have := tri_lt (i * 4 + j : Int).toNat; omega)) (ct_X3_addProduct_y l D ce h pl ar G L Ba Ja ((10 + tri (i * 4 + j : Int).toNat)) ((i - q : Int).toNat) ((5 + ((j + q) + 1 : Int).toNat)) (-1) (by omega) ha3 (by omega) (by omega) zx3 zy4 ha5 (by omega)) mc_X3_addProduct ml_X2_70 im_X3_addProduct se_X3_addProduct ini_X3 nd_X3_addProduct ⟨Nat.le_of_ble_eq_true rfl, Nat.le_of_ble_eq_true rfl⟩ ⟨rfl, rfl⟩ ⟨Nat.le_refl _, Nat.le_refl _⟩ rfl (Nat.le_of_ble_eq_true rfl) dX2_fillEntry_89 ?_
        rintro w1 ⟨Bb, Jb, hw_, hb1, hb2, hb3, hb4, hb5, hb6⟩
        subst hw_
        have hba : Ba (10 + tri (i * 4 + j).toNat) ≤ 2 := by rw [ha6, bx1, by2]; split <;> omega
        have hbb : Bb (10 + tri (i * 4 + j).toNat) ≤ 2 := by rw [hb6, bx3, by4]; split <;> omega
        refine Z.iinc (lv' := [(6, .int (zI (q + 1))), (5, .int (zI la)), (4, .ref (pl (10 + tri (i * 4 + j : Int).toNat))), (3, .int (zI size)), (2, .int (zI j)), (1, .int (zI i)), (0, .ref (h 4))]) hX dX2_fillEntry_92 rfl (by decide) rfl ?_
        refine Z.goto hX 31 dX2_fillEntry_95 (by decide) ?_
        refine Z.pick [0, 1, 2, 3, 4, 5, 6] rfl ?_
        exact ih_31 _ _ _ (by omega) (by omega) hb3 (fun k hk => ⟨(hb1 k hk).trans ((ha1 k hk).trans (hfr k hk).1), (hb2 k hk).trans ((ha2 k hk).trans (hfr k hk).2)⟩) (by rw [show (q + 1).toNat = q.toNat + 1 by omega]; exact bz_s1 (m3' := MM 0) hC ha4 hb4 ex1 ey2 ex3 ey4) hb5 hbb
  refine Z.pick [0, 1, 2, 6, 5, 4, 3] rfl ?_
  exact key_31 _ _ _ _ (Nat.lt_succ_self _) (by omega) hp3 (fun k hk => ⟨hp1 k hk, hp2 k hk⟩) (CG.ex (fun z => pl_z hp5 z)) (by rw [hp4]; exact PZ_z hp5) (by omega)

set_option maxHeartbeats 4000000 in
set_option maxRecDepth 100000 in
theorem ct_X2_fillMinor_z (l : Launch) (D : va_G) (ce : Nat → ClassId) (h pl ar : Nat → Nat) (G : Nat → Int) (L : Nat → Nat → Int64) (B : Nat → Int) (J : Nat → Nat → Int64) (col size : Int) (f g : Int → Nat → Int) (hB : BOK B) (hc : 1 ≤ col ∧ col < 16) (hs : 1 ≤ size ∧ size ≤ 3) (hcs : (pc8 col.toNat : Int) ≤ size) (hen : ENsz B J f g size) (hmn : MNsz B J f g size col) (pf_ : ∀ k, Pf (fun t => f t k)) (pg_ : ∀ k, Pf (fun t => g t k)) : Ct l yX2_fillMinor cX2_fillMinor 7 none { frames := 2, cells := 0, slots := 0, locals := 55 } 0 0 D (TY ce) [.ref (h 4), .int (zI col), .int (zI size)] (cW ce h pl ar G L B J) (QV D (TY ce) (fun w1 => ∃ B2 : Nat → Int, ∃ J2 : Nat → Nat → Int64, w1 = cW ce h pl ar G L B2 J2 ∧ (BOK B2) ∧ (∀ k, k ≠ (20 + col.toNat) → B2 k = B k) ∧ (∀ k, k ≠ (20 + col.toNat) → J2 k = J k) ∧ (MINz B2 J2 f g size col))) := by
  refine Ct.ofV (by decide) (Nat.le_of_ble_eq_true rfl) ?_
  intro p e s m args below meth c A Q hX hnm hR
  refine Z.pick (lv' := [(0, .ref (h 4)), (1, .int (zI col)), (2, .int (zI size))]) [0, 1, 2] rfl ?_
  refine Z.aload_n hX dX2_fillMinor_0 rfl rfl ?_
  refine Z.getf hX 2 4 3 dX2_fillMinor_1 rfl rfl inX2 (by decide) fl_X2_23 rfl rfl ?_
  refine Z.iload_n hX dX2_fillMinor_4 rfl rfl ?_
  refine Z.aaload hX 17 4 dX2_fillMinor_5 rfl rfl rfl (by omega) (by omega) (by decide) rfl ?_
  refine Z.astore_n (lv' := [(3, .ref (pl (20 + (col : Int).toNat))), (0, .ref (h 4)), (1, .int (zI col)), (2, .int (zI size))]) hX dX2_fillMinor_6 rfl (by decide) rfl ?_
  refine Z.aload_n hX dX2_fillMinor_7 rfl rfl ?_
  refine Z.callVfv (As := []) (rest := []) hX 3 (24 + (20 + (col : Int).toNat)) rfl (cW_pl (by omega)) (ct_X3_erase_y l D ce h pl ar G L B J ((20 + (col : Int).toNat)) (by omega) hB) mc_X3_erase ml_X2_53 im_X3_erase se_X3_erase ini_X3 nd_X3_erase ⟨Nat.le_of_ble_eq_true rfl, Nat.le_of_ble_eq_true rfl⟩ ⟨rfl, rfl⟩ ⟨Nat.le_refl _, Nat.le_refl _⟩ rfl (Nat.le_of_ble_eq_true rfl) dX2_fillMinor_8 ?_
  rintro w1 ⟨Bp, Jp, hw_, hp1, hp2, hp3, hp4, hp5⟩
  subst hw_
  refine Z.iload_n hX dX2_fillMinor_11 rfl rfl ?_
  refine Z.callS0i (As := [.int (zI col)]) (rest := []) hX (ct_J6_bitCount_0f7a4 l D ce col (by omega)) mc_J6_bitCount_0f7a4 ml_X2_79 st_J6_bitCount_0f7a4 ini_J6 nd_J6_bitCount_0f7a4 ⟨Nat.le_of_ble_eq_true rfl, Nat.le_of_ble_eq_true rfl⟩ ⟨rfl, rfl⟩ ⟨Nat.le_refl _, Nat.le_refl _⟩ rfl (Nat.le_of_ble_eq_true rfl) dX2_fillMinor_12 ?_
  rintro r_2 w1 ⟨bcn, hr_, hw_, ebc⟩
  subst hr_
  refine ⟨hw_, ?_⟩
  have hbc := pc16b (a := col) (by omega) (by omega)
  refine Z.iconst hX dX2_fillMinor_15 ?_
  refine Z.isub hX dX2_fillMinor_16 ?_
  refine Z.istore (lv' := [(4, .int (zI (bcn - 1))), (3, .ref (pl (20 + (col : Int).toNat))), (0, .ref (h 4)), (1, .int (zI col)), (2, .int (zI size))]) hX dX2_fillMinor_17 (by decide) rfl ?_
  refine Z.iconst hX dX2_fillMinor_19 ?_
  refine Z.istore (lv' := [(5, .int (zI 1)), (4, .int (zI (bcn - 1))), (3, .ref (pl (20 + (col : Int).toNat))), (0, .ref (h 4)), (1, .int (zI col)), (2, .int (zI size))]) hX dX2_fillMinor_20 (by decide) rfl ?_
  refine Z.iload_n hX dX2_fillMinor_22 rfl rfl ?_
  refine Z.iconst hX dX2_fillMinor_23 ?_
  refine Z.isub hX dX2_fillMinor_24 ?_
  refine Z.istore (lv' := [(6, .int (zI (size - 1))), (5, .int (zI 1)), (4, .int (zI (bcn - 1))), (3, .ref (pl (20 + (col : Int).toNat))), (0, .ref (h 4)), (1, .int (zI col)), (2, .int (zI size))]) hX dX2_fillMinor_25 (by decide) rfl ?_
  have key_27 : ∀ (N : Nat), ∀ (cn sg : Int) (BB : Nat → Int) (MM : Nat → Nat → Int64), (cn + 1).toNat < N → (hcn : -1 ≤ cn ∧ cn ≤ size - 1) → (hsg : -1 ≤ sg ∧ sg ≤ 1) → (hM : BOK BB) → (hfr : ∀ k, k ≠ (20 + col.toNat) → BB k = B k ∧ MM k = J k) → (hC : CG (pw ixs (MM (20 + col.toNat)) 28) (Cx (BzEz f g size.toNat) size.toNat col.toNat (size - 1 - cn).toNat)) → (hsv : sg = dsg col.toNat size.toNat (size - 1 - cn).toNat) → (hpz : PZ (MM (20 + col.toNat)) (BB (20 + col.toNat))) → (hbe : BB (20 + col.toNat) ≤ 2 * (pc8 col.toNat : Int)) → Z p l e { frames := 2, cells := 0, slots := 0, locals := 55 } s m args below meth c D A 7 0 0 Q 27 [(6, .int (zI cn)), (5, .int (zI sg)), (4, .int (zI (bcn - 1))), (3, .ref (pl (20 + (col : Int).toNat))), (2, .int (zI size)), (1, .int (zI col)), (0, .ref (h 4))] [] (cW ce h pl ar G L BB MM) := by
    intro N
    induction N with
    | zero => intro cn sg BB MM hm; exact absurd hm (Nat.not_lt_zero _)
    | succ N ih_27 =>
      intro cn sg BB MM hm hcn hsg hM hfr hC hsv hpz hbe
      refine Z.iload hX dX2_fillMinor_27 rfl ?_
      refine Z.if_lt hX 83 dX2_fillMinor_29 (by decide) ⟨by omega, by omega⟩ ?_ ?_
      · intro c3
        exact hR _ _ _ dX2_fillMinor_83 ⟨BB, MM, rfl, hM, (fun k hk => (hfr k hk).1), (fun k hk => (hfr k hk).2), ⟨by rw [show (size - 1 - cn).toNat = size.toNat by omega] at hC; exact hC.tr (CG.ex (fun z => Cx_n (pc_1 (by omega) (by omega)) z)), hpz, hbe⟩⟩
      · intro c3
        obtain ⟨b, t, eb, eb1, eb3, eb4, eb2, eb5⟩ := bitd (s := col) (c := cn) (by omega) (by omega) (by omega) (by omega)
        refine Z.iload_n hX dX2_fillMinor_32 rfl rfl ?_
        refine Z.iload hX dX2_fillMinor_33 rfl ?_
        refine Z.ishr hX dX2_fillMinor_35 ?_
        refine Z.iconst hX dX2_fillMinor_36 ?_
        refine Z.iand hX dX2_fillMinor_37 ?_
        refine Z.vali (y := zI b) eb ?_
        refine Z.iconst hX dX2_fillMinor_38 ?_
        refine Z.icmp_ne hX 77 dX2_fillMinor_39 (by decide) ⟨by omega, by omega⟩ ⟨by omega, by omega⟩ ?_ ?_
        · intro c4
          refine Z.iinc (lv' := [(6, .int (zI (cn + -1))), (5, .int (zI sg)), (4, .int (zI (bcn - 1))), (3, .ref (pl (20 + (col : Int).toNat))), (2, .int (zI size)), (1, .int (zI col)), (0, .ref (h 4))]) hX dX2_fillMinor_77 rfl (by decide) rfl ?_
          refine Z.goto hX 27 dX2_fillMinor_80 (by decide) ?_
          refine Z.pick [0, 1, 2, 3, 4, 5, 6] rfl ?_
          exact ih_27 _ _ _ _ (by omega) (by omega) (by omega) hM hfr (mc_col0 (by omega) (by omega) (eb5 (by omega)) hsv hC).1 (mc_col0 (n := size) (En := BzEz f g size.toNat) (by omega) (by omega) (eb5 (by omega)) hsv hC).2 hpz hbe
        · intro c4
          have htc := (eb2 (by omega)).2.2.1
          have hpt := (eb2 (by omega)).2.1
          refine Z.aload_n hX dX2_fillMinor_42 rfl rfl ?_
          refine Z.aload_n hX dX2_fillMinor_43 rfl rfl ?_
          refine Z.getf hX 2 4 2 dX2_fillMinor_44 rfl rfl inX2 (by decide) fl_X2_20 rfl rfl ?_
          refine Z.iload hX dX2_fillMinor_47 rfl ?_
          refine Z.iconst hX dX2_fillMinor_49 ?_
          refine Z.imul hX dX2_fillMinor_50 ?_
          refine Z.iload hX dX2_fillMinor_51 rfl ?_
          refine Z.iadd hX dX2_fillMinor_53 ?_
          refine Z.aaload hX 16 4 dX2_fillMinor_54 rfl rfl rfl (by omega) (by omega) (by decide) rfl ?_
          refine Z.aload_n hX dX2_fillMinor_55 rfl rfl ?_
          refine Z.getf hX 2 4 3 dX2_fillMinor_56 rfl rfl inX2 (by decide) fl_X2_23 rfl rfl ?_
          refine Z.iload_n hX dX2_fillMinor_59 rfl rfl ?_
          refine Z.iconst hX dX2_fillMinor_60 ?_
          refine Z.iload hX dX2_fillMinor_61 rfl ?_
          refine Z.ishl hX dX2_fillMinor_63 ?_
          refine Z.ixor hX dX2_fillMinor_64 ?_
          refine Z.vali (y := zI t) (eb2 (by omega)).1 ?_
          refine Z.aaload hX 17 4 dX2_fillMinor_65 rfl rfl rfl (by omega) (by omega) (by decide) rfl ?_
          refine Z.iload hX dX2_fillMinor_66 rfl ?_
          refine Z.i2l hX dX2_fillMinor_68 ⟨by omega, by omega⟩ ?_
          have htl := tri_lt ((bcn - 1) * 4 + cn : Int).toNat
          have hE := hen (bcn - 1) cn (by omega) (by omega) (by omega) (by omega)
          have hMt := hmn t (by omega) (by omega)
          have fE := hfr (10 + tri ((bcn - 1) * 4 + cn).toNat) (by omega)
          have fM := hfr (20 + t.toNat) (by omega)
          have zE : PZ (MM (10 + tri ((bcn - 1) * 4 + cn).toNat)) (BB (10 + tri ((bcn - 1) * 4 + cn).toNat)) := by rw [fE.1, fE.2]; exact hE.2.1
          have zM : PZ (MM (20 + t.toNat)) (BB (20 + t.toNat)) := by rw [fM.1, fM.2]; exact hMt.2.1
          have bE : BB (10 + tri ((bcn - 1) * 4 + cn).toNat) ≤ 2 := by rw [fE.1]; exact hE.2.2
          have bM : BB (20 + t.toNat) ≤ 2 * (pc8 t.toNat : Int) := by rw [fM.1]; exact hMt.2.2
          have cE_ : CG (pw ixs (MM (10 + tri ((bcn - 1) * 4 + cn).toNat)) 28) (fun z => bzI (f z) (g z) size.toNat (pc8 col.toNat - 1) cn.toNat) := by rw [fE.2, show pc8 col.toNat - 1 = (bcn - 1).toNat by omega]; exact hE.1
          have cM_ : CG (pw ixs (MM (20 + t.toNat)) 28) (Sx (BzEz f g size.toNat) size.toNat t.toNat) := by rw [fM.2]; exact hMt.1
          refine Z.callVfv (As := [.ref (pl (10 + tri (((bcn - 1) * 4) + cn : Int).toNat)), .ref (pl (20 + (t : Int).toNat)), .long (zL sg)]) (rest := []) hX 3 (24 + (20 + (col : Int).toNat)) rfl (cW_pl (by omega)) (ct_X3_addProduct_y l D ce h pl ar G L BB MM ((20 + (col : Int).toNat)) ((10 + tri (((bcn - 1) * 4) + cn : Int).toNat)) ((20 + (t : Int).toNat)) (zL sg) (by omega) hM (by omega) (by omega) zE zM hpz (by omega)) mc_X3_addProduct ml_X2_70 im_X3_addProduct se_X3_addProduct ini_X3 nd_X3_addProduct ⟨Nat.le_of_ble_eq_true rfl, Nat.le_of_ble_eq_true rfl⟩ ⟨rfl, rfl⟩ ⟨Nat.le_refl _, Nat.le_refl _⟩ rfl (Nat.le_of_ble_eq_true rfl) dX2_fillMinor_69 ?_
          rintro w1 ⟨Ba, Ja, hw_, ha1, ha2, ha3, ha4, ha5, ha6⟩
          subst hw_
          have hco := mc_colz (f := f) (g := g) pf_ pg_ (by omega) (by omega) hsg (eb2 (by omega)).2.1 (eb2 (by omega)).2.2.2.1 (eb2 (by omega)).2.2.2.2 hsv cE_ cM_ hC ha4
          have hbb : Ba (20 + col.toNat) ≤ 2 * (pc8 col.toNat : Int) := by rw [ha6]; split <;> omega
          refine Z.iload hX dX2_fillMinor_72 rfl ?_
          refine Z.ineg hX dX2_fillMinor_74 ?_
          refine Z.istore (lv' := [(5, .int (zI (-sg))), (6, .int (zI cn)), (4, .int (zI (bcn - 1))), (3, .ref (pl (20 + (col : Int).toNat))), (2, .int (zI size)), (1, .int (zI col)), (0, .ref (h 4))]) hX dX2_fillMinor_75 (by decide) rfl ?_
          refine Z.iinc (lv' := [(6, .int (zI (cn + -1))), (5, .int (zI (-sg))), (4, .int (zI (bcn - 1))), (3, .ref (pl (20 + (col : Int).toNat))), (2, .int (zI size)), (1, .int (zI col)), (0, .ref (h 4))]) hX dX2_fillMinor_77 rfl (by decide) rfl ?_
          refine Z.goto hX 27 dX2_fillMinor_80 (by decide) ?_
          refine Z.pick [0, 1, 2, 3, 4, 5, 6] rfl ?_
          exact ih_27 _ _ _ _ (by omega) (by omega) (by omega) ha3 (fun k hk => ⟨(ha1 k hk).trans (hfr k hk).1, (ha2 k hk).trans (hfr k hk).2⟩) hco.1 hco.2 ha5 hbb
  refine Z.pick [0, 1, 2, 3, 6, 5, 4] rfl ?_
  exact key_27 _ _ _ _ _ (Nat.lt_succ_self _) (by omega) (by omega) hp3 (fun k hk => ⟨hp1 k hk, hp2 k hk⟩) (by rw [show (size - 1 - (size - 1)).toNat = 0 by omega]; exact mc_e0 hp5) (by rw [show (size - 1 - (size - 1)).toNat = 0 by omega]; rfl) (by rw [hp4]; exact PZ_z hp5) (by omega)

set_option maxHeartbeats 4000000 in
set_option maxRecDepth 100000 in
theorem ct_X2_resultant_z (l : Launch) (D : va_G) (ce : Nat → ClassId) (h pl ar : Nat → Nat) (G : Nat → Int) (L : Nat → Nat → Int64) (B : Nat → Int) (J : Nat → Nat → Int64) (size : Int) (f g : Int → Nat → Int) (hB : BOK B) (hs : 1 ≤ size ∧ size ≤ 3) (hmv : MVz B J f g (size + 1)) (pf_ : ∀ k, Pf (fun t => f t k)) (pg_ : ∀ k, Pf (fun t => g t k)) : Ct l yX2_resultant cX2_resultant 4 (some (.object "EliminateLoci$Plane")) { frames := 4, cells := 0, slots := 0, locals := 88 } 0 0 D (TY ce) [.ref (h 4), .int (zI size)] (cW ce h pl ar G L B J) (QR D (TY ce) (fun r w1 => ∃ k2 : Nat, ∃ B2 : Nat → Int, ∃ J2 : Nat → Nat → Int64, r = (pl k2) ∧ w1 = cW ce h pl ar G L B2 J2 ∧ (BOK B2) ∧ (k2 < 42 ∧ 20 ≤ k2 ∧ k2 < 36) ∧ (REpz (J2 k2) f g size ∧ PZ (J2 k2) (B2 k2)))) := by
  refine Ct.ofR (by decide) (Nat.le_of_ble_eq_true rfl) (Or.inl ⟨_, rfl⟩) ?_
  intro p e s m args below meth c A Q hX hnm hR
  refine Z.pick (lv' := [(0, .ref (h 4)), (1, .int (zI size))]) [0, 1] rfl ?_
  obtain ⟨T, hT, hT1, hT2, hT3⟩ := sh4y (n := size) hs.1 (by omega)
  refine Z.iconst hX dX2_resultant_0 ?_
  refine Z.istore_n (lv' := [(2, .int (zI 0)), (0, .ref (h 4)), (1, .int (zI size))]) hX dX2_resultant_1 rfl (by decide) rfl ?_
  have key_2 : ∀ (N : Nat), ∀ (i : Int) (BB : Nat → Int) (MM : Nat → Nat → Int64), (size - i).toNat < N → (hi : 0 ≤ i ∧ i ≤ size) → (hM : BOK BB) → (hen : ENpz BB MM f g size i i) → (hmv2 : MVz BB MM f g (size + 1)) → Z p l e { frames := 4, cells := 0, slots := 0, locals := 88 } s m args below meth c D A 4 0 0 Q 2 [(2, .int (zI i)), (1, .int (zI size)), (0, .ref (h 4))] [] (cW ce h pl ar G L BB MM) := by
    intro N
    induction N with
    | zero => intro i BB MM hm; exact absurd hm (Nat.not_lt_zero _)
    | succ N ih_2 =>
      intro i BB MM hm hi hM hen hmv2
      refine Z.iload_n hX dX2_resultant_2 rfl rfl ?_
      refine Z.iload_n hX dX2_resultant_3 rfl rfl ?_
      refine Z.icmp_ge hX 33 dX2_resultant_4 (by decide) ⟨by omega, by omega⟩ ⟨by omega, by omega⟩ ?_ ?_
      · intro c1
        refine Z.aload_n hX dX2_resultant_33 rfl rfl ?_
        refine Z.getf hX 2 4 3 dX2_resultant_34 rfl rfl inX2 (by decide) fl_X2_23 rfl rfl ?_
        refine Z.iconst hX dX2_resultant_37 ?_
        refine Z.aaload hX 17 4 dX2_resultant_38 rfl rfl rfl (by omega) (by omega) (by decide) rfl ?_
        refine Z.callVfv (As := []) (rest := []) hX 3 (24 + (20 + 0)) rfl (cW_pl (by omega)) (ct_X3_erase_y l D ce h pl ar G L BB MM ((20 + 0)) (by omega) hM) mc_X3_erase ml_X2_53 im_X3_erase se_X3_erase ini_X3 nd_X3_erase ⟨Nat.le_of_ble_eq_true rfl, Nat.le_of_ble_eq_true rfl⟩ ⟨rfl, rfl⟩ ⟨Nat.le_refl _, Nat.le_refl _⟩ rfl (Nat.le_of_ble_eq_true rfl) dX2_resultant_39 ?_
        rintro w1 ⟨Bp, Jp, hw_, hp1, hp2, hp3, hp4, hp5⟩
        subst hw_
        refine Z.aload_n hX dX2_resultant_42 rfl rfl ?_
        refine Z.getf hX 2 4 3 dX2_resultant_43 rfl rfl inX2 (by decide) fl_X2_23 rfl rfl ?_
        refine Z.iconst hX dX2_resultant_46 ?_
        refine Z.aaload hX 17 4 dX2_resultant_47 rfl rfl rfl (by omega) (by omega) (by decide) rfl ?_
        refine Z.getf hX 3 (24 + (20 + 0)) 0 dX2_resultant_48 (cW_pl (by omega)) rfl inX3 (by decide) fl_X2_56 rfl rfl ?_
        refine Z.iconst hX dX2_resultant_51 ?_
        refine Z.lconst (v := 1) hX dX2_resultant_52 rfl ?_
        refine Z.lastore hX (66 + (20 + 0)) 1 dX2_resultant_53 (cW_ar (by omega)) rfl (by omega) (by omega) (by decide) ?_
        obtain ⟨J3, eJ3⟩ : ∃ J' : Nat → Nat → Int64, J' = va_up Jp ((20 + 0)) (vp_updL (Jp ((20 + 0))) (0 : Int).toNat (1)) := ⟨_, rfl⟩
        refine Z.toW (w' := cW ce h pl ar G L Bp J3) (by rw [eJ3]; exact cW_setJ (by omega)) ?_
        have gJ3 : J3 ((20 + 0)) = vp_updL (Jp ((20 + 0))) (0 : Int).toNat (1) := by rw [eJ3]; exact up_eq
        have fJ3 : ∀ j_, j_ ≠ (20 + 0) → J3 j_ = Jp j_ := fun j_ hj_ => by rw [eJ3]; exact up_ne hj_
        refine Z.iconst hX dX2_resultant_54 ?_
        refine Z.iload_n hX dX2_resultant_55 rfl rfl ?_
        refine Z.ishl hX dX2_resultant_56 ?_
        refine Z.vali (y := zI T) hT ?_
        refine Z.iconst hX dX2_resultant_57 ?_
        refine Z.isub hX dX2_resultant_58 ?_
        refine Z.istore_n (lv' := [(2, .int (zI (T - 1))), (1, .int (zI size)), (0, .ref (h 4))]) hX dX2_resultant_59 rfl (by decide) rfl ?_
        refine Z.iconst hX dX2_resultant_60 ?_
        refine Z.istore_n (lv' := [(3, .int (zI 1)), (2, .int (zI (T - 1))), (1, .int (zI size)), (0, .ref (h 4))]) hX dX2_resultant_61 rfl (by decide) rfl ?_
        have key_62 : ∀ (N : Nat), ∀ (q : Int) (BB : Nat → Int) (MM : Nat → Nat → Int64), (T - q).toNat < N → (hq : 1 ≤ q ∧ q ≤ T) → (hM : BOK BB) → (hes : ENsz BB MM f g size) → (hmn : MNsz BB MM f g size q) → Z p l e { frames := 4, cells := 0, slots := 0, locals := 88 } s m args below meth c D A 4 0 0 Q 62 [(3, .int (zI q)), (2, .int (zI (T - 1))), (1, .int (zI size)), (0, .ref (h 4))] [] (cW ce h pl ar G L BB MM) := by
          intro N
          induction N with
          | zero => intro q BB MM hm; exact absurd hm (Nat.not_lt_zero _)
          | succ N ih_62 =>
            intro q BB MM hm hq hM hes hmn
            refine Z.iload_n hX dX2_resultant_62 rfl rfl ?_
            refine Z.iload_n hX dX2_resultant_63 rfl rfl ?_
            refine Z.icmp_gt hX 79 dX2_resultant_64 (by decide) ⟨by omega, by omega⟩ ⟨by omega, by omega⟩ ?_ ?_
            · intro c4
              refine Z.aload_n hX dX2_resultant_79 rfl rfl ?_
              refine Z.getf hX 2 4 3 dX2_resultant_80 rfl rfl inX2 (by decide) fl_X2_23 rfl rfl ?_
              refine Z.iload_n hX dX2_resultant_83 rfl rfl ?_
              refine Z.aaload hX 17 4 dX2_resultant_84 rfl rfl rfl (by omega) (by omega) (by decide) rfl ?_
              exact hR _ _ _ _ dX2_resultant_85 ⟨_, BB, MM, rfl, rfl, hM, (by omega), (by rw [show T = q by omega]; exact re_endz (by omega) (by omega) hmn)⟩
            · intro c4
              refine Z.aload_n hX dX2_resultant_67 rfl rfl ?_
              refine Z.iload_n hX dX2_resultant_68 rfl rfl ?_
              refine Z.iload_n hX dX2_resultant_69 rfl rfl ?_
              refine Z.callVfv (As := [.int (zI q), .int (zI size)]) (rest := []) hX 2 4 rfl rfl (ct_X2_fillMinor_z l D ce h pl ar G L BB MM q size f g hM (by omega) hs (pc4 (by omega) (by omega) (by omega)) hes hmn pf_ pg_) mc_X2_fillMinor ml_X2_60 im_X2_fillMinor se_X2_fillMinor ini_X2 nd_X2_fillMinor ⟨Nat.le_of_ble_eq_true rfl, Nat.le_of_ble_eq_true rfl⟩ ⟨rfl, rfl⟩ ⟨Nat.le_refl _, Nat.le_refl _⟩ rfl (Nat.le_of_ble_eq_true rfl) dX2_resultant_70 ?_
              rintro w1 ⟨Bg, Jg, hw_, hg1, hg2, hg3, hg4⟩
              subst hw_
              refine Z.iinc (lv' := [(3, .int (zI (q + 1))), (2, .int (zI (T - 1))), (1, .int (zI size)), (0, .ref (h 4))]) hX dX2_resultant_73 rfl (by decide) rfl ?_
              refine Z.goto hX 62 dX2_resultant_76 (by decide) ?_
              refine Z.pick [0, 1, 2, 3] rfl ?_
              exact ih_62 _ _ _ (by omega) (by omega) hg1 (en_cz hes (fun k a b => hg2 k (by omega)) (fun k a b => hg3 k (by omega))) (mn_kz (by omega) hmn hg2 hg3 hg4)
        refine Z.pick [0, 1, 2, 3] rfl ?_
        exact key_62 _ _ _ _ (Nat.lt_succ_self _) (by omega) hp3 (en_cz (en_allz (by omega) (by omega) hen) (fun k a b => hp1 k (by omega)) (fun k a b => by rw [fJ3 k (by omega)]; exact hp2 k (by omega))) (mn_k0z (J := Jp) hp5 gJ3 hp4)
      · intro c1
        refine Z.iload_n hX dX2_resultant_7 rfl rfl ?_
        refine Z.istore_n (lv' := [(3, .int (zI i)), (2, .int (zI i)), (1, .int (zI size)), (0, .ref (h 4))]) hX dX2_resultant_8 rfl (by decide) rfl ?_
        have key_9 : ∀ (N : Nat), ∀ (j : Int) (BB : Nat → Int) (MM : Nat → Nat → Int64), (size - j).toNat < N → (hj : i ≤ j ∧ j ≤ size) → (hM : BOK BB) → (hen : ENpz BB MM f g size i j) → (hmv2 : MVz BB MM f g (size + 1)) → Z p l e { frames := 4, cells := 0, slots := 0, locals := 88 } s m args below meth c D A 4 0 0 Q 9 [(3, .int (zI j)), (2, .int (zI i)), (1, .int (zI size)), (0, .ref (h 4))] [] (cW ce h pl ar G L BB MM) := by
          intro N
          induction N with
          | zero => intro j BB MM hm; exact absurd hm (Nat.not_lt_zero _)
          | succ N ih_9 =>
            intro j BB MM hm hj hM hen hmv2
            refine Z.iload_n hX dX2_resultant_9 rfl rfl ?_
            refine Z.iload_n hX dX2_resultant_10 rfl rfl ?_
            refine Z.icmp_ge hX 27 dX2_resultant_11 (by decide) ⟨by omega, by omega⟩ ⟨by omega, by omega⟩ ?_ ?_
            · intro c6
              refine Z.iinc (lv' := [(2, .int (zI (i + 1))), (3, .int (zI j)), (1, .int (zI size)), (0, .ref (h 4))]) hX dX2_resultant_27 rfl (by decide) rfl ?_
              refine Z.goto hX 2 dX2_resultant_30 (by decide) ?_
              refine Z.pick [0, 2, 3] rfl ?_
              exact ih_2 _ _ _ (by omega) (by omega) hM (en_rz (by omega) hen) hmv2
            · intro c6
              refine Z.aload_n hX dX2_resultant_14 rfl rfl ?_
              refine Z.iload_n hX dX2_resultant_15 rfl rfl ?_
              refine Z.iload_n hX dX2_resultant_16 rfl rfl ?_
              refine Z.iload_n hX dX2_resultant_17 rfl rfl ?_
              refine Z.callVfv (As := [.int (zI i), .int (zI j), .int (zI size)]) (rest := []) hX 2 4 rfl rfl (ct_X2_fillEntry_z l D ce h pl ar G L BB MM i j size f g hM (by omega) hmv2) mc_X2_fillEntry ml_X2_49 im_X2_fillEntry se_X2_fillEntry ini_X2 nd_X2_fillEntry ⟨Nat.le_of_ble_eq_true rfl, Nat.le_of_ble_eq_true rfl⟩ ⟨rfl, rfl⟩ ⟨Nat.le_refl _, Nat.le_refl _⟩ rfl (Nat.le_of_ble_eq_true rfl) dX2_resultant_18 ?_
              rintro w1 ⟨Bf, Jf, hw_, hf1, hf2, hf3, hf4⟩
              subst hw_
              have htl := tri_lt (i * 4 + j : Int).toNat
              have hen2 := en_sz (by omega) (by omega) hen hf2 hf3 hf4
              have hmv3 : MVz Bf Jf f g (size + 1) := mvz_c (by omega) hmv2 (fun k hk => hf2 k (by omega)) (fun k hk => hf3 k (by omega))
              refine Z.iinc (lv' := [(3, .int (zI (j + 1))), (2, .int (zI i)), (1, .int (zI size)), (0, .ref (h 4))]) hX dX2_resultant_21 rfl (by decide) rfl ?_
              refine Z.goto hX 9 dX2_resultant_24 (by decide) ?_
              refine Z.pick [0, 1, 2, 3] rfl ?_
              exact ih_9 _ _ _ (by omega) (by omega) hf1 hen2 hmv3
        refine Z.pick [0, 1, 2, 3] rfl ?_
        exact key_9 _ _ _ _ (Nat.lt_succ_self _) (by omega) hM hen hmv2
  refine Z.pick [0, 2, 1] rfl ?_
  exact key_2 _ _ _ _ (Nat.lt_succ_self _) (by omega) hB (fun a b h1 h2 h3 h4 => by omega) hmv

set_option maxHeartbeats 4000000 in
set_option maxRecDepth 100000 in
theorem ct_X4_findRoot_ey (l : Launch) (D : va_G) (ce : Nat → ClassId) (h pl ar : Nat → Nat) (G : Nat → Int) (L : Nat → Nat → Int64) (B : Nat → Int) (J : Nat → Nat → Int64) (k : Nat) (hB : BOK B) (hk : 20 ≤ k ∧ k < 36) (hzk : PZ (J k) (B k)) : Ct l yX4_findRoot cX4_findRoot 4 (some .boolean) { frames := 4, cells := 0, slots := 0, locals := 116 } 0 0 D (TY ce) [.ref (h 5), .ref (pl k), .ref (h 7)] (cW ce h pl ar G L B J) (QI D (TY ce) (fun r w1 => ∃ z : Int, ∃ G2 : Nat → Int, ∃ B2 : Nat → Int, ∃ J2 : Nat → Nat → Int64, r = zI z ∧ w1 = cW ce h pl ar G2 L B2 J2 ∧ (z = 0 ∨ z = 1) ∧ (BOK B2) ∧ (∀ k, k ≠ 4 → G2 k = G k) ∧ (G2 4 = G 4 ∨ (1 ≤ G2 4 ∧ G2 4 ≤ 6)) ∧ ((z = 1 ∧ BIG (J k)) ∨ (z = 0 ∧ ¬ BIG (J k))))) := by
  refine Ct.ofB (by decide) (Nat.le_of_ble_eq_true rfl) ?_
  intro p e s m args below meth c A Q hX hnm hR
  refine Z.pick (lv' := [(0, .ref (h 5)), (1, .ref (pl k)), (2, .ref (h 7))]) [0, 1, 2] rfl ?_
  refine Z.aload_n hX dX4_findRoot_0 rfl rfl ?_
  refine Z.getf hX 4 5 0 dX4_findRoot_1 rfl rfl inX4 (by decide) fl_X4_10 rfl rfl ?_
  refine Z.aload_n hX dX4_findRoot_4 rfl rfl ?_
  refine Z.callVfv (As := [.ref (pl k)]) (rest := []) hX 3 (24 + 36) rfl (cW_pl (by decide)) (ct_X3_copy_y l D ce h pl ar G L B J 36 k (by decide) hB (by omega)) mc_X3_copy ml_X4_25 im_X3_copy se_X3_copy ini_X3 nd_X3_copy ⟨Nat.le_of_ble_eq_true rfl, Nat.le_of_ble_eq_true rfl⟩ ⟨rfl, rfl⟩ ⟨Nat.le_refl _, Nat.le_refl _⟩ rfl (Nat.le_of_ble_eq_true rfl) dX4_findRoot_5 ?_
  rintro w1 ⟨Ba, Ja, hw_, a1, a2, a3, a4, a5⟩
  subst hw_
  refine Z.aload_n hX dX4_findRoot_8 rfl rfl ?_
  refine Z.getf hX 4 5 0 dX4_findRoot_9 rfl rfl inX4 (by decide) fl_X4_10 rfl rfl ?_
  refine Z.callVfv (As := []) (rest := []) hX 3 (24 + 36) rfl (cW_pl (by decide)) (ct_X3_makePrimitive_y l D ce h pl ar G L Ba Ja 36 (by decide) a3 (PZ_cp a4 (hB k (by omega)).1 a5 hzk)) mc_X3_makePrimitive ml_X4_29 im_X3_makePrimitive se_X3_makePrimitive ini_X3 nd_X3_makePrimitive ⟨Nat.le_of_ble_eq_true rfl, Nat.le_of_ble_eq_true rfl⟩ ⟨rfl, rfl⟩ ⟨Nat.le_refl _, Nat.le_refl _⟩ rfl (Nat.le_of_ble_eq_true rfl) dX4_findRoot_12 ?_
  rintro w1 ⟨Bp, Jp, hw_, b1, b2, b3, b4, b5, b6⟩
  subst hw_
  have hb36 := b3 36 (by decide)
  obtain ⟨hbg0, hbg1⟩ := big_b hb36 b5 b6
  refine Z.aload_n hX dX4_findRoot_15 rfl rfl ?_
  refine Z.getf hX 4 5 0 dX4_findRoot_16 rfl rfl inX4 (by decide) fl_X4_10 rfl rfl ?_
  refine Z.getf hX 3 (24 + 36) 1 dX4_findRoot_19 (cW_pl (by decide)) rfl inX3 (by decide) fl_X4_32 rfl rfl ?_
  refine Z.iconst hX dX4_findRoot_22 ?_
  refine Z.icmp_ge hX 28 dX4_findRoot_23 (by decide) ⟨by omega, by omega⟩ ⟨by omega, by omega⟩ ?_ ?_
  · intro c3
    have key_77 : ∀ (pw : Int) (BB : Nat → Int) (MM : Nat → Nat → Int64), (hp : 1 ≤ pw ∧ pw ≤ 6) → (hM : BOK BB) → Z p l e { frames := 4, cells := 0, slots := 0, locals := 116 } s m args below meth c D A 4 0 0 Q 77 [(3, .int (zI pw)), (2, .ref (h 7)), (0, .ref (h 5))] [] (cW ce h pl ar G L BB MM) := by
      intro pw BB MM hp hM
      refine Z.aload_n hX dX4_findRoot_77 rfl rfl ?_
      refine Z.getf hX 0 7 0 dX4_findRoot_78 rfl rfl inX0 (by decide) fl_X4_47 rfl rfl ?_
      refine Z.iload_n hX dX4_findRoot_81 rfl rfl ?_
      refine Z.iconst hX dX4_findRoot_82 ?_
      refine Z.icmp_le hX 93 dX4_findRoot_83 (by decide) ⟨by omega, by omega⟩ ⟨by omega, by omega⟩ ?_ ?_
      · intro c4
        refine Z.aload_n hX dX4_findRoot_93 rfl rfl ?_
        refine Z.getf hX 4 5 0 dX4_findRoot_94 rfl rfl inX4 (by decide) fl_X4_10 rfl rfl ?_
        refine Z.callVfv (As := [.ref (pl 36)]) (rest := []) hX 3 (24 + 41) rfl (cW_pl (by decide)) (ct_X3_copy l D ce h pl ar G L BB MM 41 36 (by decide) hM (by decide)) mc_X3_copy ml_X4_25 im_X3_copy se_X3_copy ini_X3 nd_X3_copy ⟨Nat.le_of_ble_eq_true rfl, Nat.le_of_ble_eq_true rfl⟩ ⟨rfl, rfl⟩ ⟨Nat.le_refl _, Nat.le_refl _⟩ rfl (Nat.le_of_ble_eq_true rfl) dX4_findRoot_97 ?_
        rintro w1 ⟨B26, J27, hw_, f1, f2, f3, f4⟩
        subst hw_
        refine Z.aload_n hX dX4_findRoot_100 rfl rfl ?_
        refine Z.iload_n hX dX4_findRoot_101 rfl rfl ?_
        refine Z.putf (ty := .int) hX 0 7 1 tyX0 dX4_findRoot_102 rfl rfl inX0 tyX0_ok nmX0 (by decide) fl_X4_50 rfl rfl (by decide +kernel) rfl rfl (Nat.le_of_ble_eq_true rfl) ?_
        obtain ⟨G8, eG8⟩ : ∃ F' : Nat → Int, F' = va_up G 4 (pw) := ⟨_, rfl⟩
        refine Z.toW (w' := cW ce h pl ar G8 L B26 J27) (by rw [eG8]; rfl) ?_
        have gG8 : G8 4 = pw := by rw [eG8]; exact up_eq
        have fG8 : ∀ j_, j_ ≠ 4 → G8 j_ = G j_ := fun j_ hj_ => by rw [eG8]; exact up_ne hj_
        refine Z.iconst hX dX4_findRoot_105 ?_
        exact hR _ _ _ _ dX4_findRoot_106 rfl ⟨1, G8, B26, J27, rfl, rfl, (by omega), f3, (fun j_ h_4 => ((fG8 j_ h_4).trans rfl)), Or.inr (by omega), (Or.inl ⟨rfl, (big_c a5).mp (hbg1 (by omega))⟩)⟩
      · intro c4
        refine Z.aload_n hX dX4_findRoot_86 rfl rfl ?_
        refine Z.getf hX 4 5 1 dX4_findRoot_87 rfl rfl inX4 (by decide) fl_X4_16 rfl rfl ?_
        refine Z.goto hX 97 dX4_findRoot_90 (by decide) ?_
        refine Z.callVfv (As := [.ref (pl 37)]) (rest := []) hX 3 (24 + 41) rfl (cW_pl (by decide)) (ct_X3_copy l D ce h pl ar G L BB MM 41 37 (by decide) hM (by decide)) mc_X3_copy ml_X4_25 im_X3_copy se_X3_copy ini_X3 nd_X3_copy ⟨Nat.le_of_ble_eq_true rfl, Nat.le_of_ble_eq_true rfl⟩ ⟨rfl, rfl⟩ ⟨Nat.le_refl _, Nat.le_refl _⟩ rfl (Nat.le_of_ble_eq_true rfl) dX4_findRoot_97 ?_
        rintro w1 ⟨B210, J211, hw_, f1, f2, f3, f4⟩
        subst hw_
        refine Z.aload_n hX dX4_findRoot_100 rfl rfl ?_
        refine Z.iload_n hX dX4_findRoot_101 rfl rfl ?_
        refine Z.putf (ty := .int) hX 0 7 1 tyX0 dX4_findRoot_102 rfl rfl inX0 tyX0_ok nmX0 (by decide) fl_X4_50 rfl rfl (by decide +kernel) rfl rfl (Nat.le_of_ble_eq_true rfl) ?_
        obtain ⟨G12, eG12⟩ : ∃ F' : Nat → Int, F' = va_up G 4 (pw) := ⟨_, rfl⟩
        refine Z.toW (w' := cW ce h pl ar G12 L B210 J211) (by rw [eG12]; rfl) ?_
        have gG12 : G12 4 = pw := by rw [eG12]; exact up_eq
        have fG12 : ∀ j_, j_ ≠ 4 → G12 j_ = G j_ := fun j_ hj_ => by rw [eG12]; exact up_ne hj_
        refine Z.iconst hX dX4_findRoot_105 ?_
        exact hR _ _ _ _ dX4_findRoot_106 rfl ⟨1, G12, B210, J211, rfl, rfl, (by omega), f3, (fun j_ h_4 => ((fG12 j_ h_4).trans rfl)), Or.inr (by omega), (Or.inl ⟨rfl, (big_c a5).mp (hbg1 (by omega))⟩)⟩
    refine Z.aload_n hX dX4_findRoot_28 rfl rfl ?_
    refine Z.getf hX 4 5 0 dX4_findRoot_29 rfl rfl inX4 (by decide) fl_X4_10 rfl rfl ?_
    refine Z.getf hX 3 (24 + 36) 1 dX4_findRoot_32 (cW_pl (by decide)) rfl inX3 (by decide) fl_X4_32 rfl rfl ?_
    refine Z.istore_n (lv' := [(3, .int (zI (Bp 36))), (0, .ref (h 5)), (1, .ref (pl k)), (2, .ref (h 7))]) hX dX4_findRoot_35 rfl (by decide) rfl ?_
    have key_36 : ∀ (N : Nat), ∀ (pw : Int) (BB : Nat → Int) (MM : Nat → Nat → Int64), pw.toNat < N → (hp : 1 ≤ pw ∧ pw ≤ 6) → (hM : BOK BB) → Z p l e { frames := 4, cells := 0, slots := 0, locals := 116 } s m args below meth c D A 4 0 0 Q 36 [(3, .int (zI pw)), (2, .ref (h 7)), (0, .ref (h 5))] [] (cW ce h pl ar G L BB MM) := by
      intro N
      induction N with
      | zero => intro pw BB MM hm; exact absurd hm (Nat.not_lt_zero _)
      | succ N ih_36 =>
        intro pw BB MM hm hp hM
        refine Z.iload_n hX dX4_findRoot_36 rfl rfl ?_
        refine Z.iconst hX dX4_findRoot_37 ?_
        refine Z.icmp_le hX 77 dX4_findRoot_38 (by decide) ⟨by omega, by omega⟩ ⟨by omega, by omega⟩ ?_ ?_
        · intro c13
          refine Z.pick [0, 1, 2] rfl ?_
          exact key_77 _ _ _ (by omega) hM
        · intro c13
          refine Z.aload_n hX dX4_findRoot_41 rfl rfl ?_
          refine Z.iload_n hX dX4_findRoot_42 rfl rfl ?_
          refine Z.callVfi (As := [.int (zI pw)]) (rest := []) hX 4 5 rfl rfl (ct_X4_startRoot l D ce h pl ar G L BB MM pw hM (by omega)) mc_X4_startRoot ml_X4_36 im_X4_startRoot se_X4_startRoot ini_X4 nd_X4_startRoot ⟨Nat.le_of_ble_eq_true rfl, Nat.le_of_ble_eq_true rfl⟩ ⟨rfl, rfl⟩ ⟨Nat.le_refl _, Nat.le_refl _⟩ rfl (Nat.le_of_ble_eq_true rfl) dX4_findRoot_43 ?_
          rintro r_14 w1 ⟨z15, B216, J217, hr_, hw_, c1, c2, c3⟩
          subst hr_
          subst hw_
          refine Z.if_eq hX 71 dX4_findRoot_46 (by decide) ⟨by omega, by omega⟩ ?_ ?_
          · intro c18
            refine Z.iinc (lv' := [(3, .int (zI (pw + -1))), (2, .ref (h 7)), (0, .ref (h 5))]) hX dX4_findRoot_71 rfl (by decide) rfl ?_
            refine Z.goto hX 36 dX4_findRoot_74 (by decide) ?_
            refine Z.pick [0, 1, 2] rfl ?_
            exact ih_36 _ _ _ (by omega) (by omega) c1
          · intro c18
            refine Z.aload_n hX dX4_findRoot_49 rfl rfl ?_
            refine Z.iload_n hX dX4_findRoot_50 rfl rfl ?_
            refine Z.callVfi (As := [.int (zI pw)]) (rest := []) hX 4 5 rfl rfl (ct_X4_completeRoot l D ce h pl ar G L B216 J217 pw c1 (by omega) (by omega)) mc_X4_completeRoot ml_X4_40 im_X4_completeRoot se_X4_completeRoot ini_X4 nd_X4_completeRoot ⟨Nat.le_of_ble_eq_true rfl, Nat.le_of_ble_eq_true rfl⟩ ⟨rfl, rfl⟩ ⟨Nat.le_refl _, Nat.le_refl _⟩ rfl (Nat.le_of_ble_eq_true rfl) dX4_findRoot_51 ?_
            rintro r_19 w1 ⟨z20, B221, J222, hr_, hw_, d1, d2, d3⟩
            subst hr_
            subst hw_
            refine Z.if_eq hX 71 dX4_findRoot_54 (by decide) ⟨by omega, by omega⟩ ?_ ?_
            · intro c23
              refine Z.iinc (lv' := [(3, .int (zI (pw + -1))), (2, .ref (h 7)), (0, .ref (h 5))]) hX dX4_findRoot_71 rfl (by decide) rfl ?_
              refine Z.goto hX 36 dX4_findRoot_74 (by decide) ?_
              refine Z.pick [0, 1, 2] rfl ?_
              exact ih_36 _ _ _ (by omega) (by omega) d1
            · intro c23
              refine Z.aload_n hX dX4_findRoot_57 rfl rfl ?_
              refine Z.getf hX 4 5 2 dX4_findRoot_58 rfl rfl inX4 (by decide) fl_X4_19 rfl rfl ?_
              refine Z.aload_n hX dX4_findRoot_61 rfl rfl ?_
              refine Z.getf hX 4 5 0 dX4_findRoot_62 rfl rfl inX4 (by decide) fl_X4_10 rfl rfl ?_
              refine Z.callVfi (As := [.ref (pl 36)]) (rest := []) hX 3 (24 + 38) rfl (cW_pl (by decide)) (ct_X3_isSame l D ce h pl ar G L B221 J222 38 36 (by decide) d1 (by decide)) mc_X3_isSame ml_X4_43 im_X3_isSame se_X3_isSame ini_X3 nd_X3_isSame ⟨Nat.le_of_ble_eq_true rfl, Nat.le_of_ble_eq_true rfl⟩ ⟨rfl, rfl⟩ ⟨Nat.le_refl _, Nat.le_refl _⟩ rfl (Nat.le_of_ble_eq_true rfl) dX4_findRoot_65 ?_
              rintro r_24 w1 ⟨z25, hr_, hw_, hq26⟩
              subst hr_
              subst hw_
              refine Z.if_ne hX 77 dX4_findRoot_68 (by decide) ⟨by omega, by omega⟩ ?_ ?_
              · intro c27
                refine Z.pick [0, 1, 2] rfl ?_
                exact key_77 _ _ _ (by omega) d1
              · intro c27
                refine Z.iinc (lv' := [(3, .int (zI (pw + -1))), (2, .ref (h 7)), (0, .ref (h 5))]) hX dX4_findRoot_71 rfl (by decide) rfl ?_
                refine Z.goto hX 36 dX4_findRoot_74 (by decide) ?_
                refine Z.pick [0, 1, 2] rfl ?_
                exact ih_36 _ _ _ (by omega) (by omega) d1
    refine Z.pick [0, 3, 1] rfl ?_
    exact key_36 _ _ _ _ (Nat.lt_succ_self _) (by omega) b3
  · intro c3
    refine Z.iconst hX dX4_findRoot_26 ?_
    exact hR _ _ _ _ dX4_findRoot_27 rfl ⟨0, G, Bp, Jp, rfl, rfl, (by omega), b3, (fun _ _ => rfl), Or.inl rfl, (Or.inr ⟨rfl, fun q => hbg0 (by omega) ((big_c a5).mpr q)⟩)⟩

set_option maxHeartbeats 4000000 in
set_option maxRecDepth 100000 in
theorem ct_X6_curveOf_lxyz (l : Launch) (D : va_G) (ce : Nat → ClassId) (h pl ar : Nat → Nat) (G : Nat → Int) (L : Nat → Nat → Int64) (B : Nat → Int) (J : Nat → Nat → Int64) (hok : cOK G B) (hbl : bL L) (hfi : FI G L) (hli : LI G L) (hle : LIe G L) : Ct l yX6_curveOf cX6_curveOf 4 (some (.object "EliminateLoci$Curve")) { frames := 5, cells := 0, slots := 0, locals := 139 } 0 0 D (TY ce) [.ref (h 0), .int (zI 0)] (cW ce h pl ar G L B J) (QR D (TY ce) (fun r w1 => ∃ G2 : Nat → Int, ∃ L2 : Nat → Nat → Int64, ∃ B2 : Nat → Int, ∃ J2 : Nat → Nat → Int64, r = (h 6) ∧ w1 = cW ce h pl ar G2 L2 B2 J2 ∧ (cOK G2 B2) ∧ (∀ k, k < 3 → L2 k = L k) ∧ (FI G2 L2) ∧ (LI G2 L2) ∧ (G2 2 = 1) ∧ (LIe G2 L2))) := by
  refine Ct.ofR (by decide) (Nat.le_of_ble_eq_true rfl) (Or.inl ⟨_, rfl⟩) ?_
  intro p e s m args below meth c A Q hX hnm hR
  refine Z.pick (lv' := [(0, .ref (h 0)), (1, .int (zI 0))]) [0, 1] rfl ?_
  obtain ⟨hB, hg0, hg2, hg3, hg5, hg6, hg1, hg4⟩ := id hok
  unfold bl at hg0 hg2 hg3 hg5 hg6
  refine Z.iload_n hX dX6_curveOf_0 rfl rfl ?_
  refine Z.if_ne hX 11 dX6_curveOf_1 (by decide) ⟨by omega, by omega⟩ ?_ ?_
  · intro c1; exfalso; revert c1; decide
  · intro c1
    refine Z.aload_n hX dX6_curveOf_4 rfl rfl ?_
    refine Z.getf hX 6 0 5 dX6_curveOf_5 rfl rfl inX6 (by decide) fl_X6_43 rfl rfl ?_
    refine Z.goto hX 15 dX6_curveOf_8 (by decide) ?_
    refine Z.astore_n (lv' := [(2, .ref (h 6)), (0, .ref (h 0)), (1, .int (zI 0))]) hX dX6_curveOf_15 rfl (by decide) rfl ?_
    refine Z.aload_n hX dX6_curveOf_16 rfl rfl ?_
    refine Z.getf hX 0 6 2 dX6_curveOf_17 rfl rfl inX0 (by decide) fl_X6_144 rfl rfl ?_
    refine Z.if_ne hX 90 dX6_curveOf_20 (by decide) ⟨by omega, by omega⟩ ?_ ?_
    · intro c2
      refine Z.aload_n hX dX6_curveOf_90 rfl rfl ?_
      exact hR _ _ _ _ dX6_curveOf_91 ⟨G, L, B, J, rfl, rfl, hok, (fun _ _ => rfl), hfi, hli, (by omega), hle⟩
    · intro c2
      refine Z.iload_n hX dX6_curveOf_23 rfl rfl ?_
      refine Z.if_ne hX 41 dX6_curveOf_24 (by decide) ⟨by omega, by omega⟩ ?_ ?_
      · intro c3; exfalso; revert c3; decide
      · intro c3
        refine Z.aload_n hX dX6_curveOf_27 rfl rfl ?_
        refine Z.getf hX 6 0 3 dX6_curveOf_28 rfl rfl inX6 (by decide) fl_X6_29 rfl rfl ?_
        refine Z.aload_n hX dX6_curveOf_31 rfl rfl ?_
        refine Z.callVfr (As := []) (rest := [.ref (h 4)]) hX 6 0 rfl rfl (ct_X6_freeRow_x l D ce h pl ar G L B J hok hbl hfi) mc_X6_freeRow ml_X6_83 im_X6_freeRow se_X6_freeRow ini_X6 nd_X6_freeRow ⟨Nat.le_of_ble_eq_true rfl, Nat.le_of_ble_eq_true rfl⟩ ⟨rfl, rfl⟩ ⟨Nat.le_refl _, Nat.le_refl _⟩ rfl (Nat.le_of_ble_eq_true rfl) dX6_curveOf_32 ?_
        rintro r_4 w1 ⟨Gf, Lf, hr_, hw_, fr1, fr2, fr3, fr4⟩
        subst hr_
        subst hw_
        refine Z.callVfi (As := [.ref (h 2)]) (rest := []) hX 2 4 rfl rfl (ct_X2_takeMover_y l D ce h pl ar Gf Lf B J hB) mc_X2_takeMover ml_X6_151 im_X2_takeMover se_X2_takeMover ini_X2 nd_X2_takeMover ⟨Nat.le_of_ble_eq_true rfl, Nat.le_of_ble_eq_true rfl⟩ ⟨rfl, rfl⟩ ⟨Nat.le_refl _, Nat.le_refl _⟩ rfl (Nat.le_of_ble_eq_true rfl) dX6_curveOf_35 ?_
        rintro r_5 w1 ⟨sz, Bk, Jk, hr_, hw_, tk1, tk2, tk3, tk4⟩
        subst hr_
        subst hw_
        refine Z.goto hX 52 dX6_curveOf_38 (by decide) ?_
        refine Z.istore_n (lv' := [(3, .int (zI sz)), (2, .ref (h 6)), (0, .ref (h 0)), (1, .int (zI 0))]) hX dX6_curveOf_52 rfl (by decide) rfl ?_
        refine Z.aload_n hX dX6_curveOf_53 rfl rfl ?_
        refine Z.iload_n hX dX6_curveOf_54 rfl rfl ?_
        refine Z.if_le hX 81 dX6_curveOf_55 (by decide) ⟨by omega, by omega⟩ ?_ ?_
        · intro c6
          refine Z.iconst hX dX6_curveOf_81 ?_
          refine Z.putf (ty := .boolean) hX 0 6 3 tyX0 dX6_curveOf_82 rfl rfl inX0 tyX0_ok nmX0 (by decide) fl_X6_106 rfl rfl (by decide +kernel) rfl rfl (Nat.le_of_ble_eq_true rfl) ?_
          obtain ⟨G7, eG7⟩ : ∃ F' : Nat → Int, F' = va_up Gf 3 (0) := ⟨_, rfl⟩
          refine Z.toW (w' := cW ce h pl ar G7 Lf Bk Jk) (by rw [eG7]; rfl) ?_
          have gG7 : G7 3 = 0 := by rw [eG7]; exact up_eq
          have fG7 : ∀ j_, j_ ≠ 3 → G7 j_ = Gf j_ := fun j_ hj_ => by rw [eG7]; exact up_ne hj_
          refine Z.aload_n hX dX6_curveOf_85 rfl rfl ?_
          refine Z.iconst hX dX6_curveOf_86 ?_
          refine Z.putf (ty := .boolean) hX 0 6 2 tyX0 dX6_curveOf_87 rfl rfl inX0 tyX0_ok nmX0 (by decide) fl_X6_144 rfl rfl (by decide +kernel) rfl rfl (Nat.le_of_ble_eq_true rfl) ?_
          obtain ⟨G8, eG8⟩ : ∃ F' : Nat → Int, F' = va_up G7 2 (1) := ⟨_, rfl⟩
          refine Z.toW (w' := cW ce h pl ar G8 Lf Bk Jk) (by rw [eG8]; rfl) ?_
          have gG8 : G8 2 = 1 := by rw [eG8]; exact up_eq
          have fG8 : ∀ j_, j_ ≠ 2 → G8 j_ = G7 j_ := fun j_ hj_ => by rw [eG8]; exact up_ne hj_
          refine Z.aload_n hX dX6_curveOf_90 rfl rfl ?_
          exact hR _ _ _ _ dX6_curveOf_91 ⟨G8, Lf, Bk, Jk, rfl, rfl, (cok_of tk1 (by have := fG7 0 (by decide); have := fG8 0 (by decide); unfold bl at *; omega) (by have := fr1 1 (by decide); have := fG7 1 (by decide); have := fG8 1 (by decide); unfold bl at *; omega) (by have := fr1 2 (by decide); have := fG7 2 (by decide); unfold bl at *; omega) (by have := fr1 3 (by decide); have := fG8 3 (by decide); unfold bl at *; omega) (by have := fr1 4 (by decide); have := fG7 4 (by decide); have := fG8 4 (by decide); unfold bl at *; omega) (by have := fr1 5 (by decide); have := fG7 5 (by decide); have := fG8 5 (by decide); unfold bl at *; omega) (by have := fr1 6 (by decide); have := fG7 6 (by decide); have := fG8 6 (by decide); unfold bl at *; omega)), (fun k h => fr3 k h), (FI_f fr3 fr4), (li_0 fr3 fr4 tk3 (by omega) ((fG8 3 (by decide)).trans gG7)), gG8, (LIe_k hle ((show ∀ j_ : Nat, j_ ≠ 0 → j_ ≠ 1 → j_ ≠ 2 → j_ ≠ 3 → G8 j_ = G j_ from (fun j_ h_0 h_1 h_2 h_3 => ((fG8 j_ h_2).trans ((fG7 j_ h_3).trans ((fr1 j_ h_0).trans rfl))))) 5 (by decide) (by decide) (by decide) (by decide)) ((show ∀ j_ : Nat, j_ ≠ 0 → j_ ≠ 1 → j_ ≠ 2 → j_ ≠ 3 → G8 j_ = G j_ from (fun j_ h_0 h_1 h_2 h_3 => ((fG8 j_ h_2).trans ((fG7 j_ h_3).trans ((fr1 j_ h_0).trans rfl))))) 6 (by decide) (by decide) (by decide) (by decide)) fr3)⟩
        · intro c6
          refine Z.aload_n hX dX6_curveOf_58 rfl rfl ?_
          refine Z.getf hX 6 0 4 dX6_curveOf_59 rfl rfl inX6 (by decide) fl_X6_36 rfl rfl ?_
          refine Z.aload_n hX dX6_curveOf_62 rfl rfl ?_
          refine Z.getf hX 6 0 3 dX6_curveOf_63 rfl rfl inX6 (by decide) fl_X6_29 rfl rfl ?_
          refine Z.iload_n hX dX6_curveOf_66 rfl rfl ?_
          refine Z.callVfr (As := [.int (zI sz)]) (rest := [.ref (h 5), .ref (h 6)]) hX 2 4 rfl rfl (ct_X2_resultant_y l D ce h pl ar Gf Lf Bk Jk sz tk1 (by omega) tk4 (fr_sz hbl fr4)) mc_X2_resultant ml_X6_158 im_X2_resultant se_X2_resultant ini_X2 nd_X2_resultant ⟨Nat.le_of_ble_eq_true rfl, Nat.le_of_ble_eq_true rfl⟩ ⟨rfl, rfl⟩ ⟨Nat.le_refl _, Nat.le_refl _⟩ rfl (Nat.le_of_ble_eq_true rfl) dX6_curveOf_67 ?_
          rintro r_9 w1 ⟨kr, Br, Jr, hr_, hw_, rs1, rs2, rs3⟩
          subst hr_
          subst hw_
          refine Z.aload_n hX dX6_curveOf_70 rfl rfl ?_
          refine Z.callVfi (As := [.ref (pl kr), .ref (h 6)]) (rest := [.ref (h 6)]) hX 4 5 rfl rfl (ct_X4_findRoot_ly l D ce h pl ar Gf Lf Br Jr kr rs1 (by omega) rs3.2) mc_X4_findRoot ml_X6_162 im_X4_findRoot se_X4_findRoot ini_X4 nd_X4_findRoot ⟨Nat.le_of_ble_eq_true rfl, Nat.le_of_ble_eq_true rfl⟩ ⟨rfl, rfl⟩ ⟨Nat.le_refl _, Nat.le_refl _⟩ rfl (Nat.le_of_ble_eq_true rfl) dX6_curveOf_71 ?_
          rintro r_10 w1 ⟨fz, Gz, Bz, Jz, hr_, hw_, fz1, fz2, fz3, fz4, fz5⟩
          subst hr_
          subst hw_
          refine Z.if_eq hX 81 dX6_curveOf_74 (by decide) ⟨by omega, by omega⟩ ?_ ?_
          · intro c11
            refine Z.iconst hX dX6_curveOf_81 ?_
            refine Z.putf (ty := .boolean) hX 0 6 3 tyX0 dX6_curveOf_82 rfl rfl inX0 tyX0_ok nmX0 (by decide) fl_X6_106 rfl rfl (by decide +kernel) rfl rfl (Nat.le_of_ble_eq_true rfl) ?_
            obtain ⟨G12, eG12⟩ : ∃ F' : Nat → Int, F' = va_up Gz 3 (0) := ⟨_, rfl⟩
            refine Z.toW (w' := cW ce h pl ar G12 Lf Bz Jz) (by rw [eG12]; rfl) ?_
            have gG12 : G12 3 = 0 := by rw [eG12]; exact up_eq
            have fG12 : ∀ j_, j_ ≠ 3 → G12 j_ = Gz j_ := fun j_ hj_ => by rw [eG12]; exact up_ne hj_
            refine Z.aload_n hX dX6_curveOf_85 rfl rfl ?_
            refine Z.iconst hX dX6_curveOf_86 ?_
            refine Z.putf (ty := .boolean) hX 0 6 2 tyX0 dX6_curveOf_87 rfl rfl inX0 tyX0_ok nmX0 (by decide) fl_X6_144 rfl rfl (by decide +kernel) rfl rfl (Nat.le_of_ble_eq_true rfl) ?_
            obtain ⟨G13, eG13⟩ : ∃ F' : Nat → Int, F' = va_up G12 2 (1) := ⟨_, rfl⟩
            refine Z.toW (w' := cW ce h pl ar G13 Lf Bz Jz) (by rw [eG13]; rfl) ?_
            have gG13 : G13 2 = 1 := by rw [eG13]; exact up_eq
            have fG13 : ∀ j_, j_ ≠ 2 → G13 j_ = G12 j_ := fun j_ hj_ => by rw [eG13]; exact up_ne hj_
            refine Z.aload_n hX dX6_curveOf_90 rfl rfl ?_
            exact hR _ _ _ _ dX6_curveOf_91 ⟨G13, Lf, Bz, Jz, rfl, rfl, (cok_of fz2 (by have := fz3 0 (by decide); have := fG12 0 (by decide); have := fG13 0 (by decide); unfold bl at *; omega) (by have := fr1 1 (by decide); have := fG12 1 (by decide); have := fG13 1 (by decide); unfold bl at *; omega) (by have := fr1 2 (by decide); have := fz3 2 (by decide); have := fG12 2 (by decide); unfold bl at *; omega) (by have := fr1 3 (by decide); have := fz3 3 (by decide); have := fG13 3 (by decide); unfold bl at *; omega) (by have := fr1 4 (by decide); have := fz3 4 (by decide); have := fG12 4 (by decide); have := fG13 4 (by decide); unfold bl at *; omega) (by have := fr1 5 (by decide); have := fz3 5 (by decide); have := fG12 5 (by decide); have := fG13 5 (by decide); unfold bl at *; omega) (by have := fr1 6 (by decide); have := fz3 6 (by decide); have := fG12 6 (by decide); have := fG13 6 (by decide); unfold bl at *; omega)), (fun k h => fr3 k h), (FI_f fr3 fr4), (li_1 fr3 fr4 tk3 (by omega) rs3.1 fz5 (by have e_ := ((fG13 3 (by decide)).trans gG12); omega)), gG13, (LIe_k hle ((show ∀ j_ : Nat, j_ ≠ 0 → j_ ≠ 1 → j_ ≠ 2 → j_ ≠ 3 → G13 j_ = G j_ from (fun j_ h_0 h_1 h_2 h_3 => ((fG13 j_ h_2).trans ((fG12 j_ h_3).trans ((fz3 j_ h_1).trans ((fr1 j_ h_0).trans rfl)))))) 5 (by decide) (by decide) (by decide) (by decide)) ((show ∀ j_ : Nat, j_ ≠ 0 → j_ ≠ 1 → j_ ≠ 2 → j_ ≠ 3 → G13 j_ = G j_ from (fun j_ h_0 h_1 h_2 h_3 => ((fG13 j_ h_2).trans ((fG12 j_ h_3).trans ((fz3 j_ h_1).trans ((fr1 j_ h_0).trans rfl)))))) 6 (by decide) (by decide) (by decide) (by decide)) fr3)⟩
          · intro c11
            refine Z.iconst hX dX6_curveOf_77 ?_
            refine Z.goto hX 82 dX6_curveOf_78 (by decide) ?_
            refine Z.putf (ty := .boolean) hX 0 6 3 tyX0 dX6_curveOf_82 rfl rfl inX0 tyX0_ok nmX0 (by decide) fl_X6_106 rfl rfl (by decide +kernel) rfl rfl (Nat.le_of_ble_eq_true rfl) ?_
            obtain ⟨G14, eG14⟩ : ∃ F' : Nat → Int, F' = va_up Gz 3 (1) := ⟨_, rfl⟩
            refine Z.toW (w' := cW ce h pl ar G14 Lf Bz Jz) (by rw [eG14]; rfl) ?_
            have gG14 : G14 3 = 1 := by rw [eG14]; exact up_eq
            have fG14 : ∀ j_, j_ ≠ 3 → G14 j_ = Gz j_ := fun j_ hj_ => by rw [eG14]; exact up_ne hj_
            refine Z.aload_n hX dX6_curveOf_85 rfl rfl ?_
            refine Z.iconst hX dX6_curveOf_86 ?_
            refine Z.putf (ty := .boolean) hX 0 6 2 tyX0 dX6_curveOf_87 rfl rfl inX0 tyX0_ok nmX0 (by decide) fl_X6_144 rfl rfl (by decide +kernel) rfl rfl (Nat.le_of_ble_eq_true rfl) ?_
            obtain ⟨G15, eG15⟩ : ∃ F' : Nat → Int, F' = va_up G14 2 (1) := ⟨_, rfl⟩
            refine Z.toW (w' := cW ce h pl ar G15 Lf Bz Jz) (by rw [eG15]; rfl) ?_
            have gG15 : G15 2 = 1 := by rw [eG15]; exact up_eq
            have fG15 : ∀ j_, j_ ≠ 2 → G15 j_ = G14 j_ := fun j_ hj_ => by rw [eG15]; exact up_ne hj_
            refine Z.aload_n hX dX6_curveOf_90 rfl rfl ?_
            exact hR _ _ _ _ dX6_curveOf_91 ⟨G15, Lf, Bz, Jz, rfl, rfl, (cok_of fz2 (by have := fz3 0 (by decide); have := fG14 0 (by decide); have := fG15 0 (by decide); unfold bl at *; omega) (by have := fr1 1 (by decide); have := fG14 1 (by decide); have := fG15 1 (by decide); unfold bl at *; omega) (by have := fr1 2 (by decide); have := fz3 2 (by decide); have := fG14 2 (by decide); unfold bl at *; omega) (by have := fr1 3 (by decide); have := fz3 3 (by decide); have := fG15 3 (by decide); unfold bl at *; omega) (by have := fr1 4 (by decide); have := fz3 4 (by decide); have := fG14 4 (by decide); have := fG15 4 (by decide); unfold bl at *; omega) (by have := fr1 5 (by decide); have := fz3 5 (by decide); have := fG14 5 (by decide); have := fG15 5 (by decide); unfold bl at *; omega) (by have := fr1 6 (by decide); have := fz3 6 (by decide); have := fG14 6 (by decide); have := fG15 6 (by decide); unfold bl at *; omega)), (fun k h => fr3 k h), (FI_f fr3 fr4), (li_1 fr3 fr4 tk3 (by omega) rs3.1 fz5 (by have e_ := ((fG15 3 (by decide)).trans gG14); omega)), gG15, (LIe_k hle ((show ∀ j_ : Nat, j_ ≠ 0 → j_ ≠ 1 → j_ ≠ 2 → j_ ≠ 3 → G15 j_ = G j_ from (fun j_ h_0 h_1 h_2 h_3 => ((fG15 j_ h_2).trans ((fG14 j_ h_3).trans ((fz3 j_ h_1).trans ((fr1 j_ h_0).trans rfl)))))) 5 (by decide) (by decide) (by decide) (by decide)) ((show ∀ j_ : Nat, j_ ≠ 0 → j_ ≠ 1 → j_ ≠ 2 → j_ ≠ 3 → G15 j_ = G j_ from (fun j_ h_0 h_1 h_2 h_3 => ((fG15 j_ h_2).trans ((fG14 j_ h_3).trans ((fz3 j_ h_1).trans ((fr1 j_ h_0).trans rfl)))))) 6 (by decide) (by decide) (by decide) (by decide)) fr3)⟩

set_option maxHeartbeats 4000000 in
set_option maxRecDepth 100000 in
theorem ct_X6_curveOf_exyz (l : Launch) (D : va_G) (ce : Nat → ClassId) (h pl ar : Nat → Nat) (G : Nat → Int) (L : Nat → Nat → Int64) (B : Nat → Int) (J : Nat → Nat → Int64) (hok : cOK G B) (hbl : bL L) (hfi : FI G L) (hli : LI G L) (hle : LIe G L) : Ct l yX6_curveOf cX6_curveOf 4 (some (.object "EliminateLoci$Curve")) { frames := 5, cells := 0, slots := 0, locals := 139 } 0 0 D (TY ce) [.ref (h 0), .int (zI 1)] (cW ce h pl ar G L B J) (QR D (TY ce) (fun r w1 => ∃ G2 : Nat → Int, ∃ L2 : Nat → Nat → Int64, ∃ B2 : Nat → Int, ∃ J2 : Nat → Nat → Int64, r = (h 7) ∧ w1 = cW ce h pl ar G2 L2 B2 J2 ∧ (cOK G2 B2) ∧ (∀ k, k < 3 → L2 k = L k) ∧ (FI G2 L2) ∧ (LI G2 L2) ∧ (LIe G2 L2) ∧ (G2 5 = 1))) := by
  refine Ct.ofR (by decide) (Nat.le_of_ble_eq_true rfl) (Or.inl ⟨_, rfl⟩) ?_
  intro p e s m args below meth c A Q hX hnm hR
  refine Z.pick (lv' := [(0, .ref (h 0)), (1, .int (zI 1))]) [0, 1] rfl ?_
  obtain ⟨hB, hg0, hg2, hg3, hg5, hg6, hg1, hg4⟩ := id hok
  unfold bl at hg0 hg2 hg3 hg5 hg6
  refine Z.iload_n hX dX6_curveOf_0 rfl rfl ?_
  refine Z.if_ne hX 11 dX6_curveOf_1 (by decide) ⟨by omega, by omega⟩ ?_ ?_
  · intro c1
    refine Z.aload_n hX dX6_curveOf_11 rfl rfl ?_
    refine Z.getf hX 6 0 6 dX6_curveOf_12 rfl rfl inX6 (by decide) fl_X6_47 rfl rfl ?_
    refine Z.astore_n (lv' := [(2, .ref (h 7)), (0, .ref (h 0)), (1, .int (zI 1))]) hX dX6_curveOf_15 rfl (by decide) rfl ?_
    refine Z.aload_n hX dX6_curveOf_16 rfl rfl ?_
    refine Z.getf hX 0 7 2 dX6_curveOf_17 rfl rfl inX0 (by decide) fl_X6_144 rfl rfl ?_
    refine Z.if_ne hX 90 dX6_curveOf_20 (by decide) ⟨by omega, by omega⟩ ?_ ?_
    · intro c2
      refine Z.aload_n hX dX6_curveOf_90 rfl rfl ?_
      exact hR _ _ _ _ dX6_curveOf_91 ⟨G, L, B, J, rfl, rfl, hok, (fun _ _ => rfl), hfi, hli, hle, (by omega)⟩
    · intro c2
      refine Z.iload_n hX dX6_curveOf_23 rfl rfl ?_
      refine Z.if_ne hX 41 dX6_curveOf_24 (by decide) ⟨by omega, by omega⟩ ?_ ?_
      · intro c3
        refine Z.aload_n hX dX6_curveOf_41 rfl rfl ?_
        refine Z.getf hX 6 0 3 dX6_curveOf_42 rfl rfl inX6 (by decide) fl_X6_29 rfl rfl ?_
        refine Z.aload_n hX dX6_curveOf_45 rfl rfl ?_
        refine Z.getf hX 6 0 0 dX6_curveOf_46 rfl rfl inX6 (by decide) fl_X6_10 rfl rfl ?_
        refine Z.callVfi (As := [.ref (h 1)]) (rest := []) hX 2 4 rfl rfl (ct_X2_takeLines_z l D ce h pl ar G L B J hB hbl) mc_X2_takeLines ml_X6_155 im_X2_takeLines se_X2_takeLines ini_X2 nd_X2_takeLines ⟨Nat.le_of_ble_eq_true rfl, Nat.le_of_ble_eq_true rfl⟩ ⟨rfl, rfl⟩ ⟨Nat.le_refl _, Nat.le_refl _⟩ rfl (Nat.le_of_ble_eq_true rfl) dX6_curveOf_49 ?_
        rintro r_4 w1 ⟨sz, Bk, Jk, hr_, hw_, tk1, tk2, tk3, tk4⟩
        subst hr_
        subst hw_
        refine Z.istore_n (lv' := [(3, .int (zI sz)), (2, .ref (h 7)), (0, .ref (h 0)), (1, .int (zI 1))]) hX dX6_curveOf_52 rfl (by decide) rfl ?_
        refine Z.aload_n hX dX6_curveOf_53 rfl rfl ?_
        refine Z.iload_n hX dX6_curveOf_54 rfl rfl ?_
        refine Z.if_le hX 81 dX6_curveOf_55 (by decide) ⟨by omega, by omega⟩ ?_ ?_
        · intro c5
          refine Z.iconst hX dX6_curveOf_81 ?_
          refine Z.putf (ty := .boolean) hX 0 7 3 tyX0 dX6_curveOf_82 rfl rfl inX0 tyX0_ok nmX0 (by decide) fl_X6_106 rfl rfl (by decide +kernel) rfl rfl (Nat.le_of_ble_eq_true rfl) ?_
          obtain ⟨G6, eG6⟩ : ∃ F' : Nat → Int, F' = va_up G 6 (0) := ⟨_, rfl⟩
          refine Z.toW (w' := cW ce h pl ar G6 L Bk Jk) (by rw [eG6]; rfl) ?_
          have gG6 : G6 6 = 0 := by rw [eG6]; exact up_eq
          have fG6 : ∀ j_, j_ ≠ 6 → G6 j_ = G j_ := fun j_ hj_ => by rw [eG6]; exact up_ne hj_
          refine Z.aload_n hX dX6_curveOf_85 rfl rfl ?_
          refine Z.iconst hX dX6_curveOf_86 ?_
          refine Z.putf (ty := .boolean) hX 0 7 2 tyX0 dX6_curveOf_87 rfl rfl inX0 tyX0_ok nmX0 (by decide) fl_X6_144 rfl rfl (by decide +kernel) rfl rfl (Nat.le_of_ble_eq_true rfl) ?_
          obtain ⟨G7, eG7⟩ : ∃ F' : Nat → Int, F' = va_up G6 5 (1) := ⟨_, rfl⟩
          refine Z.toW (w' := cW ce h pl ar G7 L Bk Jk) (by rw [eG7]; rfl) ?_
          have gG7 : G7 5 = 1 := by rw [eG7]; exact up_eq
          have fG7 : ∀ j_, j_ ≠ 5 → G7 j_ = G6 j_ := fun j_ hj_ => by rw [eG7]; exact up_ne hj_
          refine Z.aload_n hX dX6_curveOf_90 rfl rfl ?_
          exact hR _ _ _ _ dX6_curveOf_91 ⟨G7, L, Bk, Jk, rfl, rfl, (cok_of tk1 (by have := fG6 0 (by decide); have := fG7 0 (by decide); unfold bl at *; omega) (by have := fG6 1 (by decide); have := fG7 1 (by decide); unfold bl at *; omega) (by have := fG6 2 (by decide); have := fG7 2 (by decide); unfold bl at *; omega) (by have := fG6 3 (by decide); have := fG7 3 (by decide); unfold bl at *; omega) (by have := fG6 4 (by decide); have := fG7 4 (by decide); unfold bl at *; omega) (by have := fG6 5 (by decide); unfold bl at *; omega) (by have := fG7 6 (by decide); unfold bl at *; omega)), (fun _ _ => rfl), (FI_k hfi (by have := fG6 0 (by decide); have := fG7 0 (by decide); unfold bl at *; omega) (fun _ _ => rfl)), (LI_k hli ((show ∀ j_ : Nat, j_ ≠ 4 → j_ ≠ 5 → j_ ≠ 6 → G7 j_ = G j_ from (fun j_ h_4 h_5 h_6 => ((fG7 j_ h_5).trans ((fG6 j_ h_6).trans rfl)))) 2 (by decide) (by decide) (by decide)) ((show ∀ j_ : Nat, j_ ≠ 4 → j_ ≠ 5 → j_ ≠ 6 → G7 j_ = G j_ from (fun j_ h_4 h_5 h_6 => ((fG7 j_ h_5).trans ((fG6 j_ h_6).trans rfl)))) 3 (by decide) (by decide) (by decide)) (fun _ _ => rfl)), (lie_0 tk3 (by omega) ((fG7 6 (by decide)).trans gG6)), gG7⟩
        · intro c5
          refine Z.aload_n hX dX6_curveOf_58 rfl rfl ?_
          refine Z.getf hX 6 0 4 dX6_curveOf_59 rfl rfl inX6 (by decide) fl_X6_36 rfl rfl ?_
          refine Z.aload_n hX dX6_curveOf_62 rfl rfl ?_
          refine Z.getf hX 6 0 3 dX6_curveOf_63 rfl rfl inX6 (by decide) fl_X6_29 rfl rfl ?_
          refine Z.iload_n hX dX6_curveOf_66 rfl rfl ?_
          refine Z.callVfr (As := [.int (zI sz)]) (rest := [.ref (h 5), .ref (h 7)]) hX 2 4 rfl rfl (ct_X2_resultant_z l D ce h pl ar G L Bk Jk sz ((fun t => dva (zL3 L t))) ((fun t => dvn (sz + 1).toNat (zL3 L t))) tk1 (by omega) (tk4 (by omega)) (Pf_za L) (Pf_zb L _)) mc_X2_resultant ml_X6_158 im_X2_resultant se_X2_resultant ini_X2 nd_X2_resultant ⟨Nat.le_of_ble_eq_true rfl, Nat.le_of_ble_eq_true rfl⟩ ⟨rfl, rfl⟩ ⟨Nat.le_refl _, Nat.le_refl _⟩ rfl (Nat.le_of_ble_eq_true rfl) dX6_curveOf_67 ?_
          rintro r_8 w1 ⟨kr, Br, Jr, hr_, hw_, rs1, rs2, rs3⟩
          subst hr_
          subst hw_
          refine Z.aload_n hX dX6_curveOf_70 rfl rfl ?_
          refine Z.callVfi (As := [.ref (pl kr), .ref (h 7)]) (rest := [.ref (h 7)]) hX 4 5 rfl rfl (ct_X4_findRoot_ey l D ce h pl ar G L Br Jr kr rs1 (by omega) rs3.2) mc_X4_findRoot ml_X6_162 im_X4_findRoot se_X4_findRoot ini_X4 nd_X4_findRoot ⟨Nat.le_of_ble_eq_true rfl, Nat.le_of_ble_eq_true rfl⟩ ⟨rfl, rfl⟩ ⟨Nat.le_refl _, Nat.le_refl _⟩ rfl (Nat.le_of_ble_eq_true rfl) dX6_curveOf_71 ?_
          rintro r_9 w1 ⟨fz, Gz, Bz, Jz, hr_, hw_, fz1, fz2, fz3, fz4, fz5⟩
          subst hr_
          subst hw_
          refine Z.if_eq hX 81 dX6_curveOf_74 (by decide) ⟨by omega, by omega⟩ ?_ ?_
          · intro c10
            refine Z.iconst hX dX6_curveOf_81 ?_
            refine Z.putf (ty := .boolean) hX 0 7 3 tyX0 dX6_curveOf_82 rfl rfl inX0 tyX0_ok nmX0 (by decide) fl_X6_106 rfl rfl (by decide +kernel) rfl rfl (Nat.le_of_ble_eq_true rfl) ?_
            obtain ⟨G11, eG11⟩ : ∃ F' : Nat → Int, F' = va_up Gz 6 (0) := ⟨_, rfl⟩
            refine Z.toW (w' := cW ce h pl ar G11 L Bz Jz) (by rw [eG11]; rfl) ?_
            have gG11 : G11 6 = 0 := by rw [eG11]; exact up_eq
            have fG11 : ∀ j_, j_ ≠ 6 → G11 j_ = Gz j_ := fun j_ hj_ => by rw [eG11]; exact up_ne hj_
            refine Z.aload_n hX dX6_curveOf_85 rfl rfl ?_
            refine Z.iconst hX dX6_curveOf_86 ?_
            refine Z.putf (ty := .boolean) hX 0 7 2 tyX0 dX6_curveOf_87 rfl rfl inX0 tyX0_ok nmX0 (by decide) fl_X6_144 rfl rfl (by decide +kernel) rfl rfl (Nat.le_of_ble_eq_true rfl) ?_
            obtain ⟨G12, eG12⟩ : ∃ F' : Nat → Int, F' = va_up G11 5 (1) := ⟨_, rfl⟩
            refine Z.toW (w' := cW ce h pl ar G12 L Bz Jz) (by rw [eG12]; rfl) ?_
            have gG12 : G12 5 = 1 := by rw [eG12]; exact up_eq
            have fG12 : ∀ j_, j_ ≠ 5 → G12 j_ = G11 j_ := fun j_ hj_ => by rw [eG12]; exact up_ne hj_
            refine Z.aload_n hX dX6_curveOf_90 rfl rfl ?_
            exact hR _ _ _ _ dX6_curveOf_91 ⟨G12, L, Bz, Jz, rfl, rfl, (cok_of fz2 (by have := fz3 0 (by decide); have := fG11 0 (by decide); have := fG12 0 (by decide); unfold bl at *; omega) (by have := fz3 1 (by decide); have := fG11 1 (by decide); have := fG12 1 (by decide); unfold bl at *; omega) (by have := fz3 2 (by decide); have := fG11 2 (by decide); have := fG12 2 (by decide); unfold bl at *; omega) (by have := fz3 3 (by decide); have := fG11 3 (by decide); have := fG12 3 (by decide); unfold bl at *; omega) (by have := fG11 4 (by decide); have := fG12 4 (by decide); unfold bl at *; omega) (by have := fz3 5 (by decide); have := fG11 5 (by decide); unfold bl at *; omega) (by have := fz3 6 (by decide); have := fG12 6 (by decide); unfold bl at *; omega)), (fun _ _ => rfl), (FI_k hfi (by have := fz3 0 (by decide); have := fG11 0 (by decide); have := fG12 0 (by decide); unfold bl at *; omega) (fun _ _ => rfl)), (LI_k hli ((show ∀ j_ : Nat, j_ ≠ 4 → j_ ≠ 5 → j_ ≠ 6 → G12 j_ = G j_ from (fun j_ h_4 h_5 h_6 => ((fG12 j_ h_5).trans ((fG11 j_ h_6).trans ((fz3 j_ h_4).trans rfl))))) 2 (by decide) (by decide) (by decide)) ((show ∀ j_ : Nat, j_ ≠ 4 → j_ ≠ 5 → j_ ≠ 6 → G12 j_ = G j_ from (fun j_ h_4 h_5 h_6 => ((fG12 j_ h_5).trans ((fG11 j_ h_6).trans ((fz3 j_ h_4).trans rfl))))) 3 (by decide) (by decide) (by decide)) (fun _ _ => rfl)), (lie_1 tk3 (by omega) rs3.1 fz5 (by have e_ := ((fG12 6 (by decide)).trans gG11); omega)), gG12⟩
          · intro c10
            refine Z.iconst hX dX6_curveOf_77 ?_
            refine Z.goto hX 82 dX6_curveOf_78 (by decide) ?_
            refine Z.putf (ty := .boolean) hX 0 7 3 tyX0 dX6_curveOf_82 rfl rfl inX0 tyX0_ok nmX0 (by decide) fl_X6_106 rfl rfl (by decide +kernel) rfl rfl (Nat.le_of_ble_eq_true rfl) ?_
            obtain ⟨G13, eG13⟩ : ∃ F' : Nat → Int, F' = va_up Gz 6 (1) := ⟨_, rfl⟩
            refine Z.toW (w' := cW ce h pl ar G13 L Bz Jz) (by rw [eG13]; rfl) ?_
            have gG13 : G13 6 = 1 := by rw [eG13]; exact up_eq
            have fG13 : ∀ j_, j_ ≠ 6 → G13 j_ = Gz j_ := fun j_ hj_ => by rw [eG13]; exact up_ne hj_
            refine Z.aload_n hX dX6_curveOf_85 rfl rfl ?_
            refine Z.iconst hX dX6_curveOf_86 ?_
            refine Z.putf (ty := .boolean) hX 0 7 2 tyX0 dX6_curveOf_87 rfl rfl inX0 tyX0_ok nmX0 (by decide) fl_X6_144 rfl rfl (by decide +kernel) rfl rfl (Nat.le_of_ble_eq_true rfl) ?_
            obtain ⟨G14, eG14⟩ : ∃ F' : Nat → Int, F' = va_up G13 5 (1) := ⟨_, rfl⟩
            refine Z.toW (w' := cW ce h pl ar G14 L Bz Jz) (by rw [eG14]; rfl) ?_
            have gG14 : G14 5 = 1 := by rw [eG14]; exact up_eq
            have fG14 : ∀ j_, j_ ≠ 5 → G14 j_ = G13 j_ := fun j_ hj_ => by rw [eG14]; exact up_ne hj_
            refine Z.aload_n hX dX6_curveOf_90 rfl rfl ?_
            exact hR _ _ _ _ dX6_curveOf_91 ⟨G14, L, Bz, Jz, rfl, rfl, (cok_of fz2 (by have := fz3 0 (by decide); have := fG13 0 (by decide); have := fG14 0 (by decide); unfold bl at *; omega) (by have := fz3 1 (by decide); have := fG13 1 (by decide); have := fG14 1 (by decide); unfold bl at *; omega) (by have := fz3 2 (by decide); have := fG13 2 (by decide); have := fG14 2 (by decide); unfold bl at *; omega) (by have := fz3 3 (by decide); have := fG13 3 (by decide); have := fG14 3 (by decide); unfold bl at *; omega) (by have := fG13 4 (by decide); have := fG14 4 (by decide); unfold bl at *; omega) (by have := fz3 5 (by decide); have := fG13 5 (by decide); unfold bl at *; omega) (by have := fz3 6 (by decide); have := fG14 6 (by decide); unfold bl at *; omega)), (fun _ _ => rfl), (FI_k hfi (by have := fz3 0 (by decide); have := fG13 0 (by decide); have := fG14 0 (by decide); unfold bl at *; omega) (fun _ _ => rfl)), (LI_k hli ((show ∀ j_ : Nat, j_ ≠ 4 → j_ ≠ 5 → j_ ≠ 6 → G14 j_ = G j_ from (fun j_ h_4 h_5 h_6 => ((fG14 j_ h_5).trans ((fG13 j_ h_6).trans ((fz3 j_ h_4).trans rfl))))) 2 (by decide) (by decide) (by decide)) ((show ∀ j_ : Nat, j_ ≠ 4 → j_ ≠ 5 → j_ ≠ 6 → G14 j_ = G j_ from (fun j_ h_4 h_5 h_6 => ((fG14 j_ h_5).trans ((fG13 j_ h_6).trans ((fz3 j_ h_4).trans rfl))))) 3 (by decide) (by decide) (by decide)) (fun _ _ => rfl)), (lie_1 tk3 (by omega) rs3.1 fz5 (by have e_ := ((fG14 6 (by decide)).trans gG13); omega)), gG14⟩
      · intro c3; exfalso; revert c3; decide
  · intro c1; exfalso; revert c1; decide

set_option maxHeartbeats 4000000 in
set_option maxRecDepth 100000 in
theorem ct_X6_term_xyz (l : Launch) (D : va_G) (ce : Nat → ClassId) (h pl ar : Nat → Nat) (G : Nat → Int) (L : Nat → Nat → Int64) (B : Nat → Int) (J : Nat → Nat → Int64) (wh i v : Int) (hok : cOK G B) (hbl : bL L) (hfi : FI G L) (hw : -2147483648 ≤ wh ∧ wh < 2147483648) (hi : -2147483648 ≤ i ∧ i < 2147483648) (hv : -2147483648 ≤ v ∧ v < 2147483648) (hli : LI G L) (hle : LIe G L) : Ct l yX6_term cX6_term 5 (some .int) { frames := 1, cells := 0, slots := 0, locals := 21 } 0 0 D (TY ce) [.ref (h 0), .int (zI wh), .int (zI i), .int (zI v)] (cW ce h pl ar G L B J) (QI D (TY ce) (fun r w1 => ∃ z : Int, ∃ G2 : Nat → Int, ∃ L2 : Nat → Nat → Int64, ∃ B2 : Nat → Int, ∃ J2 : Nat → Nat → Int64, r = zI z ∧ w1 = cW ce h pl ar G2 L2 B2 J2 ∧ (cOK G2 B2) ∧ (¬ (0 ≤ wh ∧ wh ≤ 2 ∧ 0 ≤ i ∧ i ≤ 4 ∧ -7 ≤ v ∧ v ≤ 7) → z = -100 ∧ L2 = L) ∧ ((0 ≤ wh ∧ wh ≤ 2 ∧ 0 ≤ i ∧ i ≤ 4 ∧ -7 ≤ v ∧ v ≤ 7) → (L wh.toNat i.toNat).toInt32 = zI z ∧ ((z = v ∧ L2 = L) ∨ (L2 wh.toNat = vp_updL (L wh.toNat) i.toNat (zL v) ∧ ∀ k, k ≠ wh.toNat → L2 k = L k))) ∧ (FI G2 L2) ∧ (LI G2 L2) ∧ (LIe G2 L2))) := by
  refine Ct.ofI (by decide) (Nat.le_of_ble_eq_true rfl) ?_
  intro p e s m args below meth c A Q hX hnm hR
  refine Z.pick (lv' := [(0, .ref (h 0)), (1, .int (zI wh)), (2, .int (zI i)), (3, .int (zI v))]) [0, 1, 2, 3] rfl ?_
  obtain ⟨hB, hg0, hg2, hg3, hg5, hg6, hg1, hg4⟩ := id hok
  unfold bl at hg0 hg2 hg3 hg5 hg6
  refine Z.iload_n hX dX6_term_0 rfl rfl ?_
  refine Z.callS0i (As := [.int (zI wh)]) (rest := []) hX (ct_X6_isPart l D ce wh (by omega)) mc_X6_isPart ml_X6_58 st_X6_isPart ini_X6 nd_X6_isPart ⟨Nat.le_of_ble_eq_true rfl, Nat.le_of_ble_eq_true rfl⟩ ⟨rfl, rfl⟩ ⟨Nat.le_refl _, Nat.le_refl _⟩ rfl (Nat.le_of_ble_eq_true rfl) dX6_term_1 ?_
  rintro r_1 w1 ⟨z1, hr_, hw_, p1⟩
  subst hr_
  refine ⟨hw_, ?_⟩
  refine Z.if_eq hX 23 dX6_term_4 (by decide) ⟨by omega, by omega⟩ ?_ ?_
  · intro c2
    refine Z.bipush hX dX6_term_23 (by decide) ?_
    exact hR _ _ _ _ dX6_term_25 ⟨(-100), G, L, B, J, rfl, rfl, hok, (fun _ => ⟨rfl, rfl⟩), (fun q => by omega), hfi, hli, hle⟩
  · intro c2
    refine Z.iload_n hX dX6_term_7 rfl rfl ?_
    refine Z.callS0i (As := [.int (zI i)]) (rest := []) hX (ct_X6_isPower l D ce i (by omega)) mc_X6_isPower ml_X6_62 st_X6_isPower ini_X6 nd_X6_isPower ⟨Nat.le_of_ble_eq_true rfl, Nat.le_of_ble_eq_true rfl⟩ ⟨rfl, rfl⟩ ⟨Nat.le_refl _, Nat.le_refl _⟩ rfl (Nat.le_of_ble_eq_true rfl) dX6_term_8 ?_
    rintro r_3 w1 ⟨z2, hr_, hw_, p2⟩
    subst hr_
    refine ⟨hw_, ?_⟩
    refine Z.if_eq hX 23 dX6_term_11 (by decide) ⟨by omega, by omega⟩ ?_ ?_
    · intro c4
      refine Z.bipush hX dX6_term_23 (by decide) ?_
      exact hR _ _ _ _ dX6_term_25 ⟨(-100), G, L, B, J, rfl, rfl, hok, (fun _ => ⟨rfl, rfl⟩), (fun q => by omega), hfi, hli, hle⟩
    · intro c4
      refine Z.iload_n hX dX6_term_14 rfl rfl ?_
      refine Z.bipush hX dX6_term_15 (by decide) ?_
      refine Z.callS0i (As := [.int (zI v), .int (zI 7)]) (rest := []) hX (ct_X6_isWithin l D ce v 7 hv (by omega)) mc_X6_isWithin ml_X6_65 st_X6_isWithin ini_X6 nd_X6_isWithin ⟨Nat.le_of_ble_eq_true rfl, Nat.le_of_ble_eq_true rfl⟩ ⟨rfl, rfl⟩ ⟨Nat.le_refl _, Nat.le_refl _⟩ rfl (Nat.le_of_ble_eq_true rfl) dX6_term_17 ?_
      rintro r_5 w1 ⟨z3, hr_, hw_, p3⟩
      subst hr_
      refine ⟨hw_, ?_⟩
      refine Z.if_ne hX 26 dX6_term_20 (by decide) ⟨by omega, by omega⟩ ?_ ?_
      · intro c6
        refine Z.aload_n hX dX6_term_26 rfl rfl ?_
        refine Z.getf hX 6 0 0 dX6_term_27 rfl rfl inX6 (by decide) fl_X6_10 rfl rfl ?_
        refine Z.getf hX 5 1 0 dX6_term_30 rfl rfl inX5 (by decide) fl_X6_69 rfl rfl ?_
        refine Z.iload_n hX dX6_term_33 rfl rfl ?_
        refine Z.aaload hX 9 3 dX6_term_34 rfl rfl rfl (by omega) (by omega) (by decide) rfl ?_
        refine Z.iload_n hX dX6_term_35 rfl rfl ?_
        refine Z.laload hX (18 + (wh : Int).toNat) 1 dX6_term_36 (cW_in (by omega)) rfl (by omega) (by omega) (by decide) ?_
        refine Z.l2i hX dX6_term_37 ?_
        refine Z.topi (fun z7 hz7 kz7 ez7 => ?_)
        refine Z.istore (lv' := [(4, .int (zI z7)), (0, .ref (h 0)), (1, .int (zI wh)), (2, .int (zI i)), (3, .int (zI v))]) hX dX6_term_38 (by decide) rfl ?_
        refine Z.iload hX dX6_term_40 rfl ?_
        refine Z.iload_n hX dX6_term_42 rfl rfl ?_
        refine Z.icmp_eq hX 63 dX6_term_43 (by decide) ⟨by omega, by omega⟩ ⟨by omega, by omega⟩ ?_ ?_
        · intro c8
          refine Z.iload hX dX6_term_63 rfl ?_
          exact hR _ _ _ _ dX6_term_65 ⟨z7, G, L, B, J, rfl, rfl, hok, (fun q => absurd (by omega) q), (fun _ => ⟨by assumption, Or.inl ⟨by omega, rfl⟩⟩), hfi, hli, hle⟩
        · intro c8
          refine Z.aload_n hX dX6_term_46 rfl rfl ?_
          refine Z.getf hX 6 0 0 dX6_term_47 rfl rfl inX6 (by decide) fl_X6_10 rfl rfl ?_
          refine Z.getf hX 5 1 0 dX6_term_50 rfl rfl inX5 (by decide) fl_X6_69 rfl rfl ?_
          refine Z.iload_n hX dX6_term_53 rfl rfl ?_
          refine Z.aaload hX 9 3 dX6_term_54 rfl rfl rfl (by omega) (by omega) (by decide) rfl ?_
          refine Z.iload_n hX dX6_term_55 rfl rfl ?_
          refine Z.iload_n hX dX6_term_56 rfl rfl ?_
          refine Z.i2l hX dX6_term_57 ⟨by omega, by omega⟩ ?_
          refine Z.lastore hX (18 + (wh : Int).toNat) 1 dX6_term_58 (cW_in (by omega)) rfl (by omega) (by omega) (by decide) ?_
          obtain ⟨L9, eL9⟩ : ∃ J' : Nat → Nat → Int64, J' = va_up L ((wh : Int).toNat) (vp_updL (L ((wh : Int).toNat)) (i : Int).toNat (zL v)) := ⟨_, rfl⟩
          refine Z.toW (w' := cW ce h pl ar G L9 B J) (by rw [eL9]; exact cW_setL (by omega)) ?_
          have gL9 : L9 ((wh : Int).toNat) = vp_updL (L ((wh : Int).toNat)) (i : Int).toNat (zL v) := by rw [eL9]; exact up_eq
          have fL9 : ∀ j_, j_ ≠ (wh : Int).toNat → L9 j_ = L j_ := fun j_ hj_ => by rw [eL9]; exact up_ne hj_
          refine Z.aload_n hX dX6_term_59 rfl rfl ?_
          refine Z.callVfv (As := []) (rest := []) hX 6 0 rfl rfl (ct_X6_forget l D ce h pl ar G L9 B J ) mc_X6_forget ml_X6_73 im_X6_forget se_X6_forget ini_X6 nd_X6_forget ⟨Nat.le_of_ble_eq_true rfl, Nat.le_of_ble_eq_true rfl⟩ ⟨rfl, rfl⟩ ⟨Nat.le_refl _, Nat.le_refl _⟩ rfl (Nat.le_of_ble_eq_true rfl) dX6_term_60 ?_
          rintro w1 ⟨G211, hw_, fo1, fo2⟩
          subst hw_
          refine Z.iload hX dX6_term_63 rfl ?_
          exact hR _ _ _ _ dX6_term_65 ⟨z7, G211, L9, B, J, rfl, rfl, (cok_of hB (by omega) (by have := fo1 1 (by decide) (by decide) (by decide); omega) (by omega) (by have := fo1 3 (by decide) (by decide) (by decide); omega) (by have := fo1 4 (by decide) (by decide) (by decide); omega) (by omega) (by have := fo1 6 (by decide) (by decide) (by decide); omega)), (fun q => absurd (by omega) q), (fun _ => ⟨by assumption, Or.inr ⟨gL9, fL9⟩⟩), (fun q => by omega), (fun q => by omega), (fun q => by omega)⟩
      · intro c6
        refine Z.bipush hX dX6_term_23 (by decide) ?_
        exact hR _ _ _ _ dX6_term_25 ⟨(-100), G, L, B, J, rfl, rfl, hok, (fun _ => ⟨rfl, rfl⟩), (fun q => by omega), hfi, hli, hle⟩

set_option maxHeartbeats 4000000 in
set_option maxRecDepth 100000 in
theorem ct_X6_clear_xyz (l : Launch) (D : va_G) (ce : Nat → ClassId) (h pl ar : Nat → Nat) (G : Nat → Int) (L : Nat → Nat → Int64) (B : Nat → Int) (J : Nat → Nat → Int64) (hok : cOK G B) (hbl : bL L) (hfi : FI G L) (hli : LI G L) (hle : LIe G L) : Ct l yX6_clear cX6_clear 2 (some .int) { frames := 1, cells := 0, slots := 0, locals := 23 } 0 0 D (TY ce) [.ref (h 0)] (cW ce h pl ar G L B J) (QI D (TY ce) (fun r w1 => ∃ z : Int, ∃ G2 : Nat → Int, ∃ L2 : Nat → Nat → Int64, ∃ B2 : Nat → Int, ∃ J2 : Nat → Nat → Int64, r = zI z ∧ w1 = cW ce h pl ar G2 L2 B2 J2 ∧ (cOK G2 B2) ∧ (z = cntB (fun q => L (q / 5) (q % 5)) 15) ∧ (∀ q : Int, 0 ≤ q → q < 15 → L2 (q.toNat / 5) (q.toNat % 5) = 0) ∧ (FI G2 L2) ∧ (LI G2 L2) ∧ (LIe G2 L2))) := by
  refine Ct.ofI (by decide) (Nat.le_of_ble_eq_true rfl) ?_
  intro p e s m args below meth c A Q hX hnm hR
  refine Z.pick (lv' := [(0, .ref (h 0))]) [0] rfl ?_
  obtain ⟨hB, hg0, hg2, hg3, hg5, hg6, hg1, hg4⟩ := id hok
  unfold bl at hg0 hg2 hg3 hg5 hg6
  refine Z.aload_n hX dX6_clear_0 rfl rfl ?_
  refine Z.getf hX 6 0 0 dX6_clear_1 rfl rfl inX6 (by decide) fl_X6_10 rfl rfl ?_
  refine Z.callVfi (As := []) (rest := []) hX 5 1 rfl rfl (ct_X5_countAndErase l D ce h pl ar G L B J ) mc_X5_countAndErase ml_X6_76 im_X5_countAndErase se_X5_countAndErase ini_X5 nd_X5_countAndErase ⟨Nat.le_of_ble_eq_true rfl, Nat.le_of_ble_eq_true rfl⟩ ⟨rfl, rfl⟩ ⟨Nat.le_refl _, Nat.le_refl _⟩ rfl (Nat.le_of_ble_eq_true rfl) dX6_clear_4 ?_
  rintro r_1 w1 ⟨z2, L23, hr_, hw_, ce1, ce2, ce3⟩
  subst hr_
  subst hw_
  refine Z.istore_n (lv' := [(1, .int (zI z2)), (0, .ref (h 0))]) hX dX6_clear_7 rfl (by decide) rfl ?_
  refine Z.aload_n hX dX6_clear_8 rfl rfl ?_
  refine Z.callVfv (As := []) (rest := []) hX 6 0 rfl rfl (ct_X6_forget l D ce h pl ar G L23 B J ) mc_X6_forget ml_X6_73 im_X6_forget se_X6_forget ini_X6 nd_X6_forget ⟨Nat.le_of_ble_eq_true rfl, Nat.le_of_ble_eq_true rfl⟩ ⟨rfl, rfl⟩ ⟨Nat.le_refl _, Nat.le_refl _⟩ rfl (Nat.le_of_ble_eq_true rfl) dX6_clear_9 ?_
  rintro w1 ⟨G25, hw_, fo1, fo2⟩
  subst hw_
  refine Z.iload_n hX dX6_clear_12 rfl rfl ?_
  exact hR _ _ _ _ dX6_clear_13 ⟨z2, G25, L23, B, J, rfl, rfl, (cok_of hB (by omega) (by have := fo1 1 (by decide) (by decide) (by decide); omega) (by omega) (by have := fo1 3 (by decide) (by decide) (by decide); omega) (by have := fo1 4 (by decide) (by decide) (by decide); omega) (by omega) (by have := fo1 6 (by decide) (by decide) (by decide); omega)), ce1, ce2, (fun q => by omega), (fun q => by omega), (fun q => by omega)⟩

set_option maxHeartbeats 4000000 in
set_option maxRecDepth 100000 in
theorem ct_X6_degree_xyz (l : Launch) (D : va_G) (ce : Nat → ClassId) (h pl ar : Nat → Nat) (G : Nat → Int) (L : Nat → Nat → Int64) (B : Nat → Int) (J : Nat → Nat → Int64) (what : Int) (hok : cOK G B) (hbl : bL L) (hfi : FI G L) (hw : -2147483648 ≤ what ∧ what < 2147483648) (hli : LI G L) (hle : LIe G L) : Ct l yX6_degree cX6_degree 4 (some .int) { frames := 5, cells := 0, slots := 0, locals := 128 } 0 0 D (TY ce) [.ref (h 0), .int (zI what)] (cW ce h pl ar G L B J) (QI D (TY ce) (fun r w1 => ∃ z : Int, ∃ G2 : Nat → Int, ∃ L2 : Nat → Nat → Int64, ∃ B2 : Nat → Int, ∃ J2 : Nat → Nat → Int64, r = zI z ∧ w1 = cW ce h pl ar G2 L2 B2 J2 ∧ (cOK G2 B2) ∧ (∀ k, k < 3 → L2 k = L k) ∧ (¬ (0 ≤ what ∧ what ≤ 2) → z = -1) ∧ (what = 0 → HP L z) ∧ (FI G2 L2) ∧ (dgx L L2 what z) ∧ (LI G2 L2) ∧ (LIe G2 L2))) := by
  refine Ct.ofI (by decide) (Nat.le_of_ble_eq_true rfl) ?_
  intro p e s m args below meth c A Q hX hnm hR
  refine Z.pick (lv' := [(0, .ref (h 0)), (1, .int (zI what))]) [0, 1] rfl ?_
  obtain ⟨hB, hg0, hg2, hg3, hg5, hg6, hg1, hg4⟩ := id hok
  unfold bl at hg0 hg2 hg3 hg5 hg6
  refine Z.iload_n hX dX6_degree_0 rfl rfl ?_
  refine Z.if_lt hX 9 dX6_degree_1 (by decide) ⟨by omega, by omega⟩ ?_ ?_
  · intro c1
    refine Z.iconst hX dX6_degree_9 ?_
    exact hR _ _ _ _ dX6_degree_10 ⟨(-1), G, L, B, J, rfl, rfl, hok, (fun _ _ => rfl), (fun _ => rfl), (fun q => by omega), hfi, (fun q => by omega), hli, hle⟩
  · intro c1
    refine Z.iload_n hX dX6_degree_4 rfl rfl ?_
    refine Z.iconst hX dX6_degree_5 ?_
    refine Z.icmp_le hX 11 dX6_degree_6 (by decide) ⟨by omega, by omega⟩ ⟨by omega, by omega⟩ ?_ ?_
    · intro c2
      refine Z.aload_n hX dX6_degree_11 rfl rfl ?_
      refine Z.getf hX 6 0 0 dX6_degree_12 rfl rfl inX6 (by decide) fl_X6_10 rfl rfl ?_
      refine Z.callVfi (As := []) (rest := []) hX 5 1 rfl rfl (ct_X5_highestPower_r l D ce h pl ar G L B J ) mc_X5_highestPower ml_X6_80 im_X5_highestPower se_X5_highestPower ini_X5 nd_X5_highestPower ⟨Nat.le_of_ble_eq_true rfl, Nat.le_of_ble_eq_true rfl⟩ ⟨rfl, rfl⟩ ⟨Nat.le_refl _, Nat.le_refl _⟩ rfl (Nat.le_of_ble_eq_true rfl) dX6_degree_15 ?_
      rintro r_3 w1 ⟨nn, hr_, hw_, n1, n2, n3⟩
      subst hr_
      subst hw_
      refine Z.istore_n (lv' := [(2, .int (zI nn)), (0, .ref (h 0)), (1, .int (zI what))]) hX dX6_degree_18 rfl (by decide) rfl ?_
      refine Z.iload_n hX dX6_degree_19 rfl rfl ?_
      refine Z.if_ne hX 25 dX6_degree_20 (by decide) ⟨by omega, by omega⟩ ?_ ?_
      · intro c4
        refine Z.aload_n hX dX6_degree_25 rfl rfl ?_
        refine Z.callVfr (As := []) (rest := []) hX 6 0 rfl rfl (ct_X6_freeRow_x l D ce h pl ar G L B J hok hbl hfi) mc_X6_freeRow ml_X6_83 im_X6_freeRow se_X6_freeRow ini_X6 nd_X6_freeRow ⟨Nat.le_of_ble_eq_true rfl, Nat.le_of_ble_eq_true rfl⟩ ⟨rfl, rfl⟩ ⟨Nat.le_refl _, Nat.le_refl _⟩ rfl (Nat.le_of_ble_eq_true rfl) dX6_degree_26 ?_
        rintro r_5 w1 ⟨G26, L27, hr_, hw_, fr1, fr2, fr3, fr4⟩
        subst hr_
        subst hw_
        refine Z.callVfi (As := []) (rest := []) hX 5 2 rfl rfl (ct_X5_highestPower_f l D ce h pl ar G26 L27 B J ) mc_X5_highestPower ml_X6_80 im_X5_highestPower se_X5_highestPower ini_X5 nd_X5_highestPower ⟨Nat.le_of_ble_eq_true rfl, Nat.le_of_ble_eq_true rfl⟩ ⟨rfl, rfl⟩ ⟨Nat.le_refl _, Nat.le_refl _⟩ rfl (Nat.le_of_ble_eq_true rfl) dX6_degree_29 ?_
        rintro r_8 w1 ⟨nf, hr_, hw_, m1, m2, m3⟩
        subst hr_
        subst hw_
        refine Z.istore_n (lv' := [(3, .int (zI nf)), (2, .int (zI nn)), (0, .ref (h 0)), (1, .int (zI what))]) hX dX6_degree_32 rfl (by decide) rfl ?_
        refine Z.iload_n hX dX6_degree_33 rfl rfl ?_
        refine Z.iconst hX dX6_degree_34 ?_
        refine Z.icmp_ne hX 42 dX6_degree_35 (by decide) ⟨by omega, by omega⟩ ⟨by omega, by omega⟩ ?_ ?_
        · intro c9
          refine Z.iload_n hX dX6_degree_42 rfl rfl ?_
          refine Z.iload_n hX dX6_degree_43 rfl rfl ?_
          refine Z.isub hX dX6_degree_44 ?_
          exact hR _ _ _ _ dX6_degree_45 ⟨(nn - nf), G26, L27, B, J, rfl, rfl, (cok_of hB (by unfold bl at fr2; omega) (by have := fr1 1 (by decide); omega) (by have := fr1 2 (by decide); omega) (by have := fr1 3 (by decide); omega) (by have := fr1 4 (by decide); omega) (by have := fr1 5 (by decide); omega) (by have := fr1 6 (by decide); omega)), fr3, (fun q => by omega), (fun q => by omega), (FI_f fr3 fr4), (fun q => ⟨nn, nf, ⟨n1, n2, n3⟩, ⟨m1, m2, m3⟩, fr4, fun q1 => by first | rfl | omega, fun q1 => by first | rfl | omega⟩), (LI_f hli (fr1 2 (by decide)) (fr1 3 (by decide)) fr3 fr4), (LIe_k hle (fr1 5 (by decide)) (fr1 6 (by decide)) fr3)⟩
        · intro c9
          refine Z.iload_n hX dX6_degree_38 rfl rfl ?_
          refine Z.goto hX 45 dX6_degree_39 (by decide) ?_
          exact hR _ _ _ _ dX6_degree_45 ⟨nf, G26, L27, B, J, rfl, rfl, (cok_of hB (by unfold bl at fr2; omega) (by have := fr1 1 (by decide); omega) (by have := fr1 2 (by decide); omega) (by have := fr1 3 (by decide); omega) (by have := fr1 4 (by decide); omega) (by have := fr1 5 (by decide); omega) (by have := fr1 6 (by decide); omega)), fr3, (fun q => by omega), (fun q => by omega), (FI_f fr3 fr4), (fun q => ⟨nn, nf, ⟨n1, n2, n3⟩, ⟨m1, m2, m3⟩, fr4, fun q1 => by first | rfl | omega, fun q1 => by first | rfl | omega⟩), (LI_f hli (fr1 2 (by decide)) (fr1 3 (by decide)) fr3 fr4), (LIe_k hle (fr1 5 (by decide)) (fr1 6 (by decide)) fr3)⟩
      · intro c4
        refine Z.iload_n hX dX6_degree_23 rfl rfl ?_
        exact hR _ _ _ _ dX6_degree_24 ⟨nn, G, L, B, J, rfl, rfl, hok, (fun _ _ => rfl), (fun q => by omega), (fun _ => ⟨n1, n2, n3⟩), hfi, (fun q => by omega), hli, hle⟩
    · intro c2
      refine Z.iconst hX dX6_degree_9 ?_
      exact hR _ _ _ _ dX6_degree_10 ⟨(-1), G, L, B, J, rfl, rfl, hok, (fun _ _ => rfl), (fun _ => rfl), (fun q => by omega), hfi, (fun q => by omega), hli, hle⟩

set_option maxHeartbeats 4000000 in
set_option maxRecDepth 100000 in
theorem ct_X6_freed_xyz (l : Launch) (D : va_G) (ce : Nat → ClassId) (h pl ar : Nat → Nat) (G : Nat → Int) (L : Nat → Nat → Int64) (B : Nat → Int) (J : Nat → Nat → Int64) (wh i : Int) (hok : cOK G B) (hbl : bL L) (hfi : FI G L) (hw : -2147483648 ≤ wh ∧ wh < 2147483648) (hi : -2147483648 ≤ i ∧ i < 2147483648) (hli : LI G L) (hle : LIe G L) : Ct l yX6_freed cX6_freed 3 (some .int) { frames := 5, cells := 0, slots := 0, locals := 128 } 0 0 D (TY ce) [.ref (h 0), .int (zI wh), .int (zI i)] (cW ce h pl ar G L B J) (QI D (TY ce) (fun r w1 => ∃ z : Int, ∃ G2 : Nat → Int, ∃ L2 : Nat → Nat → Int64, ∃ B2 : Nat → Int, ∃ J2 : Nat → Nat → Int64, r = zI z ∧ w1 = cW ce h pl ar G2 L2 B2 J2 ∧ (cOK G2 B2) ∧ (∀ k, k < 3 → L2 k = L k) ∧ (¬ (0 ≤ wh ∧ wh ≤ 2 ∧ 0 ≤ i ∧ i ≤ 4) → z = -1000000) ∧ (FI G2 L2) ∧ ((0 ≤ wh ∧ wh ≤ 2 ∧ 0 ≤ i ∧ i ≤ 4) → FRs L (fun a => L2 (3 + a)) ∧ (L2 (3 + wh.toNat) i.toNat).toInt32 = zI z) ∧ (LI G2 L2) ∧ (LIe G2 L2))) := by
  refine Ct.ofI (by decide) (Nat.le_of_ble_eq_true rfl) ?_
  intro p e s m args below meth c A Q hX hnm hR
  refine Z.pick (lv' := [(0, .ref (h 0)), (1, .int (zI wh)), (2, .int (zI i))]) [0, 1, 2] rfl ?_
  obtain ⟨hB, hg0, hg2, hg3, hg5, hg6, hg1, hg4⟩ := id hok
  unfold bl at hg0 hg2 hg3 hg5 hg6
  refine Z.iload_n hX dX6_freed_0 rfl rfl ?_
  refine Z.callS0i (As := [.int (zI wh)]) (rest := []) hX (ct_X6_isPart l D ce wh (by omega)) mc_X6_isPart ml_X6_58 st_X6_isPart ini_X6 nd_X6_isPart ⟨Nat.le_of_ble_eq_true rfl, Nat.le_of_ble_eq_true rfl⟩ ⟨rfl, rfl⟩ ⟨Nat.le_refl _, Nat.le_refl _⟩ rfl (Nat.le_of_ble_eq_true rfl) dX6_freed_1 ?_
  rintro r_1 w1 ⟨z1, hr_, hw_, p1⟩
  subst hr_
  refine ⟨hw_, ?_⟩
  refine Z.if_eq hX 14 dX6_freed_4 (by decide) ⟨by omega, by omega⟩ ?_ ?_
  · intro c2
    refine Z.ldc hX (-1000000) dX6_freed_14 co_X6_87 rfl ?_
    exact hR _ _ _ _ dX6_freed_16 ⟨((-1000000)), G, L, B, J, rfl, rfl, hok, (fun _ _ => rfl), (fun _ => rfl), hfi, (fun q => by omega), hli, hle⟩
  · intro c2
    refine Z.iload_n hX dX6_freed_7 rfl rfl ?_
    refine Z.callS0i (As := [.int (zI i)]) (rest := []) hX (ct_X6_isPower l D ce i (by omega)) mc_X6_isPower ml_X6_62 st_X6_isPower ini_X6 nd_X6_isPower ⟨Nat.le_of_ble_eq_true rfl, Nat.le_of_ble_eq_true rfl⟩ ⟨rfl, rfl⟩ ⟨Nat.le_refl _, Nat.le_refl _⟩ rfl (Nat.le_of_ble_eq_true rfl) dX6_freed_8 ?_
    rintro r_3 w1 ⟨z2, hr_, hw_, p2⟩
    subst hr_
    refine ⟨hw_, ?_⟩
    refine Z.if_ne hX 17 dX6_freed_11 (by decide) ⟨by omega, by omega⟩ ?_ ?_
    · intro c4
      refine Z.aload_n hX dX6_freed_17 rfl rfl ?_
      refine Z.callVfr (As := []) (rest := []) hX 6 0 rfl rfl (ct_X6_freeRow_x l D ce h pl ar G L B J hok hbl hfi) mc_X6_freeRow ml_X6_83 im_X6_freeRow se_X6_freeRow ini_X6 nd_X6_freeRow ⟨Nat.le_of_ble_eq_true rfl, Nat.le_of_ble_eq_true rfl⟩ ⟨rfl, rfl⟩ ⟨Nat.le_refl _, Nat.le_refl _⟩ rfl (Nat.le_of_ble_eq_true rfl) dX6_freed_18 ?_
      rintro r_5 w1 ⟨G26, L27, hr_, hw_, fr1, fr2, fr3, fr4⟩
      subst hr_
      subst hw_
      refine Z.getf hX 5 2 0 dX6_freed_21 rfl rfl inX5 (by decide) fl_X6_69 rfl rfl ?_
      refine Z.iload_n hX dX6_freed_24 rfl rfl ?_
      refine Z.aaload hX 10 3 dX6_freed_25 rfl rfl rfl (by omega) (by omega) (by decide) rfl ?_
      refine Z.iload_n hX dX6_freed_26 rfl rfl ?_
      refine Z.laload hX (18 + (3 + (wh : Int).toNat)) 1 dX6_freed_27 (cW_in (by omega)) rfl (by omega) (by omega) (by decide) ?_
      refine Z.l2i hX dX6_freed_28 ?_
      refine Z.topi (fun z8 hz8 kz8 ez8 => ?_)
      exact hR _ _ _ _ dX6_freed_29 ⟨z8, G26, L27, B, J, rfl, rfl, (cok_of hB (by unfold bl at fr2; omega) (by have := fr1 1 (by decide); omega) (by have := fr1 2 (by decide); omega) (by have := fr1 3 (by decide); omega) (by have := fr1 4 (by decide); omega) (by have := fr1 5 (by decide); omega) (by have := fr1 6 (by decide); omega)), fr3, (fun q => absurd (by omega) q), (FI_f fr3 fr4), (fun _ => ⟨fr4, by assumption⟩), (LI_f hli (fr1 2 (by decide)) (fr1 3 (by decide)) fr3 fr4), (LIe_k hle (fr1 5 (by decide)) (fr1 6 (by decide)) fr3)⟩
    · intro c4
      refine Z.ldc hX (-1000000) dX6_freed_14 co_X6_87 rfl ?_
      exact hR _ _ _ _ dX6_freed_16 ⟨((-1000000)), G, L, B, J, rfl, rfl, hok, (fun _ _ => rfl), (fun _ => rfl), hfi, (fun q => by omega), hli, hle⟩

set_option maxHeartbeats 4000000 in
set_option maxRecDepth 100000 in
theorem ct_X6_value_xyz (l : Launch) (D : va_G) (ce : Nat → ClassId) (h pl ar : Nat → Nat) (G : Nat → Int) (L : Nat → Nat → Int64) (B : Nat → Int) (J : Nat → Nat → Int64) (u v part : Int) (hok : cOK G B) (hbl : bL L) (hfi : FI G L) (hu : -2147483648 ≤ u ∧ u < 2147483648) (hv : -2147483648 ≤ v ∧ v < 2147483648) (hp : -2147483648 ≤ part ∧ part < 2147483648) (hli : LI G L) (hle : LIe G L) : Ct l yX6_value cX6_value 6 (some .int) { frames := 2, cells := 0, slots := 0, locals := 52 } 0 0 D (TY ce) [.ref (h 0), .int (zI u), .int (zI v), .int (zI part)] (cW ce h pl ar G L B J) (QI D (TY ce) (fun r w1 => ∃ z : Int, ∃ G2 : Nat → Int, ∃ L2 : Nat → Nat → Int64, ∃ B2 : Nat → Int, ∃ J2 : Nat → Nat → Int64, r = zI z ∧ w1 = cW ce h pl ar G2 L2 B2 J2 ∧ (cOK G2 B2) ∧ (∀ k, k < 3 → L2 k = L k) ∧ (¬ ((-9 ≤ u ∧ u ≤ 9 ∧ -9 ≤ v ∧ v ≤ 9 ∧ ¬ (u = 0 ∧ v = 0)) ∧ 0 ≤ part ∧ part ≤ 2) → z = -1000000) ∧ (((-9 ≤ u ∧ u ≤ 9 ∧ -9 ≤ v ∧ v ≤ 9 ∧ ¬ (u = 0 ∧ v = 0)) ∧ 0 ≤ part ∧ part ≤ 2) → ∃ (n : Int) (c1 c2 : Int64), HP L n ∧ cgE (wOf (L 0) u v n) (wOf (L 1) u v n) c1 ∧ cgE c1 (wOf (L 2) u v n) c2 ∧ ((c2 = 0 ∧ z = 0) ∨ (¬ c2 = 0 ∧ ((wOf (L part.toNat) u v n) / c2).toInt32 = zI z))) ∧ (FI G2 L2) ∧ (LI G2 L2) ∧ (LIe G2 L2))) := by
  refine Ct.ofI (by decide) (Nat.le_of_ble_eq_true rfl) ?_
  intro p e s m args below meth c A Q hX hnm hR
  refine Z.pick (lv' := [(0, .ref (h 0)), (1, .int (zI u)), (2, .int (zI v)), (3, .int (zI part))]) [0, 1, 2, 3] rfl ?_
  obtain ⟨hB, hg0, hg2, hg3, hg5, hg6, hg1, hg4⟩ := id hok
  unfold bl at hg0 hg2 hg3 hg5 hg6
  refine Z.iload_n hX dX6_value_0 rfl rfl ?_
  refine Z.iload_n hX dX6_value_1 rfl rfl ?_
  refine Z.callS0i (As := [.int (zI u), .int (zI v)]) (rest := []) hX (ct_X6_isParameter l D ce u v (by omega) (by omega)) mc_X6_isParameter ml_X6_88 st_X6_isParameter ini_X6 nd_X6_isParameter ⟨Nat.le_of_ble_eq_true rfl, Nat.le_of_ble_eq_true rfl⟩ ⟨rfl, rfl⟩ ⟨Nat.le_refl _, Nat.le_refl _⟩ rfl (Nat.le_of_ble_eq_true rfl) dX6_value_2 ?_
  rintro r_1 w1 ⟨z1, hr_, hw_, p1⟩
  subst hr_
  refine ⟨hw_, ?_⟩
  refine Z.if_eq hX 15 dX6_value_5 (by decide) ⟨by omega, by omega⟩ ?_ ?_
  · intro c2
    refine Z.ldc hX (-1000000) dX6_value_15 co_X6_87 rfl ?_
    exact hR _ _ _ _ dX6_value_17 ⟨((-1000000)), G, L, B, J, rfl, rfl, hok, (fun _ _ => rfl), (fun _ => rfl), (fun q => by omega), hfi, hli, hle⟩
  · intro c2
    refine Z.iload_n hX dX6_value_8 rfl rfl ?_
    refine Z.callS0i (As := [.int (zI part)]) (rest := []) hX (ct_X6_isPart l D ce part (by omega)) mc_X6_isPart ml_X6_58 st_X6_isPart ini_X6 nd_X6_isPart ⟨Nat.le_of_ble_eq_true rfl, Nat.le_of_ble_eq_true rfl⟩ ⟨rfl, rfl⟩ ⟨Nat.le_refl _, Nat.le_refl _⟩ rfl (Nat.le_of_ble_eq_true rfl) dX6_value_9 ?_
    rintro r_3 w1 ⟨z2, hr_, hw_, p2⟩
    subst hr_
    refine ⟨hw_, ?_⟩
    refine Z.if_ne hX 18 dX6_value_12 (by decide) ⟨by omega, by omega⟩ ?_ ?_
    · intro c4
      refine Z.aload_n hX dX6_value_18 rfl rfl ?_
      refine Z.iload_n hX dX6_value_19 rfl rfl ?_
      refine Z.iload_n hX dX6_value_20 rfl rfl ?_
      refine Z.callVfv (As := [.int (zI u), .int (zI v)]) (rest := []) hX 6 0 rfl rfl (ct_X6_moveTo l D ce h pl ar G L B J u v (by omega) (by omega)) mc_X6_moveTo ml_X6_91 im_X6_moveTo se_X6_moveTo ini_X6 nd_X6_moveTo ⟨Nat.le_of_ble_eq_true rfl, Nat.le_of_ble_eq_true rfl⟩ ⟨rfl, rfl⟩ ⟨Nat.le_refl _, Nat.le_refl _⟩ rfl (Nat.le_of_ble_eq_true rfl) dX6_value_21 ?_
      rintro w1 ⟨n, Lm, hw_, mv1, mv2, mv3⟩
      subst hw_
      have s0 : Lm 9 (0 : Int).toNat = wOf (L 0) u v n := mv2 0 (by decide) (by decide)
      have s1 : Lm 9 (1 : Int).toNat = wOf (L 1) u v n := mv2 1 (by decide) (by decide)
      have s2 : Lm 9 (2 : Int).toNat = wOf (L 2) u v n := mv2 2 (by decide) (by decide)
      refine Z.aload_n hX dX6_value_24 rfl rfl ?_
      refine Z.getf hX 6 0 7 dX6_value_25 rfl rfl inX6 (by decide) fl_X6_50 rfl rfl ?_
      refine Z.iconst hX dX6_value_28 ?_
      refine Z.laload hX 8 1 dX6_value_29 rfl rfl (by omega) (by omega) (by decide) ?_
      refine Z.aload_n hX dX6_value_30 rfl rfl ?_
      refine Z.getf hX 6 0 7 dX6_value_31 rfl rfl inX6 (by decide) fl_X6_50 rfl rfl ?_
      refine Z.iconst hX dX6_value_34 ?_
      refine Z.laload hX 8 1 dX6_value_35 rfl rfl (by omega) (by omega) (by decide) ?_
      refine Z.callS0l (As := [.long (Lm 9 (0 : Int).toNat), .long (Lm 9 (1 : Int).toNat)]) (rest := []) hX (ct_X6_commonOf l D ce (Lm 9 (0 : Int).toNat) (Lm 9 (1 : Int).toNat) ) mc_X6_commonOf ml_X6_95 st_X6_commonOf ini_X6 nd_X6_commonOf ⟨Nat.le_of_ble_eq_true rfl, Nat.le_of_ble_eq_true rfl⟩ ⟨rfl, rfl⟩ ⟨Nat.le_refl _, Nat.le_refl _⟩ rfl (Nat.le_of_ble_eq_true rfl) dX6_value_36 ?_
      rintro c1 w1 ⟨r07, hr_, hw_, hc1⟩
      subst hr_
      refine ⟨hw_, ?_⟩
      refine Z.aload_n hX dX6_value_39 rfl rfl ?_
      refine Z.getf hX 6 0 7 dX6_value_40 rfl rfl inX6 (by decide) fl_X6_50 rfl rfl ?_
      refine Z.iconst hX dX6_value_43 ?_
      refine Z.laload hX 8 1 dX6_value_44 rfl rfl (by omega) (by omega) (by decide) ?_
      refine Z.callS0l (As := [.long c1, .long (Lm 9 (2 : Int).toNat)]) (rest := []) hX (ct_X6_commonOf l D ce c1 (Lm 9 (2 : Int).toNat) ) mc_X6_commonOf ml_X6_95 st_X6_commonOf ini_X6 nd_X6_commonOf ⟨Nat.le_of_ble_eq_true rfl, Nat.le_of_ble_eq_true rfl⟩ ⟨rfl, rfl⟩ ⟨Nat.le_refl _, Nat.le_refl _⟩ rfl (Nat.le_of_ble_eq_true rfl) dX6_value_45 ?_
      rintro c2 w1 ⟨r09, hr_, hw_, hc2⟩
      subst hr_
      refine ⟨hw_, ?_⟩
      refine Z.lstore (lv' := [(4, .long c2), (0, .ref (h 0)), (1, .int (zI u)), (2, .int (zI v)), (3, .int (zI part))]) hX dX6_value_48 (by decide) rfl ?_
      refine Z.lload hX dX6_value_50 rfl ?_
      refine Z.lconst (v := 0) hX dX6_value_52 rfl ?_
      refine Z.lcmp_ne hX 61 dX6_value_53 dX6_value_54 (by decide) ?_ ?_
      · intro c10
        refine Z.aload_n hX dX6_value_61 rfl rfl ?_
        refine Z.getf hX 6 0 7 dX6_value_62 rfl rfl inX6 (by decide) fl_X6_50 rfl rfl ?_
        refine Z.iload_n hX dX6_value_65 rfl rfl ?_
        refine Z.laload hX 8 1 dX6_value_66 rfl rfl (by omega) (by omega) (by decide) ?_
        refine Z.lload hX dX6_value_67 rfl ?_
        refine Z.ldiv hX dX6_value_69 (by assumption) ?_
        refine Z.l2i hX dX6_value_70 ?_
        refine Z.topi (fun z11 hz11 kz11 ez11 => ?_)
        exact hR _ _ _ _ dX6_value_71 ⟨z11, G, Lm, B, J, rfl, rfl, hok, (fun k h => mv3 k (by omega)), (fun q => absurd (by omega) q), (fun _ => ⟨n, c1, c2, mv1, by rw [← s0, ← s1]; exact hc1, by rw [← s2]; exact hc2, Or.inr ⟨by assumption, by rw [← mv2 part (by omega) (by omega)]; assumption⟩⟩), (FI_k hfi rfl (fun k h => mv3 k (by omega))), (LI_k hli rfl rfl (fun k h => mv3 k (by omega))), (LIe_k hle rfl rfl (fun k h => mv3 k (by omega)))⟩
      · intro c10
        refine Z.iconst hX dX6_value_57 ?_
        refine Z.goto hX 71 dX6_value_58 (by decide) ?_
        exact hR _ _ _ _ dX6_value_71 ⟨0, G, Lm, B, J, rfl, rfl, hok, (fun k h => mv3 k (by omega)), (fun q => absurd (by omega) q), (fun _ => ⟨n, c1, c2, mv1, by rw [← s0, ← s1]; exact hc1, by rw [← s2]; exact hc2, Or.inl ⟨by assumption, rfl⟩⟩), (FI_k hfi rfl (fun k h => mv3 k (by omega))), (LI_k hli rfl rfl (fun k h => mv3 k (by omega))), (LIe_k hle rfl rfl (fun k h => mv3 k (by omega)))⟩
    · intro c4
      refine Z.ldc hX (-1000000) dX6_value_15 co_X6_87 rfl ?_
      exact hR _ _ _ _ dX6_value_17 ⟨((-1000000)), G, L, B, J, rfl, rfl, hok, (fun _ _ => rfl), (fun _ => rfl), (fun q => by omega), hfi, hli, hle⟩

set_option maxHeartbeats 4000000 in
set_option maxRecDepth 100000 in
theorem ct_X6_at_xyz (l : Launch) (D : va_G) (ce : Nat → ClassId) (h pl ar : Nat → Nat) (G : Nat → Int) (L : Nat → Nat → Int64) (B : Nat → Int) (J : Nat → Nat → Int64) (u v pp qq ss : Int) (hok : cOK G B) (hbl : bL L) (hfi : FI G L) (hu : -2147483648 ≤ u ∧ u < 2147483648) (hv : -2147483648 ≤ v ∧ v < 2147483648) (hp : -2147483648 ≤ pp ∧ pp < 2147483648) (hq : -2147483648 ≤ qq ∧ qq < 2147483648) (hs : -2147483648 ≤ ss ∧ ss < 2147483648) (hli : LI G L) (hle : LIe G L) : Ct l yX6_at cX6_at 7 (some .int) { frames := 2, cells := 0, slots := 0, locals := 52 } 0 0 D (TY ce) [.ref (h 0), .int (zI u), .int (zI v), .int (zI pp), .int (zI qq), .int (zI ss)] (cW ce h pl ar G L B J) (QI D (TY ce) (fun r w1 => ∃ z : Int, ∃ G2 : Nat → Int, ∃ L2 : Nat → Nat → Int64, ∃ B2 : Nat → Int, ∃ J2 : Nat → Nat → Int64, r = zI z ∧ w1 = cW ce h pl ar G2 L2 B2 J2 ∧ (cOK G2 B2) ∧ (∀ k, k < 3 → L2 k = L k) ∧ (¬ ((-9 ≤ u ∧ u ≤ 9 ∧ -9 ≤ v ∧ v ≤ 9 ∧ ¬ (u = 0 ∧ v = 0)) ∧ (-20 ≤ pp ∧ pp ≤ 20 ∧ -20 ≤ qq ∧ qq ≤ 20 ∧ 1 ≤ ss ∧ ss ≤ 9)) → z = -9) ∧ (((-9 ≤ u ∧ u ≤ 9 ∧ -9 ≤ v ∧ v ≤ 9 ∧ ¬ (u = 0 ∧ v = 0)) ∧ (-20 ≤ pp ∧ pp ≤ 20 ∧ -20 ≤ qq ∧ qq ≤ 20 ∧ 1 ≤ ss ∧ ss ≤ 9)) → ∃ n : Int, HP L n ∧ ((z = 1 ∧ (¬ (wOf (L 2) u v n) = 0 ∧ (wOf (L 0) u v n) * zL ss = (wOf (L 2) u v n) * zL pp ∧ (wOf (L 1) u v n) * zL ss = (wOf (L 2) u v n) * zL qq)) ∨ (z = 0 ∧ ¬ (¬ (wOf (L 2) u v n) = 0 ∧ (wOf (L 0) u v n) * zL ss = (wOf (L 2) u v n) * zL pp ∧ (wOf (L 1) u v n) * zL ss = (wOf (L 2) u v n) * zL qq)))) ∧ (FI G2 L2) ∧ (LI G2 L2) ∧ (LIe G2 L2))) := by
  refine Ct.ofI (by decide) (Nat.le_of_ble_eq_true rfl) ?_
  intro p e s m args below meth c A Q hX hnm hR
  refine Z.pick (lv' := [(0, .ref (h 0)), (1, .int (zI u)), (2, .int (zI v)), (3, .int (zI pp)), (4, .int (zI qq)), (5, .int (zI ss))]) [0, 1, 2, 3, 4, 5] rfl ?_
  obtain ⟨hB, hg0, hg2, hg3, hg5, hg6, hg1, hg4⟩ := id hok
  unfold bl at hg0 hg2 hg3 hg5 hg6
  refine Z.iload_n hX dX6_at_0 rfl rfl ?_
  refine Z.iload_n hX dX6_at_1 rfl rfl ?_
  refine Z.callS0i (As := [.int (zI u), .int (zI v)]) (rest := []) hX (ct_X6_isParameter l D ce u v (by omega) (by omega)) mc_X6_isParameter ml_X6_88 st_X6_isParameter ini_X6 nd_X6_isParameter ⟨Nat.le_of_ble_eq_true rfl, Nat.le_of_ble_eq_true rfl⟩ ⟨rfl, rfl⟩ ⟨Nat.le_refl _, Nat.le_refl _⟩ rfl (Nat.le_of_ble_eq_true rfl) dX6_at_2 ?_
  rintro r_1 w1 ⟨z1, hr_, hw_, p1⟩
  subst hr_
  refine ⟨hw_, ?_⟩
  refine Z.if_eq hX 19 dX6_at_5 (by decide) ⟨by omega, by omega⟩ ?_ ?_
  · intro c2
    refine Z.bipush hX dX6_at_19 (by decide) ?_
    exact hR _ _ _ _ dX6_at_21 ⟨(-9), G, L, B, J, rfl, rfl, hok, (fun _ _ => rfl), (fun _ => rfl), (fun q => by omega), hfi, hli, hle⟩
  · intro c2
    refine Z.iload_n hX dX6_at_8 rfl rfl ?_
    refine Z.iload hX dX6_at_9 rfl ?_
    refine Z.iload hX dX6_at_11 rfl ?_
    refine Z.callS0i (As := [.int (zI pp), .int (zI qq), .int (zI ss)]) (rest := []) hX (ct_X6_isPlace l D ce pp qq ss (by omega) (by omega) (by omega)) mc_X6_isPlace ml_X6_129 st_X6_isPlace ini_X6 nd_X6_isPlace ⟨Nat.le_of_ble_eq_true rfl, Nat.le_of_ble_eq_true rfl⟩ ⟨rfl, rfl⟩ ⟨Nat.le_refl _, Nat.le_refl _⟩ rfl (Nat.le_of_ble_eq_true rfl) dX6_at_13 ?_
    rintro r_3 w1 ⟨z2, hr_, hw_, p2⟩
    subst hr_
    refine ⟨hw_, ?_⟩
    refine Z.if_ne hX 22 dX6_at_16 (by decide) ⟨by omega, by omega⟩ ?_ ?_
    · intro c4
      refine Z.aload_n hX dX6_at_22 rfl rfl ?_
      refine Z.iload_n hX dX6_at_23 rfl rfl ?_
      refine Z.iload_n hX dX6_at_24 rfl rfl ?_
      refine Z.callVfv (As := [.int (zI u), .int (zI v)]) (rest := []) hX 6 0 rfl rfl (ct_X6_moveTo l D ce h pl ar G L B J u v (by omega) (by omega)) mc_X6_moveTo ml_X6_91 im_X6_moveTo se_X6_moveTo ini_X6 nd_X6_moveTo ⟨Nat.le_of_ble_eq_true rfl, Nat.le_of_ble_eq_true rfl⟩ ⟨rfl, rfl⟩ ⟨Nat.le_refl _, Nat.le_refl _⟩ rfl (Nat.le_of_ble_eq_true rfl) dX6_at_25 ?_
      rintro w1 ⟨n, Lm, hw_, mv1, mv2, mv3⟩
      subst hw_
      have s0 : Lm 9 (0 : Int).toNat = wOf (L 0) u v n := mv2 0 (by decide) (by decide)
      have s1 : Lm 9 (1 : Int).toNat = wOf (L 1) u v n := mv2 1 (by decide) (by decide)
      have s2 : Lm 9 (2 : Int).toNat = wOf (L 2) u v n := mv2 2 (by decide) (by decide)
      have key_91 : ∀ (bz : Int), (hbz : (bz = 1 ∧ (¬ (wOf (L 2) u v n) = 0 ∧ (wOf (L 0) u v n) * zL ss = (wOf (L 2) u v n) * zL pp ∧ (wOf (L 1) u v n) * zL ss = (wOf (L 2) u v n) * zL qq)) ∨ (bz = 0 ∧ ¬ (¬ (wOf (L 2) u v n) = 0 ∧ (wOf (L 0) u v n) * zL ss = (wOf (L 2) u v n) * zL pp ∧ (wOf (L 1) u v n) * zL ss = (wOf (L 2) u v n) * zL qq))) → Z p l e { frames := 2, cells := 0, slots := 0, locals := 52 } s m args below meth c D A 7 0 0 Q 91 [(0, .ref (h 0))] [.int (zI bz)] (cW ce h pl ar G Lm B J) := by
        intro bz hbz
        refine Z.istore (lv' := [(6, .int (zI bz)), (0, .ref (h 0))]) hX dX6_at_91 (by decide) rfl ?_
        refine Z.iload hX dX6_at_93 rfl ?_
        refine Z.if_eq hX 102 dX6_at_95 (by decide) ⟨by omega, by omega⟩ ?_ ?_
        · intro c6
          refine Z.iconst hX dX6_at_102 ?_
          exact hR _ _ _ _ dX6_at_103 ⟨0, G, Lm, B, J, rfl, rfl, hok, (fun k h => mv3 k (by omega)), (fun q => absurd (by omega) q), (fun _ => ⟨n, mv1, Or.inr ⟨rfl, (hbz.resolve_left (fun q => by omega)).2⟩⟩), (FI_k hfi rfl (fun k h => mv3 k (by omega))), (LI_k hli rfl rfl (fun k h => mv3 k (by omega))), (LIe_k hle rfl rfl (fun k h => mv3 k (by omega)))⟩
        · intro c6
          refine Z.iconst hX dX6_at_98 ?_
          refine Z.goto hX 103 dX6_at_99 (by decide) ?_
          exact hR _ _ _ _ dX6_at_103 ⟨1, G, Lm, B, J, rfl, rfl, hok, (fun k h => mv3 k (by omega)), (fun q => absurd (by omega) q), (fun _ => ⟨n, mv1, Or.inl ⟨rfl, (hbz.resolve_right (fun q => by omega)).2⟩⟩), (FI_k hfi rfl (fun k h => mv3 k (by omega))), (LI_k hli rfl rfl (fun k h => mv3 k (by omega))), (LIe_k hle rfl rfl (fun k h => mv3 k (by omega)))⟩
      refine Z.aload_n hX dX6_at_28 rfl rfl ?_
      refine Z.getf hX 6 0 7 dX6_at_29 rfl rfl inX6 (by decide) fl_X6_50 rfl rfl ?_
      refine Z.iconst hX dX6_at_32 ?_
      refine Z.laload hX 8 1 dX6_at_33 rfl rfl (by omega) (by omega) (by decide) ?_
      refine Z.lconst (v := 0) hX dX6_at_34 rfl ?_
      refine Z.lcmp_eq hX 90 dX6_at_35 dX6_at_36 (by decide) ?_ ?_
      · intro c7
        refine Z.iconst hX dX6_at_90 ?_
        refine Z.pick [0] rfl ?_
        exact key_91 _ (Or.inr ⟨rfl, fun q => by rw [← s0, ← s1, ← s2] at q; first | exact q.1 (by assumption) | exact absurd q.2.1 (by assumption) | exact absurd q.2.2 (by assumption)⟩)
      · intro c7
        refine Z.aload_n hX dX6_at_39 rfl rfl ?_
        refine Z.getf hX 6 0 7 dX6_at_40 rfl rfl inX6 (by decide) fl_X6_50 rfl rfl ?_
        refine Z.iconst hX dX6_at_43 ?_
        refine Z.laload hX 8 1 dX6_at_44 rfl rfl (by omega) (by omega) (by decide) ?_
        refine Z.iload hX dX6_at_45 rfl ?_
        refine Z.i2l hX dX6_at_47 ⟨by omega, by omega⟩ ?_
        refine Z.lmul hX dX6_at_48 ?_
        refine Z.aload_n hX dX6_at_49 rfl rfl ?_
        refine Z.getf hX 6 0 7 dX6_at_50 rfl rfl inX6 (by decide) fl_X6_50 rfl rfl ?_
        refine Z.iconst hX dX6_at_53 ?_
        refine Z.laload hX 8 1 dX6_at_54 rfl rfl (by omega) (by omega) (by decide) ?_
        refine Z.iload_n hX dX6_at_55 rfl rfl ?_
        refine Z.i2l hX dX6_at_56 ⟨by omega, by omega⟩ ?_
        refine Z.lmul hX dX6_at_57 ?_
        refine Z.lcmp_ne hX 90 dX6_at_58 dX6_at_59 (by decide) ?_ ?_
        · intro c8
          refine Z.iconst hX dX6_at_90 ?_
          refine Z.pick [0] rfl ?_
          exact key_91 _ (Or.inr ⟨rfl, fun q => by rw [← s0, ← s1, ← s2] at q; first | exact q.1 (by assumption) | exact absurd q.2.1 (by assumption) | exact absurd q.2.2 (by assumption)⟩)
        · intro c8
          refine Z.aload_n hX dX6_at_62 rfl rfl ?_
          refine Z.getf hX 6 0 7 dX6_at_63 rfl rfl inX6 (by decide) fl_X6_50 rfl rfl ?_
          refine Z.iconst hX dX6_at_66 ?_
          refine Z.laload hX 8 1 dX6_at_67 rfl rfl (by omega) (by omega) (by decide) ?_
          refine Z.iload hX dX6_at_68 rfl ?_
          refine Z.i2l hX dX6_at_70 ⟨by omega, by omega⟩ ?_
          refine Z.lmul hX dX6_at_71 ?_
          refine Z.aload_n hX dX6_at_72 rfl rfl ?_
          refine Z.getf hX 6 0 7 dX6_at_73 rfl rfl inX6 (by decide) fl_X6_50 rfl rfl ?_
          refine Z.iconst hX dX6_at_76 ?_
          refine Z.laload hX 8 1 dX6_at_77 rfl rfl (by omega) (by omega) (by decide) ?_
          refine Z.iload hX dX6_at_78 rfl ?_
          refine Z.i2l hX dX6_at_80 ⟨by omega, by omega⟩ ?_
          refine Z.lmul hX dX6_at_81 ?_
          refine Z.lcmp_ne hX 90 dX6_at_82 dX6_at_83 (by decide) ?_ ?_
          · intro c9
            refine Z.iconst hX dX6_at_90 ?_
            refine Z.pick [0] rfl ?_
            exact key_91 _ (Or.inr ⟨rfl, fun q => by rw [← s0, ← s1, ← s2] at q; first | exact q.1 (by assumption) | exact absurd q.2.1 (by assumption) | exact absurd q.2.2 (by assumption)⟩)
          · intro c9
            refine Z.iconst hX dX6_at_86 ?_
            refine Z.goto hX 91 dX6_at_87 (by decide) ?_
            refine Z.pick [0] rfl ?_
            exact key_91 _ (Or.inl ⟨rfl, by rw [← s2]; assumption, by rw [← s0, ← s2]; assumption, by rw [← s1, ← s2]; assumption⟩)
    · intro c4
      refine Z.bipush hX dX6_at_19 (by decide) ?_
      exact hR _ _ _ _ dX6_at_21 ⟨(-9), G, L, B, J, rfl, rfl, hok, (fun _ _ => rfl), (fun _ => rfl), (fun q => by omega), hfi, hli, hle⟩

set_option maxHeartbeats 4000000 in
set_option maxRecDepth 100000 in
theorem ct_X6_trace_xyz (l : Launch) (D : va_G) (ce : Nat → ClassId) (h pl ar : Nat → Nat) (G : Nat → Int) (L : Nat → Nat → Int64) (B : Nat → Int) (J : Nat → Nat → Int64) (sort : Int) (hok : cOK G B) (hbl : bL L) (hfi : FI G L) (hs : -2147483648 ≤ sort ∧ sort < 2147483648) (hli : LI G L) (hle : LIe G L) : Ct l yX6_trace cX6_trace 3 (some .int) { frames := 6, cells := 0, slots := 0, locals := 162 } 0 0 D (TY ce) [.ref (h 0), .int (zI sort)] (cW ce h pl ar G L B J) (QI D (TY ce) (fun r w1 => ∃ z : Int, ∃ G2 : Nat → Int, ∃ L2 : Nat → Nat → Int64, ∃ B2 : Nat → Int, ∃ J2 : Nat → Nat → Int64, r = zI z ∧ w1 = cW ce h pl ar G2 L2 B2 J2 ∧ (cOK G2 B2) ∧ (∀ k, k < 3 → L2 k = L k) ∧ (¬ (sort = 0 ∨ sort = 1) → z = -1) ∧ (FI G2 L2) ∧ (LI G2 L2) ∧ (LIe G2 L2))) := by
  refine Ct.ofI (by decide) (Nat.le_of_ble_eq_true rfl) ?_
  intro p e s m args below meth c A Q hX hnm hR
  refine Z.pick (lv' := [(0, .ref (h 0)), (1, .int (zI sort))]) [0, 1] rfl ?_
  obtain ⟨hB, hg0, hg2, hg3, hg5, hg6, hg1, hg4⟩ := id hok
  unfold bl at hg0 hg2 hg3 hg5 hg6
  refine Z.iload_n hX dX6_trace_0 rfl rfl ?_
  refine Z.callS0i (As := [.int (zI sort)]) (rest := []) hX (ct_X6_isSort l D ce sort (by omega)) mc_X6_isSort ml_X6_99 st_X6_isSort ini_X6 nd_X6_isSort ⟨Nat.le_of_ble_eq_true rfl, Nat.le_of_ble_eq_true rfl⟩ ⟨rfl, rfl⟩ ⟨Nat.le_refl _, Nat.le_refl _⟩ rfl (Nat.le_of_ble_eq_true rfl) dX6_trace_1 ?_
  rintro r_1 w1 ⟨z1, hr_, hw_, p1⟩
  subst hr_
  refine ⟨hw_, ?_⟩
  refine Z.if_ne hX 9 dX6_trace_4 (by decide) ⟨by omega, by omega⟩ ?_ ?_
  · intro c2
    rcases (show sort = 0 ∨ sort = 1 by omega) with rfl | rfl
    · skip
      refine Z.aload_n hX dX6_trace_9 rfl rfl ?_
      refine Z.iload_n hX dX6_trace_10 rfl rfl ?_
      refine Z.callVfr (As := [.int (zI 0)]) (rest := []) hX 6 0 rfl rfl (ct_X6_curveOf_lxyz l D ce h pl ar G L B J hok hbl hfi hli hle) mc_X6_curveOf ml_X6_102 im_X6_curveOf se_X6_curveOf ini_X6 nd_X6_curveOf ⟨Nat.le_of_ble_eq_true rfl, Nat.le_of_ble_eq_true rfl⟩ ⟨rfl, rfl⟩ ⟨Nat.le_refl _, Nat.le_refl _⟩ rfl (Nat.le_of_ble_eq_true rfl) dX6_trace_11 ?_
      rintro r_3 w1 ⟨Gc, Lc, Bc, Jc, hr_, hw_, cv1, cv2, cv3, cv4, cv5, cv6⟩
      subst hr_
      subst hw_
      obtain ⟨dB, dg0, dg2, dg3, dg5, dg6, dg1, dg4⟩ := id cv1
      unfold bl at dg0 dg2 dg3 dg5 dg6
      have dB40 := dB 40 (by decide)
      have dB41 := dB 41 (by decide)
      refine Z.astore_n (lv' := [(2, .ref (h 6)), (0, .ref (h 0)), (1, .int (zI 0))]) hX dX6_trace_14 rfl (by decide) rfl ?_
      refine Z.aload_n hX dX6_trace_15 rfl rfl ?_
      refine Z.getf hX 0 6 3 dX6_trace_16 rfl rfl inX0 (by decide) fl_X6_106 rfl rfl ?_
      refine Z.if_eq hX 32 dX6_trace_19 (by decide) ⟨by omega, by omega⟩ ?_ ?_
      · intro c4
        refine Z.bipush hX dX6_trace_32 (by decide) ?_
        exact hR _ _ _ _ dX6_trace_34 ⟨(-2), Gc, Lc, Bc, Jc, rfl, rfl, cv1, cv2, (fun q => absurd (by decide) q), cv3, (by first | exact cv4 | exact cv4.1), (by first | exact cv6 | exact cv5)⟩
      · intro c4
        refine Z.aload_n hX dX6_trace_22 rfl rfl ?_
        refine Z.getf hX 0 6 0 dX6_trace_23 rfl rfl inX0 (by decide) fl_X6_109 rfl rfl ?_
        refine Z.getf hX 3 (24 + 40) 1 dX6_trace_26 (cW_pl (by decide)) rfl inX3 (by decide) fl_X6_113 rfl rfl ?_
        refine Z.goto hX 34 dX6_trace_29 (by decide) ?_
        exact hR _ _ _ _ dX6_trace_34 ⟨(Bc 40), Gc, Lc, Bc, Jc, rfl, rfl, cv1, cv2, (fun q => absurd (by decide) q), cv3, (by first | exact cv4 | exact cv4.1), (by first | exact cv6 | exact cv5)⟩
    · skip
      refine Z.aload_n hX dX6_trace_9 rfl rfl ?_
      refine Z.iload_n hX dX6_trace_10 rfl rfl ?_
      refine Z.callVfr (As := [.int (zI 1)]) (rest := []) hX 6 0 rfl rfl (ct_X6_curveOf_exyz l D ce h pl ar G L B J hok hbl hfi hli hle) mc_X6_curveOf ml_X6_102 im_X6_curveOf se_X6_curveOf ini_X6 nd_X6_curveOf ⟨Nat.le_of_ble_eq_true rfl, Nat.le_of_ble_eq_true rfl⟩ ⟨rfl, rfl⟩ ⟨Nat.le_refl _, Nat.le_refl _⟩ rfl (Nat.le_of_ble_eq_true rfl) dX6_trace_11 ?_
      rintro r_5 w1 ⟨Gc, Lc, Bc, Jc, hr_, hw_, cv1, cv2, cv3, cv4, cv5, cv6⟩
      subst hr_
      subst hw_
      obtain ⟨dB, dg0, dg2, dg3, dg5, dg6, dg1, dg4⟩ := id cv1
      unfold bl at dg0 dg2 dg3 dg5 dg6
      have dB40 := dB 40 (by decide)
      have dB41 := dB 41 (by decide)
      refine Z.astore_n (lv' := [(2, .ref (h 7)), (0, .ref (h 0)), (1, .int (zI 1))]) hX dX6_trace_14 rfl (by decide) rfl ?_
      refine Z.aload_n hX dX6_trace_15 rfl rfl ?_
      refine Z.getf hX 0 7 3 dX6_trace_16 rfl rfl inX0 (by decide) fl_X6_106 rfl rfl ?_
      refine Z.if_eq hX 32 dX6_trace_19 (by decide) ⟨by omega, by omega⟩ ?_ ?_
      · intro c6
        refine Z.bipush hX dX6_trace_32 (by decide) ?_
        exact hR _ _ _ _ dX6_trace_34 ⟨(-2), Gc, Lc, Bc, Jc, rfl, rfl, cv1, cv2, (fun q => absurd (by decide) q), cv3, (by first | exact cv4 | exact cv4.1), (by first | exact cv6 | exact cv5)⟩
      · intro c6
        refine Z.aload_n hX dX6_trace_22 rfl rfl ?_
        refine Z.getf hX 0 7 0 dX6_trace_23 rfl rfl inX0 (by decide) fl_X6_109 rfl rfl ?_
        refine Z.getf hX 3 (24 + 41) 1 dX6_trace_26 (cW_pl (by decide)) rfl inX3 (by decide) fl_X6_113 rfl rfl ?_
        refine Z.goto hX 34 dX6_trace_29 (by decide) ?_
        exact hR _ _ _ _ dX6_trace_34 ⟨(Bc 41), Gc, Lc, Bc, Jc, rfl, rfl, cv1, cv2, (fun q => absurd (by decide) q), cv3, (by first | exact cv4 | exact cv4.1), (by first | exact cv6 | exact cv5)⟩
  · intro c2
    refine Z.iconst hX dX6_trace_7 ?_
    exact hR _ _ _ _ dX6_trace_8 ⟨(-1), G, L, B, J, rfl, rfl, hok, (fun _ _ => rfl), (fun _ => rfl), hfi, hli, hle⟩

set_option maxHeartbeats 4000000 in
set_option maxRecDepth 100000 in
theorem ct_X6_times_xyz (l : Launch) (D : va_G) (ce : Nat → ClassId) (h pl ar : Nat → Nat) (G : Nat → Int) (L : Nat → Nat → Int64) (B : Nat → Int) (J : Nat → Nat → Int64) (sort : Int) (hok : cOK G B) (hbl : bL L) (hfi : FI G L) (hs : -2147483648 ≤ sort ∧ sort < 2147483648) (hli : LI G L) (hle : LIe G L) : Ct l yX6_times cX6_times 3 (some .int) { frames := 6, cells := 0, slots := 0, locals := 162 } 0 0 D (TY ce) [.ref (h 0), .int (zI sort)] (cW ce h pl ar G L B J) (QI D (TY ce) (fun r w1 => ∃ z : Int, ∃ G2 : Nat → Int, ∃ L2 : Nat → Nat → Int64, ∃ B2 : Nat → Int, ∃ J2 : Nat → Nat → Int64, r = zI z ∧ w1 = cW ce h pl ar G2 L2 B2 J2 ∧ (cOK G2 B2) ∧ (∀ k, k < 3 → L2 k = L k) ∧ (¬ (sort = 0 ∨ sort = 1) → z = -1) ∧ (FI G2 L2) ∧ (LI G2 L2) ∧ (LIe G2 L2))) := by
  refine Ct.ofI (by decide) (Nat.le_of_ble_eq_true rfl) ?_
  intro p e s m args below meth c A Q hX hnm hR
  refine Z.pick (lv' := [(0, .ref (h 0)), (1, .int (zI sort))]) [0, 1] rfl ?_
  obtain ⟨hB, hg0, hg2, hg3, hg5, hg6, hg1, hg4⟩ := id hok
  unfold bl at hg0 hg2 hg3 hg5 hg6
  refine Z.iload_n hX dX6_times_0 rfl rfl ?_
  refine Z.callS0i (As := [.int (zI sort)]) (rest := []) hX (ct_X6_isSort l D ce sort (by omega)) mc_X6_isSort ml_X6_99 st_X6_isSort ini_X6 nd_X6_isSort ⟨Nat.le_of_ble_eq_true rfl, Nat.le_of_ble_eq_true rfl⟩ ⟨rfl, rfl⟩ ⟨Nat.le_refl _, Nat.le_refl _⟩ rfl (Nat.le_of_ble_eq_true rfl) dX6_times_1 ?_
  rintro r_1 w1 ⟨z1, hr_, hw_, p1⟩
  subst hr_
  refine ⟨hw_, ?_⟩
  refine Z.if_ne hX 9 dX6_times_4 (by decide) ⟨by omega, by omega⟩ ?_ ?_
  · intro c2
    rcases (show sort = 0 ∨ sort = 1 by omega) with rfl | rfl
    · skip
      refine Z.aload_n hX dX6_times_9 rfl rfl ?_
      refine Z.iload_n hX dX6_times_10 rfl rfl ?_
      refine Z.callVfr (As := [.int (zI 0)]) (rest := []) hX 6 0 rfl rfl (ct_X6_curveOf_lxyz l D ce h pl ar G L B J hok hbl hfi hli hle) mc_X6_curveOf ml_X6_102 im_X6_curveOf se_X6_curveOf ini_X6 nd_X6_curveOf ⟨Nat.le_of_ble_eq_true rfl, Nat.le_of_ble_eq_true rfl⟩ ⟨rfl, rfl⟩ ⟨Nat.le_refl _, Nat.le_refl _⟩ rfl (Nat.le_of_ble_eq_true rfl) dX6_times_11 ?_
      rintro r_3 w1 ⟨Gc, Lc, Bc, Jc, hr_, hw_, cv1, cv2, cv3, cv4, cv5, cv6⟩
      subst hr_
      subst hw_
      obtain ⟨dB, dg0, dg2, dg3, dg5, dg6, dg1, dg4⟩ := id cv1
      unfold bl at dg0 dg2 dg3 dg5 dg6
      have dB40 := dB 40 (by decide)
      have dB41 := dB 41 (by decide)
      refine Z.astore_n (lv' := [(2, .ref (h 6)), (0, .ref (h 0)), (1, .int (zI 0))]) hX dX6_times_14 rfl (by decide) rfl ?_
      refine Z.aload_n hX dX6_times_15 rfl rfl ?_
      refine Z.getf hX 0 6 3 dX6_times_16 rfl rfl inX0 (by decide) fl_X6_106 rfl rfl ?_
      refine Z.if_eq hX 29 dX6_times_19 (by decide) ⟨by omega, by omega⟩ ?_ ?_
      · intro c4
        refine Z.bipush hX dX6_times_29 (by decide) ?_
        exact hR _ _ _ _ dX6_times_31 ⟨(-2), Gc, Lc, Bc, Jc, rfl, rfl, cv1, cv2, (fun q => absurd (by decide) q), cv3, (by first | exact cv4 | exact cv4.1), (by first | exact cv6 | exact cv5)⟩
      · intro c4
        refine Z.aload_n hX dX6_times_22 rfl rfl ?_
        refine Z.getf hX 0 6 1 dX6_times_23 rfl rfl inX0 (by decide) fl_X6_119 rfl rfl ?_
        refine Z.goto hX 31 dX6_times_26 (by decide) ?_
        exact hR _ _ _ _ dX6_times_31 ⟨(Gc 1), Gc, Lc, Bc, Jc, rfl, rfl, cv1, cv2, (fun q => absurd (by decide) q), cv3, (by first | exact cv4 | exact cv4.1), (by first | exact cv6 | exact cv5)⟩
    · skip
      refine Z.aload_n hX dX6_times_9 rfl rfl ?_
      refine Z.iload_n hX dX6_times_10 rfl rfl ?_
      refine Z.callVfr (As := [.int (zI 1)]) (rest := []) hX 6 0 rfl rfl (ct_X6_curveOf_exyz l D ce h pl ar G L B J hok hbl hfi hli hle) mc_X6_curveOf ml_X6_102 im_X6_curveOf se_X6_curveOf ini_X6 nd_X6_curveOf ⟨Nat.le_of_ble_eq_true rfl, Nat.le_of_ble_eq_true rfl⟩ ⟨rfl, rfl⟩ ⟨Nat.le_refl _, Nat.le_refl _⟩ rfl (Nat.le_of_ble_eq_true rfl) dX6_times_11 ?_
      rintro r_5 w1 ⟨Gc, Lc, Bc, Jc, hr_, hw_, cv1, cv2, cv3, cv4, cv5, cv6⟩
      subst hr_
      subst hw_
      obtain ⟨dB, dg0, dg2, dg3, dg5, dg6, dg1, dg4⟩ := id cv1
      unfold bl at dg0 dg2 dg3 dg5 dg6
      have dB40 := dB 40 (by decide)
      have dB41 := dB 41 (by decide)
      refine Z.astore_n (lv' := [(2, .ref (h 7)), (0, .ref (h 0)), (1, .int (zI 1))]) hX dX6_times_14 rfl (by decide) rfl ?_
      refine Z.aload_n hX dX6_times_15 rfl rfl ?_
      refine Z.getf hX 0 7 3 dX6_times_16 rfl rfl inX0 (by decide) fl_X6_106 rfl rfl ?_
      refine Z.if_eq hX 29 dX6_times_19 (by decide) ⟨by omega, by omega⟩ ?_ ?_
      · intro c6
        refine Z.bipush hX dX6_times_29 (by decide) ?_
        exact hR _ _ _ _ dX6_times_31 ⟨(-2), Gc, Lc, Bc, Jc, rfl, rfl, cv1, cv2, (fun q => absurd (by decide) q), cv3, (by first | exact cv4 | exact cv4.1), (by first | exact cv6 | exact cv5)⟩
      · intro c6
        refine Z.aload_n hX dX6_times_22 rfl rfl ?_
        refine Z.getf hX 0 7 1 dX6_times_23 rfl rfl inX0 (by decide) fl_X6_119 rfl rfl ?_
        refine Z.goto hX 31 dX6_times_26 (by decide) ?_
        exact hR _ _ _ _ dX6_times_31 ⟨(Gc 4), Gc, Lc, Bc, Jc, rfl, rfl, cv1, cv2, (fun q => absurd (by decide) q), cv3, (by first | exact cv4 | exact cv4.1), (by first | exact cv6 | exact cv5)⟩
  · intro c2
    refine Z.iconst hX dX6_times_7 ?_
    exact hR _ _ _ _ dX6_times_8 ⟨(-1), G, L, B, J, rfl, rfl, hok, (fun _ _ => rfl), (fun _ => rfl), hfi, hli, hle⟩

set_option maxHeartbeats 4000000 in
set_option maxRecDepth 100000 in
theorem ct_X6_coefficient_xyz (l : Launch) (D : va_G) (ce : Nat → ClassId) (h pl ar : Nat → Nat) (G : Nat → Int) (L : Nat → Nat → Int64) (B : Nat → Int) (J : Nat → Nat → Int64) (sort i j : Int) (hok : cOK G B) (hbl : bL L) (hfi : FI G L) (hs : -2147483648 ≤ sort ∧ sort < 2147483648) (hi : -2147483648 ≤ i ∧ i < 2147483648) (hj : -2147483648 ≤ j ∧ j < 2147483648) (hli : LI G L) (hle : LIe G L) : Ct l yX6_coefficient cX6_coefficient 5 (some .long) { frames := 6, cells := 0, slots := 0, locals := 162 } 0 0 D (TY ce) [.ref (h 0), .int (zI sort), .int (zI i), .int (zI j)] (cW ce h pl ar G L B J) (QL D (TY ce) (fun r w1 => ∃ r0 : Int64, ∃ G2 : Nat → Int, ∃ L2 : Nat → Nat → Int64, ∃ B2 : Nat → Int, ∃ J2 : Nat → Nat → Int64, r = r0 ∧ w1 = cW ce h pl ar G2 L2 B2 J2 ∧ (cOK G2 B2) ∧ (∀ k, k < 3 → L2 k = L k) ∧ (¬ ((sort = 0 ∨ sort = 1) ∧ 0 ≤ i ∧ i ≤ 6 ∧ 0 ≤ j ∧ j ≤ 6) → r0 = 0) ∧ (FI G2 L2) ∧ (LI G2 L2) ∧ (LIe G2 L2))) := by
  refine Ct.ofL (by decide) (Nat.le_of_ble_eq_true rfl) ?_
  intro p e s m args below meth c A Q hX hnm hR
  refine Z.pick (lv' := [(0, .ref (h 0)), (1, .int (zI sort)), (2, .int (zI i)), (3, .int (zI j))]) [0, 1, 2, 3] rfl ?_
  obtain ⟨hB, hg0, hg2, hg3, hg5, hg6, hg1, hg4⟩ := id hok
  unfold bl at hg0 hg2 hg3 hg5 hg6
  refine Z.iload_n hX dX6_coefficient_0 rfl rfl ?_
  refine Z.callS0i (As := [.int (zI sort)]) (rest := []) hX (ct_X6_isSort l D ce sort (by omega)) mc_X6_isSort ml_X6_99 st_X6_isSort ini_X6 nd_X6_isSort ⟨Nat.le_of_ble_eq_true rfl, Nat.le_of_ble_eq_true rfl⟩ ⟨rfl, rfl⟩ ⟨Nat.le_refl _, Nat.le_refl _⟩ rfl (Nat.le_of_ble_eq_true rfl) dX6_coefficient_1 ?_
  rintro r_1 w1 ⟨z1, hr_, hw_, p1⟩
  subst hr_
  refine ⟨hw_, ?_⟩
  refine Z.if_eq hX 27 dX6_coefficient_4 (by decide) ⟨by omega, by omega⟩ ?_ ?_
  · intro c2
    refine Z.lconst (v := 0) hX dX6_coefficient_27 rfl ?_
    exact hR _ _ _ _ dX6_coefficient_28 ⟨0, G, L, B, J, rfl, rfl, hok, (fun _ _ => rfl), (fun _ => rfl), hfi, hli, hle⟩
  · intro c2
    refine Z.iload_n hX dX6_coefficient_7 rfl rfl ?_
    refine Z.if_lt hX 27 dX6_coefficient_8 (by decide) ⟨by omega, by omega⟩ ?_ ?_
    · intro c3
      refine Z.lconst (v := 0) hX dX6_coefficient_27 rfl ?_
      exact hR _ _ _ _ dX6_coefficient_28 ⟨0, G, L, B, J, rfl, rfl, hok, (fun _ _ => rfl), (fun _ => rfl), hfi, hli, hle⟩
    · intro c3
      refine Z.iload_n hX dX6_coefficient_11 rfl rfl ?_
      refine Z.bipush hX dX6_coefficient_12 (by decide) ?_
      refine Z.icmp_gt hX 27 dX6_coefficient_14 (by decide) ⟨by omega, by omega⟩ ⟨by omega, by omega⟩ ?_ ?_
      · intro c4
        refine Z.lconst (v := 0) hX dX6_coefficient_27 rfl ?_
        exact hR _ _ _ _ dX6_coefficient_28 ⟨0, G, L, B, J, rfl, rfl, hok, (fun _ _ => rfl), (fun _ => rfl), hfi, hli, hle⟩
      · intro c4
        refine Z.iload_n hX dX6_coefficient_17 rfl rfl ?_
        refine Z.if_lt hX 27 dX6_coefficient_18 (by decide) ⟨by omega, by omega⟩ ?_ ?_
        · intro c5
          refine Z.lconst (v := 0) hX dX6_coefficient_27 rfl ?_
          exact hR _ _ _ _ dX6_coefficient_28 ⟨0, G, L, B, J, rfl, rfl, hok, (fun _ _ => rfl), (fun _ => rfl), hfi, hli, hle⟩
        · intro c5
          refine Z.iload_n hX dX6_coefficient_21 rfl rfl ?_
          refine Z.bipush hX dX6_coefficient_22 (by decide) ?_
          refine Z.icmp_le hX 29 dX6_coefficient_24 (by decide) ⟨by omega, by omega⟩ ⟨by omega, by omega⟩ ?_ ?_
          · intro c6
            rcases (show sort = 0 ∨ sort = 1 by omega) with rfl | rfl
            · skip
              refine Z.aload_n hX dX6_coefficient_29 rfl rfl ?_
              refine Z.iload_n hX dX6_coefficient_30 rfl rfl ?_
              refine Z.callVfr (As := [.int (zI 0)]) (rest := []) hX 6 0 rfl rfl (ct_X6_curveOf_lxyz l D ce h pl ar G L B J hok hbl hfi hli hle) mc_X6_curveOf ml_X6_102 im_X6_curveOf se_X6_curveOf ini_X6 nd_X6_curveOf ⟨Nat.le_of_ble_eq_true rfl, Nat.le_of_ble_eq_true rfl⟩ ⟨rfl, rfl⟩ ⟨Nat.le_refl _, Nat.le_refl _⟩ rfl (Nat.le_of_ble_eq_true rfl) dX6_coefficient_31 ?_
              rintro r_7 w1 ⟨Gc, Lc, Bc, Jc, hr_, hw_, cv1, cv2, cv3, cv4, cv5, cv6⟩
              subst hr_
              subst hw_
              obtain ⟨dB, dg0, dg2, dg3, dg5, dg6, dg1, dg4⟩ := id cv1
              unfold bl at dg0 dg2 dg3 dg5 dg6
              refine Z.astore (lv' := [(4, .ref (h 6)), (0, .ref (h 0)), (1, .int (zI 0)), (2, .int (zI i)), (3, .int (zI j))]) hX dX6_coefficient_34 (by decide) rfl ?_
              refine Z.aload hX dX6_coefficient_36 rfl ?_
              refine Z.getf hX 0 6 3 dX6_coefficient_38 rfl rfl inX0 (by decide) fl_X6_106 rfl rfl ?_
              refine Z.if_eq hX 71 dX6_coefficient_41 (by decide) ⟨by omega, by omega⟩ ?_ ?_
              · intro c8
                refine Z.lconst (v := 0) hX dX6_coefficient_71 rfl ?_
                exact hR _ _ _ _ dX6_coefficient_72 ⟨0, Gc, Lc, Bc, Jc, rfl, rfl, cv1, cv2, (fun q => absurd (by omega) q), cv3, (by first | exact cv4 | exact cv4.1), (by first | exact cv6 | exact cv5)⟩
              · intro c8
                refine Z.iload_n hX dX6_coefficient_44 rfl rfl ?_
                refine Z.iload_n hX dX6_coefficient_45 rfl rfl ?_
                refine Z.iadd hX dX6_coefficient_46 ?_
                refine Z.bipush hX dX6_coefficient_47 (by decide) ?_
                refine Z.icmp_gt hX 71 dX6_coefficient_49 (by decide) ⟨by omega, by omega⟩ ⟨by omega, by omega⟩ ?_ ?_
                · intro c9
                  refine Z.lconst (v := 0) hX dX6_coefficient_71 rfl ?_
                  exact hR _ _ _ _ dX6_coefficient_72 ⟨0, Gc, Lc, Bc, Jc, rfl, rfl, cv1, cv2, (fun q => absurd (by omega) q), cv3, (by first | exact cv4 | exact cv4.1), (by first | exact cv6 | exact cv5)⟩
                · intro c9
                  refine Z.aload hX dX6_coefficient_52 rfl ?_
                  refine Z.getf hX 0 6 0 dX6_coefficient_54 rfl rfl inX0 (by decide) fl_X6_109 rfl rfl ?_
                  refine Z.getf hX 3 (24 + 40) 0 dX6_coefficient_57 (cW_pl (by decide)) rfl inX3 (by decide) fl_X6_122 rfl rfl ?_
                  refine Z.iload_n hX dX6_coefficient_60 rfl rfl ?_
                  refine Z.iload_n hX dX6_coefficient_61 rfl rfl ?_
                  refine Z.iadd hX dX6_coefficient_62 ?_
                  refine Z.iload_n hX dX6_coefficient_63 rfl rfl ?_
                  refine Z.callS0i (As := [.int (zI (i + j)), .int (zI j)]) (rest := [.ref (ar 40)]) hX (ct_X6_slotOf l D ce (i + j) j (by omega) (by omega)) mc_X6_slotOf ml_X6_125 st_X6_slotOf ini_X6 nd_X6_slotOf ⟨Nat.le_of_ble_eq_true rfl, Nat.le_of_ble_eq_true rfl⟩ ⟨rfl, rfl⟩ ⟨Nat.le_refl _, Nat.le_refl _⟩ rfl (Nat.le_of_ble_eq_true rfl) dX6_coefficient_64 ?_
                  rintro r_10 w1 ⟨z11, hr_, hw_, hq12, hq13⟩
                  subst hr_
                  refine ⟨hw_, ?_⟩
                  refine Z.laload hX (66 + 40) 1 dX6_coefficient_67 (cW_ar (by decide)) rfl (by omega) (by omega) (by decide) ?_
                  refine Z.goto hX 72 dX6_coefficient_68 (by decide) ?_
                  exact hR _ _ _ _ dX6_coefficient_72 ⟨(Jc 40 (z11 : Int).toNat), Gc, Lc, Bc, Jc, rfl, rfl, cv1, cv2, (fun q => absurd (by omega) q), cv3, (by first | exact cv4 | exact cv4.1), (by first | exact cv6 | exact cv5)⟩
            · skip
              refine Z.aload_n hX dX6_coefficient_29 rfl rfl ?_
              refine Z.iload_n hX dX6_coefficient_30 rfl rfl ?_
              refine Z.callVfr (As := [.int (zI 1)]) (rest := []) hX 6 0 rfl rfl (ct_X6_curveOf_exyz l D ce h pl ar G L B J hok hbl hfi hli hle) mc_X6_curveOf ml_X6_102 im_X6_curveOf se_X6_curveOf ini_X6 nd_X6_curveOf ⟨Nat.le_of_ble_eq_true rfl, Nat.le_of_ble_eq_true rfl⟩ ⟨rfl, rfl⟩ ⟨Nat.le_refl _, Nat.le_refl _⟩ rfl (Nat.le_of_ble_eq_true rfl) dX6_coefficient_31 ?_
              rintro r_14 w1 ⟨Gc, Lc, Bc, Jc, hr_, hw_, cv1, cv2, cv3, cv4, cv5, cv6⟩
              subst hr_
              subst hw_
              obtain ⟨dB, dg0, dg2, dg3, dg5, dg6, dg1, dg4⟩ := id cv1
              unfold bl at dg0 dg2 dg3 dg5 dg6
              refine Z.astore (lv' := [(4, .ref (h 7)), (0, .ref (h 0)), (1, .int (zI 1)), (2, .int (zI i)), (3, .int (zI j))]) hX dX6_coefficient_34 (by decide) rfl ?_
              refine Z.aload hX dX6_coefficient_36 rfl ?_
              refine Z.getf hX 0 7 3 dX6_coefficient_38 rfl rfl inX0 (by decide) fl_X6_106 rfl rfl ?_
              refine Z.if_eq hX 71 dX6_coefficient_41 (by decide) ⟨by omega, by omega⟩ ?_ ?_
              · intro c15
                refine Z.lconst (v := 0) hX dX6_coefficient_71 rfl ?_
                exact hR _ _ _ _ dX6_coefficient_72 ⟨0, Gc, Lc, Bc, Jc, rfl, rfl, cv1, cv2, (fun q => absurd (by omega) q), cv3, (by first | exact cv4 | exact cv4.1), (by first | exact cv6 | exact cv5)⟩
              · intro c15
                refine Z.iload_n hX dX6_coefficient_44 rfl rfl ?_
                refine Z.iload_n hX dX6_coefficient_45 rfl rfl ?_
                refine Z.iadd hX dX6_coefficient_46 ?_
                refine Z.bipush hX dX6_coefficient_47 (by decide) ?_
                refine Z.icmp_gt hX 71 dX6_coefficient_49 (by decide) ⟨by omega, by omega⟩ ⟨by omega, by omega⟩ ?_ ?_
                · intro c16
                  refine Z.lconst (v := 0) hX dX6_coefficient_71 rfl ?_
                  exact hR _ _ _ _ dX6_coefficient_72 ⟨0, Gc, Lc, Bc, Jc, rfl, rfl, cv1, cv2, (fun q => absurd (by omega) q), cv3, (by first | exact cv4 | exact cv4.1), (by first | exact cv6 | exact cv5)⟩
                · intro c16
                  refine Z.aload hX dX6_coefficient_52 rfl ?_
                  refine Z.getf hX 0 7 0 dX6_coefficient_54 rfl rfl inX0 (by decide) fl_X6_109 rfl rfl ?_
                  refine Z.getf hX 3 (24 + 41) 0 dX6_coefficient_57 (cW_pl (by decide)) rfl inX3 (by decide) fl_X6_122 rfl rfl ?_
                  refine Z.iload_n hX dX6_coefficient_60 rfl rfl ?_
                  refine Z.iload_n hX dX6_coefficient_61 rfl rfl ?_
                  refine Z.iadd hX dX6_coefficient_62 ?_
                  refine Z.iload_n hX dX6_coefficient_63 rfl rfl ?_
                  refine Z.callS0i (As := [.int (zI (i + j)), .int (zI j)]) (rest := [.ref (ar 41)]) hX (ct_X6_slotOf l D ce (i + j) j (by omega) (by omega)) mc_X6_slotOf ml_X6_125 st_X6_slotOf ini_X6 nd_X6_slotOf ⟨Nat.le_of_ble_eq_true rfl, Nat.le_of_ble_eq_true rfl⟩ ⟨rfl, rfl⟩ ⟨Nat.le_refl _, Nat.le_refl _⟩ rfl (Nat.le_of_ble_eq_true rfl) dX6_coefficient_64 ?_
                  rintro r_17 w1 ⟨z18, hr_, hw_, hq19, hq20⟩
                  subst hr_
                  refine ⟨hw_, ?_⟩
                  refine Z.laload hX (66 + 41) 1 dX6_coefficient_67 (cW_ar (by decide)) rfl (by omega) (by omega) (by decide) ?_
                  refine Z.goto hX 72 dX6_coefficient_68 (by decide) ?_
                  exact hR _ _ _ _ dX6_coefficient_72 ⟨(Jc 41 (z18 : Int).toNat), Gc, Lc, Bc, Jc, rfl, rfl, cv1, cv2, (fun q => absurd (by omega) q), cv3, (by first | exact cv4 | exact cv4.1), (by first | exact cv6 | exact cv5)⟩
          · intro c6
            refine Z.lconst (v := 0) hX dX6_coefficient_27 rfl ?_
            exact hR _ _ _ _ dX6_coefficient_28 ⟨0, G, L, B, J, rfl, rfl, hok, (fun _ _ => rfl), (fun _ => rfl), hfi, hli, hle⟩

set_option maxHeartbeats 4000000 in
set_option maxRecDepth 100000 in
theorem ct_X6_side_xyz (l : Launch) (D : va_G) (ce : Nat → ClassId) (h pl ar : Nat → Nat) (G : Nat → Int) (L : Nat → Nat → Int64) (B : Nat → Int) (J : Nat → Nat → Int64) (sort pp qq ss : Int) (hok : cOK G B) (hbl : bL L) (hfi : FI G L) (hs : -2147483648 ≤ sort ∧ sort < 2147483648) (hp : -2147483648 ≤ pp ∧ pp < 2147483648) (hq : -2147483648 ≤ qq ∧ qq < 2147483648) (hss : -2147483648 ≤ ss ∧ ss < 2147483648) (hli : LI G L) (hle : LIe G L) : Ct l yX6_side cX6_side 8 (some .int) { frames := 6, cells := 0, slots := 0, locals := 162 } 0 0 D (TY ce) [.ref (h 0), .int (zI sort), .int (zI pp), .int (zI qq), .int (zI ss)] (cW ce h pl ar G L B J) (QI D (TY ce) (fun r w1 => ∃ z : Int, ∃ G2 : Nat → Int, ∃ L2 : Nat → Nat → Int64, ∃ B2 : Nat → Int, ∃ J2 : Nat → Nat → Int64, r = zI z ∧ w1 = cW ce h pl ar G2 L2 B2 J2 ∧ (cOK G2 B2) ∧ (∀ k, k < 3 → L2 k = L k) ∧ (¬ ((sort = 0 ∨ sort = 1) ∧ (-20 ≤ pp ∧ pp ≤ 20 ∧ -20 ≤ qq ∧ qq ≤ 20 ∧ 1 ≤ ss ∧ ss ≤ 9)) → z = -9) ∧ (FI G2 L2) ∧ (LI G2 L2) ∧ (LIe G2 L2))) := by
  refine Ct.ofI (by decide) (Nat.le_of_ble_eq_true rfl) ?_
  intro p e s m args below meth c A Q hX hnm hR
  refine Z.pick (lv' := [(0, .ref (h 0)), (1, .int (zI sort)), (2, .int (zI pp)), (3, .int (zI qq)), (4, .int (zI ss))]) [0, 1, 2, 3, 4] rfl ?_
  obtain ⟨hB, hg0, hg2, hg3, hg5, hg6, hg1, hg4⟩ := id hok
  unfold bl at hg0 hg2 hg3 hg5 hg6
  refine Z.iload_n hX dX6_side_0 rfl rfl ?_
  refine Z.callS0i (As := [.int (zI sort)]) (rest := []) hX (ct_X6_isSort l D ce sort (by omega)) mc_X6_isSort ml_X6_99 st_X6_isSort ini_X6 nd_X6_isSort ⟨Nat.le_of_ble_eq_true rfl, Nat.le_of_ble_eq_true rfl⟩ ⟨rfl, rfl⟩ ⟨Nat.le_refl _, Nat.le_refl _⟩ rfl (Nat.le_of_ble_eq_true rfl) dX6_side_1 ?_
  rintro r_1 w1 ⟨z1, hr_, hw_, p1⟩
  subst hr_
  refine ⟨hw_, ?_⟩
  refine Z.if_eq hX 17 dX6_side_4 (by decide) ⟨by omega, by omega⟩ ?_ ?_
  · intro c2
    refine Z.bipush hX dX6_side_17 (by decide) ?_
    exact hR _ _ _ _ dX6_side_19 ⟨(-9), G, L, B, J, rfl, rfl, hok, (fun _ _ => rfl), (fun _ => rfl), hfi, hli, hle⟩
  · intro c2
    refine Z.iload_n hX dX6_side_7 rfl rfl ?_
    refine Z.iload_n hX dX6_side_8 rfl rfl ?_
    refine Z.iload hX dX6_side_9 rfl ?_
    refine Z.callS0i (As := [.int (zI pp), .int (zI qq), .int (zI ss)]) (rest := []) hX (ct_X6_isPlace l D ce pp qq ss (by omega) (by omega) (by omega)) mc_X6_isPlace ml_X6_129 st_X6_isPlace ini_X6 nd_X6_isPlace ⟨Nat.le_of_ble_eq_true rfl, Nat.le_of_ble_eq_true rfl⟩ ⟨rfl, rfl⟩ ⟨Nat.le_refl _, Nat.le_refl _⟩ rfl (Nat.le_of_ble_eq_true rfl) dX6_side_11 ?_
    rintro r_3 w1 ⟨z2, hr_, hw_, p2⟩
    subst hr_
    refine ⟨hw_, ?_⟩
    refine Z.if_ne hX 20 dX6_side_14 (by decide) ⟨by omega, by omega⟩ ?_ ?_
    · intro c4
      rcases (show sort = 0 ∨ sort = 1 by omega) with rfl | rfl
      · skip
        refine Z.aload_n hX dX6_side_20 rfl rfl ?_
        refine Z.iload_n hX dX6_side_21 rfl rfl ?_
        refine Z.callVfr (As := [.int (zI 0)]) (rest := []) hX 6 0 rfl rfl (ct_X6_curveOf_lxyz l D ce h pl ar G L B J hok hbl hfi hli hle) mc_X6_curveOf ml_X6_102 im_X6_curveOf se_X6_curveOf ini_X6 nd_X6_curveOf ⟨Nat.le_of_ble_eq_true rfl, Nat.le_of_ble_eq_true rfl⟩ ⟨rfl, rfl⟩ ⟨Nat.le_refl _, Nat.le_refl _⟩ rfl (Nat.le_of_ble_eq_true rfl) dX6_side_22 ?_
        rintro r_5 w1 ⟨Gc, Lc, Bc, Jc, hr_, hw_, cv1, cv2, cv3, cv4, cv5, cv6⟩
        subst hr_
        subst hw_
        obtain ⟨dB, dg0, dg2, dg3, dg5, dg6, dg1, dg4⟩ := id cv1
        unfold bl at dg0 dg2 dg3 dg5 dg6
        refine Z.astore (lv' := [(5, .ref (h 6)), (0, .ref (h 0)), (1, .int (zI 0)), (2, .int (zI pp)), (3, .int (zI qq)), (4, .int (zI ss))]) hX dX6_side_25 (by decide) rfl ?_
        refine Z.aload hX dX6_side_27 rfl ?_
        refine Z.getf hX 0 6 3 dX6_side_29 rfl rfl inX0 (by decide) fl_X6_106 rfl rfl ?_
        refine Z.if_ne hX 38 dX6_side_32 (by decide) ⟨by omega, by omega⟩ ?_ ?_
        · intro c6
          refine Z.aload hX dX6_side_38 rfl ?_
          refine Z.getf hX 0 6 0 dX6_side_40 rfl rfl inX0 (by decide) fl_X6_109 rfl rfl ?_
          refine Z.iload_n hX dX6_side_43 rfl rfl ?_
          refine Z.i2l hX dX6_side_44 ⟨by omega, by omega⟩ ?_
          refine Z.iload_n hX dX6_side_45 rfl rfl ?_
          refine Z.i2l hX dX6_side_46 ⟨by omega, by omega⟩ ?_
          refine Z.iload hX dX6_side_47 rfl ?_
          refine Z.i2l hX dX6_side_49 ⟨by omega, by omega⟩ ?_
          refine Z.callVfl (As := [.long (zL pp), .long (zL qq), .long (zL ss)]) (rest := []) hX 3 (24 + 40) rfl (cW_pl (by decide)) (ct_X3_scaledValue l D ce h pl ar Gc Lc Bc Jc 40 (zL pp) (zL qq) (zL ss) (by decide) dB) mc_X3_scaledValue ml_X6_133 im_X3_scaledValue se_X3_scaledValue ini_X3 nd_X3_scaledValue ⟨Nat.le_of_ble_eq_true rfl, Nat.le_of_ble_eq_true rfl⟩ ⟨rfl, rfl⟩ ⟨Nat.le_refl _, Nat.le_refl _⟩ rfl (Nat.le_of_ble_eq_true rfl) dX6_side_50 ?_
          rintro r_7 w1 ⟨r08, hr_, hw_⟩
          subst hr_
          subst hw_
          refine Z.lstore (lv' := [(6, .long r_7), (5, .ref (h 6)), (0, .ref (h 0)), (1, .int (zI 0)), (2, .int (zI pp)), (3, .int (zI qq)), (4, .int (zI ss))]) hX dX6_side_53 (by decide) rfl ?_
          refine Z.lload hX dX6_side_55 rfl ?_
          refine Z.lconst (v := 0) hX dX6_side_57 rfl ?_
          refine Z.lcmp_ge hX 66 dX6_side_58 dX6_side_59 (by decide) ?_ ?_
          · intro c9
            refine Z.lload hX dX6_side_66 rfl ?_
            refine Z.lconst (v := 0) hX dX6_side_68 rfl ?_
            refine Z.lcmp_le hX 77 dX6_side_69 dX6_side_70 (by decide) ?_ ?_
            · intro c10
              refine Z.iconst hX dX6_side_77 ?_
              exact hR _ _ _ _ dX6_side_78 ⟨0, Gc, Lc, Bc, Jc, rfl, rfl, cv1, cv2, (fun q => absurd (by omega) q), cv3, (by first | exact cv4 | exact cv4.1), (by first | exact cv6 | exact cv5)⟩
            · intro c10
              refine Z.iconst hX dX6_side_73 ?_
              refine Z.goto hX 78 dX6_side_74 (by decide) ?_
              exact hR _ _ _ _ dX6_side_78 ⟨1, Gc, Lc, Bc, Jc, rfl, rfl, cv1, cv2, (fun q => absurd (by omega) q), cv3, (by first | exact cv4 | exact cv4.1), (by first | exact cv6 | exact cv5)⟩
          · intro c9
            refine Z.iconst hX dX6_side_62 ?_
            refine Z.goto hX 78 dX6_side_63 (by decide) ?_
            exact hR _ _ _ _ dX6_side_78 ⟨(-1), Gc, Lc, Bc, Jc, rfl, rfl, cv1, cv2, (fun q => absurd (by omega) q), cv3, (by first | exact cv4 | exact cv4.1), (by first | exact cv6 | exact cv5)⟩
        · intro c6
          refine Z.bipush hX dX6_side_35 (by decide) ?_
          exact hR _ _ _ _ dX6_side_37 ⟨(-8), Gc, Lc, Bc, Jc, rfl, rfl, cv1, cv2, (fun q => absurd (by omega) q), cv3, (by first | exact cv4 | exact cv4.1), (by first | exact cv6 | exact cv5)⟩
      · skip
        refine Z.aload_n hX dX6_side_20 rfl rfl ?_
        refine Z.iload_n hX dX6_side_21 rfl rfl ?_
        refine Z.callVfr (As := [.int (zI 1)]) (rest := []) hX 6 0 rfl rfl (ct_X6_curveOf_exyz l D ce h pl ar G L B J hok hbl hfi hli hle) mc_X6_curveOf ml_X6_102 im_X6_curveOf se_X6_curveOf ini_X6 nd_X6_curveOf ⟨Nat.le_of_ble_eq_true rfl, Nat.le_of_ble_eq_true rfl⟩ ⟨rfl, rfl⟩ ⟨Nat.le_refl _, Nat.le_refl _⟩ rfl (Nat.le_of_ble_eq_true rfl) dX6_side_22 ?_
        rintro r_11 w1 ⟨Gc, Lc, Bc, Jc, hr_, hw_, cv1, cv2, cv3, cv4, cv5, cv6⟩
        subst hr_
        subst hw_
        obtain ⟨dB, dg0, dg2, dg3, dg5, dg6, dg1, dg4⟩ := id cv1
        unfold bl at dg0 dg2 dg3 dg5 dg6
        refine Z.astore (lv' := [(5, .ref (h 7)), (0, .ref (h 0)), (1, .int (zI 1)), (2, .int (zI pp)), (3, .int (zI qq)), (4, .int (zI ss))]) hX dX6_side_25 (by decide) rfl ?_
        refine Z.aload hX dX6_side_27 rfl ?_
        refine Z.getf hX 0 7 3 dX6_side_29 rfl rfl inX0 (by decide) fl_X6_106 rfl rfl ?_
        refine Z.if_ne hX 38 dX6_side_32 (by decide) ⟨by omega, by omega⟩ ?_ ?_
        · intro c12
          refine Z.aload hX dX6_side_38 rfl ?_
          refine Z.getf hX 0 7 0 dX6_side_40 rfl rfl inX0 (by decide) fl_X6_109 rfl rfl ?_
          refine Z.iload_n hX dX6_side_43 rfl rfl ?_
          refine Z.i2l hX dX6_side_44 ⟨by omega, by omega⟩ ?_
          refine Z.iload_n hX dX6_side_45 rfl rfl ?_
          refine Z.i2l hX dX6_side_46 ⟨by omega, by omega⟩ ?_
          refine Z.iload hX dX6_side_47 rfl ?_
          refine Z.i2l hX dX6_side_49 ⟨by omega, by omega⟩ ?_
          refine Z.callVfl (As := [.long (zL pp), .long (zL qq), .long (zL ss)]) (rest := []) hX 3 (24 + 41) rfl (cW_pl (by decide)) (ct_X3_scaledValue l D ce h pl ar Gc Lc Bc Jc 41 (zL pp) (zL qq) (zL ss) (by decide) dB) mc_X3_scaledValue ml_X6_133 im_X3_scaledValue se_X3_scaledValue ini_X3 nd_X3_scaledValue ⟨Nat.le_of_ble_eq_true rfl, Nat.le_of_ble_eq_true rfl⟩ ⟨rfl, rfl⟩ ⟨Nat.le_refl _, Nat.le_refl _⟩ rfl (Nat.le_of_ble_eq_true rfl) dX6_side_50 ?_
          rintro r_13 w1 ⟨r014, hr_, hw_⟩
          subst hr_
          subst hw_
          refine Z.lstore (lv' := [(6, .long r_13), (5, .ref (h 7)), (0, .ref (h 0)), (1, .int (zI 1)), (2, .int (zI pp)), (3, .int (zI qq)), (4, .int (zI ss))]) hX dX6_side_53 (by decide) rfl ?_
          refine Z.lload hX dX6_side_55 rfl ?_
          refine Z.lconst (v := 0) hX dX6_side_57 rfl ?_
          refine Z.lcmp_ge hX 66 dX6_side_58 dX6_side_59 (by decide) ?_ ?_
          · intro c15
            refine Z.lload hX dX6_side_66 rfl ?_
            refine Z.lconst (v := 0) hX dX6_side_68 rfl ?_
            refine Z.lcmp_le hX 77 dX6_side_69 dX6_side_70 (by decide) ?_ ?_
            · intro c16
              refine Z.iconst hX dX6_side_77 ?_
              exact hR _ _ _ _ dX6_side_78 ⟨0, Gc, Lc, Bc, Jc, rfl, rfl, cv1, cv2, (fun q => absurd (by omega) q), cv3, (by first | exact cv4 | exact cv4.1), (by first | exact cv6 | exact cv5)⟩
            · intro c16
              refine Z.iconst hX dX6_side_73 ?_
              refine Z.goto hX 78 dX6_side_74 (by decide) ?_
              exact hR _ _ _ _ dX6_side_78 ⟨1, Gc, Lc, Bc, Jc, rfl, rfl, cv1, cv2, (fun q => absurd (by omega) q), cv3, (by first | exact cv4 | exact cv4.1), (by first | exact cv6 | exact cv5)⟩
          · intro c15
            refine Z.iconst hX dX6_side_62 ?_
            refine Z.goto hX 78 dX6_side_63 (by decide) ?_
            exact hR _ _ _ _ dX6_side_78 ⟨(-1), Gc, Lc, Bc, Jc, rfl, rfl, cv1, cv2, (fun q => absurd (by omega) q), cv3, (by first | exact cv4 | exact cv4.1), (by first | exact cv6 | exact cv5)⟩
        · intro c12
          refine Z.bipush hX dX6_side_35 (by decide) ?_
          exact hR _ _ _ _ dX6_side_37 ⟨(-8), Gc, Lc, Bc, Jc, rfl, rfl, cv1, cv2, (fun q => absurd (by omega) q), cv3, (by first | exact cv4 | exact cv4.1), (by first | exact cv6 | exact cv5)⟩
    · intro c4
      refine Z.bipush hX dX6_side_17 (by decide) ?_
      exact hR _ _ _ _ dX6_side_19 ⟨(-9), G, L, B, J, rfl, rfl, hok, (fun _ _ => rfl), (fun _ => rfl), hfi, hli, hle⟩

set_option maxHeartbeats 4000000 in
set_option maxRecDepth 100000 in
theorem ct_X6_follows_xyz (l : Launch) (D : va_G) (ce : Nat → ClassId) (h pl ar : Nat → Nat) (G : Nat → Int) (L : Nat → Nat → Int64) (B : Nat → Int) (J : Nat → Nat → Int64) (u v : Int) (hok : cOK G B) (hbl : bL L) (hfi : FI G L) (hu : -2147483648 ≤ u ∧ u < 2147483648) (hv : -2147483648 ≤ v ∧ v < 2147483648) (hli : LI G L) (hle : LIe G L) : Ct l yX6_follows cX6_follows 3 (some .int) { frames := 6, cells := 0, slots := 0, locals := 162 } 0 0 D (TY ce) [.ref (h 0), .int (zI u), .int (zI v)] (cW ce h pl ar G L B J) (QI D (TY ce) (fun r w1 => ∃ z : Int, ∃ G2 : Nat → Int, ∃ L2 : Nat → Nat → Int64, ∃ B2 : Nat → Int, ∃ J2 : Nat → Nat → Int64, r = zI z ∧ w1 = cW ce h pl ar G2 L2 B2 J2 ∧ (cOK G2 B2) ∧ (∀ k, k < 3 → L2 k = L k) ∧ (¬ (-9 ≤ u ∧ u ≤ 9 ∧ -9 ≤ v ∧ v ≤ 9 ∧ ¬ (u = 0 ∧ v = 0)) → z = -1) ∧ (FI G2 L2) ∧ (LI G2 L2) ∧ ((-9 ≤ u ∧ u ≤ 9 ∧ -9 ≤ v ∧ v ≤ 9 ∧ ¬ (u = 0 ∧ v = 0)) → ∃ n : Int, HP L n ∧ FLc L L2 (wOf (L 2) u v n) z) ∧ (LIe G2 L2))) := by
  refine Ct.ofI (by decide) (Nat.le_of_ble_eq_true rfl) ?_
  intro p e s m args below meth c A Q hX hnm hR
  refine Z.pick (lv' := [(0, .ref (h 0)), (1, .int (zI u)), (2, .int (zI v))]) [0, 1, 2] rfl ?_
  obtain ⟨hB, hg0, hg2, hg3, hg5, hg6, hg1, hg4⟩ := id hok
  unfold bl at hg0 hg2 hg3 hg5 hg6
  refine Z.iload_n hX dX6_follows_0 rfl rfl ?_
  refine Z.iload_n hX dX6_follows_1 rfl rfl ?_
  refine Z.callS0i (As := [.int (zI u), .int (zI v)]) (rest := []) hX (ct_X6_isParameter l D ce u v (by omega) (by omega)) mc_X6_isParameter ml_X6_88 st_X6_isParameter ini_X6 nd_X6_isParameter ⟨Nat.le_of_ble_eq_true rfl, Nat.le_of_ble_eq_true rfl⟩ ⟨rfl, rfl⟩ ⟨Nat.le_refl _, Nat.le_refl _⟩ rfl (Nat.le_of_ble_eq_true rfl) dX6_follows_2 ?_
  rintro r_1 w1 ⟨z1, hr_, hw_, p1⟩
  subst hr_
  refine ⟨hw_, ?_⟩
  refine Z.if_ne hX 10 dX6_follows_5 (by decide) ⟨by omega, by omega⟩ ?_ ?_
  · intro c2
    refine Z.aload_n hX dX6_follows_10 rfl rfl ?_
    refine Z.iload_n hX dX6_follows_11 rfl rfl ?_
    refine Z.iload_n hX dX6_follows_12 rfl rfl ?_
    refine Z.callVfv (As := [.int (zI u), .int (zI v)]) (rest := []) hX 6 0 rfl rfl (ct_X6_moveTo l D ce h pl ar G L B J u v (by omega) (by omega)) mc_X6_moveTo ml_X6_91 im_X6_moveTo se_X6_moveTo ini_X6 nd_X6_moveTo ⟨Nat.le_of_ble_eq_true rfl, Nat.le_of_ble_eq_true rfl⟩ ⟨rfl, rfl⟩ ⟨Nat.le_refl _, Nat.le_refl _⟩ rfl (Nat.le_of_ble_eq_true rfl) dX6_follows_13 ?_
    rintro w1 ⟨n, Lm, hw_, mv1, mv2, mv3⟩
    subst hw_
    have s2 : Lm 9 (2 : Int).toNat = wOf (L 2) u v n := mv2 2 (by decide) (by decide)
    refine Z.aload_n hX dX6_follows_16 rfl rfl ?_
    refine Z.getf hX 6 0 7 dX6_follows_17 rfl rfl inX6 (by decide) fl_X6_50 rfl rfl ?_
    refine Z.iconst hX dX6_follows_20 ?_
    refine Z.laload hX 8 1 dX6_follows_21 rfl rfl (by omega) (by omega) (by decide) ?_
    refine Z.lconst (v := 0) hX dX6_follows_22 rfl ?_
    refine Z.lcmp_eq hX 42 dX6_follows_23 dX6_follows_24 (by decide) ?_ ?_
    · intro c4
      refine Z.bipush hX dX6_follows_42 (by decide) ?_
      exact hR _ _ _ _ dX6_follows_44 ⟨(-2), G, Lm, B, J, rfl, rfl, hok, (fun k h => mv3 k (by omega)), (fun q => absurd (by omega) q), (FI_k hfi rfl (fun k h => mv3 k (by omega))), (LI_k hli rfl rfl (fun k h => mv3 k (by omega))), (fun _ => ⟨n, mv1, fun _ => rfl, fun q => absurd (s2.symm.trans (by assumption)) q⟩), (LIe_k hle rfl rfl (fun k h => mv3 k (by omega)))⟩
    · intro c4
      refine Z.aload_n hX dX6_follows_27 rfl rfl ?_
      refine Z.iconst hX dX6_follows_28 ?_
      refine Z.callVfr (As := [.int (zI 0)]) (rest := []) hX 6 0 rfl rfl (ct_X6_curveOf_lxyz l D ce h pl ar G Lm B J hok (bL_k hbl (fun k h => mv3 k (by omega))) (FI_k hfi rfl (fun k h => mv3 k (by omega))) (LI_k hli rfl rfl (fun k h => mv3 k (by omega))) (LIe_k hle rfl rfl (fun k h => mv3 k (by omega)))) mc_X6_curveOf ml_X6_102 im_X6_curveOf se_X6_curveOf ini_X6 nd_X6_curveOf ⟨Nat.le_of_ble_eq_true rfl, Nat.le_of_ble_eq_true rfl⟩ ⟨rfl, rfl⟩ ⟨Nat.le_refl _, Nat.le_refl _⟩ rfl (Nat.le_of_ble_eq_true rfl) dX6_follows_29 ?_
      rintro r_5 w1 ⟨Gc, Lc, Bc, Jc, hr_, hw_, cv1, cv2, cv3, cv4, cv5, cv6⟩
      subst hr_
      subst hw_
      obtain ⟨dB, dg0, dg2, dg3, dg5, dg6, dg1, dg4⟩ := id cv1
      unfold bl at dg0 dg2 dg3 dg5 dg6
      refine Z.getf hX 0 6 3 dX6_follows_32 rfl rfl inX0 (by decide) fl_X6_106 rfl rfl ?_
      refine Z.if_eq hX 42 dX6_follows_35 (by decide) ⟨by omega, by omega⟩ ?_ ?_
      · intro c6
        refine Z.bipush hX dX6_follows_42 (by decide) ?_
        exact hR _ _ _ _ dX6_follows_44 ⟨(-2), Gc, Lc, Bc, Jc, rfl, rfl, cv1, (fun k h => (cv2 k h).trans (mv3 k (by omega))), (fun q => absurd (by omega) q), cv3, cv4, (fun _ => ⟨n, mv1, fl_c cv4 cv5 (fun k h => (cv2 k h).trans (mv3 k (by omega))) (by rw [← s2]; assumption) (Or.inl ⟨by omega, rfl⟩)⟩), cv6⟩
      · intro c6
        refine Z.iconst hX dX6_follows_38 ?_
        refine Z.goto hX 44 dX6_follows_39 (by decide) ?_
        exact hR _ _ _ _ dX6_follows_44 ⟨1, Gc, Lc, Bc, Jc, rfl, rfl, cv1, (fun k h => (cv2 k h).trans (mv3 k (by omega))), (fun q => absurd (by omega) q), cv3, cv4, (fun _ => ⟨n, mv1, fl_c cv4 cv5 (fun k h => (cv2 k h).trans (mv3 k (by omega))) (by rw [← s2]; assumption) (Or.inr ⟨by omega, rfl⟩)⟩), cv6⟩
  · intro c2
    refine Z.iconst hX dX6_follows_8 ?_
    exact hR _ _ _ _ dX6_follows_9 ⟨(-1), G, L, B, J, rfl, rfl, hok, (fun _ _ => rfl), (fun _ => rfl), hfi, hli, (fun q => absurd q (by omega)), hle⟩

set_option maxHeartbeats 4000000 in
set_option maxRecDepth 100000 in
theorem ct_X6_slopeByU_z (l : Launch) (D : va_G) (ce : Nat → ClassId) (h pl ar : Nat → Nat) (G : Nat → Int) (L : Nat → Nat → Int64) (B : Nat → Int) (J : Nat → Nat → Int64) (wh u v tp : Int) (hw : 0 ≤ wh ∧ wh ≤ 2) (hu : -2147483648 ≤ u ∧ u < 2147483648) (hv : -2147483648 ≤ v ∧ v < 2147483648) (ht : 1 ≤ tp ∧ tp ≤ 4) : Ct l yX6_slopeByU cX6_slopeByU 8 (some .long) { frames := 1, cells := 0, slots := 0, locals := 25 } 0 0 D (TY ce) [.ref (h 0), .int (zI wh), .int (zI u), .int (zI v), .int (zI tp)] (cW ce h pl ar G L B J) (QL D (TY ce) (fun r w1 => ∃ r0 : Int64, r = r0 ∧ w1 = cW ce h pl ar G L B J ∧ (cq r0 (hsm (dva (ti (L wh.toNat))) (tp - 1).toNat u v (tp).toNat)))) := by
  refine Ct.ofL (by decide) (Nat.le_of_ble_eq_true rfl) ?_
  intro p e s m args below meth c A Q hX hnm hR
  refine Z.pick (lv' := [(0, .ref (h 0)), (1, .int (zI wh)), (2, .int (zI u)), (3, .int (zI v)), (4, .int (zI tp))]) [0, 1, 2, 3, 4] rfl ?_
  refine Z.lconst (v := 0) hX dX6_slopeByU_0 rfl ?_
  refine Z.lstore (lv' := [(5, .long 0), (0, .ref (h 0)), (1, .int (zI wh)), (2, .int (zI u)), (3, .int (zI v)), (4, .int (zI tp))]) hX dX6_slopeByU_1 (by decide) rfl ?_
  refine Z.iconst hX dX6_slopeByU_3 ?_
  refine Z.istore (lv' := [(7, .int (zI 1)), (5, .long 0), (0, .ref (h 0)), (1, .int (zI wh)), (2, .int (zI u)), (3, .int (zI v)), (4, .int (zI tp))]) hX dX6_slopeByU_4 (by decide) rfl ?_
  have key_6 : ∀ (N : Nat), ∀ (i : Int) (x : Int64), (tp + 1 - i).toNat < N → (hi : 1 ≤ i ∧ i ≤ tp + 1) → (hx : cq x (hsm (dva (ti (L wh.toNat))) (tp - 1).toNat u v (i - 1).toNat)) → Z p l e { frames := 1, cells := 0, slots := 0, locals := 25 } s m args below meth c D A 8 0 0 Q 6 [(7, .int (zI i)), (5, .long x), (4, .int (zI tp)), (3, .int (zI v)), (2, .int (zI u)), (1, .int (zI wh)), (0, .ref (h 0))] [] (cW ce h pl ar G L B J) := by
    intro N
    induction N with
    | zero => intro i x hm; exact absurd hm (Nat.not_lt_zero _)
    | succ N ih_6 =>
      intro i x hm hi hx
      refine Z.iload hX dX6_slopeByU_6 rfl ?_
      refine Z.iload hX dX6_slopeByU_8 rfl ?_
      refine Z.icmp_gt hX 61 dX6_slopeByU_10 (by decide) ⟨by omega, by omega⟩ ⟨by omega, by omega⟩ ?_ ?_
      · intro c1
        refine Z.lload hX dX6_slopeByU_61 rfl ?_
        exact hR _ _ _ _ dX6_slopeByU_63 ⟨x, rfl, rfl, (by rw [show (i - 1).toNat = tp.toNat by omega] at hx; exact hx)⟩
      · intro c1
        refine Z.lload hX dX6_slopeByU_13 rfl ?_
        refine Z.iload hX dX6_slopeByU_15 rfl ?_
        refine Z.i2l hX dX6_slopeByU_17 ⟨by omega, by omega⟩ ?_
        refine Z.aload_n hX dX6_slopeByU_18 rfl rfl ?_
        refine Z.getf hX 6 0 0 dX6_slopeByU_19 rfl rfl inX6 (by decide) fl_X6_10 rfl rfl ?_
        refine Z.getf hX 5 1 0 dX6_slopeByU_22 rfl rfl inX5 (by decide) fl_X6_69 rfl rfl ?_
        refine Z.iload_n hX dX6_slopeByU_25 rfl rfl ?_
        refine Z.aaload hX 9 3 dX6_slopeByU_26 rfl rfl rfl (by omega) (by omega) (by decide) rfl ?_
        refine Z.iload hX dX6_slopeByU_27 rfl ?_
        refine Z.laload hX (18 + (wh : Int).toNat) 1 dX6_slopeByU_29 (cW_in (by omega)) rfl (by omega) (by omega) (by decide) ?_
        refine Z.lmul hX dX6_slopeByU_30 ?_
        refine Z.iload_n hX dX6_slopeByU_31 rfl rfl ?_
        refine Z.i2l hX dX6_slopeByU_32 ⟨by omega, by omega⟩ ?_
        refine Z.iload hX dX6_slopeByU_33 rfl ?_
        refine Z.iconst hX dX6_slopeByU_35 ?_
        refine Z.isub hX dX6_slopeByU_36 ?_
        refine Z.callS0l (As := [.long (zL u), .int (zI (i - 1))]) (rest := [.long ((zL i) * (L ((wh : Int).toNat) (i : Int).toNat)), .long x]) hX (ct_X6_powerOf l D ce (zL u) (i - 1) (by omega)) mc_X6_powerOf ml_X6_166 st_X6_powerOf ini_X6 nd_X6_powerOf ⟨Nat.le_of_ble_eq_true rfl, Nat.le_of_ble_eq_true rfl⟩ ⟨rfl, rfl⟩ ⟨Nat.le_refl _, Nat.le_refl _⟩ rfl (Nat.le_of_ble_eq_true rfl) dX6_slopeByU_37 ?_
        rintro ra w1 ⟨r03, hr_, hw_, hra⟩
        subst hr_
        refine ⟨hw_, ?_⟩
        refine Z.lmul hX dX6_slopeByU_40 ?_
        refine Z.iload_n hX dX6_slopeByU_41 rfl rfl ?_
        refine Z.i2l hX dX6_slopeByU_42 ⟨by omega, by omega⟩ ?_
        refine Z.iload hX dX6_slopeByU_43 rfl ?_
        refine Z.iload hX dX6_slopeByU_45 rfl ?_
        refine Z.isub hX dX6_slopeByU_47 ?_
        refine Z.callS0l (As := [.long (zL v), .int (zI (tp - i))]) (rest := [.long (((zL i) * (L ((wh : Int).toNat) (i : Int).toNat)) * ra), .long x]) hX (ct_X6_powerOf l D ce (zL v) (tp - i) (by omega)) mc_X6_powerOf ml_X6_166 st_X6_powerOf ini_X6 nd_X6_powerOf ⟨Nat.le_of_ble_eq_true rfl, Nat.le_of_ble_eq_true rfl⟩ ⟨rfl, rfl⟩ ⟨Nat.le_refl _, Nat.le_refl _⟩ rfl (Nat.le_of_ble_eq_true rfl) dX6_slopeByU_48 ?_
        rintro rb w1 ⟨r05, hr_, hw_, hrb⟩
        subst hr_
        refine ⟨hw_, ?_⟩
        refine Z.lmul hX dX6_slopeByU_51 ?_
        refine Z.ladd hX dX6_slopeByU_52 ?_
        refine Z.lstore (lv' := [(5, .long (x + ((((zL i) * (L ((wh : Int).toNat) (i : Int).toNat)) * ra) * rb))), (7, .int (zI i)), (4, .int (zI tp)), (3, .int (zI v)), (2, .int (zI u)), (1, .int (zI wh)), (0, .ref (h 0))]) hX dX6_slopeByU_53 (by decide) rfl ?_
        refine Z.iinc (lv' := [(7, .int (zI (i + 1))), (5, .long (x + ((((zL i) * (L ((wh : Int).toNat) (i : Int).toNat)) * ra) * rb))), (4, .int (zI tp)), (3, .int (zI v)), (2, .int (zI u)), (1, .int (zI wh)), (0, .ref (h 0))]) hX dX6_slopeByU_55 rfl (by decide) rfl ?_
        refine Z.goto hX 6 dX6_slopeByU_58 (by decide) ?_
        refine Z.pick [0, 1, 2, 3, 4, 5, 6] rfl ?_
        exact ih_6 _ _ (by omega) (by omega) (cs_u (by omega) (by omega) hx hra hrb)
  refine Z.pick [0, 1, 6, 5, 4, 3, 2] rfl ?_
  exact key_6 _ _ _ (Nat.lt_succ_self _) (by omega) (cq_rf 0)

set_option maxHeartbeats 4000000 in
set_option maxRecDepth 100000 in
theorem ct_X6_slopeByV_z (l : Launch) (D : va_G) (ce : Nat → ClassId) (h pl ar : Nat → Nat) (G : Nat → Int) (L : Nat → Nat → Int64) (B : Nat → Int) (J : Nat → Nat → Int64) (wh u v tp : Int) (hw : 0 ≤ wh ∧ wh ≤ 2) (hu : -2147483648 ≤ u ∧ u < 2147483648) (hv : -2147483648 ≤ v ∧ v < 2147483648) (ht : 1 ≤ tp ∧ tp ≤ 4) : Ct l yX6_slopeByV cX6_slopeByV 8 (some .long) { frames := 1, cells := 0, slots := 0, locals := 25 } 0 0 D (TY ce) [.ref (h 0), .int (zI wh), .int (zI u), .int (zI v), .int (zI tp)] (cW ce h pl ar G L B J) (QL D (TY ce) (fun r w1 => ∃ r0 : Int64, r = r0 ∧ w1 = cW ce h pl ar G L B J ∧ (cq r0 (hsm (dvn tp.toNat (ti (L wh.toNat))) (tp - 1).toNat u v (tp).toNat)))) := by
  refine Ct.ofL (by decide) (Nat.le_of_ble_eq_true rfl) ?_
  intro p e s m args below meth c A Q hX hnm hR
  refine Z.pick (lv' := [(0, .ref (h 0)), (1, .int (zI wh)), (2, .int (zI u)), (3, .int (zI v)), (4, .int (zI tp))]) [0, 1, 2, 3, 4] rfl ?_
  refine Z.lconst (v := 0) hX dX6_slopeByV_0 rfl ?_
  refine Z.lstore (lv' := [(5, .long 0), (0, .ref (h 0)), (1, .int (zI wh)), (2, .int (zI u)), (3, .int (zI v)), (4, .int (zI tp))]) hX dX6_slopeByV_1 (by decide) rfl ?_
  refine Z.iconst hX dX6_slopeByV_3 ?_
  refine Z.istore (lv' := [(7, .int (zI 0)), (5, .long 0), (0, .ref (h 0)), (1, .int (zI wh)), (2, .int (zI u)), (3, .int (zI v)), (4, .int (zI tp))]) hX dX6_slopeByV_4 (by decide) rfl ?_
  have key_6 : ∀ (N : Nat), ∀ (i : Int) (x : Int64), (tp + 1 - i).toNat < N → (hi : 0 ≤ i ∧ i ≤ tp + 0) → (hx : cq x (hsm (dvn tp.toNat (ti (L wh.toNat))) (tp - 1).toNat u v (i).toNat)) → Z p l e { frames := 1, cells := 0, slots := 0, locals := 25 } s m args below meth c D A 8 0 0 Q 6 [(7, .int (zI i)), (5, .long x), (4, .int (zI tp)), (3, .int (zI v)), (2, .int (zI u)), (1, .int (zI wh)), (0, .ref (h 0))] [] (cW ce h pl ar G L B J) := by
    intro N
    induction N with
    | zero => intro i x hm; exact absurd hm (Nat.not_lt_zero _)
    | succ N ih_6 =>
      intro i x hm hi hx
      refine Z.iload hX dX6_slopeByV_6 rfl ?_
      refine Z.iload hX dX6_slopeByV_8 rfl ?_
      refine Z.icmp_ge hX 64 dX6_slopeByV_10 (by decide) ⟨by omega, by omega⟩ ⟨by omega, by omega⟩ ?_ ?_
      · intro c1
        refine Z.lload hX dX6_slopeByV_64 rfl ?_
        exact hR _ _ _ _ dX6_slopeByV_66 ⟨x, rfl, rfl, (by rw [show (i).toNat = tp.toNat by omega] at hx; exact hx)⟩
      · intro c1
        refine Z.lload hX dX6_slopeByV_13 rfl ?_
        refine Z.iload hX dX6_slopeByV_15 rfl ?_
        refine Z.iload hX dX6_slopeByV_17 rfl ?_
        refine Z.isub hX dX6_slopeByV_19 ?_
        refine Z.i2l hX dX6_slopeByV_20 ⟨by omega, by omega⟩ ?_
        refine Z.aload_n hX dX6_slopeByV_21 rfl rfl ?_
        refine Z.getf hX 6 0 0 dX6_slopeByV_22 rfl rfl inX6 (by decide) fl_X6_10 rfl rfl ?_
        refine Z.getf hX 5 1 0 dX6_slopeByV_25 rfl rfl inX5 (by decide) fl_X6_69 rfl rfl ?_
        refine Z.iload_n hX dX6_slopeByV_28 rfl rfl ?_
        refine Z.aaload hX 9 3 dX6_slopeByV_29 rfl rfl rfl (by omega) (by omega) (by decide) rfl ?_
        refine Z.iload hX dX6_slopeByV_30 rfl ?_
        refine Z.laload hX (18 + (wh : Int).toNat) 1 dX6_slopeByV_32 (cW_in (by omega)) rfl (by omega) (by omega) (by decide) ?_
        refine Z.lmul hX dX6_slopeByV_33 ?_
        refine Z.iload_n hX dX6_slopeByV_34 rfl rfl ?_
        refine Z.i2l hX dX6_slopeByV_35 ⟨by omega, by omega⟩ ?_
        refine Z.iload hX dX6_slopeByV_36 rfl ?_
        refine Z.callS0l (As := [.long (zL u), .int (zI i)]) (rest := [.long ((zL (tp - i)) * (L ((wh : Int).toNat) (i : Int).toNat)), .long x]) hX (ct_X6_powerOf l D ce (zL u) i (by omega)) mc_X6_powerOf ml_X6_166 st_X6_powerOf ini_X6 nd_X6_powerOf ⟨Nat.le_of_ble_eq_true rfl, Nat.le_of_ble_eq_true rfl⟩ ⟨rfl, rfl⟩ ⟨Nat.le_refl _, Nat.le_refl _⟩ rfl (Nat.le_of_ble_eq_true rfl) dX6_slopeByV_38 ?_
        rintro ra w1 ⟨r03, hr_, hw_, hra⟩
        subst hr_
        refine ⟨hw_, ?_⟩
        refine Z.lmul hX dX6_slopeByV_41 ?_
        refine Z.iload_n hX dX6_slopeByV_42 rfl rfl ?_
        refine Z.i2l hX dX6_slopeByV_43 ⟨by omega, by omega⟩ ?_
        refine Z.iload hX dX6_slopeByV_44 rfl ?_
        refine Z.iconst hX dX6_slopeByV_46 ?_
        refine Z.isub hX dX6_slopeByV_47 ?_
        refine Z.iload hX dX6_slopeByV_48 rfl ?_
        refine Z.isub hX dX6_slopeByV_50 ?_
        refine Z.callS0l (As := [.long (zL v), .int (zI ((tp - 1) - i))]) (rest := [.long (((zL (tp - i)) * (L ((wh : Int).toNat) (i : Int).toNat)) * ra), .long x]) hX (ct_X6_powerOf l D ce (zL v) ((tp - 1) - i) (by omega)) mc_X6_powerOf ml_X6_166 st_X6_powerOf ini_X6 nd_X6_powerOf ⟨Nat.le_of_ble_eq_true rfl, Nat.le_of_ble_eq_true rfl⟩ ⟨rfl, rfl⟩ ⟨Nat.le_refl _, Nat.le_refl _⟩ rfl (Nat.le_of_ble_eq_true rfl) dX6_slopeByV_51 ?_
        rintro rb w1 ⟨r05, hr_, hw_, hrb⟩
        subst hr_
        refine ⟨hw_, ?_⟩
        refine Z.lmul hX dX6_slopeByV_54 ?_
        refine Z.ladd hX dX6_slopeByV_55 ?_
        refine Z.lstore (lv' := [(5, .long (x + ((((zL (tp - i)) * (L ((wh : Int).toNat) (i : Int).toNat)) * ra) * rb))), (7, .int (zI i)), (4, .int (zI tp)), (3, .int (zI v)), (2, .int (zI u)), (1, .int (zI wh)), (0, .ref (h 0))]) hX dX6_slopeByV_56 (by decide) rfl ?_
        refine Z.iinc (lv' := [(7, .int (zI (i + 1))), (5, .long (x + ((((zL (tp - i)) * (L ((wh : Int).toNat) (i : Int).toNat)) * ra) * rb))), (4, .int (zI tp)), (3, .int (zI v)), (2, .int (zI u)), (1, .int (zI wh)), (0, .ref (h 0))]) hX dX6_slopeByV_58 rfl (by decide) rfl ?_
        refine Z.goto hX 6 dX6_slopeByV_61 (by decide) ?_
        refine Z.pick [0, 1, 2, 3, 4, 5, 6] rfl ?_
        exact ih_6 _ _ (by omega) (by omega) (cs_v (by omega) (by omega) hx hra hrb)
  refine Z.pick [0, 1, 6, 5, 4, 3, 2] rfl ?_
  exact key_6 _ _ _ (Nat.lt_succ_self _) (by omega) (cq_rf 0)

set_option maxHeartbeats 4000000 in
set_option maxRecDepth 100000 in
theorem ct_X6_touches_xyz (l : Launch) (D : va_G) (ce : Nat → ClassId) (h pl ar : Nat → Nat) (G : Nat → Int) (L : Nat → Nat → Int64) (B : Nat → Int) (J : Nat → Nat → Int64) (u v : Int) (hok : cOK G B) (hbl : bL L) (hfi : FI G L) (hu : -2147483648 ≤ u ∧ u < 2147483648) (hv : -2147483648 ≤ v ∧ v < 2147483648) (hli : LI G L) (hle : LIe G L) : Ct l yX6_touches cX6_touches 6 (some .int) { frames := 6, cells := 0, slots := 0, locals := 162 } 0 0 D (TY ce) [.ref (h 0), .int (zI u), .int (zI v)] (cW ce h pl ar G L B J) (QI D (TY ce) (fun r w1 => ∃ z : Int, ∃ G2 : Nat → Int, ∃ L2 : Nat → Nat → Int64, ∃ B2 : Nat → Int, ∃ J2 : Nat → Nat → Int64, r = zI z ∧ w1 = cW ce h pl ar G2 L2 B2 J2 ∧ (cOK G2 B2) ∧ (∀ k, k < 3 → L2 k = L k) ∧ (¬ (-9 ≤ u ∧ u ≤ 9 ∧ -9 ≤ v ∧ v ≤ 9 ∧ ¬ (u = 0 ∧ v = 0)) → z = -1) ∧ (FI G2 L2) ∧ (LI G2 L2) ∧ (LIe G2 L2) ∧ ((-9 ≤ u ∧ u ≤ 9 ∧ -9 ≤ v ∧ v ≤ 9 ∧ ¬ (u = 0 ∧ v = 0)) → TCc L u v z))) := by
  refine Ct.ofI (by decide) (Nat.le_of_ble_eq_true rfl) ?_
  intro p e s m args below meth c A Q hX hnm hR
  refine Z.pick (lv' := [(0, .ref (h 0)), (1, .int (zI u)), (2, .int (zI v))]) [0, 1, 2] rfl ?_
  obtain ⟨hB, hg0, hg2, hg3, hg5, hg6, hg1, hg4⟩ := id hok
  unfold bl at hg0 hg2 hg3 hg5 hg6
  refine Z.iload_n hX dX6_touches_0 rfl rfl ?_
  refine Z.iload_n hX dX6_touches_1 rfl rfl ?_
  refine Z.callS0i (As := [.int (zI u), .int (zI v)]) (rest := []) hX (ct_X6_isParameter l D ce u v (by omega) (by omega)) mc_X6_isParameter ml_X6_88 st_X6_isParameter ini_X6 nd_X6_isParameter ⟨Nat.le_of_ble_eq_true rfl, Nat.le_of_ble_eq_true rfl⟩ ⟨rfl, rfl⟩ ⟨Nat.le_refl _, Nat.le_refl _⟩ rfl (Nat.le_of_ble_eq_true rfl) dX6_touches_2 ?_
  rintro r_1 w1 ⟨z1, hr_, hw_, p1⟩
  subst hr_
  refine ⟨hw_, ?_⟩
  refine Z.if_ne hX 10 dX6_touches_5 (by decide) ⟨by omega, by omega⟩ ?_ ?_
  · intro c2
    refine Z.aload_n hX dX6_touches_10 rfl rfl ?_
    refine Z.iconst hX dX6_touches_11 ?_
    refine Z.callVfr (As := [.int (zI 1)]) (rest := []) hX 6 0 rfl rfl (ct_X6_curveOf_exyz l D ce h pl ar G L B J hok hbl hfi hli hle) mc_X6_curveOf ml_X6_102 im_X6_curveOf se_X6_curveOf ini_X6 nd_X6_curveOf ⟨Nat.le_of_ble_eq_true rfl, Nat.le_of_ble_eq_true rfl⟩ ⟨rfl, rfl⟩ ⟨Nat.le_refl _, Nat.le_refl _⟩ rfl (Nat.le_of_ble_eq_true rfl) dX6_touches_12 ?_
    rintro r_3 w1 ⟨Gc, Lc, Bc, Jc, hr_, hw_, cv1, cv2, cv3, cv4, cv5, cv6⟩
    subst hr_
    subst hw_
    obtain ⟨dB, dg0, dg2, dg3, dg5, dg6, dg1, dg4⟩ := id cv1
    unfold bl at dg0 dg2 dg3 dg5 dg6
    refine Z.getf hX 0 7 3 dX6_touches_15 rfl rfl inX0 (by decide) fl_X6_106 rfl rfl ?_
    refine Z.if_ne hX 24 dX6_touches_18 (by decide) ⟨by omega, by omega⟩ ?_ ?_
    · intro c4
      refine Z.aload_n hX dX6_touches_24 rfl rfl ?_
      refine Z.getf hX 6 0 0 dX6_touches_25 rfl rfl inX6 (by decide) fl_X6_10 rfl rfl ?_
      refine Z.callVfi (As := []) (rest := []) hX 5 1 rfl rfl (ct_X5_highestPower_r l D ce h pl ar Gc Lc Bc Jc ) mc_X5_highestPower ml_X6_80 im_X5_highestPower se_X5_highestPower ini_X5 nd_X5_highestPower ⟨Nat.le_of_ble_eq_true rfl, Nat.le_of_ble_eq_true rfl⟩ ⟨rfl, rfl⟩ ⟨Nat.le_refl _, Nat.le_refl _⟩ rfl (Nat.le_of_ble_eq_true rfl) dX6_touches_28 ?_
      rintro r_5 w1 ⟨tp, hr_, hw_, n1, n2, n3⟩
      subst hr_
      subst hw_
      have htp : 2 ≤ tp := tp_2 cv5 cv6 (by omega) ⟨n1, n2, n3⟩
      refine Z.istore_n (lv' := [(3, .int (zI tp)), (0, .ref (h 0)), (1, .int (zI u)), (2, .int (zI v))]) hX dX6_touches_31 rfl (by decide) rfl ?_
      refine Z.aload_n hX dX6_touches_32 rfl rfl ?_
      refine Z.iconst hX dX6_touches_33 ?_
      refine Z.iload_n hX dX6_touches_34 rfl rfl ?_
      refine Z.iload_n hX dX6_touches_35 rfl rfl ?_
      refine Z.iload_n hX dX6_touches_36 rfl rfl ?_
      refine Z.callVfl (As := [.int (zI 0), .int (zI u), .int (zI v), .int (zI tp)]) (rest := []) hX 6 0 rfl rfl (ct_X6_slopeByU_z l D ce h pl ar Gc Lc Bc Jc 0 u v tp (by omega) hu hv (by omega)) mc_X6_slopeByU ml_X6_137 im_X6_slopeByU se_X6_slopeByU ini_X6 nd_X6_slopeByU ⟨Nat.le_of_ble_eq_true rfl, Nat.le_of_ble_eq_true rfl⟩ ⟨rfl, rfl⟩ ⟨Nat.le_refl _, Nat.le_refl _⟩ rfl (Nat.le_of_ble_eq_true rfl) dX6_touches_37 ?_
      rintro sa w1 ⟨r07, hr_, hw_, hsa⟩
      subst hr_
      subst hw_
      refine Z.aload_n hX dX6_touches_40 rfl rfl ?_
      refine Z.iconst hX dX6_touches_41 ?_
      refine Z.iload_n hX dX6_touches_42 rfl rfl ?_
      refine Z.iload_n hX dX6_touches_43 rfl rfl ?_
      refine Z.iload_n hX dX6_touches_44 rfl rfl ?_
      refine Z.callVfl (As := [.int (zI 1), .int (zI u), .int (zI v), .int (zI tp)]) (rest := [.long sa]) hX 6 0 rfl rfl (ct_X6_slopeByV_z l D ce h pl ar Gc Lc Bc Jc 1 u v tp (by omega) hu hv (by omega)) mc_X6_slopeByV ml_X6_141 im_X6_slopeByV se_X6_slopeByV ini_X6 nd_X6_slopeByV ⟨Nat.le_of_ble_eq_true rfl, Nat.le_of_ble_eq_true rfl⟩ ⟨rfl, rfl⟩ ⟨Nat.le_refl _, Nat.le_refl _⟩ rfl (Nat.le_of_ble_eq_true rfl) dX6_touches_45 ?_
      rintro se w1 ⟨r09, hr_, hw_, hse⟩
      subst hr_
      subst hw_
      refine Z.lmul hX dX6_touches_48 ?_
      refine Z.aload_n hX dX6_touches_49 rfl rfl ?_
      refine Z.iconst hX dX6_touches_50 ?_
      refine Z.iload_n hX dX6_touches_51 rfl rfl ?_
      refine Z.iload_n hX dX6_touches_52 rfl rfl ?_
      refine Z.iload_n hX dX6_touches_53 rfl rfl ?_
      refine Z.callVfl (As := [.int (zI 1), .int (zI u), .int (zI v), .int (zI tp)]) (rest := [.long (sa * se)]) hX 6 0 rfl rfl (ct_X6_slopeByU_z l D ce h pl ar Gc Lc Bc Jc 1 u v tp (by omega) hu hv (by omega)) mc_X6_slopeByU ml_X6_137 im_X6_slopeByU se_X6_slopeByU ini_X6 nd_X6_slopeByU ⟨Nat.le_of_ble_eq_true rfl, Nat.le_of_ble_eq_true rfl⟩ ⟨rfl, rfl⟩ ⟨Nat.le_refl _, Nat.le_refl _⟩ rfl (Nat.le_of_ble_eq_true rfl) dX6_touches_54 ?_
      rintro sb w1 ⟨r011, hr_, hw_, hsb⟩
      subst hr_
      subst hw_
      refine Z.aload_n hX dX6_touches_57 rfl rfl ?_
      refine Z.iconst hX dX6_touches_58 ?_
      refine Z.iload_n hX dX6_touches_59 rfl rfl ?_
      refine Z.iload_n hX dX6_touches_60 rfl rfl ?_
      refine Z.iload_n hX dX6_touches_61 rfl rfl ?_
      refine Z.callVfl (As := [.int (zI 0), .int (zI u), .int (zI v), .int (zI tp)]) (rest := [.long sb, .long (sa * se)]) hX 6 0 rfl rfl (ct_X6_slopeByV_z l D ce h pl ar Gc Lc Bc Jc 0 u v tp (by omega) hu hv (by omega)) mc_X6_slopeByV ml_X6_141 im_X6_slopeByV se_X6_slopeByV ini_X6 nd_X6_slopeByV ⟨Nat.le_of_ble_eq_true rfl, Nat.le_of_ble_eq_true rfl⟩ ⟨rfl, rfl⟩ ⟨Nat.le_refl _, Nat.le_refl _⟩ rfl (Nat.le_of_ble_eq_true rfl) dX6_touches_62 ?_
      rintro sd w1 ⟨r013, hr_, hw_, hsd⟩
      subst hr_
      subst hw_
      have hxx := tc_c (L := Lc) (bL_k hbl (fun k h => cv2 k (by omega))) (N := tp) (by omega) (show -9 ≤ u ∧ u ≤ 9 ∧ -9 ≤ v ∧ v ≤ 9 ∧ ¬ (u = 0 ∧ v = 0) by omega) hsa hsb hsd hse
      refine Z.lmul hX dX6_touches_65 ?_
      refine Z.lsub hX dX6_touches_66 ?_
      refine Z.lstore (lv' := [(4, .long ((sa * se) - (sb * sd))), (3, .int (zI tp)), (0, .ref (h 0)), (1, .int (zI u)), (2, .int (zI v))]) hX dX6_touches_67 (by decide) rfl ?_
      refine Z.lload hX dX6_touches_69 rfl ?_
      refine Z.lconst (v := 0) hX dX6_touches_71 rfl ?_
      refine Z.lcmp_eq hX 80 dX6_touches_72 dX6_touches_73 (by decide) ?_ ?_
      · intro c14
        refine Z.bipush hX dX6_touches_80 (by decide) ?_
        exact hR _ _ _ _ dX6_touches_82 ⟨(-2), Gc, Lc, Bc, Jc, rfl, rfl, cv1, cv2, (fun q => absurd (by omega) q), cv3, cv4, cv5, (fun _ => tc_yes cv5 cv6 (by omega) cv2 ⟨n1, n2, n3⟩ hxx (Or.inr ⟨by assumption, rfl⟩))⟩
      · intro c14
        refine Z.iconst hX dX6_touches_76 ?_
        refine Z.goto hX 82 dX6_touches_77 (by decide) ?_
        exact hR _ _ _ _ dX6_touches_82 ⟨1, Gc, Lc, Bc, Jc, rfl, rfl, cv1, cv2, (fun q => absurd (by omega) q), cv3, cv4, cv5, (fun _ => tc_yes cv5 cv6 (by omega) cv2 ⟨n1, n2, n3⟩ hxx (Or.inl ⟨by assumption, rfl⟩))⟩
    · intro c4
      refine Z.bipush hX dX6_touches_21 (by decide) ?_
      exact hR _ _ _ _ dX6_touches_23 ⟨(-2), Gc, Lc, Bc, Jc, rfl, rfl, cv1, cv2, (fun q => absurd (by omega) q), cv3, cv4, cv5, (fun _ => tc_no cv5 cv6 (by omega) cv2)⟩
  · intro c2
    refine Z.iconst hX dX6_touches_8 ?_
    exact hR _ _ _ _ dX6_touches_9 ⟨(-1), G, L, B, J, rfl, rfl, hok, (fun _ _ => rfl), (fun _ => rfl), hfi, hli, hle, (fun q => absurd q (by omega))⟩

