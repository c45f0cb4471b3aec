theorem cf_in {r : Nat → Int64} {i j s : Int} (es : s = sl (i + j) + j) (hi : 0 ≤ i) (hj : 0 ≤ j) (h : i + j ≤ 6) : (r s.toNat).toInt = ci (pcl r) (7 * i.toNat + j.toNat) := by
  unfold ci
  have := pcl_d r (d := i + j) (j := j) (by omega) (by omega)
  rw [show i + j - j = i by omega] at this
  rw [this, es]
theorem cf_out {r : Nat → Int64} {i j : Int} (hi : 0 ≤ i ∧ i ≤ 6) (hj : 0 ≤ j ∧ j ≤ 6) (h : 6 < i + j) (_ : (0 : Int) = 0) : (0 : Int64).toInt = ci (pcl r) (7 * i.toNat + j.toNat) := by
  unfold ci
  have := pcl_6 r (7 * i + j) (by omega) (by omega) (by omega)
  rw [show (7 * i + j).toNat = 7 * i.toNat + j.toNat by omega] at this
  rw [this]
set_option maxHeartbeats 4000000 in
set_option maxRecDepth 100000 in
theorem ct_X2_takeMover_w (l : Launch) (D : va_G) (ce : Nat → ClassId) (h pl ar : Nat → Nat) (G : Nat → Int) (L : Nat → Nat → Int64) (B : Nat → Int) (J : Nat → Nat → Int64) (hB : BOK B) : Ct l yX2_takeMover cX2_takeMover 4 (some .int) { frames := 3, cells := 0, slots := 0, locals := 70 } 0 0 D (TY ce) [.ref (h 4), .ref (h 2)] (cW ce h pl ar G L B J) (QI D (TY ce) (fun r w1 => ∃ z : Int, ∃ B2 : Nat → Int, ∃ J2 : Nat → Nat → Int64, r = zI z ∧ w1 = cW ce h pl ar G L B2 J2 ∧ (BOK B2) ∧ (0 ≤ z ∧ z ≤ 4) ∧ (TK L z) ∧ (MVp B2 J2 L (z + 1)) ∧ (∀ k, 36 ≤ k → B2 k = B k ∧ J2 k = J k))) := by
  refine Ct.ofI (by decide) (Nat.le_of_ble_eq_true rfl) ?_
  intro p e s m args below meth c A Q hX hnm hR
  refine Z.pick (lv' := [(0, .ref (h 4)), (1, .ref (h 2))]) [0, 1] rfl ?_
  have key_16 : ∀ (tp : Int), (ht : 0 ≤ tp ∧ tp ≤ 4) → (htk : TK L tp) → Z p l e { frames := 3, cells := 0, slots := 0, locals := 70 } s m args below meth c D A 4 0 0 Q 16 [(1, .ref (h 2)), (0, .ref (h 4))] [.int (zI tp)] (cW ce h pl ar G L B J) := by
    intro tp ht htk
    refine Z.istore_n (lv' := [(2, .int (zI tp)), (1, .ref (h 2)), (0, .ref (h 4))]) hX dX2_takeMover_16 rfl (by decide) rfl ?_
    refine Z.iconst hX dX2_takeMover_17 ?_
    refine Z.istore_n (lv' := [(3, .int (zI 0)), (2, .int (zI tp)), (1, .ref (h 2)), (0, .ref (h 4))]) hX dX2_takeMover_18 rfl (by decide) rfl ?_
    have key_19 : ∀ (N : Nat), ∀ (i : Int) (BB : Nat → Int) (MM : Nat → Nat → Int64), (tp + 1 - i).toNat < N → (hi : 0 ≤ i ∧ i ≤ tp + 1) → (hM : BOK BB) → (hmv : MVp BB MM L i) → (hfr36 : ∀ k, 36 ≤ k → BB k = B k ∧ MM k = J k) → Z p l e { frames := 3, cells := 0, slots := 0, locals := 70 } s m args below meth c D A 4 0 0 Q 19 [(3, .int (zI i)), (2, .int (zI tp)), (1, .ref (h 2)), (0, .ref (h 4))] [] (cW ce h pl ar G L BB MM) := by
      intro N
      induction N with
      | zero => intro i BB MM hm; exact absurd hm (Nat.not_lt_zero _)
      | succ N ih_19 =>
        intro i BB MM hm hi hM hmv hfr36
        refine Z.iload_n hX dX2_takeMover_19 rfl rfl ?_
        refine Z.iload_n hX dX2_takeMover_20 rfl rfl ?_
        refine Z.icmp_gt hX 84 dX2_takeMover_21 (by decide) ⟨by omega, by omega⟩ ⟨by omega, by omega⟩ ?_ ?_
        · intro c1
          refine Z.iload_n hX dX2_takeMover_84 rfl rfl ?_
          exact hR _ _ _ _ dX2_takeMover_85 ⟨tp, BB, MM, rfl, rfl, hM, (by omega), htk, (by rw [show tp + 1 = i by omega]; exact hmv), hfr36⟩
        · intro c1
          refine Z.aload_n hX dX2_takeMover_24 rfl rfl ?_
          refine Z.getf hX 2 4 0 dX2_takeMover_25 rfl rfl inX2 (by decide) fl_X2_11 rfl rfl ?_
          refine Z.iload_n hX dX2_takeMover_28 rfl rfl ?_
          refine Z.aaload hX 14 4 dX2_takeMover_29 rfl rfl rfl (by omega) (by omega) (by decide) rfl ?_
          refine Z.aload_n hX dX2_takeMover_30 rfl rfl ?_
          refine Z.getf hX 5 2 0 dX2_takeMover_31 rfl rfl inX5 (by decide) fl_X2_37 rfl rfl ?_
          refine Z.iconst hX dX2_takeMover_34 ?_
          refine Z.aaload hX 10 3 dX2_takeMover_35 rfl rfl rfl (by omega) (by omega) (by decide) rfl ?_
          refine Z.iload_n hX dX2_takeMover_36 rfl rfl ?_
          refine Z.laload hX (18 + (3 + 2)) 1 dX2_takeMover_37 (cW_in (by omega)) rfl (by omega) (by omega) (by decide) ?_
          refine Z.lneg hX dX2_takeMover_38 ?_
          refine Z.lconst (v := 0) hX dX2_takeMover_39 rfl ?_
          refine Z.aload_n hX dX2_takeMover_40 rfl rfl ?_
          refine Z.getf hX 5 2 0 dX2_takeMover_41 rfl rfl inX5 (by decide) fl_X2_37 rfl rfl ?_
          refine Z.iconst hX dX2_takeMover_44 ?_
          refine Z.aaload hX 10 3 dX2_takeMover_45 rfl rfl rfl (by omega) (by omega) (by decide) rfl ?_
          refine Z.iload_n hX dX2_takeMover_46 rfl rfl ?_
          refine Z.laload hX (18 + (3 + 0)) 1 dX2_takeMover_47 (cW_in (by omega)) rfl (by omega) (by omega) (by decide) ?_
          refine Z.callVfv (As := [.long (-(L ((3 + 2)) (i : Int).toNat)), .long 0, .long (L ((3 + 0)) (i : Int).toNat)]) (rest := []) hX 3 (24 + (i : Int).toNat) rfl (cW_pl (by omega)) (ct_X3_setLine_y l D ce h pl ar G L BB MM ((i : Int).toNat) (-(L ((3 + 2)) (i : Int).toNat)) 0 (L ((3 + 0)) (i : Int).toNat) (by omega) hM) mc_X3_setLine ml_X2_41 im_X3_setLine se_X3_setLine ini_X3 nd_X3_setLine ⟨Nat.le_of_ble_eq_true rfl, Nat.le_of_ble_eq_true rfl⟩ ⟨rfl, rfl⟩ ⟨Nat.le_refl _, Nat.le_refl _⟩ rfl (Nat.le_of_ble_eq_true rfl) dX2_takeMover_48 ?_
          rintro w1 ⟨Bs, Js, hw_, hs1, hs2, hs3, hs4, hs5⟩
          subst hw_
          refine Z.aload_n hX dX2_takeMover_51 rfl rfl ?_
          refine Z.getf hX 2 4 1 dX2_takeMover_52 rfl rfl inX2 (by decide) fl_X2_17 rfl rfl ?_
          refine Z.iload_n hX dX2_takeMover_55 rfl rfl ?_
          refine Z.aaload hX 15 4 dX2_takeMover_56 rfl rfl rfl (by omega) (by omega) (by decide) rfl ?_
          refine Z.lconst (v := 0) hX dX2_takeMover_57 rfl ?_
          refine Z.aload_n hX dX2_takeMover_58 rfl rfl ?_
          refine Z.getf hX 5 2 0 dX2_takeMover_59 rfl rfl inX5 (by decide) fl_X2_37 rfl rfl ?_
          refine Z.iconst hX dX2_takeMover_62 ?_
          refine Z.aaload hX 10 3 dX2_takeMover_63 rfl rfl rfl (by omega) (by omega) (by decide) rfl ?_
          refine Z.iload_n hX dX2_takeMover_64 rfl rfl ?_
          refine Z.laload hX (18 + (3 + 2)) 1 dX2_takeMover_65 (cW_in (by omega)) rfl (by omega) (by omega) (by decide) ?_
          refine Z.lneg hX dX2_takeMover_66 ?_
          refine Z.aload_n hX dX2_takeMover_67 rfl rfl ?_
          refine Z.getf hX 5 2 0 dX2_takeMover_68 rfl rfl inX5 (by decide) fl_X2_37 rfl rfl ?_
          refine Z.iconst hX dX2_takeMover_71 ?_
          refine Z.aaload hX 10 3 dX2_takeMover_72 rfl rfl rfl (by omega) (by omega) (by decide) rfl ?_
          refine Z.iload_n hX dX2_takeMover_73 rfl rfl ?_
          refine Z.laload hX (18 + (3 + 1)) 1 dX2_takeMover_74 (cW_in (by omega)) rfl (by omega) (by omega) (by decide) ?_
          refine Z.callVfv (As := [.long 0, .long (-(L ((3 + 2)) (i : Int).toNat)), .long (L ((3 + 1)) (i : Int).toNat)]) (rest := []) hX 3 (24 + (5 + (i : Int).toNat)) rfl (cW_pl (by omega)) (ct_X3_setLine_y l D ce h pl ar G L Bs Js ((5 + (i : Int).toNat)) 0 (-(L ((3 + 2)) (i : Int).toNat)) (L ((3 + 1)) (i : Int).toNat) (by omega) hs3) mc_X3_setLine ml_X2_41 im_X3_setLine se_X3_setLine ini_X3 nd_X3_setLine ⟨Nat.le_of_ble_eq_true rfl, Nat.le_of_ble_eq_true rfl⟩ ⟨rfl, rfl⟩ ⟨Nat.le_refl _, Nat.le_refl _⟩ rfl (Nat.le_of_ble_eq_true rfl) dX2_takeMover_75 ?_
          rintro w1 ⟨Bt, Jt, hw_, ht1, ht2, ht3, ht4, ht5⟩
          subst hw_
          refine Z.iinc (lv' := [(3, .int (zI (i + 1))), (2, .int (zI tp)), (1, .ref (h 2)), (0, .ref (h 4))]) hX dX2_takeMover_78 rfl (by decide) rfl ?_
          refine Z.goto hX 19 dX2_takeMover_81 (by decide) ?_
          refine Z.pick [0, 1, 2, 3] rfl ?_
          exact ih_19 _ _ _ (by omega) (by omega) ht3 (mv_s (by omega) hmv hs1 hs2 hs4 hs5 ht1 ht2 ht4 ht5) (fun k a => ⟨(ht1 k (by omega)).trans ((hs1 k (by omega)).trans ((hfr36 k a).1)), (ht2 k (by omega)).trans ((hs2 k (by omega)).trans ((hfr36 k a).2))⟩)
    refine Z.pick [0, 1, 2, 3] rfl ?_
    exact key_19 _ _ _ _ (Nat.lt_succ_self _) (by omega) hB mv_0 (fun _ _ => ⟨rfl, rfl⟩)
  refine Z.aload_n hX dX2_takeMover_0 rfl rfl ?_
  refine Z.iconst hX dX2_takeMover_1 ?_
  refine Z.callVfi (As := [.int (zI 2)]) (rest := []) hX 5 2 rfl rfl (ct_X5_isZero_fy l D ce h pl ar G L B J 2 (by omega)) mc_X5_isZero ml_X2_27 im_X5_isZero se_X5_isZero ini_X5 nd_X5_isZero ⟨Nat.le_of_ble_eq_true rfl, Nat.le_of_ble_eq_true rfl⟩ ⟨rfl, rfl⟩ ⟨Nat.le_refl _, Nat.le_refl _⟩ rfl (Nat.le_of_ble_eq_true rfl) dX2_takeMover_2 ?_
  rintro r_4 w1 ⟨iz, hr_, hw_, i1, i2, i3⟩
  subst hr_
  subst hw_
  refine Z.if_eq hX 12 dX2_takeMover_5 (by decide) ⟨by omega, by omega⟩ ?_ ?_
  · intro c5
    refine Z.aload_n hX dX2_takeMover_12 rfl rfl ?_
    refine Z.callVfi (As := []) (rest := []) hX 5 2 rfl rfl (ct_X5_highestPower_f l D ce h pl ar G L B J ) mc_X5_highestPower ml_X2_33 im_X5_highestPower se_X5_highestPower ini_X5 nd_X5_highestPower ⟨Nat.le_of_ble_eq_true rfl, Nat.le_of_ble_eq_true rfl⟩ ⟨rfl, rfl⟩ ⟨Nat.le_refl _, Nat.le_refl _⟩ rfl (Nat.le_of_ble_eq_true rfl) dX2_takeMover_13 ?_
    rintro r_6 w1 ⟨hp, hr_, hw_, n1, n2, n3⟩
    subst hr_
    subst hw_
    refine Z.pick [1, 0] rfl ?_
    exact key_16 _ (by omega) (by first | exact Or.inl ⟨rfl, i2 (by omega)⟩ | exact Or.inr ⟨⟨n1, n2, n3⟩, i3 (by omega)⟩)
  · intro c5
    refine Z.iconst hX dX2_takeMover_8 ?_
    refine Z.goto hX 16 dX2_takeMover_9 (by decide) ?_
    refine Z.pick [1, 0] rfl ?_
    exact key_16 _ (by omega) (by first | exact Or.inl ⟨rfl, i2 (by omega)⟩ | exact Or.inr ⟨⟨n1, n2, n3⟩, i3 (by omega)⟩)

set_option maxHeartbeats 4000000 in
set_option maxRecDepth 100000 in
theorem ct_X2_takeLines_w (l : Launch) (D : va_G) (ce : Nat → ClassId) (h pl ar : Nat → Nat) (G : Nat → Int) (L : Nat → Nat → Int64) (B : Nat → Int) (J : Nat → Nat → Int64) (hB : BOK B) (hbl : bL L) : Ct l yX2_takeLines cX2_takeLines 4 (some .int) { frames := 4, cells := 0, slots := 0, locals := 94 } 0 0 D (TY ce) [.ref (h 4), .ref (h 1)] (cW ce h pl ar G L B J) (QI D (TY ce) (fun r w1 => ∃ z : Int, ∃ B2 : Nat → Int, ∃ J2 : Nat → Nat → Int64, r = zI z ∧ w1 = cW ce h pl ar G L B2 J2 ∧ (BOK B2) ∧ (0 ≤ z ∧ z ≤ 3) ∧ (TKz L z) ∧ (1 ≤ z → MVz B2 J2 (fun t => dva (zL3 L t)) (fun t => dvn (z + 1).toNat (zL3 L t)) (z + 1)) ∧ (∀ k, 36 ≤ k → B2 k = B k ∧ J2 k = J k))) := by
  refine Ct.ofI (by decide) (Nat.le_of_ble_eq_true rfl) ?_
  intro p e s m args below meth c A Q hX hnm hR
  refine Z.pick (lv' := [(0, .ref (h 4)), (1, .ref (h 1))]) [0, 1] rfl ?_
  refine Z.aload_n hX dX2_takeLines_0 rfl rfl ?_
  refine Z.callVfi (As := []) (rest := []) hX 5 1 rfl rfl (ct_X5_highestPower_r l D ce h pl ar G L B J ) mc_X5_highestPower ml_X2_33 im_X5_highestPower se_X5_highestPower ini_X5 nd_X5_highestPower ⟨Nat.le_of_ble_eq_true rfl, Nat.le_of_ble_eq_true rfl⟩ ⟨rfl, rfl⟩ ⟨Nat.le_refl _, Nat.le_refl _⟩ rfl (Nat.le_of_ble_eq_true rfl) dX2_takeLines_1 ?_
  rintro r_1 w1 ⟨tp, hr_, hw_, t1, t2, t3⟩
  subst hr_
  subst hw_
  refine Z.istore_n (lv' := [(2, .int (zI tp)), (0, .ref (h 4)), (1, .ref (h 1))]) hX dX2_takeLines_4 rfl (by decide) rfl ?_
  refine Z.iconst hX dX2_takeLines_5 ?_
  refine Z.istore_n (lv' := [(3, .int (zI 0)), (2, .int (zI tp)), (0, .ref (h 4)), (1, .ref (h 1))]) hX dX2_takeLines_6 rfl (by decide) rfl ?_
  have key_7 : ∀ (N : Nat), ∀ (i : Int) (BB : Nat → Int) (MM : Nat → Nat → Int64), (tp - i).toNat < N → (hi : 0 ≤ i ∧ i ≤ tp) → (hM : BOK BB) → (hmv : MVz BB MM (fun t => dva (zL3 L t)) (fun t => dvn (tp).toNat (zL3 L t)) i) → (hfr36 : ∀ k, 36 ≤ k → BB k = B k ∧ MM k = J k) → Z p l e { frames := 4, cells := 0, slots := 0, locals := 94 } s m args below meth c D A 4 0 0 Q 7 [(3, .int (zI i)), (2, .int (zI tp)), (1, .ref (h 1)), (0, .ref (h 4))] [] (cW ce h pl ar G L BB MM) := by
    intro N
    induction N with
    | zero => intro i BB MM hm; exact absurd hm (Nat.not_lt_zero _)
    | succ N ih_7 =>
      intro i BB MM hm hi hM hmv hfr36
      refine Z.iload_n hX dX2_takeLines_7 rfl rfl ?_
      refine Z.iload_n hX dX2_takeLines_8 rfl rfl ?_
      refine Z.icmp_ge hX 50 dX2_takeLines_9 (by decide) ⟨by omega, by omega⟩ ⟨by omega, by omega⟩ ?_ ?_
      · intro c2
        refine Z.iload_n hX dX2_takeLines_50 rfl rfl ?_
        refine Z.iconst hX dX2_takeLines_51 ?_
        refine Z.icmp_ge hX 59 dX2_takeLines_52 (by decide) ⟨by omega, by omega⟩ ⟨by omega, by omega⟩ ?_ ?_
        · intro c3
          refine Z.iload_n hX dX2_takeLines_59 rfl rfl ?_
          refine Z.iconst hX dX2_takeLines_60 ?_
          refine Z.isub hX dX2_takeLines_61 ?_
          exact hR _ _ _ _ dX2_takeLines_62 ⟨(tp - 1), BB, MM, rfl, rfl, hM, (by omega), ⟨tp, ⟨t1, t2, t3⟩, Or.inr ⟨by omega, rfl⟩⟩, (fun _ => by rw [show tp - 1 + 1 = i by omega]; rw [show tp = i by omega] at hmv; exact hmv), hfr36⟩
        · intro c3
          refine Z.iconst hX dX2_takeLines_55 ?_
          refine Z.goto hX 62 dX2_takeLines_56 (by decide) ?_
          exact hR _ _ _ _ dX2_takeLines_62 ⟨0, BB, MM, rfl, rfl, hM, (by omega), ⟨tp, ⟨t1, t2, t3⟩, Or.inl ⟨by omega, rfl⟩⟩, (fun q => absurd q (by decide)), hfr36⟩
      · intro c2
        refine Z.aload_n hX dX2_takeLines_12 rfl rfl ?_
        refine Z.getf hX 2 4 0 dX2_takeLines_13 rfl rfl inX2 (by decide) fl_X2_11 rfl rfl ?_
        refine Z.iload_n hX dX2_takeLines_16 rfl rfl ?_
        refine Z.aaload hX 14 4 dX2_takeLines_17 rfl rfl rfl (by omega) (by omega) (by decide) rfl ?_
        refine Z.aload_n hX dX2_takeLines_18 rfl rfl ?_
        refine Z.iload_n hX dX2_takeLines_19 rfl rfl ?_
        refine Z.iconst hX dX2_takeLines_20 ?_
        refine Z.iadd hX dX2_takeLines_21 ?_
        refine Z.iload_n hX dX2_takeLines_22 rfl rfl ?_
        refine Z.iconst hX dX2_takeLines_23 ?_
        refine Z.iadd hX dX2_takeLines_24 ?_
        refine Z.i2l hX dX2_takeLines_25 ⟨by omega, by omega⟩ ?_
        refine Z.callSfv (As := [.ref (pl (i : Int).toNat), .ref (h 1), .int (zI (i + 1)), .long (zL (i + 1))]) (rest := []) hX (ct_X2_setScaledLine_z l D ce h pl ar G L BB MM ((i : Int).toNat) (i + 1) (zL (i + 1)) hM (by omega) (by omega)) mc_X2_setScaledLine ml_X2_45 st_X2_setScaledLine ini_X2 nd_X2_setScaledLine ⟨Nat.le_of_ble_eq_true rfl, Nat.le_of_ble_eq_true rfl⟩ ⟨rfl, rfl⟩ ⟨Nat.le_refl _, Nat.le_refl _⟩ rfl (Nat.le_of_ble_eq_true rfl) dX2_takeLines_26 ?_
        rintro w1 ⟨Bs, Js, hw_, hs3, hs1, hs2, hs4, hs5⟩
        subst hw_
        refine Z.aload_n hX dX2_takeLines_29 rfl rfl ?_
        refine Z.getf hX 2 4 1 dX2_takeLines_30 rfl rfl inX2 (by decide) fl_X2_17 rfl rfl ?_
        refine Z.iload_n hX dX2_takeLines_33 rfl rfl ?_
        refine Z.aaload hX 15 4 dX2_takeLines_34 rfl rfl rfl (by omega) (by omega) (by decide) rfl ?_
        refine Z.aload_n hX dX2_takeLines_35 rfl rfl ?_
        refine Z.iload_n hX dX2_takeLines_36 rfl rfl ?_
        refine Z.iload_n hX dX2_takeLines_37 rfl rfl ?_
        refine Z.iload_n hX dX2_takeLines_38 rfl rfl ?_
        refine Z.isub hX dX2_takeLines_39 ?_
        refine Z.i2l hX dX2_takeLines_40 ⟨by omega, by omega⟩ ?_
        refine Z.callSfv (As := [.ref (pl (5 + (i : Int).toNat)), .ref (h 1), .int (zI i), .long (zL (tp - i))]) (rest := []) hX (ct_X2_setScaledLine_z l D ce h pl ar G L Bs Js ((5 + (i : Int).toNat)) i (zL (tp - i)) hs3 (by omega) (by omega)) mc_X2_setScaledLine ml_X2_45 st_X2_setScaledLine ini_X2 nd_X2_setScaledLine ⟨Nat.le_of_ble_eq_true rfl, Nat.le_of_ble_eq_true rfl⟩ ⟨rfl, rfl⟩ ⟨Nat.le_refl _, Nat.le_refl _⟩ rfl (Nat.le_of_ble_eq_true rfl) dX2_takeLines_41 ?_
        rintro w1 ⟨Bt, Jt, hw_, ht3, ht1, ht2, ht4, ht5⟩
        subst hw_
        refine Z.iinc (lv' := [(3, .int (zI (i + 1))), (2, .int (zI tp)), (1, .ref (h 1)), (0, .ref (h 4))]) hX dX2_takeLines_44 rfl (by decide) rfl ?_
        refine Z.goto hX 7 dX2_takeLines_47 (by decide) ?_
        refine Z.pick [0, 1, 2, 3] rfl ?_
        exact ih_7 _ _ _ (by omega) (by omega) ht3 (mvz_s (by omega) hmv hs1 hs2 hs4 (mv_l hbl (by omega) hs5) ht1 ht2 ht4 (mv_r hbl (by omega) ht5)) (fun k a => ⟨(ht1 k (by omega)).trans ((hs1 k (by omega)).trans ((hfr36 k a).1)), (ht2 k (by omega)).trans ((hs2 k (by omega)).trans ((hfr36 k a).2))⟩)
  refine Z.pick [0, 1, 3, 2] rfl ?_
  exact key_7 _ _ _ _ (Nat.lt_succ_self _) (by omega) hB mvz_0 (fun _ _ => ⟨rfl, rfl⟩)

set_option maxHeartbeats 4000000 in
set_option maxRecDepth 100000 in
theorem ct_X2_resultant_yw (l : Launch) (D : va_G) (ce : Nat → ClassId) (h pl ar : Nat → Nat) (G : Nat → Int) (L : Nat → Nat → Int64) (B : Nat → Int) (J : Nat → Nat → Int64) (size : Int) (hB : BOK B) (hs : 1 ≤ size ∧ size ≤ 4) (hmv : MVp B J L (size + 1)) (hsz : sz3 L) : Ct l yX2_resultant cX2_resultant 4 (some (.object "EliminateLoci$Plane")) { frames := 4, cells := 0, slots := 0, locals := 88 } 0 0 D (TY ce) [.ref (h 4), .int (zI size)] (cW ce h pl ar G L B J) (QR D (TY ce) (fun r w1 => ∃ k2 : Nat, ∃ B2 : Nat → Int, ∃ J2 : Nat → Nat → Int64, r = (pl k2) ∧ w1 = cW ce h pl ar G L B2 J2 ∧ (BOK B2) ∧ (k2 < 42 ∧ 20 ≤ k2 ∧ k2 < 36) ∧ (REp (J2 k2) L size ∧ PZ (J2 k2) (B2 k2)) ∧ (∀ k, 36 ≤ k → B2 k = B k ∧ J2 k = J k))) := by
  refine Ct.ofR (by decide) (Nat.le_of_ble_eq_true rfl) (Or.inl ⟨_, rfl⟩) ?_
  intro p e s m args below meth c A Q hX hnm hR
  refine Z.pick (lv' := [(0, .ref (h 4)), (1, .int (zI size))]) [0, 1] rfl ?_
  obtain ⟨T, hT, hT1, hT2, hT3⟩ := sh4y hs.1 hs.2
  refine Z.iconst hX dX2_resultant_0 ?_
  refine Z.istore_n (lv' := [(2, .int (zI 0)), (0, .ref (h 4)), (1, .int (zI size))]) hX dX2_resultant_1 rfl (by decide) rfl ?_
  have key_2 : ∀ (N : Nat), ∀ (i : Int) (BB : Nat → Int) (MM : Nat → Nat → Int64), (size - i).toNat < N → (hi : 0 ≤ i ∧ i ≤ size) → (hM : BOK BB) → (hen : ENp BB MM L size i i) → (hmv2 : MVp BB MM L (size + 1)) → (hfr36 : ∀ k, 36 ≤ k → BB k = B k ∧ MM k = J k) → Z p l e { frames := 4, cells := 0, slots := 0, locals := 88 } s m args below meth c D A 4 0 0 Q 2 [(2, .int (zI i)), (1, .int (zI size)), (0, .ref (h 4))] [] (cW ce h pl ar G L BB MM) := by
    intro N
    induction N with
    | zero => intro i BB MM hm; exact absurd hm (Nat.not_lt_zero _)
    | succ N ih_2 =>
      intro i BB MM hm hi hM hen hmv2 hfr36
      refine Z.iload_n hX dX2_resultant_2 rfl rfl ?_
      refine Z.iload_n hX dX2_resultant_3 rfl rfl ?_
      refine Z.icmp_ge hX 33 dX2_resultant_4 (by decide) ⟨by omega, by omega⟩ ⟨by omega, by omega⟩ ?_ ?_
      · intro c1
        refine Z.aload_n hX dX2_resultant_33 rfl rfl ?_
        refine Z.getf hX 2 4 3 dX2_resultant_34 rfl rfl inX2 (by decide) fl_X2_23 rfl rfl ?_
        refine Z.iconst hX dX2_resultant_37 ?_
        refine Z.aaload hX 17 4 dX2_resultant_38 rfl rfl rfl (by omega) (by omega) (by decide) rfl ?_
        refine Z.callVfv (As := []) (rest := []) hX 3 (24 + (20 + 0)) rfl (cW_pl (by omega)) (ct_X3_erase_y l D ce h pl ar G L BB MM ((20 + 0)) (by omega) hM) mc_X3_erase ml_X2_53 im_X3_erase se_X3_erase ini_X3 nd_X3_erase ⟨Nat.le_of_ble_eq_true rfl, Nat.le_of_ble_eq_true rfl⟩ ⟨rfl, rfl⟩ ⟨Nat.le_refl _, Nat.le_refl _⟩ rfl (Nat.le_of_ble_eq_true rfl) dX2_resultant_39 ?_
        rintro w1 ⟨Bp, Jp, hw_, hp1, hp2, hp3, hp4, hp5⟩
        subst hw_
        refine Z.aload_n hX dX2_resultant_42 rfl rfl ?_
        refine Z.getf hX 2 4 3 dX2_resultant_43 rfl rfl inX2 (by decide) fl_X2_23 rfl rfl ?_
        refine Z.iconst hX dX2_resultant_46 ?_
        refine Z.aaload hX 17 4 dX2_resultant_47 rfl rfl rfl (by omega) (by omega) (by decide) rfl ?_
        refine Z.getf hX 3 (24 + (20 + 0)) 0 dX2_resultant_48 (cW_pl (by omega)) rfl inX3 (by decide) fl_X2_56 rfl rfl ?_
        refine Z.iconst hX dX2_resultant_51 ?_
        refine Z.lconst (v := 1) hX dX2_resultant_52 rfl ?_
        refine Z.lastore hX (66 + (20 + 0)) 1 dX2_resultant_53 (cW_ar (by omega)) rfl (by omega) (by omega) (by decide) ?_
        obtain ⟨J3, eJ3⟩ : ∃ J' : Nat → Nat → Int64, J' = va_up Jp ((20 + 0)) (vp_updL (Jp ((20 + 0))) (0 : Int).toNat (1)) := ⟨_, rfl⟩
        refine Z.toW (w' := cW ce h pl ar G L Bp J3) (by rw [eJ3]; exact cW_setJ (by omega)) ?_
        have gJ3 : J3 ((20 + 0)) = vp_updL (Jp ((20 + 0))) (0 : Int).toNat (1) := by rw [eJ3]; exact up_eq
        have fJ3 : ∀ j_, j_ ≠ (20 + 0) → J3 j_ = Jp j_ := fun j_ hj_ => by rw [eJ3]; exact up_ne hj_
        refine Z.iconst hX dX2_resultant_54 ?_
        refine Z.iload_n hX dX2_resultant_55 rfl rfl ?_
        refine Z.ishl hX dX2_resultant_56 ?_
        refine Z.vali (y := zI T) hT ?_
        refine Z.iconst hX dX2_resultant_57 ?_
        refine Z.isub hX dX2_resultant_58 ?_
        refine Z.istore_n (lv' := [(2, .int (zI (T - 1))), (1, .int (zI size)), (0, .ref (h 4))]) hX dX2_resultant_59 rfl (by decide) rfl ?_
        refine Z.iconst hX dX2_resultant_60 ?_
        refine Z.istore_n (lv' := [(3, .int (zI 1)), (2, .int (zI (T - 1))), (1, .int (zI size)), (0, .ref (h 4))]) hX dX2_resultant_61 rfl (by decide) rfl ?_
        have key_62 : ∀ (N : Nat), ∀ (q : Int) (BB : Nat → Int) (MM : Nat → Nat → Int64), (T - q).toNat < N → (hq : 1 ≤ q ∧ q ≤ T) → (hM : BOK BB) → (hes : ENs BB MM L size) → (hmn : MNs BB MM L size q) → (hfr36 : ∀ k, 36 ≤ k → BB k = B k ∧ MM k = J k) → Z p l e { frames := 4, cells := 0, slots := 0, locals := 88 } s m args below meth c D A 4 0 0 Q 62 [(3, .int (zI q)), (2, .int (zI (T - 1))), (1, .int (zI size)), (0, .ref (h 4))] [] (cW ce h pl ar G L BB MM) := by
          intro N
          induction N with
          | zero => intro q BB MM hm; exact absurd hm (Nat.not_lt_zero _)
          | succ N ih_62 =>
            intro q BB MM hm hq hM hes hmn hfr36
            refine Z.iload_n hX dX2_resultant_62 rfl rfl ?_
            refine Z.iload_n hX dX2_resultant_63 rfl rfl ?_
            refine Z.icmp_gt hX 79 dX2_resultant_64 (by decide) ⟨by omega, by omega⟩ ⟨by omega, by omega⟩ ?_ ?_
            · intro c4
              refine Z.aload_n hX dX2_resultant_79 rfl rfl ?_
              refine Z.getf hX 2 4 3 dX2_resultant_80 rfl rfl inX2 (by decide) fl_X2_23 rfl rfl ?_
              refine Z.iload_n hX dX2_resultant_83 rfl rfl ?_
              refine Z.aaload hX 17 4 dX2_resultant_84 rfl rfl rfl (by omega) (by omega) (by decide) rfl ?_
              exact hR _ _ _ _ dX2_resultant_85 ⟨_, BB, MM, rfl, rfl, hM, (by omega), (by rw [show T = q by omega]; exact re_end hs (by omega) hmn), hfr36⟩
            · intro c4
              refine Z.aload_n hX dX2_resultant_67 rfl rfl ?_
              refine Z.iload_n hX dX2_resultant_68 rfl rfl ?_
              refine Z.iload_n hX dX2_resultant_69 rfl rfl ?_
              refine Z.callVfv (As := [.int (zI q), .int (zI size)]) (rest := []) hX 2 4 rfl rfl (ct_X2_fillMinor_y l D ce h pl ar G L BB MM q size hM (by omega) hs (pc4 hs (by omega) (by omega)) hes hmn) mc_X2_fillMinor ml_X2_60 im_X2_fillMinor se_X2_fillMinor ini_X2 nd_X2_fillMinor ⟨Nat.le_of_ble_eq_true rfl, Nat.le_of_ble_eq_true rfl⟩ ⟨rfl, rfl⟩ ⟨Nat.le_refl _, Nat.le_refl _⟩ rfl (Nat.le_of_ble_eq_true rfl) dX2_resultant_70 ?_
              rintro w1 ⟨Bg, Jg, hw_, hg1, hg2, hg3, hg4⟩
              subst hw_
              refine Z.iinc (lv' := [(3, .int (zI (q + 1))), (2, .int (zI (T - 1))), (1, .int (zI size)), (0, .ref (h 4))]) hX dX2_resultant_73 rfl (by decide) rfl ?_
              refine Z.goto hX 62 dX2_resultant_76 (by decide) ?_
              refine Z.pick [0, 1, 2, 3] rfl ?_
              exact ih_62 _ _ _ (by omega) (by omega) hg1 (en_c hes (fun k a b => hg2 k (by omega)) (fun k a b => hg3 k (by omega))) (mn_k (by omega) hmn hg2 hg3 hg4) (fun k a => ⟨(hg2 k (by omega)).trans ((hfr36 k a).1), (hg3 k (by omega)).trans ((hfr36 k a).2)⟩)
        refine Z.pick [0, 1, 2, 3] rfl ?_
        exact key_62 _ _ _ _ (Nat.lt_succ_self _) (by omega) hp3 (en_c (en_all (by omega) (by omega) hen) (fun k a b => hp1 k (by omega)) (fun k a b => by rw [fJ3 k (by omega)]; exact hp2 k (by omega))) (mn_k0 (J := Jp) hp5 gJ3 hp4) (fun k a => ⟨(hp1 k (by omega)).trans (hfr36 k a).1, (fJ3 k (by omega)).trans ((hp2 k (by omega)).trans (hfr36 k a).2)⟩)
      · intro c1
        refine Z.iload_n hX dX2_resultant_7 rfl rfl ?_
        refine Z.istore_n (lv' := [(3, .int (zI i)), (2, .int (zI i)), (1, .int (zI size)), (0, .ref (h 4))]) hX dX2_resultant_8 rfl (by decide) rfl ?_
        have key_9 : ∀ (N : Nat), ∀ (j : Int) (BB : Nat → Int) (MM : Nat → Nat → Int64), (size - j).toNat < N → (hj : i ≤ j ∧ j ≤ size) → (hM : BOK BB) → (hen : ENp BB MM L size i j) → (hmv2 : MVp BB MM L (size + 1)) → (hfr36 : ∀ k, 36 ≤ k → BB k = B k ∧ MM k = J k) → Z p l e { frames := 4, cells := 0, slots := 0, locals := 88 } s m args below meth c D A 4 0 0 Q 9 [(3, .int (zI j)), (2, .int (zI i)), (1, .int (zI size)), (0, .ref (h 4))] [] (cW ce h pl ar G L BB MM) := by
          intro N
          induction N with
          | zero => intro j BB MM hm; exact absurd hm (Nat.not_lt_zero _)
          | succ N ih_9 =>
            intro j BB MM hm hj hM hen hmv2 hfr36
            refine Z.iload_n hX dX2_resultant_9 rfl rfl ?_
            refine Z.iload_n hX dX2_resultant_10 rfl rfl ?_
            refine Z.icmp_ge hX 27 dX2_resultant_11 (by decide) ⟨by omega, by omega⟩ ⟨by omega, by omega⟩ ?_ ?_
            · intro c6
              refine Z.iinc (lv' := [(2, .int (zI (i + 1))), (3, .int (zI j)), (1, .int (zI size)), (0, .ref (h 4))]) hX dX2_resultant_27 rfl (by decide) rfl ?_
              refine Z.goto hX 2 dX2_resultant_30 (by decide) ?_
              refine Z.pick [0, 2, 3] rfl ?_
              exact ih_2 _ _ _ (by omega) (by omega) hM (en_r (by omega) hen) hmv2 hfr36
            · intro c6
              refine Z.aload_n hX dX2_resultant_14 rfl rfl ?_
              refine Z.iload_n hX dX2_resultant_15 rfl rfl ?_
              refine Z.iload_n hX dX2_resultant_16 rfl rfl ?_
              refine Z.iload_n hX dX2_resultant_17 rfl rfl ?_
              refine Z.callVfv (As := [.int (zI i), .int (zI j), .int (zI size)]) (rest := []) hX 2 4 rfl rfl (ct_X2_fillEntry_y l D ce h pl ar G L BB MM i j size hM (by omega) hmv2 hsz) mc_X2_fillEntry ml_X2_49 im_X2_fillEntry se_X2_fillEntry ini_X2 nd_X2_fillEntry ⟨Nat.le_of_ble_eq_true rfl, Nat.le_of_ble_eq_true rfl⟩ ⟨rfl, rfl⟩ ⟨Nat.le_refl _, Nat.le_refl _⟩ rfl (Nat.le_of_ble_eq_true rfl) dX2_resultant_18 ?_
              rintro w1 ⟨Bf, Jf, hw_, hf1, hf2, hf3, hf4⟩
              subst hw_
              have htl := tri_lt (i * 4 + j : Int).toNat
              have hen2 := en_s (by omega) (by omega) hen hf2 hf3 hf4
              have hmv3 : MVp Bf Jf L (size + 1) := mv_c (by omega) hmv2 (fun k hk => hf2 k (by omega)) (fun k hk => hf3 k (by omega))
              refine Z.iinc (lv' := [(3, .int (zI (j + 1))), (2, .int (zI i)), (1, .int (zI size)), (0, .ref (h 4))]) hX dX2_resultant_21 rfl (by decide) rfl ?_
              refine Z.goto hX 9 dX2_resultant_24 (by decide) ?_
              refine Z.pick [0, 1, 2, 3] rfl ?_
              exact ih_9 _ _ _ (by omega) (by omega) hf1 hen2 hmv3 (fun k a => ⟨(hf2 k (by omega)).trans ((hfr36 k a).1), (hf3 k (by omega)).trans ((hfr36 k a).2)⟩)
        refine Z.pick [0, 1, 2, 3] rfl ?_
        exact key_9 _ _ _ _ (Nat.lt_succ_self _) (by omega) hM hen hmv2 hfr36
  refine Z.pick [0, 2, 1] rfl ?_
  exact key_2 _ _ _ _ (Nat.lt_succ_self _) (by omega) hB (fun a b h1 h2 h3 h4 => by omega) hmv (fun _ _ => ⟨rfl, rfl⟩)

set_option maxHeartbeats 4000000 in
set_option maxRecDepth 100000 in
theorem ct_X2_resultant_zw (l : Launch) (D : va_G) (ce : Nat → ClassId) (h pl ar : Nat → Nat) (G : Nat → Int) (L : Nat → Nat → Int64) (B : Nat → Int) (J : Nat → Nat → Int64) (size : Int) (f g : Int → Nat → Int) (hB : BOK B) (hs : 1 ≤ size ∧ size ≤ 3) (hmv : MVz B J f g (size + 1)) (pf_ : ∀ k, Pf (fun t => f t k)) (pg_ : ∀ k, Pf (fun t => g t k)) : Ct l yX2_resultant cX2_resultant 4 (some (.object "EliminateLoci$Plane")) { frames := 4, cells := 0, slots := 0, locals := 88 } 0 0 D (TY ce) [.ref (h 4), .int (zI size)] (cW ce h pl ar G L B J) (QR D (TY ce) (fun r w1 => ∃ k2 : Nat, ∃ B2 : Nat → Int, ∃ J2 : Nat → Nat → Int64, r = (pl k2) ∧ w1 = cW ce h pl ar G L B2 J2 ∧ (BOK B2) ∧ (k2 < 42 ∧ 20 ≤ k2 ∧ k2 < 36) ∧ (REpz (J2 k2) f g size ∧ PZ (J2 k2) (B2 k2)) ∧ (∀ k, 36 ≤ k → B2 k = B k ∧ J2 k = J k))) := by
  refine Ct.ofR (by decide) (Nat.le_of_ble_eq_true rfl) (Or.inl ⟨_, rfl⟩) ?_
  intro p e s m args below meth c A Q hX hnm hR
  refine Z.pick (lv' := [(0, .ref (h 4)), (1, .int (zI size))]) [0, 1] rfl ?_
  obtain ⟨T, hT, hT1, hT2, hT3⟩ := sh4y (n := size) hs.1 (by omega)
  refine Z.iconst hX dX2_resultant_0 ?_
  refine Z.istore_n (lv' := [(2, .int (zI 0)), (0, .ref (h 4)), (1, .int (zI size))]) hX dX2_resultant_1 rfl (by decide) rfl ?_
  have key_2 : ∀ (N : Nat), ∀ (i : Int) (BB : Nat → Int) (MM : Nat → Nat → Int64), (size - i).toNat < N → (hi : 0 ≤ i ∧ i ≤ size) → (hM : BOK BB) → (hen : ENpz BB MM f g size i i) → (hmv2 : MVz BB MM f g (size + 1)) → (hfr36 : ∀ k, 36 ≤ k → BB k = B k ∧ MM k = J k) → Z p l e { frames := 4, cells := 0, slots := 0, locals := 88 } s m args below meth c D A 4 0 0 Q 2 [(2, .int (zI i)), (1, .int (zI size)), (0, .ref (h 4))] [] (cW ce h pl ar G L BB MM) := by
    intro N
    induction N with
    | zero => intro i BB MM hm; exact absurd hm (Nat.not_lt_zero _)
    | succ N ih_2 =>
      intro i BB MM hm hi hM hen hmv2 hfr36
      refine Z.iload_n hX dX2_resultant_2 rfl rfl ?_
      refine Z.iload_n hX dX2_resultant_3 rfl rfl ?_
      refine Z.icmp_ge hX 33 dX2_resultant_4 (by decide) ⟨by omega, by omega⟩ ⟨by omega, by omega⟩ ?_ ?_
      · intro c1
        refine Z.aload_n hX dX2_resultant_33 rfl rfl ?_
        refine Z.getf hX 2 4 3 dX2_resultant_34 rfl rfl inX2 (by decide) fl_X2_23 rfl rfl ?_
        refine Z.iconst hX dX2_resultant_37 ?_
        refine Z.aaload hX 17 4 dX2_resultant_38 rfl rfl rfl (by omega) (by omega) (by decide) rfl ?_
        refine Z.callVfv (As := []) (rest := []) hX 3 (24 + (20 + 0)) rfl (cW_pl (by omega)) (ct_X3_erase_y l D ce h pl ar G L BB MM ((20 + 0)) (by omega) hM) mc_X3_erase ml_X2_53 im_X3_erase se_X3_erase ini_X3 nd_X3_erase ⟨Nat.le_of_ble_eq_true rfl, Nat.le_of_ble_eq_true rfl⟩ ⟨rfl, rfl⟩ ⟨Nat.le_refl _, Nat.le_refl _⟩ rfl (Nat.le_of_ble_eq_true rfl) dX2_resultant_39 ?_
        rintro w1 ⟨Bp, Jp, hw_, hp1, hp2, hp3, hp4, hp5⟩
        subst hw_
        refine Z.aload_n hX dX2_resultant_42 rfl rfl ?_
        refine Z.getf hX 2 4 3 dX2_resultant_43 rfl rfl inX2 (by decide) fl_X2_23 rfl rfl ?_
        refine Z.iconst hX dX2_resultant_46 ?_
        refine Z.aaload hX 17 4 dX2_resultant_47 rfl rfl rfl (by omega) (by omega) (by decide) rfl ?_
        refine Z.getf hX 3 (24 + (20 + 0)) 0 dX2_resultant_48 (cW_pl (by omega)) rfl inX3 (by decide) fl_X2_56 rfl rfl ?_
        refine Z.iconst hX dX2_resultant_51 ?_
        refine Z.lconst (v := 1) hX dX2_resultant_52 rfl ?_
        refine Z.lastore hX (66 + (20 + 0)) 1 dX2_resultant_53 (cW_ar (by omega)) rfl (by omega) (by omega) (by decide) ?_
        obtain ⟨J3, eJ3⟩ : ∃ J' : Nat → Nat → Int64, J' = va_up Jp ((20 + 0)) (vp_updL (Jp ((20 + 0))) (0 : Int).toNat (1)) := ⟨_, rfl⟩
        refine Z.toW (w' := cW ce h pl ar G L Bp J3) (by rw [eJ3]; exact cW_setJ (by omega)) ?_
        have gJ3 : J3 ((20 + 0)) = vp_updL (Jp ((20 + 0))) (0 : Int).toNat (1) := by rw [eJ3]; exact up_eq
        have fJ3 : ∀ j_, j_ ≠ (20 + 0) → J3 j_ = Jp j_ := fun j_ hj_ => by rw [eJ3]; exact up_ne hj_
        refine Z.iconst hX dX2_resultant_54 ?_
        refine Z.iload_n hX dX2_resultant_55 rfl rfl ?_
        refine Z.ishl hX dX2_resultant_56 ?_
        refine Z.vali (y := zI T) hT ?_
        refine Z.iconst hX dX2_resultant_57 ?_
        refine Z.isub hX dX2_resultant_58 ?_
        refine Z.istore_n (lv' := [(2, .int (zI (T - 1))), (1, .int (zI size)), (0, .ref (h 4))]) hX dX2_resultant_59 rfl (by decide) rfl ?_
        refine Z.iconst hX dX2_resultant_60 ?_
        refine Z.istore_n (lv' := [(3, .int (zI 1)), (2, .int (zI (T - 1))), (1, .int (zI size)), (0, .ref (h 4))]) hX dX2_resultant_61 rfl (by decide) rfl ?_
        have key_62 : ∀ (N : Nat), ∀ (q : Int) (BB : Nat → Int) (MM : Nat → Nat → Int64), (T - q).toNat < N → (hq : 1 ≤ q ∧ q ≤ T) → (hM : BOK BB) → (hes : ENsz BB MM f g size) → (hmn : MNsz BB MM f g size q) → (hfr36 : ∀ k, 36 ≤ k → BB k = B k ∧ MM k = J k) → Z p l e { frames := 4, cells := 0, slots := 0, locals := 88 } s m args below meth c D A 4 0 0 Q 62 [(3, .int (zI q)), (2, .int (zI (T - 1))), (1, .int (zI size)), (0, .ref (h 4))] [] (cW ce h pl ar G L BB MM) := by
          intro N
          induction N with
          | zero => intro q BB MM hm; exact absurd hm (Nat.not_lt_zero _)
          | succ N ih_62 =>
            intro q BB MM hm hq hM hes hmn hfr36
            refine Z.iload_n hX dX2_resultant_62 rfl rfl ?_
            refine Z.iload_n hX dX2_resultant_63 rfl rfl ?_
            refine Z.icmp_gt hX 79 dX2_resultant_64 (by decide) ⟨by omega, by omega⟩ ⟨by omega, by omega⟩ ?_ ?_
            · intro c4
              refine Z.aload_n hX dX2_resultant_79 rfl rfl ?_
              refine Z.getf hX 2 4 3 dX2_resultant_80 rfl rfl inX2 (by decide) fl_X2_23 rfl rfl ?_
              refine Z.iload_n hX dX2_resultant_83 rfl rfl ?_
              refine Z.aaload hX 17 4 dX2_resultant_84 rfl rfl rfl (by omega) (by omega) (by decide) rfl ?_
              exact hR _ _ _ _ dX2_resultant_85 ⟨_, BB, MM, rfl, rfl, hM, (by omega), (by rw [show T = q by omega]; exact re_endz (by omega) (by omega) hmn), hfr36⟩
            · intro c4
              refine Z.aload_n hX dX2_resultant_67 rfl rfl ?_
              refine Z.iload_n hX dX2_resultant_68 rfl rfl ?_
              refine Z.iload_n hX dX2_resultant_69 rfl rfl ?_
              refine Z.callVfv (As := [.int (zI q), .int (zI size)]) (rest := []) hX 2 4 rfl rfl (ct_X2_fillMinor_z l D ce h pl ar G L BB MM q size f g hM (by omega) hs (pc4 (by omega) (by omega) (by omega)) hes hmn pf_ pg_) mc_X2_fillMinor ml_X2_60 im_X2_fillMinor se_X2_fillMinor ini_X2 nd_X2_fillMinor ⟨Nat.le_of_ble_eq_true rfl, Nat.le_of_ble_eq_true rfl⟩ ⟨rfl, rfl⟩ ⟨Nat.le_refl _, Nat.le_refl _⟩ rfl (Nat.le_of_ble_eq_true rfl) dX2_resultant_70 ?_
              rintro w1 ⟨Bg, Jg, hw_, hg1, hg2, hg3, hg4⟩
              subst hw_
              refine Z.iinc (lv' := [(3, .int (zI (q + 1))), (2, .int (zI (T - 1))), (1, .int (zI size)), (0, .ref (h 4))]) hX dX2_resultant_73 rfl (by decide) rfl ?_
              refine Z.goto hX 62 dX2_resultant_76 (by decide) ?_
              refine Z.pick [0, 1, 2, 3] rfl ?_
              exact ih_62 _ _ _ (by omega) (by omega) hg1 (en_cz hes (fun k a b => hg2 k (by omega)) (fun k a b => hg3 k (by omega))) (mn_kz (by omega) hmn hg2 hg3 hg4) (fun k a => ⟨(hg2 k (by omega)).trans ((hfr36 k a).1), (hg3 k (by omega)).trans ((hfr36 k a).2)⟩)
        refine Z.pick [0, 1, 2, 3] rfl ?_
        exact key_62 _ _ _ _ (Nat.lt_succ_self _) (by omega) hp3 (en_cz (en_allz (by omega) (by omega) hen) (fun k a b => hp1 k (by omega)) (fun k a b => by rw [fJ3 k (by omega)]; exact hp2 k (by omega))) (mn_k0z (J := Jp) hp5 gJ3 hp4) (fun k a => ⟨(hp1 k (by omega)).trans (hfr36 k a).1, (fJ3 k (by omega)).trans ((hp2 k (by omega)).trans (hfr36 k a).2)⟩)
      · intro c1
        refine Z.iload_n hX dX2_resultant_7 rfl rfl ?_
        refine Z.istore_n (lv' := [(3, .int (zI i)), (2, .int (zI i)), (1, .int (zI size)), (0, .ref (h 4))]) hX dX2_resultant_8 rfl (by decide) rfl ?_
        have key_9 : ∀ (N : Nat), ∀ (j : Int) (BB : Nat → Int) (MM : Nat → Nat → Int64), (size - j).toNat < N → (hj : i ≤ j ∧ j ≤ size) → (hM : BOK BB) → (hen : ENpz BB MM f g size i j) → (hmv2 : MVz BB MM f g (size + 1)) → (hfr36 : ∀ k, 36 ≤ k → BB k = B k ∧ MM k = J k) → Z p l e { frames := 4, cells := 0, slots := 0, locals := 88 } s m args below meth c D A 4 0 0 Q 9 [(3, .int (zI j)), (2, .int (zI i)), (1, .int (zI size)), (0, .ref (h 4))] [] (cW ce h pl ar G L BB MM) := by
          intro N
          induction N with
          | zero => intro j BB MM hm; exact absurd hm (Nat.not_lt_zero _)
          | succ N ih_9 =>
            intro j BB MM hm hj hM hen hmv2 hfr36
            refine Z.iload_n hX dX2_resultant_9 rfl rfl ?_
            refine Z.iload_n hX dX2_resultant_10 rfl rfl ?_
            refine Z.icmp_ge hX 27 dX2_resultant_11 (by decide) ⟨by omega, by omega⟩ ⟨by omega, by omega⟩ ?_ ?_
            · intro c6
              refine Z.iinc (lv' := [(2, .int (zI (i + 1))), (3, .int (zI j)), (1, .int (zI size)), (0, .ref (h 4))]) hX dX2_resultant_27 rfl (by decide) rfl ?_
              refine Z.goto hX 2 dX2_resultant_30 (by decide) ?_
              refine Z.pick [0, 2, 3] rfl ?_
              exact ih_2 _ _ _ (by omega) (by omega) hM (en_rz (by omega) hen) hmv2 hfr36
            · intro c6
              refine Z.aload_n hX dX2_resultant_14 rfl rfl ?_
              refine Z.iload_n hX dX2_resultant_15 rfl rfl ?_
              refine Z.iload_n hX dX2_resultant_16 rfl rfl ?_
              refine Z.iload_n hX dX2_resultant_17 rfl rfl ?_
              refine Z.callVfv (As := [.int (zI i), .int (zI j), .int (zI size)]) (rest := []) hX 2 4 rfl rfl (ct_X2_fillEntry_z l D ce h pl ar G L BB MM i j size f g hM (by omega) hmv2) mc_X2_fillEntry ml_X2_49 im_X2_fillEntry se_X2_fillEntry ini_X2 nd_X2_fillEntry ⟨Nat.le_of_ble_eq_true rfl, Nat.le_of_ble_eq_true rfl⟩ ⟨rfl, rfl⟩ ⟨Nat.le_refl _, Nat.le_refl _⟩ rfl (Nat.le_of_ble_eq_true rfl) dX2_resultant_18 ?_
              rintro w1 ⟨Bf, Jf, hw_, hf1, hf2, hf3, hf4⟩
              subst hw_
              have htl := tri_lt (i * 4 + j : Int).toNat
              have hen2 := en_sz (by omega) (by omega) hen hf2 hf3 hf4
              have hmv3 : MVz Bf Jf f g (size + 1) := mvz_c (by omega) hmv2 (fun k hk => hf2 k (by omega)) (fun k hk => hf3 k (by omega))
              refine Z.iinc (lv' := [(3, .int (zI (j + 1))), (2, .int (zI i)), (1, .int (zI size)), (0, .ref (h 4))]) hX dX2_resultant_21 rfl (by decide) rfl ?_
              refine Z.goto hX 9 dX2_resultant_24 (by decide) ?_
              refine Z.pick [0, 1, 2, 3] rfl ?_
              exact ih_9 _ _ _ (by omega) (by omega) hf1 hen2 hmv3 (fun k a => ⟨(hf2 k (by omega)).trans ((hfr36 k a).1), (hf3 k (by omega)).trans ((hfr36 k a).2)⟩)
        refine Z.pick [0, 1, 2, 3] rfl ?_
        exact key_9 _ _ _ _ (Nat.lt_succ_self _) (by omega) hM hen hmv2 hfr36
  refine Z.pick [0, 2, 1] rfl ?_
  exact key_2 _ _ _ _ (Nat.lt_succ_self _) (by omega) hB (fun a b h1 h2 h3 h4 => by omega) hmv (fun _ _ => ⟨rfl, rfl⟩)

set_option maxHeartbeats 4000000 in
set_option maxRecDepth 100000 in
theorem ct_X6_curveOf_lw (l : Launch) (D : va_G) (ce : Nat → ClassId) (h pl ar : Nat → Nat) (G : Nat → Int) (L : Nat → Nat → Int64) (B : Nat → Int) (J : Nat → Nat → Int64) (hok : cOK G B) (hbl : bL L) (hfi : FI G L) (hli : LI G L) (hle : LIe G L) (hlw : LIw G L B J) (hlx : LIx G L B J) : Ct l yX6_curveOf cX6_curveOf 4 (some (.object "EliminateLoci$Curve")) { frames := 5, cells := 0, slots := 0, locals := 139 } 0 0 D (TY ce) [.ref (h 0), .int (zI 0)] (cW ce h pl ar G L B J) (QR D (TY ce) (fun r w1 => ∃ G2 : Nat → Int, ∃ L2 : Nat → Nat → Int64, ∃ B2 : Nat → Int, ∃ J2 : Nat → Nat → Int64, r = (h 6) ∧ w1 = cW ce h pl ar G2 L2 B2 J2 ∧ (cOK G2 B2) ∧ (∀ k, k < 3 → L2 k = L k) ∧ (FI G2 L2) ∧ (LI G2 L2) ∧ (G2 2 = 1) ∧ (LIe G2 L2) ∧ (LIw G2 L2 B2 J2) ∧ (LIx G2 L2 B2 J2))) := by
  refine Ct.ofR (by decide) (Nat.le_of_ble_eq_true rfl) (Or.inl ⟨_, rfl⟩) ?_
  intro p e s m args below meth c A Q hX hnm hR
  refine Z.pick (lv' := [(0, .ref (h 0)), (1, .int (zI 0))]) [0, 1] rfl ?_
  obtain ⟨hB, hg0, hg2, hg3, hg5, hg6, hg1, hg4⟩ := id hok
  unfold bl at hg0 hg2 hg3 hg5 hg6
  refine Z.iload_n hX dX6_curveOf_0 rfl rfl ?_
  refine Z.if_ne hX 11 dX6_curveOf_1 (by decide) ⟨by omega, by omega⟩ ?_ ?_
  · intro c1; exfalso; revert c1; decide
  · intro c1
    refine Z.aload_n hX dX6_curveOf_4 rfl rfl ?_
    refine Z.getf hX 6 0 5 dX6_curveOf_5 rfl rfl inX6 (by decide) fl_X6_43 rfl rfl ?_
    refine Z.goto hX 15 dX6_curveOf_8 (by decide) ?_
    refine Z.astore_n (lv' := [(2, .ref (h 6)), (0, .ref (h 0)), (1, .int (zI 0))]) hX dX6_curveOf_15 rfl (by decide) rfl ?_
    refine Z.aload_n hX dX6_curveOf_16 rfl rfl ?_
    refine Z.getf hX 0 6 2 dX6_curveOf_17 rfl rfl inX0 (by decide) fl_X6_144 rfl rfl ?_
    refine Z.if_ne hX 90 dX6_curveOf_20 (by decide) ⟨by omega, by omega⟩ ?_ ?_
    · intro c2
      refine Z.aload_n hX dX6_curveOf_90 rfl rfl ?_
      exact hR _ _ _ _ dX6_curveOf_91 ⟨G, L, B, J, rfl, rfl, hok, (fun _ _ => rfl), hfi, hli, (by omega), hle, hlw, hlx⟩
    · intro c2
      refine Z.iload_n hX dX6_curveOf_23 rfl rfl ?_
      refine Z.if_ne hX 41 dX6_curveOf_24 (by decide) ⟨by omega, by omega⟩ ?_ ?_
      · intro c3; exfalso; revert c3; decide
      · intro c3
        refine Z.aload_n hX dX6_curveOf_27 rfl rfl ?_
        refine Z.getf hX 6 0 3 dX6_curveOf_28 rfl rfl inX6 (by decide) fl_X6_29 rfl rfl ?_
        refine Z.aload_n hX dX6_curveOf_31 rfl rfl ?_
        refine Z.callVfr (As := []) (rest := [.ref (h 4)]) hX 6 0 rfl rfl (ct_X6_freeRow_x l D ce h pl ar G L B J hok hbl hfi) mc_X6_freeRow ml_X6_83 im_X6_freeRow se_X6_freeRow ini_X6 nd_X6_freeRow ⟨Nat.le_of_ble_eq_true rfl, Nat.le_of_ble_eq_true rfl⟩ ⟨rfl, rfl⟩ ⟨Nat.le_refl _, Nat.le_refl _⟩ rfl (Nat.le_of_ble_eq_true rfl) dX6_curveOf_32 ?_
        rintro r_4 w1 ⟨Gf, Lf, hr_, hw_, fr1, fr2, fr3, fr4⟩
        subst hr_
        subst hw_
        refine Z.callVfi (As := [.ref (h 2)]) (rest := []) hX 2 4 rfl rfl (ct_X2_takeMover_w l D ce h pl ar Gf Lf B J hB) mc_X2_takeMover ml_X6_151 im_X2_takeMover se_X2_takeMover ini_X2 nd_X2_takeMover ⟨Nat.le_of_ble_eq_true rfl, Nat.le_of_ble_eq_true rfl⟩ ⟨rfl, rfl⟩ ⟨Nat.le_refl _, Nat.le_refl _⟩ rfl (Nat.le_of_ble_eq_true rfl) dX6_curveOf_35 ?_
        rintro r_5 w1 ⟨sz, Bk, Jk, hr_, hw_, tk1, tk2, tk3, tk4, tk5⟩
        subst hr_
        subst hw_
        refine Z.goto hX 52 dX6_curveOf_38 (by decide) ?_
        refine Z.istore_n (lv' := [(3, .int (zI sz)), (2, .ref (h 6)), (0, .ref (h 0)), (1, .int (zI 0))]) hX dX6_curveOf_52 rfl (by decide) rfl ?_
        refine Z.aload_n hX dX6_curveOf_53 rfl rfl ?_
        refine Z.iload_n hX dX6_curveOf_54 rfl rfl ?_
        refine Z.if_le hX 81 dX6_curveOf_55 (by decide) ⟨by omega, by omega⟩ ?_ ?_
        · intro c6
          refine Z.iconst hX dX6_curveOf_81 ?_
          refine Z.putf (ty := .boolean) hX 0 6 3 tyX0 dX6_curveOf_82 rfl rfl inX0 tyX0_ok nmX0 (by decide) fl_X6_106 rfl rfl (by decide +kernel) rfl rfl (Nat.le_of_ble_eq_true rfl) ?_
          obtain ⟨G7, eG7⟩ : ∃ F' : Nat → Int, F' = va_up Gf 3 (0) := ⟨_, rfl⟩
          refine Z.toW (w' := cW ce h pl ar G7 Lf Bk Jk) (by rw [eG7]; rfl) ?_
          have gG7 : G7 3 = 0 := by rw [eG7]; exact up_eq
          have fG7 : ∀ j_, j_ ≠ 3 → G7 j_ = Gf j_ := fun j_ hj_ => by rw [eG7]; exact up_ne hj_
          refine Z.aload_n hX dX6_curveOf_85 rfl rfl ?_
          refine Z.iconst hX dX6_curveOf_86 ?_
          refine Z.putf (ty := .boolean) hX 0 6 2 tyX0 dX6_curveOf_87 rfl rfl inX0 tyX0_ok nmX0 (by decide) fl_X6_144 rfl rfl (by decide +kernel) rfl rfl (Nat.le_of_ble_eq_true rfl) ?_
          obtain ⟨G8, eG8⟩ : ∃ F' : Nat → Int, F' = va_up G7 2 (1) := ⟨_, rfl⟩
          refine Z.toW (w' := cW ce h pl ar G8 Lf Bk Jk) (by rw [eG8]; rfl) ?_
          have gG8 : G8 2 = 1 := by rw [eG8]; exact up_eq
          have fG8 : ∀ j_, j_ ≠ 2 → G8 j_ = G7 j_ := fun j_ hj_ => by rw [eG8]; exact up_ne hj_
          refine Z.aload_n hX dX6_curveOf_90 rfl rfl ?_
          exact hR _ _ _ _ dX6_curveOf_91 ⟨G8, Lf, Bk, Jk, rfl, rfl, (cok_of tk1 (by have := fG7 0 (by decide); have := fG8 0 (by decide); unfold bl at *; omega) (by have := fr1 1 (by decide); have := fG7 1 (by decide); have := fG8 1 (by decide); unfold bl at *; omega) (by have := fr1 2 (by decide); have := fG7 2 (by decide); unfold bl at *; omega) (by have := fr1 3 (by decide); have := fG8 3 (by decide); unfold bl at *; omega) (by have := fr1 4 (by decide); have := fG7 4 (by decide); have := fG8 4 (by decide); unfold bl at *; omega) (by have := fr1 5 (by decide); have := fG7 5 (by decide); have := fG8 5 (by decide); unfold bl at *; omega) (by have := fr1 6 (by decide); have := fG7 6 (by decide); have := fG8 6 (by decide); unfold bl at *; omega)), (fun k h => fr3 k h), (FI_f fr3 fr4), (li_0 fr3 fr4 tk3 (by omega) ((fG8 3 (by decide)).trans gG7)), gG8, (LIe_k hle ((show ∀ j_ : Nat, j_ ≠ 0 → j_ ≠ 1 → j_ ≠ 2 → j_ ≠ 3 → G8 j_ = G j_ from (fun j_ h_0 h_1 h_2 h_3 => ((fG8 j_ h_2).trans ((fG7 j_ h_3).trans ((fr1 j_ h_0).trans rfl))))) 5 (by decide) (by decide) (by decide) (by decide)) ((show ∀ j_ : Nat, j_ ≠ 0 → j_ ≠ 1 → j_ ≠ 2 → j_ ≠ 3 → G8 j_ = G j_ from (fun j_ h_0 h_1 h_2 h_3 => ((fG8 j_ h_2).trans ((fG7 j_ h_3).trans ((fr1 j_ h_0).trans rfl))))) 6 (by decide) (by decide) (by decide) (by decide)) fr3), (by first | exact liw_1 hls.2 (fz6 (by omega)) rfl rfl ((fG8 1 (by decide)).trans (fG7 1 (by decide))) | exact fun _ q => absurd ((fG8 3 (by decide)).trans gG7) q), (LIx_k hlx ((show ∀ j_ : Nat, j_ ≠ 0 → j_ ≠ 1 → j_ ≠ 2 → j_ ≠ 3 → G8 j_ = G j_ from (fun j_ h_0 h_1 h_2 h_3 => ((fG8 j_ h_2).trans ((fG7 j_ h_3).trans ((fr1 j_ h_0).trans rfl))))) 4 (by decide) (by decide) (by decide) (by decide)) ((show ∀ j_ : Nat, j_ ≠ 0 → j_ ≠ 1 → j_ ≠ 2 → j_ ≠ 3 → G8 j_ = G j_ from (fun j_ h_0 h_1 h_2 h_3 => ((fG8 j_ h_2).trans ((fG7 j_ h_3).trans ((fr1 j_ h_0).trans rfl))))) 5 (by decide) (by decide) (by decide) (by decide)) ((show ∀ j_ : Nat, j_ ≠ 0 → j_ ≠ 1 → j_ ≠ 2 → j_ ≠ 3 → G8 j_ = G j_ from (fun j_ h_0 h_1 h_2 h_3 => ((fG8 j_ h_2).trans ((fG7 j_ h_3).trans ((fr1 j_ h_0).trans rfl))))) 6 (by decide) (by decide) (by decide) (by decide)) fr3 (by first | exact fz7.2.trans ((rs4 41 (by decide)).2.trans (tk5 41 (by decide)).2) | exact (tk5 41 (by decide)).2) (by first | exact fz7.1.trans ((rs4 41 (by decide)).1.trans (tk5 41 (by decide)).1) | exact (tk5 41 (by decide)).1))⟩
        · intro c6
          refine Z.aload_n hX dX6_curveOf_58 rfl rfl ?_
          refine Z.getf hX 6 0 4 dX6_curveOf_59 rfl rfl inX6 (by decide) fl_X6_36 rfl rfl ?_
          refine Z.aload_n hX dX6_curveOf_62 rfl rfl ?_
          refine Z.getf hX 6 0 3 dX6_curveOf_63 rfl rfl inX6 (by decide) fl_X6_29 rfl rfl ?_
          refine Z.iload_n hX dX6_curveOf_66 rfl rfl ?_
          refine Z.callVfr (As := [.int (zI sz)]) (rest := [.ref (h 5), .ref (h 6)]) hX 2 4 rfl rfl (ct_X2_resultant_yw l D ce h pl ar Gf Lf Bk Jk sz tk1 (by omega) tk4 (fr_sz hbl fr4)) mc_X2_resultant ml_X6_158 im_X2_resultant se_X2_resultant ini_X2 nd_X2_resultant ⟨Nat.le_of_ble_eq_true rfl, Nat.le_of_ble_eq_true rfl⟩ ⟨rfl, rfl⟩ ⟨Nat.le_refl _, Nat.le_refl _⟩ rfl (Nat.le_of_ble_eq_true rfl) dX6_curveOf_67 ?_
          rintro r_9 w1 ⟨kr, Br, Jr, hr_, hw_, rs1, rs2, rs3, rs4⟩
          subst hr_
          subst hw_
          have hls := loc_s (L := L) (L2 := Lf) hbl fr4 tk3 (by omega) rs3.1
          refine Z.aload_n hX dX6_curveOf_70 rfl rfl ?_
          refine Z.callVfi (As := [.ref (pl kr), .ref (h 6)]) (rest := [.ref (h 6)]) hX 4 5 rfl rfl (ct_X4_findRoot_lw l D ce h pl ar Gf Lf Br Jr kr rs1 (by omega) rs3.2 hls.1) mc_X4_findRoot ml_X6_162 im_X4_findRoot se_X4_findRoot ini_X4 nd_X4_findRoot ⟨Nat.le_of_ble_eq_true rfl, Nat.le_of_ble_eq_true rfl⟩ ⟨rfl, rfl⟩ ⟨Nat.le_refl _, Nat.le_refl _⟩ rfl (Nat.le_of_ble_eq_true rfl) dX6_curveOf_71 ?_
          rintro r_10 w1 ⟨fz, Gz, Bz, Jz, hr_, hw_, fz1, fz2, fz3, fz4, fz5, fz6, fz7⟩
          subst hr_
          subst hw_
          refine Z.if_eq hX 81 dX6_curveOf_74 (by decide) ⟨by omega, by omega⟩ ?_ ?_
          · intro c11
            refine Z.iconst hX dX6_curveOf_81 ?_
            refine Z.putf (ty := .boolean) hX 0 6 3 tyX0 dX6_curveOf_82 rfl rfl inX0 tyX0_ok nmX0 (by decide) fl_X6_106 rfl rfl (by decide +kernel) rfl rfl (Nat.le_of_ble_eq_true rfl) ?_
            obtain ⟨G12, eG12⟩ : ∃ F' : Nat → Int, F' = va_up Gz 3 (0) := ⟨_, rfl⟩
            refine Z.toW (w' := cW ce h pl ar G12 Lf Bz Jz) (by rw [eG12]; rfl) ?_
            have gG12 : G12 3 = 0 := by rw [eG12]; exact up_eq
            have fG12 : ∀ j_, j_ ≠ 3 → G12 j_ = Gz j_ := fun j_ hj_ => by rw [eG12]; exact up_ne hj_
            refine Z.aload_n hX dX6_curveOf_85 rfl rfl ?_
            refine Z.iconst hX dX6_curveOf_86 ?_
            refine Z.putf (ty := .boolean) hX 0 6 2 tyX0 dX6_curveOf_87 rfl rfl inX0 tyX0_ok nmX0 (by decide) fl_X6_144 rfl rfl (by decide +kernel) rfl rfl (Nat.le_of_ble_eq_true rfl) ?_
            obtain ⟨G13, eG13⟩ : ∃ F' : Nat → Int, F' = va_up G12 2 (1) := ⟨_, rfl⟩
            refine Z.toW (w' := cW ce h pl ar G13 Lf Bz Jz) (by rw [eG13]; rfl) ?_
            have gG13 : G13 2 = 1 := by rw [eG13]; exact up_eq
            have fG13 : ∀ j_, j_ ≠ 2 → G13 j_ = G12 j_ := fun j_ hj_ => by rw [eG13]; exact up_ne hj_
            refine Z.aload_n hX dX6_curveOf_90 rfl rfl ?_
            exact hR _ _ _ _ dX6_curveOf_91 ⟨G13, Lf, Bz, Jz, rfl, rfl, (cok_of fz2 (by have := fz3 0 (by decide); have := fG12 0 (by decide); have := fG13 0 (by decide); unfold bl at *; omega) (by have := fr1 1 (by decide); have := fG12 1 (by decide); have := fG13 1 (by decide); unfold bl at *; omega) (by have := fr1 2 (by decide); have := fz3 2 (by decide); have := fG12 2 (by decide); unfold bl at *; omega) (by have := fr1 3 (by decide); have := fz3 3 (by decide); have := fG13 3 (by decide); unfold bl at *; omega) (by have := fr1 4 (by decide); have := fz3 4 (by decide); have := fG12 4 (by decide); have := fG13 4 (by decide); unfold bl at *; omega) (by have := fr1 5 (by decide); have := fz3 5 (by decide); have := fG12 5 (by decide); have := fG13 5 (by decide); unfold bl at *; omega) (by have := fr1 6 (by decide); have := fz3 6 (by decide); have := fG12 6 (by decide); have := fG13 6 (by decide); unfold bl at *; omega)), (fun k h => fr3 k h), (FI_f fr3 fr4), (li_1 fr3 fr4 tk3 (by omega) rs3.1 fz5 (by have e_ := ((fG13 3 (by decide)).trans gG12); omega)), gG13, (LIe_k hle ((show ∀ j_ : Nat, j_ ≠ 0 → j_ ≠ 1 → j_ ≠ 2 → j_ ≠ 3 → G13 j_ = G j_ from (fun j_ h_0 h_1 h_2 h_3 => ((fG13 j_ h_2).trans ((fG12 j_ h_3).trans ((fz3 j_ h_1).trans ((fr1 j_ h_0).trans rfl)))))) 5 (by decide) (by decide) (by decide) (by decide)) ((show ∀ j_ : Nat, j_ ≠ 0 → j_ ≠ 1 → j_ ≠ 2 → j_ ≠ 3 → G13 j_ = G j_ from (fun j_ h_0 h_1 h_2 h_3 => ((fG13 j_ h_2).trans ((fG12 j_ h_3).trans ((fz3 j_ h_1).trans ((fr1 j_ h_0).trans rfl)))))) 6 (by decide) (by decide) (by decide) (by decide)) fr3), (by first | exact liw_1 hls.2 (fz6 (by omega)) rfl rfl ((fG13 1 (by decide)).trans (fG12 1 (by decide))) | exact fun _ q => absurd ((fG13 3 (by decide)).trans gG12) q), (LIx_k hlx ((show ∀ j_ : Nat, j_ ≠ 0 → j_ ≠ 1 → j_ ≠ 2 → j_ ≠ 3 → G13 j_ = G j_ from (fun j_ h_0 h_1 h_2 h_3 => ((fG13 j_ h_2).trans ((fG12 j_ h_3).trans ((fz3 j_ h_1).trans ((fr1 j_ h_0).trans rfl)))))) 4 (by decide) (by decide) (by decide) (by decide)) ((show ∀ j_ : Nat, j_ ≠ 0 → j_ ≠ 1 → j_ ≠ 2 → j_ ≠ 3 → G13 j_ = G j_ from (fun j_ h_0 h_1 h_2 h_3 => ((fG13 j_ h_2).trans ((fG12 j_ h_3).trans ((fz3 j_ h_1).trans ((fr1 j_ h_0).trans rfl)))))) 5 (by decide) (by decide) (by decide) (by decide)) ((show ∀ j_ : Nat, j_ ≠ 0 → j_ ≠ 1 → j_ ≠ 2 → j_ ≠ 3 → G13 j_ = G j_ from (fun j_ h_0 h_1 h_2 h_3 => ((fG13 j_ h_2).trans ((fG12 j_ h_3).trans ((fz3 j_ h_1).trans ((fr1 j_ h_0).trans rfl)))))) 6 (by decide) (by decide) (by decide) (by decide)) fr3 (by first | exact fz7.2.trans ((rs4 41 (by decide)).2.trans (tk5 41 (by decide)).2) | exact (tk5 41 (by decide)).2) (by first | exact fz7.1.trans ((rs4 41 (by decide)).1.trans (tk5 41 (by decide)).1) | exact (tk5 41 (by decide)).1))⟩
          · intro c11
            refine Z.iconst hX dX6_curveOf_77 ?_
            refine Z.goto hX 82 dX6_curveOf_78 (by decide) ?_
            refine Z.putf (ty := .boolean) hX 0 6 3 tyX0 dX6_curveOf_82 rfl rfl inX0 tyX0_ok nmX0 (by decide) fl_X6_106 rfl rfl (by decide +kernel) rfl rfl (Nat.le_of_ble_eq_true rfl) ?_
            obtain ⟨G14, eG14⟩ : ∃ F' : Nat → Int, F' = va_up Gz 3 (1) := ⟨_, rfl⟩
            refine Z.toW (w' := cW ce h pl ar G14 Lf Bz Jz) (by rw [eG14]; rfl) ?_
            have gG14 : G14 3 = 1 := by rw [eG14]; exact up_eq
            have fG14 : ∀ j_, j_ ≠ 3 → G14 j_ = Gz j_ := fun j_ hj_ => by rw [eG14]; exact up_ne hj_
            refine Z.aload_n hX dX6_curveOf_85 rfl rfl ?_
            refine Z.iconst hX dX6_curveOf_86 ?_
            refine Z.putf (ty := .boolean) hX 0 6 2 tyX0 dX6_curveOf_87 rfl rfl inX0 tyX0_ok nmX0 (by decide) fl_X6_144 rfl rfl (by decide +kernel) rfl rfl (Nat.le_of_ble_eq_true rfl) ?_
            obtain ⟨G15, eG15⟩ : ∃ F' : Nat → Int, F' = va_up G14 2 (1) := ⟨_, rfl⟩
            refine Z.toW (w' := cW ce h pl ar G15 Lf Bz Jz) (by rw [eG15]; rfl) ?_
            have gG15 : G15 2 = 1 := by rw [eG15]; exact up_eq
            have fG15 : ∀ j_, j_ ≠ 2 → G15 j_ = G14 j_ := fun j_ hj_ => by rw [eG15]; exact up_ne hj_
            refine Z.aload_n hX dX6_curveOf_90 rfl rfl ?_
            exact hR _ _ _ _ dX6_curveOf_91 ⟨G15, Lf, Bz, Jz, rfl, rfl, (cok_of fz2 (by have := fz3 0 (by decide); have := fG14 0 (by decide); have := fG15 0 (by decide); unfold bl at *; omega) (by have := fr1 1 (by decide); have := fG14 1 (by decide); have := fG15 1 (by decide); unfold bl at *; omega) (by have := fr1 2 (by decide); have := fz3 2 (by decide); have := fG14 2 (by decide); unfold bl at *; omega) (by have := fr1 3 (by decide); have := fz3 3 (by decide); have := fG15 3 (by decide); unfold bl at *; omega) (by have := fr1 4 (by decide); have := fz3 4 (by decide); have := fG14 4 (by decide); have := fG15 4 (by decide); unfold bl at *; omega) (by have := fr1 5 (by decide); have := fz3 5 (by decide); have := fG14 5 (by decide); have := fG15 5 (by decide); unfold bl at *; omega) (by have := fr1 6 (by decide); have := fz3 6 (by decide); have := fG14 6 (by decide); have := fG15 6 (by decide); unfold bl at *; omega)), (fun k h => fr3 k h), (FI_f fr3 fr4), (li_1 fr3 fr4 tk3 (by omega) rs3.1 fz5 (by have e_ := ((fG15 3 (by decide)).trans gG14); omega)), gG15, (LIe_k hle ((show ∀ j_ : Nat, j_ ≠ 0 → j_ ≠ 1 → j_ ≠ 2 → j_ ≠ 3 → G15 j_ = G j_ from (fun j_ h_0 h_1 h_2 h_3 => ((fG15 j_ h_2).trans ((fG14 j_ h_3).trans ((fz3 j_ h_1).trans ((fr1 j_ h_0).trans rfl)))))) 5 (by decide) (by decide) (by decide) (by decide)) ((show ∀ j_ : Nat, j_ ≠ 0 → j_ ≠ 1 → j_ ≠ 2 → j_ ≠ 3 → G15 j_ = G j_ from (fun j_ h_0 h_1 h_2 h_3 => ((fG15 j_ h_2).trans ((fG14 j_ h_3).trans ((fz3 j_ h_1).trans ((fr1 j_ h_0).trans rfl)))))) 6 (by decide) (by decide) (by decide) (by decide)) fr3), (by first | exact liw_1 hls.2 (fz6 (by omega)) rfl rfl ((fG15 1 (by decide)).trans (fG14 1 (by decide))) | exact fun _ q => absurd ((fG15 3 (by decide)).trans gG14) q), (LIx_k hlx ((show ∀ j_ : Nat, j_ ≠ 0 → j_ ≠ 1 → j_ ≠ 2 → j_ ≠ 3 → G15 j_ = G j_ from (fun j_ h_0 h_1 h_2 h_3 => ((fG15 j_ h_2).trans ((fG14 j_ h_3).trans ((fz3 j_ h_1).trans ((fr1 j_ h_0).trans rfl)))))) 4 (by decide) (by decide) (by decide) (by decide)) ((show ∀ j_ : Nat, j_ ≠ 0 → j_ ≠ 1 → j_ ≠ 2 → j_ ≠ 3 → G15 j_ = G j_ from (fun j_ h_0 h_1 h_2 h_3 => ((fG15 j_ h_2).trans ((fG14 j_ h_3).trans ((fz3 j_ h_1).trans ((fr1 j_ h_0).trans rfl)))))) 5 (by decide) (by decide) (by decide) (by decide)) ((show ∀ j_ : Nat, j_ ≠ 0 → j_ ≠ 1 → j_ ≠ 2 → j_ ≠ 3 → G15 j_ = G j_ from (fun j_ h_0 h_1 h_2 h_3 => ((fG15 j_ h_2).trans ((fG14 j_ h_3).trans ((fz3 j_ h_1).trans ((fr1 j_ h_0).trans rfl)))))) 6 (by decide) (by decide) (by decide) (by decide)) fr3 (by first | exact fz7.2.trans ((rs4 41 (by decide)).2.trans (tk5 41 (by decide)).2) | exact (tk5 41 (by decide)).2) (by first | exact fz7.1.trans ((rs4 41 (by decide)).1.trans (tk5 41 (by decide)).1) | exact (tk5 41 (by decide)).1))⟩

set_option maxHeartbeats 4000000 in
set_option maxRecDepth 100000 in
theorem ct_X6_curveOf_ew (l : Launch) (D : va_G) (ce : Nat → ClassId) (h pl ar : Nat → Nat) (G : Nat → Int) (L : Nat → Nat → Int64) (B : Nat → Int) (J : Nat → Nat → Int64) (hok : cOK G B) (hbl : bL L) (hfi : FI G L) (hli : LI G L) (hle : LIe G L) (hlw : LIw G L B J) (hlx : LIx G L B J) : Ct l yX6_curveOf cX6_curveOf 4 (some (.object "EliminateLoci$Curve")) { frames := 5, cells := 0, slots := 0, locals := 139 } 0 0 D (TY ce) [.ref (h 0), .int (zI 1)] (cW ce h pl ar G L B J) (QR D (TY ce) (fun r w1 => ∃ G2 : Nat → Int, ∃ L2 : Nat → Nat → Int64, ∃ B2 : Nat → Int, ∃ J2 : Nat → Nat → Int64, r = (h 7) ∧ w1 = cW ce h pl ar G2 L2 B2 J2 ∧ (cOK G2 B2) ∧ (∀ k, k < 3 → L2 k = L k) ∧ (FI G2 L2) ∧ (LI G2 L2) ∧ (LIe G2 L2) ∧ (G2 5 = 1) ∧ (LIw G2 L2 B2 J2) ∧ (LIx G2 L2 B2 J2))) := by
  refine Ct.ofR (by decide) (Nat.le_of_ble_eq_true rfl) (Or.inl ⟨_, rfl⟩) ?_
  intro p e s m args below meth c A Q hX hnm hR
  refine Z.pick (lv' := [(0, .ref (h 0)), (1, .int (zI 1))]) [0, 1] rfl ?_
  obtain ⟨hB, hg0, hg2, hg3, hg5, hg6, hg1, hg4⟩ := id hok
  unfold bl at hg0 hg2 hg3 hg5 hg6
  refine Z.iload_n hX dX6_curveOf_0 rfl rfl ?_
  refine Z.if_ne hX 11 dX6_curveOf_1 (by decide) ⟨by omega, by omega⟩ ?_ ?_
  · intro c1
    refine Z.aload_n hX dX6_curveOf_11 rfl rfl ?_
    refine Z.getf hX 6 0 6 dX6_curveOf_12 rfl rfl inX6 (by decide) fl_X6_47 rfl rfl ?_
    refine Z.astore_n (lv' := [(2, .ref (h 7)), (0, .ref (h 0)), (1, .int (zI 1))]) hX dX6_curveOf_15 rfl (by decide) rfl ?_
    refine Z.aload_n hX dX6_curveOf_16 rfl rfl ?_
    refine Z.getf hX 0 7 2 dX6_curveOf_17 rfl rfl inX0 (by decide) fl_X6_144 rfl rfl ?_
    refine Z.if_ne hX 90 dX6_curveOf_20 (by decide) ⟨by omega, by omega⟩ ?_ ?_
    · intro c2
      refine Z.aload_n hX dX6_curveOf_90 rfl rfl ?_
      exact hR _ _ _ _ dX6_curveOf_91 ⟨G, L, B, J, rfl, rfl, hok, (fun _ _ => rfl), hfi, hli, hle, (by omega), hlw, hlx⟩
    · intro c2
      refine Z.iload_n hX dX6_curveOf_23 rfl rfl ?_
      refine Z.if_ne hX 41 dX6_curveOf_24 (by decide) ⟨by omega, by omega⟩ ?_ ?_
      · intro c3
        refine Z.aload_n hX dX6_curveOf_41 rfl rfl ?_
        refine Z.getf hX 6 0 3 dX6_curveOf_42 rfl rfl inX6 (by decide) fl_X6_29 rfl rfl ?_
        refine Z.aload_n hX dX6_curveOf_45 rfl rfl ?_
        refine Z.getf hX 6 0 0 dX6_curveOf_46 rfl rfl inX6 (by decide) fl_X6_10 rfl rfl ?_
        refine Z.callVfi (As := [.ref (h 1)]) (rest := []) hX 2 4 rfl rfl (ct_X2_takeLines_w l D ce h pl ar G L B J hB hbl) mc_X2_takeLines ml_X6_155 im_X2_takeLines se_X2_takeLines ini_X2 nd_X2_takeLines ⟨Nat.le_of_ble_eq_true rfl, Nat.le_of_ble_eq_true rfl⟩ ⟨rfl, rfl⟩ ⟨Nat.le_refl _, Nat.le_refl _⟩ rfl (Nat.le_of_ble_eq_true rfl) dX6_curveOf_49 ?_
        rintro r_4 w1 ⟨sz, Bk, Jk, hr_, hw_, tk1, tk2, tk3, tk4, tk5⟩
        subst hr_
        subst hw_
        refine Z.istore_n (lv' := [(3, .int (zI sz)), (2, .ref (h 7)), (0, .ref (h 0)), (1, .int (zI 1))]) hX dX6_curveOf_52 rfl (by decide) rfl ?_
        refine Z.aload_n hX dX6_curveOf_53 rfl rfl ?_
        refine Z.iload_n hX dX6_curveOf_54 rfl rfl ?_
        refine Z.if_le hX 81 dX6_curveOf_55 (by decide) ⟨by omega, by omega⟩ ?_ ?_
        · intro c5
          refine Z.iconst hX dX6_curveOf_81 ?_
          refine Z.putf (ty := .boolean) hX 0 7 3 tyX0 dX6_curveOf_82 rfl rfl inX0 tyX0_ok nmX0 (by decide) fl_X6_106 rfl rfl (by decide +kernel) rfl rfl (Nat.le_of_ble_eq_true rfl) ?_
          obtain ⟨G6, eG6⟩ : ∃ F' : Nat → Int, F' = va_up G 6 (0) := ⟨_, rfl⟩
          refine Z.toW (w' := cW ce h pl ar G6 L Bk Jk) (by rw [eG6]; rfl) ?_
          have gG6 : G6 6 = 0 := by rw [eG6]; exact up_eq
          have fG6 : ∀ j_, j_ ≠ 6 → G6 j_ = G j_ := fun j_ hj_ => by rw [eG6]; exact up_ne hj_
          refine Z.aload_n hX dX6_curveOf_85 rfl rfl ?_
          refine Z.iconst hX dX6_curveOf_86 ?_
          refine Z.putf (ty := .boolean) hX 0 7 2 tyX0 dX6_curveOf_87 rfl rfl inX0 tyX0_ok nmX0 (by decide) fl_X6_144 rfl rfl (by decide +kernel) rfl rfl (Nat.le_of_ble_eq_true rfl) ?_
          obtain ⟨G7, eG7⟩ : ∃ F' : Nat → Int, F' = va_up G6 5 (1) := ⟨_, rfl⟩
          refine Z.toW (w' := cW ce h pl ar G7 L Bk Jk) (by rw [eG7]; rfl) ?_
          have gG7 : G7 5 = 1 := by rw [eG7]; exact up_eq
          have fG7 : ∀ j_, j_ ≠ 5 → G7 j_ = G6 j_ := fun j_ hj_ => by rw [eG7]; exact up_ne hj_
          refine Z.aload_n hX dX6_curveOf_90 rfl rfl ?_
          exact hR _ _ _ _ dX6_curveOf_91 ⟨G7, L, Bk, Jk, rfl, rfl, (cok_of tk1 (by have := fG6 0 (by decide); have := fG7 0 (by decide); unfold bl at *; omega) (by have := fG6 1 (by decide); have := fG7 1 (by decide); unfold bl at *; omega) (by have := fG6 2 (by decide); have := fG7 2 (by decide); unfold bl at *; omega) (by have := fG6 3 (by decide); have := fG7 3 (by decide); unfold bl at *; omega) (by have := fG6 4 (by decide); have := fG7 4 (by decide); unfold bl at *; omega) (by have := fG6 5 (by decide); unfold bl at *; omega) (by have := fG7 6 (by decide); unfold bl at *; omega)), (fun _ _ => rfl), (FI_k hfi (by have := fG6 0 (by decide); have := fG7 0 (by decide); unfold bl at *; omega) (fun _ _ => rfl)), (LI_k hli ((show ∀ j_ : Nat, j_ ≠ 4 → j_ ≠ 5 → j_ ≠ 6 → G7 j_ = G j_ from (fun j_ h_4 h_5 h_6 => ((fG7 j_ h_5).trans ((fG6 j_ h_6).trans rfl)))) 2 (by decide) (by decide) (by decide)) ((show ∀ j_ : Nat, j_ ≠ 4 → j_ ≠ 5 → j_ ≠ 6 → G7 j_ = G j_ from (fun j_ h_4 h_5 h_6 => ((fG7 j_ h_5).trans ((fG6 j_ h_6).trans rfl)))) 3 (by decide) (by decide) (by decide)) (fun _ _ => rfl)), (lie_0 tk3 (by omega) ((fG7 6 (by decide)).trans gG6)), gG7, (LIw_k hlw ((show ∀ j_ : Nat, j_ ≠ 4 → j_ ≠ 5 → j_ ≠ 6 → G7 j_ = G j_ from (fun j_ h_4 h_5 h_6 => ((fG7 j_ h_5).trans ((fG6 j_ h_6).trans rfl)))) 1 (by decide) (by decide) (by decide)) ((show ∀ j_ : Nat, j_ ≠ 4 → j_ ≠ 5 → j_ ≠ 6 → G7 j_ = G j_ from (fun j_ h_4 h_5 h_6 => ((fG7 j_ h_5).trans ((fG6 j_ h_6).trans rfl)))) 2 (by decide) (by decide) (by decide)) ((show ∀ j_ : Nat, j_ ≠ 4 → j_ ≠ 5 → j_ ≠ 6 → G7 j_ = G j_ from (fun j_ h_4 h_5 h_6 => ((fG7 j_ h_5).trans ((fG6 j_ h_6).trans rfl)))) 3 (by decide) (by decide) (by decide)) (fun _ _ => rfl) (by first | exact fz7.2.trans ((rs4 40 (by decide)).2.trans (tk5 40 (by decide)).2) | exact (tk5 40 (by decide)).2) (by first | exact fz7.1.trans ((rs4 40 (by decide)).1.trans (tk5 40 (by decide)).1) | exact (tk5 40 (by decide)).1)), (by first | exact lix_1 hls.2 (fz6 (by omega)) rfl rfl ((fG7 4 (by decide)).trans (fG6 4 (by decide))) | exact fun _ q => absurd ((fG7 6 (by decide)).trans gG6) q)⟩
        · intro c5
          refine Z.aload_n hX dX6_curveOf_58 rfl rfl ?_
          refine Z.getf hX 6 0 4 dX6_curveOf_59 rfl rfl inX6 (by decide) fl_X6_36 rfl rfl ?_
          refine Z.aload_n hX dX6_curveOf_62 rfl rfl ?_
          refine Z.getf hX 6 0 3 dX6_curveOf_63 rfl rfl inX6 (by decide) fl_X6_29 rfl rfl ?_
          refine Z.iload_n hX dX6_curveOf_66 rfl rfl ?_
          refine Z.callVfr (As := [.int (zI sz)]) (rest := [.ref (h 5), .ref (h 7)]) hX 2 4 rfl rfl (ct_X2_resultant_zw l D ce h pl ar G L Bk Jk sz ((fun t => dva (zL3 L t))) ((fun t => dvn (sz + 1).toNat (zL3 L t))) tk1 (by omega) (tk4 (by omega)) (Pf_za L) (Pf_zb L _)) mc_X2_resultant ml_X6_158 im_X2_resultant se_X2_resultant ini_X2 nd_X2_resultant ⟨Nat.le_of_ble_eq_true rfl, Nat.le_of_ble_eq_true rfl⟩ ⟨rfl, rfl⟩ ⟨Nat.le_refl _, Nat.le_refl _⟩ rfl (Nat.le_of_ble_eq_true rfl) dX6_curveOf_67 ?_
          rintro r_8 w1 ⟨kr, Br, Jr, hr_, hw_, rs1, rs2, rs3, rs4⟩
          subst hr_
          subst hw_
          have hls := env_s hbl tk3 (by omega) rs3.1
          refine Z.aload_n hX dX6_curveOf_70 rfl rfl ?_
          refine Z.callVfi (As := [.ref (pl kr), .ref (h 7)]) (rest := [.ref (h 7)]) hX 4 5 rfl rfl (ct_X4_findRoot_ew l D ce h pl ar G L Br Jr kr rs1 (by omega) rs3.2 hls.1) mc_X4_findRoot ml_X6_162 im_X4_findRoot se_X4_findRoot ini_X4 nd_X4_findRoot ⟨Nat.le_of_ble_eq_true rfl, Nat.le_of_ble_eq_true rfl⟩ ⟨rfl, rfl⟩ ⟨Nat.le_refl _, Nat.le_refl _⟩ rfl (Nat.le_of_ble_eq_true rfl) dX6_curveOf_71 ?_
          rintro r_9 w1 ⟨fz, Gz, Bz, Jz, hr_, hw_, fz1, fz2, fz3, fz4, fz5, fz6, fz7⟩
          subst hr_
          subst hw_
          refine Z.if_eq hX 81 dX6_curveOf_74 (by decide) ⟨by omega, by omega⟩ ?_ ?_
          · intro c10
            refine Z.iconst hX dX6_curveOf_81 ?_
            refine Z.putf (ty := .boolean) hX 0 7 3 tyX0 dX6_curveOf_82 rfl rfl inX0 tyX0_ok nmX0 (by decide) fl_X6_106 rfl rfl (by decide +kernel) rfl rfl (Nat.le_of_ble_eq_true rfl) ?_
            obtain ⟨G11, eG11⟩ : ∃ F' : Nat → Int, F' = va_up Gz 6 (0) := ⟨_, rfl⟩
            refine Z.toW (w' := cW ce h pl ar G11 L Bz Jz) (by rw [eG11]; rfl) ?_
            have gG11 : G11 6 = 0 := by rw [eG11]; exact up_eq
            have fG11 : ∀ j_, j_ ≠ 6 → G11 j_ = Gz j_ := fun j_ hj_ => by rw [eG11]; exact up_ne hj_
            refine Z.aload_n hX dX6_curveOf_85 rfl rfl ?_
            refine Z.iconst hX dX6_curveOf_86 ?_
            refine Z.putf (ty := .boolean) hX 0 7 2 tyX0 dX6_curveOf_87 rfl rfl inX0 tyX0_ok nmX0 (by decide) fl_X6_144 rfl rfl (by decide +kernel) rfl rfl (Nat.le_of_ble_eq_true rfl) ?_
            obtain ⟨G12, eG12⟩ : ∃ F' : Nat → Int, F' = va_up G11 5 (1) := ⟨_, rfl⟩
            refine Z.toW (w' := cW ce h pl ar G12 L Bz Jz) (by rw [eG12]; rfl) ?_
            have gG12 : G12 5 = 1 := by rw [eG12]; exact up_eq
            have fG12 : ∀ j_, j_ ≠ 5 → G12 j_ = G11 j_ := fun j_ hj_ => by rw [eG12]; exact up_ne hj_
            refine Z.aload_n hX dX6_curveOf_90 rfl rfl ?_
            exact hR _ _ _ _ dX6_curveOf_91 ⟨G12, L, Bz, Jz, rfl, rfl, (cok_of fz2 (by have := fz3 0 (by decide); have := fG11 0 (by decide); have := fG12 0 (by decide); unfold bl at *; omega) (by have := fz3 1 (by decide); have := fG11 1 (by decide); have := fG12 1 (by decide); unfold bl at *; omega) (by have := fz3 2 (by decide); have := fG11 2 (by decide); have := fG12 2 (by decide); unfold bl at *; omega) (by have := fz3 3 (by decide); have := fG11 3 (by decide); have := fG12 3 (by decide); unfold bl at *; omega) (by have := fG11 4 (by decide); have := fG12 4 (by decide); unfold bl at *; omega) (by have := fz3 5 (by decide); have := fG11 5 (by decide); unfold bl at *; omega) (by have := fz3 6 (by decide); have := fG12 6 (by decide); unfold bl at *; omega)), (fun _ _ => rfl), (FI_k hfi (by have := fz3 0 (by decide); have := fG11 0 (by decide); have := fG12 0 (by decide); unfold bl at *; omega) (fun _ _ => rfl)), (LI_k hli ((show ∀ j_ : Nat, j_ ≠ 4 → j_ ≠ 5 → j_ ≠ 6 → G12 j_ = G j_ from (fun j_ h_4 h_5 h_6 => ((fG12 j_ h_5).trans ((fG11 j_ h_6).trans ((fz3 j_ h_4).trans rfl))))) 2 (by decide) (by decide) (by decide)) ((show ∀ j_ : Nat, j_ ≠ 4 → j_ ≠ 5 → j_ ≠ 6 → G12 j_ = G j_ from (fun j_ h_4 h_5 h_6 => ((fG12 j_ h_5).trans ((fG11 j_ h_6).trans ((fz3 j_ h_4).trans rfl))))) 3 (by decide) (by decide) (by decide)) (fun _ _ => rfl)), (lie_1 tk3 (by omega) rs3.1 fz5 (by have e_ := ((fG12 6 (by decide)).trans gG11); omega)), gG12, (LIw_k hlw ((show ∀ j_ : Nat, j_ ≠ 4 → j_ ≠ 5 → j_ ≠ 6 → G12 j_ = G j_ from (fun j_ h_4 h_5 h_6 => ((fG12 j_ h_5).trans ((fG11 j_ h_6).trans ((fz3 j_ h_4).trans rfl))))) 1 (by decide) (by decide) (by decide)) ((show ∀ j_ : Nat, j_ ≠ 4 → j_ ≠ 5 → j_ ≠ 6 → G12 j_ = G j_ from (fun j_ h_4 h_5 h_6 => ((fG12 j_ h_5).trans ((fG11 j_ h_6).trans ((fz3 j_ h_4).trans rfl))))) 2 (by decide) (by decide) (by decide)) ((show ∀ j_ : Nat, j_ ≠ 4 → j_ ≠ 5 → j_ ≠ 6 → G12 j_ = G j_ from (fun j_ h_4 h_5 h_6 => ((fG12 j_ h_5).trans ((fG11 j_ h_6).trans ((fz3 j_ h_4).trans rfl))))) 3 (by decide) (by decide) (by decide)) (fun _ _ => rfl) (by first | exact fz7.2.trans ((rs4 40 (by decide)).2.trans (tk5 40 (by decide)).2) | exact (tk5 40 (by decide)).2) (by first | exact fz7.1.trans ((rs4 40 (by decide)).1.trans (tk5 40 (by decide)).1) | exact (tk5 40 (by decide)).1)), (by first | exact lix_1 hls.2 (fz6 (by omega)) rfl rfl ((fG12 4 (by decide)).trans (fG11 4 (by decide))) | exact fun _ q => absurd ((fG12 6 (by decide)).trans gG11) q)⟩
          · intro c10
            refine Z.iconst hX dX6_curveOf_77 ?_
            refine Z.goto hX 82 dX6_curveOf_78 (by decide) ?_
            refine Z.putf (ty := .boolean) hX 0 7 3 tyX0 dX6_curveOf_82 rfl rfl inX0 tyX0_ok nmX0 (by decide) fl_X6_106 rfl rfl (by decide +kernel) rfl rfl (Nat.le_of_ble_eq_true rfl) ?_
            obtain ⟨G13, eG13⟩ : ∃ F' : Nat → Int, F' = va_up Gz 6 (1) := ⟨_, rfl⟩
            refine Z.toW (w' := cW ce h pl ar G13 L Bz Jz) (by rw [eG13]; rfl) ?_
            have gG13 : G13 6 = 1 := by rw [eG13]; exact up_eq
            have fG13 : ∀ j_, j_ ≠ 6 → G13 j_ = Gz j_ := fun j_ hj_ => by rw [eG13]; exact up_ne hj_
            refine Z.aload_n hX dX6_curveOf_85 rfl rfl ?_
            refine Z.iconst hX dX6_curveOf_86 ?_
            refine Z.putf (ty := .boolean) hX 0 7 2 tyX0 dX6_curveOf_87 rfl rfl inX0 tyX0_ok nmX0 (by decide) fl_X6_144 rfl rfl (by decide +kernel) rfl rfl (Nat.le_of_ble_eq_true rfl) ?_
            obtain ⟨G14, eG14⟩ : ∃ F' : Nat → Int, F' = va_up G13 5 (1) := ⟨_, rfl⟩
            refine Z.toW (w' := cW ce h pl ar G14 L Bz Jz) (by rw [eG14]; rfl) ?_
            have gG14 : G14 5 = 1 := by rw [eG14]; exact up_eq
            have fG14 : ∀ j_, j_ ≠ 5 → G14 j_ = G13 j_ := fun j_ hj_ => by rw [eG14]; exact up_ne hj_
            refine Z.aload_n hX dX6_curveOf_90 rfl rfl ?_
            exact hR _ _ _ _ dX6_curveOf_91 ⟨G14, L, Bz, Jz, rfl, rfl, (cok_of fz2 (by have := fz3 0 (by decide); have := fG13 0 (by decide); have := fG14 0 (by decide); unfold bl at *; omega) (by have := fz3 1 (by decide); have := fG13 1 (by decide); have := fG14 1 (by decide); unfold bl at *; omega) (by have := fz3 2 (by decide); have := fG13 2 (by decide); have := fG14 2 (by decide); unfold bl at *; omega) (by have := fz3 3 (by decide); have := fG13 3 (by decide); have := fG14 3 (by decide); unfold bl at *; omega) (by have := fG13 4 (by decide); have := fG14 4 (by decide); unfold bl at *; omega) (by have := fz3 5 (by decide); have := fG13 5 (by decide); unfold bl at *; omega) (by have := fz3 6 (by decide); have := fG14 6 (by decide); unfold bl at *; omega)), (fun _ _ => rfl), (FI_k hfi (by have := fz3 0 (by decide); have := fG13 0 (by decide); have := fG14 0 (by decide); unfold bl at *; omega) (fun _ _ => rfl)), (LI_k hli ((show ∀ j_ : Nat, j_ ≠ 4 → j_ ≠ 5 → j_ ≠ 6 → G14 j_ = G j_ from (fun j_ h_4 h_5 h_6 => ((fG14 j_ h_5).trans ((fG13 j_ h_6).trans ((fz3 j_ h_4).trans rfl))))) 2 (by decide) (by decide) (by decide)) ((show ∀ j_ : Nat, j_ ≠ 4 → j_ ≠ 5 → j_ ≠ 6 → G14 j_ = G j_ from (fun j_ h_4 h_5 h_6 => ((fG14 j_ h_5).trans ((fG13 j_ h_6).trans ((fz3 j_ h_4).trans rfl))))) 3 (by decide) (by decide) (by decide)) (fun _ _ => rfl)), (lie_1 tk3 (by omega) rs3.1 fz5 (by have e_ := ((fG14 6 (by decide)).trans gG13); omega)), gG14, (LIw_k hlw ((show ∀ j_ : Nat, j_ ≠ 4 → j_ ≠ 5 → j_ ≠ 6 → G14 j_ = G j_ from (fun j_ h_4 h_5 h_6 => ((fG14 j_ h_5).trans ((fG13 j_ h_6).trans ((fz3 j_ h_4).trans rfl))))) 1 (by decide) (by decide) (by decide)) ((show ∀ j_ : Nat, j_ ≠ 4 → j_ ≠ 5 → j_ ≠ 6 → G14 j_ = G j_ from (fun j_ h_4 h_5 h_6 => ((fG14 j_ h_5).trans ((fG13 j_ h_6).trans ((fz3 j_ h_4).trans rfl))))) 2 (by decide) (by decide) (by decide)) ((show ∀ j_ : Nat, j_ ≠ 4 → j_ ≠ 5 → j_ ≠ 6 → G14 j_ = G j_ from (fun j_ h_4 h_5 h_6 => ((fG14 j_ h_5).trans ((fG13 j_ h_6).trans ((fz3 j_ h_4).trans rfl))))) 3 (by decide) (by decide) (by decide)) (fun _ _ => rfl) (by first | exact fz7.2.trans ((rs4 40 (by decide)).2.trans (tk5 40 (by decide)).2) | exact (tk5 40 (by decide)).2) (by first | exact fz7.1.trans ((rs4 40 (by decide)).1.trans (tk5 40 (by decide)).1) | exact (tk5 40 (by decide)).1)), (by first | exact lix_1 hls.2 (fz6 (by omega)) rfl rfl ((fG14 4 (by decide)).trans (fG13 4 (by decide))) | exact fun _ q => absurd ((fG14 6 (by decide)).trans gG13) q)⟩
      · intro c3; exfalso; revert c3; decide
  · intro c1; exfalso; revert c1; decide

set_option maxHeartbeats 4000000 in
set_option maxRecDepth 100000 in
theorem ct_X6_term_w (l : Launch) (D : va_G) (ce : Nat → ClassId) (h pl ar : Nat → Nat) (G : Nat → Int) (L : Nat → Nat → Int64) (B : Nat → Int) (J : Nat → Nat → Int64) (wh i v : Int) (hok : cOK G B) (hbl : bL L) (hfi : FI G L) (hw : -2147483648 ≤ wh ∧ wh < 2147483648) (hi : -2147483648 ≤ i ∧ i < 2147483648) (hv : -2147483648 ≤ v ∧ v < 2147483648) (hli : LI G L) (hle : LIe G L) (hlw : LIw G L B J) (hlx : LIx G L B J) : Ct l yX6_term cX6_term 5 (some .int) { frames := 1, cells := 0, slots := 0, locals := 21 } 0 0 D (TY ce) [.ref (h 0), .int (zI wh), .int (zI i), .int (zI v)] (cW ce h pl ar G L B J) (QI D (TY ce) (fun r w1 => ∃ z : Int, ∃ G2 : Nat → Int, ∃ L2 : Nat → Nat → Int64, ∃ B2 : Nat → Int, ∃ J2 : Nat → Nat → Int64, r = zI z ∧ w1 = cW ce h pl ar G2 L2 B2 J2 ∧ (cOK G2 B2) ∧ (¬ (0 ≤ wh ∧ wh ≤ 2 ∧ 0 ≤ i ∧ i ≤ 4 ∧ -7 ≤ v ∧ v ≤ 7) → z = -100 ∧ L2 = L) ∧ ((0 ≤ wh ∧ wh ≤ 2 ∧ 0 ≤ i ∧ i ≤ 4 ∧ -7 ≤ v ∧ v ≤ 7) → (L wh.toNat i.toNat).toInt32 = zI z ∧ ((z = v ∧ L2 = L) ∨ (L2 wh.toNat = vp_updL (L wh.toNat) i.toNat (zL v) ∧ ∀ k, k ≠ wh.toNat → L2 k = L k))) ∧ (FI G2 L2) ∧ (LI G2 L2) ∧ (LIe G2 L2) ∧ (LIw G2 L2 B2 J2) ∧ (LIx G2 L2 B2 J2))) := by
  refine Ct.ofI (by decide) (Nat.le_of_ble_eq_true rfl) ?_
  intro p e s m args below meth c A Q hX hnm hR
  refine Z.pick (lv' := [(0, .ref (h 0)), (1, .int (zI wh)), (2, .int (zI i)), (3, .int (zI v))]) [0, 1, 2, 3] rfl ?_
  obtain ⟨hB, hg0, hg2, hg3, hg5, hg6, hg1, hg4⟩ := id hok
  unfold bl at hg0 hg2 hg3 hg5 hg6
  refine Z.iload_n hX dX6_term_0 rfl rfl ?_
  refine Z.callS0i (As := [.int (zI wh)]) (rest := []) hX (ct_X6_isPart l D ce wh (by omega)) mc_X6_isPart ml_X6_58 st_X6_isPart ini_X6 nd_X6_isPart ⟨Nat.le_of_ble_eq_true rfl, Nat.le_of_ble_eq_true rfl⟩ ⟨rfl, rfl⟩ ⟨Nat.le_refl _, Nat.le_refl _⟩ rfl (Nat.le_of_ble_eq_true rfl) dX6_term_1 ?_
  rintro r_1 w1 ⟨z1, hr_, hw_, p1⟩
  subst hr_
  refine ⟨hw_, ?_⟩
  refine Z.if_eq hX 23 dX6_term_4 (by decide) ⟨by omega, by omega⟩ ?_ ?_
  · intro c2
    refine Z.bipush hX dX6_term_23 (by decide) ?_
    exact hR _ _ _ _ dX6_term_25 ⟨(-100), G, L, B, J, rfl, rfl, hok, (fun _ => ⟨rfl, rfl⟩), (fun q => by omega), hfi, hli, hle, hlw, hlx⟩
  · intro c2
    refine Z.iload_n hX dX6_term_7 rfl rfl ?_
    refine Z.callS0i (As := [.int (zI i)]) (rest := []) hX (ct_X6_isPower l D ce i (by omega)) mc_X6_isPower ml_X6_62 st_X6_isPower ini_X6 nd_X6_isPower ⟨Nat.le_of_ble_eq_true rfl, Nat.le_of_ble_eq_true rfl⟩ ⟨rfl, rfl⟩ ⟨Nat.le_refl _, Nat.le_refl _⟩ rfl (Nat.le_of_ble_eq_true rfl) dX6_term_8 ?_
    rintro r_3 w1 ⟨z2, hr_, hw_, p2⟩
    subst hr_
    refine ⟨hw_, ?_⟩
    refine Z.if_eq hX 23 dX6_term_11 (by decide) ⟨by omega, by omega⟩ ?_ ?_
    · intro c4
      refine Z.bipush hX dX6_term_23 (by decide) ?_
      exact hR _ _ _ _ dX6_term_25 ⟨(-100), G, L, B, J, rfl, rfl, hok, (fun _ => ⟨rfl, rfl⟩), (fun q => by omega), hfi, hli, hle, hlw, hlx⟩
    · intro c4
      refine Z.iload_n hX dX6_term_14 rfl rfl ?_
      refine Z.bipush hX dX6_term_15 (by decide) ?_
      refine Z.callS0i (As := [.int (zI v), .int (zI 7)]) (rest := []) hX (ct_X6_isWithin l D ce v 7 hv (by omega)) mc_X6_isWithin ml_X6_65 st_X6_isWithin ini_X6 nd_X6_isWithin ⟨Nat.le_of_ble_eq_true rfl, Nat.le_of_ble_eq_true rfl⟩ ⟨rfl, rfl⟩ ⟨Nat.le_refl _, Nat.le_refl _⟩ rfl (Nat.le_of_ble_eq_true rfl) dX6_term_17 ?_
      rintro r_5 w1 ⟨z3, hr_, hw_, p3⟩
      subst hr_
      refine ⟨hw_, ?_⟩
      refine Z.if_ne hX 26 dX6_term_20 (by decide) ⟨by omega, by omega⟩ ?_ ?_
      · intro c6
        refine Z.aload_n hX dX6_term_26 rfl rfl ?_
        refine Z.getf hX 6 0 0 dX6_term_27 rfl rfl inX6 (by decide) fl_X6_10 rfl rfl ?_
        refine Z.getf hX 5 1 0 dX6_term_30 rfl rfl inX5 (by decide) fl_X6_69 rfl rfl ?_
        refine Z.iload_n hX dX6_term_33 rfl rfl ?_
        refine Z.aaload hX 9 3 dX6_term_34 rfl rfl rfl (by omega) (by omega) (by decide) rfl ?_
        refine Z.iload_n hX dX6_term_35 rfl rfl ?_
        refine Z.laload hX (18 + (wh : Int).toNat) 1 dX6_term_36 (cW_in (by omega)) rfl (by omega) (by omega) (by decide) ?_
        refine Z.l2i hX dX6_term_37 ?_
        refine Z.topi (fun z7 hz7 kz7 ez7 => ?_)
        refine Z.istore (lv' := [(4, .int (zI z7)), (0, .ref (h 0)), (1, .int (zI wh)), (2, .int (zI i)), (3, .int (zI v))]) hX dX6_term_38 (by decide) rfl ?_
        refine Z.iload hX dX6_term_40 rfl ?_
        refine Z.iload_n hX dX6_term_42 rfl rfl ?_
        refine Z.icmp_eq hX 63 dX6_term_43 (by decide) ⟨by omega, by omega⟩ ⟨by omega, by omega⟩ ?_ ?_
        · intro c8
          refine Z.iload hX dX6_term_63 rfl ?_
          exact hR _ _ _ _ dX6_term_65 ⟨z7, G, L, B, J, rfl, rfl, hok, (fun q => absurd (by omega) q), (fun _ => ⟨by assumption, Or.inl ⟨by omega, rfl⟩⟩), hfi, hli, hle, hlw, hlx⟩
        · intro c8
          refine Z.aload_n hX dX6_term_46 rfl rfl ?_
          refine Z.getf hX 6 0 0 dX6_term_47 rfl rfl inX6 (by decide) fl_X6_10 rfl rfl ?_
          refine Z.getf hX 5 1 0 dX6_term_50 rfl rfl inX5 (by decide) fl_X6_69 rfl rfl ?_
          refine Z.iload_n hX dX6_term_53 rfl rfl ?_
          refine Z.aaload hX 9 3 dX6_term_54 rfl rfl rfl (by omega) (by omega) (by decide) rfl ?_
          refine Z.iload_n hX dX6_term_55 rfl rfl ?_
          refine Z.iload_n hX dX6_term_56 rfl rfl ?_
          refine Z.i2l hX dX6_term_57 ⟨by omega, by omega⟩ ?_
          refine Z.lastore hX (18 + (wh : Int).toNat) 1 dX6_term_58 (cW_in (by omega)) rfl (by omega) (by omega) (by decide) ?_
          obtain ⟨L9, eL9⟩ : ∃ J' : Nat → Nat → Int64, J' = va_up L ((wh : Int).toNat) (vp_updL (L ((wh : Int).toNat)) (i : Int).toNat (zL v)) := ⟨_, rfl⟩
          refine Z.toW (w' := cW ce h pl ar G L9 B J) (by rw [eL9]; exact cW_setL (by omega)) ?_
          have gL9 : L9 ((wh : Int).toNat) = vp_updL (L ((wh : Int).toNat)) (i : Int).toNat (zL v) := by rw [eL9]; exact up_eq
          have fL9 : ∀ j_, j_ ≠ (wh : Int).toNat → L9 j_ = L j_ := fun j_ hj_ => by rw [eL9]; exact up_ne hj_
          refine Z.aload_n hX dX6_term_59 rfl rfl ?_
          refine Z.callVfv (As := []) (rest := []) hX 6 0 rfl rfl (ct_X6_forget l D ce h pl ar G L9 B J ) mc_X6_forget ml_X6_73 im_X6_forget se_X6_forget ini_X6 nd_X6_forget ⟨Nat.le_of_ble_eq_true rfl, Nat.le_of_ble_eq_true rfl⟩ ⟨rfl, rfl⟩ ⟨Nat.le_refl _, Nat.le_refl _⟩ rfl (Nat.le_of_ble_eq_true rfl) dX6_term_60 ?_
          rintro w1 ⟨G211, hw_, fo1, fo2⟩
          subst hw_
          refine Z.iload hX dX6_term_63 rfl ?_
          exact hR _ _ _ _ dX6_term_65 ⟨z7, G211, L9, B, J, rfl, rfl, (cok_of hB (by omega) (by have := fo1 1 (by decide) (by decide) (by decide); omega) (by omega) (by have := fo1 3 (by decide) (by decide) (by decide); omega) (by have := fo1 4 (by decide) (by decide) (by decide); omega) (by omega) (by have := fo1 6 (by decide) (by decide) (by decide); omega)), (fun q => absurd (by omega) q), (fun _ => ⟨by assumption, Or.inr ⟨gL9, fL9⟩⟩), (fun q => by omega), (fun q => by omega), (fun q => by omega), (fun q => by omega), (fun q => by omega)⟩
      · intro c6
        refine Z.bipush hX dX6_term_23 (by decide) ?_
        exact hR _ _ _ _ dX6_term_25 ⟨(-100), G, L, B, J, rfl, rfl, hok, (fun _ => ⟨rfl, rfl⟩), (fun q => by omega), hfi, hli, hle, hlw, hlx⟩

set_option maxHeartbeats 4000000 in
set_option maxRecDepth 100000 in
theorem ct_X6_clear_w (l : Launch) (D : va_G) (ce : Nat → ClassId) (h pl ar : Nat → Nat) (G : Nat → Int) (L : Nat → Nat → Int64) (B : Nat → Int) (J : Nat → Nat → Int64) (hok : cOK G B) (hbl : bL L) (hfi : FI G L) (hli : LI G L) (hle : LIe G L) (hlw : LIw G L B J) (hlx : LIx G L B J) : Ct l yX6_clear cX6_clear 2 (some .int) { frames := 1, cells := 0, slots := 0, locals := 23 } 0 0 D (TY ce) [.ref (h 0)] (cW ce h pl ar G L B J) (QI D (TY ce) (fun r w1 => ∃ z : Int, ∃ G2 : Nat → Int, ∃ L2 : Nat → Nat → Int64, ∃ B2 : Nat → Int, ∃ J2 : Nat → Nat → Int64, r = zI z ∧ w1 = cW ce h pl ar G2 L2 B2 J2 ∧ (cOK G2 B2) ∧ (z = cntB (fun q => L (q / 5) (q % 5)) 15) ∧ (∀ q : Int, 0 ≤ q → q < 15 → L2 (q.toNat / 5) (q.toNat % 5) = 0) ∧ (FI G2 L2) ∧ (LI G2 L2) ∧ (LIe G2 L2) ∧ (LIw G2 L2 B2 J2) ∧ (LIx G2 L2 B2 J2))) := by
  refine Ct.ofI (by decide) (Nat.le_of_ble_eq_true rfl) ?_
  intro p e s m args below meth c A Q hX hnm hR
  refine Z.pick (lv' := [(0, .ref (h 0))]) [0] rfl ?_
  obtain ⟨hB, hg0, hg2, hg3, hg5, hg6, hg1, hg4⟩ := id hok
  unfold bl at hg0 hg2 hg3 hg5 hg6
  refine Z.aload_n hX dX6_clear_0 rfl rfl ?_
  refine Z.getf hX 6 0 0 dX6_clear_1 rfl rfl inX6 (by decide) fl_X6_10 rfl rfl ?_
  refine Z.callVfi (As := []) (rest := []) hX 5 1 rfl rfl (ct_X5_countAndErase l D ce h pl ar G L B J ) mc_X5_countAndErase ml_X6_76 im_X5_countAndErase se_X5_countAndErase ini_X5 nd_X5_countAndErase ⟨Nat.le_of_ble_eq_true rfl, Nat.le_of_ble_eq_true rfl⟩ ⟨rfl, rfl⟩ ⟨Nat.le_refl _, Nat.le_refl _⟩ rfl (Nat.le_of_ble_eq_true rfl) dX6_clear_4 ?_
  rintro r_1 w1 ⟨z2, L23, hr_, hw_, ce1, ce2, ce3⟩
  subst hr_
  subst hw_
  refine Z.istore_n (lv' := [(1, .int (zI z2)), (0, .ref (h 0))]) hX dX6_clear_7 rfl (by decide) rfl ?_
  refine Z.aload_n hX dX6_clear_8 rfl rfl ?_
  refine Z.callVfv (As := []) (rest := []) hX 6 0 rfl rfl (ct_X6_forget l D ce h pl ar G L23 B J ) mc_X6_forget ml_X6_73 im_X6_forget se_X6_forget ini_X6 nd_X6_forget ⟨Nat.le_of_ble_eq_true rfl, Nat.le_of_ble_eq_true rfl⟩ ⟨rfl, rfl⟩ ⟨Nat.le_refl _, Nat.le_refl _⟩ rfl (Nat.le_of_ble_eq_true rfl) dX6_clear_9 ?_
  rintro w1 ⟨G25, hw_, fo1, fo2⟩
  subst hw_
  refine Z.iload_n hX dX6_clear_12 rfl rfl ?_
  exact hR _ _ _ _ dX6_clear_13 ⟨z2, G25, L23, B, J, rfl, rfl, (cok_of hB (by omega) (by have := fo1 1 (by decide) (by decide) (by decide); omega) (by omega) (by have := fo1 3 (by decide) (by decide) (by decide); omega) (by have := fo1 4 (by decide) (by decide) (by decide); omega) (by omega) (by have := fo1 6 (by decide) (by decide) (by decide); omega)), ce1, ce2, (fun q => by omega), (fun q => by omega), (fun q => by omega), (fun q => by omega), (fun q => by omega)⟩

set_option maxHeartbeats 4000000 in
set_option maxRecDepth 100000 in
theorem ct_X6_degree_w (l : Launch) (D : va_G) (ce : Nat → ClassId) (h pl ar : Nat → Nat) (G : Nat → Int) (L : Nat → Nat → Int64) (B : Nat → Int) (J : Nat → Nat → Int64) (what : Int) (hok : cOK G B) (hbl : bL L) (hfi : FI G L) (hw : -2147483648 ≤ what ∧ what < 2147483648) (hli : LI G L) (hle : LIe G L) (hlw : LIw G L B J) (hlx : LIx G L B J) : Ct l yX6_degree cX6_degree 4 (some .int) { frames := 5, cells := 0, slots := 0, locals := 128 } 0 0 D (TY ce) [.ref (h 0), .int (zI what)] (cW ce h pl ar G L B J) (QI D (TY ce) (fun r w1 => ∃ z : Int, ∃ G2 : Nat → Int, ∃ L2 : Nat → Nat → Int64, ∃ B2 : Nat → Int, ∃ J2 : Nat → Nat → Int64, r = zI z ∧ w1 = cW ce h pl ar G2 L2 B2 J2 ∧ (cOK G2 B2) ∧ (∀ k, k < 3 → L2 k = L k) ∧ (¬ (0 ≤ what ∧ what ≤ 2) → z = -1) ∧ (what = 0 → HP L z) ∧ (FI G2 L2) ∧ (dgx L L2 what z) ∧ (LI G2 L2) ∧ (LIe G2 L2) ∧ (LIw G2 L2 B2 J2) ∧ (LIx G2 L2 B2 J2))) := by
  refine Ct.ofI (by decide) (Nat.le_of_ble_eq_true rfl) ?_
  intro p e s m args below meth c A Q hX hnm hR
  refine Z.pick (lv' := [(0, .ref (h 0)), (1, .int (zI what))]) [0, 1] rfl ?_
  obtain ⟨hB, hg0, hg2, hg3, hg5, hg6, hg1, hg4⟩ := id hok
  unfold bl at hg0 hg2 hg3 hg5 hg6
  refine Z.iload_n hX dX6_degree_0 rfl rfl ?_
  refine Z.if_lt hX 9 dX6_degree_1 (by decide) ⟨by omega, by omega⟩ ?_ ?_
  · intro c1
    refine Z.iconst hX dX6_degree_9 ?_
    exact hR _ _ _ _ dX6_degree_10 ⟨(-1), G, L, B, J, rfl, rfl, hok, (fun _ _ => rfl), (fun _ => rfl), (fun q => by omega), hfi, (fun q => by omega), hli, hle, hlw, hlx⟩
  · intro c1
    refine Z.iload_n hX dX6_degree_4 rfl rfl ?_
    refine Z.iconst hX dX6_degree_5 ?_
    refine Z.icmp_le hX 11 dX6_degree_6 (by decide) ⟨by omega, by omega⟩ ⟨by omega, by omega⟩ ?_ ?_
    · intro c2
      refine Z.aload_n hX dX6_degree_11 rfl rfl ?_
      refine Z.getf hX 6 0 0 dX6_degree_12 rfl rfl inX6 (by decide) fl_X6_10 rfl rfl ?_
      refine Z.callVfi (As := []) (rest := []) hX 5 1 rfl rfl (ct_X5_highestPower_r l D ce h pl ar G L B J ) mc_X5_highestPower ml_X6_80 im_X5_highestPower se_X5_highestPower ini_X5 nd_X5_highestPower ⟨Nat.le_of_ble_eq_true rfl, Nat.le_of_ble_eq_true rfl⟩ ⟨rfl, rfl⟩ ⟨Nat.le_refl _, Nat.le_refl _⟩ rfl (Nat.le_of_ble_eq_true rfl) dX6_degree_15 ?_
      rintro r_3 w1 ⟨nn, hr_, hw_, n1, n2, n3⟩
      subst hr_
      subst hw_
      refine Z.istore_n (lv' := [(2, .int (zI nn)), (0, .ref (h 0)), (1, .int (zI what))]) hX dX6_degree_18 rfl (by decide) rfl ?_
      refine Z.iload_n hX dX6_degree_19 rfl rfl ?_
      refine Z.if_ne hX 25 dX6_degree_20 (by decide) ⟨by omega, by omega⟩ ?_ ?_
      · intro c4
        refine Z.aload_n hX dX6_degree_25 rfl rfl ?_
        refine Z.callVfr (As := []) (rest := []) hX 6 0 rfl rfl (ct_X6_freeRow_x l D ce h pl ar G L B J hok hbl hfi) mc_X6_freeRow ml_X6_83 im_X6_freeRow se_X6_freeRow ini_X6 nd_X6_freeRow ⟨Nat.le_of_ble_eq_true rfl, Nat.le_of_ble_eq_true rfl⟩ ⟨rfl, rfl⟩ ⟨Nat.le_refl _, Nat.le_refl _⟩ rfl (Nat.le_of_ble_eq_true rfl) dX6_degree_26 ?_
        rintro r_5 w1 ⟨G26, L27, hr_, hw_, fr1, fr2, fr3, fr4⟩
        subst hr_
        subst hw_
        refine Z.callVfi (As := []) (rest := []) hX 5 2 rfl rfl (ct_X5_highestPower_f l D ce h pl ar G26 L27 B J ) mc_X5_highestPower ml_X6_80 im_X5_highestPower se_X5_highestPower ini_X5 nd_X5_highestPower ⟨Nat.le_of_ble_eq_true rfl, Nat.le_of_ble_eq_true rfl⟩ ⟨rfl, rfl⟩ ⟨Nat.le_refl _, Nat.le_refl _⟩ rfl (Nat.le_of_ble_eq_true rfl) dX6_degree_29 ?_
        rintro r_8 w1 ⟨nf, hr_, hw_, m1, m2, m3⟩
        subst hr_
        subst hw_
        refine Z.istore_n (lv' := [(3, .int (zI nf)), (2, .int (zI nn)), (0, .ref (h 0)), (1, .int (zI what))]) hX dX6_degree_32 rfl (by decide) rfl ?_
        refine Z.iload_n hX dX6_degree_33 rfl rfl ?_
        refine Z.iconst hX dX6_degree_34 ?_
        refine Z.icmp_ne hX 42 dX6_degree_35 (by decide) ⟨by omega, by omega⟩ ⟨by omega, by omega⟩ ?_ ?_
        · intro c9
          refine Z.iload_n hX dX6_degree_42 rfl rfl ?_
          refine Z.iload_n hX dX6_degree_43 rfl rfl ?_
          refine Z.isub hX dX6_degree_44 ?_
          exact hR _ _ _ _ dX6_degree_45 ⟨(nn - nf), G26, L27, B, J, rfl, rfl, (cok_of hB (by unfold bl at fr2; omega) (by have := fr1 1 (by decide); omega) (by have := fr1 2 (by decide); omega) (by have := fr1 3 (by decide); omega) (by have := fr1 4 (by decide); omega) (by have := fr1 5 (by decide); omega) (by have := fr1 6 (by decide); omega)), fr3, (fun q => by omega), (fun q => by omega), (FI_f fr3 fr4), (fun q => ⟨nn, nf, ⟨n1, n2, n3⟩, ⟨m1, m2, m3⟩, fr4, fun q1 => by first | rfl | omega, fun q1 => by first | rfl | omega⟩), (LI_f hli (fr1 2 (by decide)) (fr1 3 (by decide)) fr3 fr4), (LIe_k hle (fr1 5 (by decide)) (fr1 6 (by decide)) fr3), (LIw_f hlw hli (fr1 1 (by decide)) (fr1 2 (by decide)) (fr1 3 (by decide)) fr4 rfl rfl), (LIx_k hlx (fr1 4 (by decide)) (fr1 5 (by decide)) (fr1 6 (by decide)) fr3 rfl rfl)⟩
        · intro c9
          refine Z.iload_n hX dX6_degree_38 rfl rfl ?_
          refine Z.goto hX 45 dX6_degree_39 (by decide) ?_
          exact hR _ _ _ _ dX6_degree_45 ⟨nf, G26, L27, B, J, rfl, rfl, (cok_of hB (by unfold bl at fr2; omega) (by have := fr1 1 (by decide); omega) (by have := fr1 2 (by decide); omega) (by have := fr1 3 (by decide); omega) (by have := fr1 4 (by decide); omega) (by have := fr1 5 (by decide); omega) (by have := fr1 6 (by decide); omega)), fr3, (fun q => by omega), (fun q => by omega), (FI_f fr3 fr4), (fun q => ⟨nn, nf, ⟨n1, n2, n3⟩, ⟨m1, m2, m3⟩, fr4, fun q1 => by first | rfl | omega, fun q1 => by first | rfl | omega⟩), (LI_f hli (fr1 2 (by decide)) (fr1 3 (by decide)) fr3 fr4), (LIe_k hle (fr1 5 (by decide)) (fr1 6 (by decide)) fr3), (LIw_f hlw hli (fr1 1 (by decide)) (fr1 2 (by decide)) (fr1 3 (by decide)) fr4 rfl rfl), (LIx_k hlx (fr1 4 (by decide)) (fr1 5 (by decide)) (fr1 6 (by decide)) fr3 rfl rfl)⟩
      · intro c4
        refine Z.iload_n hX dX6_degree_23 rfl rfl ?_
        exact hR _ _ _ _ dX6_degree_24 ⟨nn, G, L, B, J, rfl, rfl, hok, (fun _ _ => rfl), (fun q => by omega), (fun _ => ⟨n1, n2, n3⟩), hfi, (fun q => by omega), hli, hle, hlw, hlx⟩
    · intro c2
      refine Z.iconst hX dX6_degree_9 ?_
      exact hR _ _ _ _ dX6_degree_10 ⟨(-1), G, L, B, J, rfl, rfl, hok, (fun _ _ => rfl), (fun _ => rfl), (fun q => by omega), hfi, (fun q => by omega), hli, hle, hlw, hlx⟩

set_option maxHeartbeats 4000000 in
set_option maxRecDepth 100000 in
theorem ct_X6_freed_w (l : Launch) (D : va_G) (ce : Nat → ClassId) (h pl ar : Nat → Nat) (G : Nat → Int) (L : Nat → Nat → Int64) (B : Nat → Int) (J : Nat → Nat → Int64) (wh i : Int) (hok : cOK G B) (hbl : bL L) (hfi : FI G L) (hw : -2147483648 ≤ wh ∧ wh < 2147483648) (hi : -2147483648 ≤ i ∧ i < 2147483648) (hli : LI G L) (hle : LIe G L) (hlw : LIw G L B J) (hlx : LIx G L B J) : Ct l yX6_freed cX6_freed 3 (some .int) { frames := 5, cells := 0, slots := 0, locals := 128 } 0 0 D (TY ce) [.ref (h 0), .int (zI wh), .int (zI i)] (cW ce h pl ar G L B J) (QI D (TY ce) (fun r w1 => ∃ z : Int, ∃ G2 : Nat → Int, ∃ L2 : Nat → Nat → Int64, ∃ B2 : Nat → Int, ∃ J2 : Nat → Nat → Int64, r = zI z ∧ w1 = cW ce h pl ar G2 L2 B2 J2 ∧ (cOK G2 B2) ∧ (∀ k, k < 3 → L2 k = L k) ∧ (¬ (0 ≤ wh ∧ wh ≤ 2 ∧ 0 ≤ i ∧ i ≤ 4) → z = -1000000) ∧ (FI G2 L2) ∧ ((0 ≤ wh ∧ wh ≤ 2 ∧ 0 ≤ i ∧ i ≤ 4) → FRs L (fun a => L2 (3 + a)) ∧ (L2 (3 + wh.toNat) i.toNat).toInt32 = zI z) ∧ (LI G2 L2) ∧ (LIe G2 L2) ∧ (LIw G2 L2 B2 J2) ∧ (LIx G2 L2 B2 J2))) := by
  refine Ct.ofI (by decide) (Nat.le_of_ble_eq_true rfl) ?_
  intro p e s m args below meth c A Q hX hnm hR
  refine Z.pick (lv' := [(0, .ref (h 0)), (1, .int (zI wh)), (2, .int (zI i))]) [0, 1, 2] rfl ?_
  obtain ⟨hB, hg0, hg2, hg3, hg5, hg6, hg1, hg4⟩ := id hok
  unfold bl at hg0 hg2 hg3 hg5 hg6
  refine Z.iload_n hX dX6_freed_0 rfl rfl ?_
  refine Z.callS0i (As := [.int (zI wh)]) (rest := []) hX (ct_X6_isPart l D ce wh (by omega)) mc_X6_isPart ml_X6_58 st_X6_isPart ini_X6 nd_X6_isPart ⟨Nat.le_of_ble_eq_true rfl, Nat.le_of_ble_eq_true rfl⟩ ⟨rfl, rfl⟩ ⟨Nat.le_refl _, Nat.le_refl _⟩ rfl (Nat.le_of_ble_eq_true rfl) dX6_freed_1 ?_
  rintro r_1 w1 ⟨z1, hr_, hw_, p1⟩
  subst hr_
  refine ⟨hw_, ?_⟩
  refine Z.if_eq hX 14 dX6_freed_4 (by decide) ⟨by omega, by omega⟩ ?_ ?_
  · intro c2
    refine Z.ldc hX (-1000000) dX6_freed_14 co_X6_87 rfl ?_
    exact hR _ _ _ _ dX6_freed_16 ⟨((-1000000)), G, L, B, J, rfl, rfl, hok, (fun _ _ => rfl), (fun _ => rfl), hfi, (fun q => by omega), hli, hle, hlw, hlx⟩
  · intro c2
    refine Z.iload_n hX dX6_freed_7 rfl rfl ?_
    refine Z.callS0i (As := [.int (zI i)]) (rest := []) hX (ct_X6_isPower l D ce i (by omega)) mc_X6_isPower ml_X6_62 st_X6_isPower ini_X6 nd_X6_isPower ⟨Nat.le_of_ble_eq_true rfl, Nat.le_of_ble_eq_true rfl⟩ ⟨rfl, rfl⟩ ⟨Nat.le_refl _, Nat.le_refl _⟩ rfl (Nat.le_of_ble_eq_true rfl) dX6_freed_8 ?_
    rintro r_3 w1 ⟨z2, hr_, hw_, p2⟩
    subst hr_
    refine ⟨hw_, ?_⟩
    refine Z.if_ne hX 17 dX6_freed_11 (by decide) ⟨by omega, by omega⟩ ?_ ?_
    · intro c4
      refine Z.aload_n hX dX6_freed_17 rfl rfl ?_
      refine Z.callVfr (As := []) (rest := []) hX 6 0 rfl rfl (ct_X6_freeRow_x l D ce h pl ar G L B J hok hbl hfi) mc_X6_freeRow ml_X6_83 im_X6_freeRow se_X6_freeRow ini_X6 nd_X6_freeRow ⟨Nat.le_of_ble_eq_true rfl, Nat.le_of_ble_eq_true rfl⟩ ⟨rfl, rfl⟩ ⟨Nat.le_refl _, Nat.le_refl _⟩ rfl (Nat.le_of_ble_eq_true rfl) dX6_freed_18 ?_
      rintro r_5 w1 ⟨G26, L27, hr_, hw_, fr1, fr2, fr3, fr4⟩
      subst hr_
      subst hw_
      refine Z.getf hX 5 2 0 dX6_freed_21 rfl rfl inX5 (by decide) fl_X6_69 rfl rfl ?_
      refine Z.iload_n hX dX6_freed_24 rfl rfl ?_
      refine Z.aaload hX 10 3 dX6_freed_25 rfl rfl rfl (by omega) (by omega) (by decide) rfl ?_
      refine Z.iload_n hX dX6_freed_26 rfl rfl ?_
      refine Z.laload hX (18 + (3 + (wh : Int).toNat)) 1 dX6_freed_27 (cW_in (by omega)) rfl (by omega) (by omega) (by decide) ?_
      refine Z.l2i hX dX6_freed_28 ?_
      refine Z.topi (fun z8 hz8 kz8 ez8 => ?_)
      exact hR _ _ _ _ dX6_freed_29 ⟨z8, G26, L27, B, J, rfl, rfl, (cok_of hB (by unfold bl at fr2; omega) (by have := fr1 1 (by decide); omega) (by have := fr1 2 (by decide); omega) (by have := fr1 3 (by decide); omega) (by have := fr1 4 (by decide); omega) (by have := fr1 5 (by decide); omega) (by have := fr1 6 (by decide); omega)), fr3, (fun q => absurd (by omega) q), (FI_f fr3 fr4), (fun _ => ⟨fr4, by assumption⟩), (LI_f hli (fr1 2 (by decide)) (fr1 3 (by decide)) fr3 fr4), (LIe_k hle (fr1 5 (by decide)) (fr1 6 (by decide)) fr3), (LIw_f hlw hli (fr1 1 (by decide)) (fr1 2 (by decide)) (fr1 3 (by decide)) fr4 rfl rfl), (LIx_k hlx (fr1 4 (by decide)) (fr1 5 (by decide)) (fr1 6 (by decide)) fr3 rfl rfl)⟩
    · intro c4
      refine Z.ldc hX (-1000000) dX6_freed_14 co_X6_87 rfl ?_
      exact hR _ _ _ _ dX6_freed_16 ⟨((-1000000)), G, L, B, J, rfl, rfl, hok, (fun _ _ => rfl), (fun _ => rfl), hfi, (fun q => by omega), hli, hle, hlw, hlx⟩

set_option maxHeartbeats 4000000 in
set_option maxRecDepth 100000 in
theorem ct_X6_value_w (l : Launch) (D : va_G) (ce : Nat → ClassId) (h pl ar : Nat → Nat) (G : Nat → Int) (L : Nat → Nat → Int64) (B : Nat → Int) (J : Nat → Nat → Int64) (u v part : Int) (hok : cOK G B) (hbl : bL L) (hfi : FI G L) (hu : -2147483648 ≤ u ∧ u < 2147483648) (hv : -2147483648 ≤ v ∧ v < 2147483648) (hp : -2147483648 ≤ part ∧ part < 2147483648) (hli : LI G L) (hle : LIe G L) (hlw : LIw G L B J) (hlx : LIx G L B J) : Ct l yX6_value cX6_value 6 (some .int) { frames := 2, cells := 0, slots := 0, locals := 52 } 0 0 D (TY ce) [.ref (h 0), .int (zI u), .int (zI v), .int (zI part)] (cW ce h pl ar G L B J) (QI D (TY ce) (fun r w1 => ∃ z : Int, ∃ G2 : Nat → Int, ∃ L2 : Nat → Nat → Int64, ∃ B2 : Nat → Int, ∃ J2 : Nat → Nat → Int64, r = zI z ∧ w1 = cW ce h pl ar G2 L2 B2 J2 ∧ (cOK G2 B2) ∧ (∀ k, k < 3 → L2 k = L k) ∧ (¬ ((-9 ≤ u ∧ u ≤ 9 ∧ -9 ≤ v ∧ v ≤ 9 ∧ ¬ (u = 0 ∧ v = 0)) ∧ 0 ≤ part ∧ part ≤ 2) → z = -1000000) ∧ (((-9 ≤ u ∧ u ≤ 9 ∧ -9 ≤ v ∧ v ≤ 9 ∧ ¬ (u = 0 ∧ v = 0)) ∧ 0 ≤ part ∧ part ≤ 2) → ∃ (n : Int) (c1 c2 : Int64), HP L n ∧ cgE (wOf (L 0) u v n) (wOf (L 1) u v n) c1 ∧ cgE c1 (wOf (L 2) u v n) c2 ∧ ((c2 = 0 ∧ z = 0) ∨ (¬ c2 = 0 ∧ ((wOf (L part.toNat) u v n) / c2).toInt32 = zI z))) ∧ (FI G2 L2) ∧ (LI G2 L2) ∧ (LIe G2 L2) ∧ (LIw G2 L2 B2 J2) ∧ (LIx G2 L2 B2 J2))) := by
  refine Ct.ofI (by decide) (Nat.le_of_ble_eq_true rfl) ?_
  intro p e s m args below meth c A Q hX hnm hR
  refine Z.pick (lv' := [(0, .ref (h 0)), (1, .int (zI u)), (2, .int (zI v)), (3, .int (zI part))]) [0, 1, 2, 3] rfl ?_
  obtain ⟨hB, hg0, hg2, hg3, hg5, hg6, hg1, hg4⟩ := id hok
  unfold bl at hg0 hg2 hg3 hg5 hg6
  refine Z.iload_n hX dX6_value_0 rfl rfl ?_
  refine Z.iload_n hX dX6_value_1 rfl rfl ?_
  refine Z.callS0i (As := [.int (zI u), .int (zI v)]) (rest := []) hX (ct_X6_isParameter l D ce u v (by omega) (by omega)) mc_X6_isParameter ml_X6_88 st_X6_isParameter ini_X6 nd_X6_isParameter ⟨Nat.le_of_ble_eq_true rfl, Nat.le_of_ble_eq_true rfl⟩ ⟨rfl, rfl⟩ ⟨Nat.le_refl _, Nat.le_refl _⟩ rfl (Nat.le_of_ble_eq_true rfl) dX6_value_2 ?_
  rintro r_1 w1 ⟨z1, hr_, hw_, p1⟩
  subst hr_
  refine ⟨hw_, ?_⟩
  refine Z.if_eq hX 15 dX6_value_5 (by decide) ⟨by omega, by omega⟩ ?_ ?_
  · intro c2
    refine Z.ldc hX (-1000000) dX6_value_15 co_X6_87 rfl ?_
    exact hR _ _ _ _ dX6_value_17 ⟨((-1000000)), G, L, B, J, rfl, rfl, hok, (fun _ _ => rfl), (fun _ => rfl), (fun q => by omega), hfi, hli, hle, hlw, hlx⟩
  · intro c2
    refine Z.iload_n hX dX6_value_8 rfl rfl ?_
    refine Z.callS0i (As := [.int (zI part)]) (rest := []) hX (ct_X6_isPart l D ce part (by omega)) mc_X6_isPart ml_X6_58 st_X6_isPart ini_X6 nd_X6_isPart ⟨Nat.le_of_ble_eq_true rfl, Nat.le_of_ble_eq_true rfl⟩ ⟨rfl, rfl⟩ ⟨Nat.le_refl _, Nat.le_refl _⟩ rfl (Nat.le_of_ble_eq_true rfl) dX6_value_9 ?_
    rintro r_3 w1 ⟨z2, hr_, hw_, p2⟩
    subst hr_
    refine ⟨hw_, ?_⟩
    refine Z.if_ne hX 18 dX6_value_12 (by decide) ⟨by omega, by omega⟩ ?_ ?_
    · intro c4
      refine Z.aload_n hX dX6_value_18 rfl rfl ?_
      refine Z.iload_n hX dX6_value_19 rfl rfl ?_
      refine Z.iload_n hX dX6_value_20 rfl rfl ?_
      refine Z.callVfv (As := [.int (zI u), .int (zI v)]) (rest := []) hX 6 0 rfl rfl (ct_X6_moveTo l D ce h pl ar G L B J u v (by omega) (by omega)) mc_X6_moveTo ml_X6_91 im_X6_moveTo se_X6_moveTo ini_X6 nd_X6_moveTo ⟨Nat.le_of_ble_eq_true rfl, Nat.le_of_ble_eq_true rfl⟩ ⟨rfl, rfl⟩ ⟨Nat.le_refl _, Nat.le_refl _⟩ rfl (Nat.le_of_ble_eq_true rfl) dX6_value_21 ?_
      rintro w1 ⟨n, Lm, hw_, mv1, mv2, mv3⟩
      subst hw_
      have s0 : Lm 9 (0 : Int).toNat = wOf (L 0) u v n := mv2 0 (by decide) (by decide)
      have s1 : Lm 9 (1 : Int).toNat = wOf (L 1) u v n := mv2 1 (by decide) (by decide)
      have s2 : Lm 9 (2 : Int).toNat = wOf (L 2) u v n := mv2 2 (by decide) (by decide)
      refine Z.aload_n hX dX6_value_24 rfl rfl ?_
      refine Z.getf hX 6 0 7 dX6_value_25 rfl rfl inX6 (by decide) fl_X6_50 rfl rfl ?_
      refine Z.iconst hX dX6_value_28 ?_
      refine Z.laload hX 8 1 dX6_value_29 rfl rfl (by omega) (by omega) (by decide) ?_
      refine Z.aload_n hX dX6_value_30 rfl rfl ?_
      refine Z.getf hX 6 0 7 dX6_value_31 rfl rfl inX6 (by decide) fl_X6_50 rfl rfl ?_
      refine Z.iconst hX dX6_value_34 ?_
      refine Z.laload hX 8 1 dX6_value_35 rfl rfl (by omega) (by omega) (by decide) ?_
      refine Z.callS0l (As := [.long (Lm 9 (0 : Int).toNat), .long (Lm 9 (1 : Int).toNat)]) (rest := []) hX (ct_X6_commonOf l D ce (Lm 9 (0 : Int).toNat) (Lm 9 (1 : Int).toNat) ) mc_X6_commonOf ml_X6_95 st_X6_commonOf ini_X6 nd_X6_commonOf ⟨Nat.le_of_ble_eq_true rfl, Nat.le_of_ble_eq_true rfl⟩ ⟨rfl, rfl⟩ ⟨Nat.le_refl _, Nat.le_refl _⟩ rfl (Nat.le_of_ble_eq_true rfl) dX6_value_36 ?_
      rintro c1 w1 ⟨r07, hr_, hw_, hc1⟩
      subst hr_
      refine ⟨hw_, ?_⟩
      refine Z.aload_n hX dX6_value_39 rfl rfl ?_
      refine Z.getf hX 6 0 7 dX6_value_40 rfl rfl inX6 (by decide) fl_X6_50 rfl rfl ?_
      refine Z.iconst hX dX6_value_43 ?_
      refine Z.laload hX 8 1 dX6_value_44 rfl rfl (by omega) (by omega) (by decide) ?_
      refine Z.callS0l (As := [.long c1, .long (Lm 9 (2 : Int).toNat)]) (rest := []) hX (ct_X6_commonOf l D ce c1 (Lm 9 (2 : Int).toNat) ) mc_X6_commonOf ml_X6_95 st_X6_commonOf ini_X6 nd_X6_commonOf ⟨Nat.le_of_ble_eq_true rfl, Nat.le_of_ble_eq_true rfl⟩ ⟨rfl, rfl⟩ ⟨Nat.le_refl _, Nat.le_refl _⟩ rfl (Nat.le_of_ble_eq_true rfl) dX6_value_45 ?_
      rintro c2 w1 ⟨r09, hr_, hw_, hc2⟩
      subst hr_
      refine ⟨hw_, ?_⟩
      refine Z.lstore (lv' := [(4, .long c2), (0, .ref (h 0)), (1, .int (zI u)), (2, .int (zI v)), (3, .int (zI part))]) hX dX6_value_48 (by decide) rfl ?_
      refine Z.lload hX dX6_value_50 rfl ?_
      refine Z.lconst (v := 0) hX dX6_value_52 rfl ?_
      refine Z.lcmp_ne hX 61 dX6_value_53 dX6_value_54 (by decide) ?_ ?_
      · intro c10
        refine Z.aload_n hX dX6_value_61 rfl rfl ?_
        refine Z.getf hX 6 0 7 dX6_value_62 rfl rfl inX6 (by decide) fl_X6_50 rfl rfl ?_
        refine Z.iload_n hX dX6_value_65 rfl rfl ?_
        refine Z.laload hX 8 1 dX6_value_66 rfl rfl (by omega) (by omega) (by decide) ?_
        refine Z.lload hX dX6_value_67 rfl ?_
        refine Z.ldiv hX dX6_value_69 (by assumption) ?_
        refine Z.l2i hX dX6_value_70 ?_
        refine Z.topi (fun z11 hz11 kz11 ez11 => ?_)
        exact hR _ _ _ _ dX6_value_71 ⟨z11, G, Lm, B, J, rfl, rfl, hok, (fun k h => mv3 k (by omega)), (fun q => absurd (by omega) q), (fun _ => ⟨n, c1, c2, mv1, by rw [← s0, ← s1]; exact hc1, by rw [← s2]; exact hc2, Or.inr ⟨by assumption, by rw [← mv2 part (by omega) (by omega)]; assumption⟩⟩), (FI_k hfi rfl (fun k h => mv3 k (by omega))), (LI_k hli rfl rfl (fun k h => mv3 k (by omega))), (LIe_k hle rfl rfl (fun k h => mv3 k (by omega))), (LIw_k hlw rfl rfl rfl (fun k h => mv3 k (by omega)) rfl rfl), (LIx_k hlx rfl rfl rfl (fun k h => mv3 k (by omega)) rfl rfl)⟩
      · intro c10
        refine Z.iconst hX dX6_value_57 ?_
        refine Z.goto hX 71 dX6_value_58 (by decide) ?_
        exact hR _ _ _ _ dX6_value_71 ⟨0, G, Lm, B, J, rfl, rfl, hok, (fun k h => mv3 k (by omega)), (fun q => absurd (by omega) q), (fun _ => ⟨n, c1, c2, mv1, by rw [← s0, ← s1]; exact hc1, by rw [← s2]; exact hc2, Or.inl ⟨by assumption, rfl⟩⟩), (FI_k hfi rfl (fun k h => mv3 k (by omega))), (LI_k hli rfl rfl (fun k h => mv3 k (by omega))), (LIe_k hle rfl rfl (fun k h => mv3 k (by omega))), (LIw_k hlw rfl rfl rfl (fun k h => mv3 k (by omega)) rfl rfl), (LIx_k hlx rfl rfl rfl (fun k h => mv3 k (by omega)) rfl rfl)⟩
    · intro c4
      refine Z.ldc hX (-1000000) dX6_value_15 co_X6_87 rfl ?_
      exact hR _ _ _ _ dX6_value_17 ⟨((-1000000)), G, L, B, J, rfl, rfl, hok, (fun _ _ => rfl), (fun _ => rfl), (fun q => by omega), hfi, hli, hle, hlw, hlx⟩

set_option maxHeartbeats 4000000 in
set_option maxRecDepth 100000 in
theorem ct_X6_at_w (l : Launch) (D : va_G) (ce : Nat → ClassId) (h pl ar : Nat → Nat) (G : Nat → Int) (L : Nat → Nat → Int64) (B : Nat → Int) (J : Nat → Nat → Int64) (u v pp qq ss : Int) (hok : cOK G B) (hbl : bL L) (hfi : FI G L) (hu : -2147483648 ≤ u ∧ u < 2147483648) (hv : -2147483648 ≤ v ∧ v < 2147483648) (hp : -2147483648 ≤ pp ∧ pp < 2147483648) (hq : -2147483648 ≤ qq ∧ qq < 2147483648) (hs : -2147483648 ≤ ss ∧ ss < 2147483648) (hli : LI G L) (hle : LIe G L) (hlw : LIw G L B J) (hlx : LIx G L B J) : Ct l yX6_at cX6_at 7 (some .int) { frames := 2, cells := 0, slots := 0, locals := 52 } 0 0 D (TY ce) [.ref (h 0), .int (zI u), .int (zI v), .int (zI pp), .int (zI qq), .int (zI ss)] (cW ce h pl ar G L B J) (QI D (TY ce) (fun r w1 => ∃ z : Int, ∃ G2 : Nat → Int, ∃ L2 : Nat → Nat → Int64, ∃ B2 : Nat → Int, ∃ J2 : Nat → Nat → Int64, r = zI z ∧ w1 = cW ce h pl ar G2 L2 B2 J2 ∧ (cOK G2 B2) ∧ (∀ k, k < 3 → L2 k = L k) ∧ (¬ ((-9 ≤ u ∧ u ≤ 9 ∧ -9 ≤ v ∧ v ≤ 9 ∧ ¬ (u = 0 ∧ v = 0)) ∧ (-20 ≤ pp ∧ pp ≤ 20 ∧ -20 ≤ qq ∧ qq ≤ 20 ∧ 1 ≤ ss ∧ ss ≤ 9)) → z = -9) ∧ (((-9 ≤ u ∧ u ≤ 9 ∧ -9 ≤ v ∧ v ≤ 9 ∧ ¬ (u = 0 ∧ v = 0)) ∧ (-20 ≤ pp ∧ pp ≤ 20 ∧ -20 ≤ qq ∧ qq ≤ 20 ∧ 1 ≤ ss ∧ ss ≤ 9)) → ∃ n : Int, HP L n ∧ ((z = 1 ∧ (¬ (wOf (L 2) u v n) = 0 ∧ (wOf (L 0) u v n) * zL ss = (wOf (L 2) u v n) * zL pp ∧ (wOf (L 1) u v n) * zL ss = (wOf (L 2) u v n) * zL qq)) ∨ (z = 0 ∧ ¬ (¬ (wOf (L 2) u v n) = 0 ∧ (wOf (L 0) u v n) * zL ss = (wOf (L 2) u v n) * zL pp ∧ (wOf (L 1) u v n) * zL ss = (wOf (L 2) u v n) * zL qq)))) ∧ (FI G2 L2) ∧ (LI G2 L2) ∧ (LIe G2 L2) ∧ (LIw G2 L2 B2 J2) ∧ (LIx G2 L2 B2 J2))) := by
  refine Ct.ofI (by decide) (Nat.le_of_ble_eq_true rfl) ?_
  intro p e s m args below meth c A Q hX hnm hR
  refine Z.pick (lv' := [(0, .ref (h 0)), (1, .int (zI u)), (2, .int (zI v)), (3, .int (zI pp)), (4, .int (zI qq)), (5, .int (zI ss))]) [0, 1, 2, 3, 4, 5] rfl ?_
  obtain ⟨hB, hg0, hg2, hg3, hg5, hg6, hg1, hg4⟩ := id hok
  unfold bl at hg0 hg2 hg3 hg5 hg6
  refine Z.iload_n hX dX6_at_0 rfl rfl ?_
  refine Z.iload_n hX dX6_at_1 rfl rfl ?_
  refine Z.callS0i (As := [.int (zI u), .int (zI v)]) (rest := []) hX (ct_X6_isParameter l D ce u v (by omega) (by omega)) mc_X6_isParameter ml_X6_88 st_X6_isParameter ini_X6 nd_X6_isParameter ⟨Nat.le_of_ble_eq_true rfl, Nat.le_of_ble_eq_true rfl⟩ ⟨rfl, rfl⟩ ⟨Nat.le_refl _, Nat.le_refl _⟩ rfl (Nat.le_of_ble_eq_true rfl) dX6_at_2 ?_
  rintro r_1 w1 ⟨z1, hr_, hw_, p1⟩
  subst hr_
  refine ⟨hw_, ?_⟩
  refine Z.if_eq hX 19 dX6_at_5 (by decide) ⟨by omega, by omega⟩ ?_ ?_
  · intro c2
    refine Z.bipush hX dX6_at_19 (by decide) ?_
    exact hR _ _ _ _ dX6_at_21 ⟨(-9), G, L, B, J, rfl, rfl, hok, (fun _ _ => rfl), (fun _ => rfl), (fun q => by omega), hfi, hli, hle, hlw, hlx⟩
  · intro c2
    refine Z.iload_n hX dX6_at_8 rfl rfl ?_
    refine Z.iload hX dX6_at_9 rfl ?_
    refine Z.iload hX dX6_at_11 rfl ?_
    refine Z.callS0i (As := [.int (zI pp), .int (zI qq), .int (zI ss)]) (rest := []) hX (ct_X6_isPlace l D ce pp qq ss (by omega) (by omega) (by omega)) mc_X6_isPlace ml_X6_129 st_X6_isPlace ini_X6 nd_X6_isPlace ⟨Nat.le_of_ble_eq_true rfl, Nat.le_of_ble_eq_true rfl⟩ ⟨rfl, rfl⟩ ⟨Nat.le_refl _, Nat.le_refl _⟩ rfl (Nat.le_of_ble_eq_true rfl) dX6_at_13 ?_
    rintro r_3 w1 ⟨z2, hr_, hw_, p2⟩
    subst hr_
    refine ⟨hw_, ?_⟩
    refine Z.if_ne hX 22 dX6_at_16 (by decide) ⟨by omega, by omega⟩ ?_ ?_
    · intro c4
      refine Z.aload_n hX dX6_at_22 rfl rfl ?_
      refine Z.iload_n hX dX6_at_23 rfl rfl ?_
      refine Z.iload_n hX dX6_at_24 rfl rfl ?_
      refine Z.callVfv (As := [.int (zI u), .int (zI v)]) (rest := []) hX 6 0 rfl rfl (ct_X6_moveTo l D ce h pl ar G L B J u v (by omega) (by omega)) mc_X6_moveTo ml_X6_91 im_X6_moveTo se_X6_moveTo ini_X6 nd_X6_moveTo ⟨Nat.le_of_ble_eq_true rfl, Nat.le_of_ble_eq_true rfl⟩ ⟨rfl, rfl⟩ ⟨Nat.le_refl _, Nat.le_refl _⟩ rfl (Nat.le_of_ble_eq_true rfl) dX6_at_25 ?_
      rintro w1 ⟨n, Lm, hw_, mv1, mv2, mv3⟩
      subst hw_
      have s0 : Lm 9 (0 : Int).toNat = wOf (L 0) u v n := mv2 0 (by decide) (by decide)
      have s1 : Lm 9 (1 : Int).toNat = wOf (L 1) u v n := mv2 1 (by decide) (by decide)
      have s2 : Lm 9 (2 : Int).toNat = wOf (L 2) u v n := mv2 2 (by decide) (by decide)
      have key_91 : ∀ (bz : Int), (hbz : (bz = 1 ∧ (¬ (wOf (L 2) u v n) = 0 ∧ (wOf (L 0) u v n) * zL ss = (wOf (L 2) u v n) * zL pp ∧ (wOf (L 1) u v n) * zL ss = (wOf (L 2) u v n) * zL qq)) ∨ (bz = 0 ∧ ¬ (¬ (wOf (L 2) u v n) = 0 ∧ (wOf (L 0) u v n) * zL ss = (wOf (L 2) u v n) * zL pp ∧ (wOf (L 1) u v n) * zL ss = (wOf (L 2) u v n) * zL qq))) → Z p l e { frames := 2, cells := 0, slots := 0, locals := 52 } s m args below meth c D A 7 0 0 Q 91 [(0, .ref (h 0))] [.int (zI bz)] (cW ce h pl ar G Lm B J) := by
        intro bz hbz
        refine Z.istore (lv' := [(6, .int (zI bz)), (0, .ref (h 0))]) hX dX6_at_91 (by decide) rfl ?_
        refine Z.iload hX dX6_at_93 rfl ?_
        refine Z.if_eq hX 102 dX6_at_95 (by decide) ⟨by omega, by omega⟩ ?_ ?_
        · intro c6
          refine Z.iconst hX dX6_at_102 ?_
          exact hR _ _ _ _ dX6_at_103 ⟨0, G, Lm, B, J, rfl, rfl, hok, (fun k h => mv3 k (by omega)), (fun q => absurd (by omega) q), (fun _ => ⟨n, mv1, Or.inr ⟨rfl, (hbz.resolve_left (fun q => by omega)).2⟩⟩), (FI_k hfi rfl (fun k h => mv3 k (by omega))), (LI_k hli rfl rfl (fun k h => mv3 k (by omega))), (LIe_k hle rfl rfl (fun k h => mv3 k (by omega))), (LIw_k hlw rfl rfl rfl (fun k h => mv3 k (by omega)) rfl rfl), (LIx_k hlx rfl rfl rfl (fun k h => mv3 k (by omega)) rfl rfl)⟩
        · intro c6
          refine Z.iconst hX dX6_at_98 ?_
          refine Z.goto hX 103 dX6_at_99 (by decide) ?_
          exact hR _ _ _ _ dX6_at_103 ⟨1, G, Lm, B, J, rfl, rfl, hok, (fun k h => mv3 k (by omega)), (fun q => absurd (by omega) q), (fun _ => ⟨n, mv1, Or.inl ⟨rfl, (hbz.resolve_right (fun q => by omega)).2⟩⟩), (FI_k hfi rfl (fun k h => mv3 k (by omega))), (LI_k hli rfl rfl (fun k h => mv3 k (by omega))), (LIe_k hle rfl rfl (fun k h => mv3 k (by omega))), (LIw_k hlw rfl rfl rfl (fun k h => mv3 k (by omega)) rfl rfl), (LIx_k hlx rfl rfl rfl (fun k h => mv3 k (by omega)) rfl rfl)⟩
      refine Z.aload_n hX dX6_at_28 rfl rfl ?_
      refine Z.getf hX 6 0 7 dX6_at_29 rfl rfl inX6 (by decide) fl_X6_50 rfl rfl ?_
      refine Z.iconst hX dX6_at_32 ?_
      refine Z.laload hX 8 1 dX6_at_33 rfl rfl (by omega) (by omega) (by decide) ?_
      refine Z.lconst (v := 0) hX dX6_at_34 rfl ?_
      refine Z.lcmp_eq hX 90 dX6_at_35 dX6_at_36 (by decide) ?_ ?_
      · intro c7
        refine Z.iconst hX dX6_at_90 ?_
        refine Z.pick [0] rfl ?_
        exact key_91 _ (Or.inr ⟨rfl, fun q => by rw [← s0, ← s1, ← s2] at q; first | exact q.1 (by assumption) | exact absurd q.2.1 (by assumption) | exact absurd q.2.2 (by assumption)⟩)
      · intro c7
        refine Z.aload_n hX dX6_at_39 rfl rfl ?_
        refine Z.getf hX 6 0 7 dX6_at_40 rfl rfl inX6 (by decide) fl_X6_50 rfl rfl ?_
        refine Z.iconst hX dX6_at_43 ?_
        refine Z.laload hX 8 1 dX6_at_44 rfl rfl (by omega) (by omega) (by decide) ?_
        refine Z.iload hX dX6_at_45 rfl ?_
        refine Z.i2l hX dX6_at_47 ⟨by omega, by omega⟩ ?_
        refine Z.lmul hX dX6_at_48 ?_
        refine Z.aload_n hX dX6_at_49 rfl rfl ?_
        refine Z.getf hX 6 0 7 dX6_at_50 rfl rfl inX6 (by decide) fl_X6_50 rfl rfl ?_
        refine Z.iconst hX dX6_at_53 ?_
        refine Z.laload hX 8 1 dX6_at_54 rfl rfl (by omega) (by omega) (by decide) ?_
        refine Z.iload_n hX dX6_at_55 rfl rfl ?_
        refine Z.i2l hX dX6_at_56 ⟨by omega, by omega⟩ ?_
        refine Z.lmul hX dX6_at_57 ?_
        refine Z.lcmp_ne hX 90 dX6_at_58 dX6_at_59 (by decide) ?_ ?_
        · intro c8
          refine Z.iconst hX dX6_at_90 ?_
          refine Z.pick [0] rfl ?_
          exact key_91 _ (Or.inr ⟨rfl, fun q => by rw [← s0, ← s1, ← s2] at q; first | exact q.1 (by assumption) | exact absurd q.2.1 (by assumption) | exact absurd q.2.2 (by assumption)⟩)
        · intro c8
          refine Z.aload_n hX dX6_at_62 rfl rfl ?_
          refine Z.getf hX 6 0 7 dX6_at_63 rfl rfl inX6 (by decide) fl_X6_50 rfl rfl ?_
          refine Z.iconst hX dX6_at_66 ?_
          refine Z.laload hX 8 1 dX6_at_67 rfl rfl (by omega) (by omega) (by decide) ?_
          refine Z.iload hX dX6_at_68 rfl ?_
          refine Z.i2l hX dX6_at_70 ⟨by omega, by omega⟩ ?_
          refine Z.lmul hX dX6_at_71 ?_
          refine Z.aload_n hX dX6_at_72 rfl rfl ?_
          refine Z.getf hX 6 0 7 dX6_at_73 rfl rfl inX6 (by decide) fl_X6_50 rfl rfl ?_
          refine Z.iconst hX dX6_at_76 ?_
          refine Z.laload hX 8 1 dX6_at_77 rfl rfl (by omega) (by omega) (by decide) ?_
          refine Z.iload hX dX6_at_78 rfl ?_
          refine Z.i2l hX dX6_at_80 ⟨by omega, by omega⟩ ?_
          refine Z.lmul hX dX6_at_81 ?_
          refine Z.lcmp_ne hX 90 dX6_at_82 dX6_at_83 (by decide) ?_ ?_
          · intro c9
            refine Z.iconst hX dX6_at_90 ?_
            refine Z.pick [0] rfl ?_
            exact key_91 _ (Or.inr ⟨rfl, fun q => by rw [← s0, ← s1, ← s2] at q; first | exact q.1 (by assumption) | exact absurd q.2.1 (by assumption) | exact absurd q.2.2 (by assumption)⟩)
          · intro c9
            refine Z.iconst hX dX6_at_86 ?_
            refine Z.goto hX 91 dX6_at_87 (by decide) ?_
            refine Z.pick [0] rfl ?_
            exact key_91 _ (Or.inl ⟨rfl, by rw [← s2]; assumption, by rw [← s0, ← s2]; assumption, by rw [← s1, ← s2]; assumption⟩)
    · intro c4
      refine Z.bipush hX dX6_at_19 (by decide) ?_
      exact hR _ _ _ _ dX6_at_21 ⟨(-9), G, L, B, J, rfl, rfl, hok, (fun _ _ => rfl), (fun _ => rfl), (fun q => by omega), hfi, hli, hle, hlw, hlx⟩

set_option maxHeartbeats 4000000 in
set_option maxRecDepth 100000 in
theorem ct_X6_trace_w (l : Launch) (D : va_G) (ce : Nat → ClassId) (h pl ar : Nat → Nat) (G : Nat → Int) (L : Nat → Nat → Int64) (B : Nat → Int) (J : Nat → Nat → Int64) (sort : Int) (hok : cOK G B) (hbl : bL L) (hfi : FI G L) (hs : -2147483648 ≤ sort ∧ sort < 2147483648) (hli : LI G L) (hle : LIe G L) (hlw : LIw G L B J) (hlx : LIx G L B J) : Ct l yX6_trace cX6_trace 3 (some .int) { frames := 6, cells := 0, slots := 0, locals := 162 } 0 0 D (TY ce) [.ref (h 0), .int (zI sort)] (cW ce h pl ar G L B J) (QI D (TY ce) (fun r w1 => ∃ z : Int, ∃ G2 : Nat → Int, ∃ L2 : Nat → Nat → Int64, ∃ B2 : Nat → Int, ∃ J2 : Nat → Nat → Int64, r = zI z ∧ w1 = cW ce h pl ar G2 L2 B2 J2 ∧ (cOK G2 B2) ∧ (∀ k, k < 3 → L2 k = L k) ∧ (¬ (sort = 0 ∨ sort = 1) → z = -1) ∧ (FI G2 L2) ∧ (LI G2 L2) ∧ (LIe G2 L2) ∧ (LIw G2 L2 B2 J2) ∧ (LIx G2 L2 B2 J2) ∧ ((sort = 0 ∨ sort = 1) → RSPc L L2 sort (fun _ _ D => z = (D : Int)) (z = -2)))) := by
  refine Ct.ofI (by decide) (Nat.le_of_ble_eq_true rfl) ?_
  intro p e s m args below meth c A Q hX hnm hR
  refine Z.pick (lv' := [(0, .ref (h 0)), (1, .int (zI sort))]) [0, 1] rfl ?_
  obtain ⟨hB, hg0, hg2, hg3, hg5, hg6, hg1, hg4⟩ := id hok
  unfold bl at hg0 hg2 hg3 hg5 hg6
  refine Z.iload_n hX dX6_trace_0 rfl rfl ?_
  refine Z.callS0i (As := [.int (zI sort)]) (rest := []) hX (ct_X6_isSort l D ce sort (by omega)) mc_X6_isSort ml_X6_99 st_X6_isSort ini_X6 nd_X6_isSort ⟨Nat.le_of_ble_eq_true rfl, Nat.le_of_ble_eq_true rfl⟩ ⟨rfl, rfl⟩ ⟨Nat.le_refl _, Nat.le_refl _⟩ rfl (Nat.le_of_ble_eq_true rfl) dX6_trace_1 ?_
  rintro r_1 w1 ⟨z1, hr_, hw_, p1⟩
  subst hr_
  refine ⟨hw_, ?_⟩
  refine Z.if_ne hX 9 dX6_trace_4 (by decide) ⟨by omega, by omega⟩ ?_ ?_
  · intro c2
    rcases (show sort = 0 ∨ sort = 1 by omega) with rfl | rfl
    · skip
      refine Z.aload_n hX dX6_trace_9 rfl rfl ?_
      refine Z.iload_n hX dX6_trace_10 rfl rfl ?_
      refine Z.callVfr (As := [.int (zI 0)]) (rest := []) hX 6 0 rfl rfl (ct_X6_curveOf_lw l D ce h pl ar G L B J hok hbl hfi hli hle hlw hlx) mc_X6_curveOf ml_X6_102 im_X6_curveOf se_X6_curveOf ini_X6 nd_X6_curveOf ⟨Nat.le_of_ble_eq_true rfl, Nat.le_of_ble_eq_true rfl⟩ ⟨rfl, rfl⟩ ⟨Nat.le_refl _, Nat.le_refl _⟩ rfl (Nat.le_of_ble_eq_true rfl) dX6_trace_11 ?_
      rintro r_3 w1 ⟨Gc, Lc, Bc, Jc, hr_, hw_, cv1, cv2, cv3, cv4, cv5, cv6, cv7, cv8⟩
      subst hr_
      subst hw_
      obtain ⟨dB, dg0, dg2, dg3, dg5, dg6, dg1, dg4⟩ := id cv1
      unfold bl at dg0 dg2 dg3 dg5 dg6
      have dB40 := dB 40 (by decide)
      have dB41 := dB 41 (by decide)
      refine Z.astore_n (lv' := [(2, .ref (h 6)), (0, .ref (h 0)), (1, .int (zI 0))]) hX dX6_trace_14 rfl (by decide) rfl ?_
      refine Z.aload_n hX dX6_trace_15 rfl rfl ?_
      refine Z.getf hX 0 6 3 dX6_trace_16 rfl rfl inX0 (by decide) fl_X6_106 rfl rfl ?_
      refine Z.if_eq hX 32 dX6_trace_19 (by decide) ⟨by omega, by omega⟩ ?_ ?_
      · intro c4
        refine Z.bipush hX dX6_trace_32 (by decide) ?_
        exact hR _ _ _ _ dX6_trace_34 ⟨(-2), Gc, Lc, Bc, Jc, rfl, rfl, cv1, cv2, (fun q => absurd (by decide) q), cv3, (by first | exact cv4 | exact cv4.1), (by first | exact cv6 | exact cv5), cv7, cv8, (fun _ => by first | exact rsc_ln cv4 cv5 cv2 (by omega) (by omega) rfl | exact rsc_en cv5 cv6 cv2 (by omega) (by omega) rfl | exact rsc_l cv4 cv5 cv7 cv2 (by omega) (by omega) (fun a _ _ _ _ => (Int.toNat_of_nonneg a).symm) | exact rsc_e cv5 cv6 cv8 cv2 (by omega) (by omega) (fun a _ _ _ _ => (Int.toNat_of_nonneg a).symm))⟩
      · intro c4
        refine Z.aload_n hX dX6_trace_22 rfl rfl ?_
        refine Z.getf hX 0 6 0 dX6_trace_23 rfl rfl inX0 (by decide) fl_X6_109 rfl rfl ?_
        refine Z.getf hX 3 (24 + 40) 1 dX6_trace_26 (cW_pl (by decide)) rfl inX3 (by decide) fl_X6_113 rfl rfl ?_
        refine Z.goto hX 34 dX6_trace_29 (by decide) ?_
        exact hR _ _ _ _ dX6_trace_34 ⟨(Bc 40), Gc, Lc, Bc, Jc, rfl, rfl, cv1, cv2, (fun q => absurd (by decide) q), cv3, (by first | exact cv4 | exact cv4.1), (by first | exact cv6 | exact cv5), cv7, cv8, (fun _ => by first | exact rsc_ln cv4 cv5 cv2 (by omega) (by omega) rfl | exact rsc_en cv5 cv6 cv2 (by omega) (by omega) rfl | exact rsc_l cv4 cv5 cv7 cv2 (by omega) (by omega) (fun a _ _ _ _ => (Int.toNat_of_nonneg a).symm) | exact rsc_e cv5 cv6 cv8 cv2 (by omega) (by omega) (fun a _ _ _ _ => (Int.toNat_of_nonneg a).symm))⟩
    · skip
      refine Z.aload_n hX dX6_trace_9 rfl rfl ?_
      refine Z.iload_n hX dX6_trace_10 rfl rfl ?_
      refine Z.callVfr (As := [.int (zI 1)]) (rest := []) hX 6 0 rfl rfl (ct_X6_curveOf_ew l D ce h pl ar G L B J hok hbl hfi hli hle hlw hlx) mc_X6_curveOf ml_X6_102 im_X6_curveOf se_X6_curveOf ini_X6 nd_X6_curveOf ⟨Nat.le_of_ble_eq_true rfl, Nat.le_of_ble_eq_true rfl⟩ ⟨rfl, rfl⟩ ⟨Nat.le_refl _, Nat.le_refl _⟩ rfl (Nat.le_of_ble_eq_true rfl) dX6_trace_11 ?_
      rintro r_5 w1 ⟨Gc, Lc, Bc, Jc, hr_, hw_, cv1, cv2, cv3, cv4, cv5, cv6, cv7, cv8⟩
      subst hr_
      subst hw_
      obtain ⟨dB, dg0, dg2, dg3, dg5, dg6, dg1, dg4⟩ := id cv1
      unfold bl at dg0 dg2 dg3 dg5 dg6
      have dB40 := dB 40 (by decide)
      have dB41 := dB 41 (by decide)
      refine Z.astore_n (lv' := [(2, .ref (h 7)), (0, .ref (h 0)), (1, .int (zI 1))]) hX dX6_trace_14 rfl (by decide) rfl ?_
      refine Z.aload_n hX dX6_trace_15 rfl rfl ?_
      refine Z.getf hX 0 7 3 dX6_trace_16 rfl rfl inX0 (by decide) fl_X6_106 rfl rfl ?_
      refine Z.if_eq hX 32 dX6_trace_19 (by decide) ⟨by omega, by omega⟩ ?_ ?_
      · intro c6
        refine Z.bipush hX dX6_trace_32 (by decide) ?_
        exact hR _ _ _ _ dX6_trace_34 ⟨(-2), Gc, Lc, Bc, Jc, rfl, rfl, cv1, cv2, (fun q => absurd (by decide) q), cv3, (by first | exact cv4 | exact cv4.1), (by first | exact cv6 | exact cv5), cv7, cv8, (fun _ => by first | exact rsc_ln cv4 cv5 cv2 (by omega) (by omega) rfl | exact rsc_en cv5 cv6 cv2 (by omega) (by omega) rfl | exact rsc_l cv4 cv5 cv7 cv2 (by omega) (by omega) (fun a _ _ _ _ => (Int.toNat_of_nonneg a).symm) | exact rsc_e cv5 cv6 cv8 cv2 (by omega) (by omega) (fun a _ _ _ _ => (Int.toNat_of_nonneg a).symm))⟩
      · intro c6
        refine Z.aload_n hX dX6_trace_22 rfl rfl ?_
        refine Z.getf hX 0 7 0 dX6_trace_23 rfl rfl inX0 (by decide) fl_X6_109 rfl rfl ?_
        refine Z.getf hX 3 (24 + 41) 1 dX6_trace_26 (cW_pl (by decide)) rfl inX3 (by decide) fl_X6_113 rfl rfl ?_
        refine Z.goto hX 34 dX6_trace_29 (by decide) ?_
        exact hR _ _ _ _ dX6_trace_34 ⟨(Bc 41), Gc, Lc, Bc, Jc, rfl, rfl, cv1, cv2, (fun q => absurd (by decide) q), cv3, (by first | exact cv4 | exact cv4.1), (by first | exact cv6 | exact cv5), cv7, cv8, (fun _ => by first | exact rsc_ln cv4 cv5 cv2 (by omega) (by omega) rfl | exact rsc_en cv5 cv6 cv2 (by omega) (by omega) rfl | exact rsc_l cv4 cv5 cv7 cv2 (by omega) (by omega) (fun a _ _ _ _ => (Int.toNat_of_nonneg a).symm) | exact rsc_e cv5 cv6 cv8 cv2 (by omega) (by omega) (fun a _ _ _ _ => (Int.toNat_of_nonneg a).symm))⟩
  · intro c2
    refine Z.iconst hX dX6_trace_7 ?_
    exact hR _ _ _ _ dX6_trace_8 ⟨(-1), G, L, B, J, rfl, rfl, hok, (fun _ _ => rfl), (fun _ => rfl), hfi, hli, hle, hlw, hlx, (fun q => absurd q (by omega))⟩

set_option maxHeartbeats 4000000 in
set_option maxRecDepth 100000 in
theorem ct_X6_times_w (l : Launch) (D : va_G) (ce : Nat → ClassId) (h pl ar : Nat → Nat) (G : Nat → Int) (L : Nat → Nat → Int64) (B : Nat → Int) (J : Nat → Nat → Int64) (sort : Int) (hok : cOK G B) (hbl : bL L) (hfi : FI G L) (hs : -2147483648 ≤ sort ∧ sort < 2147483648) (hli : LI G L) (hle : LIe G L) (hlw : LIw G L B J) (hlx : LIx G L B J) : Ct l yX6_times cX6_times 3 (some .int) { frames := 6, cells := 0, slots := 0, locals := 162 } 0 0 D (TY ce) [.ref (h 0), .int (zI sort)] (cW ce h pl ar G L B J) (QI D (TY ce) (fun r w1 => ∃ z : Int, ∃ G2 : Nat → Int, ∃ L2 : Nat → Nat → Int64, ∃ B2 : Nat → Int, ∃ J2 : Nat → Nat → Int64, r = zI z ∧ w1 = cW ce h pl ar G2 L2 B2 J2 ∧ (cOK G2 B2) ∧ (∀ k, k < 3 → L2 k = L k) ∧ (¬ (sort = 0 ∨ sort = 1) → z = -1) ∧ (FI G2 L2) ∧ (LI G2 L2) ∧ (LIe G2 L2) ∧ (LIw G2 L2 B2 J2) ∧ (LIx G2 L2 B2 J2) ∧ ((sort = 0 ∨ sort = 1) → RSPc L L2 sort (fun k _ _ => z = (k : Int)) (z = -2)))) := by
  refine Ct.ofI (by decide) (Nat.le_of_ble_eq_true rfl) ?_
  intro p e s m args below meth c A Q hX hnm hR
  refine Z.pick (lv' := [(0, .ref (h 0)), (1, .int (zI sort))]) [0, 1] rfl ?_
  obtain ⟨hB, hg0, hg2, hg3, hg5, hg6, hg1, hg4⟩ := id hok
  unfold bl at hg0 hg2 hg3 hg5 hg6
  refine Z.iload_n hX dX6_times_0 rfl rfl ?_
  refine Z.callS0i (As := [.int (zI sort)]) (rest := []) hX (ct_X6_isSort l D ce sort (by omega)) mc_X6_isSort ml_X6_99 st_X6_isSort ini_X6 nd_X6_isSort ⟨Nat.le_of_ble_eq_true rfl, Nat.le_of_ble_eq_true rfl⟩ ⟨rfl, rfl⟩ ⟨Nat.le_refl _, Nat.le_refl _⟩ rfl (Nat.le_of_ble_eq_true rfl) dX6_times_1 ?_
  rintro r_1 w1 ⟨z1, hr_, hw_, p1⟩
  subst hr_
  refine ⟨hw_, ?_⟩
  refine Z.if_ne hX 9 dX6_times_4 (by decide) ⟨by omega, by omega⟩ ?_ ?_
  · intro c2
    rcases (show sort = 0 ∨ sort = 1 by omega) with rfl | rfl
    · skip
      refine Z.aload_n hX dX6_times_9 rfl rfl ?_
      refine Z.iload_n hX dX6_times_10 rfl rfl ?_
      refine Z.callVfr (As := [.int (zI 0)]) (rest := []) hX 6 0 rfl rfl (ct_X6_curveOf_lw l D ce h pl ar G L B J hok hbl hfi hli hle hlw hlx) mc_X6_curveOf ml_X6_102 im_X6_curveOf se_X6_curveOf ini_X6 nd_X6_curveOf ⟨Nat.le_of_ble_eq_true rfl, Nat.le_of_ble_eq_true rfl⟩ ⟨rfl, rfl⟩ ⟨Nat.le_refl _, Nat.le_refl _⟩ rfl (Nat.le_of_ble_eq_true rfl) dX6_times_11 ?_
      rintro r_3 w1 ⟨Gc, Lc, Bc, Jc, hr_, hw_, cv1, cv2, cv3, cv4, cv5, cv6, cv7, cv8⟩
      subst hr_
      subst hw_
      obtain ⟨dB, dg0, dg2, dg3, dg5, dg6, dg1, dg4⟩ := id cv1
      unfold bl at dg0 dg2 dg3 dg5 dg6
      have dB40 := dB 40 (by decide)
      have dB41 := dB 41 (by decide)
      refine Z.astore_n (lv' := [(2, .ref (h 6)), (0, .ref (h 0)), (1, .int (zI 0))]) hX dX6_times_14 rfl (by decide) rfl ?_
      refine Z.aload_n hX dX6_times_15 rfl rfl ?_
      refine Z.getf hX 0 6 3 dX6_times_16 rfl rfl inX0 (by decide) fl_X6_106 rfl rfl ?_
      refine Z.if_eq hX 29 dX6_times_19 (by decide) ⟨by omega, by omega⟩ ?_ ?_
      · intro c4
        refine Z.bipush hX dX6_times_29 (by decide) ?_
        exact hR _ _ _ _ dX6_times_31 ⟨(-2), Gc, Lc, Bc, Jc, rfl, rfl, cv1, cv2, (fun q => absurd (by decide) q), cv3, (by first | exact cv4 | exact cv4.1), (by first | exact cv6 | exact cv5), cv7, cv8, (fun _ => by first | exact rsc_ln cv4 cv5 cv2 (by omega) (by omega) rfl | exact rsc_en cv5 cv6 cv2 (by omega) (by omega) rfl | exact rsc_l cv4 cv5 cv7 cv2 (by omega) (by omega) (fun _ _ b _ _ => (Int.toNat_of_nonneg (Int.le_trans (by decide) b)).symm) | exact rsc_e cv5 cv6 cv8 cv2 (by omega) (by omega) (fun _ _ b _ _ => (Int.toNat_of_nonneg (Int.le_trans (by decide) b)).symm))⟩
      · intro c4
        refine Z.aload_n hX dX6_times_22 rfl rfl ?_
        refine Z.getf hX 0 6 1 dX6_times_23 rfl rfl inX0 (by decide) fl_X6_119 rfl rfl ?_
        refine Z.goto hX 31 dX6_times_26 (by decide) ?_
        exact hR _ _ _ _ dX6_times_31 ⟨(Gc 1), Gc, Lc, Bc, Jc, rfl, rfl, cv1, cv2, (fun q => absurd (by decide) q), cv3, (by first | exact cv4 | exact cv4.1), (by first | exact cv6 | exact cv5), cv7, cv8, (fun _ => by first | exact rsc_ln cv4 cv5 cv2 (by omega) (by omega) rfl | exact rsc_en cv5 cv6 cv2 (by omega) (by omega) rfl | exact rsc_l cv4 cv5 cv7 cv2 (by omega) (by omega) (fun _ _ b _ _ => (Int.toNat_of_nonneg (Int.le_trans (by decide) b)).symm) | exact rsc_e cv5 cv6 cv8 cv2 (by omega) (by omega) (fun _ _ b _ _ => (Int.toNat_of_nonneg (Int.le_trans (by decide) b)).symm))⟩
    · skip
      refine Z.aload_n hX dX6_times_9 rfl rfl ?_
      refine Z.iload_n hX dX6_times_10 rfl rfl ?_
      refine Z.callVfr (As := [.int (zI 1)]) (rest := []) hX 6 0 rfl rfl (ct_X6_curveOf_ew l D ce h pl ar G L B J hok hbl hfi hli hle hlw hlx) mc_X6_curveOf ml_X6_102 im_X6_curveOf se_X6_curveOf ini_X6 nd_X6_curveOf ⟨Nat.le_of_ble_eq_true rfl, Nat.le_of_ble_eq_true rfl⟩ ⟨rfl, rfl⟩ ⟨Nat.le_refl _, Nat.le_refl _⟩ rfl (Nat.le_of_ble_eq_true rfl) dX6_times_11 ?_
      rintro r_5 w1 ⟨Gc, Lc, Bc, Jc, hr_, hw_, cv1, cv2, cv3, cv4, cv5, cv6, cv7, cv8⟩
      subst hr_
      subst hw_
      obtain ⟨dB, dg0, dg2, dg3, dg5, dg6, dg1, dg4⟩ := id cv1
      unfold bl at dg0 dg2 dg3 dg5 dg6
      have dB40 := dB 40 (by decide)
      have dB41 := dB 41 (by decide)
      refine Z.astore_n (lv' := [(2, .ref (h 7)), (0, .ref (h 0)), (1, .int (zI 1))]) hX dX6_times_14 rfl (by decide) rfl ?_
      refine Z.aload_n hX dX6_times_15 rfl rfl ?_
      refine Z.getf hX 0 7 3 dX6_times_16 rfl rfl inX0 (by decide) fl_X6_106 rfl rfl ?_
      refine Z.if_eq hX 29 dX6_times_19 (by decide) ⟨by omega, by omega⟩ ?_ ?_
      · intro c6
        refine Z.bipush hX dX6_times_29 (by decide) ?_
        exact hR _ _ _ _ dX6_times_31 ⟨(-2), Gc, Lc, Bc, Jc, rfl, rfl, cv1, cv2, (fun q => absurd (by decide) q), cv3, (by first | exact cv4 | exact cv4.1), (by first | exact cv6 | exact cv5), cv7, cv8, (fun _ => by first | exact rsc_ln cv4 cv5 cv2 (by omega) (by omega) rfl | exact rsc_en cv5 cv6 cv2 (by omega) (by omega) rfl | exact rsc_l cv4 cv5 cv7 cv2 (by omega) (by omega) (fun _ _ b _ _ => (Int.toNat_of_nonneg (Int.le_trans (by decide) b)).symm) | exact rsc_e cv5 cv6 cv8 cv2 (by omega) (by omega) (fun _ _ b _ _ => (Int.toNat_of_nonneg (Int.le_trans (by decide) b)).symm))⟩
      · intro c6
        refine Z.aload_n hX dX6_times_22 rfl rfl ?_
        refine Z.getf hX 0 7 1 dX6_times_23 rfl rfl inX0 (by decide) fl_X6_119 rfl rfl ?_
        refine Z.goto hX 31 dX6_times_26 (by decide) ?_
        exact hR _ _ _ _ dX6_times_31 ⟨(Gc 4), Gc, Lc, Bc, Jc, rfl, rfl, cv1, cv2, (fun q => absurd (by decide) q), cv3, (by first | exact cv4 | exact cv4.1), (by first | exact cv6 | exact cv5), cv7, cv8, (fun _ => by first | exact rsc_ln cv4 cv5 cv2 (by omega) (by omega) rfl | exact rsc_en cv5 cv6 cv2 (by omega) (by omega) rfl | exact rsc_l cv4 cv5 cv7 cv2 (by omega) (by omega) (fun _ _ b _ _ => (Int.toNat_of_nonneg (Int.le_trans (by decide) b)).symm) | exact rsc_e cv5 cv6 cv8 cv2 (by omega) (by omega) (fun _ _ b _ _ => (Int.toNat_of_nonneg (Int.le_trans (by decide) b)).symm))⟩
  · intro c2
    refine Z.iconst hX dX6_times_7 ?_
    exact hR _ _ _ _ dX6_times_8 ⟨(-1), G, L, B, J, rfl, rfl, hok, (fun _ _ => rfl), (fun _ => rfl), hfi, hli, hle, hlw, hlx, (fun q => absurd q (by omega))⟩

set_option maxHeartbeats 4000000 in
set_option maxRecDepth 100000 in
theorem ct_X6_coefficient_w (l : Launch) (D : va_G) (ce : Nat → ClassId) (h pl ar : Nat → Nat) (G : Nat → Int) (L : Nat → Nat → Int64) (B : Nat → Int) (J : Nat → Nat → Int64) (sort i j : Int) (hok : cOK G B) (hbl : bL L) (hfi : FI G L) (hs : -2147483648 ≤ sort ∧ sort < 2147483648) (hi : -2147483648 ≤ i ∧ i < 2147483648) (hj : -2147483648 ≤ j ∧ j < 2147483648) (hli : LI G L) (hle : LIe G L) (hlw : LIw G L B J) (hlx : LIx G L B J) : Ct l yX6_coefficient cX6_coefficient 5 (some .long) { frames := 6, cells := 0, slots := 0, locals := 162 } 0 0 D (TY ce) [.ref (h 0), .int (zI sort), .int (zI i), .int (zI j)] (cW ce h pl ar G L B J) (QL D (TY ce) (fun r w1 => ∃ r0 : Int64, ∃ G2 : Nat → Int, ∃ L2 : Nat → Nat → Int64, ∃ B2 : Nat → Int, ∃ J2 : Nat → Nat → Int64, r = r0 ∧ w1 = cW ce h pl ar G2 L2 B2 J2 ∧ (cOK G2 B2) ∧ (∀ k, k < 3 → L2 k = L k) ∧ (¬ ((sort = 0 ∨ sort = 1) ∧ 0 ≤ i ∧ i ≤ 6 ∧ 0 ≤ j ∧ j ≤ 6) → r0 = 0) ∧ (FI G2 L2) ∧ (LI G2 L2) ∧ (LIe G2 L2) ∧ (LIw G2 L2 B2 J2) ∧ (LIx G2 L2 B2 J2) ∧ (((sort = 0 ∨ sort = 1) ∧ 0 ≤ i ∧ i ≤ 6 ∧ 0 ≤ j ∧ j ≤ 6) → RSPc L L2 sort (fun _ E _ => r0.toInt = E (7 * i.toNat + j.toNat)) (r0 = 0)))) := by
  refine Ct.ofL (by decide) (Nat.le_of_ble_eq_true rfl) ?_
  intro p e s m args below meth c A Q hX hnm hR
  refine Z.pick (lv' := [(0, .ref (h 0)), (1, .int (zI sort)), (2, .int (zI i)), (3, .int (zI j))]) [0, 1, 2, 3] rfl ?_
  obtain ⟨hB, hg0, hg2, hg3, hg5, hg6, hg1, hg4⟩ := id hok
  unfold bl at hg0 hg2 hg3 hg5 hg6
  refine Z.iload_n hX dX6_coefficient_0 rfl rfl ?_
  refine Z.callS0i (As := [.int (zI sort)]) (rest := []) hX (ct_X6_isSort l D ce sort (by omega)) mc_X6_isSort ml_X6_99 st_X6_isSort ini_X6 nd_X6_isSort ⟨Nat.le_of_ble_eq_true rfl, Nat.le_of_ble_eq_true rfl⟩ ⟨rfl, rfl⟩ ⟨Nat.le_refl _, Nat.le_refl _⟩ rfl (Nat.le_of_ble_eq_true rfl) dX6_coefficient_1 ?_
  rintro r_1 w1 ⟨z1, hr_, hw_, p1⟩
  subst hr_
  refine ⟨hw_, ?_⟩
  refine Z.if_eq hX 27 dX6_coefficient_4 (by decide) ⟨by omega, by omega⟩ ?_ ?_
  · intro c2
    refine Z.lconst (v := 0) hX dX6_coefficient_27 rfl ?_
    exact hR _ _ _ _ dX6_coefficient_28 ⟨0, G, L, B, J, rfl, rfl, hok, (fun _ _ => rfl), (fun _ => rfl), hfi, hli, hle, hlw, hlx, (fun q => absurd q (by omega))⟩
  · intro c2
    refine Z.iload_n hX dX6_coefficient_7 rfl rfl ?_
    refine Z.if_lt hX 27 dX6_coefficient_8 (by decide) ⟨by omega, by omega⟩ ?_ ?_
    · intro c3
      refine Z.lconst (v := 0) hX dX6_coefficient_27 rfl ?_
      exact hR _ _ _ _ dX6_coefficient_28 ⟨0, G, L, B, J, rfl, rfl, hok, (fun _ _ => rfl), (fun _ => rfl), hfi, hli, hle, hlw, hlx, (fun q => absurd q (by omega))⟩
    · intro c3
      refine Z.iload_n hX dX6_coefficient_11 rfl rfl ?_
      refine Z.bipush hX dX6_coefficient_12 (by decide) ?_
      refine Z.icmp_gt hX 27 dX6_coefficient_14 (by decide) ⟨by omega, by omega⟩ ⟨by omega, by omega⟩ ?_ ?_
      · intro c4
        refine Z.lconst (v := 0) hX dX6_coefficient_27 rfl ?_
        exact hR _ _ _ _ dX6_coefficient_28 ⟨0, G, L, B, J, rfl, rfl, hok, (fun _ _ => rfl), (fun _ => rfl), hfi, hli, hle, hlw, hlx, (fun q => absurd q (by omega))⟩
      · intro c4
        refine Z.iload_n hX dX6_coefficient_17 rfl rfl ?_
        refine Z.if_lt hX 27 dX6_coefficient_18 (by decide) ⟨by omega, by omega⟩ ?_ ?_
        · intro c5
          refine Z.lconst (v := 0) hX dX6_coefficient_27 rfl ?_
          exact hR _ _ _ _ dX6_coefficient_28 ⟨0, G, L, B, J, rfl, rfl, hok, (fun _ _ => rfl), (fun _ => rfl), hfi, hli, hle, hlw, hlx, (fun q => absurd q (by omega))⟩
        · intro c5
          refine Z.iload_n hX dX6_coefficient_21 rfl rfl ?_
          refine Z.bipush hX dX6_coefficient_22 (by decide) ?_
          refine Z.icmp_le hX 29 dX6_coefficient_24 (by decide) ⟨by omega, by omega⟩ ⟨by omega, by omega⟩ ?_ ?_
          · intro c6
            rcases (show sort = 0 ∨ sort = 1 by omega) with rfl | rfl
            · skip
              refine Z.aload_n hX dX6_coefficient_29 rfl rfl ?_
              refine Z.iload_n hX dX6_coefficient_30 rfl rfl ?_
              refine Z.callVfr (As := [.int (zI 0)]) (rest := []) hX 6 0 rfl rfl (ct_X6_curveOf_lw l D ce h pl ar G L B J hok hbl hfi hli hle hlw hlx) mc_X6_curveOf ml_X6_102 im_X6_curveOf se_X6_curveOf ini_X6 nd_X6_curveOf ⟨Nat.le_of_ble_eq_true rfl, Nat.le_of_ble_eq_true rfl⟩ ⟨rfl, rfl⟩ ⟨Nat.le_refl _, Nat.le_refl _⟩ rfl (Nat.le_of_ble_eq_true rfl) dX6_coefficient_31 ?_
              rintro r_7 w1 ⟨Gc, Lc, Bc, Jc, hr_, hw_, cv1, cv2, cv3, cv4, cv5, cv6, cv7, cv8⟩
              subst hr_
              subst hw_
              obtain ⟨dB, dg0, dg2, dg3, dg5, dg6, dg1, dg4⟩ := id cv1
              unfold bl at dg0 dg2 dg3 dg5 dg6
              refine Z.astore (lv' := [(4, .ref (h 6)), (0, .ref (h 0)), (1, .int (zI 0)), (2, .int (zI i)), (3, .int (zI j))]) hX dX6_coefficient_34 (by decide) rfl ?_
              refine Z.aload hX dX6_coefficient_36 rfl ?_
              refine Z.getf hX 0 6 3 dX6_coefficient_38 rfl rfl inX0 (by decide) fl_X6_106 rfl rfl ?_
              refine Z.if_eq hX 71 dX6_coefficient_41 (by decide) ⟨by omega, by omega⟩ ?_ ?_
              · intro c8
                refine Z.lconst (v := 0) hX dX6_coefficient_71 rfl ?_
                exact hR _ _ _ _ dX6_coefficient_72 ⟨0, Gc, Lc, Bc, Jc, rfl, rfl, cv1, cv2, (fun q => absurd (by omega) q), cv3, (by first | exact cv4 | exact cv4.1), (by first | exact cv6 | exact cv5), cv7, cv8, (fun _ => by first | exact rsc_ln cv4 cv5 cv2 (by omega) (by omega) rfl | exact rsc_en cv5 cv6 cv2 (by omega) (by omega) rfl | exact rsc_l cv4 cv5 cv7 cv2 (by omega) (by omega) (fun _ _ _ _ _ => by first | exact cf_in eso (by omega) (by omega) (by omega) | exact cf_out (by omega) (by omega) (by omega) (by omega)) | exact rsc_e cv5 cv6 cv8 cv2 (by omega) (by omega) (fun _ _ _ _ _ => by first | exact cf_in eso (by omega) (by omega) (by omega) | exact cf_out (by omega) (by omega) (by omega) (by omega)))⟩
              · intro c8
                refine Z.iload_n hX dX6_coefficient_44 rfl rfl ?_
                refine Z.iload_n hX dX6_coefficient_45 rfl rfl ?_
                refine Z.iadd hX dX6_coefficient_46 ?_
                refine Z.bipush hX dX6_coefficient_47 (by decide) ?_
                refine Z.icmp_gt hX 71 dX6_coefficient_49 (by decide) ⟨by omega, by omega⟩ ⟨by omega, by omega⟩ ?_ ?_
                · intro c9
                  refine Z.lconst (v := 0) hX dX6_coefficient_71 rfl ?_
                  exact hR _ _ _ _ dX6_coefficient_72 ⟨0, Gc, Lc, Bc, Jc, rfl, rfl, cv1, cv2, (fun q => absurd (by omega) q), cv3, (by first | exact cv4 | exact cv4.1), (by first | exact cv6 | exact cv5), cv7, cv8, (fun _ => by first | exact rsc_ln cv4 cv5 cv2 (by omega) (by omega) rfl | exact rsc_en cv5 cv6 cv2 (by omega) (by omega) rfl | exact rsc_l cv4 cv5 cv7 cv2 (by omega) (by omega) (fun _ _ _ _ _ => by first | exact cf_in eso (by omega) (by omega) (by omega) | exact cf_out (by omega) (by omega) (by omega) (by omega)) | exact rsc_e cv5 cv6 cv8 cv2 (by omega) (by omega) (fun _ _ _ _ _ => by first | exact cf_in eso (by omega) (by omega) (by omega) | exact cf_out (by omega) (by omega) (by omega) (by omega)))⟩
                · intro c9
                  refine Z.aload hX dX6_coefficient_52 rfl ?_
                  refine Z.getf hX 0 6 0 dX6_coefficient_54 rfl rfl inX0 (by decide) fl_X6_109 rfl rfl ?_
                  refine Z.getf hX 3 (24 + 40) 0 dX6_coefficient_57 (cW_pl (by decide)) rfl inX3 (by decide) fl_X6_122 rfl rfl ?_
                  refine Z.iload_n hX dX6_coefficient_60 rfl rfl ?_
                  refine Z.iload_n hX dX6_coefficient_61 rfl rfl ?_
                  refine Z.iadd hX dX6_coefficient_62 ?_
                  refine Z.iload_n hX dX6_coefficient_63 rfl rfl ?_
                  refine Z.callS0i (As := [.int (zI (i + j)), .int (zI j)]) (rest := [.ref (ar 40)]) hX (ct_X6_slotOf l D ce (i + j) j (by omega) (by omega)) mc_X6_slotOf ml_X6_125 st_X6_slotOf ini_X6 nd_X6_slotOf ⟨Nat.le_of_ble_eq_true rfl, Nat.le_of_ble_eq_true rfl⟩ ⟨rfl, rfl⟩ ⟨Nat.le_refl _, Nat.le_refl _⟩ rfl (Nat.le_of_ble_eq_true rfl) dX6_coefficient_64 ?_
                  rintro r_10 w1 ⟨so, hr_, hw_, eso, hso⟩
                  subst hr_
                  refine ⟨hw_, ?_⟩
                  refine Z.laload hX (66 + 40) 1 dX6_coefficient_67 (cW_ar (by decide)) rfl (by omega) (by omega) (by decide) ?_
                  refine Z.goto hX 72 dX6_coefficient_68 (by decide) ?_
                  exact hR _ _ _ _ dX6_coefficient_72 ⟨(Jc 40 (so : Int).toNat), Gc, Lc, Bc, Jc, rfl, rfl, cv1, cv2, (fun q => absurd (by omega) q), cv3, (by first | exact cv4 | exact cv4.1), (by first | exact cv6 | exact cv5), cv7, cv8, (fun _ => by first | exact rsc_ln cv4 cv5 cv2 (by omega) (by omega) rfl | exact rsc_en cv5 cv6 cv2 (by omega) (by omega) rfl | exact rsc_l cv4 cv5 cv7 cv2 (by omega) (by omega) (fun _ _ _ _ _ => by first | exact cf_in eso (by omega) (by omega) (by omega) | exact cf_out (by omega) (by omega) (by omega) (by omega)) | exact rsc_e cv5 cv6 cv8 cv2 (by omega) (by omega) (fun _ _ _ _ _ => by first | exact cf_in eso (by omega) (by omega) (by omega) | exact cf_out (by omega) (by omega) (by omega) (by omega)))⟩
            · skip
              refine Z.aload_n hX dX6_coefficient_29 rfl rfl ?_
              refine Z.iload_n hX dX6_coefficient_30 rfl rfl ?_
              refine Z.callVfr (As := [.int (zI 1)]) (rest := []) hX 6 0 rfl rfl (ct_X6_curveOf_ew l D ce h pl ar G L B J hok hbl hfi hli hle hlw hlx) mc_X6_curveOf ml_X6_102 im_X6_curveOf se_X6_curveOf ini_X6 nd_X6_curveOf ⟨Nat.le_of_ble_eq_true rfl, Nat.le_of_ble_eq_true rfl⟩ ⟨rfl, rfl⟩ ⟨Nat.le_refl _, Nat.le_refl _⟩ rfl (Nat.le_of_ble_eq_true rfl) dX6_coefficient_31 ?_
              rintro r_11 w1 ⟨Gc, Lc, Bc, Jc, hr_, hw_, cv1, cv2, cv3, cv4, cv5, cv6, cv7, cv8⟩
              subst hr_
              subst hw_
              obtain ⟨dB, dg0, dg2, dg3, dg5, dg6, dg1, dg4⟩ := id cv1
              unfold bl at dg0 dg2 dg3 dg5 dg6
              refine Z.astore (lv' := [(4, .ref (h 7)), (0, .ref (h 0)), (1, .int (zI 1)), (2, .int (zI i)), (3, .int (zI j))]) hX dX6_coefficient_34 (by decide) rfl ?_
              refine Z.aload hX dX6_coefficient_36 rfl ?_
              refine Z.getf hX 0 7 3 dX6_coefficient_38 rfl rfl inX0 (by decide) fl_X6_106 rfl rfl ?_
              refine Z.if_eq hX 71 dX6_coefficient_41 (by decide) ⟨by omega, by omega⟩ ?_ ?_
              · intro c12
                refine Z.lconst (v := 0) hX dX6_coefficient_71 rfl ?_
                exact hR _ _ _ _ dX6_coefficient_72 ⟨0, Gc, Lc, Bc, Jc, rfl, rfl, cv1, cv2, (fun q => absurd (by omega) q), cv3, (by first | exact cv4 | exact cv4.1), (by first | exact cv6 | exact cv5), cv7, cv8, (fun _ => by first | exact rsc_ln cv4 cv5 cv2 (by omega) (by omega) rfl | exact rsc_en cv5 cv6 cv2 (by omega) (by omega) rfl | exact rsc_l cv4 cv5 cv7 cv2 (by omega) (by omega) (fun _ _ _ _ _ => by first | exact cf_in eso (by omega) (by omega) (by omega) | exact cf_out (by omega) (by omega) (by omega) (by omega)) | exact rsc_e cv5 cv6 cv8 cv2 (by omega) (by omega) (fun _ _ _ _ _ => by first | exact cf_in eso (by omega) (by omega) (by omega) | exact cf_out (by omega) (by omega) (by omega) (by omega)))⟩
              · intro c12
                refine Z.iload_n hX dX6_coefficient_44 rfl rfl ?_
                refine Z.iload_n hX dX6_coefficient_45 rfl rfl ?_
                refine Z.iadd hX dX6_coefficient_46 ?_
                refine Z.bipush hX dX6_coefficient_47 (by decide) ?_
                refine Z.icmp_gt hX 71 dX6_coefficient_49 (by decide) ⟨by omega, by omega⟩ ⟨by omega, by omega⟩ ?_ ?_
                · intro c13
                  refine Z.lconst (v := 0) hX dX6_coefficient_71 rfl ?_
                  exact hR _ _ _ _ dX6_coefficient_72 ⟨0, Gc, Lc, Bc, Jc, rfl, rfl, cv1, cv2, (fun q => absurd (by omega) q), cv3, (by first | exact cv4 | exact cv4.1), (by first | exact cv6 | exact cv5), cv7, cv8, (fun _ => by first | exact rsc_ln cv4 cv5 cv2 (by omega) (by omega) rfl | exact rsc_en cv5 cv6 cv2 (by omega) (by omega) rfl | exact rsc_l cv4 cv5 cv7 cv2 (by omega) (by omega) (fun _ _ _ _ _ => by first | exact cf_in eso (by omega) (by omega) (by omega) | exact cf_out (by omega) (by omega) (by omega) (by omega)) | exact rsc_e cv5 cv6 cv8 cv2 (by omega) (by omega) (fun _ _ _ _ _ => by first | exact cf_in eso (by omega) (by omega) (by omega) | exact cf_out (by omega) (by omega) (by omega) (by omega)))⟩
                · intro c13
                  refine Z.aload hX dX6_coefficient_52 rfl ?_
                  refine Z.getf hX 0 7 0 dX6_coefficient_54 rfl rfl inX0 (by decide) fl_X6_109 rfl rfl ?_
                  refine Z.getf hX 3 (24 + 41) 0 dX6_coefficient_57 (cW_pl (by decide)) rfl inX3 (by decide) fl_X6_122 rfl rfl ?_
                  refine Z.iload_n hX dX6_coefficient_60 rfl rfl ?_
                  refine Z.iload_n hX dX6_coefficient_61 rfl rfl ?_
                  refine Z.iadd hX dX6_coefficient_62 ?_
                  refine Z.iload_n hX dX6_coefficient_63 rfl rfl ?_
                  refine Z.callS0i (As := [.int (zI (i + j)), .int (zI j)]) (rest := [.ref (ar 41)]) hX (ct_X6_slotOf l D ce (i + j) j (by omega) (by omega)) mc_X6_slotOf ml_X6_125 st_X6_slotOf ini_X6 nd_X6_slotOf ⟨Nat.le_of_ble_eq_true rfl, Nat.le_of_ble_eq_true rfl⟩ ⟨rfl, rfl⟩ ⟨Nat.le_refl _, Nat.le_refl _⟩ rfl (Nat.le_of_ble_eq_true rfl) dX6_coefficient_64 ?_
                  rintro r_14 w1 ⟨so, hr_, hw_, eso, hso⟩
                  subst hr_
                  refine ⟨hw_, ?_⟩
                  refine Z.laload hX (66 + 41) 1 dX6_coefficient_67 (cW_ar (by decide)) rfl (by omega) (by omega) (by decide) ?_
                  refine Z.goto hX 72 dX6_coefficient_68 (by decide) ?_
                  exact hR _ _ _ _ dX6_coefficient_72 ⟨(Jc 41 (so : Int).toNat), Gc, Lc, Bc, Jc, rfl, rfl, cv1, cv2, (fun q => absurd (by omega) q), cv3, (by first | exact cv4 | exact cv4.1), (by first | exact cv6 | exact cv5), cv7, cv8, (fun _ => by first | exact rsc_ln cv4 cv5 cv2 (by omega) (by omega) rfl | exact rsc_en cv5 cv6 cv2 (by omega) (by omega) rfl | exact rsc_l cv4 cv5 cv7 cv2 (by omega) (by omega) (fun _ _ _ _ _ => by first | exact cf_in eso (by omega) (by omega) (by omega) | exact cf_out (by omega) (by omega) (by omega) (by omega)) | exact rsc_e cv5 cv6 cv8 cv2 (by omega) (by omega) (fun _ _ _ _ _ => by first | exact cf_in eso (by omega) (by omega) (by omega) | exact cf_out (by omega) (by omega) (by omega) (by omega)))⟩
          · intro c6
            refine Z.lconst (v := 0) hX dX6_coefficient_27 rfl ?_
            exact hR _ _ _ _ dX6_coefficient_28 ⟨0, G, L, B, J, rfl, rfl, hok, (fun _ _ => rfl), (fun _ => rfl), hfi, hli, hle, hlw, hlx, (fun q => absurd q (by omega))⟩

set_option maxHeartbeats 4000000 in
set_option maxRecDepth 100000 in
theorem ct_X6_follows_w (l : Launch) (D : va_G) (ce : Nat → ClassId) (h pl ar : Nat → Nat) (G : Nat → Int) (L : Nat → Nat → Int64) (B : Nat → Int) (J : Nat → Nat → Int64) (u v : Int) (hok : cOK G B) (hbl : bL L) (hfi : FI G L) (hu : -2147483648 ≤ u ∧ u < 2147483648) (hv : -2147483648 ≤ v ∧ v < 2147483648) (hli : LI G L) (hle : LIe G L) (hlw : LIw G L B J) (hlx : LIx G L B J) : Ct l yX6_follows cX6_follows 3 (some .int) { frames := 6, cells := 0, slots := 0, locals := 162 } 0 0 D (TY ce) [.ref (h 0), .int (zI u), .int (zI v)] (cW ce h pl ar G L B J) (QI D (TY ce) (fun r w1 => ∃ z : Int, ∃ G2 : Nat → Int, ∃ L2 : Nat → Nat → Int64, ∃ B2 : Nat → Int, ∃ J2 : Nat → Nat → Int64, r = zI z ∧ w1 = cW ce h pl ar G2 L2 B2 J2 ∧ (cOK G2 B2) ∧ (∀ k, k < 3 → L2 k = L k) ∧ (¬ (-9 ≤ u ∧ u ≤ 9 ∧ -9 ≤ v ∧ v ≤ 9 ∧ ¬ (u = 0 ∧ v = 0)) → z = -1) ∧ (FI G2 L2) ∧ (LI G2 L2) ∧ ((-9 ≤ u ∧ u ≤ 9 ∧ -9 ≤ v ∧ v ≤ 9 ∧ ¬ (u = 0 ∧ v = 0)) → ∃ n : Int, HP L n ∧ FLc L L2 (wOf (L 2) u v n) z) ∧ (LIe G2 L2) ∧ (LIw G2 L2 B2 J2) ∧ (LIx G2 L2 B2 J2))) := by
  refine Ct.ofI (by decide) (Nat.le_of_ble_eq_true rfl) ?_
  intro p e s m args below meth c A Q hX hnm hR
  refine Z.pick (lv' := [(0, .ref (h 0)), (1, .int (zI u)), (2, .int (zI v))]) [0, 1, 2] rfl ?_
  obtain ⟨hB, hg0, hg2, hg3, hg5, hg6, hg1, hg4⟩ := id hok
  unfold bl at hg0 hg2 hg3 hg5 hg6
  refine Z.iload_n hX dX6_follows_0 rfl rfl ?_
  refine Z.iload_n hX dX6_follows_1 rfl rfl ?_
  refine Z.callS0i (As := [.int (zI u), .int (zI v)]) (rest := []) hX (ct_X6_isParameter l D ce u v (by omega) (by omega)) mc_X6_isParameter ml_X6_88 st_X6_isParameter ini_X6 nd_X6_isParameter ⟨Nat.le_of_ble_eq_true rfl, Nat.le_of_ble_eq_true rfl⟩ ⟨rfl, rfl⟩ ⟨Nat.le_refl _, Nat.le_refl _⟩ rfl (Nat.le_of_ble_eq_true rfl) dX6_follows_2 ?_
  rintro r_1 w1 ⟨z1, hr_, hw_, p1⟩
  subst hr_
  refine ⟨hw_, ?_⟩
  refine Z.if_ne hX 10 dX6_follows_5 (by decide) ⟨by omega, by omega⟩ ?_ ?_
  · intro c2
    refine Z.aload_n hX dX6_follows_10 rfl rfl ?_
    refine Z.iload_n hX dX6_follows_11 rfl rfl ?_
    refine Z.iload_n hX dX6_follows_12 rfl rfl ?_
    refine Z.callVfv (As := [.int (zI u), .int (zI v)]) (rest := []) hX 6 0 rfl rfl (ct_X6_moveTo l D ce h pl ar G L B J u v (by omega) (by omega)) mc_X6_moveTo ml_X6_91 im_X6_moveTo se_X6_moveTo ini_X6 nd_X6_moveTo ⟨Nat.le_of_ble_eq_true rfl, Nat.le_of_ble_eq_true rfl⟩ ⟨rfl, rfl⟩ ⟨Nat.le_refl _, Nat.le_refl _⟩ rfl (Nat.le_of_ble_eq_true rfl) dX6_follows_13 ?_
    rintro w1 ⟨n, Lm, hw_, mv1, mv2, mv3⟩
    subst hw_
    have s2 : Lm 9 (2 : Int).toNat = wOf (L 2) u v n := mv2 2 (by decide) (by decide)
    refine Z.aload_n hX dX6_follows_16 rfl rfl ?_
    refine Z.getf hX 6 0 7 dX6_follows_17 rfl rfl inX6 (by decide) fl_X6_50 rfl rfl ?_
    refine Z.iconst hX dX6_follows_20 ?_
    refine Z.laload hX 8 1 dX6_follows_21 rfl rfl (by omega) (by omega) (by decide) ?_
    refine Z.lconst (v := 0) hX dX6_follows_22 rfl ?_
    refine Z.lcmp_eq hX 42 dX6_follows_23 dX6_follows_24 (by decide) ?_ ?_
    · intro c4
      refine Z.bipush hX dX6_follows_42 (by decide) ?_
      exact hR _ _ _ _ dX6_follows_44 ⟨(-2), G, Lm, B, J, rfl, rfl, hok, (fun k h => mv3 k (by omega)), (fun q => absurd (by omega) q), (FI_k hfi rfl (fun k h => mv3 k (by omega))), (LI_k hli rfl rfl (fun k h => mv3 k (by omega))), (fun _ => ⟨n, mv1, fun _ => rfl, fun q => absurd (s2.symm.trans (by assumption)) q⟩), (LIe_k hle rfl rfl (fun k h => mv3 k (by omega))), (LIw_k hlw rfl rfl rfl (fun k h => mv3 k (by omega)) rfl rfl), (LIx_k hlx rfl rfl rfl (fun k h => mv3 k (by omega)) rfl rfl)⟩
    · intro c4
      refine Z.aload_n hX dX6_follows_27 rfl rfl ?_
      refine Z.iconst hX dX6_follows_28 ?_
      refine Z.callVfr (As := [.int (zI 0)]) (rest := []) hX 6 0 rfl rfl (ct_X6_curveOf_lw l D ce h pl ar G Lm B J hok (bL_k hbl (fun k h => mv3 k (by omega))) (FI_k hfi rfl (fun k h => mv3 k (by omega))) (LI_k hli rfl rfl (fun k h => mv3 k (by omega))) (LIe_k hle rfl rfl (fun k h => mv3 k (by omega))) (LIw_k hlw rfl rfl rfl (fun k h => mv3 k (by omega)) rfl rfl) (LIx_k hlx rfl rfl rfl (fun k h => mv3 k (by omega)) rfl rfl)) mc_X6_curveOf ml_X6_102 im_X6_curveOf se_X6_curveOf ini_X6 nd_X6_curveOf ⟨Nat.le_of_ble_eq_true rfl, Nat.le_of_ble_eq_true rfl⟩ ⟨rfl, rfl⟩ ⟨Nat.le_refl _, Nat.le_refl _⟩ rfl (Nat.le_of_ble_eq_true rfl) dX6_follows_29 ?_
      rintro r_5 w1 ⟨Gc, Lc, Bc, Jc, hr_, hw_, cv1, cv2, cv3, cv4, cv5, cv6, cv7, cv8⟩
      subst hr_
      subst hw_
      obtain ⟨dB, dg0, dg2, dg3, dg5, dg6, dg1, dg4⟩ := id cv1
      unfold bl at dg0 dg2 dg3 dg5 dg6
      refine Z.getf hX 0 6 3 dX6_follows_32 rfl rfl inX0 (by decide) fl_X6_106 rfl rfl ?_
      refine Z.if_eq hX 42 dX6_follows_35 (by decide) ⟨by omega, by omega⟩ ?_ ?_
      · intro c6
        refine Z.bipush hX dX6_follows_42 (by decide) ?_
        exact hR _ _ _ _ dX6_follows_44 ⟨(-2), Gc, Lc, Bc, Jc, rfl, rfl, cv1, (fun k h => (cv2 k h).trans (mv3 k (by omega))), (fun q => absurd (by omega) q), cv3, cv4, (fun _ => ⟨n, mv1, fl_c cv4 cv5 (fun k h => (cv2 k h).trans (mv3 k (by omega))) (by rw [← s2]; assumption) (Or.inl ⟨by omega, rfl⟩)⟩), cv6, cv7, cv8⟩
      · intro c6
        refine Z.iconst hX dX6_follows_38 ?_
        refine Z.goto hX 44 dX6_follows_39 (by decide) ?_
        exact hR _ _ _ _ dX6_follows_44 ⟨1, Gc, Lc, Bc, Jc, rfl, rfl, cv1, (fun k h => (cv2 k h).trans (mv3 k (by omega))), (fun q => absurd (by omega) q), cv3, cv4, (fun _ => ⟨n, mv1, fl_c cv4 cv5 (fun k h => (cv2 k h).trans (mv3 k (by omega))) (by rw [← s2]; assumption) (Or.inr ⟨by omega, rfl⟩)⟩), cv6, cv7, cv8⟩
  · intro c2
    refine Z.iconst hX dX6_follows_8 ?_
    exact hR _ _ _ _ dX6_follows_9 ⟨(-1), G, L, B, J, rfl, rfl, hok, (fun _ _ => rfl), (fun _ => rfl), hfi, hli, (fun q => absurd q (by omega)), hle, hlw, hlx⟩

set_option maxHeartbeats 4000000 in
set_option maxRecDepth 100000 in
theorem ct_X6_touches_w (l : Launch) (D : va_G) (ce : Nat → ClassId) (h pl ar : Nat → Nat) (G : Nat → Int) (L : Nat → Nat → Int64) (B : Nat → Int) (J : Nat → Nat → Int64) (u v : Int) (hok : cOK G B) (hbl : bL L) (hfi : FI G L) (hu : -2147483648 ≤ u ∧ u < 2147483648) (hv : -2147483648 ≤ v ∧ v < 2147483648) (hli : LI G L) (hle : LIe G L) (hlw : LIw G L B J) (hlx : LIx G L B J) : Ct l yX6_touches cX6_touches 6 (some .int) { frames := 6, cells := 0, slots := 0, locals := 162 } 0 0 D (TY ce) [.ref (h 0), .int (zI u), .int (zI v)] (cW ce h pl ar G L B J) (QI D (TY ce) (fun r w1 => ∃ z : Int, ∃ G2 : Nat → Int, ∃ L2 : Nat → Nat → Int64, ∃ B2 : Nat → Int, ∃ J2 : Nat → Nat → Int64, r = zI z ∧ w1 = cW ce h pl ar G2 L2 B2 J2 ∧ (cOK G2 B2) ∧ (∀ k, k < 3 → L2 k = L k) ∧ (¬ (-9 ≤ u ∧ u ≤ 9 ∧ -9 ≤ v ∧ v ≤ 9 ∧ ¬ (u = 0 ∧ v = 0)) → z = -1) ∧ (FI G2 L2) ∧ (LI G2 L2) ∧ (LIe G2 L2) ∧ ((-9 ≤ u ∧ u ≤ 9 ∧ -9 ≤ v ∧ v ≤ 9 ∧ ¬ (u = 0 ∧ v = 0)) → TCc L u v z) ∧ (LIw G2 L2 B2 J2) ∧ (LIx G2 L2 B2 J2))) := by
  refine Ct.ofI (by decide) (Nat.le_of_ble_eq_true rfl) ?_
  intro p e s m args below meth c A Q hX hnm hR
  refine Z.pick (lv' := [(0, .ref (h 0)), (1, .int (zI u)), (2, .int (zI v))]) [0, 1, 2] rfl ?_
  obtain ⟨hB, hg0, hg2, hg3, hg5, hg6, hg1, hg4⟩ := id hok
  unfold bl at hg0 hg2 hg3 hg5 hg6
  refine Z.iload_n hX dX6_touches_0 rfl rfl ?_
  refine Z.iload_n hX dX6_touches_1 rfl rfl ?_
  refine Z.callS0i (As := [.int (zI u), .int (zI v)]) (rest := []) hX (ct_X6_isParameter l D ce u v (by omega) (by omega)) mc_X6_isParameter ml_X6_88 st_X6_isParameter ini_X6 nd_X6_isParameter ⟨Nat.le_of_ble_eq_true rfl, Nat.le_of_ble_eq_true rfl⟩ ⟨rfl, rfl⟩ ⟨Nat.le_refl _, Nat.le_refl _⟩ rfl (Nat.le_of_ble_eq_true rfl) dX6_touches_2 ?_
  rintro r_1 w1 ⟨z1, hr_, hw_, p1⟩
  subst hr_
  refine ⟨hw_, ?_⟩
  refine Z.if_ne hX 10 dX6_touches_5 (by decide) ⟨by omega, by omega⟩ ?_ ?_
  · intro c2
    refine Z.aload_n hX dX6_touches_10 rfl rfl ?_
    refine Z.iconst hX dX6_touches_11 ?_
    refine Z.callVfr (As := [.int (zI 1)]) (rest := []) hX 6 0 rfl rfl (ct_X6_curveOf_ew l D ce h pl ar G L B J hok hbl hfi hli hle hlw hlx) mc_X6_curveOf ml_X6_102 im_X6_curveOf se_X6_curveOf ini_X6 nd_X6_curveOf ⟨Nat.le_of_ble_eq_true rfl, Nat.le_of_ble_eq_true rfl⟩ ⟨rfl, rfl⟩ ⟨Nat.le_refl _, Nat.le_refl _⟩ rfl (Nat.le_of_ble_eq_true rfl) dX6_touches_12 ?_
    rintro r_3 w1 ⟨Gc, Lc, Bc, Jc, hr_, hw_, cv1, cv2, cv3, cv4, cv5, cv6, cv7, cv8⟩
    subst hr_
    subst hw_
    obtain ⟨dB, dg0, dg2, dg3, dg5, dg6, dg1, dg4⟩ := id cv1
    unfold bl at dg0 dg2 dg3 dg5 dg6
    refine Z.getf hX 0 7 3 dX6_touches_15 rfl rfl inX0 (by decide) fl_X6_106 rfl rfl ?_
    refine Z.if_ne hX 24 dX6_touches_18 (by decide) ⟨by omega, by omega⟩ ?_ ?_
    · intro c4
      refine Z.aload_n hX dX6_touches_24 rfl rfl ?_
      refine Z.getf hX 6 0 0 dX6_touches_25 rfl rfl inX6 (by decide) fl_X6_10 rfl rfl ?_
      refine Z.callVfi (As := []) (rest := []) hX 5 1 rfl rfl (ct_X5_highestPower_r l D ce h pl ar Gc Lc Bc Jc ) mc_X5_highestPower ml_X6_80 im_X5_highestPower se_X5_highestPower ini_X5 nd_X5_highestPower ⟨Nat.le_of_ble_eq_true rfl, Nat.le_of_ble_eq_true rfl⟩ ⟨rfl, rfl⟩ ⟨Nat.le_refl _, Nat.le_refl _⟩ rfl (Nat.le_of_ble_eq_true rfl) dX6_touches_28 ?_
      rintro r_5 w1 ⟨tp, hr_, hw_, n1, n2, n3⟩
      subst hr_
      subst hw_
      have htp : 2 ≤ tp := tp_2 cv5 cv6 (by omega) ⟨n1, n2, n3⟩
      refine Z.istore_n (lv' := [(3, .int (zI tp)), (0, .ref (h 0)), (1, .int (zI u)), (2, .int (zI v))]) hX dX6_touches_31 rfl (by decide) rfl ?_
      refine Z.aload_n hX dX6_touches_32 rfl rfl ?_
      refine Z.iconst hX dX6_touches_33 ?_
      refine Z.iload_n hX dX6_touches_34 rfl rfl ?_
      refine Z.iload_n hX dX6_touches_35 rfl rfl ?_
      refine Z.iload_n hX dX6_touches_36 rfl rfl ?_
      refine Z.callVfl (As := [.int (zI 0), .int (zI u), .int (zI v), .int (zI tp)]) (rest := []) hX 6 0 rfl rfl (ct_X6_slopeByU_z l D ce h pl ar Gc Lc Bc Jc 0 u v tp (by omega) hu hv (by omega)) mc_X6_slopeByU ml_X6_137 im_X6_slopeByU se_X6_slopeByU ini_X6 nd_X6_slopeByU ⟨Nat.le_of_ble_eq_true rfl, Nat.le_of_ble_eq_true rfl⟩ ⟨rfl, rfl⟩ ⟨Nat.le_refl _, Nat.le_refl _⟩ rfl (Nat.le_of_ble_eq_true rfl) dX6_touches_37 ?_
      rintro sa w1 ⟨r07, hr_, hw_, hsa⟩
      subst hr_
      subst hw_
      refine Z.aload_n hX dX6_touches_40 rfl rfl ?_
      refine Z.iconst hX dX6_touches_41 ?_
      refine Z.iload_n hX dX6_touches_42 rfl rfl ?_
      refine Z.iload_n hX dX6_touches_43 rfl rfl ?_
      refine Z.iload_n hX dX6_touches_44 rfl rfl ?_
      refine Z.callVfl (As := [.int (zI 1), .int (zI u), .int (zI v), .int (zI tp)]) (rest := [.long sa]) hX 6 0 rfl rfl (ct_X6_slopeByV_z l D ce h pl ar Gc Lc Bc Jc 1 u v tp (by omega) hu hv (by omega)) mc_X6_slopeByV ml_X6_141 im_X6_slopeByV se_X6_slopeByV ini_X6 nd_X6_slopeByV ⟨Nat.le_of_ble_eq_true rfl, Nat.le_of_ble_eq_true rfl⟩ ⟨rfl, rfl⟩ ⟨Nat.le_refl _, Nat.le_refl _⟩ rfl (Nat.le_of_ble_eq_true rfl) dX6_touches_45 ?_
      rintro se w1 ⟨r09, hr_, hw_, hse⟩
      subst hr_
      subst hw_
      refine Z.lmul hX dX6_touches_48 ?_
      refine Z.aload_n hX dX6_touches_49 rfl rfl ?_
      refine Z.iconst hX dX6_touches_50 ?_
      refine Z.iload_n hX dX6_touches_51 rfl rfl ?_
      refine Z.iload_n hX dX6_touches_52 rfl rfl ?_
      refine Z.iload_n hX dX6_touches_53 rfl rfl ?_
      refine Z.callVfl (As := [.int (zI 1), .int (zI u), .int (zI v), .int (zI tp)]) (rest := [.long (sa * se)]) hX 6 0 rfl rfl (ct_X6_slopeByU_z l D ce h pl ar Gc Lc Bc Jc 1 u v tp (by omega) hu hv (by omega)) mc_X6_slopeByU ml_X6_137 im_X6_slopeByU se_X6_slopeByU ini_X6 nd_X6_slopeByU ⟨Nat.le_of_ble_eq_true rfl, Nat.le_of_ble_eq_true rfl⟩ ⟨rfl, rfl⟩ ⟨Nat.le_refl _, Nat.le_refl _⟩ rfl (Nat.le_of_ble_eq_true rfl) dX6_touches_54 ?_
      rintro sb w1 ⟨r011, hr_, hw_, hsb⟩
      subst hr_
      subst hw_
      refine Z.aload_n hX dX6_touches_57 rfl rfl ?_
      refine Z.iconst hX dX6_touches_58 ?_
      refine Z.iload_n hX dX6_touches_59 rfl rfl ?_
      refine Z.iload_n hX dX6_touches_60 rfl rfl ?_
      refine Z.iload_n hX dX6_touches_61 rfl rfl ?_
      refine Z.callVfl (As := [.int (zI 0), .int (zI u), .int (zI v), .int (zI tp)]) (rest := [.long sb, .long (sa * se)]) hX 6 0 rfl rfl (ct_X6_slopeByV_z l D ce h pl ar Gc Lc Bc Jc 0 u v tp (by omega) hu hv (by omega)) mc_X6_slopeByV ml_X6_141 im_X6_slopeByV se_X6_slopeByV ini_X6 nd_X6_slopeByV ⟨Nat.le_of_ble_eq_true rfl, Nat.le_of_ble_eq_true rfl⟩ ⟨rfl, rfl⟩ ⟨Nat.le_refl _, Nat.le_refl _⟩ rfl (Nat.le_of_ble_eq_true rfl) dX6_touches_62 ?_
      rintro sd w1 ⟨r013, hr_, hw_, hsd⟩
      subst hr_
      subst hw_
      have hxx := tc_c (L := Lc) (bL_k hbl (fun k h => cv2 k (by omega))) (N := tp) (by omega) (show -9 ≤ u ∧ u ≤ 9 ∧ -9 ≤ v ∧ v ≤ 9 ∧ ¬ (u = 0 ∧ v = 0) by omega) hsa hsb hsd hse
      refine Z.lmul hX dX6_touches_65 ?_
      refine Z.lsub hX dX6_touches_66 ?_
      refine Z.lstore (lv' := [(4, .long ((sa * se) - (sb * sd))), (3, .int (zI tp)), (0, .ref (h 0)), (1, .int (zI u)), (2, .int (zI v))]) hX dX6_touches_67 (by decide) rfl ?_
      refine Z.lload hX dX6_touches_69 rfl ?_
      refine Z.lconst (v := 0) hX dX6_touches_71 rfl ?_
      refine Z.lcmp_eq hX 80 dX6_touches_72 dX6_touches_73 (by decide) ?_ ?_
      · intro c14
        refine Z.bipush hX dX6_touches_80 (by decide) ?_
        exact hR _ _ _ _ dX6_touches_82 ⟨(-2), Gc, Lc, Bc, Jc, rfl, rfl, cv1, cv2, (fun q => absurd (by omega) q), cv3, cv4, cv5, (fun _ => tc_yes cv5 cv6 (by omega) cv2 ⟨n1, n2, n3⟩ hxx (Or.inr ⟨by assumption, rfl⟩)), cv7, cv8⟩
      · intro c14
        refine Z.iconst hX dX6_touches_76 ?_
        refine Z.goto hX 82 dX6_touches_77 (by decide) ?_
        exact hR _ _ _ _ dX6_touches_82 ⟨1, Gc, Lc, Bc, Jc, rfl, rfl, cv1, cv2, (fun q => absurd (by omega) q), cv3, cv4, cv5, (fun _ => tc_yes cv5 cv6 (by omega) cv2 ⟨n1, n2, n3⟩ hxx (Or.inl ⟨by assumption, rfl⟩)), cv7, cv8⟩
    · intro c4
      refine Z.bipush hX dX6_touches_21 (by decide) ?_
      exact hR _ _ _ _ dX6_touches_23 ⟨(-2), Gc, Lc, Bc, Jc, rfl, rfl, cv1, cv2, (fun q => absurd (by omega) q), cv3, cv4, cv5, (fun _ => tc_no cv5 cv6 (by omega) cv2), cv7, cv8⟩
  · intro c2
    refine Z.iconst hX dX6_touches_8 ?_
    exact hR _ _ _ _ dX6_touches_9 ⟨(-1), G, L, B, J, rfl, rfl, hok, (fun _ _ => rfl), (fun _ => rfl), hfi, hli, hle, (fun q => absurd q (by omega)), hlw, hlx⟩

