set_option maxHeartbeats 4000000 in
set_option maxRecDepth 100000 in
theorem ct_X7_common_x (l : Launch) (D : va_G) (ce : Nat → ClassId) (a b : Int64)  : Ct l yX7_common cX7_common 10 (some .long) { frames := 0, cells := 0, slots := 0, locals := 0 } 0 0 D (TY ce) [.long a, .long b] ([]) (QL D (TY ce) (fun r w1 => ∃ r0 : Int64, r = r0 ∧ w1 = [] ∧ (cgX a b r0))) := by
  refine Ct.ofL (by decide) (Nat.le_of_ble_eq_true rfl) ?_
  intro p e s m args below meth c A Q hX hnm hR
  refine Z.pick (lv' := [(0, .long a), (2, .long b)]) [0, 1] rfl ?_
  have key_12 : ∀ (x : Int64), (hx1 : x = lab a) → Z p l e { frames := 0, cells := 0, slots := 0, locals := 0 } s m args below meth c D A 10 0 0 Q 12 [(0, .long a), (2, .long b)] [.long x] ([]) := by
    intro x hx1
    refine Z.lstore (lv' := [(4, .long x), (0, .long a), (2, .long b)]) hX dX7_common_12 (by decide) rfl ?_
    have key_26 : ∀ (y : Int64), (hy1 : y = lab b) → Z p l e { frames := 0, cells := 0, slots := 0, locals := 0 } s m args below meth c D A 10 0 0 Q 26 [(4, .long x)] [.long y] ([]) := by
      intro y hy1
      refine Z.lstore (lv' := [(6, .long y), (4, .long x)]) hX dX7_common_26 (by decide) rfl ?_
      have key_28 : ∀ (N : Nat), ∀ (x y : Int64), y.toInt.natAbs < N → (hi : cgI a b x y) → (hj : cgJ a b x y) → Z p l e { frames := 0, cells := 0, slots := 0, locals := 0 } s m args below meth c D A 10 0 0 Q 28 [(4, .long x), (6, .long y)] [] ([]) := by
        intro N
        induction N with
        | zero => intro x y hm; exact absurd hm (Nat.not_lt_zero _)
        | succ N ih_28 =>
          intro x y hm hi hj
          refine Z.lload hX dX7_common_28 rfl ?_
          refine Z.lconst (v := 0) hX dX7_common_30 rfl ?_
          refine Z.lcmp_eq hX 53 dX7_common_31 dX7_common_32 (by decide) ?_ ?_
          · intro c1
            refine Z.lload hX dX7_common_53 rfl ?_
            exact hR _ _ _ _ dX7_common_55 ⟨x, rfl, rfl, cgJ_e (by assumption) (cgI_e (by assumption) hi) hj⟩
          · intro c1
            refine Z.lload hX dX7_common_35 rfl ?_
            refine Z.lload hX dX7_common_37 rfl ?_
            refine Z.lrem hX dX7_common_39 (by assumption) ?_
            refine Z.lstore (lv' := [(8, .long (x - x / y * y)), (4, .long x), (6, .long y)]) hX dX7_common_40 (by decide) rfl ?_
            refine Z.lload hX dX7_common_42 rfl ?_
            refine Z.lstore (lv' := [(4, .long y), (8, .long (x - x / y * y)), (6, .long y)]) hX dX7_common_44 (by decide) rfl ?_
            refine Z.lload hX dX7_common_46 rfl ?_
            refine Z.lstore (lv' := [(6, .long (x - x / y * y)), (4, .long y), (8, .long (x - x / y * y))]) hX dX7_common_48 (by decide) rfl ?_
            refine Z.goto hX 28 dX7_common_50 (by decide) ?_
            refine Z.pick [1, 0] rfl ?_
            exact ih_28 _ _ (Nat.lt_of_lt_of_le (cg_dec (by assumption)) (Nat.le_of_lt_succ hm)) (cgI_s (by assumption) hi) (cgJ_s (by assumption) hj)
      refine Z.pick [1, 0] rfl ?_
      exact key_28 _ _ _ (Nat.lt_succ_self _) (by rw [hx1, hy1]; exact cgI_0 a b) (by rw [hx1, hy1]; exact cgJ_0 a b)
    refine Z.lload_n hX dX7_common_14 rfl rfl ?_
    refine Z.lconst (v := 0) hX dX7_common_15 rfl ?_
    refine Z.lcmp_ge hX 25 dX7_common_16 dX7_common_17 (by decide) ?_ ?_
    · intro c2
      refine Z.lload_n hX dX7_common_25 rfl rfl ?_
      refine Z.pick [0] rfl ?_
      exact key_26 _ (lab_pos (by assumption))
    · intro c2
      refine Z.lload_n hX dX7_common_20 rfl rfl ?_
      refine Z.lneg hX dX7_common_21 ?_
      refine Z.goto hX 26 dX7_common_22 (by decide) ?_
      refine Z.pick [0] rfl ?_
      exact key_26 _ (lab_neg (by assumption))
  refine Z.lload_n hX dX7_common_0 rfl rfl ?_
  refine Z.lconst (v := 0) hX dX7_common_1 rfl ?_
  refine Z.lcmp_ge hX 11 dX7_common_2 dX7_common_3 (by decide) ?_ ?_
  · intro c3
    refine Z.lload_n hX dX7_common_11 rfl rfl ?_
    refine Z.pick [0, 1] rfl ?_
    exact key_12 _ (lab_pos (by assumption))
  · intro c3
    refine Z.lload_n hX dX7_common_6 rfl rfl ?_
    refine Z.lneg hX dX7_common_7 ?_
    refine Z.goto hX 12 dX7_common_8 (by decide) ?_
    refine Z.pick [0, 1] rfl ?_
    exact key_12 _ (lab_neg (by assumption))

set_option maxHeartbeats 4000000 in
set_option maxRecDepth 100000 in
theorem ct_X7_reduce_x (l : Launch) (D : va_G) (ce : Nat → ClassId) (ad : Nat) (f : Nat → Int64)  : Ct l yX7_reduce cX7_reduce 5 none { frames := 1, cells := 0, slots := 0, locals := 29 } 0 0 D (TY ce) [.ref ad] ([(ad, .inl (ce 1, 5, .inr (.inl f)))]) (QV D (TY ce) (fun w1 => ∃ f2 : Nat → Int64, w1 = [(ad, .inl (ce 1, 5, .inr (.inl f2)))] ∧ (NPm f f2))) := by
  refine Ct.ofV (by decide) (Nat.le_of_ble_eq_true rfl) ?_
  intro p e s m args below meth c A Q hX hnm hR
  refine Z.pick (lv' := [(0, .ref ad)]) [0] rfl ?_
  refine Z.lconst (v := 0) hX dX7_reduce_0 rfl ?_
  refine Z.lstore_n (lv' := [(1, .long 0), (0, .ref ad)]) hX dX7_reduce_1 rfl (by decide) rfl ?_
  refine Z.iconst hX dX7_reduce_2 ?_
  refine Z.istore_n (lv' := [(3, .int (zI 0)), (1, .long 0), (0, .ref ad)]) hX dX7_reduce_3 rfl (by decide) rfl ?_
  have key_4 : ∀ (N : Nat), ∀ (k0 : Int) (x : Int64), (5 - k0).toNat < N → (hk : 0 ≤ k0 ∧ k0 ≤ 5) → (hx : CGr f k0.toNat x) → Z p l e { frames := 1, cells := 0, slots := 0, locals := 29 } s m args below meth c D A 5 0 0 Q 4 [(3, .int (zI k0)), (1, .long x), (0, .ref ad)] [] ([(ad, .inl (ce 1, 5, .inr (.inl f)))]) := by
    intro N
    induction N with
    | zero => intro k0 x hm; exact absurd hm (Nat.not_lt_zero _)
    | succ N ih_4 =>
      intro k0 x hm hk hx
      refine Z.iload_n hX dX7_reduce_4 rfl rfl ?_
      refine Z.iconst hX dX7_reduce_5 ?_
      refine Z.icmp_ge hX 23 dX7_reduce_6 (by decide) ⟨by omega, by omega⟩ ⟨by omega, by omega⟩ ?_ ?_
      · intro c1
        refine Z.aload_n hX dX7_reduce_23 rfl rfl ?_
        refine Z.callS1i (As := [.ref ad]) (rest := []) hX 0 rfl (ct_X7_degreeOf l D ce ad f ) mc_X7_degreeOf ml_X7_62 st_X7_degreeOf ini_X7 nd_X7_degreeOf ⟨Nat.le_of_ble_eq_true rfl, Nat.le_of_ble_eq_true rfl⟩ ⟨rfl, rfl⟩ ⟨Nat.le_refl _, Nat.le_refl _⟩ rfl (Nat.le_of_ble_eq_true rfl) dX7_reduce_24 ?_
        rintro r_2 w1 ⟨d, hr_, hw_, d1, d2, d3⟩
        subst hr_
        refine ⟨_, hw_, ?_⟩
        refine Z.toW (w' := [(ad, .inl (ce 1, 5, .inr (.inl f)))]) rfl ?_
        refine Z.istore_n (lv' := [(3, .int (zI d)), (1, .long x), (0, .ref ad)]) hX dX7_reduce_27 rfl (by decide) rfl ?_
        have key_43 : ∀ (y : Int64), (hsg : sgd f x y d) → Z p l e { frames := 1, cells := 0, slots := 0, locals := 29 } s m args below meth c D A 5 0 0 Q 43 [(1, .long y), (0, .ref ad)] [] ([(ad, .inl (ce 1, 5, .inr (.inl f)))]) := by
          intro y hsg
          refine Z.iconst hX dX7_reduce_43 ?_
          refine Z.istore (lv' := [(4, .int (zI 0)), (1, .long y), (0, .ref ad)]) hX dX7_reduce_44 (by decide) rfl ?_
          have key_46 : ∀ (N : Nat), ∀ (k : Int) (g : Nat → Int64), (5 - k).toNat < N → (hk2 : 0 ≤ k ∧ k ≤ 5) → (hq : ∀ j : Int, 0 ≤ j → j < 5 → g j.toNat = if j < k then f j.toNat / y else f j.toNat) → (hy0 : y = 0 → k = 0) → Z p l e { frames := 1, cells := 0, slots := 0, locals := 29 } s m args below meth c D A 5 0 0 Q 46 [(4, .int (zI k)), (1, .long y), (0, .ref ad)] [] ([(ad, .inl (ce 1, 5, .inr (.inl g)))]) := by
            intro N
            induction N with
            | zero => intro k g hm; exact absurd hm (Nat.not_lt_zero _)
            | succ N ih_46 =>
              intro k g hm hk2 hq hy0
              refine Z.iload hX dX7_reduce_46 rfl ?_
              refine Z.iconst hX dX7_reduce_48 ?_
              refine Z.icmp_ge hX 72 dX7_reduce_49 (by decide) ⟨by omega, by omega⟩ ⟨by omega, by omega⟩ ?_ ?_
              · intro c3
                exact hR _ _ _ dX7_reduce_72 ⟨g, rfl, (np_ref d1 d2 d3 (show CGr f 5 x from (show k0.toNat = 5 by omega) ▸ hx) hsg hq hy0 (by first | exact Or.inl (by omega) | exact Or.inr (by assumption)))⟩
              · intro c3
                refine Z.lload_n hX dX7_reduce_52 rfl rfl ?_
                refine Z.lconst (v := 0) hX dX7_reduce_53 rfl ?_
                refine Z.lcmp_eq hX 72 dX7_reduce_54 dX7_reduce_55 (by decide) ?_ ?_
                · intro c4
                  exact hR _ _ _ dX7_reduce_72 ⟨g, rfl, (np_ref d1 d2 d3 (show CGr f 5 x from (show k0.toNat = 5 by omega) ▸ hx) hsg hq hy0 (by first | exact Or.inl (by omega) | exact Or.inr (by assumption)))⟩
                · intro c4
                  refine Z.aload_n hX dX7_reduce_58 rfl rfl ?_
                  refine Z.iload hX dX7_reduce_59 rfl ?_
                  refine Z.dup2 hX dX7_reduce_61 rfl rfl ?_
                  refine Z.laload hX 0 1 dX7_reduce_62 rfl rfl (by omega) (by omega) (by decide) ?_
                  refine Z.lload_n hX dX7_reduce_63 rfl rfl ?_
                  refine Z.ldiv hX dX7_reduce_64 (by assumption) ?_
                  refine Z.lastore hX 0 1 dX7_reduce_65 rfl rfl (by omega) (by omega) (by decide) ?_
                  obtain ⟨f5, ef5⟩ : ∃ J' : Nat → Int64, J' = vp_updL (g) (k : Int).toNat ((g (k : Int).toNat) / y) := ⟨_, rfl⟩
                  refine Z.toW (w' := [(ad, .inl (ce 1, 5, .inr (.inl f5)))]) (by rw [ef5]; rfl) ?_
                  refine Z.iinc (lv' := [(4, .int (zI (k + 1))), (1, .long y), (0, .ref ad)]) hX dX7_reduce_66 rfl (by decide) rfl ?_
                  refine Z.goto hX 46 dX7_reduce_69 (by decide) ?_
                  refine Z.pick [0, 1, 2] rfl ?_
                  exact ih_46 _ _ (by omega) (by omega) (dv_s hk2.1 (by omega) ef5 hq) (fun q => absurd q (by assumption))
          refine Z.pick [0, 1, 2] rfl ?_
          exact key_46 _ _ _ (Nat.lt_succ_self _) (by omega) (fun j a b => (if_neg (by omega)).symm) (fun _ => rfl)
        refine Z.iload_n hX dX7_reduce_28 rfl rfl ?_
        refine Z.if_lt hX 43 dX7_reduce_29 (by decide) ⟨by omega, by omega⟩ ?_ ?_
        · intro c6
          refine Z.pick [1, 2] rfl ?_
          exact key_43 _ ⟨fun q => by omega, fun _ => rfl⟩
        · intro c6
          refine Z.aload_n hX dX7_reduce_32 rfl rfl ?_
          refine Z.iload_n hX dX7_reduce_33 rfl rfl ?_
          refine Z.laload hX 0 1 dX7_reduce_34 rfl rfl (by omega) (by omega) (by decide) ?_
          refine Z.lconst (v := 0) hX dX7_reduce_35 rfl ?_
          refine Z.lcmp_ge hX 43 dX7_reduce_36 dX7_reduce_37 (by decide) ?_ ?_
          · intro c7
            refine Z.pick [1, 2] rfl ?_
            exact key_43 _ ⟨fun _ => sgn_p (by assumption), fun q => by omega⟩
          · intro c7
            refine Z.lload_n hX dX7_reduce_40 rfl rfl ?_
            refine Z.lneg hX dX7_reduce_41 ?_
            refine Z.lstore_n (lv' := [(1, .long (-x)), (3, .int (zI d)), (0, .ref ad)]) hX dX7_reduce_42 rfl (by decide) rfl ?_
            refine Z.pick [0, 2] rfl ?_
            exact key_43 _ ⟨fun _ => sgn_n (by assumption), fun q => by omega⟩
      · intro c1
        refine Z.lload_n hX dX7_reduce_9 rfl rfl ?_
        refine Z.aload_n hX dX7_reduce_10 rfl rfl ?_
        refine Z.iload_n hX dX7_reduce_11 rfl rfl ?_
        refine Z.laload hX 0 1 dX7_reduce_12 rfl rfl (by omega) (by omega) (by decide) ?_
        refine Z.callS0l (As := [.long x, .long (f (k0 : Int).toNat)]) (rest := []) hX (ct_X7_common_x l D ce x (f (k0 : Int).toNat) ) mc_X7_common ml_X7_58 st_X7_common ini_X7 nd_X7_common ⟨Nat.le_of_ble_eq_true rfl, Nat.le_of_ble_eq_true rfl⟩ ⟨rfl, rfl⟩ ⟨Nat.le_refl _, Nat.le_refl _⟩ rfl (Nat.le_of_ble_eq_true rfl) dX7_reduce_13 ?_
        rintro r_8 w1 ⟨r09, hr_, hw_, hcg⟩
        subst hr_
        refine ⟨hw_, ?_⟩
        refine Z.lstore_n (lv' := [(1, .long r_8), (3, .int (zI k0)), (0, .ref ad)]) hX dX7_reduce_16 rfl (by decide) rfl ?_
        refine Z.iinc (lv' := [(3, .int (zI (k0 + 1))), (1, .long r_8), (0, .ref ad)]) hX dX7_reduce_17 rfl (by decide) rfl ?_
        refine Z.goto hX 4 dX7_reduce_20 (by decide) ?_
        refine Z.pick [0, 1, 2] rfl ?_
        exact ih_4 _ _ (by omega) (by omega) (CGr_s hk.1 hx hcg)
  refine Z.pick [0, 1, 2] rfl ?_
  exact key_4 _ _ _ (Nat.lt_succ_self _) (by omega) rfl

set_option maxHeartbeats 4000000 in
set_option maxRecDepth 100000 in
theorem ct_X7_divisor_x (l : Launch) (D : va_G) (ce : Nat → ClassId) (h : Nat → Nat) (F : Nat → Int) (I : Nat → Nat → Int32) (J : Nat → Nat → Int64) (X Y : Nat → Int64) (hX7 : bx 7 (ti X)) (hY7 : bx 7 (ti Y)) (hE : EQ2 (ti X) (ti Y) (ti (J 2)) p0) (b2_ : bd (J 2)) (h37 : bx 7 (ti (J 3))) (b3_ : bd (J 3)) : Ct l yX7_divisor cX7_divisor 8 none { frames := 2, cells := 0, slots := 0, locals := 53 } 0 0 D (TY ce) [.ref (h 0)] (rW ce h F I J) (QV D (TY ce) (fun w1 => ∃ J2 : Nat → Nat → Int64, w1 = rW ce h F I J2 ∧ (∀ k, k ≠ 2 → k ≠ 3 → J2 k = J k) ∧ (EQ2 (ti (J 2)) (ti (J 3)) (ti (J2 2)) p0) ∧ (Nm (ti (J2 2))) ∧ (bd (J2 2)))) := by
  refine Ct.ofV (by decide) (Nat.le_of_ble_eq_true rfl) ?_
  intro p e s m args below meth c A Q hX hnm hR
  refine Z.pick (lv' := [(0, .ref (h 0))]) [0] rfl ?_
  refine Z.aload_n hX dX7_divisor_0 rfl rfl ?_
  refine Z.getf hX 7 0 9 dX7_divisor_1 rfl rfl inX7 (by decide) fl_X7_30 rfl rfl ?_
  refine Z.callS1v (As := [.ref (h 7)]) (rest := []) hX 7 rfl (ct_X7_reduce_x l D ce ((h 7)) (J 2) ) mc_X7_reduce ml_X7_66 st_X7_reduce ini_X7 nd_X7_reduce ⟨Nat.le_of_ble_eq_true rfl, Nat.le_of_ble_eq_true rfl⟩ ⟨rfl, rfl⟩ ⟨Nat.le_refl _, Nat.le_refl _⟩ rfl (Nat.le_of_ble_eq_true rfl) dX7_divisor_4 ?_
  rintro w1 ⟨f22, hw_, r1⟩
  refine ⟨_, hw_, ?_⟩
  obtain ⟨J3, eJ3⟩ : ∃ J' : Nat → Nat → Int64, J' = va_up J 2 (f22) := ⟨_, rfl⟩
  refine Z.toW (w' := rW ce h F I J3) (by rw [eJ3]; rfl) ?_
  have gJ3 : J3 2 = f22 := by rw [eJ3]; exact up_eq
  have fJ3 : ∀ j_, j_ ≠ 2 → J3 j_ = J j_ := fun j_ hj_ => by rw [eJ3]; exact up_ne hj_
  refine Z.aload_n hX dX7_divisor_7 rfl rfl ?_
  refine Z.getf hX 7 0 10 dX7_divisor_8 rfl rfl inX7 (by decide) fl_X7_33 rfl rfl ?_
  refine Z.callS1v (As := [.ref (h 8)]) (rest := []) hX 8 rfl (ct_X7_reduce_x l D ce ((h 8)) (J3 3) ) mc_X7_reduce ml_X7_66 st_X7_reduce ini_X7 nd_X7_reduce ⟨Nat.le_of_ble_eq_true rfl, Nat.le_of_ble_eq_true rfl⟩ ⟨rfl, rfl⟩ ⟨Nat.le_refl _, Nat.le_refl _⟩ rfl (Nat.le_of_ble_eq_true rfl) dX7_divisor_11 ?_
  rintro w1 ⟨f25, hw_, r2⟩
  refine ⟨_, hw_, ?_⟩
  obtain ⟨J6, eJ6⟩ : ∃ J' : Nat → Nat → Int64, J' = va_up J3 3 (f25) := ⟨_, rfl⟩
  refine Z.toW (w' := rW ce h F I J6) (by rw [eJ6]; rfl) ?_
  have gJ6 : J6 3 = f25 := by rw [eJ6]; exact up_eq
  have fJ6 : ∀ j_, j_ ≠ 3 → J6 j_ = J3 j_ := fun j_ hj_ => by rw [eJ6]; exact up_ne hj_
  have iv0 : IV (J 2) (J 3) (J6 2) (J6 3) ∧ Nm (ti (J6 2)) ∧ Nm (ti (J6 3)) := by rw [gJ6, fJ6 2 (by decide), gJ3]; exact iv_red hX7 hY7 hE b2_ h37 b3_ r1 (by rw [fJ3 3 (by decide)] at r2; exact r2)
  have key_14 : ∀ (N : Nat), ∀ (t : Int) (M : Nat → Nat → Int64), (t + 1).toNat < N → (ht : -1 ≤ t ∧ t ≤ 4) → (hz : ∀ j : Int, t < j → j ≤ 4 → M 3 j.toNat = 0) → (hM : ∀ k, k ≠ 2 → k ≠ 3 → M k = J k) → (hv : IV (J 2) (J 3) (M 2) (M 3) ∧ Nm (ti (M 2)) ∧ Nm (ti (M 3))) → Z p l e { frames := 2, cells := 0, slots := 0, locals := 53 } s m args below meth c D A 8 0 0 Q 14 [(0, .ref (h 0))] [] (rW ce h F I M) := by
    intro N
    induction N with
    | zero => intro t M hm; exact absurd hm (Nat.not_lt_zero _)
    | succ N ih_14 =>
      intro t M hm ht hz hM hv
      refine Z.aload_n hX dX7_divisor_14 rfl rfl ?_
      refine Z.getf hX 7 0 10 dX7_divisor_15 rfl rfl inX7 (by decide) fl_X7_33 rfl rfl ?_
      refine Z.callS1i (As := [.ref (h 8)]) (rest := []) hX 8 rfl (ct_X7_degreeOf l D ce ((h 8)) (M 3) ) mc_X7_degreeOf ml_X7_62 st_X7_degreeOf ini_X7 nd_X7_degreeOf ⟨Nat.le_of_ble_eq_true rfl, Nat.le_of_ble_eq_true rfl⟩ ⟨rfl, rfl⟩ ⟨Nat.le_refl _, Nat.le_refl _⟩ rfl (Nat.le_of_ble_eq_true rfl) dX7_divisor_18 ?_
      rintro r_7 w1 ⟨z1, hr_, hw_, p1, p2, p3⟩
      subst hr_
      refine ⟨_, hw_, ?_⟩
      refine Z.toW (w' := rW ce h F I M) rfl ?_
      refine Z.if_lt hX 183 dX7_divisor_21 (by decide) ⟨by omega, by omega⟩ ?_ ?_
      · intro c8
        exact hR _ _ _ dX7_divisor_183 ⟨M, rfl, (fun j_ h_2 h_3 => (hM j_ h_2 h_3)), (iv_end hv.1 (by omega) p2), hv.2.1, hv.1.2.2.1⟩
      · intro c8
        refine Z.aload_n hX dX7_divisor_24 rfl rfl ?_
        refine Z.getf hX 7 0 10 dX7_divisor_25 rfl rfl inX7 (by decide) fl_X7_33 rfl rfl ?_
        refine Z.callS1i (As := [.ref (h 8)]) (rest := []) hX 8 rfl (ct_X7_degreeOf l D ce ((h 8)) (M 3) ) mc_X7_degreeOf ml_X7_62 st_X7_degreeOf ini_X7 nd_X7_degreeOf ⟨Nat.le_of_ble_eq_true rfl, Nat.le_of_ble_eq_true rfl⟩ ⟨rfl, rfl⟩ ⟨Nat.le_refl _, Nat.le_refl _⟩ rfl (Nat.le_of_ble_eq_true rfl) dX7_divisor_28 ?_
        rintro r_9 w1 ⟨d, hr_, hw_, d1, d2, d3⟩
        subst hr_
        refine ⟨_, hw_, ?_⟩
        refine Z.toW (w' := rW ce h F I M) rfl ?_
        have ed : z1 = d := dg_uq p1 p2 p3 d1 d2 d3
        refine Z.istore_n (lv' := [(1, .int (zI d)), (0, .ref (h 0))]) hX dX7_divisor_31 rfl (by decide) rfl ?_
        have key_32 : ∀ (N : Nat), ∀ (u : Int) (M1 : Nat → Nat → Int64), (u + 1).toNat < N → (hu0 : -1 ≤ u ∧ u ≤ 4) → (hu1 : ∀ j : Int, u < j → j ≤ 4 → M1 2 j.toNat = 0) → (h3 : M1 3 = M 3) → (hM1 : ∀ k, k ≠ 2 → k ≠ 3 → M1 k = J k) → (hv1 : IV (J 2) (J 3) (M1 2) (M1 3) ∧ Nm (ti (M1 2)) ∧ Nm (ti (M1 3))) → Z p l e { frames := 2, cells := 0, slots := 0, locals := 53 } s m args below meth c D A 8 0 0 Q 32 [(1, .int (zI d)), (0, .ref (h 0))] [] (rW ce h F I M1) := by
          intro N
          induction N with
          | zero => intro u M1 hm; exact absurd hm (Nat.not_lt_zero _)
          | succ N ih_32 =>
            intro u M1 hm hu0 hu1 h3 hM1 hv1
            refine Z.aload_n hX dX7_divisor_32 rfl rfl ?_
            refine Z.getf hX 7 0 9 dX7_divisor_33 rfl rfl inX7 (by decide) fl_X7_30 rfl rfl ?_
            refine Z.callS1i (As := [.ref (h 7)]) (rest := []) hX 7 rfl (ct_X7_degreeOf l D ce ((h 7)) (M1 2) ) mc_X7_degreeOf ml_X7_62 st_X7_degreeOf ini_X7 nd_X7_degreeOf ⟨Nat.le_of_ble_eq_true rfl, Nat.le_of_ble_eq_true rfl⟩ ⟨rfl, rfl⟩ ⟨Nat.le_refl _, Nat.le_refl _⟩ rfl (Nat.le_of_ble_eq_true rfl) dX7_divisor_36 ?_
            rintro r_10 w1 ⟨ea, hr_, hw_, a1, a2, a3⟩
            subst hr_
            refine ⟨_, hw_, ?_⟩
            refine Z.toW (w' := rW ce h F I M1) rfl ?_
            refine Z.iload_n hX dX7_divisor_39 rfl rfl ?_
            refine Z.icmp_lt hX 141 dX7_divisor_40 (by decide) ⟨by omega, by omega⟩ ⟨by omega, by omega⟩ ?_ ?_
            · intro c11
              refine Z.iconst hX dX7_divisor_141 ?_
              refine Z.istore_n (lv' := [(2, .int (zI 0)), (1, .int (zI d)), (0, .ref (h 0))]) hX dX7_divisor_142 rfl (by decide) rfl ?_
              have key_143 : ∀ (N : Nat), ∀ (k : Int) (M4 : Nat → Nat → Int64), (5 - k).toNat < N → (hk4 : 0 ≤ k ∧ k ≤ 5) → (hs0 : ∀ j : Int, k ≤ j → j ≤ 4 → M4 2 j.toNat = M1 2 j.toNat ∧ M4 3 j.toNat = M1 3 j.toNat) → (hs : ∀ j : Int, 0 ≤ j → j < k → M4 2 j.toNat = M1 3 j.toNat ∧ M4 3 j.toNat = M1 2 j.toNat) → (hM4 : ∀ k, k ≠ 2 → k ≠ 3 → M4 k = J k) → Z p l e { frames := 2, cells := 0, slots := 0, locals := 53 } s m args below meth c D A 8 0 0 Q 143 [(2, .int (zI k)), (0, .ref (h 0))] [] (rW ce h F I M4) := by
                intro N
                induction N with
                | zero => intro k M4 hm; exact absurd hm (Nat.not_lt_zero _)
                | succ N ih_143 =>
                  intro k M4 hm hk4 hs0 hs hM4
                  refine Z.iload_n hX dX7_divisor_143 rfl rfl ?_
                  refine Z.iconst hX dX7_divisor_144 ?_
                  refine Z.icmp_ge hX 180 dX7_divisor_145 (by decide) ⟨by omega, by omega⟩ ⟨by omega, by omega⟩ ?_ ?_
                  · intro c12
                    refine Z.goto hX 14 dX7_divisor_180 (by decide) ?_
                    refine Z.pick [1] rfl ?_
                    exact ih_14 (d - 1) _ (by have hdt : d ≤ t := dg_le d1 d3 hz (by omega); omega) (by omega) (fun j h1 h2 => by rw [(hs j (by omega) (by omega)).2]; exact a2 j (by omega) h2) (fun j_ h_2 h_3 => (hM4 j_ h_2 h_3)) (by obtain ⟨w1, w2, w3⟩ := iv_sw2 hv1.1 a1 a2 a3 d1 (by rw [h3]; exact d2) (by rw [h3]; exact d3) (by omega) (fun j a b => hs j a (by omega)); exact ⟨w1, by rw [w2]; exact hv1.2.2, by rw [w3]; exact hv1.2.1⟩)
                  · intro c12
                    refine Z.aload_n hX dX7_divisor_148 rfl rfl ?_
                    refine Z.getf hX 7 0 9 dX7_divisor_149 rfl rfl inX7 (by decide) fl_X7_30 rfl rfl ?_
                    refine Z.iload_n hX dX7_divisor_152 rfl rfl ?_
                    refine Z.laload hX 7 1 dX7_divisor_153 rfl rfl (by omega) (by omega) (by decide) ?_
                    refine Z.lstore_n (lv' := [(3, .long (M4 2 (k : Int).toNat)), (2, .int (zI k)), (0, .ref (h 0))]) hX dX7_divisor_154 rfl (by decide) rfl ?_
                    refine Z.aload_n hX dX7_divisor_155 rfl rfl ?_
                    refine Z.getf hX 7 0 9 dX7_divisor_156 rfl rfl inX7 (by decide) fl_X7_30 rfl rfl ?_
                    refine Z.iload_n hX dX7_divisor_159 rfl rfl ?_
                    refine Z.aload_n hX dX7_divisor_160 rfl rfl ?_
                    refine Z.getf hX 7 0 10 dX7_divisor_161 rfl rfl inX7 (by decide) fl_X7_33 rfl rfl ?_
                    refine Z.iload_n hX dX7_divisor_164 rfl rfl ?_
                    refine Z.laload hX 8 1 dX7_divisor_165 rfl rfl (by omega) (by omega) (by decide) ?_
                    refine Z.lastore hX 7 1 dX7_divisor_166 rfl rfl (by omega) (by omega) (by decide) ?_
                    obtain ⟨J13, eJ13⟩ : ∃ J' : Nat → Nat → Int64, J' = va_up M4 2 (vp_updL (M4 2) (k : Int).toNat (M4 3 (k : Int).toNat)) := ⟨_, rfl⟩
                    refine Z.toW (w' := rW ce h F I J13) (by rw [eJ13]; rfl) ?_
                    have gJ13 : J13 2 = vp_updL (M4 2) (k : Int).toNat (M4 3 (k : Int).toNat) := by rw [eJ13]; exact up_eq
                    have fJ13 : ∀ j_, j_ ≠ 2 → J13 j_ = M4 j_ := fun j_ hj_ => by rw [eJ13]; exact up_ne hj_
                    refine Z.aload_n hX dX7_divisor_167 rfl rfl ?_
                    refine Z.getf hX 7 0 10 dX7_divisor_168 rfl rfl inX7 (by decide) fl_X7_33 rfl rfl ?_
                    refine Z.iload_n hX dX7_divisor_171 rfl rfl ?_
                    refine Z.lload_n hX dX7_divisor_172 rfl rfl ?_
                    refine Z.lastore hX 8 1 dX7_divisor_173 rfl rfl (by omega) (by omega) (by decide) ?_
                    obtain ⟨J14, eJ14⟩ : ∃ J' : Nat → Nat → Int64, J' = va_up J13 3 (vp_updL (J13 3) (k : Int).toNat (M4 2 (k : Int).toNat)) := ⟨_, rfl⟩
                    refine Z.toW (w' := rW ce h F I J14) (by rw [eJ14]; rfl) ?_
                    have gJ14 : J14 3 = vp_updL (J13 3) (k : Int).toNat (M4 2 (k : Int).toNat) := by rw [eJ14]; exact up_eq
                    have fJ14 : ∀ j_, j_ ≠ 3 → J14 j_ = J13 j_ := fun j_ hj_ => by rw [eJ14]; exact up_ne hj_
                    refine Z.iinc (lv' := [(2, .int (zI (k + 1))), (3, .long (M4 2 (k : Int).toNat)), (0, .ref (h 0))]) hX dX7_divisor_174 rfl (by decide) rfl ?_
                    refine Z.goto hX 143 dX7_divisor_177 (by decide) ?_
                    refine Z.pick [0, 2] rfl ?_
                    exact ih_143 _ _ (by omega) (by omega) (dv_sw hk4.1 ((fJ14 2 (by decide)).trans gJ13) (by rw [gJ14, fJ13 3 (by decide)]) (by omega) hs0 hs).1 (dv_sw hk4.1 ((fJ14 2 (by decide)).trans gJ13) (by rw [gJ14, fJ13 3 (by decide)]) (by omega) hs0 hs).2 (fun j_ h_2 h_3 => ((fJ14 j_ h_3).trans ((fJ13 j_ h_2).trans (hM4 j_ h_2 h_3))))
              refine Z.pick [0, 2] rfl ?_
              exact key_143 _ _ _ (Nat.lt_succ_self _) (by omega) (fun j _ _ => ⟨rfl, rfl⟩) (fun j h1 h2 => by omega) (fun j_ h_2 h_3 => (hM1 j_ h_2 h_3))
            · intro c11
              refine Z.aload_n hX dX7_divisor_43 rfl rfl ?_
              refine Z.getf hX 7 0 9 dX7_divisor_44 rfl rfl inX7 (by decide) fl_X7_30 rfl rfl ?_
              refine Z.callS1i (As := [.ref (h 7)]) (rest := []) hX 7 rfl (ct_X7_degreeOf l D ce ((h 7)) (M1 2) ) mc_X7_degreeOf ml_X7_62 st_X7_degreeOf ini_X7 nd_X7_degreeOf ⟨Nat.le_of_ble_eq_true rfl, Nat.le_of_ble_eq_true rfl⟩ ⟨rfl, rfl⟩ ⟨Nat.le_refl _, Nat.le_refl _⟩ rfl (Nat.le_of_ble_eq_true rfl) dX7_divisor_47 ?_
              rintro r_15 w1 ⟨e0, hr_, hw_, e1, e2, e3⟩
              subst hr_
              refine ⟨_, hw_, ?_⟩
              refine Z.toW (w' := rW ce h F I M1) rfl ?_
              have ee : ea = e0 := dg_uq a1 a2 a3 e1 e2 e3
              refine Z.istore_n (lv' := [(2, .int (zI e0)), (1, .int (zI d)), (0, .ref (h 0))]) hX dX7_divisor_50 rfl (by decide) rfl ?_
              refine Z.aload_n hX dX7_divisor_51 rfl rfl ?_
              refine Z.getf hX 7 0 9 dX7_divisor_52 rfl rfl inX7 (by decide) fl_X7_30 rfl rfl ?_
              refine Z.iload_n hX dX7_divisor_55 rfl rfl ?_
              refine Z.laload hX 7 1 dX7_divisor_56 rfl rfl (by omega) (by omega) (by decide) ?_
              refine Z.lstore_n (lv' := [(3, .long (M1 2 (e0 : Int).toNat)), (2, .int (zI e0)), (1, .int (zI d)), (0, .ref (h 0))]) hX dX7_divisor_57 rfl (by decide) rfl ?_
              refine Z.aload_n hX dX7_divisor_58 rfl rfl ?_
              refine Z.getf hX 7 0 10 dX7_divisor_59 rfl rfl inX7 (by decide) fl_X7_33 rfl rfl ?_
              refine Z.iload_n hX dX7_divisor_62 rfl rfl ?_
              refine Z.laload hX 8 1 dX7_divisor_63 rfl rfl (by omega) (by omega) (by decide) ?_
              refine Z.lstore (lv' := [(5, .long (M1 3 (d : Int).toNat)), (3, .long (M1 2 (e0 : Int).toNat)), (2, .int (zI e0)), (1, .int (zI d)), (0, .ref (h 0))]) hX dX7_divisor_64 (by decide) rfl ?_
              refine Z.iconst hX dX7_divisor_66 ?_
              refine Z.istore (lv' := [(7, .int (zI 0)), (5, .long (M1 3 (d : Int).toNat)), (3, .long (M1 2 (e0 : Int).toNat)), (2, .int (zI e0)), (1, .int (zI d)), (0, .ref (h 0))]) hX dX7_divisor_67 (by decide) rfl ?_
              have key_69 : ∀ (N : Nat), ∀ (k : Int) (M2 : Nat → Nat → Int64), (5 - k).toNat < N → (hk : 0 ≤ k ∧ k ≤ 5) → (hp : ∀ j : Int, 0 ≤ j → j ≤ 4 → M2 2 j.toNat = if j < k then M1 2 j.toNat * (M1 3 (d).toNat) else M1 2 j.toNat) → (h32 : M2 3 = M1 3) → (hM2 : ∀ k, k ≠ 2 → k ≠ 3 → M2 k = J k) → Z p l e { frames := 2, cells := 0, slots := 0, locals := 53 } s m args below meth c D A 8 0 0 Q 69 [(7, .int (zI k)), (5, .long (M1 3 (d).toNat)), (3, .long (M1 2 (e0).toNat)), (2, .int (zI e0)), (1, .int (zI d)), (0, .ref (h 0))] [] (rW ce h F I M2) := by
                intro N
                induction N with
                | zero => intro k M2 hm; exact absurd hm (Nat.not_lt_zero _)
                | succ N ih_69 =>
                  intro k M2 hm hk hp h32 hM2
                  refine Z.iload hX dX7_divisor_69 rfl ?_
                  refine Z.iconst hX dX7_divisor_71 ?_
                  refine Z.icmp_ge hX 93 dX7_divisor_72 (by decide) ⟨by omega, by omega⟩ ⟨by omega, by omega⟩ ?_ ?_
                  · intro c16
                    refine Z.iconst hX dX7_divisor_93 ?_
                    refine Z.istore (lv' := [(7, .int (zI 0)), (5, .long (M1 3 (d).toNat)), (3, .long (M1 2 (e0).toNat)), (2, .int (zI e0)), (1, .int (zI d)), (0, .ref (h 0))]) hX dX7_divisor_94 (by decide) rfl ?_
                    have key_96 : ∀ (N : Nat), ∀ (k : Int) (M3 : Nat → Nat → Int64), (d + 1 - k).toNat < N → (hk3 : 0 ≤ k ∧ k ≤ d + 1) → (hx3 : ∀ j : Int, 0 ≤ j → j < 5 → M3 2 j.toNat = rfV (M1 2) (M1 3) e0 d k j) → (h33 : M3 3 = M1 3) → (hM3 : ∀ k, k ≠ 2 → k ≠ 3 → M3 k = J k) → Z p l e { frames := 2, cells := 0, slots := 0, locals := 53 } s m args below meth c D A 8 0 0 Q 96 [(7, .int (zI k)), (3, .long (M1 2 (e0).toNat)), (2, .int (zI e0)), (1, .int (zI d)), (0, .ref (h 0))] [] (rW ce h F I M3) := by
                      intro N
                      induction N with
                      | zero => intro k M3 hm; exact absurd hm (Nat.not_lt_zero _)
                      | succ N ih_96 =>
                        intro k M3 hm hk3 hx3 h33 hM3
                        refine Z.iload hX dX7_divisor_96 rfl ?_
                        refine Z.iload_n hX dX7_divisor_98 rfl rfl ?_
                        refine Z.icmp_gt hX 131 dX7_divisor_99 (by decide) ⟨by omega, by omega⟩ ⟨by omega, by omega⟩ ?_ ?_
                        · intro c17
                          refine Z.aload_n hX dX7_divisor_131 rfl rfl ?_
                          refine Z.getf hX 7 0 9 dX7_divisor_132 rfl rfl inX7 (by decide) fl_X7_30 rfl rfl ?_
                          refine Z.callS1v (As := [.ref (h 7)]) (rest := []) hX 7 rfl (ct_X7_reduce_x l D ce ((h 7)) (M3 2) ) mc_X7_reduce ml_X7_66 st_X7_reduce ini_X7 nd_X7_reduce ⟨Nat.le_of_ble_eq_true rfl, Nat.le_of_ble_eq_true rfl⟩ ⟨rfl, rfl⟩ ⟨Nat.le_refl _, Nat.le_refl _⟩ rfl (Nat.le_of_ble_eq_true rfl) dX7_divisor_135 ?_
                          rintro w1 ⟨fr, hw_, hfr⟩
                          refine ⟨_, hw_, ?_⟩
                          obtain ⟨J19, eJ19⟩ : ∃ J' : Nat → Nat → Int64, J' = va_up M3 2 (fr) := ⟨_, rfl⟩
                          refine Z.toW (w' := rW ce h F I J19) (by rw [eJ19]; rfl) ?_
                          have gJ19 : J19 2 = fr := by rw [eJ19]; exact up_eq
                          have fJ19 : ∀ j_, j_ ≠ 2 → J19 j_ = M3 j_ := fun j_ hj_ => by rw [eJ19]; exact up_ne hj_
                          have e3_ : J19 3 = M1 3 := (fJ19 3 (by decide)).trans h33
                          obtain ⟨iv1, iv2, iv3⟩ := iv_ref hv1.1 e1 e2 e3 d1 (by rw [h3]; exact d2) (by rw [h3]; exact d3) (by omega) (by omega) (fun j a b => by rw [hx3 j a b, show k = d + 1 by omega]) hfr
                          refine Z.goto hX 32 dX7_divisor_138 (by decide) ?_
                          refine Z.pick [3, 4] rfl ?_
                          exact ih_32 (e0 - 1) _ (by have hdu : e0 ≤ u := dg_le e1 e3 hu1 (by omega); omega) (by omega) (fun j h1 h2 => by rw [gJ19]; exact iv3 j h1 h2) (e3_.trans h3) (fun j_ h_2 h_3 => ((fJ19 j_ h_2).trans (hM3 j_ h_2 h_3))) (by rw [gJ19, e3_]; exact ⟨iv1, iv2, hv1.2.2⟩)
                        · intro c17
                          refine Z.aload_n hX dX7_divisor_102 rfl rfl ?_
                          refine Z.getf hX 7 0 9 dX7_divisor_103 rfl rfl inX7 (by decide) fl_X7_30 rfl rfl ?_
                          refine Z.iload_n hX dX7_divisor_106 rfl rfl ?_
                          refine Z.iload_n hX dX7_divisor_107 rfl rfl ?_
                          refine Z.isub hX dX7_divisor_108 ?_
                          refine Z.iload hX dX7_divisor_109 rfl ?_
                          refine Z.iadd hX dX7_divisor_111 ?_
                          refine Z.dup2 hX dX7_divisor_112 rfl rfl ?_
                          refine Z.laload hX 7 1 dX7_divisor_113 rfl rfl (by omega) (by omega) (by decide) ?_
                          refine Z.lload_n hX dX7_divisor_114 rfl rfl ?_
                          refine Z.aload_n hX dX7_divisor_115 rfl rfl ?_
                          refine Z.getf hX 7 0 10 dX7_divisor_116 rfl rfl inX7 (by decide) fl_X7_33 rfl rfl ?_
                          refine Z.iload hX dX7_divisor_119 rfl ?_
                          refine Z.laload hX 8 1 dX7_divisor_121 rfl rfl (by omega) (by omega) (by decide) ?_
                          refine Z.lmul hX dX7_divisor_122 ?_
                          refine Z.lsub hX dX7_divisor_123 ?_
                          refine Z.lastore hX 7 1 dX7_divisor_124 rfl rfl (by omega) (by omega) (by decide) ?_
                          obtain ⟨J20, eJ20⟩ : ∃ J' : Nat → Nat → Int64, J' = va_up M3 2 (vp_updL (M3 2) ((e0 - d) + k : Int).toNat ((M3 2 ((e0 - d) + k : Int).toNat) - ((M1 2 (e0).toNat) * (M3 3 (k : Int).toNat)))) := ⟨_, rfl⟩
                          refine Z.toW (w' := rW ce h F I J20) (by rw [eJ20]; rfl) ?_
                          have gJ20 : J20 2 = vp_updL (M3 2) ((e0 - d) + k : Int).toNat ((M3 2 ((e0 - d) + k : Int).toNat) - ((M1 2 (e0).toNat) * (M3 3 (k : Int).toNat))) := by rw [eJ20]; exact up_eq
                          have fJ20 : ∀ j_, j_ ≠ 2 → J20 j_ = M3 j_ := fun j_ hj_ => by rw [eJ20]; exact up_ne hj_
                          refine Z.iinc (lv' := [(7, .int (zI (k + 1))), (3, .long (M1 2 (e0).toNat)), (2, .int (zI e0)), (1, .int (zI d)), (0, .ref (h 0))]) hX dX7_divisor_125 rfl (by decide) rfl ?_
                          refine Z.goto hX 96 dX7_divisor_128 (by decide) ?_
                          refine Z.pick [0, 1, 2, 3, 4] rfl ?_
                          exact ih_96 _ _ (by omega) (by omega) (rsub_s (by omega) (by omega) (by omega) (by omega) (by omega) (by rw [gJ20, h33]) hx3) ((fJ20 3 (by decide)).trans h33) (fun j_ h_2 h_3 => ((fJ20 j_ h_2).trans (hM3 j_ h_2 h_3)))
                    refine Z.pick [0, 2, 3, 4, 5] rfl ?_
                    exact key_96 _ _ _ (Nat.lt_succ_self _) (by omega) (rsub_0 (fun j a b => by rw [hp j a b, show k = 5 by omega])) h32 (fun j_ h_2 h_3 => (hM2 j_ h_2 h_3))
                  · intro c16
                    refine Z.aload_n hX dX7_divisor_75 rfl rfl ?_
                    refine Z.getf hX 7 0 9 dX7_divisor_76 rfl rfl inX7 (by decide) fl_X7_30 rfl rfl ?_
                    refine Z.iload hX dX7_divisor_79 rfl ?_
                    refine Z.dup2 hX dX7_divisor_81 rfl rfl ?_
                    refine Z.laload hX 7 1 dX7_divisor_82 rfl rfl (by omega) (by omega) (by decide) ?_
                    refine Z.lload hX dX7_divisor_83 rfl ?_
                    refine Z.lmul hX dX7_divisor_85 ?_
                    refine Z.lastore hX 7 1 dX7_divisor_86 rfl rfl (by omega) (by omega) (by decide) ?_
                    obtain ⟨J21, eJ21⟩ : ∃ J' : Nat → Nat → Int64, J' = va_up M2 2 (vp_updL (M2 2) (k : Int).toNat ((M2 2 (k : Int).toNat) * (M1 3 (d).toNat))) := ⟨_, rfl⟩
                    refine Z.toW (w' := rW ce h F I J21) (by rw [eJ21]; rfl) ?_
                    have gJ21 : J21 2 = vp_updL (M2 2) (k : Int).toNat ((M2 2 (k : Int).toNat) * (M1 3 (d).toNat)) := by rw [eJ21]; exact up_eq
                    have fJ21 : ∀ j_, j_ ≠ 2 → J21 j_ = M2 j_ := fun j_ hj_ => by rw [eJ21]; exact up_ne hj_
                    refine Z.iinc (lv' := [(7, .int (zI (k + 1))), (5, .long (M1 3 (d).toNat)), (3, .long (M1 2 (e0).toNat)), (2, .int (zI e0)), (1, .int (zI d)), (0, .ref (h 0))]) hX dX7_divisor_87 rfl (by decide) rfl ?_
                    refine Z.goto hX 69 dX7_divisor_90 (by decide) ?_
                    refine Z.pick [0, 1, 2, 3, 4, 5] rfl ?_
                    exact ih_69 _ _ (by omega) (by omega) (dv_mul hk.1 gJ21 hp) ((fJ21 3 (by decide)).trans h32) (fun j_ h_2 h_3 => ((fJ21 j_ h_2).trans (hM2 j_ h_2 h_3)))
              refine Z.pick [0, 1, 2, 3, 4, 5] rfl ?_
              exact key_69 _ _ _ (Nat.lt_succ_self _) (by omega) (fun j h1 h2 => (if_neg (by omega)).symm) rfl (fun j_ h_2 h_3 => (hM1 j_ h_2 h_3))
        refine Z.pick [0, 1] rfl ?_
        exact key_32 _ 4 _ (Nat.lt_succ_self _) (by omega) (fun j h1 h2 => by omega) rfl (fun j_ h_2 h_3 => (hM j_ h_2 h_3)) hv
  refine Z.pick [0] rfl ?_
  exact key_14 _ 4 _ (Nat.lt_succ_self _) (by omega) (fun j h1 h2 => by omega) (fun j_ h_2 h_3 => ((fJ6 j_ h_3).trans ((fJ3 j_ h_2).trans rfl))) iv0

