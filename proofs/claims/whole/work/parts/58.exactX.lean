set_option maxHeartbeats 4000000 in
set_option maxRecDepth 100000 in
theorem ct_X6_commonOf_x (l : Launch) (D : va_G) (ce : Nat → ClassId) (a b : Int64)  : Ct l yX6_commonOf cX6_commonOf 11 (some .long) { frames := 0, cells := 0, slots := 0, locals := 0 } 0 0 D (TY ce) [.long a, .long b] ([]) (QL D (TY ce) (fun r w1 => ∃ r0 : Int64, r = r0 ∧ w1 = [] ∧ (cgX a b r0))) := by
  refine Ct.ofL (by decide) (Nat.le_of_ble_eq_true rfl) ?_
  intro p e s m args below meth c A Q hX hnm hR
  refine Z.pick (lv' := [(0, .long a), (2, .long b)]) [0, 1] rfl ?_
  have key_12 : ∀ (x : Int64), (hx1 : x = lab a) → Z p l e { frames := 0, cells := 0, slots := 0, locals := 0 } s m args below meth c D A 11 0 0 Q 12 [(0, .long a), (2, .long b)] [.long x] ([]) := by
    intro x hx1
    refine Z.lstore (lv' := [(4, .long x), (0, .long a), (2, .long b)]) hX dX6_commonOf_12 (by decide) rfl ?_
    have key_26 : ∀ (y : Int64), (hy1 : y = lab b) → Z p l e { frames := 0, cells := 0, slots := 0, locals := 0 } s m args below meth c D A 11 0 0 Q 26 [(4, .long x)] [.long y] ([]) := by
      intro y hy1
      refine Z.lstore (lv' := [(6, .long y), (4, .long x)]) hX dX6_commonOf_26 (by decide) rfl ?_
      refine Z.iconst hX dX6_commonOf_28 ?_
      refine Z.istore (lv' := [(8, .int (zI 0)), (6, .long y), (4, .long x)]) hX dX6_commonOf_29 (by decide) rfl ?_
      have key_31 : ∀ (N : Nat), ∀ (i : Int) (x y : Int64), (128 - i).toNat < N → (hi : 0 ≤ i ∧ i ≤ 128) → (hc : cgI a b x y) → (hp : cgP x y i) → (hj : cgJ a b x y) → Z p l e { frames := 0, cells := 0, slots := 0, locals := 0 } s m args below meth c D A 11 0 0 Q 31 [(8, .int (zI i)), (4, .long x), (6, .long y)] [] ([]) := by
        intro N
        induction N with
        | zero => intro i x y hm; exact absurd hm (Nat.not_lt_zero _)
        | succ N ih_31 =>
          intro i x y hm hi hc hp hj
          refine Z.iload hX dX6_commonOf_31 rfl ?_
          refine Z.sipush hX dX6_commonOf_33 (by decide) ?_
          refine Z.icmp_ge hX 67 dX6_commonOf_36 (by decide) ⟨by omega, by omega⟩ ⟨by omega, by omega⟩ ?_ ?_
          · intro c1
            refine Z.lload hX dX6_commonOf_67 rfl ?_
            exact hR _ _ _ _ dX6_commonOf_69 ⟨x, rfl, rfl, cgJ_e (by first | assumption | exact cgP_e (by assumption) hp) (cgI_e (by first | assumption | exact cgP_e (by assumption) hp) hc) hj⟩
          · intro c1
            refine Z.lload hX dX6_commonOf_39 rfl ?_
            refine Z.lconst (v := 0) hX dX6_commonOf_41 rfl ?_
            refine Z.lcmp_eq hX 67 dX6_commonOf_42 dX6_commonOf_43 (by decide) ?_ ?_
            · intro c2
              refine Z.lload hX dX6_commonOf_67 rfl ?_
              exact hR _ _ _ _ dX6_commonOf_69 ⟨x, rfl, rfl, cgJ_e (by first | assumption | exact cgP_e (by assumption) hp) (cgI_e (by first | assumption | exact cgP_e (by assumption) hp) hc) hj⟩
            · intro c2
              refine Z.lload hX dX6_commonOf_46 rfl ?_
              refine Z.lload hX dX6_commonOf_48 rfl ?_
              refine Z.lrem hX dX6_commonOf_50 (by assumption) ?_
              refine Z.lstore (lv' := [(9, .long (x - x / y * y)), (8, .int (zI i)), (4, .long x), (6, .long y)]) hX dX6_commonOf_51 (by decide) rfl ?_
              refine Z.lload hX dX6_commonOf_53 rfl ?_
              refine Z.lstore (lv' := [(4, .long y), (9, .long (x - x / y * y)), (8, .int (zI i)), (6, .long y)]) hX dX6_commonOf_55 (by decide) rfl ?_
              refine Z.lload hX dX6_commonOf_57 rfl ?_
              refine Z.lstore (lv' := [(6, .long (x - x / y * y)), (4, .long y), (9, .long (x - x / y * y)), (8, .int (zI i))]) hX dX6_commonOf_59 (by decide) rfl ?_
              refine Z.iinc (lv' := [(8, .int (zI (i + 1))), (6, .long (x - x / y * y)), (4, .long y), (9, .long (x - x / y * y))]) hX dX6_commonOf_61 rfl (by decide) rfl ?_
              refine Z.goto hX 31 dX6_commonOf_64 (by decide) ?_
              refine Z.pick [0, 2, 1] rfl ?_
              exact ih_31 _ _ _ (by omega) (by omega) (cgI_s (by assumption) hc) (cgP_s hi.1 (by assumption) hp) (cgJ_s (by assumption) hj)
      refine Z.pick [0, 2, 1] rfl ?_
      exact key_31 _ _ _ _ (Nat.lt_succ_self _) (by omega) (by rw [hx1, hy1]; exact cgI_0 a b) (Or.inl rfl) (by rw [hx1, hy1]; exact cgJ_0 a b)
    refine Z.lload_n hX dX6_commonOf_14 rfl rfl ?_
    refine Z.lconst (v := 0) hX dX6_commonOf_15 rfl ?_
    refine Z.lcmp_ge hX 25 dX6_commonOf_16 dX6_commonOf_17 (by decide) ?_ ?_
    · intro c3
      refine Z.lload_n hX dX6_commonOf_25 rfl rfl ?_
      refine Z.pick [0] rfl ?_
      exact key_26 _ (lab_pos (by assumption))
    · intro c3
      refine Z.lload_n hX dX6_commonOf_20 rfl rfl ?_
      refine Z.lneg hX dX6_commonOf_21 ?_
      refine Z.goto hX 26 dX6_commonOf_22 (by decide) ?_
      refine Z.pick [0] rfl ?_
      exact key_26 _ (lab_neg (by assumption))
  refine Z.lload_n hX dX6_commonOf_0 rfl rfl ?_
  refine Z.lconst (v := 0) hX dX6_commonOf_1 rfl ?_
  refine Z.lcmp_ge hX 11 dX6_commonOf_2 dX6_commonOf_3 (by decide) ?_ ?_
  · intro c4
    refine Z.lload_n hX dX6_commonOf_11 rfl rfl ?_
    refine Z.pick [0, 1] rfl ?_
    exact key_12 _ (lab_pos (by assumption))
  · intro c4
    refine Z.lload_n hX dX6_commonOf_6 rfl rfl ?_
    refine Z.lneg hX dX6_commonOf_7 ?_
    refine Z.goto hX 12 dX6_commonOf_8 (by decide) ?_
    refine Z.pick [0, 1] rfl ?_
    exact key_12 _ (lab_neg (by assumption))

set_option maxHeartbeats 4000000 in
set_option maxRecDepth 100000 in
theorem ct_X1_makePrimitive_x (l : Launch) (D : va_G) (ce : Nat → ClassId) (h pl ar : Nat → Nat) (G : Nat → Int) (L : Nat → Nat → Int64) (B : Nat → Int) (J : Nat → Nat → Int64)  : Ct l yX1_makePrimitive cX1_makePrimitive 6 none { frames := 1, cells := 0, slots := 0, locals := 30 } 0 0 D (TY ce) [.ref (h 3), .ref (h 11)] (cW ce h pl ar G L B J) (QV D (TY ce) (fun w1 => ∃ L2 : Nat → Nat → Int64, w1 = cW ce h pl ar G L2 B J ∧ (∀ k, k ≠ 6 → L2 k = L k) ∧ (NPm (L 6) (L2 6)))) := by
  refine Ct.ofV (by decide) (Nat.le_of_ble_eq_true rfl) ?_
  intro p e s m args below meth c A Q hX hnm hR
  refine Z.pick (lv' := [(0, .ref (h 3)), (1, .ref (h 11))]) [0, 1] rfl ?_
  refine Z.aload_n hX dX1_makePrimitive_0 rfl rfl ?_
  refine Z.callS1i (As := [.ref (h 11)]) (rest := []) hX 11 rfl (ct_X5_topOf l D ce ((h 11)) (L 6) ) mc_X5_topOf ml_X1_46 st_X5_topOf ini_X5 nd_X5_topOf ⟨Nat.le_of_ble_eq_true rfl, Nat.le_of_ble_eq_true rfl⟩ ⟨rfl, rfl⟩ ⟨Nat.le_refl _, Nat.le_refl _⟩ rfl (Nat.le_of_ble_eq_true rfl) dX1_makePrimitive_1 ?_
  rintro r_1 w1 ⟨tp, hr_, hw_, t1, t2, t3⟩
  subst hr_
  refine ⟨_, hw_, ?_⟩
  refine Z.toW (w' := cW ce h pl ar G L B J) (set_self rfl) ?_
  refine Z.istore_n (lv' := [(2, .int (zI tp)), (0, .ref (h 3)), (1, .ref (h 11))]) hX dX1_makePrimitive_4 rfl (by decide) rfl ?_
  refine Z.iload_n hX dX1_makePrimitive_5 rfl rfl ?_
  refine Z.if_ge hX 10 dX1_makePrimitive_6 (by decide) ⟨by omega, by omega⟩ ?_ ?_
  · intro c2
    refine Z.lconst (v := 0) hX dX1_makePrimitive_10 rfl ?_
    refine Z.lstore_n (lv' := [(3, .long 0), (2, .int (zI tp)), (0, .ref (h 3)), (1, .ref (h 11))]) hX dX1_makePrimitive_11 rfl (by decide) rfl ?_
    refine Z.iconst hX dX1_makePrimitive_12 ?_
    refine Z.istore (lv' := [(5, .int (zI 0)), (3, .long 0), (2, .int (zI tp)), (0, .ref (h 3)), (1, .ref (h 11))]) hX dX1_makePrimitive_13 (by decide) rfl ?_
    have key_15 : ∀ (N : Nat), ∀ (i0 : Int) (x : Int64), (tp + 1 - i0).toNat < N → (hi : 0 ≤ i0 ∧ i0 ≤ tp + 1) → (hx : CGr (L 6) i0.toNat x) → Z p l e { frames := 1, cells := 0, slots := 0, locals := 30 } s m args below meth c D A 6 0 0 Q 15 [(5, .int (zI i0)), (3, .long x), (2, .int (zI tp)), (1, .ref (h 11)), (0, .ref (h 3))] [] (cW ce h pl ar G L B J) := by
      intro N
      induction N with
      | zero => intro i0 x hm; exact absurd hm (Nat.not_lt_zero _)
      | succ N ih_15 =>
        intro i0 x hm hi hx
        refine Z.iload hX dX1_makePrimitive_15 rfl ?_
        refine Z.iload_n hX dX1_makePrimitive_17 rfl rfl ?_
        refine Z.icmp_gt hX 36 dX1_makePrimitive_18 (by decide) ⟨by omega, by omega⟩ ⟨by omega, by omega⟩ ?_ ?_
        · intro c3
          refine Z.lload_n hX dX1_makePrimitive_36 rfl rfl ?_
          refine Z.lconst (v := 0) hX dX1_makePrimitive_37 rfl ?_
          refine Z.lcmp_ne hX 43 dX1_makePrimitive_38 dX1_makePrimitive_39 (by decide) ?_ ?_
          · intro c4
            have key_54 : ∀ (y : Int64), (hy0 : ¬ y = 0) → (hsg : sgn (L 6 tp.toNat) x y) → Z p l e { frames := 1, cells := 0, slots := 0, locals := 30 } s m args below meth c D A 6 0 0 Q 54 [(3, .long y), (2, .int (zI tp)), (1, .ref (h 11)), (0, .ref (h 3))] [] (cW ce h pl ar G L B J) := by
              intro y hy0 hsg
              refine Z.iconst hX dX1_makePrimitive_54 ?_
              refine Z.istore (lv' := [(5, .int (zI 0)), (3, .long y), (2, .int (zI tp)), (1, .ref (h 11)), (0, .ref (h 3))]) hX dX1_makePrimitive_55 (by decide) rfl ?_
              have key_57 : ∀ (N : Nat), ∀ (i : Int) (M : Nat → Nat → Int64), (tp + 1 - i).toNat < N → (hi2 : 0 ≤ i ∧ i ≤ tp + 1) → (hM : ∀ k, k ≠ 6 → M k = L k) → (hq : ∀ j : Int, 0 ≤ j → j < 5 → M 6 j.toNat = if j < i then L 6 j.toNat / y else L 6 j.toNat) → Z p l e { frames := 1, cells := 0, slots := 0, locals := 30 } s m args below meth c D A 6 0 0 Q 57 [(5, .int (zI i)), (3, .long y), (2, .int (zI tp)), (1, .ref (h 11)), (0, .ref (h 3))] [] (cW ce h pl ar G M B J) := by
                intro N
                induction N with
                | zero => intro i M hm; exact absurd hm (Nat.not_lt_zero _)
                | succ N ih_57 =>
                  intro i M hm hi2 hM hq
                  refine Z.iload hX dX1_makePrimitive_57 rfl ?_
                  refine Z.iload_n hX dX1_makePrimitive_59 rfl rfl ?_
                  refine Z.icmp_gt hX 77 dX1_makePrimitive_60 (by decide) ⟨by omega, by omega⟩ ⟨by omega, by omega⟩ ?_ ?_
                  · intro c5
                    exact hR _ _ _ dX1_makePrimitive_77 ⟨M, rfl, hM, (np_end t1 t2 t3 (by omega) (show CGr (L 6) (tp + 1).toNat x from (show tp + 1 = i0 by omega) ▸ hx) hsg (fun q => absurd q hy0) (fun _ j a b => by rw [hq j a (by omega), if_pos (by omega)]) (fun j a b => by rw [hq j (by omega) (by omega), if_neg (by omega)]))⟩
                  · intro c5
                    refine Z.aload_n hX dX1_makePrimitive_63 rfl rfl ?_
                    refine Z.iload hX dX1_makePrimitive_64 rfl ?_
                    refine Z.dup2 hX dX1_makePrimitive_66 rfl rfl ?_
                    refine Z.laload hX 11 1 dX1_makePrimitive_67 rfl rfl (by omega) (by omega) (by decide) ?_
                    refine Z.lload_n hX dX1_makePrimitive_68 rfl rfl ?_
                    refine Z.ldiv hX dX1_makePrimitive_69 hy0 ?_
                    refine Z.lastore hX 11 1 dX1_makePrimitive_70 rfl rfl (by omega) (by omega) (by decide) ?_
                    obtain ⟨L6, eL6⟩ : ∃ J' : Nat → Nat → Int64, J' = va_up M 6 (vp_updL (M 6) (i : Int).toNat ((M 6 (i : Int).toNat) / y)) := ⟨_, rfl⟩
                    refine Z.toW (w' := cW ce h pl ar G L6 B J) (by rw [eL6]; rfl) ?_
                    have gL6 : L6 6 = vp_updL (M 6) (i : Int).toNat ((M 6 (i : Int).toNat) / y) := by rw [eL6]; exact up_eq
                    have fL6 : ∀ j_, j_ ≠ 6 → L6 j_ = M j_ := fun j_ hj_ => by rw [eL6]; exact up_ne hj_
                    refine Z.iinc (lv' := [(5, .int (zI (i + 1))), (3, .long y), (2, .int (zI tp)), (1, .ref (h 11)), (0, .ref (h 3))]) hX dX1_makePrimitive_71 rfl (by decide) rfl ?_
                    refine Z.goto hX 57 dX1_makePrimitive_74 (by decide) ?_
                    refine Z.pick [0, 1, 2, 3, 4] rfl ?_
                    exact ih_57 _ _ (by omega) (by omega) (fun j_ h_6 => ((fL6 j_ h_6).trans (hM j_ h_6))) (dv_s hi2.1 (by omega) gL6 hq)
              refine Z.pick [0, 1, 2, 3, 4] rfl ?_
              exact key_57 _ _ _ (Nat.lt_succ_self _) (by omega) (fun _ _ => rfl) (fun j _ _ => (if_neg (by omega)).symm)
            refine Z.aload_n hX dX1_makePrimitive_43 rfl rfl ?_
            refine Z.iload_n hX dX1_makePrimitive_44 rfl rfl ?_
            refine Z.laload hX 11 1 dX1_makePrimitive_45 rfl rfl (by omega) (by omega) (by decide) ?_
            refine Z.lconst (v := 0) hX dX1_makePrimitive_46 rfl ?_
            refine Z.lcmp_ge hX 54 dX1_makePrimitive_47 dX1_makePrimitive_48 (by decide) ?_ ?_
            · intro c7
              refine Z.pick [1, 2, 3, 4] rfl ?_
              exact key_54 _ (by assumption) (sgn_p (by assumption))
            · intro c7
              refine Z.lload_n hX dX1_makePrimitive_51 rfl rfl ?_
              refine Z.lneg hX dX1_makePrimitive_52 ?_
              refine Z.lstore_n (lv' := [(3, .long (-x)), (5, .int (zI i0)), (2, .int (zI tp)), (1, .ref (h 11)), (0, .ref (h 3))]) hX dX1_makePrimitive_53 rfl (by decide) rfl ?_
              refine Z.pick [0, 2, 3, 4] rfl ?_
              exact key_54 _ (tl_n (by assumption)) (sgn_n (by assumption))
          · intro c4
            exact hR _ _ _ dX1_makePrimitive_42 ⟨L, rfl, (fun _ _ => rfl), (np_c0 t1 t2 t3 (by omega) (show CGr (L 6) (tp + 1).toNat x from (show tp + 1 = i0 by omega) ▸ hx) (by assumption))⟩
        · intro c3
          refine Z.lload_n hX dX1_makePrimitive_21 rfl rfl ?_
          refine Z.aload_n hX dX1_makePrimitive_22 rfl rfl ?_
          refine Z.iload hX dX1_makePrimitive_23 rfl ?_
          refine Z.laload hX 11 1 dX1_makePrimitive_25 rfl rfl (by omega) (by omega) (by decide) ?_
          refine Z.callSNl (As := [.long x, .long (L 6 (i0 : Int).toNat)]) (rest := []) hX (ct_X6_commonOf_x l D ce x (L 6 (i0 : Int).toNat) ) mc_X6_commonOf ns_X1_60 st_X6_commonOf ini_X6 nd_X6_commonOf ⟨Nat.le_of_ble_eq_true rfl, Nat.le_of_ble_eq_true rfl⟩ ⟨rfl, rfl⟩ ⟨Nat.le_refl _, Nat.le_refl _⟩ rfl (Nat.le_of_ble_eq_true rfl) dX1_makePrimitive_26 ?_
          rintro r_8 w1 ⟨r09, hr_, hw_, hcg⟩
          subst hr_
          refine ⟨hw_, ?_⟩
          refine Z.lstore_n (lv' := [(3, .long r_8), (5, .int (zI i0)), (2, .int (zI tp)), (1, .ref (h 11)), (0, .ref (h 3))]) hX dX1_makePrimitive_29 rfl (by decide) rfl ?_
          refine Z.iinc (lv' := [(5, .int (zI (i0 + 1))), (3, .long r_8), (2, .int (zI tp)), (1, .ref (h 11)), (0, .ref (h 3))]) hX dX1_makePrimitive_30 rfl (by decide) rfl ?_
          refine Z.goto hX 15 dX1_makePrimitive_33 (by decide) ?_
          refine Z.pick [0, 1, 2, 3, 4] rfl ?_
          exact ih_15 _ _ (by omega) (by omega) (CGr_s hi.1 hx hcg)
    refine Z.pick [0, 1, 2, 4, 3] rfl ?_
    exact key_15 _ _ _ (Nat.lt_succ_self _) (by omega) rfl
  · intro c2
    exact hR _ _ _ dX1_makePrimitive_9 ⟨L, rfl, (fun _ _ => rfl), (np_zero (by omega) t2)⟩

set_option maxHeartbeats 4000000 in
set_option maxRecDepth 100000 in
theorem ct_X1_lowerShared_x (l : Launch) (D : va_G) (ce : Nat → ClassId) (h pl ar : Nat → Nat) (G : Nat → Int) (L : Nat → Nat → Int64) (B : Nat → Int) (J : Nat → Nat → Int64) (st_ ot : Int) (hs : 0 ≤ ot ∧ ot ≤ st_ ∧ st_ ≤ 4) (hnz : ¬ (L 6 st_.toNat = 0 ∧ L 7 ot.toNat = 0)) : Ct l yX1_lowerShared cX1_lowerShared 13 none { frames := 1, cells := 0, slots := 0, locals := 30 } 0 0 D (TY ce) [.ref (h 3), .int (zI st_), .int (zI ot)] (cW ce h pl ar G L B J) (QV D (TY ce) (fun w1 => ∃ L2 : Nat → Nat → Int64, w1 = cW ce h pl ar G L2 B J ∧ (∀ k, k ≠ 6 → L2 k = L k) ∧ (∃ cm : Int64, cgX (L 6 st_.toNat) (L 7 ot.toNat) cm ∧ lowP (L 6) (L 7) (L2 6) st_ ot cm))) := by
  refine Ct.ofV (by decide) (Nat.le_of_ble_eq_true rfl) ?_
  intro p e s m args below meth c A Q hX hnm hR
  refine Z.pick (lv' := [(0, .ref (h 3)), (1, .int (zI st_)), (2, .int (zI ot))]) [0, 1, 2] rfl ?_
  refine Z.aload_n hX dX1_lowerShared_0 rfl rfl ?_
  refine Z.getf hX 1 3 0 dX1_lowerShared_1 rfl rfl inX1 (by decide) fl_X1_9 rfl rfl ?_
  refine Z.iload_n hX dX1_lowerShared_4 rfl rfl ?_
  refine Z.laload hX 11 1 dX1_lowerShared_5 rfl rfl (by omega) (by omega) (by decide) ?_
  refine Z.aload_n hX dX1_lowerShared_6 rfl rfl ?_
  refine Z.getf hX 1 3 1 dX1_lowerShared_7 rfl rfl inX1 (by decide) fl_X1_15 rfl rfl ?_
  refine Z.iload_n hX dX1_lowerShared_10 rfl rfl ?_
  refine Z.laload hX 12 1 dX1_lowerShared_11 rfl rfl (by omega) (by omega) (by decide) ?_
  refine Z.callSNl (As := [.long (L 6 (st_ : Int).toNat), .long (L 7 (ot : Int).toNat)]) (rest := []) hX (ct_X6_commonOf_x l D ce (L 6 (st_ : Int).toNat) (L 7 (ot : Int).toNat) ) mc_X6_commonOf ns_X1_60 st_X6_commonOf ini_X6 nd_X6_commonOf ⟨Nat.le_of_ble_eq_true rfl, Nat.le_of_ble_eq_true rfl⟩ ⟨rfl, rfl⟩ ⟨Nat.le_refl _, Nat.le_refl _⟩ rfl (Nat.le_of_ble_eq_true rfl) dX1_lowerShared_12 ?_
  rintro cm w1 ⟨r02, hr_, hw_, hcm⟩
  subst hr_
  refine ⟨hw_, ?_⟩
  refine Z.lstore_n (lv' := [(3, .long cm), (0, .ref (h 3)), (1, .int (zI st_)), (2, .int (zI ot))]) hX dX1_lowerShared_15 rfl (by decide) rfl ?_
  refine Z.lload_n hX dX1_lowerShared_16 rfl rfl ?_
  refine Z.lconst (v := 0) hX dX1_lowerShared_17 rfl ?_
  refine Z.lcmp_ne hX 23 dX1_lowerShared_18 dX1_lowerShared_19 (by decide) ?_ ?_
  · intro c3
    refine Z.aload_n hX dX1_lowerShared_23 rfl rfl ?_
    refine Z.getf hX 1 3 1 dX1_lowerShared_24 rfl rfl inX1 (by decide) fl_X1_15 rfl rfl ?_
    refine Z.iload_n hX dX1_lowerShared_27 rfl rfl ?_
    refine Z.laload hX 12 1 dX1_lowerShared_28 rfl rfl (by omega) (by omega) (by decide) ?_
    refine Z.lload_n hX dX1_lowerShared_29 rfl rfl ?_
    refine Z.ldiv hX dX1_lowerShared_30 (by assumption) ?_
    refine Z.lstore (lv' := [(5, .long ((L 7 (ot : Int).toNat) / cm)), (3, .long cm), (0, .ref (h 3)), (1, .int (zI st_)), (2, .int (zI ot))]) hX dX1_lowerShared_31 (by decide) rfl ?_
    obtain ⟨sf, esf⟩ : ∃ x : Int64, x = (L 7 (ot : Int).toNat) / cm := ⟨_, rfl⟩
    rw [← esf]
    refine Z.aload_n hX dX1_lowerShared_33 rfl rfl ?_
    refine Z.getf hX 1 3 0 dX1_lowerShared_34 rfl rfl inX1 (by decide) fl_X1_9 rfl rfl ?_
    refine Z.iload_n hX dX1_lowerShared_37 rfl rfl ?_
    refine Z.laload hX 11 1 dX1_lowerShared_38 rfl rfl (by omega) (by omega) (by decide) ?_
    refine Z.lload_n hX dX1_lowerShared_39 rfl rfl ?_
    refine Z.ldiv hX dX1_lowerShared_40 (by assumption) ?_
    refine Z.lstore (lv' := [(7, .long ((L 6 (st_ : Int).toNat) / cm)), (5, .long sf), (3, .long cm), (0, .ref (h 3)), (1, .int (zI st_)), (2, .int (zI ot))]) hX dX1_lowerShared_41 (by decide) rfl ?_
    obtain ⟨of, eof⟩ : ∃ x : Int64, x = (L 6 (st_ : Int).toNat) / cm := ⟨_, rfl⟩
    rw [← eof]
    refine Z.iload_n hX dX1_lowerShared_43 rfl rfl ?_
    refine Z.iload_n hX dX1_lowerShared_44 rfl rfl ?_
    refine Z.isub hX dX1_lowerShared_45 ?_
    refine Z.istore (lv' := [(9, .int (zI (st_ - ot))), (7, .long of), (5, .long sf), (3, .long cm), (0, .ref (h 3)), (1, .int (zI st_)), (2, .int (zI ot))]) hX dX1_lowerShared_46 (by decide) rfl ?_
    refine Z.iconst hX dX1_lowerShared_48 ?_
    refine Z.istore (lv' := [(10, .int (zI 0)), (9, .int (zI (st_ - ot))), (7, .long of), (5, .long sf), (3, .long cm), (0, .ref (h 3)), (1, .int (zI st_)), (2, .int (zI ot))]) hX dX1_lowerShared_49 (by decide) rfl ?_
    have key_51 : ∀ (N : Nat), ∀ (i : Int) (M : Nat → Nat → Int64), (st_ + 1 - i).toNat < N → (hi : 0 ≤ i ∧ i ≤ st_ + 1) → (hM : ∀ k, k ≠ 6 → M k = L k) → (hq : ∀ j : Int, 0 ≤ j → j < 5 → M 6 j.toNat = if j < i then lowV (L 6) (L 7) st_ ot sf of j else L 6 j.toNat) → Z p l e { frames := 1, cells := 0, slots := 0, locals := 30 } s m args below meth c D A 13 0 0 Q 51 [(10, .int (zI i)), (9, .int (zI (st_ - ot))), (7, .long of), (5, .long sf), (2, .int (zI ot)), (1, .int (zI st_)), (0, .ref (h 3))] [] (cW ce h pl ar G M B J) := by
      intro N
      induction N with
      | zero => intro i M hm; exact absurd hm (Nat.not_lt_zero _)
      | succ N ih_51 =>
        intro i M hm hi hM hq
        refine Z.iload hX dX1_lowerShared_51 rfl ?_
        refine Z.iload_n hX dX1_lowerShared_53 rfl rfl ?_
        refine Z.icmp_gt hX 109 dX1_lowerShared_54 (by decide) ⟨by omega, by omega⟩ ⟨by omega, by omega⟩ ?_ ?_
        · intro c4
          exact hR _ _ _ dX1_lowerShared_109 ⟨M, rfl, hM, ⟨cm, hcm, by assumption, fun j a b => by rw [hq j a b, esf, eof, show i = st_ + 1 by omega]⟩⟩
        · intro c4
          refine Z.iload hX dX1_lowerShared_57 rfl ?_
          refine Z.iload hX dX1_lowerShared_59 rfl ?_
          refine Z.icmp_ge hX 68 dX1_lowerShared_61 (by decide) ⟨by omega, by omega⟩ ⟨by omega, by omega⟩ ?_ ?_
          · intro c5
            refine Z.lload hX dX1_lowerShared_68 rfl ?_
            refine Z.aload_n hX dX1_lowerShared_70 rfl rfl ?_
            refine Z.getf hX 1 3 1 dX1_lowerShared_71 rfl rfl inX1 (by decide) fl_X1_15 rfl rfl ?_
            refine Z.iload hX dX1_lowerShared_74 rfl ?_
            refine Z.iload hX dX1_lowerShared_76 rfl ?_
            refine Z.isub hX dX1_lowerShared_78 ?_
            refine Z.laload hX 12 1 dX1_lowerShared_79 rfl rfl (by omega) (by omega) (by decide) ?_
            refine Z.lmul hX dX1_lowerShared_80 ?_
            refine Z.lstore (lv' := [(11, .long (of * (M 7 (i - (st_ - ot) : Int).toNat))), (10, .int (zI i)), (9, .int (zI (st_ - ot))), (7, .long of), (5, .long sf), (2, .int (zI ot)), (1, .int (zI st_)), (0, .ref (h 3))]) hX dX1_lowerShared_81 (by decide) rfl ?_
            refine Z.aload_n hX dX1_lowerShared_83 rfl rfl ?_
            refine Z.getf hX 1 3 0 dX1_lowerShared_84 rfl rfl inX1 (by decide) fl_X1_9 rfl rfl ?_
            refine Z.iload hX dX1_lowerShared_87 rfl ?_
            refine Z.lload hX dX1_lowerShared_89 rfl ?_
            refine Z.aload_n hX dX1_lowerShared_91 rfl rfl ?_
            refine Z.getf hX 1 3 0 dX1_lowerShared_92 rfl rfl inX1 (by decide) fl_X1_9 rfl rfl ?_
            refine Z.iload hX dX1_lowerShared_95 rfl ?_
            refine Z.laload hX 11 1 dX1_lowerShared_97 rfl rfl (by omega) (by omega) (by decide) ?_
            refine Z.lmul hX dX1_lowerShared_98 ?_
            refine Z.lload hX dX1_lowerShared_99 rfl ?_
            refine Z.lsub hX dX1_lowerShared_101 ?_
            refine Z.lastore hX 11 1 dX1_lowerShared_102 rfl rfl (by omega) (by omega) (by decide) ?_
            obtain ⟨L6, eL6⟩ : ∃ J' : Nat → Nat → Int64, J' = va_up M 6 (vp_updL (M 6) (i : Int).toNat ((sf * (M 6 (i : Int).toNat)) - (of * (M 7 (i - (st_ - ot) : Int).toNat)))) := ⟨_, rfl⟩
            refine Z.toW (w' := cW ce h pl ar G L6 B J) (by rw [eL6]; rfl) ?_
            have gL6 : L6 6 = vp_updL (M 6) (i : Int).toNat ((sf * (M 6 (i : Int).toNat)) - (of * (M 7 (i - (st_ - ot) : Int).toNat))) := by rw [eL6]; exact up_eq
            have fL6 : ∀ j_, j_ ≠ 6 → L6 j_ = M j_ := fun j_ hj_ => by rw [eL6]; exact up_ne hj_
            refine Z.iinc (lv' := [(10, .int (zI (i + 1))), (11, .long (of * (M 7 (i - (st_ - ot) : Int).toNat))), (9, .int (zI (st_ - ot))), (7, .long of), (5, .long sf), (2, .int (zI ot)), (1, .int (zI st_)), (0, .ref (h 3))]) hX dX1_lowerShared_103 rfl (by decide) rfl ?_
            refine Z.goto hX 51 dX1_lowerShared_106 (by decide) ?_
            refine Z.pick [0, 2, 3, 4, 5, 6, 7] rfl ?_
            exact ih_51 _ _ (by omega) (by omega) (fun j_ h_6 => ((fL6 j_ h_6).trans (hM j_ h_6))) (low_s hi.1 (by omega) gL6 (by first | exact (if_pos (by omega)).symm | (rw [if_neg (by omega), ← hM 7 (by decide)])) hq)
          · intro c5
            refine Z.lconst (v := 0) hX dX1_lowerShared_64 rfl ?_
            refine Z.goto hX 81 dX1_lowerShared_65 (by decide) ?_
            refine Z.lstore (lv' := [(11, .long 0), (10, .int (zI i)), (9, .int (zI (st_ - ot))), (7, .long of), (5, .long sf), (2, .int (zI ot)), (1, .int (zI st_)), (0, .ref (h 3))]) hX dX1_lowerShared_81 (by decide) rfl ?_
            refine Z.aload_n hX dX1_lowerShared_83 rfl rfl ?_
            refine Z.getf hX 1 3 0 dX1_lowerShared_84 rfl rfl inX1 (by decide) fl_X1_9 rfl rfl ?_
            refine Z.iload hX dX1_lowerShared_87 rfl ?_
            refine Z.lload hX dX1_lowerShared_89 rfl ?_
            refine Z.aload_n hX dX1_lowerShared_91 rfl rfl ?_
            refine Z.getf hX 1 3 0 dX1_lowerShared_92 rfl rfl inX1 (by decide) fl_X1_9 rfl rfl ?_
            refine Z.iload hX dX1_lowerShared_95 rfl ?_
            refine Z.laload hX 11 1 dX1_lowerShared_97 rfl rfl (by omega) (by omega) (by decide) ?_
            refine Z.lmul hX dX1_lowerShared_98 ?_
            refine Z.lload hX dX1_lowerShared_99 rfl ?_
            refine Z.lsub hX dX1_lowerShared_101 ?_
            refine Z.lastore hX 11 1 dX1_lowerShared_102 rfl rfl (by omega) (by omega) (by decide) ?_
            obtain ⟨L7, eL7⟩ : ∃ J' : Nat → Nat → Int64, J' = va_up M 6 (vp_updL (M 6) (i : Int).toNat ((sf * (M 6 (i : Int).toNat)) - 0)) := ⟨_, rfl⟩
            refine Z.toW (w' := cW ce h pl ar G L7 B J) (by rw [eL7]; rfl) ?_
            have gL7 : L7 6 = vp_updL (M 6) (i : Int).toNat ((sf * (M 6 (i : Int).toNat)) - 0) := by rw [eL7]; exact up_eq
            have fL7 : ∀ j_, j_ ≠ 6 → L7 j_ = M j_ := fun j_ hj_ => by rw [eL7]; exact up_ne hj_
            refine Z.iinc (lv' := [(10, .int (zI (i + 1))), (11, .long 0), (9, .int (zI (st_ - ot))), (7, .long of), (5, .long sf), (2, .int (zI ot)), (1, .int (zI st_)), (0, .ref (h 3))]) hX dX1_lowerShared_103 rfl (by decide) rfl ?_
            refine Z.goto hX 51 dX1_lowerShared_106 (by decide) ?_
            refine Z.pick [0, 2, 3, 4, 5, 6, 7] rfl ?_
            exact ih_51 _ _ (by omega) (by omega) (fun j_ h_6 => ((fL7 j_ h_6).trans (hM j_ h_6))) (low_s hi.1 (by omega) gL7 (by first | exact (if_pos (by omega)).symm | (rw [if_neg (by omega), ← hM 7 (by decide)])) hq)
    refine Z.pick [0, 1, 2, 3, 7, 6, 5] rfl ?_
    exact key_51 _ _ _ (Nat.lt_succ_self _) (by omega) (fun _ _ => rfl) (fun j _ _ => (if_neg (by omega)).symm)
  · intro c3
    exact absurd (hcm.1.1 (by assumption)) hnz

set_option maxHeartbeats 4000000 in
set_option maxRecDepth 100000 in
theorem ct_X1_swap_x (l : Launch) (D : va_G) (ce : Nat → ClassId) (h pl ar : Nat → Nat) (G : Nat → Int) (L : Nat → Nat → Int64) (B : Nat → Int) (J : Nat → Nat → Int64)  : Ct l yX1_swap cX1_swap 1 none { frames := 1, cells := 0, slots := 0, locals := 40 } 0 0 D (TY ce) [.ref (h 3)] (cW ce h pl ar G L B J) (QV D (TY ce) (fun w1 => ∃ L2 : Nat → Nat → Int64, w1 = cW ce h pl ar G L2 B J ∧ (∀ k, k ≠ 6 → k ≠ 7 → k ≠ 8 → L2 k = L k) ∧ (∀ j : Int, 0 ≤ j → j < 5 → L2 6 j.toNat = L 7 j.toNat ∧ L2 7 j.toNat = L 6 j.toNat))) := by
  refine Ct.ofV (by decide) (Nat.le_of_ble_eq_true rfl) ?_
  intro p e s m args below meth c A Q hX hnm hR
  refine Z.pick (lv' := [(0, .ref (h 3))]) [0] rfl ?_
  refine Z.aload_n hX dX1_swap_0 rfl rfl ?_
  refine Z.getf hX 1 3 0 dX1_swap_1 rfl rfl inX1 (by decide) fl_X1_9 rfl rfl ?_
  refine Z.iconst hX dX1_swap_4 ?_
  refine Z.aload_n hX dX1_swap_5 rfl rfl ?_
  refine Z.getf hX 1 3 2 dX1_swap_6 rfl rfl inX1 (by decide) fl_X1_18 rfl rfl ?_
  refine Z.iconst hX dX1_swap_9 ?_
  refine Z.iconst hX dX1_swap_10 ?_
  refine Z.copyA hX 11 13 1 dX1_swap_11 rfl rfl rfl rfl (by decide) ml_X1_33 (by decide) (Nat.le_of_ble_eq_true rfl) ?_
  obtain ⟨L1, eL1⟩ : ∃ J' : Nat → Nat → Int64, J' = va_up L 8 (va_cpy (L 6) (L 8) 0 0 5) := ⟨_, rfl⟩
  refine Z.toW (w' := cW ce h pl ar G L1 B J) (by rw [eL1]; rfl) ?_
  have gL1 : L1 8 = va_cpy (L 6) (L 8) 0 0 5 := by rw [eL1]; exact up_eq
  have fL1 : ∀ j_, j_ ≠ 8 → L1 j_ = L j_ := fun j_ hj_ => by rw [eL1]; exact up_ne hj_
  refine Z.aload_n hX dX1_swap_14 rfl rfl ?_
  refine Z.getf hX 1 3 1 dX1_swap_15 rfl rfl inX1 (by decide) fl_X1_15 rfl rfl ?_
  refine Z.iconst hX dX1_swap_18 ?_
  refine Z.aload_n hX dX1_swap_19 rfl rfl ?_
  refine Z.getf hX 1 3 0 dX1_swap_20 rfl rfl inX1 (by decide) fl_X1_9 rfl rfl ?_
  refine Z.iconst hX dX1_swap_23 ?_
  refine Z.iconst hX dX1_swap_24 ?_
  refine Z.copyA hX 12 11 1 dX1_swap_25 rfl rfl rfl rfl (by decide) ml_X1_33 (by decide) (Nat.le_of_ble_eq_true rfl) ?_
  obtain ⟨L2, eL2⟩ : ∃ J' : Nat → Nat → Int64, J' = va_up L1 6 (va_cpy (L1 7) (L1 6) 0 0 5) := ⟨_, rfl⟩
  refine Z.toW (w' := cW ce h pl ar G L2 B J) (by rw [eL2]; rfl) ?_
  have gL2 : L2 6 = va_cpy (L1 7) (L1 6) 0 0 5 := by rw [eL2]; exact up_eq
  have fL2 : ∀ j_, j_ ≠ 6 → L2 j_ = L1 j_ := fun j_ hj_ => by rw [eL2]; exact up_ne hj_
  refine Z.aload_n hX dX1_swap_28 rfl rfl ?_
  refine Z.getf hX 1 3 2 dX1_swap_29 rfl rfl inX1 (by decide) fl_X1_18 rfl rfl ?_
  refine Z.iconst hX dX1_swap_32 ?_
  refine Z.aload_n hX dX1_swap_33 rfl rfl ?_
  refine Z.getf hX 1 3 1 dX1_swap_34 rfl rfl inX1 (by decide) fl_X1_15 rfl rfl ?_
  refine Z.iconst hX dX1_swap_37 ?_
  refine Z.iconst hX dX1_swap_38 ?_
  refine Z.copyA hX 13 12 1 dX1_swap_39 rfl rfl rfl rfl (by decide) ml_X1_33 (by decide) (Nat.le_of_ble_eq_true rfl) ?_
  obtain ⟨L3, eL3⟩ : ∃ J' : Nat → Nat → Int64, J' = va_up L2 7 (va_cpy (L2 8) (L2 7) 0 0 5) := ⟨_, rfl⟩
  refine Z.toW (w' := cW ce h pl ar G L3 B J) (by rw [eL3]; rfl) ?_
  have gL3 : L3 7 = va_cpy (L2 8) (L2 7) 0 0 5 := by rw [eL3]; exact up_eq
  have fL3 : ∀ j_, j_ ≠ 7 → L3 j_ = L2 j_ := fun j_ hj_ => by rw [eL3]; exact up_ne hj_
  exact hR _ _ _ dX1_swap_42 ⟨L3, rfl, (fun j_ h_6 h_7 h_8 => ((fL3 j_ h_7).trans ((fL2 j_ h_6).trans ((fL1 j_ h_8).trans rfl)))), (fun j a b => ⟨by rw [fL3 6 (by decide), gL2, cpy_at a b, fL1 7 (by decide)], by rw [gL3, cpy_at a b, fL2 8 (by decide), gL1, cpy_at a b]⟩)⟩

set_option maxHeartbeats 4000000 in
set_option maxRecDepth 100000 in
theorem ct_X1_shareWithOther_x (l : Launch) (D : va_G) (ce : Nat → ClassId) (h pl ar : Nat → Nat) (G : Nat → Int) (L : Nat → Nat → Int64) (B : Nat → Int) (J : Nat → Nat → Int64) (hS : SF (ti (L 6)) (ti (L 7))) (b6 : bd (L 6)) (b7 : bd (L 7)) : Ct l yX1_shareWithOther cX1_shareWithOther 4 none { frames := 2, cells := 0, slots := 0, locals := 62 } 0 0 D (TY ce) [.ref (h 3)] (cW ce h pl ar G L B J) (QV D (TY ce) (fun w1 => ∃ L2 : Nat → Nat → Int64, w1 = cW ce h pl ar G L2 B J ∧ (∀ k, k ≠ 6 → k ≠ 7 → k ≠ 8 → L2 k = L k) ∧ (EQ2 (ti (L 6)) (ti (L 7)) (ti (L2 6)) p0) ∧ (bd (L2 6)) ∧ (RP (L 6) → RP (L 7) → RP (L2 6)))) := by
  refine Ct.ofV (by decide) (Nat.le_of_ble_eq_true rfl) ?_
  intro p e s m args below meth c A Q hX hnm hR
  refine Z.pick (lv' := [(0, .ref (h 3))]) [0] rfl ?_
  refine Z.iconst hX dX1_shareWithOther_0 ?_
  refine Z.istore_n (lv' := [(1, .int (zI 0)), (0, .ref (h 3))]) hX dX1_shareWithOther_1 rfl (by decide) rfl ?_
  have key_2 : ∀ (N : Nat), ∀ (i : Int) (M : Nat → Nat → Int64), (32 - i).toNat < N → (hi : 0 ≤ i) → (hM : ∀ k, k ≠ 6 → k ≠ 7 → k ≠ 8 → M k = L k) → (hv : IV (L 6) (L 7) (M 6) (M 7)) → (hrp : RP (L 6) → RP (L 7) → RP (M 6) ∧ RP (M 7)) → (hst : stn (M 6) (M 7) i) → Z p l e { frames := 2, cells := 0, slots := 0, locals := 62 } s m args below meth c D A 4 0 0 Q 2 [(1, .int (zI i)), (0, .ref (h 3))] [] (cW ce h pl ar G M B J) := by
    intro N
    induction N with
    | zero => intro i M hm; exact absurd hm (Nat.not_lt_zero _)
    | succ N ih_2 =>
      intro i M hm hi hM hv hrp hst
      have hi20 := stn_le hst
      refine Z.iload_n hX dX1_shareWithOther_2 rfl rfl ?_
      refine Z.bipush hX dX1_shareWithOther_3 (by decide) ?_
      refine Z.icmp_ge hX 61 dX1_shareWithOther_5 (by decide) ⟨by omega, by omega⟩ ⟨by omega, by omega⟩ ?_ ?_
      · intro c1
        exfalso; omega
      · intro c1
        refine Z.aload_n hX dX1_shareWithOther_8 rfl rfl ?_
        refine Z.getf hX 1 3 0 dX1_shareWithOther_9 rfl rfl inX1 (by decide) fl_X1_9 rfl rfl ?_
        refine Z.callS1i (As := [.ref (h 11)]) (rest := []) hX 11 rfl (ct_X5_topOf l D ce ((h 11)) (M 6) ) mc_X5_topOf ml_X1_46 st_X5_topOf ini_X5 nd_X5_topOf ⟨Nat.le_of_ble_eq_true rfl, Nat.le_of_ble_eq_true rfl⟩ ⟨rfl, rfl⟩ ⟨Nat.le_refl _, Nat.le_refl _⟩ rfl (Nat.le_of_ble_eq_true rfl) dX1_shareWithOther_12 ?_
        rintro r_2 w1 ⟨ta, hr_, hw_, a1, a2, a3⟩
        subst hr_
        refine ⟨_, hw_, ?_⟩
        refine Z.toW (w' := cW ce h pl ar G M B J) (set_self rfl) ?_
        refine Z.istore_n (lv' := [(2, .int (zI ta)), (1, .int (zI i)), (0, .ref (h 3))]) hX dX1_shareWithOther_15 rfl (by decide) rfl ?_
        refine Z.aload_n hX dX1_shareWithOther_16 rfl rfl ?_
        refine Z.getf hX 1 3 1 dX1_shareWithOther_17 rfl rfl inX1 (by decide) fl_X1_15 rfl rfl ?_
        refine Z.callS1i (As := [.ref (h 12)]) (rest := []) hX 12 rfl (ct_X5_topOf l D ce ((h 12)) (M 7) ) mc_X5_topOf ml_X1_46 st_X5_topOf ini_X5 nd_X5_topOf ⟨Nat.le_of_ble_eq_true rfl, Nat.le_of_ble_eq_true rfl⟩ ⟨rfl, rfl⟩ ⟨Nat.le_refl _, Nat.le_refl _⟩ rfl (Nat.le_of_ble_eq_true rfl) dX1_shareWithOther_20 ?_
        rintro r_3 w1 ⟨tb, hr_, hw_, b1, b2, b3⟩
        subst hr_
        refine ⟨_, hw_, ?_⟩
        refine Z.toW (w' := cW ce h pl ar G M B J) (set_self rfl) ?_
        refine Z.istore_n (lv' := [(3, .int (zI tb)), (2, .int (zI ta)), (1, .int (zI i)), (0, .ref (h 3))]) hX dX1_shareWithOther_23 rfl (by decide) rfl ?_
        refine Z.iload_n hX dX1_shareWithOther_24 rfl rfl ?_
        refine Z.if_ge hX 29 dX1_shareWithOther_25 (by decide) ⟨by omega, by omega⟩ ?_ ?_
        · intro c4
          refine Z.iload_n hX dX1_shareWithOther_29 rfl rfl ?_
          refine Z.iload_n hX dX1_shareWithOther_30 rfl rfl ?_
          refine Z.icmp_ge hX 41 dX1_shareWithOther_31 (by decide) ⟨by omega, by omega⟩ ⟨by omega, by omega⟩ ?_ ?_
          · intro c5
            refine Z.aload_n hX dX1_shareWithOther_41 rfl rfl ?_
            refine Z.iload_n hX dX1_shareWithOther_42 rfl rfl ?_
            refine Z.iload_n hX dX1_shareWithOther_43 rfl rfl ?_
            refine Z.callVfv (As := [.int (zI ta), .int (zI tb)]) (rest := []) hX 1 3 rfl rfl (ct_X1_lowerShared_x l D ce h pl ar G M B J ta tb (by omega) (fun q => a3 (by omega) q.1)) mc_X1_lowerShared ml_X1_56 im_X1_lowerShared se_X1_lowerShared ini_X1 nd_X1_lowerShared ⟨Nat.le_of_ble_eq_true rfl, Nat.le_of_ble_eq_true rfl⟩ ⟨rfl, rfl⟩ ⟨Nat.le_refl _, Nat.le_refl _⟩ rfl (Nat.le_of_ble_eq_true rfl) dX1_shareWithOther_44 ?_
            rintro w1 ⟨Ll, hw_, l1, l2⟩
            subst hw_
            refine Z.aload_n hX dX1_shareWithOther_47 rfl rfl ?_
            refine Z.aload_n hX dX1_shareWithOther_48 rfl rfl ?_
            refine Z.getf hX 1 3 0 dX1_shareWithOther_49 rfl rfl inX1 (by decide) fl_X1_9 rfl rfl ?_
            refine Z.callVfv (As := [.ref (h 11)]) (rest := []) hX 1 3 rfl rfl (ct_X1_makePrimitive_x l D ce h pl ar G Ll B J ) mc_X1_makePrimitive ml_X1_42 im_X1_makePrimitive se_X1_makePrimitive ini_X1 nd_X1_makePrimitive ⟨Nat.le_of_ble_eq_true rfl, Nat.le_of_ble_eq_true rfl⟩ ⟨rfl, rfl⟩ ⟨Nat.le_refl _, Nat.le_refl _⟩ rfl (Nat.le_of_ble_eq_true rfl) dX1_shareWithOther_52 ?_
            rintro w1 ⟨Lp, hw_, m1, m2⟩
            subst hw_
            obtain ⟨cm, hcm, hlp⟩ := l2
            have e7 : Lp 7 = M 7 := (m1 7 (by decide)).trans (l1 7 (by decide))
            obtain ⟨iv1, iv2, iv3⟩ := iv_low hv a1 a2 a3 b1 b2 b3 (by omega) (by omega) hcm hlp m2 hst
            rw [← e7] at iv1 iv3
            refine Z.iinc (lv' := [(1, .int (zI (i + 1))), (3, .int (zI tb)), (2, .int (zI ta)), (0, .ref (h 3))]) hX dX1_shareWithOther_55 rfl (by decide) rfl ?_
            refine Z.goto hX 2 dX1_shareWithOther_58 (by decide) ?_
            refine Z.pick [0, 3] rfl ?_
            exact ih_2 _ _ (by omega) (by omega) (fun j_ h_6 h_7 h_8 => ((m1 j_ h_6).trans ((l1 j_ h_6).trans (hM j_ h_6 h_7 h_8)))) iv1 (fun r s => ⟨Or.inr iv2, by rw [e7]; exact (hrp r s).2⟩) iv3
          · intro c5
            refine Z.aload_n hX dX1_shareWithOther_34 rfl rfl ?_
            refine Z.callVfv (As := []) (rest := []) hX 1 3 rfl rfl (ct_X1_swap_x l D ce h pl ar G M B J ) mc_X1_swap ml_X1_53 im_X1_swap se_X1_swap ini_X1 nd_X1_swap ⟨Nat.le_of_ble_eq_true rfl, Nat.le_of_ble_eq_true rfl⟩ ⟨rfl, rfl⟩ ⟨Nat.le_refl _, Nat.le_refl _⟩ rfl (Nat.le_of_ble_eq_true rfl) dX1_shareWithOther_35 ?_
            rintro w1 ⟨Ls, hw_, s1, s2⟩
            subst hw_
            obtain ⟨iv1, iv2, iv3, iv4⟩ := iv_sw hv a1 a2 a3 b1 b2 b3 (by omega) s2 hst
            refine Z.goto hX 55 dX1_shareWithOther_38 (by decide) ?_
            refine Z.iinc (lv' := [(1, .int (zI (i + 1))), (3, .int (zI tb)), (2, .int (zI ta)), (0, .ref (h 3))]) hX dX1_shareWithOther_55 rfl (by decide) rfl ?_
            refine Z.goto hX 2 dX1_shareWithOther_58 (by decide) ?_
            refine Z.pick [0, 3] rfl ?_
            exact ih_2 _ _ (by omega) (by omega) (fun j_ h_6 h_7 h_8 => ((s1 j_ h_6 h_7 h_8).trans (hM j_ h_6 h_7 h_8))) iv1 (fun r s => ⟨by unfold RP; rw [iv3]; exact (hrp r s).2, by unfold RP; rw [iv4]; exact (hrp r s).1⟩) iv2
        · intro c4
          exact hR _ _ _ dX1_shareWithOther_28 ⟨M, rfl, hM, (iv_end hv (by omega) b2), hv.2.2.1, (fun r s => (hrp r s).1)⟩
  refine Z.pick [0, 1] rfl ?_
  exact key_2 _ _ _ (Nat.lt_succ_self _) (by omega) (fun _ _ _ _ => rfl) ⟨EQ2.rf _ _, hS, b6, b7⟩ (fun r s => ⟨r, s⟩) (stn_0 _ _)

set_option maxHeartbeats 4000000 in
set_option maxRecDepth 100000 in
theorem ct_X1_divideByShared_x (l : Launch) (D : va_G) (ce : Nat → ClassId) (h pl ar : Nat → Nat) (G : Nat → Int) (L : Nat → Nat → Int64) (B : Nat → Int) (J : Nat → Nat → Int64) (K : Nat) (hK : 3 ≤ K ∧ K < 6) : Ct l yX1_divideByShared cX1_divideByShared 7 none { frames := 1, cells := 0, slots := 0, locals := 40 } 0 0 D (TY ce) [.ref (h 3), .ref (h (18 + K))] (cW ce h pl ar G L B J) (QV D (TY ce) (fun w1 => ∃ L2 : Nat → Nat → Int64, w1 = cW ce h pl ar G L2 B J ∧ (∀ k, k ≠ K → k ≠ 8 → L2 k = L k) ∧ (∃ lo : Int, topz (L 6) lo ∧ (0 ≤ lo → ∀ j : Int, 0 ≤ j → j < 5 → L2 K j.toNat = rq (L K) (L 6) lo j)))) := by
  refine Ct.ofV (by decide) (Nat.le_of_ble_eq_true rfl) ?_
  intro p e s m args below meth c A Q hX hnm hR
  refine Z.pick (lv' := [(0, .ref (h 3)), (1, .ref (h (18 + K)))]) [0, 1] rfl ?_
  refine Z.aload_n hX dX1_divideByShared_0 rfl rfl ?_
  refine Z.getf hX 1 3 0 dX1_divideByShared_1 rfl rfl inX1 (by decide) fl_X1_9 rfl rfl ?_
  refine Z.callS1i (As := [.ref (h 11)]) (rest := []) hX 11 rfl (ct_X5_topOf l D ce ((h 11)) (L 6) ) mc_X5_topOf ml_X1_46 st_X5_topOf ini_X5 nd_X5_topOf ⟨Nat.le_of_ble_eq_true rfl, Nat.le_of_ble_eq_true rfl⟩ ⟨rfl, rfl⟩ ⟨Nat.le_refl _, Nat.le_refl _⟩ rfl (Nat.le_of_ble_eq_true rfl) dX1_divideByShared_4 ?_
  rintro r_1 w1 ⟨lo, hr_, hw_, l1, l2, l3⟩
  subst hr_
  refine ⟨_, hw_, ?_⟩
  refine Z.toW (w' := cW ce h pl ar G L B J) (set_self rfl) ?_
  refine Z.istore_n (lv' := [(2, .int (zI lo)), (0, .ref (h 3)), (1, .ref (h (18 + K)))]) hX dX1_divideByShared_7 rfl (by decide) rfl ?_
  refine Z.iload_n hX dX1_divideByShared_8 rfl rfl ?_
  refine Z.if_lt hX 23 dX1_divideByShared_9 (by decide) ⟨by omega, by omega⟩ ?_ ?_
  · intro c2
    exact hR _ _ _ dX1_divideByShared_23 ⟨L, rfl, (fun _ _ _ => rfl), ⟨lo, ⟨l1, l2, l3⟩, fun q => by omega⟩⟩
  · intro c2
    refine Z.aload_n hX dX1_divideByShared_12 rfl rfl ?_
    refine Z.getf hX 1 3 0 dX1_divideByShared_13 rfl rfl inX1 (by decide) fl_X1_9 rfl rfl ?_
    refine Z.iload_n hX dX1_divideByShared_16 rfl rfl ?_
    refine Z.laload hX 11 1 dX1_divideByShared_17 rfl rfl (by omega) (by omega) (by decide) ?_
    refine Z.lconst (v := 0) hX dX1_divideByShared_18 rfl ?_
    refine Z.lcmp_ne hX 24 dX1_divideByShared_19 dX1_divideByShared_20 (by decide) ?_ ?_
    · intro c3
      refine Z.aload_n hX dX1_divideByShared_24 rfl rfl ?_
      refine Z.iconst hX dX1_divideByShared_25 ?_
      refine Z.aload_n hX dX1_divideByShared_26 rfl rfl ?_
      refine Z.getf hX 1 3 2 dX1_divideByShared_27 rfl rfl inX1 (by decide) fl_X1_18 rfl rfl ?_
      refine Z.iconst hX dX1_divideByShared_30 ?_
      refine Z.iconst hX dX1_divideByShared_31 ?_
      refine Z.copyA hX (18 + K) 13 1 dX1_divideByShared_32 (cW_in (by omega)) rfl rfl rfl (by decide) ml_X1_33 (by decide) (Nat.le_of_ble_eq_true rfl) ?_
      obtain ⟨L4, eL4⟩ : ∃ J' : Nat → Nat → Int64, J' = va_up L 8 (va_cpy (L K) (L 8) 0 0 5) := ⟨_, rfl⟩
      refine Z.toW (w' := cW ce h pl ar G L4 B J) (by rw [eL4]; rfl) ?_
      have gL4 : L4 8 = va_cpy (L K) (L 8) 0 0 5 := by rw [eL4]; exact up_eq
      have fL4 : ∀ j_, j_ ≠ 8 → L4 j_ = L j_ := fun j_ hj_ => by rw [eL4]; exact up_ne hj_
      refine Z.aload_n hX dX1_divideByShared_35 rfl rfl ?_
      refine Z.lconst (v := 0) hX dX1_divideByShared_36 rfl ?_
      refine Z.callS1v (As := [.ref (h (18 + K)), .long 0]) (rest := []) hX (18 + K) (cW_in (by omega)) (ct_J7_fill_d0a16 l D ce ((h (18 + K))) 5 (L4 K) 0 (by decide)) mc_J7_fill_d0a16 ml_X1_21 st_J7_fill_d0a16 ini_J7 nd_J7_fill_d0a16 ⟨Nat.le_of_ble_eq_true rfl, Nat.le_of_ble_eq_true rfl⟩ ⟨rfl, rfl⟩ ⟨Nat.le_refl _, Nat.le_refl _⟩ rfl (Nat.le_of_ble_eq_true rfl) dX1_divideByShared_37 ?_
      rintro w1 ⟨f26, hw_, hfl⟩
      refine ⟨_, hw_, ?_⟩
      obtain ⟨L7, eL7⟩ : ∃ J' : Nat → Nat → Int64, J' = va_up L4 K (f26) := ⟨_, rfl⟩
      refine Z.toW (w' := cW ce h pl ar G L7 B J) (by rw [eL7]; exact cW_setL (by omega)) ?_
      have gL7 : L7 K = f26 := by rw [eL7]; exact up_eq
      have fL7 : ∀ j_, j_ ≠ K → L7 j_ = L4 j_ := fun j_ hj_ => by rw [eL7]; exact up_ne hj_
      refine Z.iconst hX dX1_divideByShared_40 ?_
      refine Z.iload_n hX dX1_divideByShared_41 rfl rfl ?_
      refine Z.isub hX dX1_divideByShared_42 ?_
      refine Z.istore_n (lv' := [(3, .int (zI (4 - lo))), (2, .int (zI lo)), (0, .ref (h 3)), (1, .ref (h (18 + K)))]) hX dX1_divideByShared_43 rfl (by decide) rfl ?_
      have key_44 : ∀ (N : Nat), ∀ (i : Int) (M : Nat → Nat → Int64), (i + 1).toNat < N → (hi : -1 ≤ i ∧ i ≤ 4 - lo) → (ho : M 6 = L 6) → (hM : ∀ k, k ≠ K → k ≠ 8 → M k = L k) → (hsp : ∀ j : Int, 0 ≤ j → j < 5 → M 8 j.toNat = spq (L K) (L 6) lo (4 - lo - i).toNat j.toNat) → (hrq : ∀ j : Int, 0 ≤ j → j < 5 → M K j.toNat = if i < j then rq (L K) (L 6) lo j else 0) → Z p l e { frames := 1, cells := 0, slots := 0, locals := 40 } s m args below meth c D A 7 0 0 Q 44 [(3, .int (zI i)), (2, .int (zI lo)), (1, .ref (h (18 + K))), (0, .ref (h 3))] [] (cW ce h pl ar G M B J) := by
        intro N
        induction N with
        | zero => intro i M hm; exact absurd hm (Nat.not_lt_zero _)
        | succ N ih_44 =>
          intro i M hm hi ho hM hsp hrq
          refine Z.iload_n hX dX1_divideByShared_44 rfl rfl ?_
          refine Z.if_lt hX 113 dX1_divideByShared_45 (by decide) ⟨by omega, by omega⟩ ?_ ?_
          · intro c8
            exact hR _ _ _ dX1_divideByShared_113 ⟨M, rfl, hM, ⟨lo, ⟨l1, l2, l3⟩, fun _ j a b => by rw [hrq j a b, if_pos (by omega)]⟩⟩
          · intro c8
            refine Z.aload_n hX dX1_divideByShared_48 rfl rfl ?_
            refine Z.getf hX 1 3 2 dX1_divideByShared_49 rfl rfl inX1 (by decide) fl_X1_18 rfl rfl ?_
            refine Z.iload_n hX dX1_divideByShared_52 rfl rfl ?_
            refine Z.iload_n hX dX1_divideByShared_53 rfl rfl ?_
            refine Z.iadd hX dX1_divideByShared_54 ?_
            refine Z.laload hX 13 1 dX1_divideByShared_55 rfl rfl (by omega) (by omega) (by decide) ?_
            refine Z.aload_n hX dX1_divideByShared_56 rfl rfl ?_
            refine Z.getf hX 1 3 0 dX1_divideByShared_57 rfl rfl inX1 (by decide) fl_X1_9 rfl rfl ?_
            refine Z.iload_n hX dX1_divideByShared_60 rfl rfl ?_
            refine Z.laload hX 11 1 dX1_divideByShared_61 rfl rfl (by omega) (by omega) (by decide) ?_
            refine Z.ldiv hX dX1_divideByShared_62 (by rw [ho]; exact l3 (by omega)) ?_
            refine Z.lstore (lv' := [(4, .long ((M 8 (i + lo : Int).toNat) / (M 6 (lo : Int).toNat))), (3, .int (zI i)), (2, .int (zI lo)), (1, .ref (h (18 + K))), (0, .ref (h 3))]) hX dX1_divideByShared_63 (by decide) rfl ?_
            obtain ⟨qq, eqq⟩ : ∃ x : Int64, x = (M 8 (i + lo : Int).toNat) / (M 6 (lo : Int).toNat) := ⟨_, rfl⟩
            rw [← eqq]
            refine Z.aload_n hX dX1_divideByShared_65 rfl rfl ?_
            refine Z.iload_n hX dX1_divideByShared_66 rfl rfl ?_
            refine Z.lload hX dX1_divideByShared_67 rfl ?_
            refine Z.lastore hX (18 + K) 1 dX1_divideByShared_69 (cW_in (by omega)) rfl (by omega) (by omega) (by decide) ?_
            obtain ⟨L9, eL9⟩ : ∃ J' : Nat → Nat → Int64, J' = va_up M K (vp_updL (M K) (i : Int).toNat (qq)) := ⟨_, rfl⟩
            refine Z.toW (w' := cW ce h pl ar G L9 B J) (by rw [eL9]; exact cW_setL (by omega)) ?_
            have gL9 : L9 K = vp_updL (M K) (i : Int).toNat (qq) := by rw [eL9]; exact up_eq
            have fL9 : ∀ j_, j_ ≠ K → L9 j_ = M j_ := fun j_ hj_ => by rw [eL9]; exact up_ne hj_
            refine Z.iconst hX dX1_divideByShared_70 ?_
            refine Z.istore (lv' := [(6, .int (zI 0)), (4, .long qq), (3, .int (zI i)), (2, .int (zI lo)), (1, .ref (h (18 + K))), (0, .ref (h 3))]) hX dX1_divideByShared_71 (by decide) rfl ?_
            have key_73 : ∀ (N : Nat), ∀ (q : Int) (Nn : Nat → Nat → Int64), (lo + 1 - q).toNat < N → (hq : 0 ≤ q ∧ q ≤ lo + 1) → (ho2 : Nn 6 = L 6) → (hN : ∀ k, k ≠ K → k ≠ 8 → Nn k = L k) → (hof : ∀ j : Int, 0 ≤ j → j < 5 → Nn 8 j.toNat = if i ≤ j ∧ j < i + q then M 8 j.toNat - qq * L 6 (j - i).toNat else M 8 j.toNat) → (hrn : ∀ j : Int, 0 ≤ j → j < 5 → Nn K j.toNat = if i - 1 < j then rq (L K) (L 6) lo j else 0) → Z p l e { frames := 1, cells := 0, slots := 0, locals := 40 } s m args below meth c D A 7 0 0 Q 73 [(6, .int (zI q)), (4, .long qq), (3, .int (zI i)), (2, .int (zI lo)), (1, .ref (h (18 + K))), (0, .ref (h 3))] [] (cW ce h pl ar G Nn B J) := by
              intro N
              induction N with
              | zero => intro q Nn hm; exact absurd hm (Nat.not_lt_zero _)
              | succ N ih_73 =>
                intro q Nn hm hq ho2 hN hof hrn
                refine Z.iload hX dX1_divideByShared_73 rfl ?_
                refine Z.iload_n hX dX1_divideByShared_75 rfl rfl ?_
                refine Z.icmp_gt hX 107 dX1_divideByShared_76 (by decide) ⟨by omega, by omega⟩ ⟨by omega, by omega⟩ ?_ ?_
                · intro c10
                  refine Z.iinc (lv' := [(3, .int (zI (i + -1))), (6, .int (zI q)), (4, .long qq), (2, .int (zI lo)), (1, .ref (h (18 + K))), (0, .ref (h 3))]) hX dX1_divideByShared_107 rfl (by decide) rfl ?_
                  refine Z.goto hX 44 dX1_divideByShared_110 (by decide) ?_
                  refine Z.pick [0, 3, 4, 5] rfl ?_
                  exact ih_44 _ _ (by omega) (by omega) ho2 hN (off_e (x := qq) (by omega) (by omega) (by omega) hsp (by rw [eqq, ho]) (fun j a b => by rw [hof j a b, show q = lo + 1 by omega])) hrn
                · intro c10
                  refine Z.aload_n hX dX1_divideByShared_79 rfl rfl ?_
                  refine Z.getf hX 1 3 2 dX1_divideByShared_80 rfl rfl inX1 (by decide) fl_X1_18 rfl rfl ?_
                  refine Z.iload_n hX dX1_divideByShared_83 rfl rfl ?_
                  refine Z.iload hX dX1_divideByShared_84 rfl ?_
                  refine Z.iadd hX dX1_divideByShared_86 ?_
                  refine Z.dup2 hX dX1_divideByShared_87 rfl rfl ?_
                  refine Z.laload hX 13 1 dX1_divideByShared_88 rfl rfl (by omega) (by omega) (by decide) ?_
                  refine Z.lload hX dX1_divideByShared_89 rfl ?_
                  refine Z.aload_n hX dX1_divideByShared_91 rfl rfl ?_
                  refine Z.getf hX 1 3 0 dX1_divideByShared_92 rfl rfl inX1 (by decide) fl_X1_9 rfl rfl ?_
                  refine Z.iload hX dX1_divideByShared_95 rfl ?_
                  refine Z.laload hX 11 1 dX1_divideByShared_97 rfl rfl (by omega) (by omega) (by decide) ?_
                  refine Z.lmul hX dX1_divideByShared_98 ?_
                  refine Z.lsub hX dX1_divideByShared_99 ?_
                  refine Z.lastore hX 13 1 dX1_divideByShared_100 rfl rfl (by omega) (by omega) (by decide) ?_
                  obtain ⟨L11, eL11⟩ : ∃ J' : Nat → Nat → Int64, J' = va_up Nn 8 (vp_updL (Nn 8) (i + q : Int).toNat ((Nn 8 (i + q : Int).toNat) - (qq * (Nn 6 (q : Int).toNat)))) := ⟨_, rfl⟩
                  refine Z.toW (w' := cW ce h pl ar G L11 B J) (by rw [eL11]; rfl) ?_
                  have gL11 : L11 8 = vp_updL (Nn 8) (i + q : Int).toNat ((Nn 8 (i + q : Int).toNat) - (qq * (Nn 6 (q : Int).toNat))) := by rw [eL11]; exact up_eq
                  have fL11 : ∀ j_, j_ ≠ 8 → L11 j_ = Nn j_ := fun j_ hj_ => by rw [eL11]; exact up_ne hj_
                  refine Z.iinc (lv' := [(6, .int (zI (q + 1))), (4, .long qq), (3, .int (zI i)), (2, .int (zI lo)), (1, .ref (h (18 + K))), (0, .ref (h 3))]) hX dX1_divideByShared_101 rfl (by decide) rfl ?_
                  refine Z.goto hX 73 dX1_divideByShared_104 (by decide) ?_
                  refine Z.pick [0, 1, 2, 3, 4, 5] rfl ?_
                  exact ih_73 _ _ (by omega) (by omega) ((fL11 6 (by omega)).trans ho2) (fun j_ h_K h_8 => ((fL11 j_ h_8).trans (hN j_ h_K h_8))) (off_s (by omega) (by omega) (by omega) (by rw [gL11, ho2]) hof) (fun j a b => by rw [fL11 K (by omega)]; exact hrn j a b)
            refine Z.pick [0, 1, 2, 3, 4, 5] rfl ?_
            exact key_73 _ _ _ (Nat.lt_succ_self _) (by omega) ((fL9 6 (by omega)).trans ho) (fun j_ h_K h_8 => ((fL9 j_ h_K).trans (hM j_ h_K h_8))) (fun j a b => by rw [fL9 8 (by omega), if_neg (by omega)]) (rq_w (x := qq) (by omega) (by omega) (by omega) hsp (by rw [eqq, ho]) gL9 hrq)
      refine Z.pick [0, 1, 3, 2] rfl ?_
      exact key_44 _ _ _ (Nat.lt_succ_self _) (by omega) ((fL7 6 (by omega)).trans ((fL4 6 (by omega)).trans rfl)) (fun j_ h_K h_8 => ((fL7 j_ h_K).trans ((fL4 j_ h_8).trans rfl))) (fun j a b => by rw [fL7 8 (by omega), gL4, cpy_at a b, show (4 - lo - (4 - lo)).toNat = 0 by omega]; rfl) (rq_0 (fun j a b => by rw [gL7]; exact hfl j a (by omega)))
    · intro c3
      exact absurd (by assumption) (l3 (by omega))

set_option maxHeartbeats 4000000 in
set_option maxRecDepth 100000 in
theorem ct_X1_free_x (l : Launch) (D : va_G) (ce : Nat → ClassId) (h pl ar : Nat → Nat) (G : Nat → Int) (L : Nat → Nat → Int64) (B : Nat → Int) (J : Nat → Nat → Int64) (hb : ∀ a, a < 3 → bx 7 (ti (L a))) : Ct l yX1_free cX1_free 4 none { frames := 3, cells := 0, slots := 0, locals := 85 } 0 0 D (TY ce) [.ref (h 3), .ref (h 1), .ref (h 2)] (cW ce h pl ar G L B J) (QV D (TY ce) (fun w1 => ∃ L2 : Nat → Nat → Int64, w1 = cW ce h pl ar G L2 B J ∧ (∀ k, k ≠ 3 → k ≠ 4 → k ≠ 5 → k ≠ 6 → k ≠ 7 → k ≠ 8 → L2 k = L k) ∧ (FRs L (fun a => L2 (3 + a))))) := by
  refine Ct.ofV (by decide) (Nat.le_of_ble_eq_true rfl) ?_
  intro p e s m args below meth c A Q hX hnm hR
  refine Z.pick (lv' := [(0, .ref (h 3)), (1, .ref (h 1)), (2, .ref (h 2))]) [0, 1, 2] rfl ?_
  refine Z.aload_n hX dX1_free_0 rfl rfl ?_
  refine Z.getf hX 1 3 0 dX1_free_1 rfl rfl inX1 (by decide) fl_X1_9 rfl rfl ?_
  refine Z.lconst (v := 0) hX dX1_free_4 rfl ?_
  refine Z.callS1v (As := [.ref (h 11), .long 0]) (rest := []) hX 11 rfl (ct_J7_fill_d0a16 l D ce ((h 11)) 5 (L 6) 0 (by decide)) mc_J7_fill_d0a16 ml_X1_21 st_J7_fill_d0a16 ini_J7 nd_J7_fill_d0a16 ⟨Nat.le_of_ble_eq_true rfl, Nat.le_of_ble_eq_true rfl⟩ ⟨rfl, rfl⟩ ⟨Nat.le_refl _, Nat.le_refl _⟩ rfl (Nat.le_of_ble_eq_true rfl) dX1_free_5 ?_
  rintro w1 ⟨f22, hw_, hfl⟩
  refine ⟨_, hw_, ?_⟩
  obtain ⟨L3, eL3⟩ : ∃ J' : Nat → Nat → Int64, J' = va_up L 6 (f22) := ⟨_, rfl⟩
  refine Z.toW (w' := cW ce h pl ar G L3 B J) (by rw [eL3]; rfl) ?_
  have gL3 : L3 6 = f22 := by rw [eL3]; exact up_eq
  have fL3 : ∀ j_, j_ ≠ 6 → L3 j_ = L j_ := fun j_ hj_ => by rw [eL3]; exact up_ne hj_
  refine Z.iconst hX dX1_free_8 ?_
  refine Z.istore_n (lv' := [(3, .int (zI 0)), (0, .ref (h 3)), (1, .ref (h 1)), (2, .ref (h 2))]) hX dX1_free_9 rfl (by decide) rfl ?_
  have key_10 : ∀ (N : Nat), ∀ (i : Int) (M : Nat → Nat → Int64), (3 - i).toNat < N → (hi : 0 ≤ i ∧ i ≤ 3) → (hM : ∀ k, k ≠ 3 → k ≠ 4 → k ≠ 5 → k ≠ 6 → k ≠ 7 → k ≠ 8 → M k = L k) → (hcp : ∀ j : Int, 0 ≤ j → j < i → ∀ q : Int, 0 ≤ q → q < 5 → M (3 + j.toNat) q.toNat = L j.toNat q.toNat) → (hsg : SG (L 0) (L 1) (L 2) i (M 6)) → Z p l e { frames := 3, cells := 0, slots := 0, locals := 85 } s m args below meth c D A 4 0 0 Q 10 [(3, .int (zI i)), (2, .ref (h 2)), (1, .ref (h 1)), (0, .ref (h 3))] [] (cW ce h pl ar G M B J) := by
    intro N
    induction N with
    | zero => intro i M hm; exact absurd hm (Nat.not_lt_zero _)
    | succ N ih_10 =>
      intro i M hm hi hM hcp hsg
      refine Z.iload_n hX dX1_free_10 rfl rfl ?_
      refine Z.iconst hX dX1_free_11 ?_
      refine Z.icmp_ge hX 59 dX1_free_12 (by decide) ⟨by omega, by omega⟩ ⟨by omega, by omega⟩ ?_ ?_
      · intro c4
        refine Z.aload_n hX dX1_free_59 rfl rfl ?_
        refine Z.aload_n hX dX1_free_60 rfl rfl ?_
        refine Z.getf hX 1 3 0 dX1_free_61 rfl rfl inX1 (by decide) fl_X1_9 rfl rfl ?_
        refine Z.callVfv (As := [.ref (h 11)]) (rest := []) hX 1 3 rfl rfl (ct_X1_makePrimitive_x l D ce h pl ar G M B J ) mc_X1_makePrimitive ml_X1_42 im_X1_makePrimitive se_X1_makePrimitive ini_X1 nd_X1_makePrimitive ⟨Nat.le_of_ble_eq_true rfl, Nat.le_of_ble_eq_true rfl⟩ ⟨rfl, rfl⟩ ⟨Nat.le_refl _, Nat.le_refl _⟩ rfl (Nat.le_of_ble_eq_true rfl) dX1_free_64 ?_
        rintro w1 ⟨Lp, hw_, m1, m2⟩
        subst hw_
        have hi3 : i = 3 := by omega
        have hgg : GG (L 0) (L 1) (L 2) (Lp 6) := GG_of (hi3 ▸ hsg) m2
        refine Z.aload_n hX dX1_free_67 rfl rfl ?_
        refine Z.getf hX 1 3 0 dX1_free_68 rfl rfl inX1 (by decide) fl_X1_9 rfl rfl ?_
        refine Z.callS1i (As := [.ref (h 11)]) (rest := []) hX 11 rfl (ct_X5_topOf l D ce ((h 11)) (Lp 6) ) mc_X5_topOf ml_X1_46 st_X5_topOf ini_X5 nd_X5_topOf ⟨Nat.le_of_ble_eq_true rfl, Nat.le_of_ble_eq_true rfl⟩ ⟨rfl, rfl⟩ ⟨Nat.le_refl _, Nat.le_refl _⟩ rfl (Nat.le_of_ble_eq_true rfl) dX1_free_71 ?_
        rintro r_6 w1 ⟨tp, hr_, hw_, t1, t2, t3⟩
        subst hr_
        refine ⟨_, hw_, ?_⟩
        refine Z.toW (w' := cW ce h pl ar G Lp B J) (set_self rfl) ?_
        refine Z.iconst hX dX1_free_74 ?_
        refine Z.icmp_lt hX 101 dX1_free_75 (by decide) ⟨by omega, by omega⟩ ⟨by omega, by omega⟩ ?_ ?_
        · intro c7
          exact hR _ _ _ dX1_free_101 ⟨Lp, rfl, (fun j_ h_3 h_4 h_5 h_6 h_7 h_8 => ((m1 j_ h_6).trans (hM j_ h_3 h_4 h_5 h_6 h_7 h_8))), ⟨Lp 6, tp, hgg, ⟨t1, t2, t3⟩, fun a ha j x y => by have hk1 := hcp (a : Int) (by omega) (by omega) j x y; rw [Int.toNat_natCast] at hk1; rw [if_neg (by omega)]; show Lp (3 + a) j.toNat = _; rw [m1 (3 + a) (by omega)]; exact hk1⟩⟩
        · intro c7
          refine Z.iconst hX dX1_free_78 ?_
          refine Z.istore_n (lv' := [(3, .int (zI 0)), (2, .ref (h 2)), (1, .ref (h 1)), (0, .ref (h 3))]) hX dX1_free_79 rfl (by decide) rfl ?_
          have key_80 : ∀ (N : Nat), ∀ (i2 : Int) (Nn : Nat → Nat → Int64), (3 - i2).toNat < N → (hi2 : 0 ≤ i2 ∧ i2 ≤ 3) → (hN : ∀ k, k ≠ 3 → k ≠ 4 → k ≠ 5 → k ≠ 6 → k ≠ 7 → k ≠ 8 → Nn k = L k) → (ho6 : Nn 6 = Lp 6) → (hdv : ∀ j : Int, 0 ≤ j → j < 3 → ∀ q : Int, 0 ≤ q → q < 5 → Nn (3 + j.toNat) q.toNat = if j < i2 then rq (L j.toNat) (Lp 6) tp q else L j.toNat q.toNat) → Z p l e { frames := 3, cells := 0, slots := 0, locals := 85 } s m args below meth c D A 4 0 0 Q 80 [(3, .int (zI i2)), (2, .ref (h 2)), (0, .ref (h 3))] [] (cW ce h pl ar G Nn B J) := by
            intro N
            induction N with
            | zero => intro i2 Nn hm; exact absurd hm (Nat.not_lt_zero _)
            | succ N ih_80 =>
              intro i2 Nn hm hi2 hN ho6 hdv
              refine Z.iload_n hX dX1_free_80 rfl rfl ?_
              refine Z.iconst hX dX1_free_81 ?_
              refine Z.icmp_ge hX 101 dX1_free_82 (by decide) ⟨by omega, by omega⟩ ⟨by omega, by omega⟩ ?_ ?_
              · intro c8
                exact hR _ _ _ dX1_free_101 ⟨Nn, rfl, hN, ⟨Lp 6, tp, hgg, ⟨t1, t2, t3⟩, fun a ha j x y => by have hk1 := hdv (a : Int) (by omega) (by omega) j x y; rw [Int.toNat_natCast, if_pos (by omega)] at hk1; rw [if_pos (by omega)]; exact hk1⟩⟩
              · intro c8
                refine Z.aload_n hX dX1_free_85 rfl rfl ?_
                refine Z.aload_n hX dX1_free_86 rfl rfl ?_
                refine Z.getf hX 5 2 0 dX1_free_87 rfl rfl inX5 (by decide) fl_X1_27 rfl rfl ?_
                refine Z.iload_n hX dX1_free_90 rfl rfl ?_
                refine Z.aaload hX 10 3 dX1_free_91 rfl rfl rfl (by omega) (by omega) (by decide) rfl ?_
                refine Z.callVfv (As := [.ref (h (18 + (3 + (i2 : Int).toNat)))]) (rest := []) hX 1 3 rfl rfl (ct_X1_divideByShared_x l D ce h pl ar G Nn B J ((3 + (i2 : Int).toNat)) (by omega)) mc_X1_divideByShared ml_X1_50 im_X1_divideByShared se_X1_divideByShared ini_X1 nd_X1_divideByShared ⟨Nat.le_of_ble_eq_true rfl, Nat.le_of_ble_eq_true rfl⟩ ⟨rfl, rfl⟩ ⟨Nat.le_refl _, Nat.le_refl _⟩ rfl (Nat.le_of_ble_eq_true rfl) dX1_free_92 ?_
                rintro w1 ⟨Ld, hw_, v1, v2⟩
                subst hw_
                obtain ⟨lo, tl, hl⟩ := v2
                have elo : lo = tp := topz_uq (fun j _ => by rw [ho6]) tl ⟨t1, t2, t3⟩
                rw [elo] at hl
                have hd2 : ∀ j : Int, 0 ≤ j → j < 3 → ∀ q : Int, 0 ≤ q → q < 5 → Ld (3 + j.toNat) q.toNat = if j < i2 + 1 then rq (L j.toNat) (Lp 6) tp q else L j.toNat q.toNat := fun j a b q x y => if e : j = i2 then (by rw [e, hl (by omega) q x y, if_pos (by omega), ho6]; exact rq_c (by omega) x (fun k hk => by have hk1 := hdv i2 (by omega) (by omega) (k : Int) (by omega) (by omega); rw [Int.toNat_natCast, if_neg (by omega)] at hk1; exact hk1) (fun _ _ => rfl)) else (by rw [v1 _ (by omega) (by omega), hdv j a b q x y]; exact (if e2 : j < i2 then (by rw [if_pos e2, if_pos (by omega)]) else (by rw [if_neg e2, if_neg (by omega)])))
                have h62 : Ld 6 = Lp 6 := (v1 6 (by omega) (by decide)).trans ho6
                refine Z.iinc (lv' := [(3, .int (zI (i2 + 1))), (2, .ref (h 2)), (0, .ref (h 3))]) hX dX1_free_95 rfl (by decide) rfl ?_
                refine Z.goto hX 80 dX1_free_98 (by decide) ?_
                refine Z.pick [0, 1, 2] rfl ?_
                exact ih_80 _ _ (by omega) (by omega) (fun j_ h_3 h_4 h_5 h_6 h_7 h_8 => ((v1 j_ (by omega) h_8).trans (hN j_ h_3 h_4 h_5 h_6 h_7 h_8))) h62 hd2
          refine Z.pick [0, 1, 3] rfl ?_
          exact key_80 _ _ _ (Nat.lt_succ_self _) (by omega) (fun j_ h_3 h_4 h_5 h_6 h_7 h_8 => ((m1 j_ h_6).trans (hM j_ h_3 h_4 h_5 h_6 h_7 h_8))) rfl (fun j a b q x y => by rw [if_neg (by omega), m1 _ (by omega)]; exact hcp j a (by omega) q x y)
      · intro c4
        refine Z.aload_n hX dX1_free_15 rfl rfl ?_
        refine Z.getf hX 5 1 0 dX1_free_16 rfl rfl inX5 (by decide) fl_X1_27 rfl rfl ?_
        refine Z.iload_n hX dX1_free_19 rfl rfl ?_
        refine Z.aaload hX 9 3 dX1_free_20 rfl rfl rfl (by omega) (by omega) (by decide) rfl ?_
        refine Z.iconst hX dX1_free_21 ?_
        refine Z.aload_n hX dX1_free_22 rfl rfl ?_
        refine Z.getf hX 5 2 0 dX1_free_23 rfl rfl inX5 (by decide) fl_X1_27 rfl rfl ?_
        refine Z.iload_n hX dX1_free_26 rfl rfl ?_
        refine Z.aaload hX 10 3 dX1_free_27 rfl rfl rfl (by omega) (by omega) (by decide) rfl ?_
        refine Z.iconst hX dX1_free_28 ?_
        refine Z.iconst hX dX1_free_29 ?_
        refine Z.copyA hX (18 + (i : Int).toNat) (18 + (3 + (i : Int).toNat)) 1 dX1_free_30 (cW_in (by omega)) (cW_in (by omega)) rfl rfl (by decide) ml_X1_33 (by decide) (Nat.le_of_ble_eq_true rfl) ?_
        obtain ⟨L10, eL10⟩ : ∃ J' : Nat → Nat → Int64, J' = va_up M ((3 + (i : Int).toNat)) (va_cpy (M ((i : Int).toNat)) (M ((3 + (i : Int).toNat))) 0 0 5) := ⟨_, rfl⟩
        refine Z.toW (w' := cW ce h pl ar G L10 B J) (by rw [eL10]; exact cW_setL (by omega)) ?_
        have gL10 : L10 ((3 + (i : Int).toNat)) = va_cpy (M ((i : Int).toNat)) (M ((3 + (i : Int).toNat))) 0 0 5 := by rw [eL10]; exact up_eq
        have fL10 : ∀ j_, j_ ≠ (3 + (i : Int).toNat) → L10 j_ = M j_ := fun j_ hj_ => by rw [eL10]; exact up_ne hj_
        refine Z.aload_n hX dX1_free_33 rfl rfl ?_
        refine Z.getf hX 5 1 0 dX1_free_34 rfl rfl inX5 (by decide) fl_X1_27 rfl rfl ?_
        refine Z.iload_n hX dX1_free_37 rfl rfl ?_
        refine Z.aaload hX 9 3 dX1_free_38 rfl rfl rfl (by omega) (by omega) (by decide) rfl ?_
        refine Z.iconst hX dX1_free_39 ?_
        refine Z.aload_n hX dX1_free_40 rfl rfl ?_
        refine Z.getf hX 1 3 1 dX1_free_41 rfl rfl inX1 (by decide) fl_X1_15 rfl rfl ?_
        refine Z.iconst hX dX1_free_44 ?_
        refine Z.iconst hX dX1_free_45 ?_
        refine Z.copyA hX (18 + (i : Int).toNat) 12 1 dX1_free_46 (cW_in (by omega)) rfl rfl rfl (by decide) ml_X1_33 (by decide) (Nat.le_of_ble_eq_true rfl) ?_
        obtain ⟨L11, eL11⟩ : ∃ J' : Nat → Nat → Int64, J' = va_up L10 7 (va_cpy (L10 ((i : Int).toNat)) (L10 7) 0 0 5) := ⟨_, rfl⟩
        refine Z.toW (w' := cW ce h pl ar G L11 B J) (by rw [eL11]; rfl) ?_
        have gL11 : L11 7 = va_cpy (L10 ((i : Int).toNat)) (L10 7) 0 0 5 := by rw [eL11]; exact up_eq
        have fL11 : ∀ j_, j_ ≠ 7 → L11 j_ = L10 j_ := fun j_ hj_ => by rw [eL11]; exact up_ne hj_
        have hMi : M (i : Int).toNat = L (i : Int).toNat := hM _ (by omega) (by omega) (by omega) (by omega) (by omega) (by omega)
        have cpa : ∀ q : Int, 0 ≤ q → q < 5 → L11 (3 + (i : Int).toNat) q.toNat = L (i : Int).toNat q.toNat := fun q a b => by rw [fL11 _ (by omega), gL10, cpy_at a b, hMi]
        have cpo : ∀ q : Int, 0 ≤ q → q < 5 → L11 7 q.toNat = L (i : Int).toNat q.toNat := fun q a b => by rw [gL11, cpy_at a b, fL10 _ (by omega), hMi]
        have e6 : L11 6 = M 6 := (fL11 6 (by decide)).trans (fL10 6 (by omega))
        have et7 : ti (L11 7) = ti (L (i : Int).toNat) := ti_ext (fun j a b => cpo j a (by omega))
        have ho7 : ti (L11 7) = ti (P3 (L 0) (L 1) (L 2) i) := et7.trans (by rcases (show i = 0 ∨ i = 1 ∨ i = 2 by omega) with rfl | rfl | rfl <;> rfl)
        have hb7 : bx 7 (ti (L11 7)) := by rw [et7]; exact hb _ (by omega)
        have bo7 := bx_bd hb7
        have hsg1 : SG (L 0) (L 1) (L 2) i (L11 6) := by rw [e6]; exact hsg
        refine Z.aload_n hX dX1_free_49 rfl rfl ?_
        refine Z.callVfv (As := []) (rest := []) hX 1 3 rfl rfl (ct_X1_shareWithOther_x l D ce h pl ar G L11 B J (SG_sf (hb 0 (by decide)) (hb 1 (by decide)) (hb 2 (by decide)) (by omega) hsg1 ho7) hsg1.1 bo7) mc_X1_shareWithOther ml_X1_39 im_X1_shareWithOther se_X1_shareWithOther ini_X1 nd_X1_shareWithOther ⟨Nat.le_of_ble_eq_true rfl, Nat.le_of_ble_eq_true rfl⟩ ⟨rfl, rfl⟩ ⟨Nat.le_refl _, Nat.le_refl _⟩ rfl (Nat.le_of_ble_eq_true rfl) dX1_free_50 ?_
        rintro w1 ⟨Ls, hw_, s1, s2, s3, s4⟩
        subst hw_
        have hsg2 : SG (L 0) (L 1) (L 2) (i + 1) (Ls 6) := SG_s (by omega) hsg1 ho7 s2 s3 (s4 hsg1.2.1 (Or.inl hb7))
        have hcp2 : ∀ j : Int, 0 ≤ j → j < i + 1 → ∀ q : Int, 0 ≤ q → q < 5 → Ls (3 + j.toNat) q.toNat = L j.toNat q.toNat := fun j ja jb q a b => by rw [s1 _ (by omega) (by omega) (by omega)]; exact (if e : j = i then (by rw [e]; exact cpa q a b) else (by rw [fL11 _ (by omega), fL10 _ (by omega)]; exact hcp j ja (by omega) q a b))
        refine Z.iinc (lv' := [(3, .int (zI (i + 1))), (2, .ref (h 2)), (1, .ref (h 1)), (0, .ref (h 3))]) hX dX1_free_53 rfl (by decide) rfl ?_
        refine Z.goto hX 10 dX1_free_56 (by decide) ?_
        refine Z.pick [0, 1, 2, 3] rfl ?_
        exact ih_10 _ _ (by omega) (by omega) (fun j_ h_3 h_4 h_5 h_6 h_7 h_8 => ((s1 j_ h_6 h_7 h_8).trans ((fL11 j_ h_7).trans ((fL10 j_ (by omega)).trans (hM j_ h_3 h_4 h_5 h_6 h_7 h_8))))) hcp2 hsg2
  refine Z.pick [0, 3, 2, 1] rfl ?_
  exact key_10 _ _ _ (Nat.lt_succ_self _) (by omega) (fun j_ h_3 h_4 h_5 h_6 h_7 h_8 => ((fL3 j_ h_6).trans rfl)) (fun j a b => by omega) (SG_0 (fun j a b => by rw [gL3]; exact hfl j a (by omega)))

