set_option maxHeartbeats 4000000 in
set_option maxRecDepth 100000 in
theorem ct_X7_slope_z (l : Launch) (D : va_G) (ce : Nat → ClassId) (h : Nat → Nat) (F : Nat → Int) (I : Nat → Nat → Int32) (J : Nat → Nat → Int64) (wh by_ u v : Int) (hF2 : 1 ≤ F 0 ∧ F 0 ≤ 4) (hw : 0 ≤ wh ∧ wh ≤ 2) (hb : -2147483648 ≤ by_ ∧ by_ < 2147483648) (hu : -2147483648 ≤ u ∧ u < 2147483648) (hv : -2147483648 ≤ v ∧ v < 2147483648) : Ct l yX7_slope cX7_slope 10 (some .long) { frames := 1, cells := 0, slots := 0, locals := 25 } 0 0 D (TY ce) [.ref (h 0), .int (zI wh), .int (zI by_), .int (zI u), .int (zI v)] (rW ce h F I J) (QL D (TY ce) (fun r w1 => ∃ r0 : Int64, r = r0 ∧ w1 = rW ce h F I J ∧ (cq r0 (hsm (pdv by_ (F 0).toNat (ti (rP (I 0) wh.toNat))) (F 0 - 1).toNat u v (F 0).toNat)))) := by
  refine Ct.ofL (by decide) (Nat.le_of_ble_eq_true rfl) ?_
  intro p e s m args below meth c A Q hX hnm hR
  refine Z.pick (lv' := [(0, .ref (h 0)), (1, .int (zI wh)), (2, .int (zI by_)), (3, .int (zI u)), (4, .int (zI v))]) [0, 1, 2, 3, 4] rfl ?_
  refine Z.lconst (v := 0) hX dX7_slope_0 rfl ?_
  refine Z.lstore (lv' := [(5, .long 0), (0, .ref (h 0)), (1, .int (zI wh)), (2, .int (zI by_)), (3, .int (zI u)), (4, .int (zI v))]) hX dX7_slope_1 (by decide) rfl ?_
  refine Z.iconst hX dX7_slope_3 ?_
  refine Z.istore (lv' := [(7, .int (zI 0)), (5, .long 0), (0, .ref (h 0)), (1, .int (zI wh)), (2, .int (zI by_)), (3, .int (zI u)), (4, .int (zI v))]) hX dX7_slope_4 (by decide) rfl ?_
  have key_6 : ∀ (N : Nat), ∀ (k : Int) (al : Int64), (F 0 - k).toNat < N → (hk : 0 ≤ k ∧ k ≤ F 0) → (hal : cq al (hsm (pdv by_ (F 0).toNat (ti (rP (I 0) wh.toNat))) (F 0 - 1).toNat u v k.toNat)) → Z p l e { frames := 1, cells := 0, slots := 0, locals := 25 } s m args below meth c D A 10 0 0 Q 6 [(7, .int (zI k)), (5, .long al), (4, .int (zI v)), (3, .int (zI u)), (2, .int (zI by_)), (1, .int (zI wh)), (0, .ref (h 0))] [] (rW ce h F I J) := by
    intro N
    induction N with
    | zero => intro k al hm; exact absurd hm (Nat.not_lt_zero _)
    | succ N ih_6 =>
      intro k al hm hk hal
      refine Z.iload hX dX7_slope_6 rfl ?_
      refine Z.aload_n hX dX7_slope_8 rfl rfl ?_
      refine Z.getf hX 7 0 2 dX7_slope_9 rfl rfl inX7 (by decide) fl_X7_70 rfl rfl ?_
      refine Z.icmp_ge hX 102 dX7_slope_12 (by decide) ⟨by omega, by omega⟩ ⟨by omega, by omega⟩ ?_ ?_
      · intro c1
        refine Z.lload hX dX7_slope_102 rfl ?_
        exact hR _ _ _ _ dX7_slope_104 ⟨al, rfl, rfl, (by rw [show k.toNat = (F 0).toNat by omega] at hal; exact hal)⟩
      · intro c1
        have key_63 : ∀ (cc_ : Int64), (hcc : cq cc_ ((pdv by_ (F 0).toNat (ti (rP (I 0) wh.toNat))) k.toNat)) → Z p l e { frames := 1, cells := 0, slots := 0, locals := 25 } s m args below meth c D A 10 0 0 Q 63 [(7, .int (zI k)), (5, .long al), (4, .int (zI v)), (3, .int (zI u)), (2, .int (zI by_)), (1, .int (zI wh)), (0, .ref (h 0))] [.long cc_] (rW ce h F I J) := by
          intro cc_ hcc
          refine Z.lstore (lv' := [(8, .long cc_), (7, .int (zI k)), (5, .long al), (4, .int (zI v)), (3, .int (zI u)), (2, .int (zI by_)), (1, .int (zI wh)), (0, .ref (h 0))]) hX dX7_slope_63 (by decide) rfl ?_
          refine Z.lload hX dX7_slope_65 rfl ?_
          refine Z.lload hX dX7_slope_67 rfl ?_
          refine Z.iload_n hX dX7_slope_69 rfl rfl ?_
          refine Z.i2l hX dX7_slope_70 ⟨by omega, by omega⟩ ?_
          refine Z.iload hX dX7_slope_71 rfl ?_
          refine Z.callS0l (As := [.long (zL u), .int (zI k)]) (rest := [.long cc_, .long al]) hX (ct_X7_raised l D ce (zL u) k (by omega)) mc_X7_raised ml_X7_134 st_X7_raised ini_X7 nd_X7_raised ⟨Nat.le_of_ble_eq_true rfl, Nat.le_of_ble_eq_true rfl⟩ ⟨rfl, rfl⟩ ⟨Nat.le_refl _, Nat.le_refl _⟩ rfl (Nat.le_of_ble_eq_true rfl) dX7_slope_73 ?_
          rintro ra w1 ⟨r03, hr_, hw_, hra⟩
          subst hr_
          refine ⟨hw_, ?_⟩
          refine Z.lmul hX dX7_slope_76 ?_
          refine Z.iload hX dX7_slope_77 rfl ?_
          refine Z.i2l hX dX7_slope_79 ⟨by omega, by omega⟩ ?_
          refine Z.aload_n hX dX7_slope_80 rfl rfl ?_
          refine Z.getf hX 7 0 2 dX7_slope_81 rfl rfl inX7 (by decide) fl_X7_70 rfl rfl ?_
          refine Z.iconst hX dX7_slope_84 ?_
          refine Z.isub hX dX7_slope_85 ?_
          refine Z.iload hX dX7_slope_86 rfl ?_
          refine Z.isub hX dX7_slope_88 ?_
          refine Z.callS0l (As := [.long (zL v), .int (zI (((F 0) - 1) - k))]) (rest := [.long (cc_ * ra), .long al]) hX (ct_X7_raised l D ce (zL v) (((F 0) - 1) - k) (by omega)) mc_X7_raised ml_X7_134 st_X7_raised ini_X7 nd_X7_raised ⟨Nat.le_of_ble_eq_true rfl, Nat.le_of_ble_eq_true rfl⟩ ⟨rfl, rfl⟩ ⟨Nat.le_refl _, Nat.le_refl _⟩ rfl (Nat.le_of_ble_eq_true rfl) dX7_slope_89 ?_
          rintro rb w1 ⟨r05, hr_, hw_, hrb⟩
          subst hr_
          refine ⟨hw_, ?_⟩
          refine Z.lmul hX dX7_slope_92 ?_
          refine Z.ladd hX dX7_slope_93 ?_
          refine Z.lstore (lv' := [(5, .long (al + ((cc_ * ra) * rb))), (8, .long cc_), (7, .int (zI k)), (4, .int (zI v)), (3, .int (zI u)), (2, .int (zI by_)), (1, .int (zI wh)), (0, .ref (h 0))]) hX dX7_slope_94 (by decide) rfl ?_
          refine Z.iinc (lv' := [(7, .int (zI (k + 1))), (5, .long (al + ((cc_ * ra) * rb))), (8, .long cc_), (4, .int (zI v)), (3, .int (zI u)), (2, .int (zI by_)), (1, .int (zI wh)), (0, .ref (h 0))]) hX dX7_slope_96 rfl (by decide) rfl ?_
          refine Z.goto hX 6 dX7_slope_99 (by decide) ?_
          refine Z.pick [0, 1, 3, 4, 5, 6, 7] rfl ?_
          exact ih_6 _ _ (by omega) (by omega) (sp_n (n := F 0 - 1) (by omega) hal hcc hra hrb)
        refine Z.iload_n hX dX7_slope_15 rfl rfl ?_
        refine Z.if_ne hX 42 dX7_slope_16 (by decide) ⟨by omega, by omega⟩ ?_ ?_
        · intro c6
          refine Z.aload_n hX dX7_slope_42 rfl rfl ?_
          refine Z.getf hX 7 0 2 dX7_slope_43 rfl rfl inX7 (by decide) fl_X7_70 rfl rfl ?_
          refine Z.iload hX dX7_slope_46 rfl ?_
          refine Z.isub hX dX7_slope_48 ?_
          refine Z.i2l hX dX7_slope_49 ⟨by omega, by omega⟩ ?_
          refine Z.aload_n hX dX7_slope_50 rfl rfl ?_
          refine Z.getf hX 7 0 0 dX7_slope_51 rfl rfl inX7 (by decide) fl_X7_7 rfl rfl ?_
          refine Z.iconst hX dX7_slope_54 ?_
          refine Z.iload_n hX dX7_slope_55 rfl rfl ?_
          refine Z.imul hX dX7_slope_56 ?_
          refine Z.iload hX dX7_slope_57 rfl ?_
          refine Z.iadd hX dX7_slope_59 ?_
          refine Z.iaload hX 1 0 dX7_slope_60 rfl rfl (by omega) (by omega) (by decide) ?_
          refine Z.topi (fun z7 hz7 kz7 ez7 => ?_)
          refine Z.i2l hX dX7_slope_61 ⟨by omega, by omega⟩ ?_
          refine Z.lmul hX dX7_slope_62 ?_
          refine Z.pick [0, 1, 2, 3, 4, 5, 6] rfl ?_
          exact key_63 _ (sc_1 hw (by omega) (by omega) (by assumption) (by assumption) (by assumption) (by assumption) rfl)
        · intro c6
          refine Z.iload hX dX7_slope_19 rfl ?_
          refine Z.i2l hX dX7_slope_21 ⟨by omega, by omega⟩ ?_
          refine Z.lconst (v := 1) hX dX7_slope_22 rfl ?_
          refine Z.ladd hX dX7_slope_23 ?_
          refine Z.aload_n hX dX7_slope_24 rfl rfl ?_
          refine Z.getf hX 7 0 0 dX7_slope_25 rfl rfl inX7 (by decide) fl_X7_7 rfl rfl ?_
          refine Z.iconst hX dX7_slope_28 ?_
          refine Z.iload_n hX dX7_slope_29 rfl rfl ?_
          refine Z.imul hX dX7_slope_30 ?_
          refine Z.iload hX dX7_slope_31 rfl ?_
          refine Z.iadd hX dX7_slope_33 ?_
          refine Z.iconst hX dX7_slope_34 ?_
          refine Z.iadd hX dX7_slope_35 ?_
          refine Z.iaload hX 1 0 dX7_slope_36 rfl rfl (by omega) (by omega) (by decide) ?_
          refine Z.topi (fun z8 hz8 kz8 ez8 => ?_)
          refine Z.i2l hX dX7_slope_37 ⟨by omega, by omega⟩ ?_
          refine Z.lmul hX dX7_slope_38 ?_
          refine Z.goto hX 63 dX7_slope_39 (by decide) ?_
          refine Z.pick [0, 1, 2, 3, 4, 5, 6] rfl ?_
          exact key_63 _ (sc_0 hw (by omega) (by omega) (by assumption) (by assumption) (by assumption) rfl)
  refine Z.pick [0, 1, 6, 5, 4, 3, 2] rfl ?_
  exact key_6 _ _ _ (Nat.lt_succ_self _) (by omega) (cq_rf 0)

set_option maxHeartbeats 4000000 in
set_option maxRecDepth 100000 in
theorem ct_X7_tell_0z (l : Launch) (D : va_G) (ce : Nat → ClassId) (h : Nat → Nat) (F : Nat → Int) (I : Nat → Nat → Int32) (J : Nat → Nat → Int64) (fr : Int) (hfr : 0 ≤ fr ∧ fr ≤ 12495) (hdg : DGok (I 2)) (hsz : sz60 (fun i => J 5 (fr.toNat + i))) (hs6 : SU (fun i => J 5 (fr.toNat + i)) 6) : Ct l yX7_tell cX7_tell 9 none { frames := 3, cells := 0, slots := 0, locals := 93 } 0 0 D (TY ce) [.ref (h 0), .int (zI 0), .int (zI fr)] (rW ce h F I J) (QV D (TY ce) (fun w1 => ∃ I2 : Nat → Nat → Int32, ∃ J2 : Nat → Nat → Int64, w1 = rW ce h F I2 J2 ∧ (∀ k, k ≠ 1 → k ≠ 6 → k ≠ 7 → k ≠ 8 → k ≠ 9 → J2 k = J k) ∧ (∀ k, k ≠ 1 → k ≠ 2 → k ≠ 3 → I2 k = I k) ∧ (DGok (I2 2)) ∧ ((∀ q : Int, 1 ≤ q → q < 49 → J 5 (fr + q).toNat = 0) → I2 1 = I 1) ∧ ((∃ q : Int, 1 ≤ q ∧ q < 49 ∧ J 5 (fr + q).toNat ≠ 0) → I2 1 0 = 1 ∧ TE (fun i => J 5 (fr.toNat + i)) (J2 1) (I2 2 0)) ∧ (I2 1 1 = I 1 1))) := by
  refine Ct.ofV (by decide) (Nat.le_of_ble_eq_true rfl) ?_
  intro p e s m args below meth c A Q hX hnm hR
  refine Z.pick (lv' := [(0, .ref (h 0)), (1, .int (zI 0)), (2, .int (zI fr))]) [0, 1, 2] rfl ?_
  refine Z.lconst (v := 0) hX dX7_tell_0 rfl ?_
  refine Z.lstore_n (lv' := [(3, .long 0), (0, .ref (h 0)), (1, .int (zI 0)), (2, .int (zI fr))]) hX dX7_tell_1 rfl (by decide) rfl ?_
  refine Z.iconst hX dX7_tell_2 ?_
  refine Z.istore (lv' := [(5, .int (zI 0)), (3, .long 0), (0, .ref (h 0)), (1, .int (zI 0)), (2, .int (zI fr))]) hX dX7_tell_3 (by decide) rfl ?_
  have key_5 : ∀ (N : Nat), ∀ (i : Int) (x : Int64) (M : Nat → Nat → Int64), (49 - i).toNat < N → (hi : 0 ≤ i ∧ i ≤ 49) → (hx : CGr (M 6) i.toNat x) → (hw : ∀ q : Int, 0 ≤ q → q < i → M 6 q.toNat = J 5 (fr + q).toNat) → (hM : ∀ k, k ≠ 1 → k ≠ 6 → k ≠ 7 → k ≠ 8 → k ≠ 9 → M k = J k) → Z p l e { frames := 3, cells := 0, slots := 0, locals := 93 } s m args below meth c D A 9 0 0 Q 5 [(5, .int (zI i)), (3, .long x), (2, .int (zI fr)), (1, .int (zI 0)), (0, .ref (h 0))] [] (rW ce h F I M) := by
    intro N
    induction N with
    | zero => intro i x M hm; exact absurd hm (Nat.not_lt_zero _)
    | succ N ih_5 =>
      intro i x M hm hi hx hw hM
      refine Z.iload hX dX7_tell_5 rfl ?_
      refine Z.bipush hX dX7_tell_7 (by decide) ?_
      refine Z.icmp_ge hX 46 dX7_tell_9 (by decide) ⟨by omega, by omega⟩ ⟨by omega, by omega⟩ ?_ ?_
      · intro c1
        refine Z.aload_n hX dX7_tell_46 rfl rfl ?_
        have hw49 : ∀ q : Int, 0 ≤ q → q < 49 → M 6 q.toNat = J 5 (fr + q).toNat := fun q a b => hw q a (by omega)
        have hn49 : ∀ q : Int, 0 ≤ q → q < 49 → M 6 q.toNat = (fun i => J 5 (fr.toNat + i)) q.toNat := fun q a b => (hw49 q a b).trans (by show _ = J 5 (fr.toNat + q.toNat); congr 1; omega)
        have hs49 : sz60 (M 6) := fun q a b => by rw [hn49 q a b]; exact hsz q a b
        have hsu6 : SU (M 6) 6 := SU_c rfl hn49 hs6
        have hx49 : CGr (M 6) 49 x := (show i.toNat = 49 by omega) ▸ hx
        refine Z.getf hX 7 0 13 dX7_tell_47 rfl rfl inX7 (by decide) fl_X7_42 rfl rfl ?_
        refine Z.callS1i (As := [.ref (h 11)]) (rest := []) hX 11 rfl (ct_X7_degree2 l D ce ((h 11)) (M 6) ) mc_X7_degree2 ml_X7_105 st_X7_degree2 ini_X7 nd_X7_degree2 ⟨Nat.le_of_ble_eq_true rfl, Nat.le_of_ble_eq_true rfl⟩ ⟨rfl, rfl⟩ ⟨Nat.le_refl _, Nat.le_refl _⟩ rfl (Nat.le_of_ble_eq_true rfl) dX7_tell_50 ?_
        rintro r_2 w1 ⟨d, hr_, hw_, d1, d2, d3⟩
        subst hr_
        refine ⟨_, hw_, ?_⟩
        refine Z.toW (w' := rW ce h F I M) rfl ?_
        refine Z.istore (lv' := [(5, .int (zI d)), (3, .long x), (2, .int (zI fr)), (1, .int (zI 0)), (0, .ref (h 0))]) hX dX7_tell_53 (by decide) rfl ?_
        refine Z.iload hX dX7_tell_55 rfl ?_
        refine Z.iconst hX dX7_tell_57 ?_
        refine Z.icmp_ge hX 62 dX7_tell_58 (by decide) ⟨by omega, by omega⟩ ⟨by omega, by omega⟩ ?_ ?_
        · intro c3
          refine Z.aload_n hX dX7_tell_62 rfl rfl ?_
          refine Z.getf hX 7 0 13 dX7_tell_63 rfl rfl inX7 (by decide) fl_X7_42 rfl rfl ?_
          refine Z.callS1i (As := [.ref (h 11)]) (rest := []) hX 11 rfl (ct_X7_firstOf_y l D ce ((h 11)) (M 6) ) mc_X7_firstOf ml_X7_108 st_X7_firstOf ini_X7 nd_X7_firstOf ⟨Nat.le_of_ble_eq_true rfl, Nat.le_of_ble_eq_true rfl⟩ ⟨rfl, rfl⟩ ⟨Nat.le_refl _, Nat.le_refl _⟩ rfl (Nat.le_of_ble_eq_true rfl) dX7_tell_66 ?_
          rintro r_4 w1 ⟨fi, hr_, hw_, hfi⟩
          subst hr_
          refine ⟨_, hw_, ?_⟩
          refine Z.toW (w' := rW ce h F I M) rfl ?_
          refine Z.istore (lv' := [(6, .int (zI fi)), (5, .int (zI d)), (3, .long x), (2, .int (zI fr)), (1, .int (zI 0)), (0, .ref (h 0))]) hX dX7_tell_69 (by decide) rfl ?_
          obtain ⟨hf1, hf2, hf3, hf4⟩ := fo_y hfi d2 (by omega) d3
          have hx0 : ¬ x = 0 := sz_x hs49 hx49 (by omega) hf3
          have hd6 : d ≤ 6 := d2_6 d2 (by omega) hsu6
          have key_89 : ∀ (y : Int64), (hy0 : ¬ y = 0) → (hys : y = x ∨ y = -x) → Z p l e { frames := 3, cells := 0, slots := 0, locals := 93 } s m args below meth c D A 9 0 0 Q 89 [(6, .int (zI fi)), (5, .int (zI d)), (1, .int (zI 0)), (0, .ref (h 0))] [.long y] (rW ce h F I M) := by
            intro y hy0 hys
            refine Z.lstore_n (lv' := [(3, .long y), (6, .int (zI fi)), (5, .int (zI d)), (1, .int (zI 0)), (0, .ref (h 0))]) hX dX7_tell_89 rfl (by decide) rfl ?_
            refine Z.iconst hX dX7_tell_90 ?_
            refine Z.istore (lv' := [(7, .int (zI 0)), (3, .long y), (6, .int (zI fi)), (5, .int (zI d)), (1, .int (zI 0)), (0, .ref (h 0))]) hX dX7_tell_91 (by decide) rfl ?_
            have key_93 : ∀ (N : Nat), ∀ (iv : Int) (Mv : Nat → Nat → Int64), (49 - iv).toNat < N → (hiv : 0 ≤ iv ∧ iv ≤ 49) → (hM : ∀ k, k ≠ 1 → k ≠ 6 → k ≠ 7 → k ≠ 8 → k ≠ 9 → Mv k = J k) → (hdv : ∀ q : Int, 0 ≤ q → q < 49 → Mv 6 q.toNat = if q < iv then M 6 q.toNat / y else M 6 q.toNat) → Z p l e { frames := 3, cells := 0, slots := 0, locals := 93 } s m args below meth c D A 9 0 0 Q 93 [(7, .int (zI iv)), (6, .int (zI fi)), (5, .int (zI d)), (3, .long y), (1, .int (zI 0)), (0, .ref (h 0))] [] (rW ce h F I Mv) := by
              intro N
              induction N with
              | zero => intro iv Mv hm; exact absurd hm (Nat.not_lt_zero _)
              | succ N ih_93 =>
                intro iv Mv hm hiv hM hdv
                refine Z.iload hX dX7_tell_93 rfl ?_
                refine Z.bipush hX dX7_tell_95 (by decide) ?_
                refine Z.icmp_ge hX 117 dX7_tell_97 (by decide) ⟨by omega, by omega⟩ ⟨by omega, by omega⟩ ?_ ?_
                · intro c5
                  have key_144 : ∀ (k : Int) (Mt : Nat → Nat → Int64), (hk : 1 ≤ k ∧ k ≤ d) → (hM : ∀ k, k ≠ 1 → k ≠ 6 → k ≠ 7 → k ≠ 8 → k ≠ 9 → Mt k = J k) → (h6 : Mt 6 = Mv 6) → (hrt : k = 1 ∨ (2 ≤ k ∧ PWy (Mt 7) (Mv 6) k d)) → Z p l e { frames := 3, cells := 0, slots := 0, locals := 93 } s m args below meth c D A 9 0 0 Q 144 [(7, .int (zI k)), (5, .int (zI d)), (1, .int (zI 0)), (0, .ref (h 0))] [] (rW ce h F I Mt) := by
                    intro k Mt hk hM h6 hrt
                    refine Z.aload_n hX dX7_tell_144 rfl rfl ?_
                    refine Z.getf hX 7 0 5 dX7_tell_145 rfl rfl inX7 (by decide) fl_X7_17 rfl rfl ?_
                    refine Z.iload_n hX dX7_tell_148 rfl rfl ?_
                    refine Z.iconst hX dX7_tell_149 ?_
                    refine Z.zastore hX 3 2 dX7_tell_150 rfl rfl (by omega) (by omega) (by decide) ?_
                    obtain ⟨I6, eI6⟩ : ∃ J' : Nat → Nat → Int32, J' = va_up I 1 (upd (I 1) (0 : Int).toNat (vp_nar .boolean (zI (1)))) := ⟨_, rfl⟩
                    refine Z.toW (w' := rW ce h F I6 Mt) (by rw [eI6]; rfl) ?_
                    have gI6 : I6 1 = upd (I 1) (0 : Int).toNat (vp_nar .boolean (zI (1))) := by rw [eI6]; exact up_eq
                    have fI6 : ∀ j_, j_ ≠ 1 → I6 j_ = I j_ := fun j_ hj_ => by rw [eI6]; exact up_ne hj_
                    refine Z.aload_n hX dX7_tell_151 rfl rfl ?_
                    refine Z.getf hX 7 0 8 dX7_tell_152 rfl rfl inX7 (by decide) fl_X7_27 rfl rfl ?_
                    refine Z.iload_n hX dX7_tell_155 rfl rfl ?_
                    refine Z.iload hX dX7_tell_156 rfl ?_
                    refine Z.iastore hX 6 0 dX7_tell_158 rfl rfl (by omega) (by omega) (by decide) ?_
                    obtain ⟨I7, eI7⟩ : ∃ J' : Nat → Nat → Int32, J' = va_up I6 3 (upd (I6 3) (0 : Int).toNat (zI (k))) := ⟨_, rfl⟩
                    refine Z.toW (w' := rW ce h F I7 Mt) (by rw [eI7]; rfl) ?_
                    have gI7 : I7 3 = upd (I6 3) (0 : Int).toNat (zI (k)) := by rw [eI7]; exact up_eq
                    have fI7 : ∀ j_, j_ ≠ 3 → I7 j_ = I6 j_ := fun j_ hj_ => by rw [eI7]; exact up_ne hj_
                    refine Z.aload_n hX dX7_tell_159 rfl rfl ?_
                    refine Z.getf hX 7 0 7 dX7_tell_160 rfl rfl inX7 (by decide) fl_X7_24 rfl rfl ?_
                    refine Z.iload_n hX dX7_tell_163 rfl rfl ?_
                    refine Z.iload hX dX7_tell_164 rfl ?_
                    refine Z.iload hX dX7_tell_166 rfl ?_
                    refine Z.idiv hX dX7_tell_168 (by omega) (by omega) (by omega) (by omega) ?_
                    refine Z.iastore hX 5 0 dX7_tell_169 rfl rfl (by omega) (by omega) (by decide) ?_
                    obtain ⟨I8, eI8⟩ : ∃ J' : Nat → Nat → Int32, J' = va_up I7 2 (upd (I7 2) (0 : Int).toNat (zI (d / k))) := ⟨_, rfl⟩
                    refine Z.toW (w' := rW ce h F I8 Mt) (by rw [eI8]; rfl) ?_
                    have gI8 : I8 2 = upd (I7 2) (0 : Int).toNat (zI (d / k)) := by rw [eI8]; exact up_eq
                    have fI8 : ∀ j_, j_ ≠ 2 → I8 j_ = I7 j_ := fun j_ hj_ => by rw [eI8]; exact up_ne hj_
                    have hdgN : DGok (I8 2) := DG_s (k := 0) hdg (by omega) hk (by omega) (by rw [gI8, fI7 2 (by decide), fI6 2 (by decide)])
                    have hI1 : I8 1 0 = 1 := by rw [fI8 1 (by decide), fI7 1 (by decide), gI6]; exact if_pos rfl
                    have hI2 : I8 2 0 = zI (d / k) := by rw [gI8]; exact if_pos rfl
                    have hI11 : I8 1 1 = I 1 1 := by rw [fI8 1 (by decide), fI7 1 (by decide), gI6]; exact if_neg (by decide)
                    refine Z.iconst hX dX7_tell_170 ?_
                    refine Z.istore (lv' := [(8, .int (zI 0)), (7, .int (zI k)), (5, .int (zI d)), (1, .int (zI 0)), (0, .ref (h 0))]) hX dX7_tell_171 (by decide) rfl ?_
                    have key_173 : ∀ (N : Nat), ∀ (iv : Int) (Mr : Nat → Nat → Int64), (49 - iv).toNat < N → (hi2 : 0 ≤ iv ∧ iv ≤ 49) → (hM : ∀ k, k ≠ 1 → k ≠ 6 → k ≠ 7 → k ≠ 8 → k ≠ 9 → Mr k = J k) → (htr : ∀ q : Int, 0 ≤ q → q < iv → Mr 1 q.toNat = if 1 < k then Mt 7 q.toNat else Mt 6 q.toNat) → (h67 : Mr 6 = Mt 6 ∧ Mr 7 = Mt 7) → Z p l e { frames := 3, cells := 0, slots := 0, locals := 93 } s m args below meth c D A 9 0 0 Q 173 [(8, .int (zI iv)), (7, .int (zI k)), (1, .int (zI 0)), (0, .ref (h 0))] [] (rW ce h F I8 Mr) := by
                      intro N
                      induction N with
                      | zero => intro iv Mr hm; exact absurd hm (Nat.not_lt_zero _)
                      | succ N ih_173 =>
                        intro iv Mr hm hi2 hM htr h67
                        refine Z.iload hX dX7_tell_173 rfl ?_
                        refine Z.bipush hX dX7_tell_175 (by decide) ?_
                        refine Z.icmp_ge hX 221 dX7_tell_177 (by decide) ⟨by omega, by omega⟩ ⟨by omega, by omega⟩ ?_ ?_
                        · intro c9
                          exact hR _ _ _ dX7_tell_221 ⟨I8, Mr, rfl, (fun j_ h_1 h_6 h_7 h_8 h_9 => (hM j_ h_1 h_6 h_7 h_8 h_9)), (fun j_ h_1 h_2 h_3 => ((fI8 j_ h_2).trans ((fI7 j_ h_3).trans ((fI6 j_ h_1).trans rfl)))), hdgN, (fun hq => by obtain ⟨q, q1, q2, q3⟩ := te_1 (by omega) d2; exact absurd ((hw49 q (by omega) q2).trans (hq q q1 q2)) q3), (fun _ => ⟨hI1, te_end hs49 hx49 hy0 hys (f := Mt 6) (fun q a b => by rw [h6, hdv q a b, if_pos (by omega)]) (by omega) d2 d3 hk.1 hI2 (by rw [h6]; exact hrt) (fun q a b => htr q a (by omega)) hn49⟩), hI11⟩
                        · intro c9
                          refine Z.aload_n hX dX7_tell_180 rfl rfl ?_
                          refine Z.getf hX 7 0 6 dX7_tell_181 rfl rfl inX7 (by decide) fl_X7_21 rfl rfl ?_
                          refine Z.bipush hX dX7_tell_184 (by decide) ?_
                          refine Z.iload_n hX dX7_tell_186 rfl rfl ?_
                          refine Z.imul hX dX7_tell_187 ?_
                          refine Z.iload hX dX7_tell_188 rfl ?_
                          refine Z.iadd hX dX7_tell_190 ?_
                          refine Z.iload hX dX7_tell_191 rfl ?_
                          refine Z.iconst hX dX7_tell_193 ?_
                          refine Z.icmp_le hX 207 dX7_tell_194 (by decide) ⟨by omega, by omega⟩ ⟨by omega, by omega⟩ ?_ ?_
                          · intro c10
                            refine Z.aload_n hX dX7_tell_207 rfl rfl ?_
                            refine Z.getf hX 7 0 13 dX7_tell_208 rfl rfl inX7 (by decide) fl_X7_42 rfl rfl ?_
                            refine Z.iload hX dX7_tell_211 rfl ?_
                            refine Z.laload hX 11 1 dX7_tell_213 rfl rfl (by omega) (by omega) (by decide) ?_
                            refine Z.lastore hX 4 1 dX7_tell_214 rfl rfl (by omega) (by omega) (by decide) ?_
                            obtain ⟨J11, eJ11⟩ : ∃ J' : Nat → Nat → Int64, J' = va_up Mr 1 (vp_updL (Mr 1) ((49 * 0) + iv : Int).toNat (Mr 6 (iv : Int).toNat)) := ⟨_, rfl⟩
                            refine Z.toW (w' := rW ce h F I8 J11) (by rw [eJ11]; rfl) ?_
                            have gJ11 : J11 1 = vp_updL (Mr 1) ((49 * 0) + iv : Int).toNat (Mr 6 (iv : Int).toNat) := by rw [eJ11]; exact up_eq
                            have fJ11 : ∀ j_, j_ ≠ 1 → J11 j_ = Mr j_ := fun j_ hj_ => by rw [eJ11]; exact up_ne hj_
                            refine Z.iinc (lv' := [(8, .int (zI (iv + 1))), (7, .int (zI k)), (1, .int (zI 0)), (0, .ref (h 0))]) hX dX7_tell_215 rfl (by decide) rfl ?_
                            refine Z.goto hX 173 dX7_tell_218 (by decide) ?_
                            refine Z.pick [0, 1, 2, 3] rfl ?_
                            exact ih_173 _ _ (by omega) (by omega) (fun j_ h_1 h_6 h_7 h_8 h_9 => ((fJ11 j_ h_1).trans (hM j_ h_1 h_6 h_7 h_8 h_9))) (tr_s hi2.1 (by rw [gJ11, show 49 * 0 + iv = iv by omega]) (by first | exact (by rw [if_pos (by omega), h67.2]) | exact (by rw [if_neg (by omega), h67.1])) htr) ⟨(fJ11 6 (by decide)).trans h67.1, (fJ11 7 (by decide)).trans h67.2⟩
                          · intro c10
                            refine Z.aload_n hX dX7_tell_197 rfl rfl ?_
                            refine Z.getf hX 7 0 14 dX7_tell_198 rfl rfl inX7 (by decide) fl_X7_45 rfl rfl ?_
                            refine Z.iload hX dX7_tell_201 rfl ?_
                            refine Z.laload hX 12 1 dX7_tell_203 rfl rfl (by omega) (by omega) (by decide) ?_
                            refine Z.goto hX 214 dX7_tell_204 (by decide) ?_
                            refine Z.lastore hX 4 1 dX7_tell_214 rfl rfl (by omega) (by omega) (by decide) ?_
                            obtain ⟨J12, eJ12⟩ : ∃ J' : Nat → Nat → Int64, J' = va_up Mr 1 (vp_updL (Mr 1) ((49 * 0) + iv : Int).toNat (Mr 7 (iv : Int).toNat)) := ⟨_, rfl⟩
                            refine Z.toW (w' := rW ce h F I8 J12) (by rw [eJ12]; rfl) ?_
                            have gJ12 : J12 1 = vp_updL (Mr 1) ((49 * 0) + iv : Int).toNat (Mr 7 (iv : Int).toNat) := by rw [eJ12]; exact up_eq
                            have fJ12 : ∀ j_, j_ ≠ 1 → J12 j_ = Mr j_ := fun j_ hj_ => by rw [eJ12]; exact up_ne hj_
                            refine Z.iinc (lv' := [(8, .int (zI (iv + 1))), (7, .int (zI k)), (1, .int (zI 0)), (0, .ref (h 0))]) hX dX7_tell_215 rfl (by decide) rfl ?_
                            refine Z.goto hX 173 dX7_tell_218 (by decide) ?_
                            refine Z.pick [0, 1, 2, 3] rfl ?_
                            exact ih_173 _ _ (by omega) (by omega) (fun j_ h_1 h_6 h_7 h_8 h_9 => ((fJ12 j_ h_1).trans (hM j_ h_1 h_6 h_7 h_8 h_9))) (tr_s hi2.1 (by rw [gJ12, show 49 * 0 + iv = iv by omega]) (by first | exact (by rw [if_pos (by omega), h67.2]) | exact (by rw [if_neg (by omega), h67.1])) htr) ⟨(fJ12 6 (by decide)).trans h67.1, (fJ12 7 (by decide)).trans h67.2⟩
                    refine Z.pick [0, 1, 3, 4] rfl ?_
                    exact key_173 _ _ _ (Nat.lt_succ_self _) (by omega) (fun j_ h_1 h_6 h_7 h_8 h_9 => (hM j_ h_1 h_6 h_7 h_8 h_9)) (fun q a b => by omega) ⟨rfl, rfl⟩
                  refine Z.iload hX dX7_tell_117 rfl ?_
                  refine Z.istore (lv' := [(7, .int (zI d)), (6, .int (zI fi)), (5, .int (zI d)), (3, .long y), (1, .int (zI 0)), (0, .ref (h 0))]) hX dX7_tell_119 (by decide) rfl ?_
                  have key_121 : ∀ (N : Nat), ∀ (k : Int) (Mk : Nat → Nat → Int64), k.toNat < N → (hk : 1 ≤ k ∧ k ≤ d) → (hM : ∀ k, k ≠ 1 → k ≠ 6 → k ≠ 7 → k ≠ 8 → k ≠ 9 → Mk k = J k) → (h6 : Mk 6 = Mv 6) → Z p l e { frames := 3, cells := 0, slots := 0, locals := 93 } s m args below meth c D A 9 0 0 Q 121 [(7, .int (zI k)), (6, .int (zI fi)), (5, .int (zI d)), (1, .int (zI 0)), (0, .ref (h 0))] [] (rW ce h F I Mk) := by
                    intro N
                    induction N with
                    | zero => intro k Mk hm; exact absurd hm (Nat.not_lt_zero _)
                    | succ N ih_121 =>
                      intro k Mk hm hk hM h6
                      refine Z.iload hX dX7_tell_121 rfl ?_
                      refine Z.iconst hX dX7_tell_123 ?_
                      refine Z.icmp_le hX 144 dX7_tell_124 (by decide) ⟨by omega, by omega⟩ ⟨by omega, by omega⟩ ?_ ?_
                      · intro c13
                        refine Z.pick [0, 2, 3, 4] rfl ?_
                        exact key_144 _ _ (by omega) (fun j_ h_1 h_6 h_7 h_8 h_9 => (hM j_ h_1 h_6 h_7 h_8 h_9)) h6 (Or.inl (by omega))
                      · intro c13
                        refine Z.aload_n hX dX7_tell_127 rfl rfl ?_
                        refine Z.iload hX dX7_tell_128 rfl ?_
                        refine Z.iload hX dX7_tell_130 rfl ?_
                        refine Z.callVfi (As := [.int (zI k), .int (zI fi)]) (rest := []) hX 7 0 rfl rfl (ct_X7_isPower_y l D ce h F I Mk k fi (by omega) (by omega) (by omega)) mc_X7_isPower ml_X7_111 im_X7_isPower se_X7_isPower ini_X7 nd_X7_isPower ⟨Nat.le_of_ble_eq_true rfl, Nat.le_of_ble_eq_true rfl⟩ ⟨rfl, rfl⟩ ⟨Nat.le_refl _, Nat.le_refl _⟩ rfl (Nat.le_of_ble_eq_true rfl) dX7_tell_132 ?_
                        rintro r_14 w1 ⟨zp, Jp, hr_, hw_, hp1, hp2, hp3⟩
                        subst hr_
                        subst hw_
                        refine Z.if_ne hX 144 dX7_tell_135 (by decide) ⟨by omega, by omega⟩ ?_ ?_
                        · intro c15
                          refine Z.pick [0, 2, 3, 4] rfl ?_
                          exact key_144 _ _ (by omega) (fun j_ h_1 h_6 h_7 h_8 h_9 => ((hp2 j_ h_7 h_8 h_9).trans (hM j_ h_1 h_6 h_7 h_8 h_9))) ((hp2 6 (by decide) (by decide) (by decide)).trans h6) (Or.inr ⟨by omega, by have hp4 := hp3 (by omega); rw [h6, hf4] at hp4; exact hp4⟩)
                        · intro c15
                          refine Z.iinc (lv' := [(7, .int (zI (k + -1))), (6, .int (zI fi)), (5, .int (zI d)), (1, .int (zI 0)), (0, .ref (h 0))]) hX dX7_tell_138 rfl (by decide) rfl ?_
                          refine Z.goto hX 121 dX7_tell_141 (by decide) ?_
                          refine Z.pick [0, 1, 2, 3, 4] rfl ?_
                          exact ih_121 _ _ (by omega) (by omega) (fun j_ h_1 h_6 h_7 h_8 h_9 => ((hp2 j_ h_7 h_8 h_9).trans (hM j_ h_1 h_6 h_7 h_8 h_9))) ((hp2 6 (by decide) (by decide) (by decide)).trans h6)
                  refine Z.pick [0, 1, 2, 4, 5] rfl ?_
                  exact key_121 _ _ _ (Nat.lt_succ_self _) (by omega) (fun j_ h_1 h_6 h_7 h_8 h_9 => (hM j_ h_1 h_6 h_7 h_8 h_9)) rfl
                · intro c5
                  refine Z.aload_n hX dX7_tell_100 rfl rfl ?_
                  refine Z.getf hX 7 0 13 dX7_tell_101 rfl rfl inX7 (by decide) fl_X7_42 rfl rfl ?_
                  refine Z.iload hX dX7_tell_104 rfl ?_
                  refine Z.dup2 hX dX7_tell_106 rfl rfl ?_
                  refine Z.laload hX 11 1 dX7_tell_107 rfl rfl (by omega) (by omega) (by decide) ?_
                  refine Z.lload_n hX dX7_tell_108 rfl rfl ?_
                  refine Z.ldiv hX dX7_tell_109 hy0 ?_
                  refine Z.lastore hX 11 1 dX7_tell_110 rfl rfl (by omega) (by omega) (by decide) ?_
                  obtain ⟨J16, eJ16⟩ : ∃ J' : Nat → Nat → Int64, J' = va_up Mv 6 (vp_updL (Mv 6) (iv : Int).toNat ((Mv 6 (iv : Int).toNat) / y)) := ⟨_, rfl⟩
                  refine Z.toW (w' := rW ce h F I J16) (by rw [eJ16]; rfl) ?_
                  have gJ16 : J16 6 = vp_updL (Mv 6) (iv : Int).toNat ((Mv 6 (iv : Int).toNat) / y) := by rw [eJ16]; exact up_eq
                  have fJ16 : ∀ j_, j_ ≠ 6 → J16 j_ = Mv j_ := fun j_ hj_ => by rw [eJ16]; exact up_ne hj_
                  refine Z.iinc (lv' := [(7, .int (zI (iv + 1))), (6, .int (zI fi)), (5, .int (zI d)), (3, .long y), (1, .int (zI 0)), (0, .ref (h 0))]) hX dX7_tell_111 rfl (by decide) rfl ?_
                  refine Z.goto hX 93 dX7_tell_114 (by decide) ?_
                  refine Z.pick [0, 1, 2, 3, 4, 5] rfl ?_
                  exact ih_93 _ _ (by omega) (by omega) (fun j_ h_1 h_6 h_7 h_8 h_9 => ((fJ16 j_ h_6).trans (hM j_ h_1 h_6 h_7 h_8 h_9))) (dv_s hiv.1 (by omega) gJ16 hdv)
            refine Z.pick [0, 2, 3, 1, 4, 5] rfl ?_
            exact key_93 _ _ _ (Nat.lt_succ_self _) (by omega) (fun j_ h_1 h_6 h_7 h_8 h_9 => (hM j_ h_1 h_6 h_7 h_8 h_9)) (fun q a b => (if_neg (by omega)).symm)
          refine Z.aload_n hX dX7_tell_71 rfl rfl ?_
          refine Z.getf hX 7 0 13 dX7_tell_72 rfl rfl inX7 (by decide) fl_X7_42 rfl rfl ?_
          refine Z.iload hX dX7_tell_75 rfl ?_
          refine Z.laload hX 11 1 dX7_tell_77 rfl rfl (by omega) (by omega) (by decide) ?_
          refine Z.lconst (v := 0) hX dX7_tell_78 rfl ?_
          refine Z.lcmp_ge hX 88 dX7_tell_79 dX7_tell_80 (by decide) ?_ ?_
          · intro c17
            refine Z.lload_n hX dX7_tell_88 rfl rfl ?_
            refine Z.pick [0, 1, 4, 5] rfl ?_
            exact key_89 _ hx0 (Or.inl rfl)
          · intro c17
            refine Z.lload_n hX dX7_tell_83 rfl rfl ?_
            refine Z.lneg hX dX7_tell_84 ?_
            refine Z.goto hX 89 dX7_tell_85 (by decide) ?_
            refine Z.pick [0, 1, 4, 5] rfl ?_
            exact key_89 _ (tl_n hx0) (Or.inr rfl)
        · intro c3
          exact hR _ _ _ dX7_tell_61 ⟨I, M, rfl, (fun j_ h_1 h_6 h_7 h_8 h_9 => (hM j_ h_1 h_6 h_7 h_8 h_9)), (fun j_ h_1 h_2 h_3 => rfl), hdg, (fun _ => rfl), (fun hq => by obtain ⟨q, q1, q2, q3⟩ := hq; exact absurd ((hw49 q (by omega) q2).symm.trans (te_0 (by omega) d3 q q1 q2)) q3), rfl⟩
      · intro c1
        refine Z.aload_n hX dX7_tell_12 rfl rfl ?_
        refine Z.getf hX 7 0 13 dX7_tell_13 rfl rfl inX7 (by decide) fl_X7_42 rfl rfl ?_
        refine Z.iload hX dX7_tell_16 rfl ?_
        refine Z.aload_n hX dX7_tell_18 rfl rfl ?_
        refine Z.getf hX 7 0 12 dX7_tell_19 rfl rfl inX7 (by decide) fl_X7_39 rfl rfl ?_
        refine Z.iload_n hX dX7_tell_22 rfl rfl ?_
        refine Z.iload hX dX7_tell_23 rfl ?_
        refine Z.iadd hX dX7_tell_25 ?_
        refine Z.laload hX 10 1 dX7_tell_26 rfl rfl (by omega) (by omega) (by decide) ?_
        refine Z.lastore hX 11 1 dX7_tell_27 rfl rfl (by omega) (by omega) (by decide) ?_
        obtain ⟨J18, eJ18⟩ : ∃ J' : Nat → Nat → Int64, J' = va_up M 6 (vp_updL (M 6) (i : Int).toNat (M 5 (fr + i : Int).toNat)) := ⟨_, rfl⟩
        refine Z.toW (w' := rW ce h F I J18) (by rw [eJ18]; rfl) ?_
        have gJ18 : J18 6 = vp_updL (M 6) (i : Int).toNat (M 5 (fr + i : Int).toNat) := by rw [eJ18]; exact up_eq
        have fJ18 : ∀ j_, j_ ≠ 6 → J18 j_ = M j_ := fun j_ hj_ => by rw [eJ18]; exact up_ne hj_
        refine Z.lload_n hX dX7_tell_28 rfl rfl ?_
        refine Z.aload_n hX dX7_tell_29 rfl rfl ?_
        refine Z.getf hX 7 0 13 dX7_tell_30 rfl rfl inX7 (by decide) fl_X7_42 rfl rfl ?_
        refine Z.iload hX dX7_tell_33 rfl ?_
        refine Z.laload hX 11 1 dX7_tell_35 rfl rfl (by omega) (by omega) (by decide) ?_
        refine Z.callS0l (As := [.long x, .long (J18 6 (i : Int).toNat)]) (rest := []) hX (ct_X7_common_x l D ce x (J18 6 (i : Int).toNat) ) mc_X7_common ml_X7_58 st_X7_common ini_X7 nd_X7_common ⟨Nat.le_of_ble_eq_true rfl, Nat.le_of_ble_eq_true rfl⟩ ⟨rfl, rfl⟩ ⟨Nat.le_refl _, Nat.le_refl _⟩ rfl (Nat.le_of_ble_eq_true rfl) dX7_tell_36 ?_
        rintro cg w1 ⟨r020, hr_, hw_, hcg⟩
        subst hr_
        refine ⟨hw_, ?_⟩
        refine Z.lstore_n (lv' := [(3, .long cg), (5, .int (zI i)), (2, .int (zI fr)), (1, .int (zI 0)), (0, .ref (h 0))]) hX dX7_tell_39 rfl (by decide) rfl ?_
        refine Z.iinc (lv' := [(5, .int (zI (i + 1))), (3, .long cg), (2, .int (zI fr)), (1, .int (zI 0)), (0, .ref (h 0))]) hX dX7_tell_40 rfl (by decide) rfl ?_
        refine Z.goto hX 5 dX7_tell_43 (by decide) ?_
        refine Z.pick [0, 1, 2, 3, 4] rfl ?_
        exact ih_5 _ _ _ (by omega) (by omega) (cgr_u hi.1 gJ18 hx hcg) (wc_s (M := J 5) hi.1 (by rw [← hM 5 (by decide) (by decide) (by decide) (by decide) (by decide)]; exact gJ18) hw) (fun j_ h_1 h_6 h_7 h_8 h_9 => ((fJ18 j_ h_6).trans (hM j_ h_1 h_6 h_7 h_8 h_9)))
  refine Z.pick [0, 1, 4, 3, 2] rfl ?_
  exact key_5 _ _ _ _ (Nat.lt_succ_self _) (by omega) rfl (fun q a b => by omega) (fun j_ h_1 h_6 h_7 h_8 h_9 => rfl)

set_option maxHeartbeats 4000000 in
set_option maxRecDepth 100000 in
theorem ct_X7_locus_z (l : Launch) (D : va_G) (ce : Nat → ClassId) (h : Nat → Nat) (F : Nat → Int) (I : Nat → Nat → Int32) (J : Nat → Nat → Int64) (hF : 1 ≤ F 1 ∧ F 1 ≤ 4) (hdg : DGok (I 2)) (hb : ∀ i, i < 15 → (J 0 i).toInt.natAbs ≤ 105) (hro : RowOK (fI (J 0) 0) (fI (J 0) 1) (fI (J 0) 2) (F 1).toNat) (hW : ∃ i, i < 5 ∧ fI (J 0) 2 i ≠ 0) : Ct l yX7_locus cX7_locus 4 none { frames := 4, cells := 0, slots := 0, locals := 121 } 0 0 D (TY ce) [.ref (h 0)] (rW ce h F I J) (QV D (TY ce) (fun w1 => ∃ I2 : Nat → Nat → Int32, ∃ J2 : Nat → Nat → Int64, w1 = rW ce h F I2 J2 ∧ (∀ k, k ≠ 1 → k ≠ 4 → k ≠ 5 → k ≠ 6 → k ≠ 7 → k ≠ 8 → k ≠ 9 → J2 k = J k) ∧ (∀ k, k ≠ 1 → k ≠ 2 → k ≠ 3 → I2 k = I k) ∧ (DGok (I2 2)) ∧ ((NC (fI (J 0) 0) (fI (J 0) 1) (fI (J 0) 2) (F 1).toNat → I2 1 0 = 1 ∧ TR (fI (J 0) 0) (fI (J 0) 1) (fI (J 0) 2) (F 1).toNat (J2 1) (I2 2 0)) ∧ (¬ NC (fI (J 0) 0) (fI (J 0) 1) (fI (J 0) 2) (F 1).toNat → I2 1 = I 1)) ∧ (I2 1 1 = I 1 1))) := by
  refine Ct.ofV (by decide) (Nat.le_of_ble_eq_true rfl) ?_
  intro p e s m args below meth c A Q hX hnm hR
  refine Z.pick (lv' := [(0, .ref (h 0))]) [0] rfl ?_
  obtain ⟨T, hT, hT1, hT2, hT3, hT4⟩ := sh1y (n := 2 * F 1) (by omega) (by omega)
  refine Z.aload_n hX dX7_locus_0 rfl rfl ?_
  refine Z.getf hX 7 0 3 dX7_locus_1 rfl rfl inX7 (by decide) fl_X7_77 rfl rfl ?_
  refine Z.istore_n (lv' := [(1, .int (zI (F 1))), (0, .ref (h 0))]) hX dX7_locus_4 rfl (by decide) rfl ?_
  refine Z.aload_n hX dX7_locus_5 rfl rfl ?_
  refine Z.callVfv (As := []) (rest := []) hX 7 0 rfl rfl (ct_X7_emptied l D ce h F I J ) mc_X7_emptied ml_X7_90 im_X7_emptied se_X7_emptied ini_X7 nd_X7_emptied ⟨Nat.le_of_ble_eq_true rfl, Nat.le_of_ble_eq_true rfl⟩ ⟨rfl, rfl⟩ ⟨Nat.le_refl _, Nat.le_refl _⟩ rfl (Nat.le_of_ble_eq_true rfl) dX7_locus_6 ?_
  rintro w1 ⟨J22, hw_, hem1, hem2⟩
  subst hw_
  refine Z.iconst hX dX7_locus_9 ?_
  refine Z.istore_n (lv' := [(2, .int (zI 0)), (1, .int (zI (F 1))), (0, .ref (h 0))]) hX dX7_locus_10 rfl (by decide) rfl ?_
  have key_11 : ∀ (N : Nat), ∀ (r : Int) (M : Nat → Nat → Int64), (F 1 - r).toNat < N → (hr : 0 ≤ r ∧ r ≤ F 1) → (hE : EZ (M 4) (F 1) (F 1)) → (hL : LE (M 4) (J 0) (F 1) r 0) → (hM : ∀ k, k ≠ 4 → M k = J k) → Z p l e { frames := 4, cells := 0, slots := 0, locals := 121 } s m args below meth c D A 4 0 0 Q 11 [(2, .int (zI r)), (1, .int (zI (F 1))), (0, .ref (h 0))] [] (rW ce h F I M) := by
    intro N
    induction N with
    | zero => intro r M hm; exact absurd hm (Nat.not_lt_zero _)
    | succ N ih_11 =>
      intro r M hm hr hE hL hM
      refine Z.iload_n hX dX7_locus_11 rfl rfl ?_
      refine Z.iload_n hX dX7_locus_12 rfl rfl ?_
      refine Z.icmp_ge hX 93 dX7_locus_13 (by decide) ⟨by omega, by omega⟩ ⟨by omega, by omega⟩ ?_ ?_
      · intro c3
        refine Z.aload_n hX dX7_locus_93 rfl rfl ?_
        refine Z.iconst hX dX7_locus_94 ?_
        refine Z.iload_n hX dX7_locus_95 rfl rfl ?_
        refine Z.imul hX dX7_locus_96 ?_
        refine Z.callVfv (As := [.int (zI (2 * (F 1)))]) (rest := []) hX 7 0 rfl rfl (ct_X7_minorsOf_y l D ce h F I M (2 * (F 1)) (F 1) (F 1) (by omega) (by omega) hE) mc_X7_minorsOf ml_X7_97 im_X7_minorsOf se_X7_minorsOf ini_X7 nd_X7_minorsOf ⟨Nat.le_of_ble_eq_true rfl, Nat.le_of_ble_eq_true rfl⟩ ⟨rfl, rfl⟩ ⟨Nat.le_refl _, Nat.le_refl _⟩ rfl (Nat.le_of_ble_eq_true rfl) dX7_locus_97 ?_
        rintro w1 ⟨Jm, hw_, hm1, hm2, hm3⟩
        subst hw_
        have hcg := lo_cg (m := Jm 5) (fr := 49 * (T - 1)) (by omega) (show r = F 1 by omega) hb hL hm2 (by rw [← hT4]; omega)
        obtain ⟨hev, hsz, hsn⟩ := sl_ex (by omega) (by omega) hro sg1_e hcg
        refine Z.aload_n hX dX7_locus_100 rfl rfl ?_
        refine Z.iconst hX dX7_locus_101 ?_
        refine Z.bipush hX dX7_locus_102 (by decide) ?_
        refine Z.iconst hX dX7_locus_104 ?_
        refine Z.iconst hX dX7_locus_105 ?_
        refine Z.iload_n hX dX7_locus_106 rfl rfl ?_
        refine Z.imul hX dX7_locus_107 ?_
        refine Z.ishl hX dX7_locus_108 ?_
        refine Z.vali (y := zI T) hT ?_
        refine Z.iconst hX dX7_locus_109 ?_
        refine Z.isub hX dX7_locus_110 ?_
        refine Z.imul hX dX7_locus_111 ?_
        refine Z.callVfv (As := [.int (zI 0), .int (zI (49 * (T - 1)))]) (rest := []) hX 7 0 rfl rfl (ct_X7_tell_0z l D ce h F I Jm (49 * (T - 1)) (by omega) hdg hsz (fun q a b c => hsn q a b (by omega))) mc_X7_tell ml_X7_101 im_X7_tell se_X7_tell ini_X7 nd_X7_tell ⟨Nat.le_of_ble_eq_true rfl, Nat.le_of_ble_eq_true rfl⟩ ⟨rfl, rfl⟩ ⟨Nat.le_refl _, Nat.le_refl _⟩ rfl (Nat.le_of_ble_eq_true rfl) dX7_locus_112 ?_
        rintro w1 ⟨It, Jt, hw_, ht1, ht2, hdgZ, ht4, ht5, ht6⟩
        subst hw_
        exact hR _ _ _ dX7_locus_115 ⟨It, Jt, rfl, (fun j_ h_1 h_4 h_5 h_6 h_7 h_8 h_9 => ((ht1 j_ h_1 h_6 h_7 h_8 h_9).trans ((hm1 j_ h_5).trans (hM j_ h_4)))), (fun j_ h_1 h_2 h_3 => ((ht2 j_ h_1 h_2 h_3).trans rfl)), hdgZ, (lo_fin (by omega) (by omega) hro hW sg1_e (by omega) hcg ht4 ht5), ht6⟩
      · intro c3
        refine Z.iconst hX dX7_locus_16 ?_
        refine Z.istore_n (lv' := [(3, .int (zI 0)), (2, .int (zI r)), (1, .int (zI (F 1))), (0, .ref (h 0))]) hX dX7_locus_17 rfl (by decide) rfl ?_
        have key_18 : ∀ (N : Nat), ∀ (k : Int) (M : Nat → Nat → Int64), (F 1 + 1 - k).toNat < N → (hk : 0 ≤ k ∧ k ≤ F 1 + 1) → (hE : EZ (M 4) (F 1) (F 1)) → (hL : LE (M 4) (J 0) (F 1) r k) → (hM : ∀ k, k ≠ 4 → M k = J k) → Z p l e { frames := 4, cells := 0, slots := 0, locals := 121 } s m args below meth c D A 4 0 0 Q 18 [(3, .int (zI k)), (2, .int (zI r)), (1, .int (zI (F 1))), (0, .ref (h 0))] [] (rW ce h F I M) := by
          intro N
          induction N with
          | zero => intro k M hm; exact absurd hm (Nat.not_lt_zero _)
          | succ N ih_18 =>
            intro k M hm hk hE hL hM
            refine Z.iload_n hX dX7_locus_18 rfl rfl ?_
            refine Z.iload_n hX dX7_locus_19 rfl rfl ?_
            refine Z.icmp_gt hX 87 dX7_locus_20 (by decide) ⟨by omega, by omega⟩ ⟨by omega, by omega⟩ ?_ ?_
            · intro c6
              refine Z.iinc (lv' := [(2, .int (zI (r + 1))), (3, .int (zI k)), (1, .int (zI (F 1))), (0, .ref (h 0))]) hX dX7_locus_87 rfl (by decide) rfl ?_
              refine Z.goto hX 11 dX7_locus_90 (by decide) ?_
              refine Z.pick [0, 2, 3] rfl ?_
              exact ih_11 _ _ (by omega) (by omega) hE (LE_r (by omega) hL) (fun j_ h_4 => (hM j_ h_4))
            · intro c6
              refine Z.aload_n hX dX7_locus_23 rfl rfl ?_
              refine Z.iload_n hX dX7_locus_24 rfl rfl ?_
              refine Z.iload_n hX dX7_locus_25 rfl rfl ?_
              refine Z.iload_n hX dX7_locus_26 rfl rfl ?_
              refine Z.iadd hX dX7_locus_27 ?_
              refine Z.iload_n hX dX7_locus_28 rfl rfl ?_
              refine Z.isub hX dX7_locus_29 ?_
              refine Z.aload_n hX dX7_locus_30 rfl rfl ?_
              refine Z.getf hX 7 0 1 dX7_locus_31 rfl rfl inX7 (by decide) fl_X7_13 rfl rfl ?_
              refine Z.iload_n hX dX7_locus_34 rfl rfl ?_
              refine Z.laload hX 2 1 dX7_locus_35 rfl rfl (by omega) (by omega) (by decide) ?_
              refine Z.aload_n hX dX7_locus_36 rfl rfl ?_
              refine Z.getf hX 7 0 1 dX7_locus_37 rfl rfl inX7 (by decide) fl_X7_13 rfl rfl ?_
              refine Z.bipush hX dX7_locus_40 (by decide) ?_
              refine Z.iload_n hX dX7_locus_42 rfl rfl ?_
              refine Z.iadd hX dX7_locus_43 ?_
              refine Z.laload hX 2 1 dX7_locus_44 rfl rfl (by omega) (by omega) (by decide) ?_
              refine Z.lneg hX dX7_locus_45 ?_
              refine Z.lconst (v := 0) hX dX7_locus_46 rfl ?_
              refine Z.callVfv (As := [.int (zI r), .int (zI ((r + (F 1)) - k)), .long (M 0 (k : Int).toNat), .long (-(M 0 (10 + k : Int).toNat)), .long 0]) (rest := []) hX 7 0 rfl rfl (ct_X7_entry l D ce h F I M r ((r + (F 1)) - k) (M 0 (k : Int).toNat) (-(M 0 (10 + k : Int).toNat)) 0 (by omega) (by omega)) mc_X7_entry ml_X7_93 im_X7_entry se_X7_entry ini_X7 nd_X7_entry ⟨Nat.le_of_ble_eq_true rfl, Nat.le_of_ble_eq_true rfl⟩ ⟨rfl, rfl⟩ ⟨Nat.le_refl _, Nat.le_refl _⟩ rfl (Nat.le_of_ble_eq_true rfl) dX7_locus_47 ?_
              rintro w1 ⟨Ja, hw_, ha1, ha2⟩
              subst hw_
              have hEa : EZ (Ja 4) (F 1) (F 1) := EZ_s (by omega) (by omega) (fun q => by omega) (fun _ => rfl) hE ha2
              refine Z.aload_n hX dX7_locus_50 rfl rfl ?_
              refine Z.iload_n hX dX7_locus_51 rfl rfl ?_
              refine Z.iload_n hX dX7_locus_52 rfl rfl ?_
              refine Z.iadd hX dX7_locus_53 ?_
              refine Z.iload_n hX dX7_locus_54 rfl rfl ?_
              refine Z.iload_n hX dX7_locus_55 rfl rfl ?_
              refine Z.iadd hX dX7_locus_56 ?_
              refine Z.iload_n hX dX7_locus_57 rfl rfl ?_
              refine Z.isub hX dX7_locus_58 ?_
              refine Z.aload_n hX dX7_locus_59 rfl rfl ?_
              refine Z.getf hX 7 0 1 dX7_locus_60 rfl rfl inX7 (by decide) fl_X7_13 rfl rfl ?_
              refine Z.iconst hX dX7_locus_63 ?_
              refine Z.iload_n hX dX7_locus_64 rfl rfl ?_
              refine Z.iadd hX dX7_locus_65 ?_
              refine Z.laload hX 2 1 dX7_locus_66 rfl rfl (by omega) (by omega) (by decide) ?_
              refine Z.lconst (v := 0) hX dX7_locus_67 rfl ?_
              refine Z.aload_n hX dX7_locus_68 rfl rfl ?_
              refine Z.getf hX 7 0 1 dX7_locus_69 rfl rfl inX7 (by decide) fl_X7_13 rfl rfl ?_
              refine Z.bipush hX dX7_locus_72 (by decide) ?_
              refine Z.iload_n hX dX7_locus_74 rfl rfl ?_
              refine Z.iadd hX dX7_locus_75 ?_
              refine Z.laload hX 2 1 dX7_locus_76 rfl rfl (by omega) (by omega) (by decide) ?_
              refine Z.lneg hX dX7_locus_77 ?_
              refine Z.callVfv (As := [.int (zI ((F 1) + r)), .int (zI ((r + (F 1)) - k)), .long (Ja 0 (5 + k : Int).toNat), .long 0, .long (-(Ja 0 (10 + k : Int).toNat))]) (rest := []) hX 7 0 rfl rfl (ct_X7_entry l D ce h F I Ja ((F 1) + r) ((r + (F 1)) - k) (Ja 0 (5 + k : Int).toNat) 0 (-(Ja 0 (10 + k : Int).toNat)) (by omega) (by omega)) mc_X7_entry ml_X7_93 im_X7_entry se_X7_entry ini_X7 nd_X7_entry ⟨Nat.le_of_ble_eq_true rfl, Nat.le_of_ble_eq_true rfl⟩ ⟨rfl, rfl⟩ ⟨Nat.le_refl _, Nat.le_refl _⟩ rfl (Nat.le_of_ble_eq_true rfl) dX7_locus_78 ?_
              rintro w1 ⟨Jb, hw_, hb1, hb2⟩
              subst hw_
              have hEb : EZ (Jb 4) (F 1) (F 1) := EZ_s (by omega) (by omega) (fun _ => rfl) (fun q => by omega) hEa hb2
              have hLb : LE (Jb 4) (J 0) (F 1) r (k + 1) := LE_s (E := M 4) (Ea := Ja 4) (by omega) (by omega) (by omega) (by rw [← hM 0 (by decide)]; exact ha2) (by rw [← hM 0 (by decide), ← ha1 0 (by decide)]; exact hb2) hL
              refine Z.iinc (lv' := [(3, .int (zI (k + 1))), (2, .int (zI r)), (1, .int (zI (F 1))), (0, .ref (h 0))]) hX dX7_locus_81 rfl (by decide) rfl ?_
              refine Z.goto hX 18 dX7_locus_84 (by decide) ?_
              refine Z.pick [0, 1, 2, 3] rfl ?_
              exact ih_18 _ _ (by omega) (by omega) hEb hLb (fun j_ h_4 => ((hb1 j_ h_4).trans ((ha1 j_ h_4).trans (hM j_ h_4))))
        refine Z.pick [0, 1, 2, 3] rfl ?_
        exact key_18 _ _ _ (Nat.lt_succ_self _) (by omega) hE hL (fun j_ h_4 => (hM j_ h_4))
  refine Z.pick [0, 1, 2] rfl ?_
  exact key_11 _ _ _ (Nat.lt_succ_self _) (by omega) (EZ_0 hem2 _ _) (LE_0 hem2) (fun j_ h_4 => ((hem1 j_ h_4).trans rfl))

set_option maxHeartbeats 4000000 in
set_option maxRecDepth 100000 in
theorem ct_X7_envelope_z (l : Launch) (D : va_G) (ce : Nat → ClassId) (h : Nat → Nat) (F : Nat → Int) (I : Nat → Nat → Int32) (J : Nat → Nat → Int64) (hF : 2 ≤ F 0 ∧ F 0 ≤ 4) (hdg : DGok (I 2)) (hbr : bR (I 0)) : Ct l yX7_envelope cX7_envelope 8 none { frames := 4, cells := 0, slots := 0, locals := 121 } 0 0 D (TY ce) [.ref (h 0)] (rW ce h F I J) (QV D (TY ce) (fun w1 => ∃ I2 : Nat → Nat → Int32, ∃ J2 : Nat → Nat → Int64, w1 = rW ce h F I2 J2 ∧ (∀ k, k ≠ 1 → k ≠ 4 → k ≠ 5 → k ≠ 6 → k ≠ 7 → k ≠ 8 → k ≠ 9 → J2 k = J k) ∧ (∀ k, k ≠ 1 → k ≠ 2 → k ≠ 3 → I2 k = I k) ∧ (DGok (I2 2)) ∧ (∀ q : Int, 0 ≤ q → q < 49 → J2 1 q.toNat = J 1 q.toNat) ∧ (I2 1 0 = I 1 0 ∧ I2 2 0 = I 2 0) ∧ ((NCe (F 0).toNat (ti (rP (I 0) 0)) (ti (rP (I 0) 1)) (ti (rP (I 0) 2)) → I2 1 1 = 1 ∧ TRz (F 0).toNat (ti (rP (I 0) 0)) (ti (rP (I 0) 1)) (ti (rP (I 0) 2)) (fun i => J2 1 (49 + i)) (I2 2 1)) ∧ (¬ NCe (F 0).toNat (ti (rP (I 0) 0)) (ti (rP (I 0) 1)) (ti (rP (I 0) 2)) → I2 1 = I 1)))) := by
  refine Ct.ofV (by decide) (Nat.le_of_ble_eq_true rfl) ?_
  intro p e s m args below meth c A Q hX hnm hR
  refine Z.pick (lv' := [(0, .ref (h 0))]) [0] rfl ?_
  obtain ⟨T, hT, hT1, hT2, hT3, hT4⟩ := sh1y (n := 2 * (F 0 - 1)) (by omega) (by omega)
  obtain ⟨Tn, hTn⟩ := TN_ex (N := (F 0).toNat) ⟨by omega, by omega⟩ (rp_bx hbr (show 0 < 3 by decide)) (rp_bx hbr (show 1 < 3 by decide)) (rp_bx hbr (show 2 < 3 by decide))
  refine Z.aload_n hX dX7_envelope_0 rfl rfl ?_
  refine Z.getf hX 7 0 2 dX7_envelope_1 rfl rfl inX7 (by decide) fl_X7_70 rfl rfl ?_
  refine Z.iconst hX dX7_envelope_4 ?_
  refine Z.isub hX dX7_envelope_5 ?_
  refine Z.istore_n (lv' := [(1, .int (zI ((F 0) - 1))), (0, .ref (h 0))]) hX dX7_envelope_6 rfl (by decide) rfl ?_
  refine Z.aload_n hX dX7_envelope_7 rfl rfl ?_
  refine Z.callVfv (As := []) (rest := []) hX 7 0 rfl rfl (ct_X7_emptied l D ce h F I J ) mc_X7_emptied ml_X7_90 im_X7_emptied se_X7_emptied ini_X7 nd_X7_emptied ⟨Nat.le_of_ble_eq_true rfl, Nat.le_of_ble_eq_true rfl⟩ ⟨rfl, rfl⟩ ⟨Nat.le_refl _, Nat.le_refl _⟩ rfl (Nat.le_of_ble_eq_true rfl) dX7_envelope_8 ?_
  rintro w1 ⟨J22, hw_, hem1, hem2⟩
  subst hw_
  refine Z.iconst hX dX7_envelope_11 ?_
  refine Z.istore_n (lv' := [(2, .int (zI 0)), (1, .int (zI ((F 0) - 1))), (0, .ref (h 0))]) hX dX7_envelope_12 rfl (by decide) rfl ?_
  have key_13 : ∀ (N : Nat), ∀ (r : Int) (M : Nat → Nat → Int64), (F 0 - 1 - r).toNat < N → (hr : 0 ≤ r ∧ r ≤ F 0 - 1) → (hE : EZ (M 4) 6 0) → (hM : ∀ k, k ≠ 4 → M k = J k) → (hL : LG (M 4) (eP (I 0) 2) (eP (I 0) 0) (eP (I 0) 1) (eR (I 0) (F 0) 2) (eR (I 0) (F 0) 0) (eR (I 0) (F 0) 1) (F 0 - 1) r 0) → Z p l e { frames := 4, cells := 0, slots := 0, locals := 121 } s m args below meth c D A 8 0 0 Q 13 [(2, .int (zI r)), (1, .int (zI (F 0 - 1))), (0, .ref (h 0))] [] (rW ce h F I M) := by
    intro N
    induction N with
    | zero => intro r M hm; exact absurd hm (Nat.not_lt_zero _)
    | succ N ih_13 =>
      intro r M hm hr hE hM hL
      refine Z.iload_n hX dX7_envelope_13 rfl rfl ?_
      refine Z.iload_n hX dX7_envelope_14 rfl rfl ?_
      refine Z.icmp_ge hX 147 dX7_envelope_15 (by decide) ⟨by omega, by omega⟩ ⟨by omega, by omega⟩ ?_ ?_
      · intro c3
        refine Z.aload_n hX dX7_envelope_147 rfl rfl ?_
        refine Z.iconst hX dX7_envelope_148 ?_
        refine Z.iload_n hX dX7_envelope_149 rfl rfl ?_
        refine Z.imul hX dX7_envelope_150 ?_
        refine Z.callVfv (As := [.int (zI (2 * (F 0 - 1)))]) (rest := []) hX 7 0 rfl rfl (ct_X7_minorsOf_y l D ce h F I M (2 * (F 0 - 1)) 6 0 (by omega) (by omega) hE) mc_X7_minorsOf ml_X7_97 im_X7_minorsOf se_X7_minorsOf ini_X7 nd_X7_minorsOf ⟨Nat.le_of_ble_eq_true rfl, Nat.le_of_ble_eq_true rfl⟩ ⟨rfl, rfl⟩ ⟨Nat.le_refl _, Nat.le_refl _⟩ rfl (Nat.le_of_ble_eq_true rfl) dX7_envelope_151 ?_
        rintro w1 ⟨Jm, hw_, hm1, hm2, hm3⟩
        subst hw_
        have hcg := en_cg (m := Jm 5) (fr := 49 * (T - 1)) hF hbr (show r = F 0 - 1 by omega) hL hm2 (by rw [← hT4]; omega)
        obtain ⟨hev, hsz, hsn⟩ := sl_ez hTn sg1_e hcg
        refine Z.aload_n hX dX7_envelope_154 rfl rfl ?_
        refine Z.iconst hX dX7_envelope_155 ?_
        refine Z.bipush hX dX7_envelope_156 (by decide) ?_
        refine Z.iconst hX dX7_envelope_158 ?_
        refine Z.iconst hX dX7_envelope_159 ?_
        refine Z.iload_n hX dX7_envelope_160 rfl rfl ?_
        refine Z.imul hX dX7_envelope_161 ?_
        refine Z.ishl hX dX7_envelope_162 ?_
        refine Z.vali (y := zI T) hT ?_
        refine Z.iconst hX dX7_envelope_163 ?_
        refine Z.isub hX dX7_envelope_164 ?_
        refine Z.imul hX dX7_envelope_165 ?_
        refine Z.callVfv (As := [.int (zI 1), .int (zI (49 * (T - 1)))]) (rest := []) hX 7 0 rfl rfl (ct_X7_tell_z l D ce h F I Jm (49 * (T - 1)) (by omega) hdg hsz hsn) mc_X7_tell ml_X7_101 im_X7_tell se_X7_tell ini_X7 nd_X7_tell ⟨Nat.le_of_ble_eq_true rfl, Nat.le_of_ble_eq_true rfl⟩ ⟨rfl, rfl⟩ ⟨Nat.le_refl _, Nat.le_refl _⟩ rfl (Nat.le_of_ble_eq_true rfl) dX7_envelope_166 ?_
        rintro w1 ⟨It, Jt, hw_, ht1, ht2, hdgZ, ht4, ht5, ht6, ht7⟩
        subst hw_
        exact hR _ _ _ dX7_envelope_169 ⟨It, Jt, rfl, (fun j_ h_1 h_4 h_5 h_6 h_7 h_8 h_9 => ((ht1 j_ h_1 h_6 h_7 h_8 h_9).trans ((hm1 j_ h_5).trans (hM j_ h_4)))), (fun j_ h_1 h_2 h_3 => ((ht2 j_ h_1 h_2 h_3).trans rfl)), hdgZ, (fun q a b => by rw [ht6 q a b, hm1 1 (by decide), hM 1 (by decide)]), ht7, (en_fin hTn sg1_e (by omega) hcg ht4 ht5)⟩
      · intro c3
        refine Z.iconst hX dX7_envelope_18 ?_
        refine Z.istore_n (lv' := [(3, .int (zI 0)), (2, .int (zI r)), (1, .int (zI (F 0 - 1))), (0, .ref (h 0))]) hX dX7_envelope_19 rfl (by decide) rfl ?_
        have key_20 : ∀ (N : Nat), ∀ (k : Int) (M : Nat → Nat → Int64), (F 0 - k).toNat < N → (hk : 0 ≤ k ∧ k ≤ F 0) → (hE : EZ (M 4) 6 0) → (hM : ∀ k, k ≠ 4 → M k = J k) → (hL : LG (M 4) (eP (I 0) 2) (eP (I 0) 0) (eP (I 0) 1) (eR (I 0) (F 0) 2) (eR (I 0) (F 0) 0) (eR (I 0) (F 0) 1) (F 0 - 1) r k) → Z p l e { frames := 4, cells := 0, slots := 0, locals := 121 } s m args below meth c D A 8 0 0 Q 20 [(3, .int (zI k)), (2, .int (zI r)), (1, .int (zI (F 0 - 1))), (0, .ref (h 0))] [] (rW ce h F I M) := by
          intro N
          induction N with
          | zero => intro k M hm; exact absurd hm (Nat.not_lt_zero _)
          | succ N ih_20 =>
            intro k M hm hk hE hM hL
            refine Z.iload_n hX dX7_envelope_20 rfl rfl ?_
            refine Z.iload_n hX dX7_envelope_21 rfl rfl ?_
            refine Z.icmp_gt hX 141 dX7_envelope_22 (by decide) ⟨by omega, by omega⟩ ⟨by omega, by omega⟩ ?_ ?_
            · intro c6
              refine Z.iinc (lv' := [(2, .int (zI (r + 1))), (3, .int (zI k)), (1, .int (zI (F 0 - 1))), (0, .ref (h 0))]) hX dX7_envelope_141 rfl (by decide) rfl ?_
              refine Z.goto hX 13 dX7_envelope_144 (by decide) ?_
              refine Z.pick [0, 2, 3] rfl ?_
              exact ih_13 _ _ (by omega) (by omega) hE (fun j_ h_4 => (hM j_ h_4)) (LG_r (by omega) hL)
            · intro c6
              refine Z.iload_n hX dX7_envelope_25 rfl rfl ?_
              refine Z.iconst hX dX7_envelope_26 ?_
              refine Z.iadd hX dX7_envelope_27 ?_
              refine Z.i2l hX dX7_envelope_28 ⟨by omega, by omega⟩ ?_
              refine Z.lstore (lv' := [(4, .long (zL (k + 1))), (3, .int (zI k)), (2, .int (zI r)), (1, .int (zI (F 0 - 1))), (0, .ref (h 0))]) hX dX7_envelope_29 (by decide) rfl ?_
              refine Z.aload_n hX dX7_envelope_31 rfl rfl ?_
              refine Z.getf hX 7 0 2 dX7_envelope_32 rfl rfl inX7 (by decide) fl_X7_70 rfl rfl ?_
              refine Z.iload_n hX dX7_envelope_35 rfl rfl ?_
              refine Z.isub hX dX7_envelope_36 ?_
              refine Z.i2l hX dX7_envelope_37 ⟨by omega, by omega⟩ ?_
              refine Z.lstore (lv' := [(6, .long (zL ((F 0) - k))), (4, .long (zL (k + 1))), (3, .int (zI k)), (2, .int (zI r)), (1, .int (zI (F 0 - 1))), (0, .ref (h 0))]) hX dX7_envelope_38 (by decide) rfl ?_
              refine Z.aload_n hX dX7_envelope_40 rfl rfl ?_
              refine Z.iload_n hX dX7_envelope_41 rfl rfl ?_
              refine Z.iload_n hX dX7_envelope_42 rfl rfl ?_
              refine Z.iload_n hX dX7_envelope_43 rfl rfl ?_
              refine Z.iadd hX dX7_envelope_44 ?_
              refine Z.iload_n hX dX7_envelope_45 rfl rfl ?_
              refine Z.isub hX dX7_envelope_46 ?_
              refine Z.lload hX dX7_envelope_47 rfl ?_
              refine Z.aload_n hX dX7_envelope_49 rfl rfl ?_
              refine Z.getf hX 7 0 0 dX7_envelope_50 rfl rfl inX7 (by decide) fl_X7_7 rfl rfl ?_
              refine Z.bipush hX dX7_envelope_53 (by decide) ?_
              refine Z.iload_n hX dX7_envelope_55 rfl rfl ?_
              refine Z.iadd hX dX7_envelope_56 ?_
              refine Z.iaload hX 1 0 dX7_envelope_57 rfl rfl (by omega) (by omega) (by decide) ?_
              refine Z.topi (fun z7 hz7 kz7 ez7 => ?_)
              refine Z.i2l hX dX7_envelope_58 ⟨by omega, by omega⟩ ?_
              refine Z.lmul hX dX7_envelope_59 ?_
              refine Z.lload hX dX7_envelope_60 rfl ?_
              refine Z.aload_n hX dX7_envelope_62 rfl rfl ?_
              refine Z.getf hX 7 0 0 dX7_envelope_63 rfl rfl inX7 (by decide) fl_X7_7 rfl rfl ?_
              refine Z.iload_n hX dX7_envelope_66 rfl rfl ?_
              refine Z.iconst hX dX7_envelope_67 ?_
              refine Z.iadd hX dX7_envelope_68 ?_
              refine Z.iaload hX 1 0 dX7_envelope_69 rfl rfl (by omega) (by omega) (by decide) ?_
              refine Z.topi (fun z8 hz8 kz8 ez8 => ?_)
              refine Z.i2l hX dX7_envelope_70 ⟨by omega, by omega⟩ ?_
              refine Z.lmul hX dX7_envelope_71 ?_
              refine Z.lload hX dX7_envelope_72 rfl ?_
              refine Z.aload_n hX dX7_envelope_74 rfl rfl ?_
              refine Z.getf hX 7 0 0 dX7_envelope_75 rfl rfl inX7 (by decide) fl_X7_7 rfl rfl ?_
              refine Z.bipush hX dX7_envelope_78 (by decide) ?_
              refine Z.iload_n hX dX7_envelope_80 rfl rfl ?_
              refine Z.iadd hX dX7_envelope_81 ?_
              refine Z.iaload hX 1 0 dX7_envelope_82 rfl rfl (by omega) (by omega) (by decide) ?_
              refine Z.topi (fun z9 hz9 kz9 ez9 => ?_)
              refine Z.i2l hX dX7_envelope_83 ⟨by omega, by omega⟩ ?_
              refine Z.lmul hX dX7_envelope_84 ?_
              refine Z.callVfv (As := [.int (zI r), .int (zI ((r + (F 0 - 1)) - k)), .long ((zL (k + 1)) * (zL z7)), .long ((zL (k + 1)) * (zL z8)), .long ((zL (k + 1)) * (zL z9))]) (rest := []) hX 7 0 rfl rfl (ct_X7_entry l D ce h F I M r ((r + (F 0 - 1)) - k) ((zL (k + 1)) * (zL z7)) ((zL (k + 1)) * (zL z8)) ((zL (k + 1)) * (zL z9)) (by omega) (by omega)) mc_X7_entry ml_X7_93 im_X7_entry se_X7_entry ini_X7 nd_X7_entry ⟨Nat.le_of_ble_eq_true rfl, Nat.le_of_ble_eq_true rfl⟩ ⟨rfl, rfl⟩ ⟨Nat.le_refl _, Nat.le_refl _⟩ rfl (Nat.le_of_ble_eq_true rfl) dX7_envelope_85 ?_
              rintro w1 ⟨Ja, hw_, ha1, ha2⟩
              subst hw_
              have hEa : EZ (Ja 4) 6 0 := EZ_s (by omega) (by omega) (fun q => by omega) (fun q => by omega) hE ha2
              have q9 := eP_z (a := 2) hk.1 ez7 hz7 kz7 (by omega)
              have q10 := eP_z (a := 0) hk.1 ez8 hz8 kz8 (by omega)
              have q11 := eP_z (a := 1) hk.1 ez9 hz9 kz9 (by omega)
              rw [q9, q10, q11] at ha2
              refine Z.aload_n hX dX7_envelope_88 rfl rfl ?_
              refine Z.iload_n hX dX7_envelope_89 rfl rfl ?_
              refine Z.iload_n hX dX7_envelope_90 rfl rfl ?_
              refine Z.iadd hX dX7_envelope_91 ?_
              refine Z.iload_n hX dX7_envelope_92 rfl rfl ?_
              refine Z.iload_n hX dX7_envelope_93 rfl rfl ?_
              refine Z.iadd hX dX7_envelope_94 ?_
              refine Z.iload_n hX dX7_envelope_95 rfl rfl ?_
              refine Z.isub hX dX7_envelope_96 ?_
              refine Z.lload hX dX7_envelope_97 rfl ?_
              refine Z.aload_n hX dX7_envelope_99 rfl rfl ?_
              refine Z.getf hX 7 0 0 dX7_envelope_100 rfl rfl inX7 (by decide) fl_X7_7 rfl rfl ?_
              refine Z.bipush hX dX7_envelope_103 (by decide) ?_
              refine Z.iload_n hX dX7_envelope_105 rfl rfl ?_
              refine Z.iadd hX dX7_envelope_106 ?_
              refine Z.iaload hX 1 0 dX7_envelope_107 rfl rfl (by omega) (by omega) (by decide) ?_
              refine Z.topi (fun z11 hz11 kz11 ez11 => ?_)
              refine Z.i2l hX dX7_envelope_108 ⟨by omega, by omega⟩ ?_
              refine Z.lmul hX dX7_envelope_109 ?_
              refine Z.lload hX dX7_envelope_110 rfl ?_
              refine Z.aload_n hX dX7_envelope_112 rfl rfl ?_
              refine Z.getf hX 7 0 0 dX7_envelope_113 rfl rfl inX7 (by decide) fl_X7_7 rfl rfl ?_
              refine Z.iload_n hX dX7_envelope_116 rfl rfl ?_
              refine Z.iaload hX 1 0 dX7_envelope_117 rfl rfl (by omega) (by omega) (by decide) ?_
              refine Z.topi (fun z12 hz12 kz12 ez12 => ?_)
              refine Z.i2l hX dX7_envelope_118 ⟨by omega, by omega⟩ ?_
              refine Z.lmul hX dX7_envelope_119 ?_
              refine Z.lload hX dX7_envelope_120 rfl ?_
              refine Z.aload_n hX dX7_envelope_122 rfl rfl ?_
              refine Z.getf hX 7 0 0 dX7_envelope_123 rfl rfl inX7 (by decide) fl_X7_7 rfl rfl ?_
              refine Z.iconst hX dX7_envelope_126 ?_
              refine Z.iload_n hX dX7_envelope_127 rfl rfl ?_
              refine Z.iadd hX dX7_envelope_128 ?_
              refine Z.iaload hX 1 0 dX7_envelope_129 rfl rfl (by omega) (by omega) (by decide) ?_
              refine Z.topi (fun z13 hz13 kz13 ez13 => ?_)
              refine Z.i2l hX dX7_envelope_130 ⟨by omega, by omega⟩ ?_
              refine Z.lmul hX dX7_envelope_131 ?_
              refine Z.callVfv (As := [.int (zI ((F 0 - 1) + r)), .int (zI ((r + (F 0 - 1)) - k)), .long ((zL ((F 0) - k)) * (zL z11)), .long ((zL ((F 0) - k)) * (zL z12)), .long ((zL ((F 0) - k)) * (zL z13))]) (rest := []) hX 7 0 rfl rfl (ct_X7_entry l D ce h F I Ja ((F 0 - 1) + r) ((r + (F 0 - 1)) - k) ((zL ((F 0) - k)) * (zL z11)) ((zL ((F 0) - k)) * (zL z12)) ((zL ((F 0) - k)) * (zL z13)) (by omega) (by omega)) mc_X7_entry ml_X7_93 im_X7_entry se_X7_entry ini_X7 nd_X7_entry ⟨Nat.le_of_ble_eq_true rfl, Nat.le_of_ble_eq_true rfl⟩ ⟨rfl, rfl⟩ ⟨Nat.le_refl _, Nat.le_refl _⟩ rfl (Nat.le_of_ble_eq_true rfl) dX7_envelope_132 ?_
              rintro w1 ⟨Jb, hw_, hb1, hb2⟩
              subst hw_
              have hEb : EZ (Jb 4) 6 0 := EZ_s (by omega) (by omega) (fun q => by omega) (fun q => by omega) hEa hb2
              have q13 := eR_z (N := F 0) (a := 2) hk.1 ez11 hz11 kz11 (by omega)
              have q14 := eR_z (N := F 0) (a := 0) hk.1 ez12 hz12 kz12 (by omega)
              have q15 := eR_z (N := F 0) (a := 1) hk.1 ez13 hz13 kz13 (by omega)
              rw [q13, q14, q15] at hb2
              have hLb := LG_s (E := M 4) (Ea := Ja 4) (Eb := Jb 4) (by omega) (by omega) (by omega) ha2 hb2 hL
              refine Z.iinc (lv' := [(3, .int (zI (k + 1))), (6, .long (zL ((F 0) - k))), (4, .long (zL (k + 1))), (2, .int (zI r)), (1, .int (zI (F 0 - 1))), (0, .ref (h 0))]) hX dX7_envelope_135 rfl (by decide) rfl ?_
              refine Z.goto hX 20 dX7_envelope_138 (by decide) ?_
              refine Z.pick [0, 3, 4, 5] rfl ?_
              exact ih_20 _ _ (by omega) (by omega) hEb (fun j_ h_4 => ((hb1 j_ h_4).trans ((ha1 j_ h_4).trans (hM j_ h_4)))) hLb
        refine Z.pick [0, 1, 2, 3] rfl ?_
        exact key_20 _ _ _ (Nat.lt_succ_self _) (by omega) hE (fun j_ h_4 => (hM j_ h_4)) hL
  refine Z.pick [0, 1, 2] rfl ?_
  exact key_13 _ _ _ (Nat.lt_succ_self _) (by omega) (EZ_0 hem2 _ _) (fun j_ h_4 => ((hem1 j_ h_4).trans rfl)) (LG_0 hem2)

set_option maxHeartbeats 4000000 in
set_option maxRecDepth 100000 in
theorem ct_X7_traced_z (l : Launch) (D : va_G) (ce : Nat → ClassId) (h : Nat → Nat) (F : Nat → Int) (I : Nat → Nat → Int32) (J : Nat → Nat → Int64) (xx yy ww md : Int64) (Dg : Int) (hmd : 1 ≤ md.toInt ∧ md.toInt ≤ 2147483647) (hDg : 0 ≤ Dg ∧ Dg ≤ 6 ∧ I 2 1 = zI Dg) (hsu : SU (fun q => J 1 (49 + q)) Dg) : Ct l yX7_traced cX7_traced 19 (some .long) { frames := 1, cells := 0, slots := 0, locals := 23 } 0 0 D (TY ce) [.ref (h 0), .int (zI 1), .long xx, .long yy, .long ww, .long md] (rW ce h F I J) (QL D (TY ce) (fun r w1 => ∃ r0 : Int64, r = r0 ∧ w1 = rW ce h F I J ∧ (mo md r0 (ts (fun q => J 1 (49 + q)) Dg.toNat xx.toInt yy.toInt ww.toInt 49)))) := by
  refine Ct.ofL (by decide) (Nat.le_of_ble_eq_true rfl) ?_
  intro p e s m args below meth c A Q hX hnm hR
  refine Z.pick (lv' := [(0, .ref (h 0)), (1, .int (zI 1)), (2, .long xx), (4, .long yy), (6, .long ww), (8, .long md)]) [0, 1, 2, 3, 4, 5] rfl ?_
  have hm0 : ¬ md = 0 := fun z => by rw [z] at hmd; exact absurd hmd.1 (by decide)
  refine Z.lconst (v := 0) hX dX7_traced_0 rfl ?_
  refine Z.lstore (lv' := [(10, .long 0), (0, .ref (h 0)), (1, .int (zI 1)), (2, .long xx), (4, .long yy), (6, .long ww), (8, .long md)]) hX dX7_traced_1 (by decide) rfl ?_
  refine Z.iconst hX dX7_traced_3 ?_
  refine Z.istore (lv' := [(12, .int (zI 0)), (10, .long 0), (0, .ref (h 0)), (1, .int (zI 1)), (2, .long xx), (4, .long yy), (6, .long ww), (8, .long md)]) hX dX7_traced_4 (by decide) rfl ?_
  have key_6 : ∀ (N : Nat), ∀ (i : Int) (al : Int64), (7 - i).toNat < N → (hi1 : 0 ≤ i ∧ i ≤ 7) → (hal : mo md al (ts (fun q => J 1 (49 + q)) Dg.toNat xx.toInt yy.toInt ww.toInt (7 * i + 0).toNat)) → Z p l e { frames := 1, cells := 0, slots := 0, locals := 23 } s m args below meth c D A 19 0 0 Q 6 [(12, .int (zI i)), (10, .long al), (8, .long md), (6, .long ww), (4, .long yy), (2, .long xx), (1, .int (zI 1)), (0, .ref (h 0))] [] (rW ce h F I J) := by
    intro N
    induction N with
    | zero => intro i al hm; exact absurd hm (Nat.not_lt_zero _)
    | succ N ih_6 =>
      intro i al hm hi1 hal
      refine Z.iload hX dX7_traced_6 rfl ?_
      refine Z.bipush hX dX7_traced_8 (by decide) ?_
      refine Z.icmp_ge hX 142 dX7_traced_10 (by decide) ⟨by omega, by omega⟩ ⟨by omega, by omega⟩ ?_ ?_
      · intro c1
        refine Z.lload hX dX7_traced_142 rfl ?_
        exact hR _ _ _ _ dX7_traced_144 ⟨al, rfl, rfl, (by have h2_ := hal; rw [show (7 * i + 0).toNat = 49 by omega] at h2_; exact h2_)⟩
      · intro c1
        refine Z.iconst hX dX7_traced_13 ?_
        refine Z.istore (lv' := [(13, .int (zI 0)), (12, .int (zI i)), (10, .long al), (8, .long md), (6, .long ww), (4, .long yy), (2, .long xx), (1, .int (zI 1)), (0, .ref (h 0))]) hX dX7_traced_14 (by decide) rfl ?_
        have key_16 : ∀ (N : Nat), ∀ (j : Int) (al : Int64), (7 - j).toNat < N → (hj1 : 0 ≤ j ∧ j ≤ 7) → (hal : mo md al (ts (fun q => J 1 (49 + q)) Dg.toNat xx.toInt yy.toInt ww.toInt (7 * i + j).toNat)) → Z p l e { frames := 1, cells := 0, slots := 0, locals := 23 } s m args below meth c D A 19 0 0 Q 16 [(13, .int (zI j)), (12, .int (zI i)), (10, .long al), (8, .long md), (6, .long ww), (4, .long yy), (2, .long xx), (1, .int (zI 1)), (0, .ref (h 0))] [] (rW ce h F I J) := by
          intro N
          induction N with
          | zero => intro j al hm; exact absurd hm (Nat.not_lt_zero _)
          | succ N ih_16 =>
            intro j al hm hj1 hal
            refine Z.iload hX dX7_traced_16 rfl ?_
            refine Z.bipush hX dX7_traced_18 (by decide) ?_
            refine Z.icmp_ge hX 136 dX7_traced_20 (by decide) ⟨by omega, by omega⟩ ⟨by omega, by omega⟩ ?_ ?_
            · intro c2
              refine Z.iinc (lv' := [(12, .int (zI (i + 1))), (13, .int (zI j)), (10, .long al), (8, .long md), (6, .long ww), (4, .long yy), (2, .long xx), (1, .int (zI 1)), (0, .ref (h 0))]) hX dX7_traced_136 rfl (by decide) rfl ?_
              refine Z.goto hX 6 dX7_traced_139 (by decide) ?_
              refine Z.pick [0, 2, 3, 4, 5, 6, 7, 8] rfl ?_
              exact ih_6 _ _ (by omega) (by omega) (by rw [show (7 * (i + 1) + 0).toNat = (7 * i + j).toNat by omega]; exact hal)
            · intro c2
              refine Z.aload_n hX dX7_traced_23 rfl rfl ?_
              refine Z.getf hX 7 0 6 dX7_traced_24 rfl rfl inX7 (by decide) fl_X7_21 rfl rfl ?_
              refine Z.bipush hX dX7_traced_27 (by decide) ?_
              refine Z.iload_n hX dX7_traced_29 rfl rfl ?_
              refine Z.imul hX dX7_traced_30 ?_
              refine Z.bipush hX dX7_traced_31 (by decide) ?_
              refine Z.iload hX dX7_traced_33 rfl ?_
              refine Z.imul hX dX7_traced_35 ?_
              refine Z.iadd hX dX7_traced_36 ?_
              refine Z.iload hX dX7_traced_37 rfl ?_
              refine Z.iadd hX dX7_traced_39 ?_
              refine Z.laload hX 4 1 dX7_traced_40 rfl rfl (by omega) (by omega) (by decide) ?_
              refine Z.lstore (lv' := [(14, .long (J 1 (((49 * 1) + (7 * i)) + j : Int).toNat)), (13, .int (zI j)), (12, .int (zI i)), (10, .long al), (8, .long md), (6, .long ww), (4, .long yy), (2, .long xx), (1, .int (zI 1)), (0, .ref (h 0))]) hX dX7_traced_41 (by decide) rfl ?_
              refine Z.lload hX dX7_traced_43 rfl ?_
              refine Z.lconst (v := 0) hX dX7_traced_45 rfl ?_
              refine Z.lcmp_eq hX 130 dX7_traced_46 dX7_traced_47 (by decide) ?_ ?_
              · intro c3
                refine Z.iinc (lv' := [(13, .int (zI (j + 1))), (14, .long (J 1 (((49 * 1) + (7 * i)) + j : Int).toNat)), (12, .int (zI i)), (10, .long al), (8, .long md), (6, .long ww), (4, .long yy), (2, .long xx), (1, .int (zI 1)), (0, .ref (h 0))]) hX dX7_traced_130 rfl (by decide) rfl ?_
                refine Z.goto hX 16 dX7_traced_133 (by decide) ?_
                refine Z.pick [0, 2, 3, 4, 5, 6, 7, 8, 9] rfl ?_
                exact ih_16 _ _ (by omega) (by omega) (ts_z (by omega) (by omega) (by show J 1 (49 + (7 * i + j).toNat) = 0; rw [show 49 + (7 * i + j).toNat = (49 * 1 + 7 * i + j).toNat by omega]; assumption) hal)
              · intro c3
                refine Z.lload hX dX7_traced_50 rfl ?_
                refine Z.lload hX dX7_traced_52 rfl ?_
                refine Z.callS0l (As := [.long (J 1 (((49 * 1) + (7 * i)) + j : Int).toNat), .long md]) (rest := []) hX (ct_X7_rest_y l D ce (J 1 (((49 * 1) + (7 * i)) + j : Int).toNat) md hmd) mc_X7_rest ml_X7_154 st_X7_rest ini_X7 nd_X7_rest ⟨Nat.le_of_ble_eq_true rfl, Nat.le_of_ble_eq_true rfl⟩ ⟨rfl, rfl⟩ ⟨Nat.le_refl _, Nat.le_refl _⟩ rfl (Nat.le_of_ble_eq_true rfl) dX7_traced_54 ?_
                rintro re w1 ⟨r05, hr_, hw_, hre⟩
                subst hr_
                refine ⟨hw_, ?_⟩
                refine Z.lstore (lv' := [(16, .long re), (14, .long (J 1 (((49 * 1) + (7 * i)) + j : Int).toNat)), (13, .int (zI j)), (12, .int (zI i)), (10, .long al), (8, .long md), (6, .long ww), (4, .long yy), (2, .long xx), (1, .int (zI 1)), (0, .ref (h 0))]) hX dX7_traced_57 (by decide) rfl ?_
                refine Z.iconst hX dX7_traced_59 ?_
                refine Z.istore (lv' := [(18, .int (zI 0)), (16, .long re), (14, .long (J 1 (((49 * 1) + (7 * i)) + j : Int).toNat)), (13, .int (zI j)), (12, .int (zI i)), (10, .long al), (8, .long md), (6, .long ww), (4, .long yy), (2, .long xx), (1, .int (zI 1)), (0, .ref (h 0))]) hX dX7_traced_60 (by decide) rfl ?_
                have key_62 : ∀ (N : Nat), ∀ (k : Int) (mm : Int64), (12 - k).toNat < N → (hk1 : 0 ≤ k ∧ k ≤ Dg) → (hmm : mo md mm ((J 1 (49 + (7 * i + j).toNat)).toInt * pf i.toNat j.toNat xx.toInt yy.toInt ww.toInt k.toNat)) → Z p l e { frames := 1, cells := 0, slots := 0, locals := 23 } s m args below meth c D A 19 0 0 Q 62 [(18, .int (zI k)), (16, .long mm), (13, .int (zI j)), (12, .int (zI i)), (10, .long al), (8, .long md), (6, .long ww), (4, .long yy), (2, .long xx), (1, .int (zI 1)), (0, .ref (h 0))] [] (rW ce h F I J) := by
                  intro N
                  induction N with
                  | zero => intro k mm hm; exact absurd hm (Nat.not_lt_zero _)
                  | succ N ih_62 =>
                    intro k mm hm hk1 hmm
                    refine Z.iload hX dX7_traced_62 rfl ?_
                    refine Z.aload_n hX dX7_traced_64 rfl rfl ?_
                    refine Z.getf hX 7 0 7 dX7_traced_65 rfl rfl inX7 (by decide) fl_X7_24 rfl rfl ?_
                    refine Z.iload_n hX dX7_traced_68 rfl rfl ?_
                    refine Z.iaload hX 5 0 dX7_traced_69 rfl rfl (by omega) (by omega) (by decide) ?_
                    refine Z.topi (fun z6 hz6 kz6 ez6 => ?_)
                    have hdz : z6 = Dg := (zI_eq ⟨by omega, by omega⟩ ⟨by omega, by omega⟩).mp (ez6.symm.trans hDg.2.2)
                    refine Z.icmp_ge hX 120 dX7_traced_70 (by decide) ⟨by omega, by omega⟩ ⟨by omega, by omega⟩ ?_ ?_
                    · intro c7
                      refine Z.lload hX dX7_traced_120 rfl ?_
                      refine Z.lload hX dX7_traced_122 rfl ?_
                      refine Z.ladd hX dX7_traced_124 ?_
                      refine Z.lload hX dX7_traced_125 rfl ?_
                      refine Z.lrem hX dX7_traced_127 hm0 ?_
                      refine Z.lstore (lv' := [(10, .long ((al + mm) - (al + mm) / md * md)), (18, .int (zI k)), (16, .long mm), (13, .int (zI j)), (12, .int (zI i)), (8, .long md), (6, .long ww), (4, .long yy), (2, .long xx), (1, .int (zI 1)), (0, .ref (h 0))]) hX dX7_traced_128 (by decide) rfl ?_
                      refine Z.iinc (lv' := [(13, .int (zI (j + 1))), (10, .long ((al + mm) - (al + mm) / md * md)), (18, .int (zI k)), (16, .long mm), (12, .int (zI i)), (8, .long md), (6, .long ww), (4, .long yy), (2, .long xx), (1, .int (zI 1)), (0, .ref (h 0))]) hX dX7_traced_130 rfl (by decide) rfl ?_
                      refine Z.goto hX 16 dX7_traced_133 (by decide) ?_
                      refine Z.pick [0, 4, 1, 5, 6, 7, 8, 9, 10] rfl ?_
                      exact ih_16 _ _ (by omega) (by omega) (ts_s (k := k) (by omega) (by omega) hmd (by omega) hsu (by show ¬ J 1 (49 + (7 * i + j).toNat) = 0; rw [show 49 + (7 * i + j).toNat = (49 * 1 + 7 * i + j).toNat by omega]; assumption) (by omega) hal hmm)
                    · intro c7
                      have key_103 : ∀ (vv : Int64), (hvv : vv.toInt = if k < i then xx.toInt else if k < i + j then yy.toInt else ww.toInt) → Z p l e { frames := 1, cells := 0, slots := 0, locals := 23 } s m args below meth c D A 19 0 0 Q 103 [(18, .int (zI k)), (13, .int (zI j)), (12, .int (zI i)), (10, .long al), (8, .long md), (6, .long ww), (4, .long yy), (2, .long xx), (1, .int (zI 1)), (0, .ref (h 0))] [.long vv, .long mm] (rW ce h F I J) := by
                        intro vv hvv
                        refine Z.lload hX dX7_traced_103 rfl ?_
                        refine Z.callS0l (As := [.long vv, .long md]) (rest := [.long mm]) hX (ct_X7_rest_y l D ce vv md hmd) mc_X7_rest ml_X7_154 st_X7_rest ini_X7 nd_X7_rest ⟨Nat.le_of_ble_eq_true rfl, Nat.le_of_ble_eq_true rfl⟩ ⟨rfl, rfl⟩ ⟨Nat.le_refl _, Nat.le_refl _⟩ rfl (Nat.le_of_ble_eq_true rfl) dX7_traced_105 ?_
                        rintro rf w1 ⟨r09, hr_, hw_, hrf⟩
                        subst hr_
                        refine ⟨hw_, ?_⟩
                        refine Z.lmul hX dX7_traced_108 ?_
                        refine Z.lload hX dX7_traced_109 rfl ?_
                        refine Z.lrem hX dX7_traced_111 hm0 ?_
                        refine Z.lstore (lv' := [(16, .long ((mm * rf) - (mm * rf) / md * md)), (18, .int (zI k)), (13, .int (zI j)), (12, .int (zI i)), (10, .long al), (8, .long md), (6, .long ww), (4, .long yy), (2, .long xx), (1, .int (zI 1)), (0, .ref (h 0))]) hX dX7_traced_112 (by decide) rfl ?_
                        refine Z.iinc (lv' := [(18, .int (zI (k + 1))), (16, .long ((mm * rf) - (mm * rf) / md * md)), (13, .int (zI j)), (12, .int (zI i)), (10, .long al), (8, .long md), (6, .long ww), (4, .long yy), (2, .long xx), (1, .int (zI 1)), (0, .ref (h 0))]) hX dX7_traced_114 rfl (by decide) rfl ?_
                        refine Z.goto hX 62 dX7_traced_117 (by decide) ?_
                        refine Z.pick [0, 1, 2, 3, 4, 5, 6, 7, 8, 9, 10] rfl ?_
                        exact ih_62 _ _ (by omega) (by omega) (pf_s (by omega) (by omega) (by omega) hmd hmm hvv hrf)
                      refine Z.lload hX dX7_traced_73 rfl ?_
                      refine Z.iload hX dX7_traced_75 rfl ?_
                      refine Z.iload hX dX7_traced_77 rfl ?_
                      refine Z.icmp_ge hX 86 dX7_traced_79 (by decide) ⟨by omega, by omega⟩ ⟨by omega, by omega⟩ ?_ ?_
                      · intro c10
                        refine Z.iload hX dX7_traced_86 rfl ?_
                        refine Z.iload hX dX7_traced_88 rfl ?_
                        refine Z.iload hX dX7_traced_90 rfl ?_
                        refine Z.iadd hX dX7_traced_92 ?_
                        refine Z.icmp_ge hX 101 dX7_traced_93 (by decide) ⟨by omega, by omega⟩ ⟨by omega, by omega⟩ ?_ ?_
                        · intro c11
                          refine Z.lload hX dX7_traced_101 rfl ?_
                          refine Z.pick [0, 2, 3, 4, 5, 6, 7, 8, 9, 10] rfl ?_
                          exact key_103 _ (by first | rw [if_pos (by omega)] | rw [if_neg (by omega), if_pos (by omega)] | rw [if_neg (by omega), if_neg (by omega)])
                        · intro c11
                          refine Z.lload hX dX7_traced_96 rfl ?_
                          refine Z.goto hX 103 dX7_traced_98 (by decide) ?_
                          refine Z.pick [0, 2, 3, 4, 5, 6, 7, 8, 9, 10] rfl ?_
                          exact key_103 _ (by first | rw [if_pos (by omega)] | rw [if_neg (by omega), if_pos (by omega)] | rw [if_neg (by omega), if_neg (by omega)])
                      · intro c10
                        refine Z.lload_n hX dX7_traced_82 rfl rfl ?_
                        refine Z.goto hX 103 dX7_traced_83 (by decide) ?_
                        refine Z.pick [0, 2, 3, 4, 5, 6, 7, 8, 9, 10] rfl ?_
                        exact key_103 _ (by first | rw [if_pos (by omega)] | rw [if_neg (by omega), if_pos (by omega)] | rw [if_neg (by omega), if_neg (by omega)])
                refine Z.pick [0, 1, 3, 4, 5, 6, 7, 8, 9, 10, 11] rfl ?_
                exact key_62 _ _ _ (Nat.lt_succ_self _) (by omega) (by rw [show 49 + (7 * i + j).toNat = (49 * 1 + 7 * i + j).toNat by omega]; have h2_ := hre; rw [← Int.mul_one (J 1 _).toInt] at h2_; exact h2_)
        refine Z.pick [0, 1, 2, 3, 4, 5, 6, 7, 8] rfl ?_
        exact key_16 _ _ _ (Nat.lt_succ_self _) (by omega) hal
  refine Z.pick [0, 1, 7, 6, 5, 4, 3, 2] rfl ?_
  exact key_6 _ _ _ (Nat.lt_succ_self _) (by omega) (mp_0 hmd.1)

set_option maxHeartbeats 4000000 in
set_option maxRecDepth 100000 in
theorem ct_X7_isOn_z (l : Launch) (D : va_G) (ce : Nat → ClassId) (h : Nat → Nat) (F : Nat → Int) (I : Nat → Nat → Int32) (J : Nat → Nat → Int64) (xx yy ww : Int64) (Dg : Int) (hDg : 0 ≤ Dg ∧ Dg ≤ 6 ∧ I 2 1 = zI Dg) (hsu : SU (fun q => J 1 (49 + q)) Dg) : Ct l yX7_isOn cX7_isOn 8 (some .int) { frames := 2, cells := 0, slots := 0, locals := 61 } 0 0 D (TY ce) [.ref (h 0), .int (zI 1), .long xx, .long yy, .long ww] (rW ce h F I J) (QI D (TY ce) (fun r w1 => ∃ z : Int, r = zI z ∧ w1 = rW ce h F I J ∧ (z = 0 ∨ z = 1) ∧ (ts (fun q => J 1 (49 + q)) Dg.toNat xx.toInt yy.toInt ww.toInt 49 = 0 → z = 1))) := by
  refine Ct.ofI (by decide) (Nat.le_of_ble_eq_true rfl) ?_
  intro p e s m args below meth c A Q hX hnm hR
  refine Z.pick (lv' := [(0, .ref (h 0)), (1, .int (zI 1)), (2, .long xx), (4, .long yy), (6, .long ww)]) [0, 1, 2, 3, 4] rfl ?_
  refine Z.aload_n hX dX7_isOn_0 rfl rfl ?_
  refine Z.iload_n hX dX7_isOn_1 rfl rfl ?_
  refine Z.lload_n hX dX7_isOn_2 rfl rfl ?_
  refine Z.lload hX dX7_isOn_3 rfl ?_
  refine Z.lload hX dX7_isOn_5 rfl ?_
  refine Z.ldc2 hX dX7_isOn_7 co_X7_157 ?_
  refine Z.callVfl (As := [.int (zI 1), .long xx, .long yy, .long ww, .long 2147483647]) (rest := []) hX 7 0 rfl rfl (ct_X7_traced_z l D ce h F I J xx yy ww 2147483647 Dg (by decide) hDg hsu) mc_X7_traced ml_X7_159 im_X7_traced se_X7_traced ini_X7 nd_X7_traced ⟨Nat.le_of_ble_eq_true rfl, Nat.le_of_ble_eq_true rfl⟩ ⟨rfl, rfl⟩ ⟨Nat.le_refl _, Nat.le_refl _⟩ rfl (Nat.le_of_ble_eq_true rfl) dX7_isOn_10 ?_
  rintro ra w1 ⟨r02, hr_, hw_, hra⟩
  subst hr_
  subst hw_
  refine Z.lconst (v := 0) hX dX7_isOn_13 rfl ?_
  refine Z.lcmp_ne hX 40 dX7_isOn_14 dX7_isOn_15 (by decide) ?_ ?_
  · intro c3
    refine Z.iconst hX dX7_isOn_40 ?_
    exact hR _ _ _ _ dX7_isOn_41 ⟨0, rfl, rfl, (by omega), (fun q => by first | exact absurd (mo_z hrb q) (by assumption) | exact absurd (mo_z hra q) (by assumption))⟩
  · intro c3
    refine Z.aload_n hX dX7_isOn_18 rfl rfl ?_
    refine Z.iload_n hX dX7_isOn_19 rfl rfl ?_
    refine Z.lload_n hX dX7_isOn_20 rfl rfl ?_
    refine Z.lload hX dX7_isOn_21 rfl ?_
    refine Z.lload hX dX7_isOn_23 rfl ?_
    refine Z.ldc2 hX dX7_isOn_25 co_X7_163 ?_
    refine Z.callVfl (As := [.int (zI 1), .long xx, .long yy, .long ww, .long 2147483629]) (rest := []) hX 7 0 rfl rfl (ct_X7_traced_z l D ce h F I J xx yy ww 2147483629 Dg (by decide) hDg hsu) mc_X7_traced ml_X7_159 im_X7_traced se_X7_traced ini_X7 nd_X7_traced ⟨Nat.le_of_ble_eq_true rfl, Nat.le_of_ble_eq_true rfl⟩ ⟨rfl, rfl⟩ ⟨Nat.le_refl _, Nat.le_refl _⟩ rfl (Nat.le_of_ble_eq_true rfl) dX7_isOn_28 ?_
    rintro rb w1 ⟨r05, hr_, hw_, hrb⟩
    subst hr_
    subst hw_
    refine Z.lconst (v := 0) hX dX7_isOn_31 rfl ?_
    refine Z.lcmp_ne hX 40 dX7_isOn_32 dX7_isOn_33 (by decide) ?_ ?_
    · intro c6
      refine Z.iconst hX dX7_isOn_40 ?_
      exact hR _ _ _ _ dX7_isOn_41 ⟨0, rfl, rfl, (by omega), (fun q => by first | exact absurd (mo_z hrb q) (by assumption) | exact absurd (mo_z hra q) (by assumption))⟩
    · intro c6
      refine Z.iconst hX dX7_isOn_36 ?_
      refine Z.goto hX 41 dX7_isOn_37 (by decide) ?_
      exact hR _ _ _ _ dX7_isOn_41 ⟨1, rfl, rfl, (by omega), (fun _ => rfl)⟩

