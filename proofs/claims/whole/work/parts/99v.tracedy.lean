set_option maxHeartbeats 4000000 in
set_option maxRecDepth 100000 in
theorem ct_X7_rest_y (l : Launch) (D : va_G) (ce : Nat → ClassId) (v q : Int64) (hq : 1 ≤ q.toInt ∧ q.toInt ≤ 2147483647) : Ct l yX7_rest cX7_rest 4 (some .long) { frames := 0, cells := 0, slots := 0, locals := 0 } 0 0 D (TY ce) [.long v, .long q] ([]) (QL D (TY ce) (fun r w1 => ∃ r0 : Int64, r = r0 ∧ w1 = [] ∧ (mo q r0 v.toInt))) := by
  refine Ct.ofL (by decide) (Nat.le_of_ble_eq_true rfl) ?_
  intro p e s m args below meth c A Q hX hnm hR
  refine Z.pick (lv' := [(0, .long v), (2, .long q)]) [0, 1] rfl ?_
  have hq0 : ¬ q = 0 := fun z => by rw [z] at hq; exact absurd hq.1 (by decide)
  refine Z.lload_n hX dX7_rest_0 rfl rfl ?_
  refine Z.lload_n hX dX7_rest_1 rfl rfl ?_
  refine Z.lrem hX dX7_rest_2 (by assumption) ?_
  refine Z.lload_n hX dX7_rest_3 rfl rfl ?_
  refine Z.ladd hX dX7_rest_4 ?_
  refine Z.lload_n hX dX7_rest_5 rfl rfl ?_
  refine Z.lrem hX dX7_rest_6 (by assumption) ?_
  exact hR _ _ _ _ dX7_rest_7 ⟨(((v - v / q * q) + q) - ((v - v / q * q) + q) / q * q), rfl, rfl, (mo_rest hq)⟩

set_option maxHeartbeats 4000000 in
set_option maxRecDepth 100000 in
theorem ct_X7_traced_y (l : Launch) (D : va_G) (ce : Nat → ClassId) (h : Nat → Nat) (F : Nat → Int) (I : Nat → Nat → Int32) (J : Nat → Nat → Int64) (xx yy ww md : Int64) (Dg : Int) (hmd : 1 ≤ md.toInt ∧ md.toInt ≤ 2147483647) (hDg : 0 ≤ Dg ∧ Dg ≤ 4 ∧ I 2 0 = zI Dg) (hsu : SU (J 1) Dg) : Ct l yX7_traced cX7_traced 19 (some .long) { frames := 1, cells := 0, slots := 0, locals := 23 } 0 0 D (TY ce) [.ref (h 0), .int (zI 0), .long xx, .long yy, .long ww, .long md] (rW ce h F I J) (QL D (TY ce) (fun r w1 => ∃ r0 : Int64, r = r0 ∧ w1 = rW ce h F I J ∧ (mo md r0 (ts (J 1) Dg.toNat xx.toInt yy.toInt ww.toInt 49)))) := by
  refine Ct.ofL (by decide) (Nat.le_of_ble_eq_true rfl) ?_
  intro p e s m args below meth c A Q hX hnm hR
  refine Z.pick (lv' := [(0, .ref (h 0)), (1, .int (zI 0)), (2, .long xx), (4, .long yy), (6, .long ww), (8, .long md)]) [0, 1, 2, 3, 4, 5] rfl ?_
  have hm0 : ¬ md = 0 := fun z => by rw [z] at hmd; exact absurd hmd.1 (by decide)
  refine Z.lconst (v := 0) hX dX7_traced_0 rfl ?_
  refine Z.lstore (lv' := [(10, .long 0), (0, .ref (h 0)), (1, .int (zI 0)), (2, .long xx), (4, .long yy), (6, .long ww), (8, .long md)]) hX dX7_traced_1 (by decide) rfl ?_
  refine Z.iconst hX dX7_traced_3 ?_
  refine Z.istore (lv' := [(12, .int (zI 0)), (10, .long 0), (0, .ref (h 0)), (1, .int (zI 0)), (2, .long xx), (4, .long yy), (6, .long ww), (8, .long md)]) hX dX7_traced_4 (by decide) rfl ?_
  have key_6 : ∀ (N : Nat), ∀ (i : Int) (al : Int64), (7 - i).toNat < N → (hi1 : 0 ≤ i ∧ i ≤ 7) → (hal : mo md al (ts (J 1) Dg.toNat xx.toInt yy.toInt ww.toInt (7 * i + 0).toNat)) → Z p l e { frames := 1, cells := 0, slots := 0, locals := 23 } s m args below meth c D A 19 0 0 Q 6 [(12, .int (zI i)), (10, .long al), (8, .long md), (6, .long ww), (4, .long yy), (2, .long xx), (1, .int (zI 0)), (0, .ref (h 0))] [] (rW ce h F I J) := by
    intro N
    induction N with
    | zero => intro i al hm; exact absurd hm (Nat.not_lt_zero _)
    | succ N ih_6 =>
      intro i al hm hi1 hal
      refine Z.iload hX dX7_traced_6 rfl ?_
      refine Z.bipush hX dX7_traced_8 (by decide) ?_
      refine Z.icmp_ge hX 142 dX7_traced_10 (by decide) ⟨by omega, by omega⟩ ⟨by omega, by omega⟩ ?_ ?_
      · intro c1
        refine Z.lload hX dX7_traced_142 rfl ?_
        exact hR _ _ _ _ dX7_traced_144 ⟨al, rfl, rfl, (by have h2_ := hal; rw [show (7 * i + 0).toNat = 49 by omega] at h2_; exact h2_)⟩
      · intro c1
        refine Z.iconst hX dX7_traced_13 ?_
        refine Z.istore (lv' := [(13, .int (zI 0)), (12, .int (zI i)), (10, .long al), (8, .long md), (6, .long ww), (4, .long yy), (2, .long xx), (1, .int (zI 0)), (0, .ref (h 0))]) hX dX7_traced_14 (by decide) rfl ?_
        have key_16 : ∀ (N : Nat), ∀ (j : Int) (al : Int64), (7 - j).toNat < N → (hj1 : 0 ≤ j ∧ j ≤ 7) → (hal : mo md al (ts (J 1) Dg.toNat xx.toInt yy.toInt ww.toInt (7 * i + j).toNat)) → Z p l e { frames := 1, cells := 0, slots := 0, locals := 23 } s m args below meth c D A 19 0 0 Q 16 [(13, .int (zI j)), (12, .int (zI i)), (10, .long al), (8, .long md), (6, .long ww), (4, .long yy), (2, .long xx), (1, .int (zI 0)), (0, .ref (h 0))] [] (rW ce h F I J) := by
          intro N
          induction N with
          | zero => intro j al hm; exact absurd hm (Nat.not_lt_zero _)
          | succ N ih_16 =>
            intro j al hm hj1 hal
            refine Z.iload hX dX7_traced_16 rfl ?_
            refine Z.bipush hX dX7_traced_18 (by decide) ?_
            refine Z.icmp_ge hX 136 dX7_traced_20 (by decide) ⟨by omega, by omega⟩ ⟨by omega, by omega⟩ ?_ ?_
            · intro c2
              refine Z.iinc (lv' := [(12, .int (zI (i + 1))), (13, .int (zI j)), (10, .long al), (8, .long md), (6, .long ww), (4, .long yy), (2, .long xx), (1, .int (zI 0)), (0, .ref (h 0))]) hX dX7_traced_136 rfl (by decide) rfl ?_
              refine Z.goto hX 6 dX7_traced_139 (by decide) ?_
              refine Z.pick [0, 2, 3, 4, 5, 6, 7, 8] rfl ?_
              exact ih_6 _ _ (by omega) (by omega) (by rw [show (7 * (i + 1) + 0).toNat = (7 * i + j).toNat by omega]; exact hal)
            · intro c2
              refine Z.aload_n hX dX7_traced_23 rfl rfl ?_
              refine Z.getf hX 7 0 6 dX7_traced_24 rfl rfl inX7 (by decide) fl_X7_21 rfl rfl ?_
              refine Z.bipush hX dX7_traced_27 (by decide) ?_
              refine Z.iload_n hX dX7_traced_29 rfl rfl ?_
              refine Z.imul hX dX7_traced_30 ?_
              refine Z.bipush hX dX7_traced_31 (by decide) ?_
              refine Z.iload hX dX7_traced_33 rfl ?_
              refine Z.imul hX dX7_traced_35 ?_
              refine Z.iadd hX dX7_traced_36 ?_
              refine Z.iload hX dX7_traced_37 rfl ?_
              refine Z.iadd hX dX7_traced_39 ?_
              refine Z.laload hX 4 1 dX7_traced_40 rfl rfl (by omega) (by omega) (by decide) ?_
              refine Z.lstore (lv' := [(14, .long (J 1 (((49 * 0) + (7 * i)) + j : Int).toNat)), (13, .int (zI j)), (12, .int (zI i)), (10, .long al), (8, .long md), (6, .long ww), (4, .long yy), (2, .long xx), (1, .int (zI 0)), (0, .ref (h 0))]) hX dX7_traced_41 (by decide) rfl ?_
              refine Z.lload hX dX7_traced_43 rfl ?_
              refine Z.lconst (v := 0) hX dX7_traced_45 rfl ?_
              refine Z.lcmp_eq hX 130 dX7_traced_46 dX7_traced_47 (by decide) ?_ ?_
              · intro c3
                refine Z.iinc (lv' := [(13, .int (zI (j + 1))), (14, .long (J 1 (((49 * 0) + (7 * i)) + j : Int).toNat)), (12, .int (zI i)), (10, .long al), (8, .long md), (6, .long ww), (4, .long yy), (2, .long xx), (1, .int (zI 0)), (0, .ref (h 0))]) hX dX7_traced_130 rfl (by decide) rfl ?_
                refine Z.goto hX 16 dX7_traced_133 (by decide) ?_
                refine Z.pick [0, 2, 3, 4, 5, 6, 7, 8, 9] rfl ?_
                exact ih_16 _ _ (by omega) (by omega) (ts_z (by omega) (by omega) (by rw [show 7 * i + j = 49 * 0 + 7 * i + j by omega]; assumption) hal)
              · intro c3
                refine Z.lload hX dX7_traced_50 rfl ?_
                refine Z.lload hX dX7_traced_52 rfl ?_
                refine Z.callS0l (As := [.long (J 1 (((49 * 0) + (7 * i)) + j : Int).toNat), .long md]) (rest := []) hX (ct_X7_rest_y l D ce (J 1 (((49 * 0) + (7 * i)) + j : Int).toNat) md hmd) mc_X7_rest ml_X7_154 st_X7_rest ini_X7 nd_X7_rest ⟨Nat.le_of_ble_eq_true rfl, Nat.le_of_ble_eq_true rfl⟩ ⟨rfl, rfl⟩ ⟨Nat.le_refl _, Nat.le_refl _⟩ rfl (Nat.le_of_ble_eq_true rfl) dX7_traced_54 ?_
                rintro re w1 ⟨r05, hr_, hw_, hre⟩
                subst hr_
                refine ⟨hw_, ?_⟩
                refine Z.lstore (lv' := [(16, .long re), (14, .long (J 1 (((49 * 0) + (7 * i)) + j : Int).toNat)), (13, .int (zI j)), (12, .int (zI i)), (10, .long al), (8, .long md), (6, .long ww), (4, .long yy), (2, .long xx), (1, .int (zI 0)), (0, .ref (h 0))]) hX dX7_traced_57 (by decide) rfl ?_
                refine Z.iconst hX dX7_traced_59 ?_
                refine Z.istore (lv' := [(18, .int (zI 0)), (16, .long re), (14, .long (J 1 (((49 * 0) + (7 * i)) + j : Int).toNat)), (13, .int (zI j)), (12, .int (zI i)), (10, .long al), (8, .long md), (6, .long ww), (4, .long yy), (2, .long xx), (1, .int (zI 0)), (0, .ref (h 0))]) hX dX7_traced_60 (by decide) rfl ?_
                have key_62 : ∀ (N : Nat), ∀ (k : Int) (mm : Int64), (12 - k).toNat < N → (hk1 : 0 ≤ k ∧ k ≤ Dg) → (hmm : mo md mm ((J 1 (7 * i + j).toNat).toInt * pf i.toNat j.toNat xx.toInt yy.toInt ww.toInt k.toNat)) → Z p l e { frames := 1, cells := 0, slots := 0, locals := 23 } s m args below meth c D A 19 0 0 Q 62 [(18, .int (zI k)), (16, .long mm), (13, .int (zI j)), (12, .int (zI i)), (10, .long al), (8, .long md), (6, .long ww), (4, .long yy), (2, .long xx), (1, .int (zI 0)), (0, .ref (h 0))] [] (rW ce h F I J) := by
                  intro N
                  induction N with
                  | zero => intro k mm hm; exact absurd hm (Nat.not_lt_zero _)
                  | succ N ih_62 =>
                    intro k mm hm hk1 hmm
                    refine Z.iload hX dX7_traced_62 rfl ?_
                    refine Z.aload_n hX dX7_traced_64 rfl rfl ?_
                    refine Z.getf hX 7 0 7 dX7_traced_65 rfl rfl inX7 (by decide) fl_X7_24 rfl rfl ?_
                    refine Z.iload_n hX dX7_traced_68 rfl rfl ?_
                    refine Z.iaload hX 5 0 dX7_traced_69 rfl rfl (by omega) (by omega) (by decide) ?_
                    refine Z.topi (fun z6 hz6 kz6 ez6 => ?_)
                    have hdz : z6 = Dg := (zI_eq ⟨by omega, by omega⟩ ⟨by omega, by omega⟩).mp (ez6.symm.trans hDg.2.2)
                    refine Z.icmp_ge hX 120 dX7_traced_70 (by decide) ⟨by omega, by omega⟩ ⟨by omega, by omega⟩ ?_ ?_
                    · intro c7
                      refine Z.lload hX dX7_traced_120 rfl ?_
                      refine Z.lload hX dX7_traced_122 rfl ?_
                      refine Z.ladd hX dX7_traced_124 ?_
                      refine Z.lload hX dX7_traced_125 rfl ?_
                      refine Z.lrem hX dX7_traced_127 hm0 ?_
                      refine Z.lstore (lv' := [(10, .long ((al + mm) - (al + mm) / md * md)), (18, .int (zI k)), (16, .long mm), (13, .int (zI j)), (12, .int (zI i)), (8, .long md), (6, .long ww), (4, .long yy), (2, .long xx), (1, .int (zI 0)), (0, .ref (h 0))]) hX dX7_traced_128 (by decide) rfl ?_
                      refine Z.iinc (lv' := [(13, .int (zI (j + 1))), (10, .long ((al + mm) - (al + mm) / md * md)), (18, .int (zI k)), (16, .long mm), (12, .int (zI i)), (8, .long md), (6, .long ww), (4, .long yy), (2, .long xx), (1, .int (zI 0)), (0, .ref (h 0))]) hX dX7_traced_130 rfl (by decide) rfl ?_
                      refine Z.goto hX 16 dX7_traced_133 (by decide) ?_
                      refine Z.pick [0, 4, 1, 5, 6, 7, 8, 9, 10] rfl ?_
                      exact ih_16 _ _ (by omega) (by omega) (ts_s (k := k) (by omega) (by omega) hmd (by omega) hsu (by rw [show 7 * i + j = 49 * 0 + 7 * i + j by omega]; assumption) (by omega) hal hmm)
                    · intro c7
                      have key_103 : ∀ (vv : Int64), (hvv : vv.toInt = if k < i then xx.toInt else if k < i + j then yy.toInt else ww.toInt) → Z p l e { frames := 1, cells := 0, slots := 0, locals := 23 } s m args below meth c D A 19 0 0 Q 103 [(18, .int (zI k)), (13, .int (zI j)), (12, .int (zI i)), (10, .long al), (8, .long md), (6, .long ww), (4, .long yy), (2, .long xx), (1, .int (zI 0)), (0, .ref (h 0))] [.long vv, .long mm] (rW ce h F I J) := by
                        intro vv hvv
                        refine Z.lload hX dX7_traced_103 rfl ?_
                        refine Z.callS0l (As := [.long vv, .long md]) (rest := [.long mm]) hX (ct_X7_rest_y l D ce vv md hmd) mc_X7_rest ml_X7_154 st_X7_rest ini_X7 nd_X7_rest ⟨Nat.le_of_ble_eq_true rfl, Nat.le_of_ble_eq_true rfl⟩ ⟨rfl, rfl⟩ ⟨Nat.le_refl _, Nat.le_refl _⟩ rfl (Nat.le_of_ble_eq_true rfl) dX7_traced_105 ?_
                        rintro rf w1 ⟨r09, hr_, hw_, hrf⟩
                        subst hr_
                        refine ⟨hw_, ?_⟩
                        refine Z.lmul hX dX7_traced_108 ?_
                        refine Z.lload hX dX7_traced_109 rfl ?_
                        refine Z.lrem hX dX7_traced_111 hm0 ?_
                        refine Z.lstore (lv' := [(16, .long ((mm * rf) - (mm * rf) / md * md)), (18, .int (zI k)), (13, .int (zI j)), (12, .int (zI i)), (10, .long al), (8, .long md), (6, .long ww), (4, .long yy), (2, .long xx), (1, .int (zI 0)), (0, .ref (h 0))]) hX dX7_traced_112 (by decide) rfl ?_
                        refine Z.iinc (lv' := [(18, .int (zI (k + 1))), (16, .long ((mm * rf) - (mm * rf) / md * md)), (13, .int (zI j)), (12, .int (zI i)), (10, .long al), (8, .long md), (6, .long ww), (4, .long yy), (2, .long xx), (1, .int (zI 0)), (0, .ref (h 0))]) hX dX7_traced_114 rfl (by decide) rfl ?_
                        refine Z.goto hX 62 dX7_traced_117 (by decide) ?_
                        refine Z.pick [0, 1, 2, 3, 4, 5, 6, 7, 8, 9, 10] rfl ?_
                        exact ih_62 _ _ (by omega) (by omega) (pf_s (by omega) (by omega) (by omega) hmd hmm hvv hrf)
                      refine Z.lload hX dX7_traced_73 rfl ?_
                      refine Z.iload hX dX7_traced_75 rfl ?_
                      refine Z.iload hX dX7_traced_77 rfl ?_
                      refine Z.icmp_ge hX 86 dX7_traced_79 (by decide) ⟨by omega, by omega⟩ ⟨by omega, by omega⟩ ?_ ?_
                      · intro c10
                        refine Z.iload hX dX7_traced_86 rfl ?_
                        refine Z.iload hX dX7_traced_88 rfl ?_
                        refine Z.iload hX dX7_traced_90 rfl ?_
                        refine Z.iadd hX dX7_traced_92 ?_
                        refine Z.icmp_ge hX 101 dX7_traced_93 (by decide) ⟨by omega, by omega⟩ ⟨by omega, by omega⟩ ?_ ?_
                        · intro c11
                          refine Z.lload hX dX7_traced_101 rfl ?_
                          refine Z.pick [0, 2, 3, 4, 5, 6, 7, 8, 9, 10] rfl ?_
                          exact key_103 _ (by first | rw [if_pos (by omega)] | rw [if_neg (by omega), if_pos (by omega)] | rw [if_neg (by omega), if_neg (by omega)])
                        · intro c11
                          refine Z.lload hX dX7_traced_96 rfl ?_
                          refine Z.goto hX 103 dX7_traced_98 (by decide) ?_
                          refine Z.pick [0, 2, 3, 4, 5, 6, 7, 8, 9, 10] rfl ?_
                          exact key_103 _ (by first | rw [if_pos (by omega)] | rw [if_neg (by omega), if_pos (by omega)] | rw [if_neg (by omega), if_neg (by omega)])
                      · intro c10
                        refine Z.lload_n hX dX7_traced_82 rfl rfl ?_
                        refine Z.goto hX 103 dX7_traced_83 (by decide) ?_
                        refine Z.pick [0, 2, 3, 4, 5, 6, 7, 8, 9, 10] rfl ?_
                        exact key_103 _ (by first | rw [if_pos (by omega)] | rw [if_neg (by omega), if_pos (by omega)] | rw [if_neg (by omega), if_neg (by omega)])
                refine Z.pick [0, 1, 3, 4, 5, 6, 7, 8, 9, 10, 11] rfl ?_
                exact key_62 _ _ _ (Nat.lt_succ_self _) (by omega) (by rw [show 7 * i + j = 49 * 0 + 7 * i + j by omega]; have h2_ := hre; rw [← Int.mul_one (J 1 _).toInt] at h2_; exact h2_)
        refine Z.pick [0, 1, 2, 3, 4, 5, 6, 7, 8] rfl ?_
        exact key_16 _ _ _ (Nat.lt_succ_self _) (by omega) hal
  refine Z.pick [0, 1, 7, 6, 5, 4, 3, 2] rfl ?_
  exact key_6 _ _ _ (Nat.lt_succ_self _) (by omega) (mp_0 hmd.1)

set_option maxHeartbeats 4000000 in
set_option maxRecDepth 100000 in
theorem ct_X7_isOn_y (l : Launch) (D : va_G) (ce : Nat → ClassId) (h : Nat → Nat) (F : Nat → Int) (I : Nat → Nat → Int32) (J : Nat → Nat → Int64) (xx yy ww : Int64) (Dg : Int) (hDg : 0 ≤ Dg ∧ Dg ≤ 4 ∧ I 2 0 = zI Dg) (hsu : SU (J 1) Dg) : Ct l yX7_isOn cX7_isOn 8 (some .int) { frames := 2, cells := 0, slots := 0, locals := 61 } 0 0 D (TY ce) [.ref (h 0), .int (zI 0), .long xx, .long yy, .long ww] (rW ce h F I J) (QI D (TY ce) (fun r w1 => ∃ z : Int, r = zI z ∧ w1 = rW ce h F I J ∧ (z = 0 ∨ z = 1) ∧ (ts (J 1) Dg.toNat xx.toInt yy.toInt ww.toInt 49 = 0 → z = 1))) := by
  refine Ct.ofI (by decide) (Nat.le_of_ble_eq_true rfl) ?_
  intro p e s m args below meth c A Q hX hnm hR
  refine Z.pick (lv' := [(0, .ref (h 0)), (1, .int (zI 0)), (2, .long xx), (4, .long yy), (6, .long ww)]) [0, 1, 2, 3, 4] rfl ?_
  refine Z.aload_n hX dX7_isOn_0 rfl rfl ?_
  refine Z.iload_n hX dX7_isOn_1 rfl rfl ?_
  refine Z.lload_n hX dX7_isOn_2 rfl rfl ?_
  refine Z.lload hX dX7_isOn_3 rfl ?_
  refine Z.lload hX dX7_isOn_5 rfl ?_
  refine Z.ldc2 hX dX7_isOn_7 co_X7_157 ?_
  refine Z.callVfl (As := [.int (zI 0), .long xx, .long yy, .long ww, .long 2147483647]) (rest := []) hX 7 0 rfl rfl (ct_X7_traced_y l D ce h F I J xx yy ww 2147483647 Dg (by decide) hDg hsu) mc_X7_traced ml_X7_159 im_X7_traced se_X7_traced ini_X7 nd_X7_traced ⟨Nat.le_of_ble_eq_true rfl, Nat.le_of_ble_eq_true rfl⟩ ⟨rfl, rfl⟩ ⟨Nat.le_refl _, Nat.le_refl _⟩ rfl (Nat.le_of_ble_eq_true rfl) dX7_isOn_10 ?_
  rintro ra w1 ⟨r02, hr_, hw_, hra⟩
  subst hr_
  subst hw_
  refine Z.lconst (v := 0) hX dX7_isOn_13 rfl ?_
  refine Z.lcmp_ne hX 40 dX7_isOn_14 dX7_isOn_15 (by decide) ?_ ?_
  · intro c3
    refine Z.iconst hX dX7_isOn_40 ?_
    exact hR _ _ _ _ dX7_isOn_41 ⟨0, rfl, rfl, (by omega), (fun q => by first | exact absurd (mo_z hrb q) (by assumption) | exact absurd (mo_z hra q) (by assumption))⟩
  · intro c3
    refine Z.aload_n hX dX7_isOn_18 rfl rfl ?_
    refine Z.iload_n hX dX7_isOn_19 rfl rfl ?_
    refine Z.lload_n hX dX7_isOn_20 rfl rfl ?_
    refine Z.lload hX dX7_isOn_21 rfl ?_
    refine Z.lload hX dX7_isOn_23 rfl ?_
    refine Z.ldc2 hX dX7_isOn_25 co_X7_163 ?_
    refine Z.callVfl (As := [.int (zI 0), .long xx, .long yy, .long ww, .long 2147483629]) (rest := []) hX 7 0 rfl rfl (ct_X7_traced_y l D ce h F I J xx yy ww 2147483629 Dg (by decide) hDg hsu) mc_X7_traced ml_X7_159 im_X7_traced se_X7_traced ini_X7 nd_X7_traced ⟨Nat.le_of_ble_eq_true rfl, Nat.le_of_ble_eq_true rfl⟩ ⟨rfl, rfl⟩ ⟨Nat.le_refl _, Nat.le_refl _⟩ rfl (Nat.le_of_ble_eq_true rfl) dX7_isOn_28 ?_
    rintro rb w1 ⟨r05, hr_, hw_, hrb⟩
    subst hr_
    subst hw_
    refine Z.lconst (v := 0) hX dX7_isOn_31 rfl ?_
    refine Z.lcmp_ne hX 40 dX7_isOn_32 dX7_isOn_33 (by decide) ?_ ?_
    · intro c6
      refine Z.iconst hX dX7_isOn_40 ?_
      exact hR _ _ _ _ dX7_isOn_41 ⟨0, rfl, rfl, (by omega), (fun q => by first | exact absurd (mo_z hrb q) (by assumption) | exact absurd (mo_z hra q) (by assumption))⟩
    · intro c6
      refine Z.iconst hX dX7_isOn_36 ?_
      refine Z.goto hX 41 dX7_isOn_37 (by decide) ?_
      exact hR _ _ _ _ dX7_isOn_41 ⟨1, rfl, rfl, (by omega), (fun _ => rfl)⟩

