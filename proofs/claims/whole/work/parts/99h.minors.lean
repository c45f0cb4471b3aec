set_option maxHeartbeats 4000000 in
set_option maxRecDepth 100000 in
theorem ct_X7_minorsOf_y (l : Launch) (D : va_G) (ce : Nat → ClassId) (h : Nat → Nat) (F : Nat → Int) (I : Nat → Nat → Int32) (J : Nat → Nat → Int64) (n X Y : Int) (hn : 2 ≤ n ∧ n ≤ 8) (hXY : 0 ≤ X ∧ 0 ≤ Y ∧ (X ≤ 5 ∨ n ≤ 6) ∧ n - Y ≤ 6) (hE : EZ (J 4) X Y) : Ct l yX7_minorsOf cX7_minorsOf 12 none { frames := 1, cells := 0, slots := 0, locals := 22 } 0 0 D (TY ce) [.ref (h 0), .int (zI n)] (rW ce h F I J) (QV D (TY ce) (fun w1 => ∃ J2 : Nat → Nat → Int64, w1 = rW ce h F I J2 ∧ (∀ k, k ≠ 5 → J2 k = J k) ∧ (SS (J2 5) (Ey (J 4)) n.toNat ((2 ^ n.toNat : Nat) : Int)) ∧ (MZ (J2 5) X Y))) := by
  refine Ct.ofV (by decide) (Nat.le_of_ble_eq_true rfl) ?_
  intro p e s m args below meth c A Q hX hnm hR
  refine Z.pick (lv' := [(0, .ref (h 0)), (1, .int (zI n))]) [0, 1] rfl ?_
  obtain ⟨T, hT, hT1, hT2, hT3, hT4⟩ := sh1y (n := n) (by omega) hn.2
  refine Z.iconst hX dX7_minorsOf_0 ?_
  refine Z.istore_n (lv' := [(2, .int (zI 0)), (0, .ref (h 0)), (1, .int (zI n))]) hX dX7_minorsOf_1 rfl (by decide) rfl ?_
  have key_2 : ∀ (N : Nat), ∀ (k : Int) (M : Nat → Nat → Int64), (12544 - k).toNat < N → (hk : 0 ≤ k ∧ k ≤ 12544) → (hM : ∀ k, k ≠ 5 → M k = J k) → (hz : ∀ q : Int, 0 ≤ q → q < k → M 5 q.toNat = 0) → Z p l e { frames := 1, cells := 0, slots := 0, locals := 22 } s m args below meth c D A 12 0 0 Q 2 [(2, .int (zI k)), (1, .int (zI n)), (0, .ref (h 0))] [] (rW ce h F I M) := by
    intro N
    induction N with
    | zero => intro k M hm; exact absurd hm (Nat.not_lt_zero _)
    | succ N ih_2 =>
      intro k M hm hk hM hz
      refine Z.iload_n hX dX7_minorsOf_2 rfl rfl ?_
      refine Z.sipush hX dX7_minorsOf_3 (by decide) ?_
      refine Z.icmp_ge hX 22 dX7_minorsOf_6 (by decide) ⟨by omega, by omega⟩ ⟨by omega, by omega⟩ ?_ ?_
      · intro c1
        refine Z.aload_n hX dX7_minorsOf_22 rfl rfl ?_
        refine Z.getf hX 7 0 12 dX7_minorsOf_23 rfl rfl inX7 (by decide) fl_X7_39 rfl rfl ?_
        refine Z.iconst hX dX7_minorsOf_26 ?_
        refine Z.lconst (v := 1) hX dX7_minorsOf_27 rfl ?_
        refine Z.lastore hX 10 1 dX7_minorsOf_28 rfl rfl (by omega) (by omega) (by decide) ?_
        obtain ⟨J2, eJ2⟩ : ∃ J' : Nat → Nat → Int64, J' = va_up M 5 (vp_updL (M 5) (0 : Int).toNat (1)) := ⟨_, rfl⟩
        refine Z.toW (w' := rW ce h F I J2) (by rw [eJ2]; rfl) ?_
        have gJ2 : J2 5 = vp_updL (M 5) (0 : Int).toNat (1) := by rw [eJ2]; exact up_eq
        have fJ2 : ∀ j_, j_ ≠ 5 → J2 j_ = M j_ := fun j_ hj_ => by rw [eJ2]; exact up_ne hj_
        refine Z.iconst hX dX7_minorsOf_29 ?_
        refine Z.istore_n (lv' := [(2, .int (zI 1)), (1, .int (zI n)), (0, .ref (h 0))]) hX dX7_minorsOf_30 rfl (by decide) rfl ?_
        have key_31 : ∀ (N : Nat), ∀ (set : Int) (Ms : Nat → Nat → Int64), (256 - set).toNat < N → (hset : 1 ≤ set ∧ (set ≤ T ∨ set = 1)) → (hM : ∀ k, k ≠ 5 → Ms k = J k) → (hmz : MZ (Ms 5) X Y) → (hS : SS (Ms 5) (Ey (J 4)) n.toNat set) → Z p l e { frames := 1, cells := 0, slots := 0, locals := 22 } s m args below meth c D A 12 0 0 Q 31 [(2, .int (zI set)), (1, .int (zI n)), (0, .ref (h 0))] [] (rW ce h F I Ms) := by
          intro N
          induction N with
          | zero => intro set Ms hm; exact absurd hm (Nat.not_lt_zero _)
          | succ N ih_31 =>
            intro set Ms hm hset hM hmz hS
            refine Z.iload_n hX dX7_minorsOf_31 rfl rfl ?_
            refine Z.iconst hX dX7_minorsOf_32 ?_
            refine Z.iload_n hX dX7_minorsOf_33 rfl rfl ?_
            refine Z.ishl hX dX7_minorsOf_34 ?_
            refine Z.vali (y := zI T) hT ?_
            refine Z.icmp_ge hX 305 dX7_minorsOf_35 (by decide) ⟨by omega, by omega⟩ ⟨by omega, by omega⟩ ?_ ?_
            · intro c3
              exact hR _ _ _ dX7_minorsOf_305 ⟨Ms, rfl, (fun j_ h_5 => (hM j_ h_5)), (by rw [← hT4, show ((T.toNat : Nat) : Int) = set by omega]; exact hS), hmz⟩
            · intro c3
              refine Z.iload_n hX dX7_minorsOf_38 rfl rfl ?_
              refine Z.callS0i (As := [.int (zI set)]) (rest := []) hX (ct_X7_countOf l D ce set (by omega)) mc_X7_countOf ml_X7_86 st_X7_countOf ini_X7 nd_X7_countOf ⟨Nat.le_of_ble_eq_true rfl, Nat.le_of_ble_eq_true rfl⟩ ⟨rfl, rfl⟩ ⟨Nat.le_refl _, Nat.le_refl _⟩ rfl (Nat.le_of_ble_eq_true rfl) dX7_minorsOf_39 ?_
              rintro r_4 w1 ⟨pcs, hr_, hw_, epcs⟩
              subst hr_
              refine ⟨hw_, ?_⟩
              refine Z.iconst hX dX7_minorsOf_42 ?_
              refine Z.isub hX dX7_minorsOf_43 ?_
              refine Z.istore_n (lv' := [(3, .int (zI (pcs - 1))), (2, .int (zI set)), (1, .int (zI n)), (0, .ref (h 0))]) hX dX7_minorsOf_44 rfl (by decide) rfl ?_
              refine Z.iconst hX dX7_minorsOf_45 ?_
              refine Z.istore (lv' := [(4, .int (zI 1)), (3, .int (zI (pcs - 1))), (2, .int (zI set)), (1, .int (zI n)), (0, .ref (h 0))]) hX dX7_minorsOf_46 (by decide) rfl ?_
              refine Z.iload_n hX dX7_minorsOf_48 rfl rfl ?_
              refine Z.iconst hX dX7_minorsOf_49 ?_
              refine Z.isub hX dX7_minorsOf_50 ?_
              refine Z.istore (lv' := [(5, .int (zI (n - 1))), (4, .int (zI 1)), (3, .int (zI (pcs - 1))), (2, .int (zI set)), (1, .int (zI n)), (0, .ref (h 0))]) hX dX7_minorsOf_51 (by decide) rfl ?_
              have key_53 : ∀ (N : Nat), ∀ (cn sg : Int) (M : Nat → Nat → Int64), (cn + 1).toNat < N → (hc : -1 ≤ cn ∧ cn ≤ n - 1) → (hsg : -1 ≤ sg ∧ sg ≤ 1) → (hM : ∀ k, k ≠ 5 → M k = J k) → (hmz : MZ (M 5) X Y) → (hJ : MJ (Ms 5) (M 5) set (Cx (Ey (J 4)) n.toNat set.toNat (n - 1 - cn).toNat)) → (hsv : sg = dsg set.toNat n.toNat (n - 1 - cn).toNat) → Z p l e { frames := 1, cells := 0, slots := 0, locals := 22 } s m args below meth c D A 12 0 0 Q 53 [(5, .int (zI cn)), (4, .int (zI sg)), (3, .int (zI (pcs - 1))), (2, .int (zI set)), (1, .int (zI n)), (0, .ref (h 0))] [] (rW ce h F I M) := by
                intro N
                induction N with
                | zero => intro cn sg M hm; exact absurd hm (Nat.not_lt_zero _)
                | succ N ih_53 =>
                  intro cn sg M hm hc hsg hM hmz hJ hsv
                  have hpn := hT3 set (by omega) (by omega)
                  refine Z.iload hX dX7_minorsOf_53 rfl ?_
                  refine Z.if_lt hX 299 dX7_minorsOf_55 (by decide) ⟨by omega, by omega⟩ ?_ ?_
                  · intro c5
                    refine Z.iinc (lv' := [(2, .int (zI (set + 1))), (5, .int (zI cn)), (4, .int (zI sg)), (3, .int (zI (pcs - 1))), (1, .int (zI n)), (0, .ref (h 0))]) hX dX7_minorsOf_299 rfl (by decide) rfl ?_
                    refine Z.goto hX 31 dX7_minorsOf_302 (by decide) ?_
                    refine Z.pick [0, 4, 5] rfl ?_
                    exact ih_31 _ _ (by omega) (by omega) (fun j_ h_5 => (hM j_ h_5)) hmz (SS_n (by omega) (pc_1 (by omega) (by omega)) hS (by rw [show n.toNat = (n - 1 - cn).toNat by omega]; rw [show (n - 1 - cn).toNat = n.toNat by omega] at *; exact hJ))
                  · intro c5
                    obtain ⟨b, t, eb, eb1, eb3, eb4, eb2, eb5⟩ := bitd (s := set) (c := cn) (by omega) (by omega) (by omega) (by omega)
                    have key_293 : ∀ (sgk : Int) (Mk : Nat → Nat → Int64), (hsg : -1 ≤ sgk ∧ sgk ≤ 1) → (hM : ∀ k, k ≠ 5 → Mk k = J k) → (hmz : MZ (Mk 5) X Y) → (hJ2 : MJ (Ms 5) (Mk 5) set (Cx (Ey (J 4)) n.toNat set.toNat (n - 1 - (cn + -1)).toNat)) → (hs2 : sgk = dsg set.toNat n.toNat (n - 1 - (cn + -1)).toNat) → Z p l e { frames := 1, cells := 0, slots := 0, locals := 22 } s m args below meth c D A 12 0 0 Q 293 [(5, .int (zI cn)), (3, .int (zI (pcs - 1))), (2, .int (zI set)), (1, .int (zI n)), (0, .ref (h 0)), (4, .int (zI sgk))] [] (rW ce h F I Mk) := by
                      intro sgk Mk hsg hM hmz hJ2 hs2
                      refine Z.iinc (lv' := [(5, .int (zI (cn + -1))), (3, .int (zI (pcs - 1))), (2, .int (zI set)), (1, .int (zI n)), (0, .ref (h 0)), (4, .int (zI sgk))]) hX dX7_minorsOf_293 rfl (by decide) rfl ?_
                      refine Z.goto hX 53 dX7_minorsOf_296 (by decide) ?_
                      refine Z.pick [0, 5, 1, 2, 3, 4] rfl ?_
                      exact ih_53 _ _ _ (by omega) (by omega) (by omega) (fun j_ h_5 => (hM j_ h_5)) hmz hJ2 hs2
                    refine Z.iload_n hX dX7_minorsOf_58 rfl rfl ?_
                    refine Z.iload hX dX7_minorsOf_59 rfl ?_
                    refine Z.ishr hX dX7_minorsOf_61 ?_
                    refine Z.iconst hX dX7_minorsOf_62 ?_
                    refine Z.iand hX dX7_minorsOf_63 ?_
                    refine Z.vali (y := zI b) eb ?_
                    refine Z.iconst hX dX7_minorsOf_64 ?_
                    refine Z.icmp_ne hX 293 dX7_minorsOf_65 (by decide) ⟨by omega, by omega⟩ ⟨by omega, by omega⟩ ?_ ?_
                    · intro c6
                      refine Z.pick [0, 2, 3, 4, 5, 1] rfl ?_
                      exact key_293 _ _ (by omega) (fun j_ h_5 => (hM j_ h_5)) hmz (mn_col0 hn (by omega) (eb5 (by omega)) hsv hJ).1 (mn_col0 hn (by omega) (eb5 (by omega)) hsv hJ).2
                    · intro c6
                      have pt1 := (eb2 (by omega)).2.1
                      have tlt := (eb2 (by omega)).2.2.1
                      refine Z.bipush hX dX7_minorsOf_68 (by decide) ?_
                      refine Z.iload_n hX dX7_minorsOf_70 rfl rfl ?_
                      refine Z.iconst hX dX7_minorsOf_71 ?_
                      refine Z.iload hX dX7_minorsOf_72 rfl ?_
                      refine Z.ishl hX dX7_minorsOf_74 ?_
                      refine Z.ixor hX dX7_minorsOf_75 ?_
                      refine Z.vali (y := zI t) (eb2 (by omega)).1 ?_
                      refine Z.imul hX dX7_minorsOf_76 ?_
                      refine Z.istore (lv' := [(6, .int (zI (49 * t))), (5, .int (zI cn)), (4, .int (zI sg)), (3, .int (zI (pcs - 1))), (2, .int (zI set)), (1, .int (zI n)), (0, .ref (h 0))]) hX dX7_minorsOf_77 (by decide) rfl ?_
                      refine Z.iconst hX dX7_minorsOf_79 ?_
                      refine Z.bipush hX dX7_minorsOf_80 (by decide) ?_
                      refine Z.iload_n hX dX7_minorsOf_82 rfl rfl ?_
                      refine Z.imul hX dX7_minorsOf_83 ?_
                      refine Z.iload hX dX7_minorsOf_84 rfl ?_
                      refine Z.iadd hX dX7_minorsOf_86 ?_
                      refine Z.imul hX dX7_minorsOf_87 ?_
                      refine Z.istore (lv' := [(7, .int (zI (3 * ((8 * (pcs - 1)) + cn)))), (6, .int (zI (49 * t))), (5, .int (zI cn)), (4, .int (zI sg)), (3, .int (zI (pcs - 1))), (2, .int (zI set)), (1, .int (zI n)), (0, .ref (h 0))]) hX dX7_minorsOf_88 (by decide) rfl ?_
                      refine Z.iconst hX dX7_minorsOf_90 ?_
                      refine Z.istore (lv' := [(8, .int (zI 0)), (7, .int (zI (3 * ((8 * (pcs - 1)) + cn)))), (6, .int (zI (49 * t))), (5, .int (zI cn)), (4, .int (zI sg)), (3, .int (zI (pcs - 1))), (2, .int (zI set)), (1, .int (zI n)), (0, .ref (h 0))]) hX dX7_minorsOf_91 (by decide) rfl ?_
                      have key_93 : ∀ (N : Nat), ∀ (i : Int) (Mi : Nat → Nat → Int64), (7 - i).toNat < N → (hi : 0 ≤ i ∧ i ≤ 7) → (hM : ∀ k, k ≠ 5 → Mi k = J k) → (hmz : MZ (Mi 5) X Y) → (hF : MJ (M 5) (Mi 5) set (Fk (Cx (Ey (J 4)) n.toNat set.toNat (n - 1 - cn).toNat) sg (slc (M 5) t.toNat) (7 * i + 0).toNat (J 4 (3 * (8 * (pcs - 1) + cn)).toNat).toInt (J 4 (3 * (8 * (pcs - 1) + cn) + 1).toNat).toInt (J 4 (3 * (8 * (pcs - 1) + cn) + 2).toNat).toInt)) → Z p l e { frames := 1, cells := 0, slots := 0, locals := 22 } s m args below meth c D A 12 0 0 Q 93 [(8, .int (zI i)), (7, .int (zI (3 * (8 * (pcs - 1) + cn)))), (6, .int (zI (49 * t))), (5, .int (zI cn)), (4, .int (zI sg)), (3, .int (zI (pcs - 1))), (2, .int (zI set)), (1, .int (zI n)), (0, .ref (h 0))] [] (rW ce h F I Mi) := by
                        intro N
                        induction N with
                        | zero => intro i Mi hm; exact absurd hm (Nat.not_lt_zero _)
                        | succ N ih_93 =>
                          intro i Mi hm hi hM hmz hF
                          refine Z.iload hX dX7_minorsOf_93 rfl ?_
                          refine Z.bipush hX dX7_minorsOf_95 (by decide) ?_
                          refine Z.icmp_ge hX 288 dX7_minorsOf_97 (by decide) ⟨by omega, by omega⟩ ⟨by omega, by omega⟩ ?_ ?_
                          · intro c7
                            refine Z.iload hX dX7_minorsOf_288 rfl ?_
                            refine Z.ineg hX dX7_minorsOf_290 ?_
                            refine Z.istore (lv' := [(4, .int (zI (-sg))), (8, .int (zI i)), (7, .int (zI (3 * (8 * (pcs - 1) + cn)))), (6, .int (zI (49 * t))), (5, .int (zI cn)), (3, .int (zI (pcs - 1))), (2, .int (zI set)), (1, .int (zI n)), (0, .ref (h 0))]) hX dX7_minorsOf_291 (by decide) rfl ?_
                            refine Z.pick [4, 5, 6, 7, 8, 0] rfl ?_
                            exact key_293 _ _ (by omega) (fun j_ h_5 => (hM j_ h_5)) hmz (mn_col hn (by omega) (by omega) (by omega) pt1 (eb2 (by omega)).2.2.2.1 (eb2 (by omega)).2.2.2.2 hsv (by omega) hS hJ (by omega) hF).1 (mn_col hn (by omega) (by omega) (by omega) pt1 (eb2 (by omega)).2.2.2.1 (eb2 (by omega)).2.2.2.2 hsv (by omega) hS hJ (by omega) hF).2
                          · intro c7
                            refine Z.iconst hX dX7_minorsOf_100 ?_
                            refine Z.istore (lv' := [(9, .int (zI 0)), (8, .int (zI i)), (7, .int (zI (3 * (8 * (pcs - 1) + cn)))), (6, .int (zI (49 * t))), (5, .int (zI cn)), (4, .int (zI sg)), (3, .int (zI (pcs - 1))), (2, .int (zI set)), (1, .int (zI n)), (0, .ref (h 0))]) hX dX7_minorsOf_101 (by decide) rfl ?_
                            have key_103 : ∀ (N : Nat), ∀ (j : Int) (Mi : Nat → Nat → Int64), (7 - j).toNat < N → (hj : 0 ≤ j ∧ j ≤ 7) → (hM : ∀ k, k ≠ 5 → Mi k = J k) → (hmz : MZ (Mi 5) X Y) → (hG : MJ (M 5) (Mi 5) set (Fk (Cx (Ey (J 4)) n.toNat set.toNat (n - 1 - cn).toNat) sg (slc (M 5) t.toNat) (7 * i + j).toNat (J 4 (3 * (8 * (pcs - 1) + cn)).toNat).toInt (J 4 (3 * (8 * (pcs - 1) + cn) + 1).toNat).toInt (J 4 (3 * (8 * (pcs - 1) + cn) + 2).toNat).toInt)) → Z p l e { frames := 1, cells := 0, slots := 0, locals := 22 } s m args below meth c D A 12 0 0 Q 103 [(9, .int (zI j)), (8, .int (zI i)), (7, .int (zI (3 * (8 * (pcs - 1) + cn)))), (6, .int (zI (49 * t))), (5, .int (zI cn)), (4, .int (zI sg)), (3, .int (zI (pcs - 1))), (2, .int (zI set)), (1, .int (zI n)), (0, .ref (h 0))] [] (rW ce h F I Mi) := by
                              intro N
                              induction N with
                              | zero => intro j Mi hm; exact absurd hm (Nat.not_lt_zero _)
                              | succ N ih_103 =>
                                intro j Mi hm hj hM hmz hG
                                refine Z.iload hX dX7_minorsOf_103 rfl ?_
                                refine Z.bipush hX dX7_minorsOf_105 (by decide) ?_
                                refine Z.icmp_ge hX 282 dX7_minorsOf_107 (by decide) ⟨by omega, by omega⟩ ⟨by omega, by omega⟩ ?_ ?_
                                · intro c8
                                  refine Z.iinc (lv' := [(8, .int (zI (i + 1))), (9, .int (zI j)), (7, .int (zI (3 * (8 * (pcs - 1) + cn)))), (6, .int (zI (49 * t))), (5, .int (zI cn)), (4, .int (zI sg)), (3, .int (zI (pcs - 1))), (2, .int (zI set)), (1, .int (zI n)), (0, .ref (h 0))]) hX dX7_minorsOf_282 rfl (by decide) rfl ?_
                                  refine Z.goto hX 93 dX7_minorsOf_285 (by decide) ?_
                                  refine Z.pick [0, 2, 3, 4, 5, 6, 7, 8, 9] rfl ?_
                                  exact ih_93 _ _ (by omega) (by omega) (fun j_ h_5 => (hM j_ h_5)) hmz (by rw [show (7 * (i + 1) + 0).toNat = (7 * i + j).toNat by omega]; exact hG)
                                · intro c8
                                  have key_276 : ∀ (Mi : Nat → Nat → Int64), (hM : ∀ k, k ≠ 5 → Mi k = J k) → (hmz : MZ (Mi 5) X Y) → (hG2 : MJ (M 5) (Mi 5) set (Fk (Cx (Ey (J 4)) n.toNat set.toNat (n - 1 - cn).toNat) sg (slc (M 5) t.toNat) (7 * i + (j + 1)).toNat (J 4 (3 * (8 * (pcs - 1) + cn)).toNat).toInt (J 4 (3 * (8 * (pcs - 1) + cn) + 1).toNat).toInt (J 4 (3 * (8 * (pcs - 1) + cn) + 2).toNat).toInt)) → Z p l e { frames := 1, cells := 0, slots := 0, locals := 22 } s m args below meth c D A 12 0 0 Q 276 [(9, .int (zI j)), (8, .int (zI i)), (7, .int (zI (3 * (8 * (pcs - 1) + cn)))), (6, .int (zI (49 * t))), (5, .int (zI cn)), (4, .int (zI sg)), (3, .int (zI (pcs - 1))), (2, .int (zI set)), (1, .int (zI n)), (0, .ref (h 0))] [] (rW ce h F I Mi) := by
                                    intro Mi hM hmz hG2
                                    refine Z.iinc (lv' := [(9, .int (zI (j + 1))), (8, .int (zI i)), (7, .int (zI (3 * (8 * (pcs - 1) + cn)))), (6, .int (zI (49 * t))), (5, .int (zI cn)), (4, .int (zI sg)), (3, .int (zI (pcs - 1))), (2, .int (zI set)), (1, .int (zI n)), (0, .ref (h 0))]) hX dX7_minorsOf_276 rfl (by decide) rfl ?_
                                    refine Z.goto hX 103 dX7_minorsOf_279 (by decide) ?_
                                    refine Z.pick [0, 1, 2, 3, 4, 5, 6, 7, 8, 9] rfl ?_
                                    exact ih_103 _ _ (by omega) (by omega) (fun j_ h_5 => (hM j_ h_5)) hmz hG2
                                  refine Z.aload_n hX dX7_minorsOf_110 rfl rfl ?_
                                  refine Z.getf hX 7 0 12 dX7_minorsOf_111 rfl rfl inX7 (by decide) fl_X7_39 rfl rfl ?_
                                  refine Z.iload hX dX7_minorsOf_114 rfl ?_
                                  refine Z.bipush hX dX7_minorsOf_116 (by decide) ?_
                                  refine Z.iload hX dX7_minorsOf_118 rfl ?_
                                  refine Z.imul hX dX7_minorsOf_120 ?_
                                  refine Z.iadd hX dX7_minorsOf_121 ?_
                                  refine Z.iload hX dX7_minorsOf_122 rfl ?_
                                  refine Z.iadd hX dX7_minorsOf_124 ?_
                                  refine Z.laload hX 10 1 dX7_minorsOf_125 rfl rfl (by omega) (by omega) (by decide) ?_
                                  refine Z.lstore (lv' := [(10, .long (Mi 5 (((49 * t) + (7 * i)) + j : Int).toNat)), (9, .int (zI j)), (8, .int (zI i)), (7, .int (zI (3 * (8 * (pcs - 1) + cn)))), (6, .int (zI (49 * t))), (5, .int (zI cn)), (4, .int (zI sg)), (3, .int (zI (pcs - 1))), (2, .int (zI set)), (1, .int (zI n)), (0, .ref (h 0))]) hX dX7_minorsOf_126 (by decide) rfl ?_
                                  obtain ⟨mm, emm⟩ : ∃ x : Int64, x = Mi 5 (((49 * t) + (7 * i)) + j : Int).toNat := ⟨_, rfl⟩
                                  rw [← emm]
                                  have hmm : slc (M 5) t.toNat (7 * i + j).toNat = mm := by
                                                                                          rw [emm, hG.1 _ (by omega) (by omega)]
                                                                                          show M 5 (49 * t.toNat + (7 * i + j).toNat) = _
                                                                                          congr 1
                                                                                          omega
                                  refine Z.lload hX dX7_minorsOf_128 rfl ?_
                                  refine Z.lconst (v := 0) hX dX7_minorsOf_130 rfl ?_
                                  refine Z.lcmp_eq hX 276 dX7_minorsOf_131 dX7_minorsOf_132 (by decide) ?_ ?_
                                  · intro c9
                                    refine Z.pick [1, 2, 3, 4, 5, 6, 7, 8, 9, 10] rfl ?_
                                    exact key_276 _ (fun j_ h_5 => (hM j_ h_5)) hmz (mn_z (by omega) (by omega) (by rw [hmm]; assumption) hG)
                                  · intro c9
                                    obtain ⟨hb1, hb2⟩ := hmz t i j (by omega) (by omega) (by omega) (by omega) (by omega) (by omega) (by rw [← emm]; assumption)
                                    have key_223 : ∀ (Mi : Nat → Nat → Int64), (hM : ∀ k, k ≠ 5 → Mi k = J k) → (hmz : MZ (Mi 5) X Y) → (hG1 : MJ (M 5) (Mi 5) set (fun z => Fk (Cx (Ey (J 4)) n.toNat set.toNat (n - 1 - cn).toNat) sg (slc (M 5) t.toNat) (7 * i + j).toNat (J 4 (3 * (8 * (pcs - 1) + cn)).toNat).toInt (J 4 (3 * (8 * (pcs - 1) + cn) + 1).toNat).toInt (J 4 (3 * (8 * (pcs - 1) + cn) + 2).toNat).toInt z + sg * mm.toInt * ((J 4 (3 * (8 * (pcs - 1) + cn)).toNat).toInt * z ^ (7 * i + j).toNat + (J 4 (3 * (8 * (pcs - 1) + cn) + 1).toNat).toInt * z ^ ((7 * i + j).toNat + 7)))) → Z p l e { frames := 1, cells := 0, slots := 0, locals := 22 } s m args below meth c D A 12 0 0 Q 223 [(9, .int (zI j)), (8, .int (zI i)), (7, .int (zI (3 * (8 * (pcs - 1) + cn)))), (6, .int (zI (49 * t))), (5, .int (zI cn)), (4, .int (zI sg)), (3, .int (zI (pcs - 1))), (2, .int (zI set)), (1, .int (zI n)), (0, .ref (h 0)), (10, .long mm)] [] (rW ce h F I Mi) := by
                                      intro Mi hM hmz hG1
                                      refine Z.aload_n hX dX7_minorsOf_223 rfl rfl ?_
                                      refine Z.getf hX 7 0 11 dX7_minorsOf_224 rfl rfl inX7 (by decide) fl_X7_36 rfl rfl ?_
                                      refine Z.iload hX dX7_minorsOf_227 rfl ?_
                                      refine Z.iconst hX dX7_minorsOf_229 ?_
                                      refine Z.iadd hX dX7_minorsOf_230 ?_
                                      refine Z.laload hX 9 1 dX7_minorsOf_231 rfl rfl (by omega) (by omega) (by decide) ?_
                                      refine Z.lconst (v := 0) hX dX7_minorsOf_232 rfl ?_
                                      refine Z.lcmp_eq hX 276 dX7_minorsOf_233 dX7_minorsOf_234 (by decide) ?_ ?_
                                      · intro c10
                                        refine Z.pick [0, 1, 2, 3, 4, 5, 6, 7, 8, 9] rfl ?_
                                        exact key_276 _ (fun j_ h_5 => (hM j_ h_5)) hmz (mn_c0 (by omega) (by omega) hmm (by rw [← hM 4 (by decide)]; assumption) hG1)
                                      · intro c10
                                        have hyr : Y ≤ (pc8 t.toNat : Int) := by have := EZ_y (r := pcs - 1) (c := cn) hE (by rw [← hM 4 (by decide)]; assumption) (by omega) (by omega); omega
                                        have hbj := (bY_s hyr hb2).2
                                        refine Z.aload_n hX dX7_minorsOf_237 rfl rfl ?_
                                        refine Z.getf hX 7 0 12 dX7_minorsOf_238 rfl rfl inX7 (by decide) fl_X7_39 rfl rfl ?_
                                        refine Z.bipush hX dX7_minorsOf_241 (by decide) ?_
                                        refine Z.iload_n hX dX7_minorsOf_243 rfl rfl ?_
                                        refine Z.imul hX dX7_minorsOf_244 ?_
                                        refine Z.bipush hX dX7_minorsOf_245 (by decide) ?_
                                        refine Z.iload hX dX7_minorsOf_247 rfl ?_
                                        refine Z.imul hX dX7_minorsOf_249 ?_
                                        refine Z.iadd hX dX7_minorsOf_250 ?_
                                        refine Z.iload hX dX7_minorsOf_251 rfl ?_
                                        refine Z.iadd hX dX7_minorsOf_253 ?_
                                        refine Z.iconst hX dX7_minorsOf_254 ?_
                                        refine Z.iadd hX dX7_minorsOf_255 ?_
                                        refine Z.dup2 hX dX7_minorsOf_256 rfl rfl ?_
                                        refine Z.laload hX 10 1 dX7_minorsOf_257 rfl rfl (by omega) (by omega) (by decide) ?_
                                        refine Z.iload hX dX7_minorsOf_258 rfl ?_
                                        refine Z.i2l hX dX7_minorsOf_260 ⟨by omega, by omega⟩ ?_
                                        refine Z.lload hX dX7_minorsOf_261 rfl ?_
                                        refine Z.lmul hX dX7_minorsOf_263 ?_
                                        refine Z.aload_n hX dX7_minorsOf_264 rfl rfl ?_
                                        refine Z.getf hX 7 0 11 dX7_minorsOf_265 rfl rfl inX7 (by decide) fl_X7_36 rfl rfl ?_
                                        refine Z.iload hX dX7_minorsOf_268 rfl ?_
                                        refine Z.iconst hX dX7_minorsOf_270 ?_
                                        refine Z.iadd hX dX7_minorsOf_271 ?_
                                        refine Z.laload hX 9 1 dX7_minorsOf_272 rfl rfl (by omega) (by omega) (by decide) ?_
                                        refine Z.lmul hX dX7_minorsOf_273 ?_
                                        refine Z.ladd hX dX7_minorsOf_274 ?_
                                        refine Z.lastore hX 10 1 dX7_minorsOf_275 rfl rfl (by omega) (by omega) (by decide) ?_
                                        obtain ⟨J11, eJ11⟩ : ∃ J' : Nat → Nat → Int64, J' = va_up Mi 5 (vp_updL (Mi 5) ((((49 * set) + (7 * i)) + j) + 1 : Int).toNat ((Mi 5 ((((49 * set) + (7 * i)) + j) + 1 : Int).toNat) + (((zL sg) * mm) * (Mi 4 ((3 * (8 * (pcs - 1) + cn)) + 2 : Int).toNat)))) := ⟨_, rfl⟩
                                        refine Z.toW (w' := rW ce h F I J11) (by rw [eJ11]; rfl) ?_
                                        have gJ11 : J11 5 = vp_updL (Mi 5) ((((49 * set) + (7 * i)) + j) + 1 : Int).toNat ((Mi 5 ((((49 * set) + (7 * i)) + j) + 1 : Int).toNat) + (((zL sg) * mm) * (Mi 4 ((3 * (8 * (pcs - 1) + cn)) + 2 : Int).toNat))) := by rw [eJ11]; exact up_eq
                                        have fJ11 : ∀ j_, j_ ≠ 5 → J11 j_ = Mi j_ := fun j_ hj_ => by rw [eJ11]; exact up_ne hj_
                                        refine Z.pick [0, 1, 2, 3, 4, 5, 6, 7, 8, 9] rfl ?_
                                        exact key_276 _ (fun j_ h_5 => ((fJ11 j_ h_5).trans (hM j_ h_5))) (MZ_s (s0 := set) (i0 := i) (j0 := j + 1) (by omega) (by omega) (by omega) (by have := bX_m hb1; rw [pt1] at this; exact this) (by have := (bY_s hyr hb2).1; rw [pt1] at this; exact this) hmz (by omega) gJ11) (mn_c (by omega) (by omega) (by omega) hmm rfl (by rw [← hM 4 (by decide)]; exact gJ11) hG1)
                                    refine Z.aload_n hX dX7_minorsOf_135 rfl rfl ?_
                                    refine Z.getf hX 7 0 12 dX7_minorsOf_136 rfl rfl inX7 (by decide) fl_X7_39 rfl rfl ?_
                                    refine Z.bipush hX dX7_minorsOf_139 (by decide) ?_
                                    refine Z.iload_n hX dX7_minorsOf_141 rfl rfl ?_
                                    refine Z.imul hX dX7_minorsOf_142 ?_
                                    refine Z.bipush hX dX7_minorsOf_143 (by decide) ?_
                                    refine Z.iload hX dX7_minorsOf_145 rfl ?_
                                    refine Z.imul hX dX7_minorsOf_147 ?_
                                    refine Z.iadd hX dX7_minorsOf_148 ?_
                                    refine Z.iload hX dX7_minorsOf_149 rfl ?_
                                    refine Z.iadd hX dX7_minorsOf_151 ?_
                                    refine Z.dup2 hX dX7_minorsOf_152 rfl rfl ?_
                                    refine Z.laload hX 10 1 dX7_minorsOf_153 rfl rfl (by omega) (by omega) (by decide) ?_
                                    refine Z.iload hX dX7_minorsOf_154 rfl ?_
                                    refine Z.i2l hX dX7_minorsOf_156 ⟨by omega, by omega⟩ ?_
                                    refine Z.lload hX dX7_minorsOf_157 rfl ?_
                                    refine Z.lmul hX dX7_minorsOf_159 ?_
                                    refine Z.aload_n hX dX7_minorsOf_160 rfl rfl ?_
                                    refine Z.getf hX 7 0 11 dX7_minorsOf_161 rfl rfl inX7 (by decide) fl_X7_36 rfl rfl ?_
                                    refine Z.iload hX dX7_minorsOf_164 rfl ?_
                                    refine Z.laload hX 9 1 dX7_minorsOf_166 rfl rfl (by omega) (by omega) (by decide) ?_
                                    refine Z.lmul hX dX7_minorsOf_167 ?_
                                    refine Z.ladd hX dX7_minorsOf_168 ?_
                                    refine Z.lastore hX 10 1 dX7_minorsOf_169 rfl rfl (by omega) (by omega) (by decide) ?_
                                    obtain ⟨J12, eJ12⟩ : ∃ J' : Nat → Nat → Int64, J' = va_up Mi 5 (vp_updL (Mi 5) (((49 * set) + (7 * i)) + j : Int).toNat ((Mi 5 (((49 * set) + (7 * i)) + j : Int).toNat) + (((zL sg) * mm) * (Mi 4 (3 * (8 * (pcs - 1) + cn) : Int).toNat)))) := ⟨_, rfl⟩
                                    refine Z.toW (w' := rW ce h F I J12) (by rw [eJ12]; rfl) ?_
                                    have gJ12 : J12 5 = vp_updL (Mi 5) (((49 * set) + (7 * i)) + j : Int).toNat ((Mi 5 (((49 * set) + (7 * i)) + j : Int).toNat) + (((zL sg) * mm) * (Mi 4 (3 * (8 * (pcs - 1) + cn) : Int).toNat))) := by rw [eJ12]; exact up_eq
                                    have fJ12 : ∀ j_, j_ ≠ 5 → J12 j_ = Mi j_ := fun j_ hj_ => by rw [eJ12]; exact up_ne hj_
                                    have hMA : ∀ k, k ≠ 5 → J12 k = J k := (fun j_ h_5 => ((fJ12 j_ h_5).trans (hM j_ h_5)))
                                    have hmzA : MZ (J12 5) X Y := (MZ_s (s0 := set) (i0 := i) (j0 := j) (by omega) (by omega) (by omega) (by have := bX_m hb1; rw [pt1] at this; exact this) (by have := bY_m hb2; rw [pt1] at this; exact this) hmz (by omega) gJ12)
                                    have hGA := mn_a (m' := J12 5) (sg := sg) (by omega) (by omega) (by omega) hmm rfl (by rw [← hM 4 (by decide)]; exact gJ12) hG
                                    refine Z.aload_n hX dX7_minorsOf_170 rfl rfl ?_
                                    refine Z.getf hX 7 0 11 dX7_minorsOf_171 rfl rfl inX7 (by decide) fl_X7_36 rfl rfl ?_
                                    refine Z.iload hX dX7_minorsOf_174 rfl ?_
                                    refine Z.iconst hX dX7_minorsOf_176 ?_
                                    refine Z.iadd hX dX7_minorsOf_177 ?_
                                    refine Z.laload hX 9 1 dX7_minorsOf_178 rfl rfl (by omega) (by omega) (by decide) ?_
                                    refine Z.lconst (v := 0) hX dX7_minorsOf_179 rfl ?_
                                    refine Z.lcmp_eq hX 223 dX7_minorsOf_180 dX7_minorsOf_181 (by decide) ?_ ?_
                                    · intro c13
                                      refine Z.pick [1, 2, 3, 4, 5, 6, 7, 8, 9, 10, 0] rfl ?_
                                      exact key_223 _ hMA hmzA (mn_b0 (by rw [← hMA 4 (by decide)]; assumption) hGA)
                                    · intro c13
                                      have hxr : (pc8 t.toNat : Int) < X := by have := EZ_x (r := pcs - 1) (c := cn) hE (by rw [← hMA 4 (by decide)]; assumption) (by omega) (by omega); omega
                                      have hbi := (bX_s hxr hb1).2
                                      refine Z.aload_n hX dX7_minorsOf_184 rfl rfl ?_
                                      refine Z.getf hX 7 0 12 dX7_minorsOf_185 rfl rfl inX7 (by decide) fl_X7_39 rfl rfl ?_
                                      refine Z.bipush hX dX7_minorsOf_188 (by decide) ?_
                                      refine Z.iload_n hX dX7_minorsOf_190 rfl rfl ?_
                                      refine Z.imul hX dX7_minorsOf_191 ?_
                                      refine Z.bipush hX dX7_minorsOf_192 (by decide) ?_
                                      refine Z.iload hX dX7_minorsOf_194 rfl ?_
                                      refine Z.iconst hX dX7_minorsOf_196 ?_
                                      refine Z.iadd hX dX7_minorsOf_197 ?_
                                      refine Z.imul hX dX7_minorsOf_198 ?_
                                      refine Z.iadd hX dX7_minorsOf_199 ?_
                                      refine Z.iload hX dX7_minorsOf_200 rfl ?_
                                      refine Z.iadd hX dX7_minorsOf_202 ?_
                                      refine Z.dup2 hX dX7_minorsOf_203 rfl rfl ?_
                                      refine Z.laload hX 10 1 dX7_minorsOf_204 rfl rfl (by omega) (by omega) (by decide) ?_
                                      refine Z.iload hX dX7_minorsOf_205 rfl ?_
                                      refine Z.i2l hX dX7_minorsOf_207 ⟨by omega, by omega⟩ ?_
                                      refine Z.lload hX dX7_minorsOf_208 rfl ?_
                                      refine Z.lmul hX dX7_minorsOf_210 ?_
                                      refine Z.aload_n hX dX7_minorsOf_211 rfl rfl ?_
                                      refine Z.getf hX 7 0 11 dX7_minorsOf_212 rfl rfl inX7 (by decide) fl_X7_36 rfl rfl ?_
                                      refine Z.iload hX dX7_minorsOf_215 rfl ?_
                                      refine Z.iconst hX dX7_minorsOf_217 ?_
                                      refine Z.iadd hX dX7_minorsOf_218 ?_
                                      refine Z.laload hX 9 1 dX7_minorsOf_219 rfl rfl (by omega) (by omega) (by decide) ?_
                                      refine Z.lmul hX dX7_minorsOf_220 ?_
                                      refine Z.ladd hX dX7_minorsOf_221 ?_
                                      refine Z.lastore hX 10 1 dX7_minorsOf_222 rfl rfl (by omega) (by omega) (by decide) ?_
                                      obtain ⟨J14, eJ14⟩ : ∃ J' : Nat → Nat → Int64, J' = va_up J12 5 (vp_updL (J12 5) (((49 * set) + (7 * (i + 1))) + j : Int).toNat ((J12 5 (((49 * set) + (7 * (i + 1))) + j : Int).toNat) + (((zL sg) * mm) * (J12 4 ((3 * (8 * (pcs - 1) + cn)) + 1 : Int).toNat)))) := ⟨_, rfl⟩
                                      refine Z.toW (w' := rW ce h F I J14) (by rw [eJ14]; rfl) ?_
                                      have gJ14 : J14 5 = vp_updL (J12 5) (((49 * set) + (7 * (i + 1))) + j : Int).toNat ((J12 5 (((49 * set) + (7 * (i + 1))) + j : Int).toNat) + (((zL sg) * mm) * (J12 4 ((3 * (8 * (pcs - 1) + cn)) + 1 : Int).toNat))) := by rw [eJ14]; exact up_eq
                                      have fJ14 : ∀ j_, j_ ≠ 5 → J14 j_ = J12 j_ := fun j_ hj_ => by rw [eJ14]; exact up_ne hj_
                                      refine Z.pick [1, 2, 3, 4, 5, 6, 7, 8, 9, 10, 0] rfl ?_
                                      exact key_223 _ (fun j_ h_5 => ((fJ14 j_ h_5).trans ((fJ12 j_ h_5).trans (hM j_ h_5)))) (MZ_s (s0 := set) (i0 := i + 1) (j0 := j) (by omega) (by omega) (by omega) (by have := (bX_s hxr hb1).1; rw [pt1] at this; exact this) (by have := bY_m hb2; rw [pt1] at this; exact this) hmzA (by omega) gJ14) (mn_bb (by omega) (by omega) (by omega) rfl (by rw [← hMA 4 (by decide)]; exact gJ14) hGA)
                            refine Z.pick [0, 1, 2, 3, 4, 5, 6, 7, 8, 9] rfl ?_
                            exact key_103 _ _ _ (Nat.lt_succ_self _) (by omega) (fun j_ h_5 => (hM j_ h_5)) hmz hF
                      refine Z.pick [0, 1, 2, 3, 4, 5, 6, 7, 8] rfl ?_
                      exact key_93 _ _ _ (Nat.lt_succ_self _) (by omega) (fun j_ h_5 => (hM j_ h_5)) hmz (MJ_e (⟨fun _ _ _ => rfl, hJ.2.1, hJ.2.2⟩ : MJ (M 5) (M 5) set _) (fun z => (Fk_0 _ _ _ _ _ _ z).symm))
              refine Z.pick [0, 1, 2, 3, 4, 5] rfl ?_
              exact key_53 _ _ _ _ (Nat.lt_succ_self _) (by omega) (by omega) (fun j_ h_5 => (hM j_ h_5)) hmz (by rw [show (n - 1 - (n - 1)).toNat = 0 by omega]; exact SS_col (by omega) (by omega) hS) (by rw [show (n - 1 - (n - 1)).toNat = 0 by omega]; rfl)
        refine Z.pick [0, 1, 2] rfl ?_
        exact key_31 _ _ _ (Nat.lt_succ_self _) (by omega) (fun j_ h_5 => ((fJ2 j_ h_5).trans (hM j_ h_5))) (MZ_0 hXY.1 (fun q h1 h2 => hz q h1 (by omega)) gJ2) (SS_0 (Ey (J 4)) n.toNat (fun q h1 h2 => hz q h1 (by omega)) gJ2)
      · intro c1
        refine Z.aload_n hX dX7_minorsOf_9 rfl rfl ?_
        refine Z.getf hX 7 0 12 dX7_minorsOf_10 rfl rfl inX7 (by decide) fl_X7_39 rfl rfl ?_
        refine Z.iload_n hX dX7_minorsOf_13 rfl rfl ?_
        refine Z.lconst (v := 0) hX dX7_minorsOf_14 rfl ?_
        refine Z.lastore hX 10 1 dX7_minorsOf_15 rfl rfl (by omega) (by omega) (by decide) ?_
        obtain ⟨J15, eJ15⟩ : ∃ J' : Nat → Nat → Int64, J' = va_up M 5 (vp_updL (M 5) (k : Int).toNat (0)) := ⟨_, rfl⟩
        refine Z.toW (w' := rW ce h F I J15) (by rw [eJ15]; rfl) ?_
        have gJ15 : J15 5 = vp_updL (M 5) (k : Int).toNat (0) := by rw [eJ15]; exact up_eq
        have fJ15 : ∀ j_, j_ ≠ 5 → J15 j_ = M j_ := fun j_ hj_ => by rw [eJ15]; exact up_ne hj_
        refine Z.iinc (lv' := [(2, .int (zI (k + 1))), (1, .int (zI n)), (0, .ref (h 0))]) hX dX7_minorsOf_16 rfl (by decide) rfl ?_
        refine Z.goto hX 2 dX7_minorsOf_19 (by decide) ?_
        refine Z.pick [0, 1, 2] rfl ?_
        exact ih_2 _ _ (by omega) (by omega) (fun j_ h_5 => ((fJ15 j_ h_5).trans (hM j_ h_5))) (z_fill hk.1 gJ15 hz)
  refine Z.pick [0, 2, 1] rfl ?_
  exact key_2 _ _ _ (Nat.lt_succ_self _) (by omega) (fun j_ h_5 => rfl) (fun q h1 h2 => by omega)

