set_option maxHeartbeats 4000000 in
set_option maxRecDepth 100000 in
theorem ct_X7_work_x (l : Launch) (D : va_G) (ce : Nat → ClassId) (h : Nat → Nat) (F : Nat → Int) (I : Nat → Nat → Int32) (J : Nat → Nat → Int64) (hok : rOK F I) (hbr : bR (I 0)) (hri : RI F (I 0) (J 0)) : Ct l yX7_work cX7_work 7 none { frames := 5, cells := 0, slots := 0, locals := 148 } 0 0 D (TY ce) [.ref (h 0)] (rW ce h F I J) (QV D (TY ce) (fun w1 => ∃ F2 : Nat → Int, ∃ I2 : Nat → Nat → Int32, ∃ J2 : Nat → Nat → Int64, w1 = rW ce h F2 I2 J2 ∧ (rOK F2 I2) ∧ (F2 2 = 1 ∧ 0 ≤ F2 0 ∧ F2 0 ≤ 4 ∧ 0 ≤ F2 1 ∧ F2 1 ≤ 4) ∧ (F2 0 = moK (I 0) 5) ∧ (I2 0 = I 0) ∧ (DGok (I2 2)) ∧ (FQ (I 0) F2 (J2 0)))) := by
  refine Ct.ofV (by decide) (Nat.le_of_ble_eq_true rfl) ?_
  intro p e s m args below meth c A Q hX hnm hR
  refine Z.pick (lv' := [(0, .ref (h 0))]) [0] rfl ?_
  have hmb := moK_b (I 0) 5
  obtain ⟨hF, hF2, hkn, hdg⟩ := id hok
  refine Z.aload_n hX dX7_work_0 rfl rfl ?_
  refine Z.getf hX 7 0 4 dX7_work_1 rfl rfl inX7 (by decide) fl_X7_54 rfl rfl ?_
  refine Z.if_eq hX 8 dX7_work_4 (by decide) ⟨by omega, by omega⟩ ?_ ?_
  · intro c1
    refine Z.aload_n hX dX7_work_8 rfl rfl ?_
    refine Z.iconst hX dX7_work_9 ?_
    refine Z.putf (ty := .boolean) hX 7 0 4 tyX7 dX7_work_10 rfl rfl inX7 tyX7_ok nmX7 (by decide) fl_X7_54 rfl rfl (by decide +kernel) rfl rfl (Nat.le_of_ble_eq_true rfl) ?_
    obtain ⟨F2, eF2⟩ : ∃ F' : Nat → Int, F' = va_up F 2 (1) := ⟨_, rfl⟩
    refine Z.toW (w' := rW ce h F2 I J) (by rw [eF2]; rfl) ?_
    have eF2_0 : F2 0 = F 0 := by rw [eF2]; rfl
    have eF2_1 : F2 1 = F 1 := by rw [eF2]; rfl
    have eF2_2 : F2 2 = 1 := by rw [eF2]; rfl
    refine Z.aload_n hX dX7_work_13 rfl rfl ?_
    refine Z.iconst hX dX7_work_14 ?_
    refine Z.putf (ty := .int) hX 7 0 2 tyX7 dX7_work_15 rfl rfl inX7 tyX7_ok nmX7 (by decide) fl_X7_70 rfl rfl (by decide +kernel) rfl rfl (Nat.le_of_ble_eq_true rfl) ?_
    obtain ⟨F3, eF3⟩ : ∃ F' : Nat → Int, F' = va_up F2 0 (0) := ⟨_, rfl⟩
    refine Z.toW (w' := rW ce h F3 I J) (by rw [eF3]; rfl) ?_
    have eF3_0 : F3 0 = 0 := by rw [eF3]; rfl
    have eF3_1 : F3 1 = F2 1 := by rw [eF3]; rfl
    have eF3_2 : F3 2 = F2 2 := by rw [eF3]; rfl
    refine Z.iconst hX dX7_work_18 ?_
    refine Z.istore_n (lv' := [(1, .int (zI 0)), (0, .ref (h 0))]) hX dX7_work_19 rfl (by decide) rfl ?_
    have key_20 : ∀ (N : Nat), ∀ (k : Int) (G : Nat → Int) (M : Nat → Nat → Int64), (5 - k).toNat < N → (hk : 0 ≤ k ∧ k ≤ 5) → (hG : G 2 = 1 ∧ 0 ≤ G 1 ∧ G 1 ≤ 4) → (hG0 : G 0 = moK (I 0) k.toNat) → (hone : ∀ j : Int, 0 ≤ j → j < k → M 2 j.toNat = rP (I 0) 0 j.toNat) → (htwo : ∀ j : Int, 0 ≤ j → j < k → M 3 j.toNat = rP (I 0) 1 j.toNat) → Z p l e { frames := 5, cells := 0, slots := 0, locals := 148 } s m args below meth c D A 7 0 0 Q 20 [(1, .int (zI k)), (0, .ref (h 0))] [] (rW ce h G I M) := by
      intro N
      induction N with
      | zero => intro k G M hm; exact absurd hm (Nat.not_lt_zero _)
      | succ N ih_20 =>
        intro k G M hm hk hG hG0 hone htwo
        refine Z.iload_n hX dX7_work_20 rfl rfl ?_
        refine Z.iconst hX dX7_work_21 ?_
        refine Z.icmp_ge hX 103 dX7_work_22 (by decide) ⟨by omega, by omega⟩ ⟨by omega, by omega⟩ ?_ ?_
        · intro c4
          have hG5 : G 0 = moK (I 0) 5 := by rw [hG0, show k = 5 by omega]; rfl
          have t2 : ti (M 2) = ti (rP (I 0) 0) := ti_ext (fun j a b => hone j a (by omega))
          have t3 : ti (M 3) = ti (rP (I 0) 1) := ti_ext (fun j a b => htwo j a (by omega))
          refine Z.aload_n hX dX7_work_103 rfl rfl ?_
          refine Z.callVfv (As := []) (rest := []) hX 7 0 rfl rfl (ct_X7_divisor_x l D ce h G I M (rP (I 0) 0) (fun _ => 0) (rp_bx hbr (by decide)) zz_bx (by rw [t2]; exact zz_eq _) (bx_bd (by rw [t2]; exact rp_bx hbr (by decide))) (by rw [t3]; exact rp_bx hbr (by decide)) (bx_bd (by rw [t3]; exact rp_bx hbr (by decide)))) mc_X7_divisor ml_X7_74 im_X7_divisor se_X7_divisor ini_X7 nd_X7_divisor ⟨Nat.le_of_ble_eq_true rfl, Nat.le_of_ble_eq_true rfl⟩ ⟨rfl, rfl⟩ ⟨Nat.le_refl _, Nat.le_refl _⟩ rfl (Nat.le_of_ble_eq_true rfl) dX7_work_104 ?_
          rintro w1 ⟨Jc, hw_, v1, v2, v3, v4⟩
          subst hw_
          refine Z.iconst hX dX7_work_107 ?_
          refine Z.istore_n (lv' := [(1, .int (zI 0)), (0, .ref (h 0))]) hX dX7_work_108 rfl (by decide) rfl ?_
          have key_109 : ∀ (N : Nat), ∀ (k : Int) (Mb : Nat → Nat → Int64), (5 - k).toNat < N → (hk2 : 0 ≤ k ∧ k ≤ 5) → (hb2 : Mb 2 = Jc 2) → (hb3 : ∀ j : Int, 0 ≤ j → j < k → Mb 3 j.toNat = rP (I 0) 2 j.toNat) → Z p l e { frames := 5, cells := 0, slots := 0, locals := 148 } s m args below meth c D A 7 0 0 Q 109 [(1, .int (zI k)), (0, .ref (h 0))] [] (rW ce h G I Mb) := by
            intro N
            induction N with
            | zero => intro k Mb hm; exact absurd hm (Nat.not_lt_zero _)
            | succ N ih_109 =>
              intro k Mb hm hk2 hb2 hb3
              refine Z.iload_n hX dX7_work_109 rfl rfl ?_
              refine Z.iconst hX dX7_work_110 ?_
              refine Z.icmp_ge hX 136 dX7_work_111 (by decide) ⟨by omega, by omega⟩ ⟨by omega, by omega⟩ ?_ ?_
              · intro c6
                have t4 : ti (Mb 3) = ti (rP (I 0) 2) := ti_ext (fun j a b => hb3 j a (by omega))
                refine Z.aload_n hX dX7_work_136 rfl rfl ?_
                refine Z.callVfv (As := []) (rest := []) hX 7 0 rfl rfl (ct_X7_divisor_x l D ce h G I Mb (rP (I 0) 0) (rP (I 0) 1) (rp_bx hbr (by decide)) (rp_bx hbr (by decide)) (by rw [hb2, ← t2, ← t3]; exact v2) (by rw [hb2]; exact v4) (by rw [t4]; exact rp_bx hbr (by decide)) (bx_bd (by rw [t4]; exact rp_bx hbr (by decide)))) mc_X7_divisor ml_X7_74 im_X7_divisor se_X7_divisor ini_X7 nd_X7_divisor ⟨Nat.le_of_ble_eq_true rfl, Nat.le_of_ble_eq_true rfl⟩ ⟨rfl, rfl⟩ ⟨Nat.le_refl _, Nat.le_refl _⟩ rfl (Nat.le_of_ble_eq_true rfl) dX7_work_137 ?_
                rintro w1 ⟨Jd, hw_, u1, u2, u3, u4⟩
                subst hw_
                have hgg : GG (rP (I 0) 0) (rP (I 0) 1) (rP (I 0) 2) (Jd 2) := ⟨ti (Jc 2), by rw [← t2, ← t3]; exact v2, by rw [← hb2, ← t4]; exact u2, u3⟩
                refine Z.aload_n hX dX7_work_140 rfl rfl ?_
                refine Z.getf hX 7 0 9 dX7_work_141 rfl rfl inX7 (by decide) fl_X7_30 rfl rfl ?_
                refine Z.callS1i (As := [.ref (h 7)]) (rest := []) hX 7 rfl (ct_X7_degreeOf l D ce ((h 7)) (Jd 2) ) mc_X7_degreeOf ml_X7_62 st_X7_degreeOf ini_X7 nd_X7_degreeOf ⟨Nat.le_of_ble_eq_true rfl, Nat.le_of_ble_eq_true rfl⟩ ⟨rfl, rfl⟩ ⟨Nat.le_refl _, Nat.le_refl _⟩ rfl (Nat.le_of_ble_eq_true rfl) dX7_work_144 ?_
                rintro r_8 w1 ⟨d, hr_, hw_, d1, d2, d3⟩
                subst hr_
                refine ⟨_, hw_, ?_⟩
                refine Z.toW (w' := rW ce h G I Jd) rfl ?_
                refine Z.istore_n (lv' := [(1, .int (zI d)), (0, .ref (h 0))]) hX dX7_work_147 rfl (by decide) rfl ?_
                refine Z.iconst hX dX7_work_148 ?_
                refine Z.istore_n (lv' := [(2, .int (zI 0)), (1, .int (zI d)), (0, .ref (h 0))]) hX dX7_work_149 rfl (by decide) rfl ?_
                have key_150 : ∀ (N : Nat), ∀ (wv : Int) (M : Nat → Nat → Int64), (3 - wv).toNat < N → (hw : 0 ≤ wv ∧ wv ≤ 3) → (ho : M 2 = Jd 2) → (hdf : DFq (I 0) (Jd 2) d (M 0) wv) → Z p l e { frames := 5, cells := 0, slots := 0, locals := 148 } s m args below meth c D A 7 0 0 Q 150 [(2, .int (zI wv)), (1, .int (zI d)), (0, .ref (h 0))] [] (rW ce h G I M) := by
                  intro N
                  induction N with
                  | zero => intro wv M hm; exact absurd hm (Nat.not_lt_zero _)
                  | succ N ih_150 =>
                    intro wv M hm hw ho hdf
                    refine Z.iload_n hX dX7_work_150 rfl rfl ?_
                    refine Z.iconst hX dX7_work_151 ?_
                    refine Z.icmp_ge hX 304 dX7_work_152 (by decide) ⟨by omega, by omega⟩ ⟨by omega, by omega⟩ ?_ ?_
                    · intro c9
                      have hFR : FRs (rP (I 0)) (fP (M 0)) := fr_of hgg ⟨d1, d2, d3⟩ (show wv = 3 by omega) hdf
                      refine Z.aload_n hX dX7_work_304 rfl rfl ?_
                      refine Z.iconst hX dX7_work_305 ?_
                      refine Z.putf (ty := .int) hX 7 0 3 tyX7 dX7_work_306 rfl rfl inX7 tyX7_ok nmX7 (by decide) fl_X7_77 rfl rfl (by decide +kernel) rfl rfl (Nat.le_of_ble_eq_true rfl) ?_
                      obtain ⟨F10, eF10⟩ : ∃ F' : Nat → Int, F' = va_up G 1 (0) := ⟨_, rfl⟩
                      refine Z.toW (w' := rW ce h F10 I M) (by rw [eF10]; rfl) ?_
                      have eF10_0 : F10 0 = G 0 := by rw [eF10]; rfl
                      have eF10_1 : F10 1 = 0 := by rw [eF10]; rfl
                      have eF10_2 : F10 2 = G 2 := by rw [eF10]; rfl
                      refine Z.iconst hX dX7_work_309 ?_
                      refine Z.istore_n (lv' := [(2, .int (zI 0)), (1, .int (zI d)), (0, .ref (h 0))]) hX dX7_work_310 rfl (by decide) rfl ?_
                      refine Z.iconst hX dX7_work_311 ?_
                      refine Z.istore_n (lv' := [(3, .int (zI 0)), (2, .int (zI 0)), (1, .int (zI d)), (0, .ref (h 0))]) hX dX7_work_312 rfl (by decide) rfl ?_
                      have key_313 : ∀ (N : Nat), ∀ (k wt : Int) (G : Nat → Int), (5 - k).toNat < N → (hk5 : 0 ≤ k ∧ k ≤ 5) → (hwt : 0 ≤ wt ∧ wt ≤ 1) → (hG : G 2 = 1 ∧ 0 ≤ G 1 ∧ G 1 ≤ 4) → (hG0 : G 0 = moK (I 0) 5) → (hG1 : G 1 = foK (M 0) k.toNat) → Z p l e { frames := 5, cells := 0, slots := 0, locals := 148 } s m args below meth c D A 7 0 0 Q 313 [(3, .int (zI k)), (2, .int (zI wt)), (0, .ref (h 0))] [] (rW ce h G I M) := by
                        intro N
                        induction N with
                        | zero => intro k wt G hm; exact absurd hm (Nat.not_lt_zero _)
                        | succ N ih_313 =>
                          intro k wt G hm hk5 hwt hG hG0 hG1
                          refine Z.iload_n hX dX7_work_313 rfl rfl ?_
                          refine Z.iconst hX dX7_work_314 ?_
                          refine Z.icmp_ge hX 398 dX7_work_315 (by decide) ⟨by omega, by omega⟩ ⟨by omega, by omega⟩ ?_ ?_
                          · intro c11
                            have hFQ : FQ (I 0) G (M 0) := ⟨hFR, by rw [hG1, show k = 5 by omega]; rfl⟩
                            refine Z.aload_n hX dX7_work_398 rfl rfl ?_
                            refine Z.getf hX 7 0 5 dX7_work_399 rfl rfl inX7 (by decide) fl_X7_17 rfl rfl ?_
                            refine Z.iconst hX dX7_work_402 ?_
                            refine Z.iconst hX dX7_work_403 ?_
                            refine Z.zastore hX 3 2 dX7_work_404 rfl rfl (by omega) (by omega) (by decide) ?_
                            obtain ⟨I12, eI12⟩ : ∃ J' : Nat → Nat → Int32, J' = va_up I 1 (upd (I 1) (0 : Int).toNat (vp_nar .boolean (zI (0)))) := ⟨_, rfl⟩
                            refine Z.toW (w' := rW ce h G I12 M) (by rw [eI12]; rfl) ?_
                            have gI12 : I12 1 = upd (I 1) (0 : Int).toNat (vp_nar .boolean (zI (0))) := by rw [eI12]; exact up_eq
                            have fI12 : ∀ j_, j_ ≠ 1 → I12 j_ = I j_ := fun j_ hj_ => by rw [eI12]; exact up_ne hj_
                            refine Z.aload_n hX dX7_work_405 rfl rfl ?_
                            refine Z.getf hX 7 0 5 dX7_work_406 rfl rfl inX7 (by decide) fl_X7_17 rfl rfl ?_
                            refine Z.iconst hX dX7_work_409 ?_
                            refine Z.iconst hX dX7_work_410 ?_
                            refine Z.zastore hX 3 2 dX7_work_411 rfl rfl (by omega) (by omega) (by decide) ?_
                            obtain ⟨I13, eI13⟩ : ∃ J' : Nat → Nat → Int32, J' = va_up I12 1 (upd (I12 1) (1 : Int).toNat (vp_nar .boolean (zI (0)))) := ⟨_, rfl⟩
                            refine Z.toW (w' := rW ce h G I13 M) (by rw [eI13]; rfl) ?_
                            have gI13 : I13 1 = upd (I12 1) (1 : Int).toNat (vp_nar .boolean (zI (0))) := by rw [eI13]; exact up_eq
                            have fI13 : ∀ j_, j_ ≠ 1 → I13 j_ = I12 j_ := fun j_ hj_ => by rw [eI13]; exact up_ne hj_
                            have hdgB : DGok (I13 2) := by rw [fI13 2 (by decide), fI12 2 (by decide)]; exact hdg
                            have key_427 : ∀ (K : Nat → Nat → Int32) (Mc : Nat → Nat → Int64), (hK : ∀ k, k ≠ 1 → k ≠ 2 → k ≠ 3 → K k = I k) → (hdgC : DGok (K 2)) → (hm0 : Mc 0 = M 0) → Z p l e { frames := 5, cells := 0, slots := 0, locals := 148 } s m args below meth c D A 7 0 0 Q 427 [(0, .ref (h 0))] [] (rW ce h G K Mc) := by
                              intro K Mc hK hdgC hm0
                              refine Z.aload_n hX dX7_work_427 rfl rfl ?_
                              refine Z.getf hX 7 0 2 dX7_work_428 rfl rfl inX7 (by decide) fl_X7_70 rfl rfl ?_
                              refine Z.iconst hX dX7_work_431 ?_
                              refine Z.icmp_le hX 439 dX7_work_432 (by decide) ⟨by omega, by omega⟩ ⟨by omega, by omega⟩ ?_ ?_
                              · intro c14
                                exact hR _ _ _ dX7_work_439 ⟨G, K, Mc, rfl, (rOK_i (by omega) (by omega) hG0 ((fun j_ h_1 h_2 h_3 => (hK j_ h_1 h_2 h_3)) 0 (by decide) (by decide) (by decide)) hdgC), (by omega), hG0, ((fun j_ h_1 h_2 h_3 => (hK j_ h_1 h_2 h_3)) 0 (by decide) (by decide) (by decide)), hdgC, (by rw [hm0]; exact hFQ)⟩
                              · intro c14
                                refine Z.aload_n hX dX7_work_435 rfl rfl ?_
                                refine Z.callVfv (As := []) (rest := []) hX 7 0 rfl rfl (ct_X7_envelope l D ce h G K Mc (by omega) hdgC) mc_X7_envelope ml_X7_83 im_X7_envelope se_X7_envelope ini_X7 nd_X7_envelope ⟨Nat.le_of_ble_eq_true rfl, Nat.le_of_ble_eq_true rfl⟩ ⟨rfl, rfl⟩ ⟨Nat.le_refl _, Nat.le_refl _⟩ rfl (Nat.le_of_ble_eq_true rfl) dX7_work_436 ?_
                                rintro w1 ⟨I216, J217, hw_, he1, he2, he3⟩
                                subst hw_
                                exact hR _ _ _ dX7_work_439 ⟨G, I216, J217, rfl, (rOK_i (by omega) (by omega) hG0 ((fun j_ h_1 h_2 h_3 => ((he2 j_ h_1 h_2 h_3).trans (hK j_ h_1 h_2 h_3))) 0 (by decide) (by decide) (by decide)) he3), (by omega), hG0, ((fun j_ h_1 h_2 h_3 => ((he2 j_ h_1 h_2 h_3).trans (hK j_ h_1 h_2 h_3))) 0 (by decide) (by decide) (by decide)), he3, (by rw [he1 0 (by decide) (by decide) (by decide) (by decide) (by decide) (by decide) (by decide), hm0]; exact hFQ)⟩
                            refine Z.aload_n hX dX7_work_412 rfl rfl ?_
                            refine Z.getf hX 7 0 3 dX7_work_413 rfl rfl inX7 (by decide) fl_X7_77 rfl rfl ?_
                            refine Z.if_le hX 427 dX7_work_416 (by decide) ⟨by omega, by omega⟩ ?_ ?_
                            · intro c18
                              refine Z.pick [2] rfl ?_
                              exact key_427 _ _ (fun j_ h_1 h_2 h_3 => ((fI13 j_ h_1).trans ((fI12 j_ h_1).trans rfl))) hdgB rfl
                            · intro c18
                              refine Z.iload_n hX dX7_work_419 rfl rfl ?_
                              refine Z.if_eq hX 427 dX7_work_420 (by decide) ⟨by omega, by omega⟩ ?_ ?_
                              · intro c19
                                refine Z.pick [2] rfl ?_
                                exact key_427 _ _ (fun j_ h_1 h_2 h_3 => ((fI13 j_ h_1).trans ((fI12 j_ h_1).trans rfl))) hdgB rfl
                              · intro c19
                                refine Z.aload_n hX dX7_work_423 rfl rfl ?_
                                refine Z.callVfv (As := []) (rest := []) hX 7 0 rfl rfl (ct_X7_locus l D ce h G I13 M (by omega) hdgB) mc_X7_locus ml_X7_80 im_X7_locus se_X7_locus ini_X7 nd_X7_locus ⟨Nat.le_of_ble_eq_true rfl, Nat.le_of_ble_eq_true rfl⟩ ⟨rfl, rfl⟩ ⟨Nat.le_refl _, Nat.le_refl _⟩ rfl (Nat.le_of_ble_eq_true rfl) dX7_work_424 ?_
                                rintro w1 ⟨I221, J222, hw_, hl1, hl2, hl3⟩
                                subst hw_
                                refine Z.pick [2] rfl ?_
                                exact key_427 _ _ (fun j_ h_1 h_2 h_3 => ((hl2 j_ h_1 h_2 h_3).trans ((fI13 j_ h_1).trans ((fI12 j_ h_1).trans rfl)))) hl3 (hl1 0 (by decide) (by decide) (by decide) (by decide) (by decide) (by decide) (by decide))
                          · intro c11
                            have key_365 : ∀ (v : Int), (hv : 0 ≤ v ∧ v ≤ 4) → (hv1 : v = foK (M 0) (k + 1).toNat) → Z p l e { frames := 5, cells := 0, slots := 0, locals := 148 } s m args below meth c D A 7 0 0 Q 365 [(3, .int (zI k)), (2, .int (zI wt)), (0, .ref (h 0))] [.int (zI v), .ref (h 0)] (rW ce h G I M) := by
                              intro v hv hv1
                              refine Z.putf (ty := .int) hX 7 0 3 tyX7 dX7_work_365 rfl rfl inX7 tyX7_ok nmX7 (by decide) fl_X7_77 rfl rfl (by decide +kernel) rfl rfl (Nat.le_of_ble_eq_true rfl) ?_
                              obtain ⟨F23, eF23⟩ : ∃ F' : Nat → Int, F' = va_up G 1 (v) := ⟨_, rfl⟩
                              refine Z.toW (w' := rW ce h F23 I M) (by rw [eF23]; rfl) ?_
                              have eF23_0 : F23 0 = G 0 := by rw [eF23]; rfl
                              have eF23_1 : F23 1 = v := by rw [eF23]; rfl
                              have eF23_2 : F23 2 = G 2 := by rw [eF23]; rfl
                              have key_391 : ∀ (b : Int), (hb : 0 ≤ b ∧ b ≤ 1) → Z p l e { frames := 5, cells := 0, slots := 0, locals := 148 } s m args below meth c D A 7 0 0 Q 391 [(3, .int (zI k)), (0, .ref (h 0))] [.int (zI b)] (rW ce h F23 I M) := by
                                intro b hb
                                refine Z.istore_n (lv' := [(2, .int (zI b)), (3, .int (zI k)), (0, .ref (h 0))]) hX dX7_work_391 rfl (by decide) rfl ?_
                                refine Z.iinc (lv' := [(3, .int (zI (k + 1))), (2, .int (zI b)), (0, .ref (h 0))]) hX dX7_work_392 rfl (by decide) rfl ?_
                                refine Z.goto hX 313 dX7_work_395 (by decide) ?_
                                refine Z.pick [0, 1, 2] rfl ?_
                                exact ih_313 _ _ _ (by omega) (by omega) (by omega) (by omega) (by rw [eF23_0]; exact hG0) (by rw [eF23_1]; exact hv1)
                              refine Z.iload_n hX dX7_work_368 rfl rfl ?_
                              refine Z.if_ne hX 386 dX7_work_369 (by decide) ⟨by omega, by omega⟩ ?_ ?_
                              · intro c24
                                refine Z.iconst hX dX7_work_386 ?_
                                refine Z.goto hX 391 dX7_work_387 (by decide) ?_
                                refine Z.pick [0, 2] rfl ?_
                                exact key_391 _ (by omega)
                              · intro c24
                                refine Z.aload_n hX dX7_work_372 rfl rfl ?_
                                refine Z.getf hX 7 0 1 dX7_work_373 rfl rfl inX7 (by decide) fl_X7_13 rfl rfl ?_
                                refine Z.bipush hX dX7_work_376 (by decide) ?_
                                refine Z.iload_n hX dX7_work_378 rfl rfl ?_
                                refine Z.iadd hX dX7_work_379 ?_
                                refine Z.laload hX 2 1 dX7_work_380 rfl rfl (by omega) (by omega) (by decide) ?_
                                refine Z.lconst (v := 0) hX dX7_work_381 rfl ?_
                                refine Z.lcmp_eq hX 390 dX7_work_382 dX7_work_383 (by decide) ?_ ?_
                                · intro c25
                                  refine Z.iconst hX dX7_work_390 ?_
                                  refine Z.pick [0, 2] rfl ?_
                                  exact key_391 _ (by omega)
                                · intro c25
                                  refine Z.iconst hX dX7_work_386 ?_
                                  refine Z.goto hX 391 dX7_work_387 (by decide) ?_
                                  refine Z.pick [0, 2] rfl ?_
                                  exact key_391 _ (by omega)
                            refine Z.aload_n hX dX7_work_318 rfl rfl ?_
                            refine Z.aload_n hX dX7_work_319 rfl rfl ?_
                            refine Z.getf hX 7 0 1 dX7_work_320 rfl rfl inX7 (by decide) fl_X7_13 rfl rfl ?_
                            refine Z.iload_n hX dX7_work_323 rfl rfl ?_
                            refine Z.laload hX 2 1 dX7_work_324 rfl rfl (by omega) (by omega) (by decide) ?_
                            refine Z.lconst (v := 0) hX dX7_work_325 rfl ?_
                            refine Z.lcmp_ne hX 357 dX7_work_326 dX7_work_327 (by decide) ?_ ?_
                            · intro c26
                              refine Z.iload_n hX dX7_work_357 rfl rfl ?_
                              refine Z.goto hX 365 dX7_work_358 (by decide) ?_
                              refine Z.pick [0, 1, 2] rfl ?_
                              exact key_365 _ (by omega) (by first | exact fo_1 hk5.1 (by assumption) | exact fo_2 hk5.1 (by assumption) | exact fo_3 hk5.1 (by assumption))
                            · intro c26
                              refine Z.aload_n hX dX7_work_330 rfl rfl ?_
                              refine Z.getf hX 7 0 1 dX7_work_331 rfl rfl inX7 (by decide) fl_X7_13 rfl rfl ?_
                              refine Z.iconst hX dX7_work_334 ?_
                              refine Z.iload_n hX dX7_work_335 rfl rfl ?_
                              refine Z.iadd hX dX7_work_336 ?_
                              refine Z.laload hX 2 1 dX7_work_337 rfl rfl (by omega) (by omega) (by decide) ?_
                              refine Z.lconst (v := 0) hX dX7_work_338 rfl ?_
                              refine Z.lcmp_ne hX 357 dX7_work_339 dX7_work_340 (by decide) ?_ ?_
                              · intro c27
                                refine Z.iload_n hX dX7_work_357 rfl rfl ?_
                                refine Z.goto hX 365 dX7_work_358 (by decide) ?_
                                refine Z.pick [0, 1, 2] rfl ?_
                                exact key_365 _ (by omega) (by first | exact fo_1 hk5.1 (by assumption) | exact fo_2 hk5.1 (by assumption) | exact fo_3 hk5.1 (by assumption))
                              · intro c27
                                refine Z.aload_n hX dX7_work_343 rfl rfl ?_
                                refine Z.getf hX 7 0 1 dX7_work_344 rfl rfl inX7 (by decide) fl_X7_13 rfl rfl ?_
                                refine Z.bipush hX dX7_work_347 (by decide) ?_
                                refine Z.iload_n hX dX7_work_349 rfl rfl ?_
                                refine Z.iadd hX dX7_work_350 ?_
                                refine Z.laload hX 2 1 dX7_work_351 rfl rfl (by omega) (by omega) (by decide) ?_
                                refine Z.lconst (v := 0) hX dX7_work_352 rfl ?_
                                refine Z.lcmp_eq hX 361 dX7_work_353 dX7_work_354 (by decide) ?_ ?_
                                · intro c28
                                  refine Z.aload_n hX dX7_work_361 rfl rfl ?_
                                  refine Z.getf hX 7 0 3 dX7_work_362 rfl rfl inX7 (by decide) fl_X7_77 rfl rfl ?_
                                  refine Z.pick [0, 1, 2] rfl ?_
                                  exact key_365 _ (by omega) (fo_0 hk5.1 (by assumption) (by assumption) (by assumption) hG1)
                                · intro c28
                                  refine Z.iload_n hX dX7_work_357 rfl rfl ?_
                                  refine Z.goto hX 365 dX7_work_358 (by decide) ?_
                                  refine Z.pick [0, 1, 2] rfl ?_
                                  exact key_365 _ (by omega) (by first | exact fo_1 hk5.1 (by assumption) | exact fo_2 hk5.1 (by assumption) | exact fo_3 hk5.1 (by assumption))
                      refine Z.pick [0, 1, 3] rfl ?_
                      exact key_313 _ _ _ _ (Nat.lt_succ_self _) (by omega) (by omega) (by omega) (by rw [eF10_0]; exact hG5) (by rw [eF10_1]; rfl)
                    · intro c9
                      refine Z.iconst hX dX7_work_155 ?_
                      refine Z.istore_n (lv' := [(3, .int (zI 0)), (2, .int (zI wv)), (1, .int (zI d)), (0, .ref (h 0))]) hX dX7_work_156 rfl (by decide) rfl ?_
                      have key_157 : ∀ (N : Nat), ∀ (k : Int) (M : Nat → Nat → Int64), (5 - k).toNat < N → (hk3 : 0 ≤ k ∧ k ≤ 5) → (ho : M 2 = Jd 2) → (h3 : ∀ j : Int, 0 ≤ j → j < k → M 3 j.toNat = rP (I 0) wv.toNat j.toNat) → (hf0 : ∀ j : Int, 0 ≤ j → j < k → fP (M 0) wv.toNat j.toNat = tzq (I 0) d wv.toNat j.toNat) → (hdf : DFq (I 0) (Jd 2) d (M 0) wv) → Z p l e { frames := 5, cells := 0, slots := 0, locals := 148 } s m args below meth c D A 7 0 0 Q 157 [(3, .int (zI k)), (2, .int (zI wv)), (1, .int (zI d)), (0, .ref (h 0))] [] (rW ce h G I M) := by
                        intro N
                        induction N with
                        | zero => intro k M hm; exact absurd hm (Nat.not_lt_zero _)
                        | succ N ih_157 =>
                          intro k M hm hk3 ho h3 hf0 hdf
                          refine Z.iload_n hX dX7_work_157 rfl rfl ?_
                          refine Z.iconst hX dX7_work_158 ?_
                          refine Z.icmp_ge hX 214 dX7_work_159 (by decide) ⟨by omega, by omega⟩ ⟨by omega, by omega⟩ ?_ ?_
                          · intro c29
                            refine Z.iconst hX dX7_work_214 ?_
                            refine Z.iload_n hX dX7_work_215 rfl rfl ?_
                            refine Z.isub hX dX7_work_216 ?_
                            refine Z.istore_n (lv' := [(3, .int (zI (4 - d))), (2, .int (zI wv)), (1, .int (zI d)), (0, .ref (h 0))]) hX dX7_work_217 rfl (by decide) rfl ?_
                            have key_218 : ∀ (N : Nat), ∀ (ev : Int) (M : Nat → Nat → Int64), (ev + 1).toNat < N → (he : -1 ≤ ev ∧ ev ≤ 4 - d) → (ho : M 2 = Jd 2) → (hsp : ∀ j : Int, 0 ≤ j → j < 5 → M 3 j.toNat = spq (rP (I 0) wv.toNat) (Jd 2) d (4 - d - ev).toNat j.toNat) → (hrq : ∀ j : Int, 0 ≤ j → j < 5 → fP (M 0) wv.toNat j.toNat = rzq (I 0) (Jd 2) d wv.toNat (ev) j) → (hdf : DFq (I 0) (Jd 2) d (M 0) wv) → Z p l e { frames := 5, cells := 0, slots := 0, locals := 148 } s m args below meth c D A 7 0 0 Q 218 [(3, .int (zI ev)), (2, .int (zI wv)), (1, .int (zI d)), (0, .ref (h 0))] [] (rW ce h G I M) := by
                              intro N
                              induction N with
                              | zero => intro ev M hm; exact absurd hm (Nat.not_lt_zero _)
                              | succ N ih_218 =>
                                intro ev M hm he ho hsp hrq hdf
                                refine Z.iload_n hX dX7_work_218 rfl rfl ?_
                                refine Z.if_lt hX 298 dX7_work_219 (by decide) ⟨by omega, by omega⟩ ?_ ?_
                                · intro c30
                                  refine Z.iinc (lv' := [(2, .int (zI (wv + 1))), (3, .int (zI ev)), (1, .int (zI d)), (0, .ref (h 0))]) hX dX7_work_298 rfl (by decide) rfl ?_
                                  refine Z.goto hX 150 dX7_work_301 (by decide) ?_
                                  refine Z.pick [0, 2, 3] rfl ?_
                                  exact ih_150 _ _ (by omega) (by omega) ho (DFq_e hdf hrq (by omega))
                                · intro c30
                                  refine Z.iload_n hX dX7_work_222 rfl rfl ?_
                                  refine Z.if_le hX 298 dX7_work_223 (by decide) ⟨by omega, by omega⟩ ?_ ?_
                                  · intro c31
                                    refine Z.iinc (lv' := [(2, .int (zI (wv + 1))), (3, .int (zI ev)), (1, .int (zI d)), (0, .ref (h 0))]) hX dX7_work_298 rfl (by decide) rfl ?_
                                    refine Z.goto hX 150 dX7_work_301 (by decide) ?_
                                    refine Z.pick [0, 2, 3] rfl ?_
                                    exact ih_150 _ _ (by omega) (by omega) ho (DFq_e hdf hrq (by omega))
                                  · intro c31
                                    refine Z.aload_n hX dX7_work_226 rfl rfl ?_
                                    refine Z.getf hX 7 0 10 dX7_work_227 rfl rfl inX7 (by decide) fl_X7_33 rfl rfl ?_
                                    refine Z.iload_n hX dX7_work_230 rfl rfl ?_
                                    refine Z.iload_n hX dX7_work_231 rfl rfl ?_
                                    refine Z.iadd hX dX7_work_232 ?_
                                    refine Z.laload hX 8 1 dX7_work_233 rfl rfl (by omega) (by omega) (by decide) ?_
                                    refine Z.aload_n hX dX7_work_234 rfl rfl ?_
                                    refine Z.getf hX 7 0 9 dX7_work_235 rfl rfl inX7 (by decide) fl_X7_30 rfl rfl ?_
                                    refine Z.iload_n hX dX7_work_238 rfl rfl ?_
                                    refine Z.laload hX 7 1 dX7_work_239 rfl rfl (by omega) (by omega) (by decide) ?_
                                    refine Z.ldiv hX dX7_work_240 (by rw [ho]; exact d3 (by omega)) ?_
                                    refine Z.lstore (lv' := [(4, .long ((M 3 (ev + d : Int).toNat) / (M 2 (d : Int).toNat))), (3, .int (zI ev)), (2, .int (zI wv)), (1, .int (zI d)), (0, .ref (h 0))]) hX dX7_work_241 (by decide) rfl ?_
                                    obtain ⟨qq, eqq⟩ : ∃ x : Int64, x = (M 3 (ev + d : Int).toNat) / (M 2 (d : Int).toNat) := ⟨_, rfl⟩
                                    rw [← eqq]
                                    refine Z.aload_n hX dX7_work_243 rfl rfl ?_
                                    refine Z.getf hX 7 0 1 dX7_work_244 rfl rfl inX7 (by decide) fl_X7_13 rfl rfl ?_
                                    refine Z.iconst hX dX7_work_247 ?_
                                    refine Z.iload_n hX dX7_work_248 rfl rfl ?_
                                    refine Z.imul hX dX7_work_249 ?_
                                    refine Z.iload_n hX dX7_work_250 rfl rfl ?_
                                    refine Z.iadd hX dX7_work_251 ?_
                                    refine Z.lload hX dX7_work_252 rfl ?_
                                    refine Z.lastore hX 2 1 dX7_work_254 rfl rfl (by omega) (by omega) (by decide) ?_
                                    obtain ⟨J32, eJ32⟩ : ∃ J' : Nat → Nat → Int64, J' = va_up M 0 (vp_updL (M 0) ((5 * wv) + ev : Int).toNat (qq)) := ⟨_, rfl⟩
                                    refine Z.toW (w' := rW ce h G I J32) (by rw [eJ32]; rfl) ?_
                                    have gJ32 : J32 0 = vp_updL (M 0) ((5 * wv) + ev : Int).toNat (qq) := by rw [eJ32]; exact up_eq
                                    have fJ32 : ∀ j_, j_ ≠ 0 → J32 j_ = M j_ := fun j_ hj_ => by rw [eJ32]; exact up_ne hj_
                                    refine Z.iconst hX dX7_work_255 ?_
                                    refine Z.istore (lv' := [(6, .int (zI 0)), (4, .long qq), (3, .int (zI ev)), (2, .int (zI wv)), (1, .int (zI d)), (0, .ref (h 0))]) hX dX7_work_256 (by decide) rfl ?_
                                    have key_258 : ∀ (N : Nat), ∀ (k : Int) (Nn : Nat → Nat → Int64), (d + 1 - k).toNat < N → (hk4 : 0 ≤ k ∧ k ≤ d + 1) → (ho2 : Nn 2 = Jd 2) → (hof : ∀ j : Int, 0 ≤ j → j < 5 → Nn 3 j.toNat = if ev ≤ j ∧ j < ev + k then M 3 j.toNat - qq * Jd 2 (j - ev).toNat else M 3 j.toNat) → (hrn : ∀ j : Int, 0 ≤ j → j < 5 → fP (Nn 0) wv.toNat j.toNat = rzq (I 0) (Jd 2) d wv.toNat (ev - 1) j) → (hdn : DFq (I 0) (Jd 2) d (Nn 0) wv) → Z p l e { frames := 5, cells := 0, slots := 0, locals := 148 } s m args below meth c D A 7 0 0 Q 258 [(6, .int (zI k)), (4, .long qq), (3, .int (zI ev)), (2, .int (zI wv)), (1, .int (zI d)), (0, .ref (h 0))] [] (rW ce h G I Nn) := by
                                      intro N
                                      induction N with
                                      | zero => intro k Nn hm; exact absurd hm (Nat.not_lt_zero _)
                                      | succ N ih_258 =>
                                        intro k Nn hm hk4 ho2 hof hrn hdn
                                        refine Z.iload hX dX7_work_258 rfl ?_
                                        refine Z.iload_n hX dX7_work_260 rfl rfl ?_
                                        refine Z.icmp_gt hX 292 dX7_work_261 (by decide) ⟨by omega, by omega⟩ ⟨by omega, by omega⟩ ?_ ?_
                                        · intro c33
                                          refine Z.iinc (lv' := [(3, .int (zI (ev + -1))), (6, .int (zI k)), (4, .long qq), (2, .int (zI wv)), (1, .int (zI d)), (0, .ref (h 0))]) hX dX7_work_292 rfl (by decide) rfl ?_
                                          refine Z.goto hX 218 dX7_work_295 (by decide) ?_
                                          refine Z.pick [0, 3, 4, 5] rfl ?_
                                          exact ih_218 _ _ (by omega) (by omega) ho2 (off_e (x := qq) (by omega) (by omega) (by omega) hsp (by rw [eqq, ho]) (fun j a b => by rw [hof j a b, show k = d + 1 by omega])) hrn hdn
                                        · intro c33
                                          refine Z.aload_n hX dX7_work_264 rfl rfl ?_
                                          refine Z.getf hX 7 0 10 dX7_work_265 rfl rfl inX7 (by decide) fl_X7_33 rfl rfl ?_
                                          refine Z.iload_n hX dX7_work_268 rfl rfl ?_
                                          refine Z.iload hX dX7_work_269 rfl ?_
                                          refine Z.iadd hX dX7_work_271 ?_
                                          refine Z.dup2 hX dX7_work_272 rfl rfl ?_
                                          refine Z.laload hX 8 1 dX7_work_273 rfl rfl (by omega) (by omega) (by decide) ?_
                                          refine Z.lload hX dX7_work_274 rfl ?_
                                          refine Z.aload_n hX dX7_work_276 rfl rfl ?_
                                          refine Z.getf hX 7 0 9 dX7_work_277 rfl rfl inX7 (by decide) fl_X7_30 rfl rfl ?_
                                          refine Z.iload hX dX7_work_280 rfl ?_
                                          refine Z.laload hX 7 1 dX7_work_282 rfl rfl (by omega) (by omega) (by decide) ?_
                                          refine Z.lmul hX dX7_work_283 ?_
                                          refine Z.lsub hX dX7_work_284 ?_
                                          refine Z.lastore hX 8 1 dX7_work_285 rfl rfl (by omega) (by omega) (by decide) ?_
                                          obtain ⟨J34, eJ34⟩ : ∃ J' : Nat → Nat → Int64, J' = va_up Nn 3 (vp_updL (Nn 3) (ev + k : Int).toNat ((Nn 3 (ev + k : Int).toNat) - (qq * (Nn 2 (k : Int).toNat)))) := ⟨_, rfl⟩
                                          refine Z.toW (w' := rW ce h G I J34) (by rw [eJ34]; rfl) ?_
                                          have gJ34 : J34 3 = vp_updL (Nn 3) (ev + k : Int).toNat ((Nn 3 (ev + k : Int).toNat) - (qq * (Nn 2 (k : Int).toNat))) := by rw [eJ34]; exact up_eq
                                          have fJ34 : ∀ j_, j_ ≠ 3 → J34 j_ = Nn j_ := fun j_ hj_ => by rw [eJ34]; exact up_ne hj_
                                          refine Z.iinc (lv' := [(6, .int (zI (k + 1))), (4, .long qq), (3, .int (zI ev)), (2, .int (zI wv)), (1, .int (zI d)), (0, .ref (h 0))]) hX dX7_work_286 rfl (by decide) rfl ?_
                                          refine Z.goto hX 258 dX7_work_289 (by decide) ?_
                                          refine Z.pick [0, 1, 2, 3, 4, 5] rfl ?_
                                          exact ih_258 _ _ (by omega) (by omega) ((fJ34 2 (by decide)).trans ho2) (off_s (by omega) (by omega) (by omega) (by rw [gJ34, ho2]) hof) (by rw [fJ34 0 (by decide)]; exact hrn) (by rw [fJ34 0 (by decide)]; exact hdn)
                                    refine Z.pick [0, 1, 2, 3, 4, 5] rfl ?_
                                    exact key_258 _ _ _ (Nat.lt_succ_self _) (by omega) ((fJ32 2 (by decide)).trans ho) (fun j a b => by rw [fJ32 3 (by decide), if_neg (by omega)]) (rz_w (by omega) (by omega) (by omega) hsp (by rw [eqq, ho]) (fP_s (by omega) (by omega) gJ32) hrq) (DFq_o hdf (by omega) gJ32)
                            refine Z.pick [0, 1, 2, 3] rfl ?_
                            exact key_218 _ _ _ (Nat.lt_succ_self _) (by omega) ho (fun j a b => by rw [h3 j a (by omega), show (4 - d - (4 - d)).toNat = 0 by omega]; rfl) (rz_0 (fun j a b => hf0 j a (by omega))) hdf
                          · intro c29
                            refine Z.aload_n hX dX7_work_162 rfl rfl ?_
                            refine Z.getf hX 7 0 10 dX7_work_163 rfl rfl inX7 (by decide) fl_X7_33 rfl rfl ?_
                            refine Z.iload_n hX dX7_work_166 rfl rfl ?_
                            refine Z.aload_n hX dX7_work_167 rfl rfl ?_
                            refine Z.getf hX 7 0 0 dX7_work_168 rfl rfl inX7 (by decide) fl_X7_7 rfl rfl ?_
                            refine Z.iconst hX dX7_work_171 ?_
                            refine Z.iload_n hX dX7_work_172 rfl rfl ?_
                            refine Z.imul hX dX7_work_173 ?_
                            refine Z.iload_n hX dX7_work_174 rfl rfl ?_
                            refine Z.iadd hX dX7_work_175 ?_
                            refine Z.iaload hX 1 0 dX7_work_176 rfl rfl (by omega) (by omega) (by decide) ?_
                            refine Z.topi (fun z35 hz35 kz35 ez35 => ?_)
                            refine Z.i2l hX dX7_work_177 ⟨by omega, by omega⟩ ?_
                            refine Z.lastore hX 8 1 dX7_work_178 rfl rfl (by omega) (by omega) (by decide) ?_
                            obtain ⟨J36, eJ36⟩ : ∃ J' : Nat → Nat → Int64, J' = va_up M 3 (vp_updL (M 3) (k : Int).toNat (zL z35)) := ⟨_, rfl⟩
                            refine Z.toW (w' := rW ce h G I J36) (by rw [eJ36]; rfl) ?_
                            have gJ36 : J36 3 = vp_updL (M 3) (k : Int).toNat (zL z35) := by rw [eJ36]; exact up_eq
                            have fJ36 : ∀ j_, j_ ≠ 3 → J36 j_ = M j_ := fun j_ hj_ => by rw [eJ36]; exact up_ne hj_
                            refine Z.aload_n hX dX7_work_179 rfl rfl ?_
                            refine Z.getf hX 7 0 1 dX7_work_180 rfl rfl inX7 (by decide) fl_X7_13 rfl rfl ?_
                            refine Z.iconst hX dX7_work_183 ?_
                            refine Z.iload_n hX dX7_work_184 rfl rfl ?_
                            refine Z.imul hX dX7_work_185 ?_
                            refine Z.iload_n hX dX7_work_186 rfl rfl ?_
                            refine Z.iadd hX dX7_work_187 ?_
                            refine Z.iload_n hX dX7_work_188 rfl rfl ?_
                            refine Z.if_le hX 196 dX7_work_189 (by decide) ⟨by omega, by omega⟩ ?_ ?_
                            · intro c37
                              refine Z.aload_n hX dX7_work_196 rfl rfl ?_
                              refine Z.getf hX 7 0 0 dX7_work_197 rfl rfl inX7 (by decide) fl_X7_7 rfl rfl ?_
                              refine Z.iconst hX dX7_work_200 ?_
                              refine Z.iload_n hX dX7_work_201 rfl rfl ?_
                              refine Z.imul hX dX7_work_202 ?_
                              refine Z.iload_n hX dX7_work_203 rfl rfl ?_
                              refine Z.iadd hX dX7_work_204 ?_
                              refine Z.iaload hX 1 0 dX7_work_205 rfl rfl (by omega) (by omega) (by decide) ?_
                              refine Z.topi (fun z38 hz38 kz38 ez38 => ?_)
                              refine Z.i2l hX dX7_work_206 ⟨by omega, by omega⟩ ?_
                              refine Z.lastore hX 2 1 dX7_work_207 rfl rfl (by omega) (by omega) (by decide) ?_
                              obtain ⟨J39, eJ39⟩ : ∃ J' : Nat → Nat → Int64, J' = va_up J36 0 (vp_updL (J36 0) ((5 * wv) + k : Int).toNat (zL z38)) := ⟨_, rfl⟩
                              refine Z.toW (w' := rW ce h G I J39) (by rw [eJ39]; rfl) ?_
                              have gJ39 : J39 0 = vp_updL (J36 0) ((5 * wv) + k : Int).toNat (zL z38) := by rw [eJ39]; exact up_eq
                              have fJ39 : ∀ j_, j_ ≠ 0 → J39 j_ = J36 j_ := fun j_ hj_ => by rw [eJ39]; exact up_ne hj_
                              refine Z.iinc (lv' := [(3, .int (zI (k + 1))), (2, .int (zI wv)), (1, .int (zI d)), (0, .ref (h 0))]) hX dX7_work_208 rfl (by decide) rfl ?_
                              refine Z.goto hX 157 dX7_work_211 (by decide) ?_
                              refine Z.pick [0, 1, 2, 3] rfl ?_
                              exact ih_157 _ _ (by omega) (by omega) ((fJ39 2 (by decide)).trans ((fJ36 2 (by decide)).trans ho)) (fw_s hk3.1 ((fJ39 3 (by decide)).trans gJ36) (rp_z (by assumption) ⟨by assumption, by assumption⟩ (by omega)) h3) (fw_s hk3.1 (fP_s (by omega) hk3.1 (by rw [gJ39, fJ36 0 (by decide)])) (tz_1 (by omega) (rp_z (by assumption) ⟨by assumption, by assumption⟩ (by omega))) hf0) (DFq_o (i := k) hdf (by omega) (by rw [gJ39, fJ36 0 (by decide)]))
                            · intro c37
                              refine Z.lconst (v := 0) hX dX7_work_192 rfl ?_
                              refine Z.goto hX 207 dX7_work_193 (by decide) ?_
                              refine Z.lastore hX 2 1 dX7_work_207 rfl rfl (by omega) (by omega) (by decide) ?_
                              obtain ⟨J40, eJ40⟩ : ∃ J' : Nat → Nat → Int64, J' = va_up J36 0 (vp_updL (J36 0) ((5 * wv) + k : Int).toNat (0)) := ⟨_, rfl⟩
                              refine Z.toW (w' := rW ce h G I J40) (by rw [eJ40]; rfl) ?_
                              have gJ40 : J40 0 = vp_updL (J36 0) ((5 * wv) + k : Int).toNat (0) := by rw [eJ40]; exact up_eq
                              have fJ40 : ∀ j_, j_ ≠ 0 → J40 j_ = J36 j_ := fun j_ hj_ => by rw [eJ40]; exact up_ne hj_
                              refine Z.iinc (lv' := [(3, .int (zI (k + 1))), (2, .int (zI wv)), (1, .int (zI d)), (0, .ref (h 0))]) hX dX7_work_208 rfl (by decide) rfl ?_
                              refine Z.goto hX 157 dX7_work_211 (by decide) ?_
                              refine Z.pick [0, 1, 2, 3] rfl ?_
                              exact ih_157 _ _ (by omega) (by omega) ((fJ40 2 (by decide)).trans ((fJ36 2 (by decide)).trans ho)) (fw_s hk3.1 ((fJ40 3 (by decide)).trans gJ36) (rp_z (by assumption) ⟨by assumption, by assumption⟩ (by omega)) h3) (fw_s hk3.1 (fP_s (by omega) hk3.1 (by rw [gJ40, fJ36 0 (by decide)])) (tz_0 (by omega)) hf0) (DFq_o (i := k) hdf (by omega) (by rw [gJ40, fJ36 0 (by decide)]))
                      refine Z.pick [0, 1, 2, 3] rfl ?_
                      exact key_157 _ _ _ (Nat.lt_succ_self _) (by omega) ho (fun j a b => by omega) (fun j a b => by omega) hdf
                refine Z.pick [0, 1, 2] rfl ?_
                exact key_150 _ _ _ (Nat.lt_succ_self _) (by omega) rfl (DFq_0 _ _ _ _)
              · intro c6
                refine Z.aload_n hX dX7_work_114 rfl rfl ?_
                refine Z.getf hX 7 0 10 dX7_work_115 rfl rfl inX7 (by decide) fl_X7_33 rfl rfl ?_
                refine Z.iload_n hX dX7_work_118 rfl rfl ?_
                refine Z.aload_n hX dX7_work_119 rfl rfl ?_
                refine Z.getf hX 7 0 0 dX7_work_120 rfl rfl inX7 (by decide) fl_X7_7 rfl rfl ?_
                refine Z.bipush hX dX7_work_123 (by decide) ?_
                refine Z.iload_n hX dX7_work_125 rfl rfl ?_
                refine Z.iadd hX dX7_work_126 ?_
                refine Z.iaload hX 1 0 dX7_work_127 rfl rfl (by omega) (by omega) (by decide) ?_
                refine Z.topi (fun z41 hz41 kz41 ez41 => ?_)
                refine Z.i2l hX dX7_work_128 ⟨by omega, by omega⟩ ?_
                refine Z.lastore hX 8 1 dX7_work_129 rfl rfl (by omega) (by omega) (by decide) ?_
                obtain ⟨J42, eJ42⟩ : ∃ J' : Nat → Nat → Int64, J' = va_up Mb 3 (vp_updL (Mb 3) (k : Int).toNat (zL z41)) := ⟨_, rfl⟩
                refine Z.toW (w' := rW ce h G I J42) (by rw [eJ42]; rfl) ?_
                have gJ42 : J42 3 = vp_updL (Mb 3) (k : Int).toNat (zL z41) := by rw [eJ42]; exact up_eq
                have fJ42 : ∀ j_, j_ ≠ 3 → J42 j_ = Mb j_ := fun j_ hj_ => by rw [eJ42]; exact up_ne hj_
                refine Z.iinc (lv' := [(1, .int (zI (k + 1))), (0, .ref (h 0))]) hX dX7_work_130 rfl (by decide) rfl ?_
                refine Z.goto hX 109 dX7_work_133 (by decide) ?_
                refine Z.pick [0, 1] rfl ?_
                exact ih_109 _ _ (by omega) (by omega) ((fJ42 2 (by decide)).trans hb2) (fw_s hk2.1 gJ42 (rp_z (by assumption) ⟨by assumption, by assumption⟩ (by omega)) hb3)
          refine Z.pick [0, 1] rfl ?_
          exact key_109 _ _ _ (Nat.lt_succ_self _) (by omega) rfl (fun j a b => by omega)
        · intro c4
          have key_66 : ∀ (v : Int), (hv : v = moK (I 0) (k + 1).toNat) → Z p l e { frames := 5, cells := 0, slots := 0, locals := 148 } s m args below meth c D A 7 0 0 Q 66 [(1, .int (zI k)), (0, .ref (h 0))] [.int (zI v), .ref (h 0)] (rW ce h G I M) := by
            intro v hv
            refine Z.putf (ty := .int) hX 7 0 2 tyX7 dX7_work_66 rfl rfl inX7 tyX7_ok nmX7 (by decide) fl_X7_70 rfl rfl (by decide +kernel) rfl rfl (Nat.le_of_ble_eq_true rfl) ?_
            obtain ⟨F43, eF43⟩ : ∃ F' : Nat → Int, F' = va_up G 0 (v) := ⟨_, rfl⟩
            refine Z.toW (w' := rW ce h F43 I M) (by rw [eF43]; rfl) ?_
            have eF43_0 : F43 0 = v := by rw [eF43]; rfl
            have eF43_1 : F43 1 = G 1 := by rw [eF43]; rfl
            have eF43_2 : F43 2 = G 2 := by rw [eF43]; rfl
            refine Z.aload_n hX dX7_work_69 rfl rfl ?_
            refine Z.getf hX 7 0 9 dX7_work_70 rfl rfl inX7 (by decide) fl_X7_30 rfl rfl ?_
            refine Z.iload_n hX dX7_work_73 rfl rfl ?_
            refine Z.aload_n hX dX7_work_74 rfl rfl ?_
            refine Z.getf hX 7 0 0 dX7_work_75 rfl rfl inX7 (by decide) fl_X7_7 rfl rfl ?_
            refine Z.iload_n hX dX7_work_78 rfl rfl ?_
            refine Z.iaload hX 1 0 dX7_work_79 rfl rfl (by omega) (by omega) (by decide) ?_
            refine Z.topi (fun z44 hz44 kz44 ez44 => ?_)
            refine Z.i2l hX dX7_work_80 ⟨by omega, by omega⟩ ?_
            refine Z.lastore hX 7 1 dX7_work_81 rfl rfl (by omega) (by omega) (by decide) ?_
            obtain ⟨J45, eJ45⟩ : ∃ J' : Nat → Nat → Int64, J' = va_up M 2 (vp_updL (M 2) (k : Int).toNat (zL z44)) := ⟨_, rfl⟩
            refine Z.toW (w' := rW ce h F43 I J45) (by rw [eJ45]; rfl) ?_
            have gJ45 : J45 2 = vp_updL (M 2) (k : Int).toNat (zL z44) := by rw [eJ45]; exact up_eq
            have fJ45 : ∀ j_, j_ ≠ 2 → J45 j_ = M j_ := fun j_ hj_ => by rw [eJ45]; exact up_ne hj_
            refine Z.aload_n hX dX7_work_82 rfl rfl ?_
            refine Z.getf hX 7 0 10 dX7_work_83 rfl rfl inX7 (by decide) fl_X7_33 rfl rfl ?_
            refine Z.iload_n hX dX7_work_86 rfl rfl ?_
            refine Z.aload_n hX dX7_work_87 rfl rfl ?_
            refine Z.getf hX 7 0 0 dX7_work_88 rfl rfl inX7 (by decide) fl_X7_7 rfl rfl ?_
            refine Z.iconst hX dX7_work_91 ?_
            refine Z.iload_n hX dX7_work_92 rfl rfl ?_
            refine Z.iadd hX dX7_work_93 ?_
            refine Z.iaload hX 1 0 dX7_work_94 rfl rfl (by omega) (by omega) (by decide) ?_
            refine Z.topi (fun z46 hz46 kz46 ez46 => ?_)
            refine Z.i2l hX dX7_work_95 ⟨by omega, by omega⟩ ?_
            refine Z.lastore hX 8 1 dX7_work_96 rfl rfl (by omega) (by omega) (by decide) ?_
            obtain ⟨J47, eJ47⟩ : ∃ J' : Nat → Nat → Int64, J' = va_up J45 3 (vp_updL (J45 3) (k : Int).toNat (zL z46)) := ⟨_, rfl⟩
            refine Z.toW (w' := rW ce h F43 I J47) (by rw [eJ47]; rfl) ?_
            have gJ47 : J47 3 = vp_updL (J45 3) (k : Int).toNat (zL z46) := by rw [eJ47]; exact up_eq
            have fJ47 : ∀ j_, j_ ≠ 3 → J47 j_ = J45 j_ := fun j_ hj_ => by rw [eJ47]; exact up_ne hj_
            refine Z.iinc (lv' := [(1, .int (zI (k + 1))), (0, .ref (h 0))]) hX dX7_work_97 rfl (by decide) rfl ?_
            refine Z.goto hX 20 dX7_work_100 (by decide) ?_
            refine Z.pick [0, 1] rfl ?_
            exact ih_20 _ _ _ (by omega) (by omega) (by omega) (by rw [eF43_0]; exact hv) (fw_s hk.1 ((fJ47 2 (by decide)).trans gJ45) (rp_z (by assumption) ⟨by assumption, by assumption⟩ (by omega)) hone) (fw_s hk.1 (by rw [gJ47, fJ45 3 (by decide)]) (rp_z (by assumption) ⟨by assumption, by assumption⟩ (by omega)) htwo)
          refine Z.aload_n hX dX7_work_25 rfl rfl ?_
          refine Z.aload_n hX dX7_work_26 rfl rfl ?_
          refine Z.getf hX 7 0 0 dX7_work_27 rfl rfl inX7 (by decide) fl_X7_7 rfl rfl ?_
          refine Z.iload_n hX dX7_work_30 rfl rfl ?_
          refine Z.iaload hX 1 0 dX7_work_31 rfl rfl (by omega) (by omega) (by decide) ?_
          refine Z.topi (fun z48 hz48 kz48 ez48 => ?_)
          refine Z.if_ne hX 58 dX7_work_32 (by decide) ⟨by omega, by omega⟩ ?_ ?_
          · intro c49
            refine Z.iload_n hX dX7_work_58 rfl rfl ?_
            refine Z.goto hX 66 dX7_work_59 (by decide) ?_
            refine Z.pick [0, 1] rfl ?_
            exact key_66 _ (by first | exact mo_1 hk.1 (by assumption) ⟨by assumption, by assumption⟩ (by assumption) | exact mo_2 hk.1 (by assumption) ⟨by assumption, by assumption⟩ (by assumption) | exact mo_3 hk.1 (by assumption) ⟨by assumption, by assumption⟩ (by assumption))
          · intro c49
            refine Z.aload_n hX dX7_work_35 rfl rfl ?_
            refine Z.getf hX 7 0 0 dX7_work_36 rfl rfl inX7 (by decide) fl_X7_7 rfl rfl ?_
            refine Z.iconst hX dX7_work_39 ?_
            refine Z.iload_n hX dX7_work_40 rfl rfl ?_
            refine Z.iadd hX dX7_work_41 ?_
            refine Z.iaload hX 1 0 dX7_work_42 rfl rfl (by omega) (by omega) (by decide) ?_
            refine Z.topi (fun z50 hz50 kz50 ez50 => ?_)
            refine Z.if_ne hX 58 dX7_work_43 (by decide) ⟨by omega, by omega⟩ ?_ ?_
            · intro c51
              refine Z.iload_n hX dX7_work_58 rfl rfl ?_
              refine Z.goto hX 66 dX7_work_59 (by decide) ?_
              refine Z.pick [0, 1] rfl ?_
              exact key_66 _ (by first | exact mo_1 hk.1 (by assumption) ⟨by assumption, by assumption⟩ (by assumption) | exact mo_2 hk.1 (by assumption) ⟨by assumption, by assumption⟩ (by assumption) | exact mo_3 hk.1 (by assumption) ⟨by assumption, by assumption⟩ (by assumption))
            · intro c51
              refine Z.aload_n hX dX7_work_46 rfl rfl ?_
              refine Z.getf hX 7 0 0 dX7_work_47 rfl rfl inX7 (by decide) fl_X7_7 rfl rfl ?_
              refine Z.bipush hX dX7_work_50 (by decide) ?_
              refine Z.iload_n hX dX7_work_52 rfl rfl ?_
              refine Z.iadd hX dX7_work_53 ?_
              refine Z.iaload hX 1 0 dX7_work_54 rfl rfl (by omega) (by omega) (by decide) ?_
              refine Z.topi (fun z52 hz52 kz52 ez52 => ?_)
              refine Z.if_eq hX 62 dX7_work_55 (by decide) ⟨by omega, by omega⟩ ?_ ?_
              · intro c53
                refine Z.aload_n hX dX7_work_62 rfl rfl ?_
                refine Z.getf hX 7 0 2 dX7_work_63 rfl rfl inX7 (by decide) fl_X7_70 rfl rfl ?_
                refine Z.pick [0, 1] rfl ?_
                exact key_66 _ (mo_0 hk.1 (by assumption) (by assumption) (by assumption) (by assumption) (by assumption) (by assumption) hG0)
              · intro c53
                refine Z.iload_n hX dX7_work_58 rfl rfl ?_
                refine Z.goto hX 66 dX7_work_59 (by decide) ?_
                refine Z.pick [0, 1] rfl ?_
                exact key_66 _ (by first | exact mo_1 hk.1 (by assumption) ⟨by assumption, by assumption⟩ (by assumption) | exact mo_2 hk.1 (by assumption) ⟨by assumption, by assumption⟩ (by assumption) | exact mo_3 hk.1 (by assumption) ⟨by assumption, by assumption⟩ (by assumption))
    refine Z.pick [0, 1] rfl ?_
    exact key_20 _ _ _ _ (Nat.lt_succ_self _) (by omega) (by omega) (by rw [eF3_0]; rfl) (fun j a b => by omega) (fun j a b => by omega)
  · intro c1
    exact hR _ _ _ dX7_work_7 ⟨F, I, J, rfl, hok, (by omega), (hkn (by omega)), rfl, hdg, (hri (by omega))⟩

