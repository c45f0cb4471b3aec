set_option maxHeartbeats 4000000 in
set_option maxRecDepth 100000 in
theorem ct_X7_divisor_0 (l : Launch) (D : va_G) (ce : Nat → ClassId) (h : Nat → Nat) (F : Nat → Int) (I : Nat → Nat → Int32) (J : Nat → Nat → Int64) (h2 : z5 (J 2)) (h3 : z5 (J 3)) : Ct l yX7_divisor cX7_divisor 8 none { frames := 2, cells := 0, slots := 0, locals := 53 } 0 0 D (TY ce) [.ref (h 0)] (rW ce h F I J) (QV D (TY ce) (fun w1 => ∃ J2 : Nat → Nat → Int64, w1 = rW ce h F I J2 ∧ (∀ k, k ≠ 2 → k ≠ 3 → J2 k = J k) ∧ (z5 (J2 2)) ∧ (z5 (J2 3)))) := by
  refine Ct.ofV (by decide) (Nat.le_of_ble_eq_true rfl) ?_
  intro p e s m args below meth c A Q hX hnm hR
  refine Z.pick (lv' := [(0, .ref (h 0))]) [0] rfl ?_
  refine Z.aload_n hX dX7_divisor_0 rfl rfl ?_
  refine Z.getf hX 7 0 9 dX7_divisor_1 rfl rfl inX7 (by decide) fl_X7_30 rfl rfl ?_
  refine Z.callS1v (As := [.ref (h 7)]) (rest := []) hX 7 rfl (ct_X7_reduce l D ce ((h 7)) (J 2) ) mc_X7_reduce ml_X7_66 st_X7_reduce ini_X7 nd_X7_reduce ⟨Nat.le_of_ble_eq_true rfl, Nat.le_of_ble_eq_true rfl⟩ ⟨rfl, rfl⟩ ⟨Nat.le_refl _, Nat.le_refl _⟩ rfl (Nat.le_of_ble_eq_true rfl) dX7_divisor_4 ?_
  rintro w1 ⟨f22, hw_, hr1⟩
  refine ⟨_, hw_, ?_⟩
  obtain ⟨J3, eJ3⟩ : ∃ J' : Nat → Nat → Int64, J' = va_up J 2 (f22) := ⟨_, rfl⟩
  refine Z.toW (w' := rW ce h F I J3) (by rw [eJ3]; rfl) ?_
  have gJ3 : J3 2 = f22 := by rw [eJ3]; exact up_eq
  have fJ3 : ∀ j_, j_ ≠ 2 → J3 j_ = J j_ := fun j_ hj_ => by rw [eJ3]; exact up_ne hj_
  have hz2 : z5 (J3 2) := fun j a b => by rw [gJ3]; exact hr1 j a b (h2 j a b)
  refine Z.aload_n hX dX7_divisor_7 rfl rfl ?_
  refine Z.getf hX 7 0 10 dX7_divisor_8 rfl rfl inX7 (by decide) fl_X7_33 rfl rfl ?_
  refine Z.callS1v (As := [.ref (h 8)]) (rest := []) hX 8 rfl (ct_X7_reduce l D ce ((h 8)) (J3 3) ) mc_X7_reduce ml_X7_66 st_X7_reduce ini_X7 nd_X7_reduce ⟨Nat.le_of_ble_eq_true rfl, Nat.le_of_ble_eq_true rfl⟩ ⟨rfl, rfl⟩ ⟨Nat.le_refl _, Nat.le_refl _⟩ rfl (Nat.le_of_ble_eq_true rfl) dX7_divisor_11 ?_
  rintro w1 ⟨f25, hw_, hr2⟩
  refine ⟨_, hw_, ?_⟩
  obtain ⟨J6, eJ6⟩ : ∃ J' : Nat → Nat → Int64, J' = va_up J3 3 (f25) := ⟨_, rfl⟩
  refine Z.toW (w' := rW ce h F I J6) (by rw [eJ6]; rfl) ?_
  have gJ6 : J6 3 = f25 := by rw [eJ6]; exact up_eq
  have fJ6 : ∀ j_, j_ ≠ 3 → J6 j_ = J3 j_ := fun j_ hj_ => by rw [eJ6]; exact up_ne hj_
  have hz3 : z5 (J6 3) := fun j a b => by rw [gJ6]; exact hr2 j a b (by rw [fJ3 3 (by decide)]; exact h3 j a b)
  have hz4 : z5 (J6 2) := by rw [fJ6 2 (by decide)]; exact hz2
  refine Z.aload_n hX dX7_divisor_14 rfl rfl ?_
  refine Z.getf hX 7 0 10 dX7_divisor_15 rfl rfl inX7 (by decide) fl_X7_33 rfl rfl ?_
  refine Z.callS1i (As := [.ref (h 8)]) (rest := []) hX 8 rfl (ct_X7_degreeOf l D ce ((h 8)) (J6 3) ) mc_X7_degreeOf ml_X7_62 st_X7_degreeOf ini_X7 nd_X7_degreeOf ⟨Nat.le_of_ble_eq_true rfl, Nat.le_of_ble_eq_true rfl⟩ ⟨rfl, rfl⟩ ⟨Nat.le_refl _, Nat.le_refl _⟩ rfl (Nat.le_of_ble_eq_true rfl) dX7_divisor_18 ?_
  rintro r_7 w1 ⟨z1, hr_, hw_, p1, p2, p3⟩
  subst hr_
  refine ⟨_, hw_, ?_⟩
  refine Z.toW (w' := rW ce h F I J6) rfl ?_
  refine Z.if_lt hX 183 dX7_divisor_21 (by decide) ⟨by omega, by omega⟩ ?_ ?_
  · intro c8
    exact hR _ _ _ dX7_divisor_183 ⟨J6, rfl, (fun j_ h_2 h_3 => ((fJ6 j_ h_3).trans ((fJ3 j_ h_2).trans rfl))), hz4, hz3⟩
  · intro c8
    exact absurd (hz3 z1 (by omega) (by omega)) (p3 (by omega))

set_option maxHeartbeats 4000000 in
set_option maxRecDepth 100000 in
theorem ct_X7_work_0 (l : Launch) (D : va_G) (ce : Nat → ClassId) (h : Nat → Nat) (F : Nat → Int) (I : Nat → Nat → Int32) (J : Nat → Nat → Int64) (hok : rOK F I) (hf : F 2 = 0) (hz : zi15 (I 0)) (hj : zst J) : Ct l yX7_work cX7_work 7 none { frames := 3, cells := 0, slots := 0, locals := 80 } 0 0 D (TY ce) [.ref (h 0)] (rW ce h F I J) (QV D (TY ce) (fun w1 => ∃ F2 : Nat → Int, ∃ I2 : Nat → Nat → Int32, ∃ J2 : Nat → Nat → Int64, w1 = rW ce h F2 I2 J2 ∧ (F2 2 = 1 ∧ F2 0 = 0 ∧ F2 1 = 0) ∧ (I2 0 = I 0) ∧ (zi2 (I2 1)) ∧ (z15 (J2 0)))) := by
  refine Ct.ofV (by decide) (Nat.le_of_ble_eq_true rfl) ?_
  intro p e s m args below meth c A Q hX hnm hR
  refine Z.pick (lv' := [(0, .ref (h 0))]) [0] rfl ?_
  obtain ⟨hF, hF2, hkn, hdg⟩ := id hok
  refine Z.aload_n hX dX7_work_0 rfl rfl ?_
  refine Z.getf hX 7 0 4 dX7_work_1 rfl rfl inX7 (by decide) fl_X7_54 rfl rfl ?_
  refine Z.if_eq hX 8 dX7_work_4 (by decide) ⟨by omega, by omega⟩ ?_ ?_
  · intro c1
    refine Z.aload_n hX dX7_work_8 rfl rfl ?_
    refine Z.iconst hX dX7_work_9 ?_
    refine Z.putf (ty := .boolean) hX 7 0 4 tyX7 dX7_work_10 rfl rfl inX7 tyX7_ok nmX7 (by decide) fl_X7_54 rfl rfl (by decide +kernel) rfl rfl (Nat.le_of_ble_eq_true rfl) ?_
    obtain ⟨F2, eF2⟩ : ∃ F' : Nat → Int, F' = va_up F 2 (1) := ⟨_, rfl⟩
    refine Z.toW (w' := rW ce h F2 I J) (by rw [eF2]; rfl) ?_
    have eF2_0 : F2 0 = F 0 := by rw [eF2]; rfl
    have eF2_1 : F2 1 = F 1 := by rw [eF2]; rfl
    have eF2_2 : F2 2 = 1 := by rw [eF2]; rfl
    refine Z.aload_n hX dX7_work_13 rfl rfl ?_
    refine Z.iconst hX dX7_work_14 ?_
    refine Z.putf (ty := .int) hX 7 0 2 tyX7 dX7_work_15 rfl rfl inX7 tyX7_ok nmX7 (by decide) fl_X7_70 rfl rfl (by decide +kernel) rfl rfl (Nat.le_of_ble_eq_true rfl) ?_
    obtain ⟨F3, eF3⟩ : ∃ F' : Nat → Int, F' = va_up F2 0 (0) := ⟨_, rfl⟩
    refine Z.toW (w' := rW ce h F3 I J) (by rw [eF3]; rfl) ?_
    have eF3_0 : F3 0 = 0 := by rw [eF3]; rfl
    have eF3_1 : F3 1 = F2 1 := by rw [eF3]; rfl
    have eF3_2 : F3 2 = F2 2 := by rw [eF3]; rfl
    refine Z.iconst hX dX7_work_18 ?_
    refine Z.istore_n (lv' := [(1, .int (zI 0)), (0, .ref (h 0))]) hX dX7_work_19 rfl (by decide) rfl ?_
    have key_20 : ∀ (N : Nat), ∀ (k : Int) (G : Nat → Int) (M : Nat → Nat → Int64), (5 - k).toNat < N → (hk : 0 ≤ k ∧ k ≤ 5) → (hG : G 2 = 1 ∧ G 0 = 0) → (hM : zst M) → Z p l e { frames := 3, cells := 0, slots := 0, locals := 80 } s m args below meth c D A 7 0 0 Q 20 [(1, .int (zI k)), (0, .ref (h 0))] [] (rW ce h G I M) := by
      intro N
      induction N with
      | zero => intro k G M hm; exact absurd hm (Nat.not_lt_zero _)
      | succ N ih_20 =>
        intro k G M hm hk hG hM
        refine Z.iload_n hX dX7_work_20 rfl rfl ?_
        refine Z.iconst hX dX7_work_21 ?_
        refine Z.icmp_ge hX 103 dX7_work_22 (by decide) ⟨by omega, by omega⟩ ⟨by omega, by omega⟩ ?_ ?_
        · intro c4
          refine Z.aload_n hX dX7_work_103 rfl rfl ?_
          refine Z.callVfv (As := []) (rest := []) hX 7 0 rfl rfl (ct_X7_divisor_0 l D ce h G I M hM.2.1 hM.2.2) mc_X7_divisor ml_X7_74 im_X7_divisor se_X7_divisor ini_X7 nd_X7_divisor ⟨Nat.le_of_ble_eq_true rfl, Nat.le_of_ble_eq_true rfl⟩ ⟨rfl, rfl⟩ ⟨Nat.le_refl _, Nat.le_refl _⟩ rfl (Nat.le_of_ble_eq_true rfl) dX7_work_104 ?_
          rintro w1 ⟨Ja, hw_, ja1, ja2, ja3⟩
          subst hw_
          have hMa : zst Ja := ⟨by rw [ja1 0 (by decide) (by decide)]; exact hM.1, ja2, ja3⟩
          refine Z.iconst hX dX7_work_107 ?_
          refine Z.istore_n (lv' := [(1, .int (zI 0)), (0, .ref (h 0))]) hX dX7_work_108 rfl (by decide) rfl ?_
          have key_109 : ∀ (N : Nat), ∀ (k : Int) (M : Nat → Nat → Int64), (5 - k).toNat < N → (hk2 : 0 ≤ k ∧ k ≤ 5) → (hM2 : zst M) → Z p l e { frames := 3, cells := 0, slots := 0, locals := 80 } s m args below meth c D A 7 0 0 Q 109 [(1, .int (zI k)), (0, .ref (h 0))] [] (rW ce h G I M) := by
            intro N
            induction N with
            | zero => intro k M hm; exact absurd hm (Nat.not_lt_zero _)
            | succ N ih_109 =>
              intro k M hm hk2 hM2
              refine Z.iload_n hX dX7_work_109 rfl rfl ?_
              refine Z.iconst hX dX7_work_110 ?_
              refine Z.icmp_ge hX 136 dX7_work_111 (by decide) ⟨by omega, by omega⟩ ⟨by omega, by omega⟩ ?_ ?_
              · intro c6
                refine Z.aload_n hX dX7_work_136 rfl rfl ?_
                refine Z.callVfv (As := []) (rest := []) hX 7 0 rfl rfl (ct_X7_divisor_0 l D ce h G I M hM2.2.1 hM2.2.2) mc_X7_divisor ml_X7_74 im_X7_divisor se_X7_divisor ini_X7 nd_X7_divisor ⟨Nat.le_of_ble_eq_true rfl, Nat.le_of_ble_eq_true rfl⟩ ⟨rfl, rfl⟩ ⟨Nat.le_refl _, Nat.le_refl _⟩ rfl (Nat.le_of_ble_eq_true rfl) dX7_work_137 ?_
                rintro w1 ⟨Jd, hw_, jd1, jd2, jd3⟩
                subst hw_
                have hMd : zst Jd := ⟨by rw [jd1 0 (by decide) (by decide)]; exact hM2.1, jd2, jd3⟩
                refine Z.aload_n hX dX7_work_140 rfl rfl ?_
                refine Z.getf hX 7 0 9 dX7_work_141 rfl rfl inX7 (by decide) fl_X7_30 rfl rfl ?_
                refine Z.callS1i (As := [.ref (h 7)]) (rest := []) hX 7 rfl (ct_X7_degreeOf l D ce ((h 7)) (Jd 2) ) mc_X7_degreeOf ml_X7_62 st_X7_degreeOf ini_X7 nd_X7_degreeOf ⟨Nat.le_of_ble_eq_true rfl, Nat.le_of_ble_eq_true rfl⟩ ⟨rfl, rfl⟩ ⟨Nat.le_refl _, Nat.le_refl _⟩ rfl (Nat.le_of_ble_eq_true rfl) dX7_work_144 ?_
                rintro r_8 w1 ⟨d, hr_, hw_, d1, d2, d3⟩
                subst hr_
                refine ⟨_, hw_, ?_⟩
                refine Z.toW (w' := rW ce h G I Jd) rfl ?_
                have hd : d = -1 := dg_m1 hMd.2.1 d1 d3
                refine Z.istore_n (lv' := [(1, .int (zI d)), (0, .ref (h 0))]) hX dX7_work_147 rfl (by decide) rfl ?_
                refine Z.iconst hX dX7_work_148 ?_
                refine Z.istore_n (lv' := [(2, .int (zI 0)), (1, .int (zI d)), (0, .ref (h 0))]) hX dX7_work_149 rfl (by decide) rfl ?_
                have key_150 : ∀ (N : Nat), ∀ (wv : Int) (M : Nat → Nat → Int64), (3 - wv).toNat < N → (hw : 0 ≤ wv ∧ wv ≤ 3) → (hM3 : zst M) → Z p l e { frames := 3, cells := 0, slots := 0, locals := 80 } s m args below meth c D A 7 0 0 Q 150 [(2, .int (zI wv)), (1, .int (zI d)), (0, .ref (h 0))] [] (rW ce h G I M) := by
                  intro N
                  induction N with
                  | zero => intro wv M hm; exact absurd hm (Nat.not_lt_zero _)
                  | succ N ih_150 =>
                    intro wv M hm hw hM3
                    refine Z.iload_n hX dX7_work_150 rfl rfl ?_
                    refine Z.iconst hX dX7_work_151 ?_
                    refine Z.icmp_ge hX 304 dX7_work_152 (by decide) ⟨by omega, by omega⟩ ⟨by omega, by omega⟩ ?_ ?_
                    · intro c9
                      refine Z.aload_n hX dX7_work_304 rfl rfl ?_
                      refine Z.iconst hX dX7_work_305 ?_
                      refine Z.putf (ty := .int) hX 7 0 3 tyX7 dX7_work_306 rfl rfl inX7 tyX7_ok nmX7 (by decide) fl_X7_77 rfl rfl (by decide +kernel) rfl rfl (Nat.le_of_ble_eq_true rfl) ?_
                      obtain ⟨F10, eF10⟩ : ∃ F' : Nat → Int, F' = va_up G 1 (0) := ⟨_, rfl⟩
                      refine Z.toW (w' := rW ce h F10 I M) (by rw [eF10]; rfl) ?_
                      have eF10_0 : F10 0 = G 0 := by rw [eF10]; rfl
                      have eF10_1 : F10 1 = 0 := by rw [eF10]; rfl
                      have eF10_2 : F10 2 = G 2 := by rw [eF10]; rfl
                      refine Z.iconst hX dX7_work_309 ?_
                      refine Z.istore_n (lv' := [(2, .int (zI 0)), (1, .int (zI d)), (0, .ref (h 0))]) hX dX7_work_310 rfl (by decide) rfl ?_
                      refine Z.iconst hX dX7_work_311 ?_
                      refine Z.istore_n (lv' := [(3, .int (zI 0)), (2, .int (zI 0)), (1, .int (zI d)), (0, .ref (h 0))]) hX dX7_work_312 rfl (by decide) rfl ?_
                      have key_313 : ∀ (N : Nat), ∀ (k wt : Int) (G : Nat → Int), (5 - k).toNat < N → (hk5 : 0 ≤ k ∧ k ≤ 5) → (hwt : wt = 0) → (hG : G 2 = 1 ∧ G 0 = 0 ∧ G 1 = 0) → Z p l e { frames := 3, cells := 0, slots := 0, locals := 80 } s m args below meth c D A 7 0 0 Q 313 [(3, .int (zI k)), (2, .int (zI wt)), (0, .ref (h 0))] [] (rW ce h G I M) := by
                        intro N
                        induction N with
                        | zero => intro k wt G hm; exact absurd hm (Nat.not_lt_zero _)
                        | succ N ih_313 =>
                          intro k wt G hm hk5 hwt hG
                          refine Z.iload_n hX dX7_work_313 rfl rfl ?_
                          refine Z.iconst hX dX7_work_314 ?_
                          refine Z.icmp_ge hX 398 dX7_work_315 (by decide) ⟨by omega, by omega⟩ ⟨by omega, by omega⟩ ?_ ?_
                          · intro c11
                            refine Z.aload_n hX dX7_work_398 rfl rfl ?_
                            refine Z.getf hX 7 0 5 dX7_work_399 rfl rfl inX7 (by decide) fl_X7_17 rfl rfl ?_
                            refine Z.iconst hX dX7_work_402 ?_
                            refine Z.iconst hX dX7_work_403 ?_
                            refine Z.zastore hX 3 2 dX7_work_404 rfl rfl (by omega) (by omega) (by decide) ?_
                            obtain ⟨I12, eI12⟩ : ∃ J' : Nat → Nat → Int32, J' = va_up I 1 (upd (I 1) (0 : Int).toNat (vp_nar .boolean (zI (0)))) := ⟨_, rfl⟩
                            refine Z.toW (w' := rW ce h G I12 M) (by rw [eI12]; rfl) ?_
                            have gI12 : I12 1 = upd (I 1) (0 : Int).toNat (vp_nar .boolean (zI (0))) := by rw [eI12]; exact up_eq
                            have fI12 : ∀ j_, j_ ≠ 1 → I12 j_ = I j_ := fun j_ hj_ => by rw [eI12]; exact up_ne hj_
                            refine Z.aload_n hX dX7_work_405 rfl rfl ?_
                            refine Z.getf hX 7 0 5 dX7_work_406 rfl rfl inX7 (by decide) fl_X7_17 rfl rfl ?_
                            refine Z.iconst hX dX7_work_409 ?_
                            refine Z.iconst hX dX7_work_410 ?_
                            refine Z.zastore hX 3 2 dX7_work_411 rfl rfl (by omega) (by omega) (by decide) ?_
                            obtain ⟨I13, eI13⟩ : ∃ J' : Nat → Nat → Int32, J' = va_up I12 1 (upd (I12 1) (1 : Int).toNat (vp_nar .boolean (zI (0)))) := ⟨_, rfl⟩
                            refine Z.toW (w' := rW ce h G I13 M) (by rw [eI13]; rfl) ?_
                            have gI13 : I13 1 = upd (I12 1) (1 : Int).toNat (vp_nar .boolean (zI (0))) := by rw [eI13]; exact up_eq
                            have fI13 : ∀ j_, j_ ≠ 1 → I13 j_ = I12 j_ := fun j_ hj_ => by rw [eI13]; exact up_ne hj_
                            refine Z.aload_n hX dX7_work_412 rfl rfl ?_
                            refine Z.getf hX 7 0 3 dX7_work_413 rfl rfl inX7 (by decide) fl_X7_77 rfl rfl ?_
                            refine Z.if_le hX 427 dX7_work_416 (by decide) ⟨by omega, by omega⟩ ?_ ?_
                            · intro c14
                              refine Z.aload_n hX dX7_work_427 rfl rfl ?_
                              refine Z.getf hX 7 0 2 dX7_work_428 rfl rfl inX7 (by decide) fl_X7_70 rfl rfl ?_
                              refine Z.iconst hX dX7_work_431 ?_
                              refine Z.icmp_le hX 439 dX7_work_432 (by decide) ⟨by omega, by omega⟩ ⟨by omega, by omega⟩ ?_ ?_
                              · intro c15
                                exact hR _ _ _ dX7_work_439 ⟨G, I13, M, rfl, (by omega), ((fI13 0 (by decide)).trans (fI12 0 (by decide))), (zi2_of (x := vp_nar .boolean (zI 0)) (y := vp_nar .boolean (zI 0)) (by rw [gI13, gI12]) rfl rfl), hM3.1⟩
                              · intro c15
                                exfalso; omega
                            · intro c14
                              exfalso; omega
                          · intro c11
                            have q1 := hM3.1 k (by omega) (by omega)
                            have q2 := hM3.1 (5 + k) (by omega) (by omega)
                            have q3 := hM3.1 (10 + k) (by omega) (by omega)
                            refine Z.aload_n hX dX7_work_318 rfl rfl ?_
                            refine Z.aload_n hX dX7_work_319 rfl rfl ?_
                            refine Z.getf hX 7 0 1 dX7_work_320 rfl rfl inX7 (by decide) fl_X7_13 rfl rfl ?_
                            refine Z.iload_n hX dX7_work_323 rfl rfl ?_
                            refine Z.laload hX 2 1 dX7_work_324 rfl rfl (by omega) (by omega) (by decide) ?_
                            refine Z.lconst (v := 0) hX dX7_work_325 rfl ?_
                            refine Z.lcmp_ne hX 357 dX7_work_326 dX7_work_327 (by decide) ?_ ?_
                            · intro c16
                              first | exact absurd q1 (by assumption) | exact absurd q2 (by assumption) | exact absurd q3 (by assumption)
                            · intro c16
                              refine Z.aload_n hX dX7_work_330 rfl rfl ?_
                              refine Z.getf hX 7 0 1 dX7_work_331 rfl rfl inX7 (by decide) fl_X7_13 rfl rfl ?_
                              refine Z.iconst hX dX7_work_334 ?_
                              refine Z.iload_n hX dX7_work_335 rfl rfl ?_
                              refine Z.iadd hX dX7_work_336 ?_
                              refine Z.laload hX 2 1 dX7_work_337 rfl rfl (by omega) (by omega) (by decide) ?_
                              refine Z.lconst (v := 0) hX dX7_work_338 rfl ?_
                              refine Z.lcmp_ne hX 357 dX7_work_339 dX7_work_340 (by decide) ?_ ?_
                              · intro c17
                                first | exact absurd q1 (by assumption) | exact absurd q2 (by assumption) | exact absurd q3 (by assumption)
                              · intro c17
                                refine Z.aload_n hX dX7_work_343 rfl rfl ?_
                                refine Z.getf hX 7 0 1 dX7_work_344 rfl rfl inX7 (by decide) fl_X7_13 rfl rfl ?_
                                refine Z.bipush hX dX7_work_347 (by decide) ?_
                                refine Z.iload_n hX dX7_work_349 rfl rfl ?_
                                refine Z.iadd hX dX7_work_350 ?_
                                refine Z.laload hX 2 1 dX7_work_351 rfl rfl (by omega) (by omega) (by decide) ?_
                                refine Z.lconst (v := 0) hX dX7_work_352 rfl ?_
                                refine Z.lcmp_eq hX 361 dX7_work_353 dX7_work_354 (by decide) ?_ ?_
                                · intro c18
                                  refine Z.aload_n hX dX7_work_361 rfl rfl ?_
                                  refine Z.getf hX 7 0 3 dX7_work_362 rfl rfl inX7 (by decide) fl_X7_77 rfl rfl ?_
                                  refine Z.putf (ty := .int) hX 7 0 3 tyX7 dX7_work_365 rfl rfl inX7 tyX7_ok nmX7 (by decide) fl_X7_77 rfl rfl (by decide +kernel) rfl rfl (Nat.le_of_ble_eq_true rfl) ?_
                                  obtain ⟨F19, eF19⟩ : ∃ F' : Nat → Int, F' = va_up G 1 (G 1) := ⟨_, rfl⟩
                                  refine Z.toW (w' := rW ce h F19 I M) (by rw [eF19]; rfl) ?_
                                  have eF19_0 : F19 0 = G 0 := by rw [eF19]; rfl
                                  have eF19_1 : F19 1 = G 1 := by rw [eF19]; rfl
                                  have eF19_2 : F19 2 = G 2 := by rw [eF19]; rfl
                                  refine Z.iload_n hX dX7_work_368 rfl rfl ?_
                                  refine Z.if_ne hX 386 dX7_work_369 (by decide) ⟨by omega, by omega⟩ ?_ ?_
                                  · intro c20
                                    first | exact absurd q3 (by assumption) | (exfalso; omega)
                                  · intro c20
                                    refine Z.aload_n hX dX7_work_372 rfl rfl ?_
                                    refine Z.getf hX 7 0 1 dX7_work_373 rfl rfl inX7 (by decide) fl_X7_13 rfl rfl ?_
                                    refine Z.bipush hX dX7_work_376 (by decide) ?_
                                    refine Z.iload_n hX dX7_work_378 rfl rfl ?_
                                    refine Z.iadd hX dX7_work_379 ?_
                                    refine Z.laload hX 2 1 dX7_work_380 rfl rfl (by omega) (by omega) (by decide) ?_
                                    refine Z.lconst (v := 0) hX dX7_work_381 rfl ?_
                                    refine Z.lcmp_eq hX 390 dX7_work_382 dX7_work_383 (by decide) ?_ ?_
                                    · intro c21
                                      refine Z.iconst hX dX7_work_390 ?_
                                      refine Z.istore_n (lv' := [(2, .int (zI 0)), (3, .int (zI k)), (0, .ref (h 0))]) hX dX7_work_391 rfl (by decide) rfl ?_
                                      refine Z.iinc (lv' := [(3, .int (zI (k + 1))), (2, .int (zI 0)), (0, .ref (h 0))]) hX dX7_work_392 rfl (by decide) rfl ?_
                                      refine Z.goto hX 313 dX7_work_395 (by decide) ?_
                                      refine Z.pick [0, 1, 2] rfl ?_
                                      exact ih_313 _ _ _ (by omega) (by omega) (by omega) (by omega)
                                    · intro c21
                                      first | exact absurd q3 (by assumption) | (exfalso; omega)
                                · intro c18
                                  first | exact absurd q1 (by assumption) | exact absurd q2 (by assumption) | exact absurd q3 (by assumption)
                      refine Z.pick [0, 1, 3] rfl ?_
                      exact key_313 _ _ _ _ (Nat.lt_succ_self _) (by omega) (by omega) (by omega)
                    · intro c9
                      refine Z.iconst hX dX7_work_155 ?_
                      refine Z.istore_n (lv' := [(3, .int (zI 0)), (2, .int (zI wv)), (1, .int (zI d)), (0, .ref (h 0))]) hX dX7_work_156 rfl (by decide) rfl ?_
                      have key_157 : ∀ (N : Nat), ∀ (k : Int) (M : Nat → Nat → Int64), (5 - k).toNat < N → (hk3 : 0 ≤ k ∧ k ≤ 5) → (hM4 : zst M) → Z p l e { frames := 3, cells := 0, slots := 0, locals := 80 } s m args below meth c D A 7 0 0 Q 157 [(3, .int (zI k)), (2, .int (zI wv)), (1, .int (zI d)), (0, .ref (h 0))] [] (rW ce h G I M) := by
                        intro N
                        induction N with
                        | zero => intro k M hm; exact absurd hm (Nat.not_lt_zero _)
                        | succ N ih_157 =>
                          intro k M hm hk3 hM4
                          refine Z.iload_n hX dX7_work_157 rfl rfl ?_
                          refine Z.iconst hX dX7_work_158 ?_
                          refine Z.icmp_ge hX 214 dX7_work_159 (by decide) ⟨by omega, by omega⟩ ⟨by omega, by omega⟩ ?_ ?_
                          · intro c22
                            refine Z.iconst hX dX7_work_214 ?_
                            refine Z.iload_n hX dX7_work_215 rfl rfl ?_
                            refine Z.isub hX dX7_work_216 ?_
                            refine Z.istore_n (lv' := [(3, .int (zI (4 - d))), (2, .int (zI wv)), (1, .int (zI d)), (0, .ref (h 0))]) hX dX7_work_217 rfl (by decide) rfl ?_
                            refine Z.iload_n hX dX7_work_218 rfl rfl ?_
                            refine Z.if_lt hX 298 dX7_work_219 (by decide) ⟨by omega, by omega⟩ ?_ ?_
                            · intro c23
                              refine Z.iinc (lv' := [(2, .int (zI (wv + 1))), (3, .int (zI (4 - d))), (1, .int (zI d)), (0, .ref (h 0))]) hX dX7_work_298 rfl (by decide) rfl ?_
                              refine Z.goto hX 150 dX7_work_301 (by decide) ?_
                              refine Z.pick [0, 2, 3] rfl ?_
                              exact ih_150 _ _ (by omega) (by omega) hM4
                            · intro c23
                              refine Z.iload_n hX dX7_work_222 rfl rfl ?_
                              refine Z.if_le hX 298 dX7_work_223 (by decide) ⟨by omega, by omega⟩ ?_ ?_
                              · intro c24
                                refine Z.iinc (lv' := [(2, .int (zI (wv + 1))), (3, .int (zI (4 - d))), (1, .int (zI d)), (0, .ref (h 0))]) hX dX7_work_298 rfl (by decide) rfl ?_
                                refine Z.goto hX 150 dX7_work_301 (by decide) ?_
                                refine Z.pick [0, 2, 3] rfl ?_
                                exact ih_150 _ _ (by omega) (by omega) hM4
                              · intro c24
                                exfalso; omega
                          · intro c22
                            refine Z.aload_n hX dX7_work_162 rfl rfl ?_
                            refine Z.getf hX 7 0 10 dX7_work_163 rfl rfl inX7 (by decide) fl_X7_33 rfl rfl ?_
                            refine Z.iload_n hX dX7_work_166 rfl rfl ?_
                            refine Z.aload_n hX dX7_work_167 rfl rfl ?_
                            refine Z.getf hX 7 0 0 dX7_work_168 rfl rfl inX7 (by decide) fl_X7_7 rfl rfl ?_
                            refine Z.iconst hX dX7_work_171 ?_
                            refine Z.iload_n hX dX7_work_172 rfl rfl ?_
                            refine Z.imul hX dX7_work_173 ?_
                            refine Z.iload_n hX dX7_work_174 rfl rfl ?_
                            refine Z.iadd hX dX7_work_175 ?_
                            refine Z.iaload hX 1 0 dX7_work_176 rfl rfl (by omega) (by omega) (by decide) ?_
                            refine Z.topi (fun z25 hz25 kz25 ez25 => ?_)
                            have nz25 : z25 = 0 := zi_no hz (by omega) (by omega) ez25 hz25 kz25
                            refine Z.i2l hX dX7_work_177 ⟨by omega, by omega⟩ ?_
                            refine Z.lastore hX 8 1 dX7_work_178 rfl rfl (by omega) (by omega) (by decide) ?_
                            obtain ⟨J26, eJ26⟩ : ∃ J' : Nat → Nat → Int64, J' = va_up M 3 (vp_updL (M 3) (k : Int).toNat (zL z25)) := ⟨_, rfl⟩
                            refine Z.toW (w' := rW ce h G I J26) (by rw [eJ26]; rfl) ?_
                            have gJ26 : J26 3 = vp_updL (M 3) (k : Int).toNat (zL z25) := by rw [eJ26]; exact up_eq
                            have fJ26 : ∀ j_, j_ ≠ 3 → J26 j_ = M j_ := fun j_ hj_ => by rw [eJ26]; exact up_ne hj_
                            refine Z.aload_n hX dX7_work_179 rfl rfl ?_
                            refine Z.getf hX 7 0 1 dX7_work_180 rfl rfl inX7 (by decide) fl_X7_13 rfl rfl ?_
                            refine Z.iconst hX dX7_work_183 ?_
                            refine Z.iload_n hX dX7_work_184 rfl rfl ?_
                            refine Z.imul hX dX7_work_185 ?_
                            refine Z.iload_n hX dX7_work_186 rfl rfl ?_
                            refine Z.iadd hX dX7_work_187 ?_
                            refine Z.iload_n hX dX7_work_188 rfl rfl ?_
                            refine Z.if_le hX 196 dX7_work_189 (by decide) ⟨by omega, by omega⟩ ?_ ?_
                            · intro c27
                              refine Z.aload_n hX dX7_work_196 rfl rfl ?_
                              refine Z.getf hX 7 0 0 dX7_work_197 rfl rfl inX7 (by decide) fl_X7_7 rfl rfl ?_
                              refine Z.iconst hX dX7_work_200 ?_
                              refine Z.iload_n hX dX7_work_201 rfl rfl ?_
                              refine Z.imul hX dX7_work_202 ?_
                              refine Z.iload_n hX dX7_work_203 rfl rfl ?_
                              refine Z.iadd hX dX7_work_204 ?_
                              refine Z.iaload hX 1 0 dX7_work_205 rfl rfl (by omega) (by omega) (by decide) ?_
                              refine Z.topi (fun z28 hz28 kz28 ez28 => ?_)
                              have nz28 : z28 = 0 := zi_no hz (by omega) (by omega) ez28 hz28 kz28
                              refine Z.i2l hX dX7_work_206 ⟨by omega, by omega⟩ ?_
                              refine Z.lastore hX 2 1 dX7_work_207 rfl rfl (by omega) (by omega) (by decide) ?_
                              obtain ⟨J29, eJ29⟩ : ∃ J' : Nat → Nat → Int64, J' = va_up J26 0 (vp_updL (J26 0) ((5 * wv) + k : Int).toNat (zL z28)) := ⟨_, rfl⟩
                              refine Z.toW (w' := rW ce h G I J29) (by rw [eJ29]; rfl) ?_
                              have gJ29 : J29 0 = vp_updL (J26 0) ((5 * wv) + k : Int).toNat (zL z28) := by rw [eJ29]; exact up_eq
                              have fJ29 : ∀ j_, j_ ≠ 0 → J29 j_ = J26 j_ := fun j_ hj_ => by rw [eJ29]; exact up_ne hj_
                              refine Z.iinc (lv' := [(3, .int (zI (k + 1))), (2, .int (zI wv)), (1, .int (zI d)), (0, .ref (h 0))]) hX dX7_work_208 rfl (by decide) rfl ?_
                              refine Z.goto hX 157 dX7_work_211 (by decide) ?_
                              refine Z.pick [0, 1, 2, 3] rfl ?_
                              exact ih_157 _ _ (by omega) (by omega) (zst_0 (zst_3 hM4 gJ26 fJ26 (zL_z (by omega))) gJ29 fJ29 (zL_z (by omega)))
                            · intro c27
                              exfalso; omega
                      refine Z.pick [0, 1, 2, 3] rfl ?_
                      exact key_157 _ _ _ (Nat.lt_succ_self _) (by omega) hM3
                refine Z.pick [0, 1, 2] rfl ?_
                exact key_150 _ _ _ (Nat.lt_succ_self _) (by omega) hMd
              · intro c6
                refine Z.aload_n hX dX7_work_114 rfl rfl ?_
                refine Z.getf hX 7 0 10 dX7_work_115 rfl rfl inX7 (by decide) fl_X7_33 rfl rfl ?_
                refine Z.iload_n hX dX7_work_118 rfl rfl ?_
                refine Z.aload_n hX dX7_work_119 rfl rfl ?_
                refine Z.getf hX 7 0 0 dX7_work_120 rfl rfl inX7 (by decide) fl_X7_7 rfl rfl ?_
                refine Z.bipush hX dX7_work_123 (by decide) ?_
                refine Z.iload_n hX dX7_work_125 rfl rfl ?_
                refine Z.iadd hX dX7_work_126 ?_
                refine Z.iaload hX 1 0 dX7_work_127 rfl rfl (by omega) (by omega) (by decide) ?_
                refine Z.topi (fun z30 hz30 kz30 ez30 => ?_)
                have nz30 : z30 = 0 := zi_no hz (by omega) (by omega) ez30 hz30 kz30
                refine Z.i2l hX dX7_work_128 ⟨by omega, by omega⟩ ?_
                refine Z.lastore hX 8 1 dX7_work_129 rfl rfl (by omega) (by omega) (by decide) ?_
                obtain ⟨J31, eJ31⟩ : ∃ J' : Nat → Nat → Int64, J' = va_up M 3 (vp_updL (M 3) (k : Int).toNat (zL z30)) := ⟨_, rfl⟩
                refine Z.toW (w' := rW ce h G I J31) (by rw [eJ31]; rfl) ?_
                have gJ31 : J31 3 = vp_updL (M 3) (k : Int).toNat (zL z30) := by rw [eJ31]; exact up_eq
                have fJ31 : ∀ j_, j_ ≠ 3 → J31 j_ = M j_ := fun j_ hj_ => by rw [eJ31]; exact up_ne hj_
                refine Z.iinc (lv' := [(1, .int (zI (k + 1))), (0, .ref (h 0))]) hX dX7_work_130 rfl (by decide) rfl ?_
                refine Z.goto hX 109 dX7_work_133 (by decide) ?_
                refine Z.pick [0, 1] rfl ?_
                exact ih_109 _ _ (by omega) (by omega) (zst_3 hM2 gJ31 fJ31 (zL_z (by omega)))
          refine Z.pick [0, 1] rfl ?_
          exact key_109 _ _ _ (Nat.lt_succ_self _) (by omega) hMa
        · intro c4
          refine Z.aload_n hX dX7_work_25 rfl rfl ?_
          refine Z.aload_n hX dX7_work_26 rfl rfl ?_
          refine Z.getf hX 7 0 0 dX7_work_27 rfl rfl inX7 (by decide) fl_X7_7 rfl rfl ?_
          refine Z.iload_n hX dX7_work_30 rfl rfl ?_
          refine Z.iaload hX 1 0 dX7_work_31 rfl rfl (by omega) (by omega) (by decide) ?_
          refine Z.topi (fun z32 hz32 kz32 ez32 => ?_)
          have nz32 : z32 = 0 := zi_no hz (by omega) (by omega) ez32 hz32 kz32
          refine Z.if_ne hX 58 dX7_work_32 (by decide) ⟨by omega, by omega⟩ ?_ ?_
          · intro c33
            exfalso; omega
          · intro c33
            refine Z.aload_n hX dX7_work_35 rfl rfl ?_
            refine Z.getf hX 7 0 0 dX7_work_36 rfl rfl inX7 (by decide) fl_X7_7 rfl rfl ?_
            refine Z.iconst hX dX7_work_39 ?_
            refine Z.iload_n hX dX7_work_40 rfl rfl ?_
            refine Z.iadd hX dX7_work_41 ?_
            refine Z.iaload hX 1 0 dX7_work_42 rfl rfl (by omega) (by omega) (by decide) ?_
            refine Z.topi (fun z34 hz34 kz34 ez34 => ?_)
            have nz34 : z34 = 0 := zi_no hz (by omega) (by omega) ez34 hz34 kz34
            refine Z.if_ne hX 58 dX7_work_43 (by decide) ⟨by omega, by omega⟩ ?_ ?_
            · intro c35
              exfalso; omega
            · intro c35
              refine Z.aload_n hX dX7_work_46 rfl rfl ?_
              refine Z.getf hX 7 0 0 dX7_work_47 rfl rfl inX7 (by decide) fl_X7_7 rfl rfl ?_
              refine Z.bipush hX dX7_work_50 (by decide) ?_
              refine Z.iload_n hX dX7_work_52 rfl rfl ?_
              refine Z.iadd hX dX7_work_53 ?_
              refine Z.iaload hX 1 0 dX7_work_54 rfl rfl (by omega) (by omega) (by decide) ?_
              refine Z.topi (fun z36 hz36 kz36 ez36 => ?_)
              have nz36 : z36 = 0 := zi_no hz (by omega) (by omega) ez36 hz36 kz36
              refine Z.if_eq hX 62 dX7_work_55 (by decide) ⟨by omega, by omega⟩ ?_ ?_
              · intro c37
                refine Z.aload_n hX dX7_work_62 rfl rfl ?_
                refine Z.getf hX 7 0 2 dX7_work_63 rfl rfl inX7 (by decide) fl_X7_70 rfl rfl ?_
                refine Z.putf (ty := .int) hX 7 0 2 tyX7 dX7_work_66 rfl rfl inX7 tyX7_ok nmX7 (by decide) fl_X7_70 rfl rfl (by decide +kernel) rfl rfl (Nat.le_of_ble_eq_true rfl) ?_
                obtain ⟨F38, eF38⟩ : ∃ F' : Nat → Int, F' = va_up G 0 (G 0) := ⟨_, rfl⟩
                refine Z.toW (w' := rW ce h F38 I M) (by rw [eF38]; rfl) ?_
                have eF38_0 : F38 0 = G 0 := by rw [eF38]; rfl
                have eF38_1 : F38 1 = G 1 := by rw [eF38]; rfl
                have eF38_2 : F38 2 = G 2 := by rw [eF38]; rfl
                refine Z.aload_n hX dX7_work_69 rfl rfl ?_
                refine Z.getf hX 7 0 9 dX7_work_70 rfl rfl inX7 (by decide) fl_X7_30 rfl rfl ?_
                refine Z.iload_n hX dX7_work_73 rfl rfl ?_
                refine Z.aload_n hX dX7_work_74 rfl rfl ?_
                refine Z.getf hX 7 0 0 dX7_work_75 rfl rfl inX7 (by decide) fl_X7_7 rfl rfl ?_
                refine Z.iload_n hX dX7_work_78 rfl rfl ?_
                refine Z.iaload hX 1 0 dX7_work_79 rfl rfl (by omega) (by omega) (by decide) ?_
                refine Z.topi (fun z39 hz39 kz39 ez39 => ?_)
                have nz39 : z39 = 0 := zi_no hz (by omega) (by omega) ez39 hz39 kz39
                refine Z.i2l hX dX7_work_80 ⟨by omega, by omega⟩ ?_
                refine Z.lastore hX 7 1 dX7_work_81 rfl rfl (by omega) (by omega) (by decide) ?_
                obtain ⟨J40, eJ40⟩ : ∃ J' : Nat → Nat → Int64, J' = va_up M 2 (vp_updL (M 2) (k : Int).toNat (zL z39)) := ⟨_, rfl⟩
                refine Z.toW (w' := rW ce h F38 I J40) (by rw [eJ40]; rfl) ?_
                have gJ40 : J40 2 = vp_updL (M 2) (k : Int).toNat (zL z39) := by rw [eJ40]; exact up_eq
                have fJ40 : ∀ j_, j_ ≠ 2 → J40 j_ = M j_ := fun j_ hj_ => by rw [eJ40]; exact up_ne hj_
                refine Z.aload_n hX dX7_work_82 rfl rfl ?_
                refine Z.getf hX 7 0 10 dX7_work_83 rfl rfl inX7 (by decide) fl_X7_33 rfl rfl ?_
                refine Z.iload_n hX dX7_work_86 rfl rfl ?_
                refine Z.aload_n hX dX7_work_87 rfl rfl ?_
                refine Z.getf hX 7 0 0 dX7_work_88 rfl rfl inX7 (by decide) fl_X7_7 rfl rfl ?_
                refine Z.iconst hX dX7_work_91 ?_
                refine Z.iload_n hX dX7_work_92 rfl rfl ?_
                refine Z.iadd hX dX7_work_93 ?_
                refine Z.iaload hX 1 0 dX7_work_94 rfl rfl (by omega) (by omega) (by decide) ?_
                refine Z.topi (fun z41 hz41 kz41 ez41 => ?_)
                have nz41 : z41 = 0 := zi_no hz (by omega) (by omega) ez41 hz41 kz41
                refine Z.i2l hX dX7_work_95 ⟨by omega, by omega⟩ ?_
                refine Z.lastore hX 8 1 dX7_work_96 rfl rfl (by omega) (by omega) (by decide) ?_
                obtain ⟨J42, eJ42⟩ : ∃ J' : Nat → Nat → Int64, J' = va_up J40 3 (vp_updL (J40 3) (k : Int).toNat (zL z41)) := ⟨_, rfl⟩
                refine Z.toW (w' := rW ce h F38 I J42) (by rw [eJ42]; rfl) ?_
                have gJ42 : J42 3 = vp_updL (J40 3) (k : Int).toNat (zL z41) := by rw [eJ42]; exact up_eq
                have fJ42 : ∀ j_, j_ ≠ 3 → J42 j_ = J40 j_ := fun j_ hj_ => by rw [eJ42]; exact up_ne hj_
                refine Z.iinc (lv' := [(1, .int (zI (k + 1))), (0, .ref (h 0))]) hX dX7_work_97 rfl (by decide) rfl ?_
                refine Z.goto hX 20 dX7_work_100 (by decide) ?_
                refine Z.pick [0, 1] rfl ?_
                exact ih_20 _ _ _ (by omega) (by omega) (by omega) (zst_3 (zst_2 hM gJ40 fJ40 (zL_z (by omega))) gJ42 fJ42 (zL_z (by omega)))
              · intro c37
                exfalso; omega
    refine Z.pick [0, 1] rfl ?_
    exact key_20 _ _ _ _ (Nat.lt_succ_self _) (by omega) (by omega) hj
  · intro c1
    exfalso; omega

set_option maxHeartbeats 4000000 in
set_option maxRecDepth 100000 in
theorem ct_X7_degree_0 (l : Launch) (D : va_G) (ce : Nat → ClassId) (h : Nat → Nat) (F : Nat → Int) (I : Nat → Nat → Int32) (J : Nat → Nat → Int64) (what : Int) (hok : rOK F I) (hw : -2147483648 ≤ what ∧ what < 2147483648) (hf : F 2 = 0) (hz : zi15 (I 0)) (hj : zst J) : Ct l yX7_degree cX7_degree 2 (some .int) { frames := 4, cells := 0, slots := 0, locals := 106 } 0 0 D (TY ce) [.ref (h 0), .int (zI what)] (rW ce h F I J) (QI D (TY ce) (fun r w1 => ∃ z : Int, ∃ F2 : Nat → Int, ∃ I2 : Nat → Nat → Int32, ∃ J2 : Nat → Nat → Int64, r = zI z ∧ w1 = rW ce h F2 I2 J2 ∧ (True) ∧ (¬ (0 ≤ what ∧ what ≤ 2) → z = -1) ∧ ((0 ≤ what ∧ what ≤ 2) → z = 0))) := by
  refine Ct.ofI (by decide) (Nat.le_of_ble_eq_true rfl) ?_
  intro p e s m args below meth c A Q hX hnm hR
  refine Z.pick (lv' := [(0, .ref (h 0)), (1, .int (zI what))]) [0, 1] rfl ?_
  refine Z.iload_n hX dX7_degree_0 rfl rfl ?_
  refine Z.if_lt hX 9 dX7_degree_1 (by decide) ⟨by omega, by omega⟩ ?_ ?_
  · intro c1
    refine Z.iconst hX dX7_degree_9 ?_
    exact hR _ _ _ _ dX7_degree_10 ⟨(-1), F, I, J, rfl, rfl, trivial, (fun _ => rfl), (fun q => by omega)⟩
  · intro c1
    refine Z.iload_n hX dX7_degree_4 rfl rfl ?_
    refine Z.iconst hX dX7_degree_5 ?_
    refine Z.icmp_le hX 11 dX7_degree_6 (by decide) ⟨by omega, by omega⟩ ⟨by omega, by omega⟩ ?_ ?_
    · intro c2
      refine Z.aload_n hX dX7_degree_11 rfl rfl ?_
      refine Z.callVfv (As := []) (rest := []) hX 7 0 rfl rfl (ct_X7_work_0 l D ce h F I J hok hf hz hj) mc_X7_work ml_X7_130 im_X7_work se_X7_work ini_X7 nd_X7_work ⟨Nat.le_of_ble_eq_true rfl, Nat.le_of_ble_eq_true rfl⟩ ⟨rfl, rfl⟩ ⟨Nat.le_refl _, Nat.le_refl _⟩ rfl (Nat.le_of_ble_eq_true rfl) dX7_degree_12 ?_
      rintro w1 ⟨Fw, Iw, Jw, hw_, hfw, hIw, hhw, hjw⟩
      subst hw_
      refine Z.iload_n hX dX7_degree_15 rfl rfl ?_
      refine Z.if_ne hX 26 dX7_degree_16 (by decide) ⟨by omega, by omega⟩ ?_ ?_
      · intro c4
        refine Z.iload_n hX dX7_degree_26 rfl rfl ?_
        refine Z.iconst hX dX7_degree_27 ?_
        refine Z.icmp_ne hX 38 dX7_degree_28 (by decide) ⟨by omega, by omega⟩ ⟨by omega, by omega⟩ ?_ ?_
        · intro c5
          refine Z.aload_n hX dX7_degree_38 rfl rfl ?_
          refine Z.getf hX 7 0 2 dX7_degree_39 rfl rfl inX7 (by decide) fl_X7_70 rfl rfl ?_
          refine Z.aload_n hX dX7_degree_42 rfl rfl ?_
          refine Z.getf hX 7 0 3 dX7_degree_43 rfl rfl inX7 (by decide) fl_X7_77 rfl rfl ?_
          refine Z.isub hX dX7_degree_46 ?_
          exact hR _ _ _ _ dX7_degree_47 ⟨((Fw 0) - (Fw 1)), Fw, Iw, Jw, rfl, rfl, trivial, (fun q => by omega), (fun q => by omega)⟩
        · intro c5
          refine Z.aload_n hX dX7_degree_31 rfl rfl ?_
          refine Z.getf hX 7 0 3 dX7_degree_32 rfl rfl inX7 (by decide) fl_X7_77 rfl rfl ?_
          refine Z.goto hX 47 dX7_degree_35 (by decide) ?_
          exact hR _ _ _ _ dX7_degree_47 ⟨(Fw 1), Fw, Iw, Jw, rfl, rfl, trivial, (fun q => by omega), (fun q => by omega)⟩
      · intro c4
        refine Z.aload_n hX dX7_degree_19 rfl rfl ?_
        refine Z.getf hX 7 0 2 dX7_degree_20 rfl rfl inX7 (by decide) fl_X7_70 rfl rfl ?_
        refine Z.goto hX 47 dX7_degree_23 (by decide) ?_
        exact hR _ _ _ _ dX7_degree_47 ⟨(Fw 0), Fw, Iw, Jw, rfl, rfl, trivial, (fun q => by omega), (fun q => by omega)⟩
    · intro c2
      refine Z.iconst hX dX7_degree_9 ?_
      exact hR _ _ _ _ dX7_degree_10 ⟨(-1), F, I, J, rfl, rfl, trivial, (fun _ => rfl), (fun q => by omega)⟩

set_option maxHeartbeats 4000000 in
set_option maxRecDepth 100000 in
theorem ct_X7_freed_0 (l : Launch) (D : va_G) (ce : Nat → ClassId) (h : Nat → Nat) (F : Nat → Int) (I : Nat → Nat → Int32) (J : Nat → Nat → Int64) (wh i : Int) (hok : rOK F I) (hw : -2147483648 ≤ wh ∧ wh < 2147483648) (hi : -2147483648 ≤ i ∧ i < 2147483648) (hf : F 2 = 0) (hz : zi15 (I 0)) (hj : zst J) : Ct l yX7_freed cX7_freed 3 (some .int) { frames := 4, cells := 0, slots := 0, locals := 106 } 0 0 D (TY ce) [.ref (h 0), .int (zI wh), .int (zI i)] (rW ce h F I J) (QI D (TY ce) (fun r w1 => ∃ z : Int, ∃ F2 : Nat → Int, ∃ I2 : Nat → Nat → Int32, ∃ J2 : Nat → Nat → Int64, r = zI z ∧ w1 = rW ce h F2 I2 J2 ∧ (True) ∧ (¬ (0 ≤ wh ∧ wh ≤ 2 ∧ 0 ≤ i ∧ i ≤ 4) → z = -1000000) ∧ ((0 ≤ wh ∧ wh ≤ 2 ∧ 0 ≤ i ∧ i ≤ 4) → z = 0))) := by
  refine Ct.ofI (by decide) (Nat.le_of_ble_eq_true rfl) ?_
  intro p e s m args below meth c A Q hX hnm hR
  refine Z.pick (lv' := [(0, .ref (h 0)), (1, .int (zI wh)), (2, .int (zI i))]) [0, 1, 2] rfl ?_
  refine Z.iload_n hX dX7_freed_0 rfl rfl ?_
  refine Z.if_lt hX 18 dX7_freed_1 (by decide) ⟨by omega, by omega⟩ ?_ ?_
  · intro c1
    refine Z.ldc hX (-1000000) dX7_freed_18 co_X7_133 rfl ?_
    exact hR _ _ _ _ dX7_freed_20 ⟨((-1000000)), F, I, J, rfl, rfl, trivial, (fun _ => rfl), (fun q => by omega)⟩
  · intro c1
    refine Z.iload_n hX dX7_freed_4 rfl rfl ?_
    refine Z.iconst hX dX7_freed_5 ?_
    refine Z.icmp_gt hX 18 dX7_freed_6 (by decide) ⟨by omega, by omega⟩ ⟨by omega, by omega⟩ ?_ ?_
    · intro c2
      refine Z.ldc hX (-1000000) dX7_freed_18 co_X7_133 rfl ?_
      exact hR _ _ _ _ dX7_freed_20 ⟨((-1000000)), F, I, J, rfl, rfl, trivial, (fun _ => rfl), (fun q => by omega)⟩
    · intro c2
      refine Z.iload_n hX dX7_freed_9 rfl rfl ?_
      refine Z.if_lt hX 18 dX7_freed_10 (by decide) ⟨by omega, by omega⟩ ?_ ?_
      · intro c3
        refine Z.ldc hX (-1000000) dX7_freed_18 co_X7_133 rfl ?_
        exact hR _ _ _ _ dX7_freed_20 ⟨((-1000000)), F, I, J, rfl, rfl, trivial, (fun _ => rfl), (fun q => by omega)⟩
      · intro c3
        refine Z.iload_n hX dX7_freed_13 rfl rfl ?_
        refine Z.iconst hX dX7_freed_14 ?_
        refine Z.icmp_le hX 21 dX7_freed_15 (by decide) ⟨by omega, by omega⟩ ⟨by omega, by omega⟩ ?_ ?_
        · intro c4
          refine Z.aload_n hX dX7_freed_21 rfl rfl ?_
          refine Z.callVfv (As := []) (rest := []) hX 7 0 rfl rfl (ct_X7_work_0 l D ce h F I J hok hf hz hj) mc_X7_work ml_X7_130 im_X7_work se_X7_work ini_X7 nd_X7_work ⟨Nat.le_of_ble_eq_true rfl, Nat.le_of_ble_eq_true rfl⟩ ⟨rfl, rfl⟩ ⟨Nat.le_refl _, Nat.le_refl _⟩ rfl (Nat.le_of_ble_eq_true rfl) dX7_freed_22 ?_
          rintro w1 ⟨Fw, Iw, Jw, hw_, hfw, hIw, hhw, hjw⟩
          subst hw_
          refine Z.aload_n hX dX7_freed_25 rfl rfl ?_
          refine Z.getf hX 7 0 1 dX7_freed_26 rfl rfl inX7 (by decide) fl_X7_13 rfl rfl ?_
          refine Z.iconst hX dX7_freed_29 ?_
          refine Z.iload_n hX dX7_freed_30 rfl rfl ?_
          refine Z.imul hX dX7_freed_31 ?_
          refine Z.iload_n hX dX7_freed_32 rfl rfl ?_
          refine Z.iadd hX dX7_freed_33 ?_
          refine Z.laload hX 2 1 dX7_freed_34 rfl rfl (by omega) (by omega) (by decide) ?_
          refine Z.l2i hX dX7_freed_35 ?_
          refine Z.topi (fun z6 hz6 kz6 ez6 => ?_)
          exact hR _ _ _ _ dX7_freed_36 ⟨z6, Fw, Iw, Jw, rfl, rfl, trivial, (fun q => by omega), (fun _ => l2i_0 (hjw _ (by omega) (by omega)) ez6 hz6 kz6)⟩
        · intro c4
          refine Z.ldc hX (-1000000) dX7_freed_18 co_X7_133 rfl ?_
          exact hR _ _ _ _ dX7_freed_20 ⟨((-1000000)), F, I, J, rfl, rfl, trivial, (fun _ => rfl), (fun q => by omega)⟩

set_option maxHeartbeats 4000000 in
set_option maxRecDepth 100000 in
theorem ct_X7_valueOf_0 (l : Launch) (D : va_G) (ce : Nat → ClassId) (h : Nat → Nat) (F : Nat → Int) (I : Nat → Nat → Int32) (J : Nat → Nat → Int64) (wh u v : Int) (hok : rOK F I) (hw : 0 ≤ wh ∧ wh ≤ 2) (hu : -2147483648 ≤ u ∧ u < 2147483648) (hv : -2147483648 ≤ v ∧ v < 2147483648) (hf : F 2 = 0) (hz : zi15 (I 0)) (hj : zst J) : Ct l yX7_valueOf cX7_valueOf 7 (some .long) { frames := 4, cells := 0, slots := 0, locals := 106 } 0 0 D (TY ce) [.ref (h 0), .int (zI wh), .int (zI u), .int (zI v)] (rW ce h F I J) (QL D (TY ce) (fun r w1 => ∃ r0 : Int64, ∃ F2 : Nat → Int, ∃ I2 : Nat → Nat → Int32, ∃ J2 : Nat → Nat → Int64, r = r0 ∧ w1 = rW ce h F2 I2 J2 ∧ (True) ∧ (zi2 (I2 1)))) := by
  refine Ct.ofL (by decide) (Nat.le_of_ble_eq_true rfl) ?_
  intro p e s m args below meth c A Q hX hnm hR
  refine Z.pick (lv' := [(0, .ref (h 0)), (1, .int (zI wh)), (2, .int (zI u)), (3, .int (zI v))]) [0, 1, 2, 3] rfl ?_
  refine Z.aload_n hX dX7_valueOf_0 rfl rfl ?_
  refine Z.callVfv (As := []) (rest := []) hX 7 0 rfl rfl (ct_X7_work_0 l D ce h F I J hok hf hz hj) mc_X7_work ml_X7_130 im_X7_work se_X7_work ini_X7 nd_X7_work ⟨Nat.le_of_ble_eq_true rfl, Nat.le_of_ble_eq_true rfl⟩ ⟨rfl, rfl⟩ ⟨Nat.le_refl _, Nat.le_refl _⟩ rfl (Nat.le_of_ble_eq_true rfl) dX7_valueOf_1 ?_
  rintro w1 ⟨Fw, Iw, Jw, hw_, hfw, hIw, hhw, hjw⟩
  subst hw_
  refine Z.lconst (v := 0) hX dX7_valueOf_4 rfl ?_
  refine Z.lstore (lv' := [(4, .long 0), (0, .ref (h 0)), (1, .int (zI wh)), (2, .int (zI u)), (3, .int (zI v))]) hX dX7_valueOf_5 (by decide) rfl ?_
  refine Z.iconst hX dX7_valueOf_7 ?_
  refine Z.istore (lv' := [(6, .int (zI 0)), (4, .long 0), (0, .ref (h 0)), (1, .int (zI wh)), (2, .int (zI u)), (3, .int (zI v))]) hX dX7_valueOf_8 (by decide) rfl ?_
  have key_10 : ∀ (N : Nat), ∀ (k : Int) (x : Int64), (Fw 0 + 1 - k).toNat < N → (hk : 0 ≤ k ∧ k ≤ Fw 0 + 1) → Z p l e { frames := 4, cells := 0, slots := 0, locals := 106 } s m args below meth c D A 7 0 0 Q 10 [(6, .int (zI k)), (4, .long x), (1, .int (zI wh)), (2, .int (zI u)), (3, .int (zI v)), (0, .ref (h 0))] [] (rW ce h Fw Iw Jw) := by
    intro N
    induction N with
    | zero => intro k x hm; exact absurd hm (Nat.not_lt_zero _)
    | succ N ih_10 =>
      intro k x hm hk
      refine Z.iload hX dX7_valueOf_10 rfl ?_
      refine Z.aload_n hX dX7_valueOf_12 rfl rfl ?_
      refine Z.getf hX 7 0 2 dX7_valueOf_13 rfl rfl inX7 (by decide) fl_X7_70 rfl rfl ?_
      refine Z.icmp_gt hX 63 dX7_valueOf_16 (by decide) ⟨by omega, by omega⟩ ⟨by omega, by omega⟩ ?_ ?_
      · intro c2
        refine Z.lload hX dX7_valueOf_63 rfl ?_
        exact hR _ _ _ _ dX7_valueOf_65 ⟨x, Fw, Iw, Jw, rfl, rfl, trivial, hhw⟩
      · intro c2
        refine Z.lload hX dX7_valueOf_19 rfl ?_
        refine Z.aload_n hX dX7_valueOf_21 rfl rfl ?_
        refine Z.getf hX 7 0 0 dX7_valueOf_22 rfl rfl inX7 (by decide) fl_X7_7 rfl rfl ?_
        refine Z.iconst hX dX7_valueOf_25 ?_
        refine Z.iload_n hX dX7_valueOf_26 rfl rfl ?_
        refine Z.imul hX dX7_valueOf_27 ?_
        refine Z.iload hX dX7_valueOf_28 rfl ?_
        refine Z.iadd hX dX7_valueOf_30 ?_
        refine Z.iaload hX 1 0 dX7_valueOf_31 rfl rfl (by omega) (by omega) (by decide) ?_
        refine Z.topi (fun z3 hz3 kz3 ez3 => ?_)
        refine Z.i2l hX dX7_valueOf_32 ⟨by omega, by omega⟩ ?_
        refine Z.iload_n hX dX7_valueOf_33 rfl rfl ?_
        refine Z.i2l hX dX7_valueOf_34 ⟨by omega, by omega⟩ ?_
        refine Z.iload hX dX7_valueOf_35 rfl ?_
        refine Z.callS0l (As := [.long (zL u), .int (zI k)]) (rest := [.long (zL z3), .long x]) hX (ct_X7_raised l D ce (zL u) k (by omega)) mc_X7_raised ml_X7_134 st_X7_raised ini_X7 nd_X7_raised ⟨Nat.le_of_ble_eq_true rfl, Nat.le_of_ble_eq_true rfl⟩ ⟨rfl, rfl⟩ ⟨Nat.le_refl _, Nat.le_refl _⟩ rfl (Nat.le_of_ble_eq_true rfl) dX7_valueOf_37 ?_
        rintro r_4 w1 ⟨r05, hr_, hw_, hq6⟩
        subst hr_
        refine ⟨hw_, ?_⟩
        refine Z.lmul hX dX7_valueOf_40 ?_
        refine Z.iload_n hX dX7_valueOf_41 rfl rfl ?_
        refine Z.i2l hX dX7_valueOf_42 ⟨by omega, by omega⟩ ?_
        refine Z.aload_n hX dX7_valueOf_43 rfl rfl ?_
        refine Z.getf hX 7 0 2 dX7_valueOf_44 rfl rfl inX7 (by decide) fl_X7_70 rfl rfl ?_
        refine Z.iload hX dX7_valueOf_47 rfl ?_
        refine Z.isub hX dX7_valueOf_49 ?_
        refine Z.callS0l (As := [.long (zL v), .int (zI ((Fw 0) - k))]) (rest := [.long ((zL z3) * r_4), .long x]) hX (ct_X7_raised l D ce (zL v) ((Fw 0) - k) (by omega)) mc_X7_raised ml_X7_134 st_X7_raised ini_X7 nd_X7_raised ⟨Nat.le_of_ble_eq_true rfl, Nat.le_of_ble_eq_true rfl⟩ ⟨rfl, rfl⟩ ⟨Nat.le_refl _, Nat.le_refl _⟩ rfl (Nat.le_of_ble_eq_true rfl) dX7_valueOf_50 ?_
        rintro r_7 w1 ⟨r08, hr_, hw_, hq9⟩
        subst hr_
        refine ⟨hw_, ?_⟩
        refine Z.lmul hX dX7_valueOf_53 ?_
        refine Z.ladd hX dX7_valueOf_54 ?_
        refine Z.lstore (lv' := [(4, .long (x + (((zL z3) * r_4) * r_7))), (6, .int (zI k)), (1, .int (zI wh)), (2, .int (zI u)), (3, .int (zI v)), (0, .ref (h 0))]) hX dX7_valueOf_55 (by decide) rfl ?_
        refine Z.iinc (lv' := [(6, .int (zI (k + 1))), (4, .long (x + (((zL z3) * r_4) * r_7))), (1, .int (zI wh)), (2, .int (zI u)), (3, .int (zI v)), (0, .ref (h 0))]) hX dX7_valueOf_57 rfl (by decide) rfl ?_
        refine Z.goto hX 10 dX7_valueOf_60 (by decide) ?_
        refine Z.pick [0, 1, 2, 3, 4, 5] rfl ?_
        exact ih_10 _ _ (by omega) (by omega)
  refine Z.pick [0, 1, 3, 4, 5, 2] rfl ?_
  exact key_10 _ _ _ (Nat.lt_succ_self _) (by omega)

set_option maxHeartbeats 4000000 in
set_option maxRecDepth 100000 in
theorem ct_X7_trace_0 (l : Launch) (D : va_G) (ce : Nat → ClassId) (h : Nat → Nat) (F : Nat → Int) (I : Nat → Nat → Int32) (J : Nat → Nat → Int64) (sort : Int) (hok : rOK F I) (hs : -2147483648 ≤ sort ∧ sort < 2147483648) (hf : F 2 = 0) (hz : zi15 (I 0)) (hj : zst J) : Ct l yX7_trace cX7_trace 2 (some .int) { frames := 4, cells := 0, slots := 0, locals := 106 } 0 0 D (TY ce) [.ref (h 0), .int (zI sort)] (rW ce h F I J) (QI D (TY ce) (fun r w1 => ∃ z : Int, ∃ F2 : Nat → Int, ∃ I2 : Nat → Nat → Int32, ∃ J2 : Nat → Nat → Int64, r = zI z ∧ w1 = rW ce h F2 I2 J2 ∧ (True) ∧ (¬ (sort = 0 ∨ sort = 1) → z = -1) ∧ ((sort = 0 ∨ sort = 1) → z = -2))) := by
  refine Ct.ofI (by decide) (Nat.le_of_ble_eq_true rfl) ?_
  intro p e s m args below meth c A Q hX hnm hR
  refine Z.pick (lv' := [(0, .ref (h 0)), (1, .int (zI sort))]) [0, 1] rfl ?_
  refine Z.iload_n hX dX7_trace_0 rfl rfl ?_
  refine Z.callS0i (As := [.int (zI sort)]) (rest := []) hX (ct_X7_isSort l D ce sort (by omega)) mc_X7_isSort ml_X7_144 st_X7_isSort ini_X7 nd_X7_isSort ⟨Nat.le_of_ble_eq_true rfl, Nat.le_of_ble_eq_true rfl⟩ ⟨rfl, rfl⟩ ⟨Nat.le_refl _, Nat.le_refl _⟩ rfl (Nat.le_of_ble_eq_true rfl) dX7_trace_1 ?_
  rintro r_1 w1 ⟨zp, hr_, hw_, hzp⟩
  subst hr_
  refine ⟨hw_, ?_⟩
  refine Z.if_ne hX 9 dX7_trace_4 (by decide) ⟨by omega, by omega⟩ ?_ ?_
  · intro c2
    refine Z.aload_n hX dX7_trace_9 rfl rfl ?_
    refine Z.callVfv (As := []) (rest := []) hX 7 0 rfl rfl (ct_X7_work_0 l D ce h F I J hok hf hz hj) mc_X7_work ml_X7_130 im_X7_work se_X7_work ini_X7 nd_X7_work ⟨Nat.le_of_ble_eq_true rfl, Nat.le_of_ble_eq_true rfl⟩ ⟨rfl, rfl⟩ ⟨Nat.le_refl _, Nat.le_refl _⟩ rfl (Nat.le_of_ble_eq_true rfl) dX7_trace_10 ?_
    rintro w1 ⟨Fw, Iw, Jw, hw_, hfw, hIw, hhw, hjw⟩
    subst hw_
    refine Z.aload_n hX dX7_trace_13 rfl rfl ?_
    refine Z.getf hX 7 0 5 dX7_trace_14 rfl rfl inX7 (by decide) fl_X7_17 rfl rfl ?_
    refine Z.iload_n hX dX7_trace_17 rfl rfl ?_
    refine Z.zaload hX 3 2 dX7_trace_18 rfl rfl (by omega) (by omega) (by decide) ?_
    refine Z.topi (fun z4 hz4 kz4 ez4 => ?_)
    have nz4 : z4 = 0 := zi2_no hhw (j := sort) (by omega) (by omega) ez4 hz4 kz4
    refine Z.if_eq hX 31 dX7_trace_19 (by decide) ⟨by omega, by omega⟩ ?_ ?_
    · intro c5
      refine Z.bipush hX dX7_trace_31 (by decide) ?_
      exact hR _ _ _ _ dX7_trace_33 ⟨(-2), Fw, Iw, Jw, rfl, rfl, trivial, (fun q => by omega), (fun _ => rfl)⟩
    · intro c5
      exfalso; omega
  · intro c2
    refine Z.iconst hX dX7_trace_7 ?_
    exact hR _ _ _ _ dX7_trace_8 ⟨(-1), F, I, J, rfl, rfl, trivial, (fun _ => rfl), (fun q => by omega)⟩

set_option maxHeartbeats 4000000 in
set_option maxRecDepth 100000 in
theorem ct_X7_times_0 (l : Launch) (D : va_G) (ce : Nat → ClassId) (h : Nat → Nat) (F : Nat → Int) (I : Nat → Nat → Int32) (J : Nat → Nat → Int64) (sort : Int) (hok : rOK F I) (hs : -2147483648 ≤ sort ∧ sort < 2147483648) (hf : F 2 = 0) (hz : zi15 (I 0)) (hj : zst J) : Ct l yX7_times cX7_times 2 (some .int) { frames := 4, cells := 0, slots := 0, locals := 106 } 0 0 D (TY ce) [.ref (h 0), .int (zI sort)] (rW ce h F I J) (QI D (TY ce) (fun r w1 => ∃ z : Int, ∃ F2 : Nat → Int, ∃ I2 : Nat → Nat → Int32, ∃ J2 : Nat → Nat → Int64, r = zI z ∧ w1 = rW ce h F2 I2 J2 ∧ (True) ∧ (¬ (sort = 0 ∨ sort = 1) → z = -1) ∧ ((sort = 0 ∨ sort = 1) → z = -2))) := by
  refine Ct.ofI (by decide) (Nat.le_of_ble_eq_true rfl) ?_
  intro p e s m args below meth c A Q hX hnm hR
  refine Z.pick (lv' := [(0, .ref (h 0)), (1, .int (zI sort))]) [0, 1] rfl ?_
  refine Z.iload_n hX dX7_times_0 rfl rfl ?_
  refine Z.callS0i (As := [.int (zI sort)]) (rest := []) hX (ct_X7_isSort l D ce sort (by omega)) mc_X7_isSort ml_X7_144 st_X7_isSort ini_X7 nd_X7_isSort ⟨Nat.le_of_ble_eq_true rfl, Nat.le_of_ble_eq_true rfl⟩ ⟨rfl, rfl⟩ ⟨Nat.le_refl _, Nat.le_refl _⟩ rfl (Nat.le_of_ble_eq_true rfl) dX7_times_1 ?_
  rintro r_1 w1 ⟨zp, hr_, hw_, hzp⟩
  subst hr_
  refine ⟨hw_, ?_⟩
  refine Z.if_ne hX 9 dX7_times_4 (by decide) ⟨by omega, by omega⟩ ?_ ?_
  · intro c2
    refine Z.aload_n hX dX7_times_9 rfl rfl ?_
    refine Z.callVfv (As := []) (rest := []) hX 7 0 rfl rfl (ct_X7_work_0 l D ce h F I J hok hf hz hj) mc_X7_work ml_X7_130 im_X7_work se_X7_work ini_X7 nd_X7_work ⟨Nat.le_of_ble_eq_true rfl, Nat.le_of_ble_eq_true rfl⟩ ⟨rfl, rfl⟩ ⟨Nat.le_refl _, Nat.le_refl _⟩ rfl (Nat.le_of_ble_eq_true rfl) dX7_times_10 ?_
    rintro w1 ⟨Fw, Iw, Jw, hw_, hfw, hIw, hhw, hjw⟩
    subst hw_
    refine Z.aload_n hX dX7_times_13 rfl rfl ?_
    refine Z.getf hX 7 0 5 dX7_times_14 rfl rfl inX7 (by decide) fl_X7_17 rfl rfl ?_
    refine Z.iload_n hX dX7_times_17 rfl rfl ?_
    refine Z.zaload hX 3 2 dX7_times_18 rfl rfl (by omega) (by omega) (by decide) ?_
    refine Z.topi (fun z4 hz4 kz4 ez4 => ?_)
    have nz4 : z4 = 0 := zi2_no hhw (j := sort) (by omega) (by omega) ez4 hz4 kz4
    refine Z.if_eq hX 31 dX7_times_19 (by decide) ⟨by omega, by omega⟩ ?_ ?_
    · intro c5
      refine Z.bipush hX dX7_times_31 (by decide) ?_
      exact hR _ _ _ _ dX7_times_33 ⟨(-2), Fw, Iw, Jw, rfl, rfl, trivial, (fun q => by omega), (fun _ => rfl)⟩
    · intro c5
      exfalso; omega
  · intro c2
    refine Z.iconst hX dX7_times_7 ?_
    exact hR _ _ _ _ dX7_times_8 ⟨(-1), F, I, J, rfl, rfl, trivial, (fun _ => rfl), (fun q => by omega)⟩

set_option maxHeartbeats 4000000 in
set_option maxRecDepth 100000 in
theorem ct_X7_coefficient_0 (l : Launch) (D : va_G) (ce : Nat → ClassId) (h : Nat → Nat) (F : Nat → Int) (I : Nat → Nat → Int32) (J : Nat → Nat → Int64) (sort i j : Int) (hok : rOK F I) (hs : -2147483648 ≤ sort ∧ sort < 2147483648) (hi : -2147483648 ≤ i ∧ i < 2147483648) (hj0 : -2147483648 ≤ j ∧ j < 2147483648) (hf : F 2 = 0) (hz : zi15 (I 0)) (hj : zst J) : Ct l yX7_coefficient cX7_coefficient 4 (some .long) { frames := 4, cells := 0, slots := 0, locals := 106 } 0 0 D (TY ce) [.ref (h 0), .int (zI sort), .int (zI i), .int (zI j)] (rW ce h F I J) (QL D (TY ce) (fun r w1 => ∃ r0 : Int64, ∃ F2 : Nat → Int, ∃ I2 : Nat → Nat → Int32, ∃ J2 : Nat → Nat → Int64, r = r0 ∧ w1 = rW ce h F2 I2 J2 ∧ (True) ∧ (r0 = 0))) := by
  refine Ct.ofL (by decide) (Nat.le_of_ble_eq_true rfl) ?_
  intro p e s m args below meth c A Q hX hnm hR
  refine Z.pick (lv' := [(0, .ref (h 0)), (1, .int (zI sort)), (2, .int (zI i)), (3, .int (zI j))]) [0, 1, 2, 3] rfl ?_
  refine Z.iload_n hX dX7_coefficient_0 rfl rfl ?_
  refine Z.callS0i (As := [.int (zI sort)]) (rest := []) hX (ct_X7_isSort l D ce sort (by omega)) mc_X7_isSort ml_X7_144 st_X7_isSort ini_X7 nd_X7_isSort ⟨Nat.le_of_ble_eq_true rfl, Nat.le_of_ble_eq_true rfl⟩ ⟨rfl, rfl⟩ ⟨Nat.le_refl _, Nat.le_refl _⟩ rfl (Nat.le_of_ble_eq_true rfl) dX7_coefficient_1 ?_
  rintro r_1 w1 ⟨zp, hr_, hw_, hzp⟩
  subst hr_
  refine ⟨hw_, ?_⟩
  refine Z.if_eq hX 27 dX7_coefficient_4 (by decide) ⟨by omega, by omega⟩ ?_ ?_
  · intro c2
    refine Z.lconst (v := 0) hX dX7_coefficient_27 rfl ?_
    exact hR _ _ _ _ dX7_coefficient_28 ⟨0, F, I, J, rfl, rfl, trivial, rfl⟩
  · intro c2
    refine Z.iload_n hX dX7_coefficient_7 rfl rfl ?_
    refine Z.if_lt hX 27 dX7_coefficient_8 (by decide) ⟨by omega, by omega⟩ ?_ ?_
    · intro c3
      refine Z.lconst (v := 0) hX dX7_coefficient_27 rfl ?_
      exact hR _ _ _ _ dX7_coefficient_28 ⟨0, F, I, J, rfl, rfl, trivial, rfl⟩
    · intro c3
      refine Z.iload_n hX dX7_coefficient_11 rfl rfl ?_
      refine Z.bipush hX dX7_coefficient_12 (by decide) ?_
      refine Z.icmp_gt hX 27 dX7_coefficient_14 (by decide) ⟨by omega, by omega⟩ ⟨by omega, by omega⟩ ?_ ?_
      · intro c4
        refine Z.lconst (v := 0) hX dX7_coefficient_27 rfl ?_
        exact hR _ _ _ _ dX7_coefficient_28 ⟨0, F, I, J, rfl, rfl, trivial, rfl⟩
      · intro c4
        refine Z.iload_n hX dX7_coefficient_17 rfl rfl ?_
        refine Z.if_lt hX 27 dX7_coefficient_18 (by decide) ⟨by omega, by omega⟩ ?_ ?_
        · intro c5
          refine Z.lconst (v := 0) hX dX7_coefficient_27 rfl ?_
          exact hR _ _ _ _ dX7_coefficient_28 ⟨0, F, I, J, rfl, rfl, trivial, rfl⟩
        · intro c5
          refine Z.iload_n hX dX7_coefficient_21 rfl rfl ?_
          refine Z.bipush hX dX7_coefficient_22 (by decide) ?_
          refine Z.icmp_le hX 29 dX7_coefficient_24 (by decide) ⟨by omega, by omega⟩ ⟨by omega, by omega⟩ ?_ ?_
          · intro c6
            refine Z.aload_n hX dX7_coefficient_29 rfl rfl ?_
            refine Z.callVfv (As := []) (rest := []) hX 7 0 rfl rfl (ct_X7_work_0 l D ce h F I J hok hf hz hj) mc_X7_work ml_X7_130 im_X7_work se_X7_work ini_X7 nd_X7_work ⟨Nat.le_of_ble_eq_true rfl, Nat.le_of_ble_eq_true rfl⟩ ⟨rfl, rfl⟩ ⟨Nat.le_refl _, Nat.le_refl _⟩ rfl (Nat.le_of_ble_eq_true rfl) dX7_coefficient_30 ?_
            rintro w1 ⟨Fw, Iw, Jw, hw_, hfw, hIw, hhw, hjw⟩
            subst hw_
            refine Z.aload_n hX dX7_coefficient_33 rfl rfl ?_
            refine Z.getf hX 7 0 5 dX7_coefficient_34 rfl rfl inX7 (by decide) fl_X7_17 rfl rfl ?_
            refine Z.iload_n hX dX7_coefficient_37 rfl rfl ?_
            refine Z.zaload hX 3 2 dX7_coefficient_38 rfl rfl (by omega) (by omega) (by decide) ?_
            refine Z.topi (fun z8 hz8 kz8 ez8 => ?_)
            have nz8 : z8 = 0 := zi2_no hhw (j := sort) (by omega) (by omega) ez8 hz8 kz8
            refine Z.if_eq hX 61 dX7_coefficient_39 (by decide) ⟨by omega, by omega⟩ ?_ ?_
            · intro c9
              refine Z.lconst (v := 0) hX dX7_coefficient_61 rfl ?_
              exact hR _ _ _ _ dX7_coefficient_62 ⟨0, Fw, Iw, Jw, rfl, rfl, trivial, rfl⟩
            · intro c9
              exfalso; omega
          · intro c6
            refine Z.lconst (v := 0) hX dX7_coefficient_27 rfl ?_
            exact hR _ _ _ _ dX7_coefficient_28 ⟨0, F, I, J, rfl, rfl, trivial, rfl⟩

set_option maxHeartbeats 4000000 in
set_option maxRecDepth 100000 in
theorem ct_X7_side_0 (l : Launch) (D : va_G) (ce : Nat → ClassId) (h : Nat → Nat) (F : Nat → Int) (I : Nat → Nat → Int32) (J : Nat → Nat → Int64) (sort pp qq ss : Int) (hok : rOK F I) (hs : -2147483648 ≤ sort ∧ sort < 2147483648) (hp : -2147483648 ≤ pp ∧ pp < 2147483648) (hq : -2147483648 ≤ qq ∧ qq < 2147483648) (hss : -2147483648 ≤ ss ∧ ss < 2147483648) (hf : F 2 = 0) (hz : zi15 (I 0)) (hj : zst J) : Ct l yX7_side cX7_side 15 (some .int) { frames := 4, cells := 0, slots := 0, locals := 106 } 0 0 D (TY ce) [.ref (h 0), .int (zI sort), .int (zI pp), .int (zI qq), .int (zI ss)] (rW ce h F I J) (QI D (TY ce) (fun r w1 => ∃ z : Int, ∃ F2 : Nat → Int, ∃ I2 : Nat → Nat → Int32, ∃ J2 : Nat → Nat → Int64, r = zI z ∧ w1 = rW ce h F2 I2 J2 ∧ (True) ∧ (¬ ((sort = 0 ∨ sort = 1) ∧ (-20 ≤ pp ∧ pp ≤ 20 ∧ -20 ≤ qq ∧ qq ≤ 20 ∧ 1 ≤ ss ∧ ss ≤ 9)) → z = -9) ∧ (((sort = 0 ∨ sort = 1) ∧ (-20 ≤ pp ∧ pp ≤ 20 ∧ -20 ≤ qq ∧ qq ≤ 20 ∧ 1 ≤ ss ∧ ss ≤ 9)) → z = -8))) := by
  refine Ct.ofI (by decide) (Nat.le_of_ble_eq_true rfl) ?_
  intro p e s m args below meth c A Q hX hnm hR
  refine Z.pick (lv' := [(0, .ref (h 0)), (1, .int (zI sort)), (2, .int (zI pp)), (3, .int (zI qq)), (4, .int (zI ss))]) [0, 1, 2, 3, 4] rfl ?_
  refine Z.iload_n hX dX7_side_0 rfl rfl ?_
  refine Z.callS0i (As := [.int (zI sort)]) (rest := []) hX (ct_X7_isSort l D ce sort (by omega)) mc_X7_isSort ml_X7_144 st_X7_isSort ini_X7 nd_X7_isSort ⟨Nat.le_of_ble_eq_true rfl, Nat.le_of_ble_eq_true rfl⟩ ⟨rfl, rfl⟩ ⟨Nat.le_refl _, Nat.le_refl _⟩ rfl (Nat.le_of_ble_eq_true rfl) dX7_side_1 ?_
  rintro r_1 w1 ⟨zp, hr_, hw_, hzp⟩
  subst hr_
  refine ⟨hw_, ?_⟩
  refine Z.if_eq hX 17 dX7_side_4 (by decide) ⟨by omega, by omega⟩ ?_ ?_
  · intro c2
    refine Z.bipush hX dX7_side_17 (by decide) ?_
    exact hR _ _ _ _ dX7_side_19 ⟨(-9), F, I, J, rfl, rfl, trivial, (fun _ => rfl), (fun q => by omega)⟩
  · intro c2
    refine Z.iload_n hX dX7_side_7 rfl rfl ?_
    refine Z.iload_n hX dX7_side_8 rfl rfl ?_
    refine Z.iload hX dX7_side_9 rfl ?_
    refine Z.callS0i (As := [.int (zI pp), .int (zI qq), .int (zI ss)]) (rest := []) hX (ct_X7_isPlace l D ce pp qq ss (by omega) (by omega) (by omega)) mc_X7_isPlace ml_X7_148 st_X7_isPlace ini_X7 nd_X7_isPlace ⟨Nat.le_of_ble_eq_true rfl, Nat.le_of_ble_eq_true rfl⟩ ⟨rfl, rfl⟩ ⟨Nat.le_refl _, Nat.le_refl _⟩ rfl (Nat.le_of_ble_eq_true rfl) dX7_side_11 ?_
    rintro r_3 w1 ⟨zq, hr_, hw_, hzq⟩
    subst hr_
    refine ⟨hw_, ?_⟩
    refine Z.if_ne hX 20 dX7_side_14 (by decide) ⟨by omega, by omega⟩ ?_ ?_
    · intro c4
      refine Z.aload_n hX dX7_side_20 rfl rfl ?_
      refine Z.callVfv (As := []) (rest := []) hX 7 0 rfl rfl (ct_X7_work_0 l D ce h F I J hok hf hz hj) mc_X7_work ml_X7_130 im_X7_work se_X7_work ini_X7 nd_X7_work ⟨Nat.le_of_ble_eq_true rfl, Nat.le_of_ble_eq_true rfl⟩ ⟨rfl, rfl⟩ ⟨Nat.le_refl _, Nat.le_refl _⟩ rfl (Nat.le_of_ble_eq_true rfl) dX7_side_21 ?_
      rintro w1 ⟨Fw, Iw, Jw, hw_, hfw, hIw, hhw, hjw⟩
      subst hw_
      refine Z.aload_n hX dX7_side_24 rfl rfl ?_
      refine Z.getf hX 7 0 5 dX7_side_25 rfl rfl inX7 (by decide) fl_X7_17 rfl rfl ?_
      refine Z.iload_n hX dX7_side_28 rfl rfl ?_
      refine Z.zaload hX 3 2 dX7_side_29 rfl rfl (by omega) (by omega) (by decide) ?_
      refine Z.topi (fun z6 hz6 kz6 ez6 => ?_)
      have nz6 : z6 = 0 := zi2_no hhw (j := sort) (by omega) (by omega) ez6 hz6 kz6
      refine Z.if_ne hX 36 dX7_side_30 (by decide) ⟨by omega, by omega⟩ ?_ ?_
      · intro c7
        exfalso; omega
      · intro c7
        refine Z.bipush hX dX7_side_33 (by decide) ?_
        exact hR _ _ _ _ dX7_side_35 ⟨(-8), Fw, Iw, Jw, rfl, rfl, trivial, (fun q => by omega), (fun _ => rfl)⟩
    · intro c4
      refine Z.bipush hX dX7_side_17 (by decide) ?_
      exact hR _ _ _ _ dX7_side_19 ⟨(-9), F, I, J, rfl, rfl, trivial, (fun _ => rfl), (fun q => by omega)⟩

set_option maxHeartbeats 4000000 in
set_option maxRecDepth 100000 in
theorem ct_X7_follows_0 (l : Launch) (D : va_G) (ce : Nat → ClassId) (h : Nat → Nat) (F : Nat → Int) (I : Nat → Nat → Int32) (J : Nat → Nat → Int64) (u v : Int) (hok : rOK F I) (hu : -2147483648 ≤ u ∧ u < 2147483648) (hv : -2147483648 ≤ v ∧ v < 2147483648) (hf : F 2 = 0) (hz : zi15 (I 0)) (hj : zst J) : Ct l yX7_follows cX7_follows 5 (some .int) { frames := 5, cells := 0, slots := 0, locals := 132 } 0 0 D (TY ce) [.ref (h 0), .int (zI u), .int (zI v)] (rW ce h F I J) (QI D (TY ce) (fun r w1 => ∃ z : Int, ∃ F2 : Nat → Int, ∃ I2 : Nat → Nat → Int32, ∃ J2 : Nat → Nat → Int64, r = zI z ∧ w1 = rW ce h F2 I2 J2 ∧ (True) ∧ (¬ (-9 ≤ u ∧ u ≤ 9 ∧ -9 ≤ v ∧ v ≤ 9 ∧ ¬ (u = 0 ∧ v = 0)) → z = -1) ∧ ((-9 ≤ u ∧ u ≤ 9 ∧ -9 ≤ v ∧ v ≤ 9 ∧ ¬ (u = 0 ∧ v = 0)) → z = -2))) := by
  refine Ct.ofI (by decide) (Nat.le_of_ble_eq_true rfl) ?_
  intro p e s m args below meth c A Q hX hnm hR
  refine Z.pick (lv' := [(0, .ref (h 0)), (1, .int (zI u)), (2, .int (zI v))]) [0, 1, 2] rfl ?_
  refine Z.iload_n hX dX7_follows_0 rfl rfl ?_
  refine Z.iload_n hX dX7_follows_1 rfl rfl ?_
  refine Z.callS0i (As := [.int (zI u), .int (zI v)]) (rest := []) hX (ct_X7_isParameter l D ce u v (by omega) (by omega)) mc_X7_isParameter ml_X7_137 st_X7_isParameter ini_X7 nd_X7_isParameter ⟨Nat.le_of_ble_eq_true rfl, Nat.le_of_ble_eq_true rfl⟩ ⟨rfl, rfl⟩ ⟨Nat.le_refl _, Nat.le_refl _⟩ rfl (Nat.le_of_ble_eq_true rfl) dX7_follows_2 ?_
  rintro r_1 w1 ⟨zp, hr_, hw_, hzp⟩
  subst hr_
  refine ⟨hw_, ?_⟩
  refine Z.if_ne hX 10 dX7_follows_5 (by decide) ⟨by omega, by omega⟩ ?_ ?_
  · intro c2
    refine Z.aload_n hX dX7_follows_10 rfl rfl ?_
    refine Z.iconst hX dX7_follows_11 ?_
    refine Z.iload_n hX dX7_follows_12 rfl rfl ?_
    refine Z.iload_n hX dX7_follows_13 rfl rfl ?_
    refine Z.callVfl (As := [.int (zI 2), .int (zI u), .int (zI v)]) (rest := []) hX 7 0 rfl rfl (ct_X7_valueOf_0 l D ce h F I J 2 u v hok (by omega) hu hv hf hz hj) mc_X7_valueOf ml_X7_140 im_X7_valueOf se_X7_valueOf ini_X7 nd_X7_valueOf ⟨Nat.le_of_ble_eq_true rfl, Nat.le_of_ble_eq_true rfl⟩ ⟨rfl, rfl⟩ ⟨Nat.le_refl _, Nat.le_refl _⟩ rfl (Nat.le_of_ble_eq_true rfl) dX7_follows_14 ?_
    rintro xa w1 ⟨r04, Fa, Ia, Ja, hr_, hw_, hta, hhw⟩
    subst hr_
    subst hw_
    refine Z.lstore_n (lv' := [(3, .long xa), (0, .ref (h 0)), (1, .int (zI u)), (2, .int (zI v))]) hX dX7_follows_17 rfl (by decide) rfl ?_
    refine Z.aload_n hX dX7_follows_18 rfl rfl ?_
    refine Z.getf hX 7 0 5 dX7_follows_19 rfl rfl inX7 (by decide) fl_X7_17 rfl rfl ?_
    refine Z.iconst hX dX7_follows_22 ?_
    refine Z.zaload hX 3 2 dX7_follows_23 rfl rfl (by omega) (by omega) (by decide) ?_
    refine Z.topi (fun z5 hz5 kz5 ez5 => ?_)
    have nz5 : z5 = 0 := zi2_no hhw (j := 0) (by omega) (by omega) ez5 hz5 kz5
    refine Z.if_eq hX 33 dX7_follows_24 (by decide) ⟨by omega, by omega⟩ ?_ ?_
    · intro c6
      refine Z.bipush hX dX7_follows_33 (by decide) ?_
      exact hR _ _ _ _ dX7_follows_35 ⟨(-2), Fa, Ia, Ja, rfl, rfl, trivial, (fun q => by omega), (fun _ => rfl)⟩
    · intro c6
      exfalso; omega
  · intro c2
    refine Z.iconst hX dX7_follows_8 ?_
    exact hR _ _ _ _ dX7_follows_9 ⟨(-1), F, I, J, rfl, rfl, trivial, (fun _ => rfl), (fun q => by omega)⟩

set_option maxHeartbeats 4000000 in
set_option maxRecDepth 100000 in
theorem ct_X7_touches_0 (l : Launch) (D : va_G) (ce : Nat → ClassId) (h : Nat → Nat) (F : Nat → Int) (I : Nat → Nat → Int32) (J : Nat → Nat → Int64) (u v : Int) (hok : rOK F I) (hu : -2147483648 ≤ u ∧ u < 2147483648) (hv : -2147483648 ≤ v ∧ v < 2147483648) (hf : F 2 = 0) (hz : zi15 (I 0)) (hj : zst J) : Ct l yX7_touches cX7_touches 17 (some .int) { frames := 4, cells := 0, slots := 0, locals := 106 } 0 0 D (TY ce) [.ref (h 0), .int (zI u), .int (zI v)] (rW ce h F I J) (QI D (TY ce) (fun r w1 => ∃ z : Int, ∃ F2 : Nat → Int, ∃ I2 : Nat → Nat → Int32, ∃ J2 : Nat → Nat → Int64, r = zI z ∧ w1 = rW ce h F2 I2 J2 ∧ (True) ∧ (¬ (-9 ≤ u ∧ u ≤ 9 ∧ -9 ≤ v ∧ v ≤ 9 ∧ ¬ (u = 0 ∧ v = 0)) → z = -1) ∧ ((-9 ≤ u ∧ u ≤ 9 ∧ -9 ≤ v ∧ v ≤ 9 ∧ ¬ (u = 0 ∧ v = 0)) → z = -2))) := by
  refine Ct.ofI (by decide) (Nat.le_of_ble_eq_true rfl) ?_
  intro p e s m args below meth c A Q hX hnm hR
  refine Z.pick (lv' := [(0, .ref (h 0)), (1, .int (zI u)), (2, .int (zI v))]) [0, 1, 2] rfl ?_
  refine Z.iload_n hX dX7_touches_0 rfl rfl ?_
  refine Z.iload_n hX dX7_touches_1 rfl rfl ?_
  refine Z.callS0i (As := [.int (zI u), .int (zI v)]) (rest := []) hX (ct_X7_isParameter l D ce u v (by omega) (by omega)) mc_X7_isParameter ml_X7_137 st_X7_isParameter ini_X7 nd_X7_isParameter ⟨Nat.le_of_ble_eq_true rfl, Nat.le_of_ble_eq_true rfl⟩ ⟨rfl, rfl⟩ ⟨Nat.le_refl _, Nat.le_refl _⟩ rfl (Nat.le_of_ble_eq_true rfl) dX7_touches_2 ?_
  rintro r_1 w1 ⟨zp, hr_, hw_, hzp⟩
  subst hr_
  refine ⟨hw_, ?_⟩
  refine Z.if_ne hX 10 dX7_touches_5 (by decide) ⟨by omega, by omega⟩ ?_ ?_
  · intro c2
    refine Z.aload_n hX dX7_touches_10 rfl rfl ?_
    refine Z.callVfv (As := []) (rest := []) hX 7 0 rfl rfl (ct_X7_work_0 l D ce h F I J hok hf hz hj) mc_X7_work ml_X7_130 im_X7_work se_X7_work ini_X7 nd_X7_work ⟨Nat.le_of_ble_eq_true rfl, Nat.le_of_ble_eq_true rfl⟩ ⟨rfl, rfl⟩ ⟨Nat.le_refl _, Nat.le_refl _⟩ rfl (Nat.le_of_ble_eq_true rfl) dX7_touches_11 ?_
    rintro w1 ⟨Fw, Iw, Jw, hw_, hfw, hIw, hhw, hjw⟩
    subst hw_
    refine Z.aload_n hX dX7_touches_14 rfl rfl ?_
    refine Z.getf hX 7 0 5 dX7_touches_15 rfl rfl inX7 (by decide) fl_X7_17 rfl rfl ?_
    refine Z.iconst hX dX7_touches_18 ?_
    refine Z.zaload hX 3 2 dX7_touches_19 rfl rfl (by omega) (by omega) (by decide) ?_
    refine Z.topi (fun z4 hz4 kz4 ez4 => ?_)
    have nz4 : z4 = 0 := zi2_no hhw (j := 1) (by omega) (by omega) ez4 hz4 kz4
    refine Z.if_ne hX 26 dX7_touches_20 (by decide) ⟨by omega, by omega⟩ ?_ ?_
    · intro c5
      exfalso; omega
    · intro c5
      refine Z.bipush hX dX7_touches_23 (by decide) ?_
      exact hR _ _ _ _ dX7_touches_25 ⟨(-2), Fw, Iw, Jw, rfl, rfl, trivial, (fun q => by omega), (fun _ => rfl)⟩
  · intro c2
    refine Z.iconst hX dX7_touches_8 ?_
    exact hR _ _ _ _ dX7_touches_9 ⟨(-1), F, I, J, rfl, rfl, trivial, (fun _ => rfl), (fun q => by omega)⟩

