/-! lead x^2 y^2 w^2: the end -/
theorem qI_Z (Y W : Nat → Int) (s : Int) : qI (fun k => Y k + s * W k) = qI Y + s * qI1 Y W + s * s * qI W := by
  unfold qI qI1
  grind
theorem qI1_Z (X Y W : Nat → Int) (s : Int) : qI1 X (fun k => Y k + s * W k) = qI1 X Y + s * qI1 X W := by
  unfold qI1
  grind
theorem m_D (I i2 ia ib p q s : Int) : 4 * (I * (i2 + s * ia + s * s * ib)) - (p + s * q) * (p + s * q) = (4 * (I * i2) - p * p) + s * (4 * (I * ia) - 2 * (p * q)) + s * s * (4 * (I * ib) - q * q) := by grind
theorem m_coef (I p q D0 D1 D2 T222 T213 T204 T132 T123 T114 T105 T042 T033 T024 T015 T006 : Int) (h4 : ∀ s : Int, 16 * I * (0 + s * 0 + s * s * T222 + s * s * s * T213 + s * s * s * s * T204) = 3 * ((D0 + s * D1 + s * s * D2) * (D0 + s * D1 + s * s * D2))) (h5 : ∀ s : Int, 16 * (I * I) * (0 + s * 0 + s * s * T132 + s * s * s * T123 + s * s * s * s * T114 + s * s * s * s * s * T105) = 3 * ((p + s * q) * ((D0 + s * D1 + s * s * D2) * (D0 + s * D1 + s * s * D2)))) (h6 : ∀ s : Int, 64 * (I * (I * I)) * (0 + s * 0 + s * s * T042 + s * s * s * T033 + s * s * s * s * T024 + s * s * s * s * s * T015 + s * s * s * s * s * s * T006) = (D0 + s * D1 + s * s * D2) * (D0 + s * D1 + s * s * D2) * (3 * ((p + s * q) * (p + s * q)) + 4 * (D0 + s * D1 + s * s * D2))) :
    16 * I * T222 = 3 * (D1 * D1) ∧ 16 * I * T213 = 6 * (D1 * D2) ∧ 16 * (I * I) * T132 = 3 * (p * (D1 * D1)) ∧ 16 * (I * I) * T123 = 3 * (q * (D1 * D1)) + 6 * (p * (D1 * D2)) ∧ 64 * (I * (I * I)) * T033 = 6 * (p * (q * (D1 * D1))) + 4 * (D1 * (D1 * D1)) + 6 * (p * (p * (D1 * D2))) := by
  have d0 : D0 = 0 := by
    have := h4 0
    simp only [Int.zero_mul, Int.mul_zero, Int.add_zero] at this
    have : D0 * D0 = 0 := by omega
    rcases Int.mul_eq_zero.mp this with r | r
    · exact r
    · exact r
  subst d0
  have u4 := u7 0 0 (16 * I * T222 - 3 * (D1 * D1)) (16 * I * T213 - 6 * (D1 * D2)) (16 * I * T204 - 3 * (D2 * D2)) 0 0 (by
    intro s
    have e := h4 s
    clear h4 h5 h6
    grind)
  have u5 := u7 0 0 (16 * (I * I) * T132 - 3 * (p * (D1 * D1))) (16 * (I * I) * T123 - (3 * (q * (D1 * D1)) + 6 * (p * (D1 * D2)))) (16 * (I * I) * T114 - (6 * (q * (D1 * D2)) + 3 * (p * (D2 * D2)))) (16 * (I * I) * T105 - 3 * (q * (D2 * D2))) 0 (by
    intro s
    have e := h5 s
    clear h4 h5 h6 u4
    grind)
  have u6 := u7 0 0 (64 * (I * (I * I)) * T042 - 3 * (p * (p * (D1 * D1)))) (64 * (I * (I * I)) * T033 - (6 * (p * (q * (D1 * D1))) + 4 * (D1 * (D1 * D1)) + 6 * (p * (p * (D1 * D2))))) (64 * (I * (I * I)) * T024 - (3 * (q * (q * (D1 * D1))) + 12 * (p * (q * (D1 * D2))) + 3 * (p * (p * (D2 * D2))) + 12 * (D1 * (D1 * D2)))) (64 * (I * (I * I)) * T015 - (6 * (q * (q * (D1 * D2))) + 6 * (p * (q * (D2 * D2))) + 12 * (D1 * (D2 * D2)))) (64 * (I * (I * I)) * T006 - (3 * (q * (q * (D2 * D2))) + 4 * (D2 * (D2 * D2)))) (by
    intro s
    have e := h6 s
    clear h4 h5 h6 u4 u5
    grind)
  obtain ⟨-, -, a1, a2, -, -, -⟩ := u4
  obtain ⟨-, -, b1, b2, -, -, -⟩ := u5
  obtain ⟨-, -, -, c1, -, -, -⟩ := u6
  exact ⟨Int.eq_of_sub_eq_zero a1, Int.eq_of_sub_eq_zero a2, Int.eq_of_sub_eq_zero b1, Int.eq_of_sub_eq_zero b2, Int.eq_of_sub_eq_zero c1⟩
theorem m_n1 (I K m n1 p D1 T222 T132 : Int) (hI : I ≠ 0) (hK : K ≠ 0) (hm : m ≠ 0) (h2 : 16 * I * T222 = 3 * (D1 * D1)) (h3 : 16 * (I * I) * T132 = 3 * (p * (D1 * D1))) (t2 : T222 = K * (m * m)) (t3 : T132 = K * (2 * m * n1)) : 2 * (I * n1) = p * m := by
  have e : 16 * (I * I) * T132 = p * (16 * I * T222) := by
    rw [h2, h3]
    clear h2 h3 t2 t3
    grind
  rw [t2, t3] at e
  apply cnl (Int.mul_ne_zero (Int.mul_ne_zero (show (16 : Int) ≠ 0 by decide) hI) (Int.mul_ne_zero hK hm))
  clear h2 h3 t2 t3
  grind
theorem m_h1 (I K m h1 D1 D2 T222 T213 : Int) (hI : I ≠ 0) (hK : K ≠ 0) (hm : m ≠ 0) (h2 : 16 * I * T222 = 3 * (D1 * D1)) (h3 : 16 * I * T213 = 6 * (D1 * D2)) (t2 : T222 = K * (m * m)) (t3 : T213 = K * (2 * m * h1)) : 16 * I * (K * (m * h1)) = 3 * (D1 * D2) := by
  rw [t3] at h3
  have e : 16 * I * (K * (2 * m * h1)) = 2 * (16 * I * (K * (m * h1))) := by
    clear h2 h3 t2 t3
    grind
  omega
theorem m_S (I K m n1 n2 h1 p q D1 D2 T123 : Int) (hm : m ≠ 0) (h4 : 16 * (I * I) * T123 = 3 * (q * (D1 * D1)) + 6 * (p * (D1 * D2))) (t4 : T123 = K * (2 * m * n2 + 2 * h1 * n1)) (pn : 2 * (I * n1) = p * m) (ph : 16 * I * (K * (m * h1)) = 3 * (D1 * D2)) : 64 * (I * (I * I)) * (K * (2 * n1 * n2)) = 6 * (p * (q * (D1 * D1))) + 6 * (p * (p * (D1 * D2))) := by
  have e1 : 16 * (I * I) * (K * (2 * h1 * n1)) = 16 * I * (K * (h1 * (2 * (I * n1)))) := by
    clear h4 t4 pn ph
    grind
  rw [pn] at e1
  have e2 : 16 * I * (K * (h1 * (p * m))) = p * (16 * I * (K * (m * h1))) := by
    clear h4 t4 pn ph e1
    grind
  rw [e2, ph] at e1
  have e3 : 16 * (I * I) * (K * (2 * m * n2)) = 3 * (q * (D1 * D1)) + 3 * (p * (D1 * D2)) := by
    rw [t4] at h4
    clear t4 pn ph e2
    grind
  have e4 : 64 * (I * (I * I)) * (K * (2 * n1 * n2)) = 64 * (I * I) * (K * (n2 * (2 * (I * n1)))) := by
    clear h4 t4 pn ph e1 e2 e3
    grind
  rw [pn] at e4
  have e5 : 64 * (I * I) * (K * (n2 * (p * m))) = 2 * (p * (16 * (I * I) * (K * (2 * m * n2)))) := by
    clear h4 t4 pn ph e1 e2 e3 e4
    grind
  rw [e4, e5, e3]
  clear h4 t4 pn ph e1 e2 e3 e4 e5
  grind
theorem sq6m (X Y W : Nat → Int) (hX : bx7 X) (hY : bx7 Y) (hW : bx7 W) (c m h1 n1 n2 k0 H600 H510 H501 H420 H411 H402 H330 H321 H312 H303 H240 H231 H222 H213 H204 H150 H141 H132 H123 H114 H105 H060 H051 H042 H033 H024 H015 H006 : Int) (hc : c ≠ 0) (he : m ≠ 0) (z222 : H222 = 0) (t600 : tT600 X Y W = 27 * c * (0 + 18446744073709551616 * H600)) (t510 : tT510 X Y W = 27 * c * (0 + 18446744073709551616 * H510)) (t501 : tT501 X Y W = 27 * c * (0 + 18446744073709551616 * H501)) (t420 : tT420 X Y W = 27 * c * (0 + 18446744073709551616 * H420)) (t411 : tT411 X Y W = 27 * c * (0 + 18446744073709551616 * H411)) (t402 : tT402 X Y W = 27 * c * (0 + 18446744073709551616 * H402)) (t330 : tT330 X Y W = 27 * c * (0 + 18446744073709551616 * H330)) (t321 : tT321 X Y W = 27 * c * (0 + 18446744073709551616 * H321)) (t312 : tT312 X Y W = 27 * c * (0 + 18446744073709551616 * H312)) (t303 : tT303 X Y W = 27 * c * (0 + 18446744073709551616 * H303)) (t240 : tT240 X Y W = 27 * c * (0 + 18446744073709551616 * H240)) (t231 : tT231 X Y W = 27 * c * (0 + 18446744073709551616 * H231)) (t222 : tT222 X Y W = 27 * c * (m * m + 18446744073709551616 * H222)) (t213 : tT213 X Y W = 27 * c * (2 * m * h1 + 18446744073709551616 * H213)) (t204 : tT204 X Y W = 27 * c * (h1 * h1 + 18446744073709551616 * H204)) (t150 : tT150 X Y W = 27 * c * (0 + 18446744073709551616 * H150)) (t141 : tT141 X Y W = 27 * c * (0 + 18446744073709551616 * H141)) (t132 : tT132 X Y W = 27 * c * (2 * m * n1 + 18446744073709551616 * H132)) (t123 : tT123 X Y W = 27 * c * (2 * m * n2 + 2 * h1 * n1 + 18446744073709551616 * H123)) (t114 : tT114 X Y W = 27 * c * (2 * m * k0 + 2 * h1 * n2 + 18446744073709551616 * H114)) (t105 : tT105 X Y W = 27 * c * (2 * h1 * k0 + 18446744073709551616 * H105)) (t060 : tT060 X Y W = 27 * c * (0 + 18446744073709551616 * H060)) (t051 : tT051 X Y W = 27 * c * (0 + 18446744073709551616 * H051)) (t042 : tT042 X Y W = 27 * c * (n1 * n1 + 18446744073709551616 * H042)) (t033 : tT033 X Y W = 27 * c * (2 * n1 * n2 + 18446744073709551616 * H033)) (t024 : tT024 X Y W = 27 * c * (n2 * n2 + 2 * k0 * n1 + 18446744073709551616 * H024)) (t015 : tT015 X Y W = 27 * c * (2 * k0 * n2 + 18446744073709551616 * H015)) (t006 : tT006 X Y W = 27 * c * (k0 * k0 + 18446744073709551616 * H006)) (dn1 : (2 * m * n1).natAbs ≤ 2 ^ 63) (dh1 : (2 * m * h1).natAbs ≤ 2 ^ 63) (dn2 : (2 * m * n2).natAbs ≤ 2 ^ 63) (dk0 : (2 * m * k0).natAbs ≤ 2 ^ 63) : H600 = 0 ∧ H510 = 0 ∧ H501 = 0 ∧ H420 = 0 ∧ H411 = 0 ∧ H402 = 0 ∧ H330 = 0 ∧ H321 = 0 ∧ H312 = 0 ∧ H303 = 0 ∧ H240 = 0 ∧ H231 = 0 ∧ H222 = 0 ∧ H213 = 0 ∧ H204 = 0 ∧ H150 = 0 ∧ H141 = 0 ∧ H132 = 0 ∧ H123 = 0 ∧ H114 = 0 ∧ H105 = 0 ∧ H060 = 0 ∧ H051 = 0 ∧ H042 = 0 ∧ H033 = 0 ∧ H024 = 0 ∧ H015 = 0 ∧ H006 = 0 := by
  subst z222
  rw [Int.mul_zero, Int.add_zero] at t222
  have nz : ∀ (T s : Int) (H : Int) (n : Nat), T = 27 * c * (s + 18446744073709551616 * H) → s = 0 → T.natAbs ≤ n * 4135715297 → n * 153174641 < 18446744073709551616 → H = 0 ∧ T = 0 := by
    intro T s H n h hs b hn
    have z : H = 0 := num_true _ _ H _ 0 rfl (fb1 c _ _ n hc h b) (by rw [hs]; exact Nat.le_refl _) (by rw [Nat.add_zero]; exact hn)
    refine ⟨z, ?_⟩
    rw [h, z, hs, Int.mul_zero, Int.add_zero, Int.mul_zero]
  obtain ⟨z600, y600⟩ := nz _ _ _ 1 t600 rfl (tT600_le X Y W hX hY hW) (by decide)
  obtain ⟨z510, y510⟩ := nz _ _ _ 6 t510 rfl (tT510_le X Y W hX hY hW) (by decide)
  obtain ⟨z501, y501⟩ := nz _ _ _ 6 t501 rfl (tT501_le X Y W hX hY hW) (by decide)
  obtain ⟨z420, y420⟩ := nz _ _ _ 15 t420 rfl (tT420_le X Y W hX hY hW) (by decide)
  obtain ⟨z411, y411⟩ := nz _ _ _ 30 t411 rfl (tT411_le X Y W hX hY hW) (by decide)
  obtain ⟨z402, y402⟩ := nz _ _ _ 15 t402 rfl (tT402_le X Y W hX hY hW) (by decide)
  obtain ⟨z330, y330⟩ := nz _ _ _ 20 t330 rfl (tT330_le X Y W hX hY hW) (by decide)
  obtain ⟨z321, y321⟩ := nz _ _ _ 60 t321 rfl (tT321_le X Y W hX hY hW) (by decide)
  obtain ⟨z312, y312⟩ := nz _ _ _ 60 t312 rfl (tT312_le X Y W hX hY hW) (by decide)
  obtain ⟨z303, y303⟩ := nz _ _ _ 20 t303 rfl (tT303_le X Y W hX hY hW) (by decide)
  obtain ⟨z240, y240⟩ := nz _ _ _ 15 t240 rfl (tT240_le X Y W hX hY hW) (by decide)
  obtain ⟨z231, y231⟩ := nz _ _ _ 60 t231 rfl (tT231_le X Y W hX hY hW) (by decide)
  obtain ⟨z150, y150⟩ := nz _ _ _ 6 t150 rfl (tT150_le X Y W hX hY hW) (by decide)
  obtain ⟨z141, y141⟩ := nz _ _ _ 30 t141 rfl (tT141_le X Y W hX hY hW) (by decide)
  obtain ⟨z060, y060⟩ := nz _ _ _ 1 t060 rfl (tT060_le X Y W hX hY hW) (by decide)
  obtain ⟨z051, y051⟩ := nz _ _ _ 6 t051 rfl (tT051_le X Y W hX hY hW) (by decide)
  clear nz t600 t510 t501 t420 t411 t402 t330 t321 t312 t303 t240 t231 t150 t141 t060 t051
  have hK0 : 27 * c ≠ 0 := Int.mul_ne_zero (by decide) hc
  have hC27 : 27 ≤ (27 * c).natAbs := by
    rw [Int.natAbs_mul]
    exact Nat.le_mul_of_pos_right 27 (Int.natAbs_pos.mpr hc)
  have sqz : ∀ x : Int, x * x = 0 → x = 0 := by
    intro x hx
    rcases Int.mul_eq_zero.mp hx with r | r
    · exact r
    · exact r
  have hm1 : 1 ≤ m.natAbs := Int.natAbs_pos.mpr he
  by_cases hI : qI X = 0
  · have hJ : qJ X = 0 := by
      unfold tT600 qT600 at y600
      rw [hI] at y600
      exact sqz _ (by omega)
    have hj : qJ1 X Y = 0 := by
      unfold tT420 qT420 at y420
      rw [hI, hJ] at y420
      exact sqz _ (by omega)
    have hi : qI1 X Y = 0 := by
      unfold tT330 qT330 at y330
      rw [hI, hJ, hj] at y330
      exact cube_zero _ (by omega)
    have u402 := tz402 X Y W hI hJ hi hj
    have u321 := tz321 X Y W hI hJ hi hj
    have u312 := tz312 X Y W hI hJ hi hj
    have u303 := tz303 X Y W hI hJ hi hj
    have u240 := tz240 X Y W hI hJ hi hj
    have u231 := tz231 X Y W hI hJ hi hj
    have u222 := tz222 X Y W hI hJ hi hj
    have u213 := tz213 X Y W hI hJ hi hj
    have u204 := tz204 X Y W hI hJ hi hj
    have u150 := tz150 X Y W hI hJ hi hj
    have u141 := tz141 X Y W hI hJ hi hj
    have u132 := tz132 X Y W hI hJ hi hj
    have u123 := tz123 X Y W hI hJ hi hj
    have u114 := tz114 X Y W hI hJ hi hj
    have u105 := tz105 X Y W hI hJ hi hj
    have u060 := tz060 X Y W hI hJ hi hj
    have u051 := tz051 X Y W hI hJ hi hj
    have u042 := tz042 X Y W hI hJ hi hj
    have u033 := tz033 X Y W hI hJ hi hj
    have u024 := tz024 X Y W hI hJ hi hj
    have u015 := tz015 X Y W hI hJ hi hj
    have u006 := tz006 X Y W hI hJ hi hj
    have Ba0 := bJ1 Y X hY hX
    have Ba1 := bJ3 X Y W hX hY hW
    have Ba2 := bJ1 W X hW hX
    have Bg := bJ1 X W hX hW
    have Bal := bI1 X W hX hW
    have Bi2 := bI Y hY
    have Bia := bI1 Y W hY hW
    have Bib := bI W hW
    have Bb3 := bJ Y hY
    have Bb2 := bJ1 Y W hY hW
    have Bb1 := bJ1 W Y hW hY
    have Bb0 := bJ W hW
    have L222 := tT222_le X Y W hX hY hW
    have L132 := tT132_le X Y W hX hY hW
    have L042 := tT042_le X Y W hX hY hW
    have L213 := tT213_le X Y W hX hY hW
    have L123 := tT123_le X Y W hX hY hW
    have L033 := tT033_le X Y W hX hY hW
    have L204 := tT204_le X Y W hX hY hW
    have L114 := tT114_le X Y W hX hY hW
    have L024 := tT024_le X Y W hX hY hW
    have L105 := tT105_le X Y W hX hY hW
    have L015 := tT015_le X Y W hX hY hW
    have L006 := tT006_le X Y W hX hY hW
    have g0 : qJ1 X W = 0 := sqz _ (by omega)
    generalize qJ1 Y X = a0 at *
    generalize qJ3 X Y W = a1 at *
    generalize qJ1 W X = a2 at *
    generalize qJ1 X W = g at *
    generalize qI1 X W = al at *
    generalize qI Y = i2 at *
    generalize qI1 Y W = ia at *
    generalize qI W = ib at *
    generalize qJ Y = b3 at *
    generalize qJ1 Y W = b2 at *
    generalize qJ1 W Y = b1 at *
    generalize qJ W = b0 at *
    generalize tT402 X Y W = T402 at *
    generalize tT321 X Y W = T321 at *
    generalize tT312 X Y W = T312 at *
    generalize tT303 X Y W = T303 at *
    generalize tT240 X Y W = T240 at *
    generalize tT231 X Y W = T231 at *
    generalize tT222 X Y W = T222 at *
    generalize tT213 X Y W = T213 at *
    generalize tT204 X Y W = T204 at *
    generalize tT150 X Y W = T150 at *
    generalize tT141 X Y W = T141 at *
    generalize tT132 X Y W = T132 at *
    generalize tT123 X Y W = T123 at *
    generalize tT114 X Y W = T114 at *
    generalize tT105 X Y W = T105 at *
    generalize tT060 X Y W = T060 at *
    generalize tT051 X Y W = T051 at *
    generalize tT042 X Y W = T042 at *
    generalize tT033 X Y W = T033 at *
    generalize tT024 X Y W = T024 at *
    generalize tT015 X Y W = T015 at *
    generalize tT006 X Y W = T006 at *
    subst g0
    have al0 : al = 0 := cube_zero al (by omega)
    subst al0
    have a00 : a0 = 0 := sqz _ (by omega)
    subst a00
    have hC : 27 * c * (m * m) = -(a1 * a1) := by
      rw [← t222, u222]
      omega
    have ha : a1 ≠ 0 := by
      intro r
      rw [r, Int.zero_mul, Int.neg_zero] at hC
      exact absurd hC (Int.mul_ne_zero hK0 (Int.mul_ne_zero he he))
    have b30 : b3 = 0 := by
      have : a1 * b3 = 0 := by omega
      exact (Int.mul_eq_zero.mp this).resolve_left ha
    subst b30
    have i20 : i2 = 0 := cube_zero i2 (by omega)
    subst i20
    have hea : m.natAbs ≤ a1.natAbs := by
      apply sq_le'
      have := congrArg Int.natAbs hC
      rw [Int.natAbs_neg, Int.natAbs_mul, Int.natAbs_mul m, Int.natAbs_mul a1] at this
      rw [← this]
      exact Nat.le_mul_of_pos_left _ (by omega)
    have z0 : 27 * c * 0 = -(0 : Int) := by rw [Int.mul_zero]; rfl
    have cc := d_cc (27 * c) m a1
    have ccn : ∀ (u v U V : Int), a1 * u = U * m → a1 * v = V * m → 27 * c * (2 * u * v) = -(2 * (U * V)) := by
      intro u v U V hu hv
      have e1 : 27 * c * (2 * u * v) = 2 * (27 * c * (u * v)) := by
        clear hu hv
        grind
      rw [e1, cc u v U V ha hC hu hv]
      omega
    have add : ∀ (p q P Q : Int), 27 * c * p = -P → 27 * c * q = -Q → 27 * c * (p + q) = -(P + Q) := by
      intro p q P Q hp hq
      rw [Int.mul_add, hp, hq]
      omega
    obtain ⟨w132, pn1⟩ := d_step c m a1 n1 b2 T132 0 0 H132 60 0 hc ha hC (by rw [Int.add_zero]; exact t132) L132 (by decide) z0 (by rw [u132]; omega) dn1 (by decide)
    have sn1 := d_small a1 n1 b2 m _ ha pn1 hea Bb2
    obtain ⟨w213, ph1⟩ := d_step c m a1 h1 a2 T213 0 0 H213 60 0 hc ha hC (by rw [Int.add_zero]; exact t213) L213 (by decide) z0 (by rw [u213]; omega) dh1 (by decide)
    have sh1 := d_small a1 h1 a2 m _ ha ph1 hea Ba2
    obtain ⟨w123, pn2⟩ := d_step c m a1 n2 b1 T123 (2 * h1 * n1) _ H123 60 _ hc ha hC t123 L123 (nmul_le (nmul_le k2 sh1) sn1) (ccn h1 n1 a2 b2 ph1 pn1) (by rw [u123]; omega) dn2 (by decide)
    have sn2 := d_small a1 n2 b1 m _ ha pn2 hea Bb1
    obtain ⟨w114, pk0⟩ := d_step c m a1 k0 b0 T114 (2 * h1 * n2) _ H114 30 _ hc ha hC t114 L114 (nmul_le (nmul_le k2 sh1) sn2) (ccn h1 n2 a2 b1 ph1 pn2) (by rw [u114]; omega) dk0 (by decide)
    have w042 := (d_left (27 * c) _ H042 T042 _ 0 0 hC27 t042 (cc n1 n1 b2 b2 ha hC pn1 pn1) (by rw [u042]; omega) (by decide) (by decide)).1
    obtain ⟨w033, r033⟩ := d_left (27 * c) _ H033 T033 _ (4 * (ia * (ia * ia))) 20000000000 hC27 t033 (ccn n1 n2 b2 b1 pn1 pn2) (by rw [u033]; omega) (Nat.le_trans (nmul_le k4 (nmul_le Bia (nmul_le Bia Bia))) (by decide)) (by decide)
    have ia0 := cube_zero ia r033
    subst ia0
    have w204 := (d_left (27 * c) _ H204 T204 _ 0 0 hC27 t204 (cc h1 h1 a2 a2 ha hC ph1 ph1) (by rw [u204]; omega) (by decide) (by decide)).1
    have w024 := (d_left (27 * c) _ H024 T024 _ 0 0 hC27 t024 (add _ _ _ _ (cc n2 n2 b1 b1 ha hC pn2 pn2) (ccn k0 n1 b0 b2 pk0 pn1)) (by rw [u024]; omega) (by decide) (by decide)).1
    have w105 := (d_left (27 * c) _ H105 T105 _ 0 0 hC27 t105 (ccn h1 k0 a2 b0 ph1 pk0) (by rw [u105]; omega) (by decide) (by decide)).1
    have w015 := (d_left (27 * c) _ H015 T015 _ 0 0 hC27 t015 (ccn k0 n2 b0 b1 pk0 pn2) (by rw [u015]; omega) (by decide) (by decide)).1
    have w006 := (d_left (27 * c) _ H006 T006 _ _ 2000000000 hC27 t006 (cc k0 k0 b0 b0 ha hC pk0 pk0) u006 (Nat.le_trans (nmul_le k4 (nmul_le Bib (nmul_le Bib Bib))) (by decide)) (by decide)).1
    exact ⟨z600, z510, z501, z420, z411, z402, z330, z321, z312, z303, z240, z231, rfl, w213, w204, z150, z141, w132, w123, w114, w105, z060, z051, w042, w033, w024, w015, w006⟩
  · exfalso
    have cg : ∀ s : Int, _ := fun s => c2_g (qI X) (qJ X) (qI1 X (fun k => Y k + s * W k)) (qI (fun k => Y k + s * W k)) (qJ1 X (fun k => Y k + s * W k)) (qJ1 (fun k => Y k + s * W k) X) (qJ (fun k => Y k + s * W k)) hI (show qG X (fun k => Y k + s * W k) 0 = 0 by rw [(qG_Z X Y W s).1, y600]) (show qG X (fun k => Y k + s * W k) 1 = 0 by rw [(qG_Z X Y W s).2.1, y510, y501, Int.mul_zero, Int.add_zero]) (show qG X (fun k => Y k + s * W k) 2 = 0 by rw [(qG_Z X Y W s).2.2.1, y420, y411, y402, Int.mul_zero, Int.mul_zero, Int.add_zero, Int.add_zero]) (show qG X (fun k => Y k + s * W k) 3 = 0 by rw [(qG_Z X Y W s).2.2.2.1, y330, y321, y312, y303, Int.mul_zero, Int.mul_zero, Int.mul_zero, Int.add_zero, Int.add_zero, Int.add_zero])
    have h4 : ∀ s : Int, 16 * qI X * (0 + s * 0 + s * s * tT222 X Y W + s * s * s * tT213 X Y W + s * s * s * s * tT204 X Y W) = 3 * (((4 * (qI X * qI Y) - qI1 X Y * qI1 X Y) + s * (4 * (qI X * qI1 Y W) - 2 * (qI1 X Y * qI1 X W)) + s * s * (4 * (qI X * qI W) - qI1 X W * qI1 X W)) * ((4 * (qI X * qI Y) - qI1 X Y * qI1 X Y) + s * (4 * (qI X * qI1 Y W) - 2 * (qI1 X Y * qI1 X W)) + s * s * (4 * (qI X * qI W) - qI1 X W * qI1 X W))) := by
      intro s
      have e : 16 * qI X * qG X (fun k => Y k + s * W k) 4 = _ := (cg s).1
      rw [(qG_Z X Y W s).2.2.2.2.1, y240, y231, qI_Z, qI1_Z, m_D] at e
      exact e
    have h5 : ∀ s : Int, 16 * (qI X * qI X) * (0 + s * 0 + s * s * tT132 X Y W + s * s * s * tT123 X Y W + s * s * s * s * tT114 X Y W + s * s * s * s * s * tT105 X Y W) = 3 * ((qI1 X Y + s * qI1 X W) * (((4 * (qI X * qI Y) - qI1 X Y * qI1 X Y) + s * (4 * (qI X * qI1 Y W) - 2 * (qI1 X Y * qI1 X W)) + s * s * (4 * (qI X * qI W) - qI1 X W * qI1 X W)) * ((4 * (qI X * qI Y) - qI1 X Y * qI1 X Y) + s * (4 * (qI X * qI1 Y W) - 2 * (qI1 X Y * qI1 X W)) + s * s * (4 * (qI X * qI W) - qI1 X W * qI1 X W)))) := by
      intro s
      have e : 16 * (qI X * qI X) * qG X (fun k => Y k + s * W k) 5 = _ := (cg s).2.1
      rw [(qG_Z X Y W s).2.2.2.2.2.1, y150, y141, qI_Z, qI1_Z, m_D] at e
      exact e
    have h6 : ∀ s : Int, 64 * (qI X * (qI X * qI X)) * (0 + s * 0 + s * s * tT042 X Y W + s * s * s * tT033 X Y W + s * s * s * s * tT024 X Y W + s * s * s * s * s * tT015 X Y W + s * s * s * s * s * s * tT006 X Y W) = ((4 * (qI X * qI Y) - qI1 X Y * qI1 X Y) + s * (4 * (qI X * qI1 Y W) - 2 * (qI1 X Y * qI1 X W)) + s * s * (4 * (qI X * qI W) - qI1 X W * qI1 X W)) * ((4 * (qI X * qI Y) - qI1 X Y * qI1 X Y) + s * (4 * (qI X * qI1 Y W) - 2 * (qI1 X Y * qI1 X W)) + s * s * (4 * (qI X * qI W) - qI1 X W * qI1 X W)) * (3 * ((qI1 X Y + s * qI1 X W) * (qI1 X Y + s * qI1 X W)) + 4 * ((4 * (qI X * qI Y) - qI1 X Y * qI1 X Y) + s * (4 * (qI X * qI1 Y W) - 2 * (qI1 X Y * qI1 X W)) + s * s * (4 * (qI X * qI W) - qI1 X W * qI1 X W))) := by
      intro s
      have e : 64 * (qI X * (qI X * qI X)) * qG X (fun k => Y k + s * W k) 6 = _ := (cg s).2.2
      rw [(qG_Z X Y W s).2.2.2.2.2.2, y060, y051, qI_Z, qI1_Z, m_D] at e
      exact e
    obtain ⟨q222, q213, q132, q123, q033⟩ := m_coef (qI X) (qI1 X Y) (qI1 X W) _ _ _ _ _ _ _ _ _ _ _ _ _ _ _ h4 h5 h6
    clear h4 h5 h6 cg
    have BD : (4 * (qI X * qI1 Y W) - 2 * (qI1 X Y * qI1 X W)).natAbs ≤ 4 * (784 * 1568) + 2 * (1568 * 1568) := ns_le (nmul_le k4 (nmul_le (bI X hX) (bI1 Y W hY hW))) (nmul_le k2 (nmul_le (bI1 X Y hX hY) (bI1 X W hX hW)))
    generalize 4 * (qI X * qI1 Y W) - 2 * (qI1 X Y * qI1 X W) = D1 at *
    have Bp := bI1 X Y hX hY
    obtain ⟨w132, -⟩ := dig_true m n1 _ 0 H132 _ 0 (by rw [Int.add_zero]) (fb1 c _ _ 60 hc t132 (tT132_le X Y W hX hY hW)) (by decide) dn1 (by decide)
    subst w132
    rw [Int.mul_zero, Int.add_zero] at t132
    have pn := m_n1 (qI X) (27 * c) m n1 (qI1 X Y) D1 _ _ hI hK0 he q222 q132 t222 t132
    obtain ⟨w213, s213⟩ := dig_true m h1 _ 0 H213 _ 0 (by rw [Int.add_zero]) (fb1 c _ _ 60 hc t213 (tT213_le X Y W hX hY hW)) (by decide) dh1 (by decide)
    subst w213
    rw [Int.mul_zero, Int.add_zero] at t213
    have ph := m_h1 (qI X) (27 * c) m h1 D1 _ _ _ hI hK0 he q222 q213 t222 t213
    have sn : n1.natAbs ≤ 1568 * m.natAbs := by
      have e := congrArg Int.natAbs pn
      rw [Int.natAbs_mul, Int.natAbs_mul, Int.natAbs_mul] at e
      have hI1 : 1 ≤ (qI X).natAbs := Int.natAbs_pos.mpr hI
      have a1 : (qI1 X Y).natAbs * m.natAbs ≤ 1568 * m.natAbs := Nat.mul_le_mul Bp (Nat.le_refl _)
      have a2 := Nat.le_mul_of_pos_left n1.natAbs hI1
      have t2 : (2 : Int).natAbs = 2 := rfl
      rw [t2] at e
      omega
    have s123 : (2 * h1 * n1).natAbs ≤ 1568 * (60 * 153174641 + 0) := by
      have a1 : (2 * h1 * n1).natAbs ≤ 2 * h1.natAbs * (1568 * m.natAbs) := nmul_le (nmul_le k2 (Nat.le_refl _)) sn
      have a2 : 2 * h1.natAbs * (1568 * m.natAbs) = 1568 * (2 * m * h1).natAbs := by
        rw [Int.natAbs_mul, Int.natAbs_mul]
        have t2 : (2 : Int).natAbs = 2 := rfl
        rw [t2]
        generalize h1.natAbs = x
        generalize m.natAbs = y
        grind
      rw [a2] at a1
      exact Nat.le_trans a1 (Nat.mul_le_mul (Nat.le_refl _) s213)
    obtain ⟨w123, -⟩ := dig_true m n2 _ _ H123 _ _ rfl (fb1 c _ _ 60 hc t123 (tT123_le X Y W hX hY hW)) s123 dn2 (by decide)
    subst w123
    rw [Int.mul_zero, Int.add_zero] at t123
    have S := m_S (qI X) (27 * c) m n1 n2 h1 (qI1 X Y) (qI1 X W) D1 _ _ he q123 t123 pn ph
    have I3 : qI X * (qI X * qI X) ≠ 0 := Int.mul_ne_zero hI (Int.mul_ne_zero hI hI)
    have r := (d_mul (27 * c) _ H033 (tT033 X Y W) (64 * (qI X * (qI X * qI X))) _ (4 * (D1 * (D1 * D1))) (4 * (9834496 * (9834496 * 9834496))) (Int.mul_ne_zero (by decide) I3) hC27 t033 S (by rw [q033]; omega) (nmul_le k4 (nmul_le BD (nmul_le BD BD))) (by
      have : 1 ≤ (qI X * (qI X * qI X)).natAbs := Int.natAbs_pos.mpr I3
      have a1 : (64 * (qI X * (qI X * qI X))).natAbs = 64 * (qI X * (qI X * qI X)).natAbs := by
        rw [Int.natAbs_mul]
        rfl
      rw [a1]
      have a2 : 498062089990157893632 * (64 * 1) ≤ 498062089990157893632 * (64 * (qI X * (qI X * qI X)).natAbs) := Nat.mul_le_mul (Nat.le_refl _) (Nat.mul_le_mul (Nat.le_refl _) this)
      exact Nat.lt_of_lt_of_le (by decide) a2)).2
    have D0 := cube_zero D1 r
    rw [D0, Int.mul_zero, Int.mul_zero, t222] at q222
    exact Int.mul_ne_zero (Int.mul_ne_zero (by decide) hI) (Int.mul_ne_zero hK0 (Int.mul_ne_zero he he)) q222
