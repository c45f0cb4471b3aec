/-! THE SQUARE OF THREE LETTERS: the first quartic without a double root -/
theorem fb_le (c f T : Int) (n B d : Nat) (h : T = 27 * c * f) (hT : T.natAbs ≤ n * 4135715297) (hd : d ≤ c.natAbs) (hd1 : 1 ≤ d) (hB : 4135715297 ≤ 27 * d * B) : f.natAbs ≤ n * B := by
  rw [h, Int.natAbs_mul, Int.natAbs_mul] at hT
  have a1 : 27 * d * f.natAbs ≤ (27 : Int).natAbs * c.natAbs * f.natAbs := Nat.mul_le_mul (Nat.mul_le_mul (show 27 ≤ (27 : Int).natAbs by decide) hd) (Nat.le_refl _)
  have a2 : n * 4135715297 ≤ n * (27 * d * B) := Nat.mul_le_mul (Nat.le_refl n) hB
  have a3 : n * (27 * d * B) = 27 * d * (n * B) := by grind
  have a4 : 27 * d * f.natAbs ≤ 27 * d * (n * B) := by omega
  exact Nat.le_of_mul_le_mul_left a4 (Nat.mul_pos (by decide) hd1)
theorem sq_P (e : Int) (B P : Nat) (h : (e * e).natAbs ≤ B) (hP : B < (P + 1) * (P + 1)) : e.natAbs ≤ P := by
  rw [Int.natAbs_mul] at h
  rcases Nat.lt_or_ge P e.natAbs with r | r
  · exact absurd (Nat.mul_le_mul (show P + 1 ≤ e.natAbs from r) (show P + 1 ≤ e.natAbs from r)) (by omega)
  · exact r
theorem sq3 (X Y W : Nat → Int) (hX : bx7 X) (hY : bx7 Y) (hW : bx7 W) (hD : qD X ≠ 0) (c e0 e1 g1 e2 m h1 e3 n1 n2 k0 H411 H330 H321 H312 H303 H240 H231 H222 H213 H204 H150 H141 H132 H123 H114 H105 H060 H051 H042 H033 H024 H015 H006 : Int) (t600 : tT600 X Y W = 27 * c * (e0 * e0)) (t510 : tT510 X Y W = 27 * c * (2 * e0 * e1)) (t501 : tT501 X Y W = 27 * c * (2 * e0 * g1)) (t420 : tT420 X Y W = 27 * c * (2 * e0 * e2 + e1 * e1)) (t411 : tT411 X Y W = 27 * c * (2 * e0 * m + 2 * e1 * g1 + 18446744073709551616 * H411)) (t402 : tT402 X Y W = 27 * c * (2 * e0 * h1 + g1 * g1)) (t330 : tT330 X Y W = 27 * c * (2 * e0 * e3 + 2 * e1 * e2 + 18446744073709551616 * H330)) (t321 : tT321 X Y W = 27 * c * (2 * e0 * n1 + (2 * e1 * m + 2 * e2 * g1) + 18446744073709551616 * H321)) (t312 : tT312 X Y W = 27 * c * (2 * e0 * n2 + (2 * g1 * m + 2 * h1 * e1) + 18446744073709551616 * H312)) (t303 : tT303 X Y W = 27 * c * (2 * e0 * k0 + 2 * g1 * h1 + 18446744073709551616 * H303)) (t240 : tT240 X Y W = 27 * c * (2 * e1 * e3 + e2 * e2 + 18446744073709551616 * H240)) (t231 : tT231 X Y W = 27 * c * (2 * e1 * n1 + (2 * e2 * m + 2 * e3 * g1) + 18446744073709551616 * H231)) (t222 : tT222 X Y W = 27 * c * (m * m + (2 * e1 * n2 + (2 * g1 * n1 + 2 * e2 * h1)) + 18446744073709551616 * H222)) (t213 : tT213 X Y W = 27 * c * (2 * g1 * n2 + (2 * h1 * m + 2 * k0 * e1) + 18446744073709551616 * H213)) (t204 : tT204 X Y W = 27 * c * (2 * g1 * k0 + h1 * h1 + 18446744073709551616 * H204)) (t150 : tT150 X Y W = 27 * c * (2 * e2 * e3 + 18446744073709551616 * H150)) (t141 : tT141 X Y W = 27 * c * (2 * e2 * n1 + 2 * e3 * m + 18446744073709551616 * H141)) (t132 : tT132 X Y W = 27 * c * (2 * e2 * n2 + (2 * m * n1 + 2 * h1 * e3) + 18446744073709551616 * H132)) (t123 : tT123 X Y W = 27 * c * (2 * h1 * n1 + (2 * m * n2 + 2 * e2 * k0) + 18446744073709551616 * H123)) (t114 : tT114 X Y W = 27 * c * (2 * h1 * n2 + 2 * k0 * m + 18446744073709551616 * H114)) (t105 : tT105 X Y W = 27 * c * (2 * h1 * k0 + 18446744073709551616 * H105)) (t060 : tT060 X Y W = 27 * c * (e3 * e3 + 18446744073709551616 * H060)) (t051 : tT051 X Y W = 27 * c * (2 * e3 * n1 + 18446744073709551616 * H051)) (t042 : tT042 X Y W = 27 * c * (n1 * n1 + 2 * e3 * n2 + 18446744073709551616 * H042)) (t033 : tT033 X Y W = 27 * c * (2 * e3 * k0 + 2 * n1 * n2 + 18446744073709551616 * H033)) (t024 : tT024 X Y W = 27 * c * (n2 * n2 + 2 * k0 * n1 + 18446744073709551616 * H024)) (t015 : tT015 X Y W = 27 * c * (2 * k0 * n2 + 18446744073709551616 * H015)) (t006 : tT006 X Y W = 27 * c * (k0 * k0 + 18446744073709551616 * H006)) (d330 : (2 * e0 * e3).natAbs ≤ 2 ^ 63) (d303 : (2 * e0 * k0).natAbs ≤ 2 ^ 63) (d411 : (2 * e0 * m).natAbs ≤ 2 ^ 63) (d321 : (2 * e0 * n1).natAbs ≤ 2 ^ 63) (d312 : (2 * e0 * n2).natAbs ≤ 2 ^ 63) :
    H411 = 0 ∧ H330 = 0 ∧ H321 = 0 ∧ H312 = 0 ∧ H303 = 0 ∧ H240 = 0 ∧ H231 = 0 ∧ H222 = 0 ∧ H213 = 0 ∧ H204 = 0 ∧ H150 = 0 ∧ H141 = 0 ∧ H132 = 0 ∧ H123 = 0 ∧ H114 = 0 ∧ H105 = 0 ∧ H060 = 0 ∧ H051 = 0 ∧ H042 = 0 ∧ H033 = 0 ∧ H024 = 0 ∧ H015 = 0 ∧ H006 = 0 := by
  obtain ⟨x0, x1, x2, x3, x4, x5, x6⟩ := tT_xy X Y W
  obtain ⟨y0, y1, y2, y3, y4, y5, y6⟩ := tT_xw X Y W
  obtain ⟨z330, z240, z150, z060⟩ := pencil_sq X Y hX hY hD c e0 e1 e2 e3 H330 H240 H150 H060 (by rw [← x0]; exact t600) (by rw [← x1]; exact t510) (by rw [← x2]; exact t420) (by rw [← x3]; exact t330) (by rw [← x4]; exact t240) (by rw [← x5]; exact t150) (by rw [← x6]; exact t060) d330
  obtain ⟨z303, z204, z105, z006⟩ := pencil_sq X W hX hW hD c e0 g1 h1 k0 H303 H204 H105 H006 (by rw [← y0]; exact t600) (by rw [← y1]; exact t501) (by rw [← y2]; exact t402) (by rw [← y3]; exact t303) (by rw [← y4]; exact t204) (by rw [← y5]; exact t105) (by rw [← y6]; exact t006) d303
  subst z330 z240 z150 z060 z303 z204 z105 z006
  simp only [Int.mul_zero, Int.add_zero] at t330 t240 t150 t060 t303 t204 t105 t006
  have q0 : qD X = 27 * c * (e0 * e0) := by
    have : qG X Y 0 = qD X := by
      unfold qG qD
      rfl
    rw [← this, ← x0]
    exact t600
  have hbig := D_big X hX hD
  have he : e0 ≠ 0 := by
    intro q
    rw [q, Int.mul_zero, Int.mul_zero] at q0
    exact hD q0
  have hcn : c ≠ 0 := by
    intro q
    rw [q, Int.mul_zero, Int.zero_mul] at q0
    exact hD q0
  have he1 : 1 ≤ e0.natAbs := Int.natAbs_pos.mpr he
  have hc1 : 1 ≤ c.natAbs := Int.natAbs_pos.mpr hcn
  have two : 2 ≤ e0.natAbs ∨ 2 ≤ c.natAbs := by
    rcases Nat.lt_or_ge e0.natAbs 2 with r | r
    · right
      have r1 : e0.natAbs = 1 := by omega
      rw [q0, Int.natAbs_mul, Int.natAbs_mul, Int.natAbs_mul, r1] at hbig
      have : (27 : Int).natAbs = 27 := rfl
      rw [this] at hbig
      omega
    · exact Or.inl r
  clear x0 x1 x2 x3 x4 x5 x6 y0 y1 y2 y3 y4 y5 y6 hbig q0 hD
  rcases two with two | two
  · skip
    have p0 : e0.natAbs ≤ 12377 := sq_P e0 (1 * 153174641) 12377 (fb_le c _ _ 1 153174641 1 t600 (tT600_le X Y W hX hY hW) hc1 (by decide) (by decide)) (by decide)
    have p3 : e3.natAbs ≤ 12377 := sq_P e3 (1 * 153174641) 12377 (fb_le c _ _ 1 153174641 1 t060 (tT060_le X Y W hX hY hW) hc1 (by decide) (by decide)) (by decide)
    have pk : k0.natAbs ≤ 12377 := sq_P k0 (1 * 153174641) 12377 (fb_le c _ _ 1 153174641 1 t006 (tT006_le X Y W hX hY hW) hc1 (by decide) (by decide)) (by decide)
    obtain ⟨a1, a2⟩ := mid_le e0 e1 e2 e3 _ _ 12377 61900 (15 * 153174641) p0 p3 rfl rfl (fb_le c _ _ 15 153174641 1 t420 (tT420_le X Y W hX hY hW) hc1 (by decide) (by decide)) (fb_le c _ _ 15 153174641 1 t240 (tT240_le X Y W hX hY hW) hc1 (by decide) (by decide)) (by decide) (by decide)
    obtain ⟨b1, b2⟩ := mid_le e0 g1 h1 k0 _ _ 12377 61900 (15 * 153174641) p0 pk rfl rfl (fb_le c _ _ 15 153174641 1 t402 (tT402_le X Y W hX hY hW) hc1 (by decide) (by decide)) (fb_le c _ _ 15 153174641 1 t204 (tT204_le X Y W hX hY hW) hc1 (by decide) (by decide)) (by decide) (by decide)
    obtain ⟨w411, w321, w312, w231, w222, w213, w141, w132, w123, w114, w051, w042, w033, w024, w015⟩ := tern2 e0 e1 e2 e3 g1 h1 k0 m n1 n2 _ _ _ _ _ _ _ _ _ _ _ _ _ _ _ H411 H321 H312 H231 H222 H213 H141 H132 H123 H114 H051 H042 H033 H024 H015 153174641 12377 61900 3070000000 95030000000000 2 p0 a1 a2 p3 b1 b2 pk (by decide) two (by decide) (by decide) (by decide) (by decide) (by decide) (by decide) (by decide) (by decide) (by decide) rfl d411 rfl d321 rfl d312 rfl rfl rfl rfl rfl rfl rfl rfl rfl rfl rfl rfl (fb_le c _ _ 30 153174641 1 t411 (tT411_le X Y W hX hY hW) hc1 (by decide) (by decide)) (fb_le c _ _ 60 153174641 1 t321 (tT321_le X Y W hX hY hW) hc1 (by decide) (by decide)) (fb_le c _ _ 60 153174641 1 t312 (tT312_le X Y W hX hY hW) hc1 (by decide) (by decide)) (fb_le c _ _ 60 153174641 1 t231 (tT231_le X Y W hX hY hW) hc1 (by decide) (by decide)) (fb_le c _ _ 90 153174641 1 t222 (tT222_le X Y W hX hY hW) hc1 (by decide) (by decide)) (fb_le c _ _ 60 153174641 1 t213 (tT213_le X Y W hX hY hW) hc1 (by decide) (by decide)) (fb_le c _ _ 30 153174641 1 t141 (tT141_le X Y W hX hY hW) hc1 (by decide) (by decide)) (fb_le c _ _ 60 153174641 1 t132 (tT132_le X Y W hX hY hW) hc1 (by decide) (by decide)) (fb_le c _ _ 60 153174641 1 t123 (tT123_le X Y W hX hY hW) hc1 (by decide) (by decide)) (fb_le c _ _ 30 153174641 1 t114 (tT114_le X Y W hX hY hW) hc1 (by decide) (by decide)) (fb_le c _ _ 6 153174641 1 t051 (tT051_le X Y W hX hY hW) hc1 (by decide) (by decide)) (fb_le c _ _ 15 153174641 1 t042 (tT042_le X Y W hX hY hW) hc1 (by decide) (by decide)) (fb_le c _ _ 20 153174641 1 t033 (tT033_le X Y W hX hY hW) hc1 (by decide) (by decide)) (fb_le c _ _ 15 153174641 1 t024 (tT024_le X Y W hX hY hW) hc1 (by decide) (by decide)) (fb_le c _ _ 6 153174641 1 t015 (tT015_le X Y W hX hY hW) hc1 (by decide) (by decide))
    exact ⟨w411, rfl, w321, w312, rfl, rfl, w231, w222, w213, rfl, rfl, w141, w132, w123, w114, rfl, rfl, w051, w042, w033, w024, w015, rfl⟩
  · skip
    have p0 : e0.natAbs ≤ 8752 := sq_P e0 (1 * 76587321) 8752 (fb_le c _ _ 1 76587321 2 t600 (tT600_le X Y W hX hY hW) two (by decide) (by decide)) (by decide)
    have p3 : e3.natAbs ≤ 8752 := sq_P e3 (1 * 76587321) 8752 (fb_le c _ _ 1 76587321 2 t060 (tT060_le X Y W hX hY hW) two (by decide) (by decide)) (by decide)
    have pk : k0.natAbs ≤ 8752 := sq_P k0 (1 * 76587321) 8752 (fb_le c _ _ 1 76587321 2 t006 (tT006_le X Y W hX hY hW) two (by decide) (by decide)) (by decide)
    obtain ⟨a1, a2⟩ := mid_le e0 e1 e2 e3 _ _ 8752 43760 (15 * 76587321) p0 p3 rfl rfl (fb_le c _ _ 15 76587321 2 t420 (tT420_le X Y W hX hY hW) two (by decide) (by decide)) (fb_le c _ _ 15 76587321 2 t240 (tT240_le X Y W hX hY hW) two (by decide) (by decide)) (by decide) (by decide)
    obtain ⟨b1, b2⟩ := mid_le e0 g1 h1 k0 _ _ 8752 43760 (15 * 76587321) p0 pk rfl rfl (fb_le c _ _ 15 76587321 2 t402 (tT402_le X Y W hX hY hW) two (by decide) (by decide)) (fb_le c _ _ 15 76587321 2 t204 (tT204_le X Y W hX hY hW) two (by decide) (by decide)) (by decide) (by decide)
    obtain ⟨w411, w321, w312, w231, w222, w213, w141, w132, w123, w114, w051, w042, w033, w024, w015⟩ := tern2 e0 e1 e2 e3 g1 h1 k0 m n1 n2 _ _ _ _ _ _ _ _ _ _ _ _ _ _ _ H411 H321 H312 H231 H222 H213 H141 H132 H123 H114 H051 H042 H033 H024 H015 76587321 8752 43760 3070000000 134350000000000 1 p0 a1 a2 p3 b1 b2 pk (by decide) he1 (by decide) (by decide) (by decide) (by decide) (by decide) (by decide) (by decide) (by decide) (by decide) rfl d411 rfl d321 rfl d312 rfl rfl rfl rfl rfl rfl rfl rfl rfl rfl rfl rfl (fb_le c _ _ 30 76587321 2 t411 (tT411_le X Y W hX hY hW) two (by decide) (by decide)) (fb_le c _ _ 60 76587321 2 t321 (tT321_le X Y W hX hY hW) two (by decide) (by decide)) (fb_le c _ _ 60 76587321 2 t312 (tT312_le X Y W hX hY hW) two (by decide) (by decide)) (fb_le c _ _ 60 76587321 2 t231 (tT231_le X Y W hX hY hW) two (by decide) (by decide)) (fb_le c _ _ 90 76587321 2 t222 (tT222_le X Y W hX hY hW) two (by decide) (by decide)) (fb_le c _ _ 60 76587321 2 t213 (tT213_le X Y W hX hY hW) two (by decide) (by decide)) (fb_le c _ _ 30 76587321 2 t141 (tT141_le X Y W hX hY hW) two (by decide) (by decide)) (fb_le c _ _ 60 76587321 2 t132 (tT132_le X Y W hX hY hW) two (by decide) (by decide)) (fb_le c _ _ 60 76587321 2 t123 (tT123_le X Y W hX hY hW) two (by decide) (by decide)) (fb_le c _ _ 30 76587321 2 t114 (tT114_le X Y W hX hY hW) two (by decide) (by decide)) (fb_le c _ _ 6 76587321 2 t051 (tT051_le X Y W hX hY hW) two (by decide) (by decide)) (fb_le c _ _ 15 76587321 2 t042 (tT042_le X Y W hX hY hW) two (by decide) (by decide)) (fb_le c _ _ 20 76587321 2 t033 (tT033_le X Y W hX hY hW) two (by decide) (by decide)) (fb_le c _ _ 15 76587321 2 t024 (tT024_le X Y W hX hY hW) two (by decide) (by decide)) (fb_le c _ _ 6 76587321 2 t015 (tT015_le X Y W hX hY hW) two (by decide) (by decide))
    exact ⟨w411, rfl, w321, w312, rfl, rfl, w231, w222, w213, rfl, rfl, w141, w132, w123, w114, rfl, rfl, w051, w042, w033, w024, w015, rfl⟩
