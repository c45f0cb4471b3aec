/-! THE CUBE, degree 6: every lead -/
theorem cu6a (X Y W : Nat → Int) (hX : bx7 X) (hY : bx7 Y) (hW : bx7 W) (c e0 e1 g1 e2 m h H600 H510 H501 H420 H411 H402 H330 H321 H312 H303 H240 H231 H222 H213 H204 H150 H141 H132 H123 H114 H105 H060 H051 H042 H033 H024 H015 H006 : Int) (hc : c ≠ 0) (he : e0 ≠ 0) (z600 : H600 = 0) (t600 : tT600 X Y W = 27 * c * (e0 * e0 * e0 + 18446744073709551616 * H600)) (t510 : tT510 X Y W = 27 * c * (3 * (e0 * e0) * e1 + 18446744073709551616 * H510)) (t501 : tT501 X Y W = 27 * c * (3 * (e0 * e0) * g1 + 18446744073709551616 * H501)) (t420 : tT420 X Y W = 27 * c * (3 * (e0 * e0) * e2 + 3 * e0 * (e1 * e1) + 18446744073709551616 * H420)) (t411 : tT411 X Y W = 27 * c * (3 * (e0 * e0) * m + 6 * e0 * (e1 * g1) + 18446744073709551616 * H411)) (t402 : tT402 X Y W = 27 * c * (3 * (e0 * e0) * h + 3 * e0 * (g1 * g1) + 18446744073709551616 * H402)) (t330 : tT330 X Y W = 27 * c * (6 * e0 * (e1 * e2) + e1 * e1 * e1 + 18446744073709551616 * H330)) (t321 : tT321 X Y W = 27 * c * (6 * (e0 * m) * e1 + (3 * (e1 * e1) * g1 + 6 * e0 * (e2 * g1)) + 18446744073709551616 * H321)) (t312 : tT312 X Y W = 27 * c * (6 * (e0 * m) * g1 + (3 * (g1 * g1) * e1 + 6 * e0 * (h * e1)) + 18446744073709551616 * H312)) (t303 : tT303 X Y W = 27 * c * (6 * e0 * (g1 * h) + g1 * g1 * g1 + 18446744073709551616 * H303)) (t240 : tT240 X Y W = 27 * c * (3 * e0 * (e2 * e2) + 3 * (e1 * e1) * e2 + 18446744073709551616 * H240)) (t231 : tT231 X Y W = 27 * c * (6 * (e0 * m) * e2 + (3 * (e1 * e1) * m + 6 * e1 * (e2 * g1)) + 18446744073709551616 * H231)) (t222 : tT222 X Y W = 27 * c * (3 * (e0 * m) * m + (6 * e0 * (e2 * h) + (6 * e1 * (g1 * m) + (3 * (e1 * e1) * h + 3 * (g1 * g1) * e2))) + 18446744073709551616 * H222)) (t213 : tT213 X Y W = 27 * c * (6 * (e0 * m) * h + (3 * (g1 * g1) * m + 6 * g1 * (h * e1)) + 18446744073709551616 * H213)) (t204 : tT204 X Y W = 27 * c * (3 * e0 * (h * h) + 3 * (g1 * g1) * h + 18446744073709551616 * H204)) (t150 : tT150 X Y W = 27 * c * (3 * e1 * (e2 * e2) + 18446744073709551616 * H150)) (t141 : tT141 X Y W = 27 * c * (6 * e1 * (e2 * m) + 3 * (e2 * e2) * g1 + 18446744073709551616 * H141)) (t132 : tT132 X Y W = 27 * c * (3 * e1 * (m * m) + (6 * e1 * (e2 * h) + 6 * g1 * (e2 * m)) + 18446744073709551616 * H132)) (t123 : tT123 X Y W = 27 * c * (3 * g1 * (m * m) + (6 * g1 * (h * e2) + 6 * e1 * (h * m)) + 18446744073709551616 * H123)) (t114 : tT114 X Y W = 27 * c * (6 * g1 * (h * m) + 3 * (h * h) * e1 + 18446744073709551616 * H114)) (t105 : tT105 X Y W = 27 * c * (3 * g1 * (h * h) + 18446744073709551616 * H105)) (t060 : tT060 X Y W = 27 * c * (e2 * e2 * e2 + 18446744073709551616 * H060)) (t051 : tT051 X Y W = 27 * c * (3 * (e2 * e2) * m + 18446744073709551616 * H051)) (t042 : tT042 X Y W = 27 * c * (3 * e2 * (m * m) + 3 * (e2 * e2) * h + 18446744073709551616 * H042)) (t033 : tT033 X Y W = 27 * c * (m * m * m + 6 * e2 * (h * m) + 18446744073709551616 * H033)) (t024 : tT024 X Y W = 27 * c * (3 * h * (m * m) + 3 * (h * h) * e2 + 18446744073709551616 * H024)) (t015 : tT015 X Y W = 27 * c * (3 * (h * h) * m + 18446744073709551616 * H015)) (t006 : tT006 X Y W = 27 * c * (h * h * h + 18446744073709551616 * H006)) (de1 : (3 * (e0 * e0) * e1).natAbs ≤ 9223372036854775808) (dg1 : (3 * (e0 * e0) * g1).natAbs ≤ 9223372036854775808) (de2 : (3 * (e0 * e0) * e2).natAbs ≤ 9223372036854775808) (dm : (3 * (e0 * e0) * m).natAbs ≤ 9223372036854775808) (dh : (3 * (e0 * e0) * h).natAbs ≤ 9223372036854775808) : H600 = 0 ∧ H510 = 0 ∧ H501 = 0 ∧ H420 = 0 ∧ H411 = 0 ∧ H402 = 0 ∧ H330 = 0 ∧ H321 = 0 ∧ H312 = 0 ∧ H303 = 0 ∧ H240 = 0 ∧ H231 = 0 ∧ H222 = 0 ∧ H213 = 0 ∧ H204 = 0 ∧ H150 = 0 ∧ H141 = 0 ∧ H132 = 0 ∧ H123 = 0 ∧ H114 = 0 ∧ H105 = 0 ∧ H060 = 0 ∧ H051 = 0 ∧ H042 = 0 ∧ H033 = 0 ∧ H024 = 0 ∧ H015 = 0 ∧ H006 = 0 := by
  subst z600
  rw [Int.mul_zero, Int.add_zero] at t600
  have he1 : 1 ≤ e0.natAbs := Int.natAbs_pos.mpr he
  have sq : ∀ x : Int, (3 * (e0 * e0) * x).natAbs ≤ 6 * 153174641 → (3 * e0 * (x * x)).natAbs ≤ 3 * (306349282 * 306349282) := by
    intro x hx
    have y1 : (e0 * e0 * x).natAbs ≤ 306349282 := by
      rw [Int.mul_assoc, Int.natAbs_mul] at hx
      have t3 : (3 : Int).natAbs = 3 := rfl
      rw [t3] at hx
      omega
    rw [Int.mul_assoc]
    refine nmul_le k3 ?_
    have z1 : (e0 * (x * x)).natAbs ≤ (e0 * e0 * x).natAbs * (e0 * e0 * x).natAbs := by
      rw [Int.natAbs_mul, Int.natAbs_mul, Int.natAbs_mul (e0 * e0), Int.natAbs_mul]
      generalize e0.natAbs = p at *
      generalize x.natAbs = q at *
      have : p * p * q * (p * p * q) = p * (q * q) * (p * (p * p)) := by grind
      rw [this]
      exact Nat.le_mul_of_pos_right _ (Nat.mul_pos he1 (Nat.mul_pos he1 he1))
    exact Nat.le_trans z1 (Nat.mul_le_mul y1 y1)
  obtain ⟨z510, q510⟩ := dig3 _ _ 0 H510 _ 0 (by rw [Int.add_zero]) (fb1 c _ _ 6 hc t510 (tT510_le X Y W hX hY hW)) (by decide) de1 (by decide)
  subst z510
  rw [Int.mul_zero, Int.add_zero] at t510
  obtain ⟨z501, q501⟩ := dig3 _ _ 0 H501 _ 0 (by rw [Int.add_zero]) (fb1 c _ _ 6 hc t501 (tT501_le X Y W hX hY hW)) (by decide) dg1 (by decide)
  subst z501
  rw [Int.mul_zero, Int.add_zero] at t501
  obtain ⟨z420, -⟩ := dig3 _ _ _ H420 _ _ rfl (fb1 c _ _ 15 hc t420 (tT420_le X Y W hX hY hW)) (sq e1 q510) de2 (by decide)
  subst z420
  rw [Int.mul_zero, Int.add_zero] at t420
  obtain ⟨z402, -⟩ := dig3 _ _ _ H402 _ _ rfl (fb1 c _ _ 15 hc t402 (tT402_le X Y W hX hY hW)) (sq g1 q501) dh (by decide)
  subst z402
  rw [Int.mul_zero, Int.add_zero] at t402
  have hD : qD X ≠ 0 := by
    have : qD X = tT600 X Y W := by
      unfold tT600 qT600 qD
      omega
    rw [this, t600]
    exact Int.mul_ne_zero (Int.mul_ne_zero (by decide) hc) (Int.mul_ne_zero (Int.mul_ne_zero he he) he)
  have e63 : (9223372036854775808 : Nat) ≤ 2 ^ 63 := by decide +kernel
  obtain ⟨w411, w330, w321, w312, w303, w240, w231, w222, w213, w204, w150, w141, w132, w123, w114, w105, w060, w051, w042, w033, w024, w015, w006⟩ := cu3 X Y W hX hY hW hD c e0 e1 g1 e2 m h H411 H330 H321 H312 H303 H240 H231 H222 H213 H204 H150 H141 H132 H123 H114 H105 H060 H051 H042 H033 H024 H015 H006 t600 t510 t501 t420 t411 t402 t330 t321 t312 t303 t240 t231 t222 t213 t204 t150 t141 t132 t123 t114 t105 t060 t051 t042 t033 t024 t015 t006 (Nat.le_trans dm e63)
  exact ⟨rfl, rfl, rfl, rfl, w411, rfl, w330, w321, w312, w303, w240, w231, w222, w213, w204, w150, w141, w132, w123, w114, w105, w060, w051, w042, w033, w024, w015, w006⟩
theorem rc3_600 (c e1 g1 e2 m h H : Int) : (27 * c * (e2 * e2 * e2 + 18446744073709551616 * 0) : Int) = 27 * c * (e2 * e2 * e2 + 18446744073709551616 * 0) := by grind
theorem rc3_510 (c e1 g1 e2 m h H : Int) : (27 * c * (3 * e1 * (e2 * e2) + 18446744073709551616 * H) : Int) = 27 * c * (3 * (e2 * e2) * e1 + 18446744073709551616 * H) := by grind
theorem rc3_501 (c e1 g1 e2 m h H : Int) : (27 * c * (3 * (e2 * e2) * m + 18446744073709551616 * H) : Int) = 27 * c * (3 * (e2 * e2) * m + 18446744073709551616 * H) := by grind
theorem rc3_420 (c e1 g1 e2 m h H : Int) : (27 * c * (3 * 0 * (e2 * e2) + 3 * (e1 * e1) * e2 + 18446744073709551616 * H) : Int) = 27 * c * (3 * (e2 * e2) * 0 + 3 * e2 * (e1 * e1) + 18446744073709551616 * H) := by grind
theorem rc3_411 (c e1 g1 e2 m h H : Int) : (27 * c * (6 * e1 * (e2 * m) + 3 * (e2 * e2) * g1 + 18446744073709551616 * H) : Int) = 27 * c * (3 * (e2 * e2) * g1 + 6 * e2 * (e1 * m) + 18446744073709551616 * H) := by grind
theorem rc3_402 (c e1 g1 e2 m h H : Int) : (27 * c * (3 * e2 * (m * m) + 3 * (e2 * e2) * h + 18446744073709551616 * H) : Int) = 27 * c * (3 * (e2 * e2) * h + 3 * e2 * (m * m) + 18446744073709551616 * H) := by grind
theorem rc3_330 (c e1 g1 e2 m h H : Int) : (27 * c * (6 * 0 * (e1 * e2) + e1 * e1 * e1 + 18446744073709551616 * H) : Int) = 27 * c * (6 * e2 * (e1 * 0) + e1 * e1 * e1 + 18446744073709551616 * H) := by grind
theorem rc3_321 (c e1 g1 e2 m h H : Int) : (27 * c * (6 * (0 * m) * e2 + (3 * (e1 * e1) * m + 6 * e1 * (e2 * g1)) + 18446744073709551616 * H) : Int) = 27 * c * (6 * (e2 * g1) * e1 + (3 * (e1 * e1) * m + 6 * e2 * (0 * m)) + 18446744073709551616 * H) := by grind
theorem rc3_312 (c e1 g1 e2 m h H : Int) : (27 * c * (3 * e1 * (m * m) + (6 * e1 * (e2 * h) + 6 * g1 * (e2 * m)) + 18446744073709551616 * H) : Int) = 27 * c * (6 * (e2 * g1) * m + (3 * (m * m) * e1 + 6 * e2 * (h * e1)) + 18446744073709551616 * H) := by grind
theorem rc3_303 (c e1 g1 e2 m h H : Int) : (27 * c * (m * m * m + 6 * e2 * (h * m) + 18446744073709551616 * H) : Int) = 27 * c * (6 * e2 * (m * h) + m * m * m + 18446744073709551616 * H) := by grind
theorem rc3_240 (c e1 g1 e2 m h H : Int) : (27 * c * (3 * (0 * 0) * e2 + 3 * 0 * (e1 * e1) + 18446744073709551616 * H) : Int) = 27 * c * (3 * e2 * (0 * 0) + 3 * (e1 * e1) * 0 + 18446744073709551616 * H) := by grind
theorem rc3_231 (c e1 g1 e2 m h H : Int) : (27 * c * (6 * (0 * m) * e1 + (3 * (e1 * e1) * g1 + 6 * 0 * (e2 * g1)) + 18446744073709551616 * H) : Int) = 27 * c * (6 * (e2 * g1) * 0 + (3 * (e1 * e1) * g1 + 6 * e1 * (0 * m)) + 18446744073709551616 * H) := by grind
theorem rc3_222 (c e1 g1 e2 m h H : Int) : (27 * c * (3 * (0 * m) * m + (6 * 0 * (e2 * h) + (6 * e1 * (g1 * m) + (3 * (e1 * e1) * h + 3 * (g1 * g1) * e2))) + 18446744073709551616 * H) : Int) = 27 * c * (3 * (e2 * g1) * g1 + (6 * e2 * (0 * h) + (6 * e1 * (m * g1) + (3 * (e1 * e1) * h + 3 * (m * m) * 0))) + 18446744073709551616 * H) := by grind
theorem rc3_213 (c e1 g1 e2 m h H : Int) : (27 * c * (3 * g1 * (m * m) + (6 * g1 * (h * e2) + 6 * e1 * (h * m)) + 18446744073709551616 * H) : Int) = 27 * c * (6 * (e2 * g1) * h + (3 * (m * m) * g1 + 6 * m * (h * e1)) + 18446744073709551616 * H) := by grind
theorem rc3_204 (c e1 g1 e2 m h H : Int) : (27 * c * (3 * h * (m * m) + 3 * (h * h) * e2 + 18446744073709551616 * H) : Int) = 27 * c * (3 * e2 * (h * h) + 3 * (m * m) * h + 18446744073709551616 * H) := by grind
theorem rc3_150 (c e1 g1 e2 m h H : Int) : (27 * c * (3 * (0 * 0) * e1 + 18446744073709551616 * H) : Int) = 27 * c * (3 * e1 * (0 * 0) + 18446744073709551616 * H) := by grind
theorem rc3_141 (c e1 g1 e2 m h H : Int) : (27 * c * (3 * (0 * 0) * m + 6 * 0 * (e1 * g1) + 18446744073709551616 * H) : Int) = 27 * c * (6 * e1 * (0 * g1) + 3 * (0 * 0) * m + 18446744073709551616 * H) := by grind
theorem rc3_132 (c e1 g1 e2 m h H : Int) : (27 * c * (6 * (0 * m) * g1 + (3 * (g1 * g1) * e1 + 6 * 0 * (h * e1)) + 18446744073709551616 * H) : Int) = 27 * c * (3 * e1 * (g1 * g1) + (6 * e1 * (0 * h) + 6 * m * (0 * g1)) + 18446744073709551616 * H) := by grind
theorem rc3_123 (c e1 g1 e2 m h H : Int) : (27 * c * (6 * (0 * m) * h + (3 * (g1 * g1) * m + 6 * g1 * (h * e1)) + 18446744073709551616 * H) : Int) = 27 * c * (3 * m * (g1 * g1) + (6 * m * (h * 0) + 6 * e1 * (h * g1)) + 18446744073709551616 * H) := by grind
theorem rc3_114 (c e1 g1 e2 m h H : Int) : (27 * c * (6 * g1 * (h * m) + 3 * (h * h) * e1 + 18446744073709551616 * H) : Int) = 27 * c * (6 * m * (h * g1) + 3 * (h * h) * e1 + 18446744073709551616 * H) := by grind
theorem rc3_105 (c e1 g1 e2 m h H : Int) : (27 * c * (3 * (h * h) * m + 18446744073709551616 * H) : Int) = 27 * c * (3 * m * (h * h) + 18446744073709551616 * H) := by grind
theorem rc3_060 (c e1 g1 e2 m h H : Int) : (27 * c * (0 * 0 * 0 + 18446744073709551616 * H) : Int) = 27 * c * (0 * 0 * 0 + 18446744073709551616 * H) := by grind
theorem rc3_051 (c e1 g1 e2 m h H : Int) : (27 * c * (3 * (0 * 0) * g1 + 18446744073709551616 * H) : Int) = 27 * c * (3 * (0 * 0) * g1 + 18446744073709551616 * H) := by grind
theorem rc3_042 (c e1 g1 e2 m h H : Int) : (27 * c * (3 * (0 * 0) * h + 3 * 0 * (g1 * g1) + 18446744073709551616 * H) : Int) = 27 * c * (3 * 0 * (g1 * g1) + 3 * (0 * 0) * h + 18446744073709551616 * H) := by grind
theorem rc3_033 (c e1 g1 e2 m h H : Int) : (27 * c * (6 * 0 * (g1 * h) + g1 * g1 * g1 + 18446744073709551616 * H) : Int) = 27 * c * (g1 * g1 * g1 + 6 * 0 * (h * g1) + 18446744073709551616 * H) := by grind
theorem rc3_024 (c e1 g1 e2 m h H : Int) : (27 * c * (3 * 0 * (h * h) + 3 * (g1 * g1) * h + 18446744073709551616 * H) : Int) = 27 * c * (3 * h * (g1 * g1) + 3 * (h * h) * 0 + 18446744073709551616 * H) := by grind
theorem rc3_015 (c e1 g1 e2 m h H : Int) : (27 * c * (3 * g1 * (h * h) + 18446744073709551616 * H) : Int) = 27 * c * (3 * (h * h) * g1 + 18446744073709551616 * H) := by grind
theorem rc3_006 (c e1 g1 e2 m h H : Int) : (27 * c * (h * h * h + 18446744073709551616 * H) : Int) = 27 * c * (h * h * h + 18446744073709551616 * H) := by grind
theorem cu6c (X Y W : Nat → Int) (hX : bx7 X) (hY : bx7 Y) (hW : bx7 W) (c e1 g1 e2 m h H600 H510 H501 H420 H411 H402 H330 H321 H312 H303 H240 H231 H222 H213 H204 H150 H141 H132 H123 H114 H105 H060 H051 H042 H033 H024 H015 H006 : Int) (hc : c ≠ 0) (he : e2 ≠ 0) (z060 : H060 = 0) (t600 : tT600 X Y W = 27 * c * (0 * 0 * 0 + 18446744073709551616 * H600)) (t510 : tT510 X Y W = 27 * c * (3 * (0 * 0) * e1 + 18446744073709551616 * H510)) (t501 : tT501 X Y W = 27 * c * (3 * (0 * 0) * g1 + 18446744073709551616 * H501)) (t420 : tT420 X Y W = 27 * c * (3 * (0 * 0) * e2 + 3 * 0 * (e1 * e1) + 18446744073709551616 * H420)) (t411 : tT411 X Y W = 27 * c * (3 * (0 * 0) * m + 6 * 0 * (e1 * g1) + 18446744073709551616 * H411)) (t402 : tT402 X Y W = 27 * c * (3 * (0 * 0) * h + 3 * 0 * (g1 * g1) + 18446744073709551616 * H402)) (t330 : tT330 X Y W = 27 * c * (6 * 0 * (e1 * e2) + e1 * e1 * e1 + 18446744073709551616 * H330)) (t321 : tT321 X Y W = 27 * c * (6 * (0 * m) * e1 + (3 * (e1 * e1) * g1 + 6 * 0 * (e2 * g1)) + 18446744073709551616 * H321)) (t312 : tT312 X Y W = 27 * c * (6 * (0 * m) * g1 + (3 * (g1 * g1) * e1 + 6 * 0 * (h * e1)) + 18446744073709551616 * H312)) (t303 : tT303 X Y W = 27 * c * (6 * 0 * (g1 * h) + g1 * g1 * g1 + 18446744073709551616 * H303)) (t240 : tT240 X Y W = 27 * c * (3 * 0 * (e2 * e2) + 3 * (e1 * e1) * e2 + 18446744073709551616 * H240)) (t231 : tT231 X Y W = 27 * c * (6 * (0 * m) * e2 + (3 * (e1 * e1) * m + 6 * e1 * (e2 * g1)) + 18446744073709551616 * H231)) (t222 : tT222 X Y W = 27 * c * (3 * (0 * m) * m + (6 * 0 * (e2 * h) + (6 * e1 * (g1 * m) + (3 * (e1 * e1) * h + 3 * (g1 * g1) * e2))) + 18446744073709551616 * H222)) (t213 : tT213 X Y W = 27 * c * (6 * (0 * m) * h + (3 * (g1 * g1) * m + 6 * g1 * (h * e1)) + 18446744073709551616 * H213)) (t204 : tT204 X Y W = 27 * c * (3 * 0 * (h * h) + 3 * (g1 * g1) * h + 18446744073709551616 * H204)) (t150 : tT150 X Y W = 27 * c * (3 * e1 * (e2 * e2) + 18446744073709551616 * H150)) (t141 : tT141 X Y W = 27 * c * (6 * e1 * (e2 * m) + 3 * (e2 * e2) * g1 + 18446744073709551616 * H141)) (t132 : tT132 X Y W = 27 * c * (3 * e1 * (m * m) + (6 * e1 * (e2 * h) + 6 * g1 * (e2 * m)) + 18446744073709551616 * H132)) (t123 : tT123 X Y W = 27 * c * (3 * g1 * (m * m) + (6 * g1 * (h * e2) + 6 * e1 * (h * m)) + 18446744073709551616 * H123)) (t114 : tT114 X Y W = 27 * c * (6 * g1 * (h * m) + 3 * (h * h) * e1 + 18446744073709551616 * H114)) (t105 : tT105 X Y W = 27 * c * (3 * g1 * (h * h) + 18446744073709551616 * H105)) (t060 : tT060 X Y W = 27 * c * (e2 * e2 * e2 + 18446744073709551616 * H060)) (t051 : tT051 X Y W = 27 * c * (3 * (e2 * e2) * m + 18446744073709551616 * H051)) (t042 : tT042 X Y W = 27 * c * (3 * e2 * (m * m) + 3 * (e2 * e2) * h + 18446744073709551616 * H042)) (t033 : tT033 X Y W = 27 * c * (m * m * m + 6 * e2 * (h * m) + 18446744073709551616 * H033)) (t024 : tT024 X Y W = 27 * c * (3 * h * (m * m) + 3 * (h * h) * e2 + 18446744073709551616 * H024)) (t015 : tT015 X Y W = 27 * c * (3 * (h * h) * m + 18446744073709551616 * H015)) (t006 : tT006 X Y W = 27 * c * (h * h * h + 18446744073709551616 * H006)) (de1 : (3 * (e2 * e2) * e1).natAbs ≤ 9223372036854775808) (dm : (3 * (e2 * e2) * m).natAbs ≤ 9223372036854775808) (dg1 : (3 * (e2 * e2) * g1).natAbs ≤ 9223372036854775808) (dh : (3 * (e2 * e2) * h).natAbs ≤ 9223372036854775808) : H600 = 0 ∧ H510 = 0 ∧ H501 = 0 ∧ H420 = 0 ∧ H411 = 0 ∧ H402 = 0 ∧ H330 = 0 ∧ H321 = 0 ∧ H312 = 0 ∧ H303 = 0 ∧ H240 = 0 ∧ H231 = 0 ∧ H222 = 0 ∧ H213 = 0 ∧ H204 = 0 ∧ H150 = 0 ∧ H141 = 0 ∧ H132 = 0 ∧ H123 = 0 ∧ H114 = 0 ∧ H105 = 0 ∧ H060 = 0 ∧ H051 = 0 ∧ H042 = 0 ∧ H033 = 0 ∧ H024 = 0 ∧ H015 = 0 ∧ H006 = 0 := by
  subst z060
  obtain ⟨w600, w510, w501, w420, w411, w402, w330, w321, w312, w303, w240, w231, w222, w213, w204, w150, w141, w132, w123, w114, w105, w060, w051, w042, w033, w024, w015, w006⟩ := cu6a Y X W hY hX hW c e2 e1 m 0 g1 h 0 H150 H051 H240 H141 H042 H330 H231 H132 H033 H420 H321 H222 H123 H024 H510 H411 H312 H213 H114 H015 H600 H501 H402 H303 H204 H105 H006 hc he rfl ((sw600 X Y W).trans (t060.trans (rc3_600 c e1 g1 e2 m h 0))) ((sw510 X Y W).trans (t150.trans (rc3_510 c e1 g1 e2 m h H150))) ((sw501 X Y W).trans (t051.trans (rc3_501 c e1 g1 e2 m h H051))) ((sw420 X Y W).trans (t240.trans (rc3_420 c e1 g1 e2 m h H240))) ((sw411 X Y W).trans (t141.trans (rc3_411 c e1 g1 e2 m h H141))) ((sw402 X Y W).trans (t042.trans (rc3_402 c e1 g1 e2 m h H042))) ((sw330 X Y W).trans (t330.trans (rc3_330 c e1 g1 e2 m h H330))) ((sw321 X Y W).trans (t231.trans (rc3_321 c e1 g1 e2 m h H231))) ((sw312 X Y W).trans (t132.trans (rc3_312 c e1 g1 e2 m h H132))) ((sw303 X Y W).trans (t033.trans (rc3_303 c e1 g1 e2 m h H033))) ((sw240 X Y W).trans (t420.trans (rc3_240 c e1 g1 e2 m h H420))) ((sw231 X Y W).trans (t321.trans (rc3_231 c e1 g1 e2 m h H321))) ((sw222 X Y W).trans (t222.trans (rc3_222 c e1 g1 e2 m h H222))) ((sw213 X Y W).trans (t123.trans (rc3_213 c e1 g1 e2 m h H123))) ((sw204 X Y W).trans (t024.trans (rc3_204 c e1 g1 e2 m h H024))) ((sw150 X Y W).trans (t510.trans (rc3_150 c e1 g1 e2 m h H510))) ((sw141 X Y W).trans (t411.trans (rc3_141 c e1 g1 e2 m h H411))) ((sw132 X Y W).trans (t312.trans (rc3_132 c e1 g1 e2 m h H312))) ((sw123 X Y W).trans (t213.trans (rc3_123 c e1 g1 e2 m h H213))) ((sw114 X Y W).trans (t114.trans (rc3_114 c e1 g1 e2 m h H114))) ((sw105 X Y W).trans (t015.trans (rc3_105 c e1 g1 e2 m h H015))) ((sw060 X Y W).trans (t600.trans (rc3_060 c e1 g1 e2 m h H600))) ((sw051 X Y W).trans (t501.trans (rc3_051 c e1 g1 e2 m h H501))) ((sw042 X Y W).trans (t402.trans (rc3_042 c e1 g1 e2 m h H402))) ((sw033 X Y W).trans (t303.trans (rc3_033 c e1 g1 e2 m h H303))) ((sw024 X Y W).trans (t204.trans (rc3_024 c e1 g1 e2 m h H204))) ((sw015 X Y W).trans (t105.trans (rc3_015 c e1 g1 e2 m h H105))) ((sw006 X Y W).trans (t006.trans (rc3_006 c e1 g1 e2 m h H006))) de1 dm (by rw [Int.mul_zero]; exact Nat.zero_le _) dg1 dh
  exact ⟨w060, w150, w051, w240, w141, w042, w330, w231, w132, w033, w420, w321, w222, w123, w024, w510, w411, w312, w213, w114, w015, rfl, w501, w402, w303, w204, w105, w006⟩
theorem rc1_330 (c e1 g1 e2 m h H : Int) : (27 * c * (6 * 0 * (e1 * e2) + e1 * e1 * e1 + 18446744073709551616 * 0) : Int) = 27 * c * (e1 * (e1 * e1)) := by grind
theorem rc1_321 (c e1 g1 e2 m h H : Int) : (27 * c * (6 * (0 * m) * e1 + (3 * (e1 * e1) * g1 + 6 * 0 * (e2 * g1)) + 18446744073709551616 * H) : Int) = 27 * c * (3 * (e1 * e1) * g1 + 18446744073709551616 * H) := by grind
theorem rc1_312 (c e1 g1 e2 m h H : Int) : (27 * c * (6 * (0 * m) * g1 + (3 * (g1 * g1) * e1 + 6 * 0 * (h * e1)) + 18446744073709551616 * H) : Int) = 27 * c * (3 * (g1 * (g1 * e1)) + 18446744073709551616 * H) := by grind
theorem rc1_303 (c e1 g1 e2 m h H : Int) : (27 * c * (6 * 0 * (g1 * h) + g1 * g1 * g1 + 18446744073709551616 * H) : Int) = 27 * c * (g1 * (g1 * g1) + 18446744073709551616 * H) := by grind
theorem rc1_240 (c e1 g1 e2 m h H : Int) : (27 * c * (3 * 0 * (e2 * e2) + 3 * (e1 * e1) * e2 + 18446744073709551616 * H) : Int) = 27 * c * (3 * (e1 * e1) * e2 + 18446744073709551616 * H) := by grind
theorem rc1_231 (c e1 g1 e2 m h H : Int) : (27 * c * (6 * (0 * m) * e2 + (3 * (e1 * e1) * m + 6 * e1 * (e2 * g1)) + 18446744073709551616 * H) : Int) = 27 * c * (3 * (e1 * e1) * m + 6 * (e1 * (e2 * g1)) + 18446744073709551616 * H) := by grind
theorem rc1_222 (c e1 g1 e2 m h H : Int) : (27 * c * (3 * (0 * m) * m + (6 * 0 * (e2 * h) + (6 * e1 * (g1 * m) + (3 * (e1 * e1) * h + 3 * (g1 * g1) * e2))) + 18446744073709551616 * H) : Int) = 27 * c * (3 * (e1 * e1) * h + (6 * (e1 * (g1 * m)) + 3 * (g1 * (g1 * e2))) + 18446744073709551616 * H) := by grind
theorem rc1_213 (c e1 g1 e2 m h H : Int) : (27 * c * (6 * (0 * m) * h + (3 * (g1 * g1) * m + 6 * g1 * (h * e1)) + 18446744073709551616 * H) : Int) = 27 * c * (3 * (g1 * (g1 * m)) + 6 * (e1 * (g1 * h)) + 18446744073709551616 * H) := by grind
theorem rc1_204 (c e1 g1 e2 m h H : Int) : (27 * c * (3 * 0 * (h * h) + 3 * (g1 * g1) * h + 18446744073709551616 * H) : Int) = 27 * c * (3 * (g1 * (g1 * h)) + 18446744073709551616 * H) := by grind
theorem rc1_150 (c e1 g1 e2 m h H : Int) : (27 * c * (3 * e1 * (e2 * e2) + 18446744073709551616 * H) : Int) = 27 * c * (3 * (e1 * (e2 * e2)) + 18446744073709551616 * H) := by grind
theorem rc1_141 (c e1 g1 e2 m h H : Int) : (27 * c * (6 * e1 * (e2 * m) + 3 * (e2 * e2) * g1 + 18446744073709551616 * H) : Int) = 27 * c * (6 * (e1 * (e2 * m)) + 3 * (e2 * (e2 * g1)) + 18446744073709551616 * H) := by grind
theorem rc1_132 (c e1 g1 e2 m h H : Int) : (27 * c * (3 * e1 * (m * m) + (6 * e1 * (e2 * h) + 6 * g1 * (e2 * m)) + 18446744073709551616 * H) : Int) = 27 * c * (3 * (e1 * (m * m)) + (6 * (e1 * (e2 * h)) + 6 * (g1 * (e2 * m))) + 18446744073709551616 * H) := by grind
theorem rc1_123 (c e1 g1 e2 m h H : Int) : (27 * c * (3 * g1 * (m * m) + (6 * g1 * (h * e2) + 6 * e1 * (h * m)) + 18446744073709551616 * H) : Int) = 27 * c * (3 * (g1 * (m * m)) + (6 * (g1 * (e2 * h)) + 6 * (e1 * (m * h))) + 18446744073709551616 * H) := by grind
theorem rc1_114 (c e1 g1 e2 m h H : Int) : (27 * c * (6 * g1 * (h * m) + 3 * (h * h) * e1 + 18446744073709551616 * H) : Int) = 27 * c * (6 * (g1 * (m * h)) + 3 * (e1 * (h * h)) + 18446744073709551616 * H) := by grind
theorem rc1_105 (c e1 g1 e2 m h H : Int) : (27 * c * (3 * g1 * (h * h) + 18446744073709551616 * H) : Int) = 27 * c * (3 * (g1 * (h * h)) + 18446744073709551616 * H) := by grind
theorem rc1_060 (c e1 g1 e2 m h H : Int) : (27 * c * (e2 * e2 * e2 + 18446744073709551616 * H) : Int) = 27 * c * (e2 * (e2 * e2) + 18446744073709551616 * H) := by grind
theorem rc1_051 (c e1 g1 e2 m h H : Int) : (27 * c * (3 * (e2 * e2) * m + 18446744073709551616 * H) : Int) = 27 * c * (3 * (e2 * (e2 * m)) + 18446744073709551616 * H) := by grind
theorem rc1_042 (c e1 g1 e2 m h H : Int) : (27 * c * (3 * e2 * (m * m) + 3 * (e2 * e2) * h + 18446744073709551616 * H) : Int) = 27 * c * (3 * (e2 * (m * m)) + 3 * (e2 * (e2 * h)) + 18446744073709551616 * H) := by grind
theorem rc1_033 (c e1 g1 e2 m h H : Int) : (27 * c * (m * m * m + 6 * e2 * (h * m) + 18446744073709551616 * H) : Int) = 27 * c * (m * (m * m) + 6 * (e2 * (m * h)) + 18446744073709551616 * H) := by grind
theorem rc1_024 (c e1 g1 e2 m h H : Int) : (27 * c * (3 * h * (m * m) + 3 * (h * h) * e2 + 18446744073709551616 * H) : Int) = 27 * c * (3 * (m * (m * h)) + 3 * (e2 * (h * h)) + 18446744073709551616 * H) := by grind
theorem rc1_015 (c e1 g1 e2 m h H : Int) : (27 * c * (3 * (h * h) * m + 18446744073709551616 * H) : Int) = 27 * c * (3 * (m * (h * h)) + 18446744073709551616 * H) := by grind
theorem rc1_006 (c e1 g1 e2 m h H : Int) : (27 * c * (h * h * h + 18446744073709551616 * H) : Int) = 27 * c * (h * (h * h) + 18446744073709551616 * H) := by grind
theorem rc0_213 (c e1 g1 m h H : Int) : (27 * c * (3 * (g1 * (g1 * m)) + 6 * (e1 * (g1 * h)) + 18446744073709551616 * H) : Int) = 27 * c * (3 * (g1 * (g1 * m)) + 6 * (e1 * (g1 * h)) + 18446744073709551616 * H) := by grind
theorem rf0_213 (a0 a1 j1 j2 ia ib b2 b1 b0 : Int) : (24 * (a0 * (a1 * ib)) + 12 * (a1 * (a1 * ia)) - 2 * (j1 * j2) : Int) = 24 * (a0 * (a1 * ib)) + 12 * (a1 * (a1 * ia)) - 2 * (j1 * j2) := by grind
theorem rc0_204 (c e1 g1 m h H : Int) : (27 * c * (3 * (g1 * (g1 * h)) + 18446744073709551616 * H) : Int) = 27 * c * (3 * (g1 * (g1 * h)) + 18446744073709551616 * H) := by grind
theorem rf0_204 (a0 a1 j1 j2 ia ib b2 b1 b0 : Int) : (12 * (a1 * (a1 * ib)) - j2 * j2 : Int) = 12 * (a1 * (a1 * ib)) - j2 * j2 := by grind
theorem rc0_132 (c e1 g1 m h H : Int) : (27 * c * (3 * (e1 * (m * m)) + (6 * (e1 * (0 * h)) + 6 * (g1 * (0 * m))) + 18446744073709551616 * H) : Int) = 27 * c * (3 * (e1 * (m * m)) + 18446744073709551616 * H) := by grind
theorem rf0_132 (a0 a1 j1 j2 ia ib b2 b1 b0 : Int) : (24 * (a0 * (0 * ib)) + 12 * (a0 * (ia * ia)) + 24 * (a1 * (0 * ia)) - 2 * (0 * b1) - 2 * (j2 * 0) - 2 * (j1 * b2) : Int) = 12 * (a0 * (ia * ia)) - 2 * (j1 * b2) := by grind
theorem rc0_123 (c e1 g1 m h H : Int) : (27 * c * (3 * (g1 * (m * m)) + (6 * (g1 * (0 * h)) + 6 * (e1 * (m * h))) + 18446744073709551616 * H) : Int) = 27 * c * (3 * (g1 * (m * m)) + 6 * (e1 * (m * h)) + 18446744073709551616 * H) := by grind
theorem rf0_123 (a0 a1 j1 j2 ia ib b2 b1 b0 : Int) : (24 * (a0 * (ia * ib)) + 24 * (a1 * (0 * ib)) + 12 * (a1 * (ia * ia)) - 2 * (0 * b0) - 2 * (j2 * b2) - 2 * (j1 * b1) : Int) = 24 * (a0 * (ia * ib)) + 12 * (a1 * (ia * ia)) - 2 * (j2 * b2) - 2 * (j1 * b1) := by grind
theorem rc0_114 (c e1 g1 m h H : Int) : (27 * c * (6 * (g1 * (m * h)) + 3 * (e1 * (h * h)) + 18446744073709551616 * H) : Int) = 27 * c * (6 * (g1 * (m * h)) + 3 * (e1 * (h * h)) + 18446744073709551616 * H) := by grind
theorem rf0_114 (a0 a1 j1 j2 ia ib b2 b1 b0 : Int) : (12 * (a0 * (ib * ib)) + 24 * (a1 * (ia * ib)) - 2 * (j2 * b1) - 2 * (j1 * b0) : Int) = 12 * (a0 * (ib * ib)) + 24 * (a1 * (ia * ib)) - 2 * (j2 * b1) - 2 * (j1 * b0) := by grind
theorem rc0_105 (c e1 g1 m h H : Int) : (27 * c * (3 * (g1 * (h * h)) + 18446744073709551616 * H) : Int) = 27 * c * (3 * (g1 * (h * h)) + 18446744073709551616 * H) := by grind
theorem rf0_105 (a0 a1 j1 j2 ia ib b2 b1 b0 : Int) : (12 * (a1 * (ib * ib)) - 2 * (j2 * b0) : Int) = 12 * (a1 * (ib * ib)) - 2 * (j2 * b0) := by grind
theorem rc0_042 (c e1 g1 m h H : Int) : (27 * c * (3 * (0 * (m * m)) + 3 * (0 * (0 * h)) + 18446744073709551616 * H) : Int) = 27 * c * (0 + 18446744073709551616 * H) := by grind
theorem rf0_042 (a0 a1 j1 j2 ia ib b2 b1 b0 : Int) : (12 * (0 * (0 * ib)) + 12 * (0 * (ia * ia)) - 2 * (0 * b1) - b2 * b2 : Int) = -(b2 * b2) := by grind
theorem rc0_033 (c e1 g1 m h H : Int) : (27 * c * (m * (m * m) + 6 * (0 * (m * h)) + 18446744073709551616 * H) : Int) = 27 * c * (m * (m * m) + 18446744073709551616 * H) := by grind
theorem rf0_033 (a0 a1 j1 j2 ia ib b2 b1 b0 : Int) : (24 * (0 * (ia * ib)) + 4 * (ia * (ia * ia)) - 2 * (0 * b0) - 2 * (b2 * b1) : Int) = 4 * (ia * (ia * ia)) - 2 * (b2 * b1) := by grind
theorem rc0_024 (c e1 g1 m h H : Int) : (27 * c * (3 * (m * (m * h)) + 3 * (0 * (h * h)) + 18446744073709551616 * H) : Int) = 27 * c * (3 * (m * (m * h)) + 18446744073709551616 * H) := by grind
theorem rf0_024 (a0 a1 j1 j2 ia ib b2 b1 b0 : Int) : (12 * (0 * (ib * ib)) + 12 * (ia * (ia * ib)) - 2 * (b2 * b0) - b1 * b1 : Int) = 12 * (ia * (ia * ib)) - 2 * (b2 * b0) - b1 * b1 := by grind
theorem rc0_015 (c e1 g1 m h H : Int) : (27 * c * (3 * (m * (h * h)) + 18446744073709551616 * H) : Int) = 27 * c * (3 * (m * (h * h)) + 18446744073709551616 * H) := by grind
theorem rf0_015 (a0 a1 j1 j2 ia ib b2 b1 b0 : Int) : (12 * (ia * (ib * ib)) - 2 * (b1 * b0) : Int) = 12 * (ia * (ib * ib)) - 2 * (b1 * b0) := by grind
theorem rc0_006 (c e1 g1 m h H : Int) : (27 * c * (h * (h * h) + 18446744073709551616 * H) : Int) = 27 * c * (h * (h * h) + 18446744073709551616 * H) := by grind
theorem rf0_006 (a0 a1 j1 j2 ia ib b2 b1 b0 : Int) : (4 * (ib * (ib * ib)) - b0 * b0 : Int) = 4 * (ib * (ib * ib)) - b0 * b0 := by grind
theorem rf_213 (a0 a1 j0 j1 j2 i2 ia ib b3 b2 b1 b0 : Int) (hi : i2 = 0) (hj : j0 = 0) (hb : b3 = 0) : (24 * (a0 * (a1 * ib)) + 12 * (a1 * (a1 * ia)) - 2 * (j1 * j2) : Int) = 24 * (a0 * (a1 * ib)) + 12 * (a1 * (a1 * ia)) - 2 * (j1 * j2) := by
  exact rf0_213 a0 a1 j1 j2 ia ib b2 b1 b0
theorem rf_204 (a0 a1 j0 j1 j2 i2 ia ib b3 b2 b1 b0 : Int) (hi : i2 = 0) (hj : j0 = 0) (hb : b3 = 0) : (12 * (a1 * (a1 * ib)) - j2 * j2 : Int) = 12 * (a1 * (a1 * ib)) - j2 * j2 := by
  exact rf0_204 a0 a1 j1 j2 ia ib b2 b1 b0
theorem rf_132 (a0 a1 j0 j1 j2 i2 ia ib b3 b2 b1 b0 : Int) (hi : i2 = 0) (hj : j0 = 0) (hb : b3 = 0) : (24 * (a0 * (i2 * ib)) + 12 * (a0 * (ia * ia)) + 24 * (a1 * (i2 * ia)) - 2 * (j0 * b1) - 2 * (j2 * b3) - 2 * (j1 * b2) : Int) = 12 * (a0 * (ia * ia)) - 2 * (j1 * b2) := by
  subst hi hj hb
  exact rf0_132 a0 a1 j1 j2 ia ib b2 b1 b0
theorem rf_123 (a0 a1 j0 j1 j2 i2 ia ib b3 b2 b1 b0 : Int) (hi : i2 = 0) (hj : j0 = 0) (hb : b3 = 0) : (24 * (a0 * (ia * ib)) + 24 * (a1 * (i2 * ib)) + 12 * (a1 * (ia * ia)) - 2 * (j0 * b0) - 2 * (j2 * b2) - 2 * (j1 * b1) : Int) = 24 * (a0 * (ia * ib)) + 12 * (a1 * (ia * ia)) - 2 * (j2 * b2) - 2 * (j1 * b1) := by
  subst hi hj hb
  exact rf0_123 a0 a1 j1 j2 ia ib b2 b1 b0
theorem rf_114 (a0 a1 j0 j1 j2 i2 ia ib b3 b2 b1 b0 : Int) (hi : i2 = 0) (hj : j0 = 0) (hb : b3 = 0) : (12 * (a0 * (ib * ib)) + 24 * (a1 * (ia * ib)) - 2 * (j2 * b1) - 2 * (j1 * b0) : Int) = 12 * (a0 * (ib * ib)) + 24 * (a1 * (ia * ib)) - 2 * (j2 * b1) - 2 * (j1 * b0) := by
  exact rf0_114 a0 a1 j1 j2 ia ib b2 b1 b0
theorem rf_105 (a0 a1 j0 j1 j2 i2 ia ib b3 b2 b1 b0 : Int) (hi : i2 = 0) (hj : j0 = 0) (hb : b3 = 0) : (12 * (a1 * (ib * ib)) - 2 * (j2 * b0) : Int) = 12 * (a1 * (ib * ib)) - 2 * (j2 * b0) := by
  exact rf0_105 a0 a1 j1 j2 ia ib b2 b1 b0
theorem rf_042 (a0 a1 j0 j1 j2 i2 ia ib b3 b2 b1 b0 : Int) (hi : i2 = 0) (hj : j0 = 0) (hb : b3 = 0) : (12 * (i2 * (i2 * ib)) + 12 * (i2 * (ia * ia)) - 2 * (b3 * b1) - b2 * b2 : Int) = -(b2 * b2) := by
  subst hi hj hb
  exact rf0_042 a0 a1 j1 j2 ia ib b2 b1 b0
theorem rf_033 (a0 a1 j0 j1 j2 i2 ia ib b3 b2 b1 b0 : Int) (hi : i2 = 0) (hj : j0 = 0) (hb : b3 = 0) : (24 * (i2 * (ia * ib)) + 4 * (ia * (ia * ia)) - 2 * (b3 * b0) - 2 * (b2 * b1) : Int) = 4 * (ia * (ia * ia)) - 2 * (b2 * b1) := by
  subst hi hj hb
  exact rf0_033 a0 a1 j1 j2 ia ib b2 b1 b0
theorem rf_024 (a0 a1 j0 j1 j2 i2 ia ib b3 b2 b1 b0 : Int) (hi : i2 = 0) (hj : j0 = 0) (hb : b3 = 0) : (12 * (i2 * (ib * ib)) + 12 * (ia * (ia * ib)) - 2 * (b2 * b0) - b1 * b1 : Int) = 12 * (ia * (ia * ib)) - 2 * (b2 * b0) - b1 * b1 := by
  subst hi hj hb
  exact rf0_024 a0 a1 j1 j2 ia ib b2 b1 b0
theorem rf_015 (a0 a1 j0 j1 j2 i2 ia ib b3 b2 b1 b0 : Int) (hi : i2 = 0) (hj : j0 = 0) (hb : b3 = 0) : (12 * (ia * (ib * ib)) - 2 * (b1 * b0) : Int) = 12 * (ia * (ib * ib)) - 2 * (b1 * b0) := by
  exact rf0_015 a0 a1 j1 j2 ia ib b2 b1 b0
theorem rf_006 (a0 a1 j0 j1 j2 i2 ia ib b3 b2 b1 b0 : Int) (hi : i2 = 0) (hj : j0 = 0) (hb : b3 = 0) : (4 * (ib * (ib * ib)) - b0 * b0 : Int) = 4 * (ib * (ib * ib)) - b0 * b0 := by
  exact rf0_006 a0 a1 j1 j2 ia ib b2 b1 b0
theorem rc_q1 (c e1 e2 : Int) : 27 * c * (3 * (e1 * e1) * e2) * (27 * c * (3 * (e1 * e1) * e2)) = 3 * (27 * c * (e1 * (e1 * e1)) * (27 * c * (3 * (e1 * (e2 * e2))))) := by grind
theorem rc_q2 (c e1 e2 : Int) : 27 * c * (3 * (e1 * e1) * e2) * (27 * c * (3 * (e1 * (e2 * e2)))) = 9 * (27 * c * (e1 * (e1 * e1)) * (27 * c * (e2 * (e2 * e2)))) := by grind
theorem cuxy (c e1 e2 T240 T150 T060 H240 H150 H060 : Int) (hc : c ≠ 0) (he : e1 ≠ 0) (t240 : T240 = 27 * c * (3 * (e1 * e1) * e2 + 18446744073709551616 * H240)) (t150 : T150 = 27 * c * (3 * (e1 * (e2 * e2)) + 18446744073709551616 * H150)) (t060 : T060 = 27 * c * (e2 * (e2 * e2) + 18446744073709551616 * H060)) (L240 : T240.natAbs ≤ 15 * 4135715297) (L150 : T150.natAbs ≤ 6 * 4135715297) (L060 : T060.natAbs ≤ 1 * 4135715297) (d240 : (3 * (e1 * e1) * e2).natAbs ≤ 9223372036854775808) : H240 = 0 ∧ H150 = 0 ∧ H060 = 0 := by
  have he1 : 1 ≤ e1.natAbs := Int.natAbs_pos.mpr he
  obtain ⟨w240, q240⟩ := dig3 _ _ 0 H240 _ 0 (by rw [Int.add_zero]) (fb1 c _ _ 15 hc t240 L240) (by decide) d240 (by decide)
  have y1 : (e1 * e1 * e2).natAbs ≤ 765873205 := by
    have : 3 * (e1 * e1) * e2 = 3 * (e1 * e1 * e2) := by rw [Int.mul_assoc]
    rw [this, Int.natAbs_mul] at q240
    have t3 : (3 : Int).natAbs = 3 := rfl
    rw [t3] at q240
    omega
  have y2 : (3 * (e1 * (e2 * e2))).natAbs ≤ 3 * (765873205 * 765873205) := by
    refine nmul_le k3 ?_
    have z1 : (e1 * (e2 * e2)).natAbs ≤ (e1 * e1 * e2).natAbs * (e1 * e1 * e2).natAbs := by
      rw [Int.natAbs_mul, Int.natAbs_mul, Int.natAbs_mul (e1 * e1), Int.natAbs_mul]
      generalize e1.natAbs = p at *
      generalize e2.natAbs = q at *
      have : p * p * q * (p * p * q) = p * (q * q) * (p * (p * p)) := by grind
      rw [this]
      exact Nat.le_mul_of_pos_right _ (Nat.mul_pos he1 (Nat.mul_pos he1 he1))
    exact Nat.le_trans z1 (Nat.mul_le_mul y1 y1)
  have w150 : H150 = 0 := num_true _ _ H150 _ _ rfl (fb1 c _ _ 6 hc t150 L150) y2 (by decide)
  subst w150
  rw [Int.mul_zero, Int.add_zero] at t150
  have y3 : e2.natAbs ≤ 17503 := by
    have f := fb1 c _ _ 6 hc t150 L150
    refine sq_P e2 306349282 17503 ?_ (by decide)
    rw [Int.natAbs_mul, Int.natAbs_mul] at f
    have t3 : (3 : Int).natAbs = 3 := rfl
    rw [t3] at f
    have := Nat.le_mul_of_pos_left (e2 * e2).natAbs he1
    omega
  exact ⟨w240, rfl, num_true _ _ H060 _ _ rfl (fb1 c _ _ 1 hc t060 L060) (nmul_le y3 (nmul_le y3 y3)) (by decide)⟩
theorem cu6b (X Y W : Nat → Int) (hX : bx7 X) (hY : bx7 Y) (hW : bx7 W) (c e1 g1 e2 m h H600 H510 H501 H420 H411 H402 H330 H321 H312 H303 H240 H231 H222 H213 H204 H150 H141 H132 H123 H114 H105 H060 H051 H042 H033 H024 H015 H006 : Int) (hc : c ≠ 0) (he : e1 ≠ 0) (x600 : tT600 X Y W = 0) (x510 : tT510 X Y W = 0) (x420 : tT420 X Y W = 0) (z330 : H330 = 0) (t600 : tT600 X Y W = 27 * c * (0 * 0 * 0 + 18446744073709551616 * H600)) (t510 : tT510 X Y W = 27 * c * (3 * (0 * 0) * e1 + 18446744073709551616 * H510)) (t501 : tT501 X Y W = 27 * c * (3 * (0 * 0) * g1 + 18446744073709551616 * H501)) (t420 : tT420 X Y W = 27 * c * (3 * (0 * 0) * e2 + 3 * 0 * (e1 * e1) + 18446744073709551616 * H420)) (t411 : tT411 X Y W = 27 * c * (3 * (0 * 0) * m + 6 * 0 * (e1 * g1) + 18446744073709551616 * H411)) (t402 : tT402 X Y W = 27 * c * (3 * (0 * 0) * h + 3 * 0 * (g1 * g1) + 18446744073709551616 * H402)) (t330 : tT330 X Y W = 27 * c * (6 * 0 * (e1 * e2) + e1 * e1 * e1 + 18446744073709551616 * H330)) (t321 : tT321 X Y W = 27 * c * (6 * (0 * m) * e1 + (3 * (e1 * e1) * g1 + 6 * 0 * (e2 * g1)) + 18446744073709551616 * H321)) (t312 : tT312 X Y W = 27 * c * (6 * (0 * m) * g1 + (3 * (g1 * g1) * e1 + 6 * 0 * (h * e1)) + 18446744073709551616 * H312)) (t303 : tT303 X Y W = 27 * c * (6 * 0 * (g1 * h) + g1 * g1 * g1 + 18446744073709551616 * H303)) (t240 : tT240 X Y W = 27 * c * (3 * 0 * (e2 * e2) + 3 * (e1 * e1) * e2 + 18446744073709551616 * H240)) (t231 : tT231 X Y W = 27 * c * (6 * (0 * m) * e2 + (3 * (e1 * e1) * m + 6 * e1 * (e2 * g1)) + 18446744073709551616 * H231)) (t222 : tT222 X Y W = 27 * c * (3 * (0 * m) * m + (6 * 0 * (e2 * h) + (6 * e1 * (g1 * m) + (3 * (e1 * e1) * h + 3 * (g1 * g1) * e2))) + 18446744073709551616 * H222)) (t213 : tT213 X Y W = 27 * c * (6 * (0 * m) * h + (3 * (g1 * g1) * m + 6 * g1 * (h * e1)) + 18446744073709551616 * H213)) (t204 : tT204 X Y W = 27 * c * (3 * 0 * (h * h) + 3 * (g1 * g1) * h + 18446744073709551616 * H204)) (t150 : tT150 X Y W = 27 * c * (3 * e1 * (e2 * e2) + 18446744073709551616 * H150)) (t141 : tT141 X Y W = 27 * c * (6 * e1 * (e2 * m) + 3 * (e2 * e2) * g1 + 18446744073709551616 * H141)) (t132 : tT132 X Y W = 27 * c * (3 * e1 * (m * m) + (6 * e1 * (e2 * h) + 6 * g1 * (e2 * m)) + 18446744073709551616 * H132)) (t123 : tT123 X Y W = 27 * c * (3 * g1 * (m * m) + (6 * g1 * (h * e2) + 6 * e1 * (h * m)) + 18446744073709551616 * H123)) (t114 : tT114 X Y W = 27 * c * (6 * g1 * (h * m) + 3 * (h * h) * e1 + 18446744073709551616 * H114)) (t105 : tT105 X Y W = 27 * c * (3 * g1 * (h * h) + 18446744073709551616 * H105)) (t060 : tT060 X Y W = 27 * c * (e2 * e2 * e2 + 18446744073709551616 * H060)) (t051 : tT051 X Y W = 27 * c * (3 * (e2 * e2) * m + 18446744073709551616 * H051)) (t042 : tT042 X Y W = 27 * c * (3 * e2 * (m * m) + 3 * (e2 * e2) * h + 18446744073709551616 * H042)) (t033 : tT033 X Y W = 27 * c * (m * m * m + 6 * e2 * (h * m) + 18446744073709551616 * H033)) (t024 : tT024 X Y W = 27 * c * (3 * h * (m * m) + 3 * (h * h) * e2 + 18446744073709551616 * H024)) (t015 : tT015 X Y W = 27 * c * (3 * (h * h) * m + 18446744073709551616 * H015)) (t006 : tT006 X Y W = 27 * c * (h * h * h + 18446744073709551616 * H006)) (de2 : (3 * (e1 * e1) * e2).natAbs ≤ 9223372036854775808) (dg1 : (3 * (e1 * e1) * g1).natAbs ≤ 9223372036854775808) (dm : (3 * (e1 * e1) * m).natAbs ≤ 9223372036854775808) (dh : (3 * (e1 * e1) * h).natAbs ≤ 9223372036854775808) : H600 = 0 ∧ H510 = 0 ∧ H501 = 0 ∧ H420 = 0 ∧ H411 = 0 ∧ H402 = 0 ∧ H330 = 0 ∧ H321 = 0 ∧ H312 = 0 ∧ H303 = 0 ∧ H240 = 0 ∧ H231 = 0 ∧ H222 = 0 ∧ H213 = 0 ∧ H204 = 0 ∧ H150 = 0 ∧ H141 = 0 ∧ H132 = 0 ∧ H123 = 0 ∧ H114 = 0 ∧ H105 = 0 ∧ H060 = 0 ∧ H051 = 0 ∧ H042 = 0 ∧ H033 = 0 ∧ H024 = 0 ∧ H015 = 0 ∧ H006 = 0 := by
  subst z330
  have nz : ∀ (T s : Int) (H : Int) (n : Nat), T = 27 * c * (s + 18446744073709551616 * H) → s = 0 → T.natAbs ≤ n * 4135715297 → n * 153174641 < 18446744073709551616 → H = 0 ∧ T = 0 := by
    intro T s H n h hs b hn
    have z : H = 0 := num_true _ _ H _ 0 rfl (fb1 c _ _ n hc h b) (by rw [hs]; exact Nat.le_refl _) (by rw [Nat.add_zero]; exact hn)
    refine ⟨z, ?_⟩
    rw [h, z, hs, Int.mul_zero, Int.add_zero, Int.mul_zero]
  obtain ⟨z600, y600⟩ := nz _ _ _ 1 t600 (by simp only [Int.mul_zero, Int.zero_mul, Int.add_zero]) (tT600_le X Y W hX hY hW) (by decide)
  obtain ⟨z510, y510⟩ := nz _ _ _ 6 t510 (by simp only [Int.mul_zero, Int.zero_mul, Int.add_zero]) (tT510_le X Y W hX hY hW) (by decide)
  obtain ⟨z501, y501⟩ := nz _ _ _ 6 t501 (by simp only [Int.mul_zero, Int.zero_mul, Int.add_zero]) (tT501_le X Y W hX hY hW) (by decide)
  obtain ⟨z420, y420⟩ := nz _ _ _ 15 t420 (by simp only [Int.mul_zero, Int.zero_mul, Int.add_zero]) (tT420_le X Y W hX hY hW) (by decide)
  obtain ⟨z411, y411⟩ := nz _ _ _ 30 t411 (by simp only [Int.mul_zero, Int.zero_mul, Int.add_zero]) (tT411_le X Y W hX hY hW) (by decide)
  obtain ⟨z402, y402⟩ := nz _ _ _ 15 t402 (by simp only [Int.mul_zero, Int.zero_mul, Int.add_zero]) (tT402_le X Y W hX hY hW) (by decide)
  have u330 := t330.trans (rc1_330 c e1 g1 e2 m h 0)
  have u321 := t321.trans (rc1_321 c e1 g1 e2 m h H321)
  have u312 := t312.trans (rc1_312 c e1 g1 e2 m h H312)
  have u303 := t303.trans (rc1_303 c e1 g1 e2 m h H303)
  have u240 := t240.trans (rc1_240 c e1 g1 e2 m h H240)
  have u231 := t231.trans (rc1_231 c e1 g1 e2 m h H231)
  have u222 := t222.trans (rc1_222 c e1 g1 e2 m h H222)
  have u213 := t213.trans (rc1_213 c e1 g1 e2 m h H213)
  have u204 := t204.trans (rc1_204 c e1 g1 e2 m h H204)
  have u150 := t150.trans (rc1_150 c e1 g1 e2 m h H150)
  have u141 := t141.trans (rc1_141 c e1 g1 e2 m h H141)
  have u132 := t132.trans (rc1_132 c e1 g1 e2 m h H132)
  have u123 := t123.trans (rc1_123 c e1 g1 e2 m h H123)
  have u114 := t114.trans (rc1_114 c e1 g1 e2 m h H114)
  have u105 := t105.trans (rc1_105 c e1 g1 e2 m h H105)
  have u060 := t060.trans (rc1_060 c e1 g1 e2 m h H060)
  have u051 := t051.trans (rc1_051 c e1 g1 e2 m h H051)
  have u042 := t042.trans (rc1_042 c e1 g1 e2 m h H042)
  have u033 := t033.trans (rc1_033 c e1 g1 e2 m h H033)
  have u024 := t024.trans (rc1_024 c e1 g1 e2 m h H024)
  have u015 := t015.trans (rc1_015 c e1 g1 e2 m h H015)
  have u006 := t006.trans (rc1_006 c e1 g1 e2 m h H006)
  by_cases hI : qI X = 0
  · have sqz : ∀ x : Int, x * x = 0 → x = 0 := by
      intro x hx
      rcases Int.mul_eq_zero.mp hx with r | r
      · exact r
      · exact r
    have hJ : qJ X = 0 := by
      unfold tT600 qT600 at x600
      rw [hI] at x600
      exact sqz _ (by omega)
    have hj : qJ1 X Y = 0 := by
      unfold tT420 qT420 at x420
      rw [hI, hJ] at x420
      exact sqz _ (by omega)
    have hj2 : qJ1 X W = 0 := by
      have q := y402
      unfold tT402 qT402 at q
      rw [hI, hJ] at q
      exact sqz _ (by omega)
    obtain ⟨w321, w312, w303, w240, w150, w060, w231, w141, w051, w222, ha, ha3, hK, pg, pe, pm, j00, b30, hea, ph⟩ := cuB1 c e1 g1 e2 m h (qI1 X Y) (qI1 X W) (qJ1 Y X) (qJ3 X Y W) (qJ1 W X) (qI Y) (qI1 Y W) (qI W) (qJ Y) (qJ1 Y W) (qJ1 W Y) (qJ W) _ _ _ _ _ _ _ _ _ _ _ H321 H312 H303 H240 H150 H060 H231 H141 H051 H222 hc he u330 u321 u312 u303 u240 u150 u060 u231 u141 u051 u222 (tc330 X Y W hI hJ hj hj2) (tc321 X Y W hI hJ hj hj2) (tc312 X Y W hI hJ hj hj2) (tc303 X Y W hI hJ hj hj2) (tc240 X Y W hI hJ hj hj2) (tc150 X Y W hI hJ hj hj2) (tc060 X Y W hI hJ hj hj2) (tc231 X Y W hI hJ hj hj2) (tc141 X Y W hI hJ hj hj2) (tc051 X Y W hI hJ hj hj2) (tc222 X Y W hI hJ hj hj2) (tT330_le X Y W hX hY hW) (tT321_le X Y W hX hY hW) (tT312_le X Y W hX hY hW) (tT303_le X Y W hX hY hW) (tT240_le X Y W hX hY hW) (tT150_le X Y W hX hY hW) (tT060_le X Y W hX hY hW) (tT231_le X Y W hX hY hW) (tT141_le X Y W hX hY hW) (tT051_le X Y W hX hY hW) (tT222_le X Y W hX hY hW) (bI1 X Y hX hY) (bI1 X W hX hW) (bI Y hY) (bI1 Y W hY hW) (bI W hW) (bJ3 X Y W hX hY hW) dg1 de2 dm dh
    by_cases q : e2 = 0
    · have i20 : qI Y = 0 := by
        rw [q, Int.mul_zero] at pe
        exact (Int.mul_eq_zero.mp pe.symm).resolve_right he
      subst q
      obtain ⟨w213, w204, w132, w123, w114, w105, w042, w033, w024, w015, w006⟩ := cuB2 c e1 g1 m h (qI1 X Y) (qI1 X W) (qJ3 X Y W) (qJ1 W X) (qI1 Y W) (qI W) (qJ1 Y W) (qJ1 W Y) (qJ W) _ _ _ _ _ _ _ _ _ _ _ H213 H204 H132 H123 H114 H105 H042 H033 H024 H015 H006 hc ha ha3 hK pg pm ph (u213.trans (rc0_213 c e1 g1 m h H213)) (u204.trans (rc0_204 c e1 g1 m h H204)) (u132.trans (rc0_132 c e1 g1 m h H132)) (u123.trans (rc0_123 c e1 g1 m h H123)) (u114.trans (rc0_114 c e1 g1 m h H114)) (u105.trans (rc0_105 c e1 g1 m h H105)) (u042.trans (rc0_042 c e1 g1 m h H042)) (u033.trans (rc0_033 c e1 g1 m h H033)) (u024.trans (rc0_024 c e1 g1 m h H024)) (u015.trans (rc0_015 c e1 g1 m h H015)) (u006.trans (rc0_006 c e1 g1 m h H006)) ((tc213 X Y W hI hJ hj hj2).trans (rf_213 (qI1 X Y) (qI1 X W) (qJ1 Y X) (qJ3 X Y W) (qJ1 W X) (qI Y) (qI1 Y W) (qI W) (qJ Y) (qJ1 Y W) (qJ1 W Y) (qJ W) i20 j00 b30)) ((tc204 X Y W hI hJ hj hj2).trans (rf_204 (qI1 X Y) (qI1 X W) (qJ1 Y X) (qJ3 X Y W) (qJ1 W X) (qI Y) (qI1 Y W) (qI W) (qJ Y) (qJ1 Y W) (qJ1 W Y) (qJ W) i20 j00 b30)) ((tc132 X Y W hI hJ hj hj2).trans (rf_132 (qI1 X Y) (qI1 X W) (qJ1 Y X) (qJ3 X Y W) (qJ1 W X) (qI Y) (qI1 Y W) (qI W) (qJ Y) (qJ1 Y W) (qJ1 W Y) (qJ W) i20 j00 b30)) ((tc123 X Y W hI hJ hj hj2).trans (rf_123 (qI1 X Y) (qI1 X W) (qJ1 Y X) (qJ3 X Y W) (qJ1 W X) (qI Y) (qI1 Y W) (qI W) (qJ Y) (qJ1 Y W) (qJ1 W Y) (qJ W) i20 j00 b30)) ((tc114 X Y W hI hJ hj hj2).trans (rf_114 (qI1 X Y) (qI1 X W) (qJ1 Y X) (qJ3 X Y W) (qJ1 W X) (qI Y) (qI1 Y W) (qI W) (qJ Y) (qJ1 Y W) (qJ1 W Y) (qJ W) i20 j00 b30)) ((tc105 X Y W hI hJ hj hj2).trans (rf_105 (qI1 X Y) (qI1 X W) (qJ1 Y X) (qJ3 X Y W) (qJ1 W X) (qI Y) (qI1 Y W) (qI W) (qJ Y) (qJ1 Y W) (qJ1 W Y) (qJ W) i20 j00 b30)) ((tc042 X Y W hI hJ hj hj2).trans (rf_042 (qI1 X Y) (qI1 X W) (qJ1 Y X) (qJ3 X Y W) (qJ1 W X) (qI Y) (qI1 Y W) (qI W) (qJ Y) (qJ1 Y W) (qJ1 W Y) (qJ W) i20 j00 b30)) ((tc033 X Y W hI hJ hj hj2).trans (rf_033 (qI1 X Y) (qI1 X W) (qJ1 Y X) (qJ3 X Y W) (qJ1 W X) (qI Y) (qI1 Y W) (qI W) (qJ Y) (qJ1 Y W) (qJ1 W Y) (qJ W) i20 j00 b30)) ((tc024 X Y W hI hJ hj hj2).trans (rf_024 (qI1 X Y) (qI1 X W) (qJ1 Y X) (qJ3 X Y W) (qJ1 W X) (qI Y) (qI1 Y W) (qI W) (qJ Y) (qJ1 Y W) (qJ1 W Y) (qJ W) i20 j00 b30)) ((tc015 X Y W hI hJ hj hj2).trans (rf_015 (qI1 X Y) (qI1 X W) (qJ1 Y X) (qJ3 X Y W) (qJ1 W X) (qI Y) (qI1 Y W) (qI W) (qJ Y) (qJ1 Y W) (qJ1 W Y) (qJ W) i20 j00 b30)) ((tc006 X Y W hI hJ hj hj2).trans (rf_006 (qI1 X Y) (qI1 X W) (qJ1 Y X) (qJ3 X Y W) (qJ1 W X) (qI Y) (qI1 Y W) (qI W) (qJ Y) (qJ1 Y W) (qJ1 W Y) (qJ W) i20 j00 b30)) (bI1 X Y hX hY) (bI1 X W hX hW) (bI1 Y W hY hW) (bI W hW) (bJ3 X Y W hX hY hW) (bJ1 W X hW hX) (bJ1 Y W hY hW) (bJ1 W Y hW hY) (bJ W hW)
      exact ⟨z600, z510, z501, z420, z411, z402, rfl, w321, w312, w303, w240, w231, w222, w213, w204, w150, w141, w132, w123, w114, w105, w060, w051, w042, w033, w024, w015, w006⟩
    · have sg := d_small _ g1 _ e1 _ ha pg hea (bI1 X W hX hW)
      have se := d_small _ e2 _ e1 _ ha pe hea (bI Y hY)
      have sm := d_small _ m _ e1 _ ha pm hea (bI1 Y W hY hW)
      have s1 : e1.natAbs ≤ 1568 := Nat.le_trans hea (bI1 X Y hX hY)
      have sh : h.natAbs ≤ 110000000000 := by
        have b : (12 * (qI1 X Y * (qI1 X Y * qI W)) - qJ3 X Y W * qJ3 X Y W).natAbs ≤ 12 * (1568 * (1568 * 784)) + 281946 * 281946 := ns_le (nmul_le k12 (nmul_le (bI1 X Y hX hY) (nmul_le (bI1 X Y hX hY) (bI W hW)))) (nmul_le (bJ3 X Y W hX hY hW) (bJ3 X Y W hX hY hW))
        rw [← ph, Int.natAbs_mul, Int.natAbs_mul (3 * (e1 * e1))] at b
        have p1 : 1 ≤ (27 * c).natAbs := Int.natAbs_pos.mpr (Int.mul_ne_zero (by decide) hc)
        have p2 : 1 ≤ (3 * (e1 * e1)).natAbs := Int.natAbs_pos.mpr (Int.mul_ne_zero (by decide) (Int.mul_ne_zero he he))
        have b1 := Nat.le_mul_of_pos_left h.natAbs p2
        have b2 := Nat.le_mul_of_pos_left ((3 * (e1 * e1)).natAbs * h.natAbs) p1
        exact Nat.le_trans (Nat.le_trans b1 (Nat.le_trans b2 b)) (by decide)
      exact cu6c X Y W hX hY hW c e1 g1 e2 m h H600 H510 H501 H420 H411 H402 0 H321 H312 H303 H240 H231 H222 H213 H204 H150 H141 H132 H123 H114 H105 H060 H051 H042 H033 H024 H015 H006 hc q w060 t600 t510 t501 t420 t411 t402 t330 t321 t312 t303 t240 t231 t222 t213 t204 t150 t141 t132 t123 t114 t105 t060 t051 t042 t033 t024 t015 t006 (Nat.le_trans (nmul_le (nmul_le k3 (nmul_le se se)) s1) (by decide)) (Nat.le_trans (nmul_le (nmul_le k3 (nmul_le se se)) sm) (by decide)) (Nat.le_trans (nmul_le (nmul_le k3 (nmul_le se se)) sg) (by decide)) (Nat.le_trans (nmul_le (nmul_le k3 (nmul_le se se)) sh) (by decide))
  · exfalso
    obtain ⟨w240, w150, w060⟩ := cuxy c e1 e2 _ _ _ H240 H150 H060 hc he u240 u150 u060 (tT240_le X Y W hX hY hW) (tT150_le X Y W hX hY hW) (tT060_le X Y W hX hY hW) de2
    subst w240 w150 w060
    rw [Int.mul_zero, Int.add_zero] at u240 u150 u060
    have n := c3_no (qI X) (qJ X) (qI1 X Y) (qI Y) (qJ1 X Y) (qJ1 Y X) (qJ Y) (tT330 X Y W) (tT240 X Y W) (tT150 X Y W) (tT060 X Y W) hI (by unfold tT600 qT600 at x600; omega) (by unfold tT510 qT510 at x510; exact x510) (by unfold tT420 qT420 at x420; omega) (by unfold tT330 qT330; omega) (by unfold tT240 qT240; grind) (by unfold tT150 qT150; grind) (by unfold tT060 qT060; omega) (by rw [u240, u330, u150]; exact rc_q1 c e1 e2) (by rw [u240, u150, u330, u060]; exact rc_q2 c e1 e2)
    rw [u330] at n
    exact Int.mul_ne_zero (Int.mul_ne_zero (by decide) hc) (Int.mul_ne_zero he (Int.mul_ne_zero he he)) n
