/-! rows of degree 3 and 2: every root that the search leaves is 0 where the eliminant is -/
theorem ew2_40_40 (g1 m h1 n1 n2 k0 G : Int) : (2 * 0 * h1 + g1 * g1 + 18446744073709551616 * G : Int) = g1 * g1 + 18446744073709551616 * G := by grind
theorem ew2_40_31 (g1 m h1 n1 n2 k0 G : Int) : (2 * 0 * n2 + (2 * g1 * m + 2 * h1 * 0) + 18446744073709551616 * G : Int) = 2 * g1 * m + 18446744073709551616 * G := by grind
theorem ew2_40_30 (g1 m h1 n1 n2 k0 G : Int) : (2 * 0 * k0 + 2 * g1 * h1 + 18446744073709551616 * G : Int) = 2 * g1 * h1 + 18446744073709551616 * G := by grind
theorem ew2_40_22 (g1 m h1 n1 n2 k0 G : Int) : (m * m + (2 * 0 * n2 + (2 * g1 * n1 + 2 * 0 * h1)) + 18446744073709551616 * G : Int) = 2 * g1 * n1 + m * m + 18446744073709551616 * G := by grind
theorem ew2_40_21 (g1 m h1 n1 n2 k0 G : Int) : (2 * g1 * n2 + (2 * h1 * m + 2 * k0 * 0) + 18446744073709551616 * G : Int) = 2 * g1 * n2 + 2 * m * h1 + 18446744073709551616 * G := by grind
theorem ew2_40_20 (g1 m h1 n1 n2 k0 G : Int) : (2 * g1 * k0 + h1 * h1 + 18446744073709551616 * G : Int) = 2 * g1 * k0 + h1 * h1 + 18446744073709551616 * G := by grind
theorem ew2_40_13 (g1 m h1 n1 n2 k0 G : Int) : (2 * 0 * n2 + (2 * m * n1 + 2 * h1 * 0) + 18446744073709551616 * G : Int) = 2 * m * n1 + 18446744073709551616 * G := by grind
theorem ew2_40_12 (g1 m h1 n1 n2 k0 G : Int) : (2 * h1 * n1 + (2 * m * n2 + 2 * 0 * k0) + 18446744073709551616 * G : Int) = 2 * m * n2 + 2 * n1 * h1 + 18446744073709551616 * G := by grind
theorem ew2_40_11 (g1 m h1 n1 n2 k0 G : Int) : (2 * h1 * n2 + 2 * k0 * m + 18446744073709551616 * G : Int) = 2 * m * k0 + 2 * h1 * n2 + 18446744073709551616 * G := by grind
theorem ew2_40_10 (g1 m h1 n1 n2 k0 G : Int) : (2 * h1 * k0 + 18446744073709551616 * G : Int) = 2 * h1 * k0 + 18446744073709551616 * G := by grind
theorem ew2_40_04 (g1 m h1 n1 n2 k0 G : Int) : (n1 * n1 + 2 * 0 * n2 + 18446744073709551616 * G : Int) = n1 * n1 + 18446744073709551616 * G := by grind
theorem ew2_40_03 (g1 m h1 n1 n2 k0 G : Int) : (2 * 0 * k0 + 2 * n1 * n2 + 18446744073709551616 * G : Int) = 2 * n1 * n2 + 18446744073709551616 * G := by grind
theorem ew2_40_02 (g1 m h1 n1 n2 k0 G : Int) : (n2 * n2 + 2 * k0 * n1 + 18446744073709551616 * G : Int) = 2 * n1 * k0 + n2 * n2 + 18446744073709551616 * G := by grind
theorem ew2_40_01 (g1 m h1 n1 n2 k0 G : Int) : (2 * k0 * n2 + 18446744073709551616 * G : Int) = 2 * n2 * k0 + 18446744073709551616 * G := by grind
theorem ew2_40_00 (g1 m h1 n1 n2 k0 G : Int) : (k0 * k0 + 18446744073709551616 * G : Int) = k0 * k0 + 18446744073709551616 * G := by grind
theorem ew2_40 {S : Nat → Nat → Int} {f E : Nat → Int} {c : Int} (hc : c ≠ 0) (bS : ∀ a b, (S a b).natAbs ≤ 5157348) (hS : ∀ a b, a + b ≤ 4 → S a b = c * f (7 * a + b)) (z : zr 2 4 0 f E) : TP 2 f E := by
  obtain ⟨su0, hl, hne, hz, hb, hv, H, pH, hH⟩ := z
  have su1 : SUi E 2 := su0
  have su : SUi E 3 := fun a b ha hb' h => su1 a b ha hb' (by omega)
  obtain ⟨G, hG⟩ := env_G2 su pH hH
  have hl' : ipw (E 14) 2 = f 28 := hl
  rw [lb2] at hl'
  have he : E 14 ≠ 0 := hne
  have z21 : E 21 = 0 := su1 3 0 (by decide) (by decide) (by decide)
  have z15 : E 15 = 0 := su1 2 1 (by decide) (by decide) (by decide)
  have z9 : E 9 = 0 := su1 1 2 (by decide) (by decide) (by decide)
  have z3 : E 3 = 0 := su1 0 3 (by decide) (by decide) (by decide)
  have t40 : S 4 0 = c * (2 * E 21 * E 7 + E 14 * E 14 + 18446744073709551616 * G 4 0) := (hS 4 0 (by decide)).trans (congrArg (fun v => c * v) (hG 4 0 (by decide)))
  have t31 : S 3 1 = c * (2 * E 21 * E 1 + (2 * E 14 * E 8 + 2 * E 7 * E 15) + 18446744073709551616 * G 3 1) := (hS 3 1 (by decide)).trans (congrArg (fun v => c * v) (hG 3 1 (by decide)))
  have t30 : S 3 0 = c * (2 * E 21 * E 0 + 2 * E 14 * E 7 + 18446744073709551616 * G 3 0) := (hS 3 0 (by decide)).trans (congrArg (fun v => c * v) (hG 3 0 (by decide)))
  have t22 : S 2 2 = c * (E 8 * E 8 + (2 * E 15 * E 1 + (2 * E 14 * E 2 + 2 * E 9 * E 7)) + 18446744073709551616 * G 2 2) := (hS 2 2 (by decide)).trans (congrArg (fun v => c * v) (hG 2 2 (by decide)))
  have t21 : S 2 1 = c * (2 * E 14 * E 1 + (2 * E 7 * E 8 + 2 * E 0 * E 15) + 18446744073709551616 * G 2 1) := (hS 2 1 (by decide)).trans (congrArg (fun v => c * v) (hG 2 1 (by decide)))
  have t20 : S 2 0 = c * (2 * E 14 * E 0 + E 7 * E 7 + 18446744073709551616 * G 2 0) := (hS 2 0 (by decide)).trans (congrArg (fun v => c * v) (hG 2 0 (by decide)))
  have t13 : S 1 3 = c * (2 * E 9 * E 1 + (2 * E 8 * E 2 + 2 * E 7 * E 3) + 18446744073709551616 * G 1 3) := (hS 1 3 (by decide)).trans (congrArg (fun v => c * v) (hG 1 3 (by decide)))
  have t12 : S 1 2 = c * (2 * E 7 * E 2 + (2 * E 8 * E 1 + 2 * E 9 * E 0) + 18446744073709551616 * G 1 2) := (hS 1 2 (by decide)).trans (congrArg (fun v => c * v) (hG 1 2 (by decide)))
  have t11 : S 1 1 = c * (2 * E 7 * E 1 + 2 * E 0 * E 8 + 18446744073709551616 * G 1 1) := (hS 1 1 (by decide)).trans (congrArg (fun v => c * v) (hG 1 1 (by decide)))
  have t10 : S 1 0 = c * (2 * E 7 * E 0 + 18446744073709551616 * G 1 0) := (hS 1 0 (by decide)).trans (congrArg (fun v => c * v) (hG 1 0 (by decide)))
  have t04 : S 0 4 = c * (E 2 * E 2 + 2 * E 3 * E 1 + 18446744073709551616 * G 0 4) := (hS 0 4 (by decide)).trans (congrArg (fun v => c * v) (hG 0 4 (by decide)))
  have t03 : S 0 3 = c * (2 * E 3 * E 0 + 2 * E 2 * E 1 + 18446744073709551616 * G 0 3) := (hS 0 3 (by decide)).trans (congrArg (fun v => c * v) (hG 0 3 (by decide)))
  have t02 : S 0 2 = c * (E 1 * E 1 + 2 * E 0 * E 2 + 18446744073709551616 * G 0 2) := (hS 0 2 (by decide)).trans (congrArg (fun v => c * v) (hG 0 2 (by decide)))
  have t01 : S 0 1 = c * (2 * E 0 * E 1 + 18446744073709551616 * G 0 1) := (hS 0 1 (by decide)).trans (congrArg (fun v => c * v) (hG 0 1 (by decide)))
  have t00 : S 0 0 = c * (E 0 * E 0 + 18446744073709551616 * G 0 0) := (hS 0 0 (by decide)).trans (congrArg (fun v => c * v) (hG 0 0 (by decide)))
  have zl : G 4 0 = 0 := by
    have a' : f 28 = 2 * E 21 * E 7 + E 14 * E 14 + 18446744073709551616 * G 4 0 := hG 4 0 (by decide)
    rw [z21] at a'
    try simp only [Int.mul_zero, Int.zero_mul, Int.zero_add, Int.add_zero, Int.mul_assoc] at a'
    try simp only [Int.mul_zero, Int.zero_mul, Int.zero_add, Int.add_zero, Int.mul_assoc] at hl'
    omega
  rw [z21] at t40 t31 t30
  rw [z15] at t31 t22 t21
  rw [z9] at t22 t13 t12
  rw [z3] at t13 t04 t03
  have de1 : (2 * E 14 * E 8).natAbs ≤ 2 ^ 63 := by
    have q := hb 8 (by decide) (by decide)
    rw [db2] at q
    exact Nat.le_trans q (by decide +kernel)
  have de2 : (2 * E 14 * E 2).natAbs ≤ 2 ^ 63 := by
    have q := hb 2 (by decide) (by decide)
    rw [db2] at q
    exact Nat.le_trans q (by decide +kernel)
  have dg : (2 * E 14 * E 7).natAbs ≤ 2 ^ 63 := by
    have q := hb 7 (by decide) (by decide)
    rw [db2] at q
    exact Nat.le_trans q (by decide +kernel)
  have dh : (2 * E 14 * E 1).natAbs ≤ 2 ^ 63 := by
    have q := hb 1 (by decide) (by decide)
    rw [db2] at q
    exact Nat.le_trans q (by decide +kernel)
  have dk : (2 * E 14 * E 0).natAbs ≤ 2 ^ 63 := by
    have q := hb 0 (by decide) (by decide)
    rw [db2] at q
    exact Nat.le_trans q (by decide +kernel)
  obtain ⟨w40, w31, w30, w22, w21, w20, w13, w12, w11, w10, w04, w03, w02, w01, w00⟩ := conA c (E 14) (E 8) (E 2) (E 7) (E 1) (E 0) (S 4 0) (S 3 1) (S 3 0) (S 2 2) (S 2 1) (S 2 0) (S 1 3) (S 1 2) (S 1 1) (S 1 0) (S 0 4) (S 0 3) (S 0 2) (S 0 1) (S 0 0) (G 4 0) (G 3 1) (G 3 0) (G 2 2) (G 2 1) (G 2 0) (G 1 3) (G 1 2) (G 1 1) (G 1 0) (G 0 4) (G 0 3) (G 0 2) (G 0 1) (G 0 0) hc he zl (bS 4 0) (bS 3 1) (bS 3 0) (bS 2 2) (bS 2 1) (bS 2 0) (bS 1 3) (bS 1 2) (bS 1 1) (bS 1 0) (bS 0 4) (bS 0 3) (bS 0 2) (bS 0 1) (bS 0 0) (t40.trans (congrArg (fun v => c * v) (ew2_40_40 (E 14) (E 8) (E 7) (E 2) (E 1) (E 0) (G 4 0)))) (t31.trans (congrArg (fun v => c * v) (ew2_40_31 (E 14) (E 8) (E 7) (E 2) (E 1) (E 0) (G 3 1)))) (t30.trans (congrArg (fun v => c * v) (ew2_40_30 (E 14) (E 8) (E 7) (E 2) (E 1) (E 0) (G 3 0)))) (t22.trans (congrArg (fun v => c * v) (ew2_40_22 (E 14) (E 8) (E 7) (E 2) (E 1) (E 0) (G 2 2)))) (t21.trans (congrArg (fun v => c * v) (ew2_40_21 (E 14) (E 8) (E 7) (E 2) (E 1) (E 0) (G 2 1)))) (t20.trans (congrArg (fun v => c * v) (ew2_40_20 (E 14) (E 8) (E 7) (E 2) (E 1) (E 0) (G 2 0)))) (t13.trans (congrArg (fun v => c * v) (ew2_40_13 (E 14) (E 8) (E 7) (E 2) (E 1) (E 0) (G 1 3)))) (t12.trans (congrArg (fun v => c * v) (ew2_40_12 (E 14) (E 8) (E 7) (E 2) (E 1) (E 0) (G 1 2)))) (t11.trans (congrArg (fun v => c * v) (ew2_40_11 (E 14) (E 8) (E 7) (E 2) (E 1) (E 0) (G 1 1)))) (t10.trans (congrArg (fun v => c * v) (ew2_40_10 (E 14) (E 8) (E 7) (E 2) (E 1) (E 0) (G 1 0)))) (t04.trans (congrArg (fun v => c * v) (ew2_40_04 (E 14) (E 8) (E 7) (E 2) (E 1) (E 0) (G 0 4)))) (t03.trans (congrArg (fun v => c * v) (ew2_40_03 (E 14) (E 8) (E 7) (E 2) (E 1) (E 0) (G 0 3)))) (t02.trans (congrArg (fun v => c * v) (ew2_40_02 (E 14) (E 8) (E 7) (E 2) (E 1) (E 0) (G 0 2)))) (t01.trans (congrArg (fun v => c * v) (ew2_40_01 (E 14) (E 8) (E 7) (E 2) (E 1) (E 0) (G 0 1)))) (t00.trans (congrArg (fun v => c * v) (ew2_40_00 (E 14) (E 8) (E 7) (E 2) (E 1) (E 0) (G 0 0)))) de1 de2 dg dh dk
  refine env_end2 su (fun a b hab => ?_)
  by_cases hd : a + b ≤ 4
  · have g0 : G a b = 0 := by
      have ha : a = 0 ∨ a = 1 ∨ a = 2 ∨ a = 3 ∨ a = 4 := by omega
      have hb : b = 0 ∨ b = 1 ∨ b = 2 ∨ b = 3 ∨ b = 4 := by omega
      clear hH hG hS hv hz
      rcases ha with ha | ha | ha | ha | ha <;> rcases hb with hb | hb | hb | hb | hb <;> subst ha <;> subst hb <;> first | (exfalso; omega) | assumption
    rw [hG a b hab, g0, Int.mul_zero, Int.add_zero]
  · rw [hv a b hab (Or.inl (by omega))]
    have ha : a = 0 ∨ a = 1 ∨ a = 2 ∨ a = 3 ∨ a = 4 ∨ a = 5 ∨ a = 6 := by omega
    have hb : b = 0 ∨ b = 1 ∨ b = 2 ∨ b = 3 ∨ b = 4 ∨ b = 5 ∨ b = 6 := by omega
    clear hH hG hS hv hz
    rcases ha with ha | ha | ha | ha | ha | ha | ha <;> rcases hb with hb | hb | hb | hb | hb | hb | hb <;> subst ha <;> subst hb <;> first | (exfalso; omega) | rfl | (simp only [s2c, z21, z15, z9, z3, Int.mul_zero, Int.zero_mul, Int.add_zero])
theorem ew2_22_40 (m h1 n1 n2 k0 G : Int) : (2 * 0 * h1 + 0 * 0 + 18446744073709551616 * G : Int) = 0 * 0 + 18446744073709551616 * G := by grind
theorem ew2_22_31 (m h1 n1 n2 k0 G : Int) : (2 * 0 * n2 + (2 * 0 * m + 2 * h1 * 0) + 18446744073709551616 * G : Int) = 2 * 0 * m + 18446744073709551616 * G := by grind
theorem ew2_22_30 (m h1 n1 n2 k0 G : Int) : (2 * 0 * k0 + 2 * 0 * h1 + 18446744073709551616 * G : Int) = 2 * 0 * h1 + 18446744073709551616 * G := by grind
theorem ew2_22_22 (m h1 n1 n2 k0 G : Int) : (m * m + (2 * 0 * n2 + (2 * 0 * n1 + 2 * 0 * h1)) + 18446744073709551616 * G : Int) = 2 * 0 * n1 + m * m + 18446744073709551616 * G := by grind
theorem ew2_22_21 (m h1 n1 n2 k0 G : Int) : (2 * 0 * n2 + (2 * h1 * m + 2 * k0 * 0) + 18446744073709551616 * G : Int) = 2 * 0 * n2 + 2 * m * h1 + 18446744073709551616 * G := by grind
theorem ew2_22_20 (m h1 n1 n2 k0 G : Int) : (2 * 0 * k0 + h1 * h1 + 18446744073709551616 * G : Int) = 2 * 0 * k0 + h1 * h1 + 18446744073709551616 * G := by grind
theorem ew2_22_13 (m h1 n1 n2 k0 G : Int) : (2 * 0 * n2 + (2 * m * n1 + 2 * h1 * 0) + 18446744073709551616 * G : Int) = 2 * m * n1 + 18446744073709551616 * G := by grind
theorem ew2_22_12 (m h1 n1 n2 k0 G : Int) : (2 * h1 * n1 + (2 * m * n2 + 2 * 0 * k0) + 18446744073709551616 * G : Int) = 2 * m * n2 + 2 * n1 * h1 + 18446744073709551616 * G := by grind
theorem ew2_22_11 (m h1 n1 n2 k0 G : Int) : (2 * h1 * n2 + 2 * k0 * m + 18446744073709551616 * G : Int) = 2 * m * k0 + 2 * h1 * n2 + 18446744073709551616 * G := by grind
theorem ew2_22_10 (m h1 n1 n2 k0 G : Int) : (2 * h1 * k0 + 18446744073709551616 * G : Int) = 2 * h1 * k0 + 18446744073709551616 * G := by grind
theorem ew2_22_04 (m h1 n1 n2 k0 G : Int) : (n1 * n1 + 2 * 0 * n2 + 18446744073709551616 * G : Int) = n1 * n1 + 18446744073709551616 * G := by grind
theorem ew2_22_03 (m h1 n1 n2 k0 G : Int) : (2 * 0 * k0 + 2 * n1 * n2 + 18446744073709551616 * G : Int) = 2 * n1 * n2 + 18446744073709551616 * G := by grind
theorem ew2_22_02 (m h1 n1 n2 k0 G : Int) : (n2 * n2 + 2 * k0 * n1 + 18446744073709551616 * G : Int) = 2 * n1 * k0 + n2 * n2 + 18446744073709551616 * G := by grind
theorem ew2_22_01 (m h1 n1 n2 k0 G : Int) : (2 * k0 * n2 + 18446744073709551616 * G : Int) = 2 * n2 * k0 + 18446744073709551616 * G := by grind
theorem ew2_22_00 (m h1 n1 n2 k0 G : Int) : (k0 * k0 + 18446744073709551616 * G : Int) = k0 * k0 + 18446744073709551616 * G := by grind
theorem ew2_22 {S : Nat → Nat → Int} {f E : Nat → Int} {c : Int} (hc : c ≠ 0) (bS : ∀ a b, (S a b).natAbs ≤ 5157348) (hS : ∀ a b, a + b ≤ 4 → S a b = c * f (7 * a + b)) (z : zr 2 2 2 f E) : TP 2 f E := by
  obtain ⟨su0, hl, hne, hz, hb, hv, H, pH, hH⟩ := z
  have su1 : SUi E 2 := su0
  have su : SUi E 3 := fun a b ha hb' h => su1 a b ha hb' (by omega)
  obtain ⟨G, hG⟩ := env_G2 su pH hH
  have hl' : ipw (E 8) 2 = f 16 := hl
  rw [lb2] at hl'
  have he : E 8 ≠ 0 := hne
  have z21 : E 21 = 0 := su1 3 0 (by decide) (by decide) (by decide)
  have z15 : E 15 = 0 := su1 2 1 (by decide) (by decide) (by decide)
  have z14 : E 14 = 0 := hz 2 0 (by decide) (by decide)
  have z9 : E 9 = 0 := su1 1 2 (by decide) (by decide) (by decide)
  have z3 : E 3 = 0 := su1 0 3 (by decide) (by decide) (by decide)
  have t40 : S 4 0 = c * (2 * E 21 * E 7 + E 14 * E 14 + 18446744073709551616 * G 4 0) := (hS 4 0 (by decide)).trans (congrArg (fun v => c * v) (hG 4 0 (by decide)))
  have t31 : S 3 1 = c * (2 * E 21 * E 1 + (2 * E 14 * E 8 + 2 * E 7 * E 15) + 18446744073709551616 * G 3 1) := (hS 3 1 (by decide)).trans (congrArg (fun v => c * v) (hG 3 1 (by decide)))
  have t30 : S 3 0 = c * (2 * E 21 * E 0 + 2 * E 14 * E 7 + 18446744073709551616 * G 3 0) := (hS 3 0 (by decide)).trans (congrArg (fun v => c * v) (hG 3 0 (by decide)))
  have t22 : S 2 2 = c * (E 8 * E 8 + (2 * E 15 * E 1 + (2 * E 14 * E 2 + 2 * E 9 * E 7)) + 18446744073709551616 * G 2 2) := (hS 2 2 (by decide)).trans (congrArg (fun v => c * v) (hG 2 2 (by decide)))
  have t21 : S 2 1 = c * (2 * E 14 * E 1 + (2 * E 7 * E 8 + 2 * E 0 * E 15) + 18446744073709551616 * G 2 1) := (hS 2 1 (by decide)).trans (congrArg (fun v => c * v) (hG 2 1 (by decide)))
  have t20 : S 2 0 = c * (2 * E 14 * E 0 + E 7 * E 7 + 18446744073709551616 * G 2 0) := (hS 2 0 (by decide)).trans (congrArg (fun v => c * v) (hG 2 0 (by decide)))
  have t13 : S 1 3 = c * (2 * E 9 * E 1 + (2 * E 8 * E 2 + 2 * E 7 * E 3) + 18446744073709551616 * G 1 3) := (hS 1 3 (by decide)).trans (congrArg (fun v => c * v) (hG 1 3 (by decide)))
  have t12 : S 1 2 = c * (2 * E 7 * E 2 + (2 * E 8 * E 1 + 2 * E 9 * E 0) + 18446744073709551616 * G 1 2) := (hS 1 2 (by decide)).trans (congrArg (fun v => c * v) (hG 1 2 (by decide)))
  have t11 : S 1 1 = c * (2 * E 7 * E 1 + 2 * E 0 * E 8 + 18446744073709551616 * G 1 1) := (hS 1 1 (by decide)).trans (congrArg (fun v => c * v) (hG 1 1 (by decide)))
  have t10 : S 1 0 = c * (2 * E 7 * E 0 + 18446744073709551616 * G 1 0) := (hS 1 0 (by decide)).trans (congrArg (fun v => c * v) (hG 1 0 (by decide)))
  have t04 : S 0 4 = c * (E 2 * E 2 + 2 * E 3 * E 1 + 18446744073709551616 * G 0 4) := (hS 0 4 (by decide)).trans (congrArg (fun v => c * v) (hG 0 4 (by decide)))
  have t03 : S 0 3 = c * (2 * E 3 * E 0 + 2 * E 2 * E 1 + 18446744073709551616 * G 0 3) := (hS 0 3 (by decide)).trans (congrArg (fun v => c * v) (hG 0 3 (by decide)))
  have t02 : S 0 2 = c * (E 1 * E 1 + 2 * E 0 * E 2 + 18446744073709551616 * G 0 2) := (hS 0 2 (by decide)).trans (congrArg (fun v => c * v) (hG 0 2 (by decide)))
  have t01 : S 0 1 = c * (2 * E 0 * E 1 + 18446744073709551616 * G 0 1) := (hS 0 1 (by decide)).trans (congrArg (fun v => c * v) (hG 0 1 (by decide)))
  have t00 : S 0 0 = c * (E 0 * E 0 + 18446744073709551616 * G 0 0) := (hS 0 0 (by decide)).trans (congrArg (fun v => c * v) (hG 0 0 (by decide)))
  have zl : G 2 2 = 0 := by
    have a' : f 16 = E 8 * E 8 + (2 * E 15 * E 1 + (2 * E 14 * E 2 + 2 * E 9 * E 7)) + 18446744073709551616 * G 2 2 := hG 2 2 (by decide)
    rw [z15, z14, z9] at a'
    try simp only [Int.mul_zero, Int.zero_mul, Int.zero_add, Int.add_zero, Int.mul_assoc] at a'
    try simp only [Int.mul_zero, Int.zero_mul, Int.zero_add, Int.add_zero, Int.mul_assoc] at hl'
    omega
  rw [z21] at t40 t31 t30
  rw [z15] at t31 t22 t21
  rw [z14] at t40 t31 t30 t22 t21 t20
  rw [z9] at t22 t13 t12
  rw [z3] at t13 t04 t03
  have de2 : (2 * E 8 * E 2).natAbs ≤ 2 ^ 63 := by
    have q := hb 2 (by decide) (by decide)
    rw [db2] at q
    exact Nat.le_trans q (by decide +kernel)
  have dg : (2 * E 8 * E 7).natAbs ≤ 2 ^ 63 := by
    have q := hb 7 (by decide) (by decide)
    rw [db2] at q
    exact Nat.le_trans q (by decide +kernel)
  have dh : (2 * E 8 * E 1).natAbs ≤ 2 ^ 63 := by
    have q := hb 1 (by decide) (by decide)
    rw [db2] at q
    exact Nat.le_trans q (by decide +kernel)
  have dk : (2 * E 8 * E 0).natAbs ≤ 2 ^ 63 := by
    have q := hb 0 (by decide) (by decide)
    rw [db2] at q
    exact Nat.le_trans q (by decide +kernel)
  obtain ⟨w40, w31, w30, w22, w21, w20, w13, w12, w11, w10, w04, w03, w02, w01, w00⟩ := conB c (E 8) (E 2) (E 7) (E 1) (E 0) (S 4 0) (S 3 1) (S 3 0) (S 2 2) (S 2 1) (S 2 0) (S 1 3) (S 1 2) (S 1 1) (S 1 0) (S 0 4) (S 0 3) (S 0 2) (S 0 1) (S 0 0) (G 4 0) (G 3 1) (G 3 0) (G 2 2) (G 2 1) (G 2 0) (G 1 3) (G 1 2) (G 1 1) (G 1 0) (G 0 4) (G 0 3) (G 0 2) (G 0 1) (G 0 0) hc he zl (bS 4 0) (bS 3 1) (bS 3 0) (bS 2 2) (bS 2 1) (bS 2 0) (bS 1 3) (bS 1 2) (bS 1 1) (bS 1 0) (bS 0 4) (bS 0 3) (bS 0 2) (bS 0 1) (bS 0 0) (t40.trans (congrArg (fun v => c * v) (ew2_22_40 (E 8) (E 7) (E 2) (E 1) (E 0) (G 4 0)))) (t31.trans (congrArg (fun v => c * v) (ew2_22_31 (E 8) (E 7) (E 2) (E 1) (E 0) (G 3 1)))) (t30.trans (congrArg (fun v => c * v) (ew2_22_30 (E 8) (E 7) (E 2) (E 1) (E 0) (G 3 0)))) (t22.trans (congrArg (fun v => c * v) (ew2_22_22 (E 8) (E 7) (E 2) (E 1) (E 0) (G 2 2)))) (t21.trans (congrArg (fun v => c * v) (ew2_22_21 (E 8) (E 7) (E 2) (E 1) (E 0) (G 2 1)))) (t20.trans (congrArg (fun v => c * v) (ew2_22_20 (E 8) (E 7) (E 2) (E 1) (E 0) (G 2 0)))) (t13.trans (congrArg (fun v => c * v) (ew2_22_13 (E 8) (E 7) (E 2) (E 1) (E 0) (G 1 3)))) (t12.trans (congrArg (fun v => c * v) (ew2_22_12 (E 8) (E 7) (E 2) (E 1) (E 0) (G 1 2)))) (t11.trans (congrArg (fun v => c * v) (ew2_22_11 (E 8) (E 7) (E 2) (E 1) (E 0) (G 1 1)))) (t10.trans (congrArg (fun v => c * v) (ew2_22_10 (E 8) (E 7) (E 2) (E 1) (E 0) (G 1 0)))) (t04.trans (congrArg (fun v => c * v) (ew2_22_04 (E 8) (E 7) (E 2) (E 1) (E 0) (G 0 4)))) (t03.trans (congrArg (fun v => c * v) (ew2_22_03 (E 8) (E 7) (E 2) (E 1) (E 0) (G 0 3)))) (t02.trans (congrArg (fun v => c * v) (ew2_22_02 (E 8) (E 7) (E 2) (E 1) (E 0) (G 0 2)))) (t01.trans (congrArg (fun v => c * v) (ew2_22_01 (E 8) (E 7) (E 2) (E 1) (E 0) (G 0 1)))) (t00.trans (congrArg (fun v => c * v) (ew2_22_00 (E 8) (E 7) (E 2) (E 1) (E 0) (G 0 0)))) de2 dg dh dk
  refine env_end2 su (fun a b hab => ?_)
  by_cases hd : a + b ≤ 4
  · have g0 : G a b = 0 := by
      have ha : a = 0 ∨ a = 1 ∨ a = 2 ∨ a = 3 ∨ a = 4 := by omega
      have hb : b = 0 ∨ b = 1 ∨ b = 2 ∨ b = 3 ∨ b = 4 := by omega
      clear hH hG hS hv hz
      rcases ha with ha | ha | ha | ha | ha <;> rcases hb with hb | hb | hb | hb | hb <;> subst ha <;> subst hb <;> first | (exfalso; omega) | assumption
    rw [hG a b hab, g0, Int.mul_zero, Int.add_zero]
  · rw [hv a b hab (Or.inl (by omega))]
    have ha : a = 0 ∨ a = 1 ∨ a = 2 ∨ a = 3 ∨ a = 4 ∨ a = 5 ∨ a = 6 := by omega
    have hb : b = 0 ∨ b = 1 ∨ b = 2 ∨ b = 3 ∨ b = 4 ∨ b = 5 ∨ b = 6 := by omega
    clear hH hG hS hv hz
    rcases ha with ha | ha | ha | ha | ha | ha | ha <;> rcases hb with hb | hb | hb | hb | hb | hb | hb <;> subst ha <;> subst hb <;> first | (exfalso; omega) | rfl | (simp only [s2c, z21, z15, z14, z9, z3, Int.mul_zero, Int.zero_mul, Int.add_zero])
theorem ew2_04_40 (h1 n1 n2 k0 G : Int) : (2 * 0 * h1 + 0 * 0 + 18446744073709551616 * G : Int) = 0 * 0 + 18446744073709551616 * G := by grind
theorem ew2_04_31 (h1 n1 n2 k0 G : Int) : (2 * 0 * n2 + (2 * 0 * 0 + 2 * h1 * 0) + 18446744073709551616 * G : Int) = 2 * 0 * 0 + 18446744073709551616 * G := by grind
theorem ew2_04_30 (h1 n1 n2 k0 G : Int) : (2 * 0 * k0 + 2 * 0 * h1 + 18446744073709551616 * G : Int) = 2 * 0 * h1 + 18446744073709551616 * G := by grind
theorem ew2_04_22 (h1 n1 n2 k0 G : Int) : (0 * 0 + (2 * 0 * n2 + (2 * 0 * n1 + 2 * 0 * h1)) + 18446744073709551616 * G : Int) = 2 * 0 * n1 + 0 * 0 + 18446744073709551616 * G := by grind
theorem ew2_04_21 (h1 n1 n2 k0 G : Int) : (2 * 0 * n2 + (2 * h1 * 0 + 2 * k0 * 0) + 18446744073709551616 * G : Int) = 2 * 0 * n2 + 2 * 0 * h1 + 18446744073709551616 * G := by grind
theorem ew2_04_20 (h1 n1 n2 k0 G : Int) : (2 * 0 * k0 + h1 * h1 + 18446744073709551616 * G : Int) = 2 * 0 * k0 + h1 * h1 + 18446744073709551616 * G := by grind
theorem ew2_04_13 (h1 n1 n2 k0 G : Int) : (2 * 0 * n2 + (2 * 0 * n1 + 2 * h1 * 0) + 18446744073709551616 * G : Int) = 2 * 0 * n1 + 18446744073709551616 * G := by grind
theorem ew2_04_12 (h1 n1 n2 k0 G : Int) : (2 * h1 * n1 + (2 * 0 * n2 + 2 * 0 * k0) + 18446744073709551616 * G : Int) = 2 * 0 * n2 + 2 * n1 * h1 + 18446744073709551616 * G := by grind
theorem ew2_04_11 (h1 n1 n2 k0 G : Int) : (2 * h1 * n2 + 2 * k0 * 0 + 18446744073709551616 * G : Int) = 2 * 0 * k0 + 2 * h1 * n2 + 18446744073709551616 * G := by grind
theorem ew2_04_10 (h1 n1 n2 k0 G : Int) : (2 * h1 * k0 + 18446744073709551616 * G : Int) = 2 * h1 * k0 + 18446744073709551616 * G := by grind
theorem ew2_04_04 (h1 n1 n2 k0 G : Int) : (n1 * n1 + 2 * 0 * n2 + 18446744073709551616 * G : Int) = n1 * n1 + 18446744073709551616 * G := by grind
theorem ew2_04_03 (h1 n1 n2 k0 G : Int) : (2 * 0 * k0 + 2 * n1 * n2 + 18446744073709551616 * G : Int) = 2 * n1 * n2 + 18446744073709551616 * G := by grind
theorem ew2_04_02 (h1 n1 n2 k0 G : Int) : (n2 * n2 + 2 * k0 * n1 + 18446744073709551616 * G : Int) = 2 * n1 * k0 + n2 * n2 + 18446744073709551616 * G := by grind
theorem ew2_04_01 (h1 n1 n2 k0 G : Int) : (2 * k0 * n2 + 18446744073709551616 * G : Int) = 2 * n2 * k0 + 18446744073709551616 * G := by grind
theorem ew2_04_00 (h1 n1 n2 k0 G : Int) : (k0 * k0 + 18446744073709551616 * G : Int) = k0 * k0 + 18446744073709551616 * G := by grind
theorem ew2_04 {S : Nat → Nat → Int} {f E : Nat → Int} {c : Int} (hc : c ≠ 0) (bS : ∀ a b, (S a b).natAbs ≤ 5157348) (hS : ∀ a b, a + b ≤ 4 → S a b = c * f (7 * a + b)) (z : zr 2 0 4 f E) : TP 2 f E := by
  obtain ⟨su0, hl, hne, hz, hb, hv, H, pH, hH⟩ := z
  have su1 : SUi E 2 := su0
  have su : SUi E 3 := fun a b ha hb' h => su1 a b ha hb' (by omega)
  obtain ⟨G, hG⟩ := env_G2 su pH hH
  have hl' : ipw (E 2) 2 = f 4 := hl
  rw [lb2] at hl'
  have he : E 2 ≠ 0 := hne
  have z21 : E 21 = 0 := su1 3 0 (by decide) (by decide) (by decide)
  have z15 : E 15 = 0 := su1 2 1 (by decide) (by decide) (by decide)
  have z14 : E 14 = 0 := hz 2 0 (by decide) (by decide)
  have z9 : E 9 = 0 := su1 1 2 (by decide) (by decide) (by decide)
  have z8 : E 8 = 0 := hz 1 1 (by decide) (by decide)
  have z3 : E 3 = 0 := su1 0 3 (by decide) (by decide) (by decide)
  have t40 : S 4 0 = c * (2 * E 21 * E 7 + E 14 * E 14 + 18446744073709551616 * G 4 0) := (hS 4 0 (by decide)).trans (congrArg (fun v => c * v) (hG 4 0 (by decide)))
  have t31 : S 3 1 = c * (2 * E 21 * E 1 + (2 * E 14 * E 8 + 2 * E 7 * E 15) + 18446744073709551616 * G 3 1) := (hS 3 1 (by decide)).trans (congrArg (fun v => c * v) (hG 3 1 (by decide)))
  have t30 : S 3 0 = c * (2 * E 21 * E 0 + 2 * E 14 * E 7 + 18446744073709551616 * G 3 0) := (hS 3 0 (by decide)).trans (congrArg (fun v => c * v) (hG 3 0 (by decide)))
  have t22 : S 2 2 = c * (E 8 * E 8 + (2 * E 15 * E 1 + (2 * E 14 * E 2 + 2 * E 9 * E 7)) + 18446744073709551616 * G 2 2) := (hS 2 2 (by decide)).trans (congrArg (fun v => c * v) (hG 2 2 (by decide)))
  have t21 : S 2 1 = c * (2 * E 14 * E 1 + (2 * E 7 * E 8 + 2 * E 0 * E 15) + 18446744073709551616 * G 2 1) := (hS 2 1 (by decide)).trans (congrArg (fun v => c * v) (hG 2 1 (by decide)))
  have t20 : S 2 0 = c * (2 * E 14 * E 0 + E 7 * E 7 + 18446744073709551616 * G 2 0) := (hS 2 0 (by decide)).trans (congrArg (fun v => c * v) (hG 2 0 (by decide)))
  have t13 : S 1 3 = c * (2 * E 9 * E 1 + (2 * E 8 * E 2 + 2 * E 7 * E 3) + 18446744073709551616 * G 1 3) := (hS 1 3 (by decide)).trans (congrArg (fun v => c * v) (hG 1 3 (by decide)))
  have t12 : S 1 2 = c * (2 * E 7 * E 2 + (2 * E 8 * E 1 + 2 * E 9 * E 0) + 18446744073709551616 * G 1 2) := (hS 1 2 (by decide)).trans (congrArg (fun v => c * v) (hG 1 2 (by decide)))
  have t11 : S 1 1 = c * (2 * E 7 * E 1 + 2 * E 0 * E 8 + 18446744073709551616 * G 1 1) := (hS 1 1 (by decide)).trans (congrArg (fun v => c * v) (hG 1 1 (by decide)))
  have t10 : S 1 0 = c * (2 * E 7 * E 0 + 18446744073709551616 * G 1 0) := (hS 1 0 (by decide)).trans (congrArg (fun v => c * v) (hG 1 0 (by decide)))
  have t04 : S 0 4 = c * (E 2 * E 2 + 2 * E 3 * E 1 + 18446744073709551616 * G 0 4) := (hS 0 4 (by decide)).trans (congrArg (fun v => c * v) (hG 0 4 (by decide)))
  have t03 : S 0 3 = c * (2 * E 3 * E 0 + 2 * E 2 * E 1 + 18446744073709551616 * G 0 3) := (hS 0 3 (by decide)).trans (congrArg (fun v => c * v) (hG 0 3 (by decide)))
  have t02 : S 0 2 = c * (E 1 * E 1 + 2 * E 0 * E 2 + 18446744073709551616 * G 0 2) := (hS 0 2 (by decide)).trans (congrArg (fun v => c * v) (hG 0 2 (by decide)))
  have t01 : S 0 1 = c * (2 * E 0 * E 1 + 18446744073709551616 * G 0 1) := (hS 0 1 (by decide)).trans (congrArg (fun v => c * v) (hG 0 1 (by decide)))
  have t00 : S 0 0 = c * (E 0 * E 0 + 18446744073709551616 * G 0 0) := (hS 0 0 (by decide)).trans (congrArg (fun v => c * v) (hG 0 0 (by decide)))
  have zl : G 0 4 = 0 := by
    have a' : f 4 = E 2 * E 2 + 2 * E 3 * E 1 + 18446744073709551616 * G 0 4 := hG 0 4 (by decide)
    rw [z3] at a'
    try simp only [Int.mul_zero, Int.zero_mul, Int.zero_add, Int.add_zero, Int.mul_assoc] at a'
    try simp only [Int.mul_zero, Int.zero_mul, Int.zero_add, Int.add_zero, Int.mul_assoc] at hl'
    omega
  rw [z21] at t40 t31 t30
  rw [z15] at t31 t22 t21
  rw [z14] at t40 t31 t30 t22 t21 t20
  rw [z9] at t22 t13 t12
  rw [z8] at t31 t22 t21 t13 t12 t11
  rw [z3] at t13 t04 t03
  have dg : (2 * E 2 * E 7).natAbs ≤ 2 ^ 63 := by
    have q := hb 7 (by decide) (by decide)
    rw [db2] at q
    exact Nat.le_trans q (by decide +kernel)
  have dh : (2 * E 2 * E 1).natAbs ≤ 2 ^ 63 := by
    have q := hb 1 (by decide) (by decide)
    rw [db2] at q
    exact Nat.le_trans q (by decide +kernel)
  have dk : (2 * E 2 * E 0).natAbs ≤ 2 ^ 63 := by
    have q := hb 0 (by decide) (by decide)
    rw [db2] at q
    exact Nat.le_trans q (by decide +kernel)
  obtain ⟨w40, w31, w30, w22, w21, w20, w13, w12, w11, w10, w04, w03, w02, w01, w00⟩ := conC c (E 2) (E 7) (E 1) (E 0) (S 4 0) (S 3 1) (S 3 0) (S 2 2) (S 2 1) (S 2 0) (S 1 3) (S 1 2) (S 1 1) (S 1 0) (S 0 4) (S 0 3) (S 0 2) (S 0 1) (S 0 0) (G 4 0) (G 3 1) (G 3 0) (G 2 2) (G 2 1) (G 2 0) (G 1 3) (G 1 2) (G 1 1) (G 1 0) (G 0 4) (G 0 3) (G 0 2) (G 0 1) (G 0 0) hc he zl (bS 4 0) (bS 3 1) (bS 3 0) (bS 2 2) (bS 2 1) (bS 2 0) (bS 1 3) (bS 1 2) (bS 1 1) (bS 1 0) (bS 0 4) (bS 0 3) (bS 0 2) (bS 0 1) (bS 0 0) (t40.trans (congrArg (fun v => c * v) (ew2_04_40 (E 7) (E 2) (E 1) (E 0) (G 4 0)))) (t31.trans (congrArg (fun v => c * v) (ew2_04_31 (E 7) (E 2) (E 1) (E 0) (G 3 1)))) (t30.trans (congrArg (fun v => c * v) (ew2_04_30 (E 7) (E 2) (E 1) (E 0) (G 3 0)))) (t22.trans (congrArg (fun v => c * v) (ew2_04_22 (E 7) (E 2) (E 1) (E 0) (G 2 2)))) (t21.trans (congrArg (fun v => c * v) (ew2_04_21 (E 7) (E 2) (E 1) (E 0) (G 2 1)))) (t20.trans (congrArg (fun v => c * v) (ew2_04_20 (E 7) (E 2) (E 1) (E 0) (G 2 0)))) (t13.trans (congrArg (fun v => c * v) (ew2_04_13 (E 7) (E 2) (E 1) (E 0) (G 1 3)))) (t12.trans (congrArg (fun v => c * v) (ew2_04_12 (E 7) (E 2) (E 1) (E 0) (G 1 2)))) (t11.trans (congrArg (fun v => c * v) (ew2_04_11 (E 7) (E 2) (E 1) (E 0) (G 1 1)))) (t10.trans (congrArg (fun v => c * v) (ew2_04_10 (E 7) (E 2) (E 1) (E 0) (G 1 0)))) (t04.trans (congrArg (fun v => c * v) (ew2_04_04 (E 7) (E 2) (E 1) (E 0) (G 0 4)))) (t03.trans (congrArg (fun v => c * v) (ew2_04_03 (E 7) (E 2) (E 1) (E 0) (G 0 3)))) (t02.trans (congrArg (fun v => c * v) (ew2_04_02 (E 7) (E 2) (E 1) (E 0) (G 0 2)))) (t01.trans (congrArg (fun v => c * v) (ew2_04_01 (E 7) (E 2) (E 1) (E 0) (G 0 1)))) (t00.trans (congrArg (fun v => c * v) (ew2_04_00 (E 7) (E 2) (E 1) (E 0) (G 0 0)))) dg dh dk
  refine env_end2 su (fun a b hab => ?_)
  by_cases hd : a + b ≤ 4
  · have g0 : G a b = 0 := by
      have ha : a = 0 ∨ a = 1 ∨ a = 2 ∨ a = 3 ∨ a = 4 := by omega
      have hb : b = 0 ∨ b = 1 ∨ b = 2 ∨ b = 3 ∨ b = 4 := by omega
      clear hH hG hS hv hz
      rcases ha with ha | ha | ha | ha | ha <;> rcases hb with hb | hb | hb | hb | hb <;> subst ha <;> subst hb <;> first | (exfalso; omega) | assumption
    rw [hG a b hab, g0, Int.mul_zero, Int.add_zero]
  · rw [hv a b hab (Or.inl (by omega))]
    have ha : a = 0 ∨ a = 1 ∨ a = 2 ∨ a = 3 ∨ a = 4 ∨ a = 5 ∨ a = 6 := by omega
    have hb : b = 0 ∨ b = 1 ∨ b = 2 ∨ b = 3 ∨ b = 4 ∨ b = 5 ∨ b = 6 := by omega
    clear hH hG hS hv hz
    rcases ha with ha | ha | ha | ha | ha | ha | ha <;> rcases hb with hb | hb | hb | hb | hb | hb | hb <;> subst ha <;> subst hb <;> first | (exfalso; omega) | rfl | (simp only [s2c, z21, z15, z14, z9, z8, z3, Int.mul_zero, Int.zero_mul, Int.add_zero])
theorem ew2_20_20 (h1 n2 k0 G : Int) : (2 * 0 * k0 + h1 * h1 + 18446744073709551616 * G : Int) = h1 * h1 + 18446744073709551616 * G := by grind
theorem ew2_20_11 (h1 n2 k0 G : Int) : (2 * h1 * n2 + 2 * k0 * 0 + 18446744073709551616 * G : Int) = 2 * (h1 * n2) + 18446744073709551616 * G := by grind
theorem ew2_20_10 (h1 n2 k0 G : Int) : (2 * h1 * k0 + 18446744073709551616 * G : Int) = 2 * (h1 * k0) + 18446744073709551616 * G := by grind
theorem ew2_20_02 (h1 n2 k0 G : Int) : (n2 * n2 + 2 * k0 * 0 + 18446744073709551616 * G : Int) = n2 * n2 + 18446744073709551616 * G := by grind
theorem ew2_20_01 (h1 n2 k0 G : Int) : (2 * k0 * n2 + 18446744073709551616 * G : Int) = 2 * (n2 * k0) + 18446744073709551616 * G := by grind
theorem ew2_20_00 (h1 n2 k0 G : Int) : (k0 * k0 + 18446744073709551616 * G : Int) = k0 * k0 + 18446744073709551616 * G := by grind
theorem ew2_20 {S : Nat → Nat → Int} {f E : Nat → Int} {c : Int} (hc : c ≠ 0) (bS : ∀ a b, (S a b).natAbs ≤ 5157348) (hS : ∀ a b, a + b ≤ 4 → S a b = c * f (7 * a + b)) (z : zr 2 2 0 f E) : TP 2 f E := by
  obtain ⟨su0, hl, hne, hz, hb, hv, H, pH, hH⟩ := z
  have su1 : SUi E 1 := su0
  have su : SUi E 3 := fun a b ha hb' h => su1 a b ha hb' (by omega)
  obtain ⟨G, hG⟩ := env_G2 su pH hH
  have hl' : ipw (E 7) 2 = f 14 := hl
  rw [lb2] at hl'
  have he : E 7 ≠ 0 := hne
  have z21 : E 21 = 0 := su1 3 0 (by decide) (by decide) (by decide)
  have z15 : E 15 = 0 := su1 2 1 (by decide) (by decide) (by decide)
  have z14 : E 14 = 0 := su1 2 0 (by decide) (by decide) (by decide)
  have z9 : E 9 = 0 := su1 1 2 (by decide) (by decide) (by decide)
  have z8 : E 8 = 0 := su1 1 1 (by decide) (by decide) (by decide)
  have z3 : E 3 = 0 := su1 0 3 (by decide) (by decide) (by decide)
  have z2 : E 2 = 0 := su1 0 2 (by decide) (by decide) (by decide)
  have t20 : S 2 0 = c * (2 * E 14 * E 0 + E 7 * E 7 + 18446744073709551616 * G 2 0) := (hS 2 0 (by decide)).trans (congrArg (fun v => c * v) (hG 2 0 (by decide)))
  have t11 : S 1 1 = c * (2 * E 7 * E 1 + 2 * E 0 * E 8 + 18446744073709551616 * G 1 1) := (hS 1 1 (by decide)).trans (congrArg (fun v => c * v) (hG 1 1 (by decide)))
  have t10 : S 1 0 = c * (2 * E 7 * E 0 + 18446744073709551616 * G 1 0) := (hS 1 0 (by decide)).trans (congrArg (fun v => c * v) (hG 1 0 (by decide)))
  have t02 : S 0 2 = c * (E 1 * E 1 + 2 * E 0 * E 2 + 18446744073709551616 * G 0 2) := (hS 0 2 (by decide)).trans (congrArg (fun v => c * v) (hG 0 2 (by decide)))
  have t01 : S 0 1 = c * (2 * E 0 * E 1 + 18446744073709551616 * G 0 1) := (hS 0 1 (by decide)).trans (congrArg (fun v => c * v) (hG 0 1 (by decide)))
  have t00 : S 0 0 = c * (E 0 * E 0 + 18446744073709551616 * G 0 0) := (hS 0 0 (by decide)).trans (congrArg (fun v => c * v) (hG 0 0 (by decide)))
  have zl : G 2 0 = 0 := by
    have a' : f 14 = 2 * E 14 * E 0 + E 7 * E 7 + 18446744073709551616 * G 2 0 := hG 2 0 (by decide)
    rw [z14] at a'
    try simp only [Int.mul_zero, Int.zero_mul, Int.zero_add, Int.add_zero, Int.mul_assoc] at a'
    try simp only [Int.mul_zero, Int.zero_mul, Int.zero_add, Int.add_zero, Int.mul_assoc] at hl'
    omega
  rw [z14] at t20
  rw [z8] at t11
  rw [z2] at t02
  have dg : (2 * (E 7 * (E 1))).natAbs ≤ 9223372036854775808 := by
    have q := hb 1 (by decide) (by decide)
    rw [db2, Int.mul_assoc] at q
    exact q
  have dh : (2 * (E 7 * (E 0))).natAbs ≤ 9223372036854775808 := by
    have q := hb 0 (by decide) (by decide)
    rw [db2, Int.mul_assoc] at q
    exact q
  obtain ⟨w20, w11, w10, w02, w01, w00⟩ := lns2x c (E 7) (E 1) (E 0) (S 2 0) (S 1 1) (S 1 0) (S 0 2) (S 0 1) (S 0 0) (G 2 0) (G 1 1) (G 1 0) (G 0 2) (G 0 1) (G 0 0) hc he zl (bS 2 0) (bS 1 1) (bS 1 0) (bS 0 2) (bS 0 1) (bS 0 0) (t20.trans (congrArg (fun v => c * v) (ew2_20_20 (E 7) (E 1) (E 0) (G 2 0)))) (t11.trans (congrArg (fun v => c * v) (ew2_20_11 (E 7) (E 1) (E 0) (G 1 1)))) (t10.trans (congrArg (fun v => c * v) (ew2_20_10 (E 7) (E 1) (E 0) (G 1 0)))) (t02.trans (congrArg (fun v => c * v) (ew2_20_02 (E 7) (E 1) (E 0) (G 0 2)))) (t01.trans (congrArg (fun v => c * v) (ew2_20_01 (E 7) (E 1) (E 0) (G 0 1)))) (t00.trans (congrArg (fun v => c * v) (ew2_20_00 (E 7) (E 1) (E 0) (G 0 0)))) dg dh
  refine env_end2 su (fun a b hab => ?_)
  by_cases hd : a + b ≤ 2
  · have g0 : G a b = 0 := by
      have ha : a = 0 ∨ a = 1 ∨ a = 2 ∨ a = 3 ∨ a = 4 := by omega
      have hb : b = 0 ∨ b = 1 ∨ b = 2 ∨ b = 3 ∨ b = 4 := by omega
      clear hH hG hS hv hz
      rcases ha with ha | ha | ha | ha | ha <;> rcases hb with hb | hb | hb | hb | hb <;> subst ha <;> subst hb <;> first | (exfalso; omega) | assumption
    rw [hG a b hab, g0, Int.mul_zero, Int.add_zero]
  · rw [hv a b hab (Or.inl (by omega))]
    have ha : a = 0 ∨ a = 1 ∨ a = 2 ∨ a = 3 ∨ a = 4 ∨ a = 5 ∨ a = 6 := by omega
    have hb : b = 0 ∨ b = 1 ∨ b = 2 ∨ b = 3 ∨ b = 4 ∨ b = 5 ∨ b = 6 := by omega
    clear hH hG hS hv hz
    rcases ha with ha | ha | ha | ha | ha | ha | ha <;> rcases hb with hb | hb | hb | hb | hb | hb | hb <;> subst ha <;> subst hb <;> first | (exfalso; omega) | rfl | (simp only [s2c, z21, z15, z14, z9, z8, z3, z2, Int.mul_zero, Int.zero_mul, Int.add_zero])
theorem ew2_02_20 (n2 k0 G : Int) : (2 * 0 * k0 + 0 * 0 + 18446744073709551616 * G : Int) = 0 + 18446744073709551616 * G := by grind
theorem ew2_02_11 (n2 k0 G : Int) : (2 * 0 * n2 + 2 * k0 * 0 + 18446744073709551616 * G : Int) = 0 + 18446744073709551616 * G := by grind
theorem ew2_02_10 (n2 k0 G : Int) : (2 * 0 * k0 + 18446744073709551616 * G : Int) = 0 + 18446744073709551616 * G := by grind
theorem ew2_02_02 (n2 k0 G : Int) : (n2 * n2 + 2 * k0 * 0 + 18446744073709551616 * G : Int) = n2 * n2 + 18446744073709551616 * G := by grind
theorem ew2_02_01 (n2 k0 G : Int) : (2 * k0 * n2 + 18446744073709551616 * G : Int) = 2 * (n2 * k0) + 18446744073709551616 * G := by grind
theorem ew2_02_00 (n2 k0 G : Int) : (k0 * k0 + 18446744073709551616 * G : Int) = k0 * k0 + 18446744073709551616 * G := by grind
theorem ew2_02 {S : Nat → Nat → Int} {f E : Nat → Int} {c : Int} (hc : c ≠ 0) (bS : ∀ a b, (S a b).natAbs ≤ 5157348) (hS : ∀ a b, a + b ≤ 4 → S a b = c * f (7 * a + b)) (z : zr 2 0 2 f E) : TP 2 f E := by
  obtain ⟨su0, hl, hne, hz, hb, hv, H, pH, hH⟩ := z
  have su1 : SUi E 1 := su0
  have su : SUi E 3 := fun a b ha hb' h => su1 a b ha hb' (by omega)
  obtain ⟨G, hG⟩ := env_G2 su pH hH
  have hl' : ipw (E 1) 2 = f 2 := hl
  rw [lb2] at hl'
  have he : E 1 ≠ 0 := hne
  have z21 : E 21 = 0 := su1 3 0 (by decide) (by decide) (by decide)
  have z15 : E 15 = 0 := su1 2 1 (by decide) (by decide) (by decide)
  have z14 : E 14 = 0 := su1 2 0 (by decide) (by decide) (by decide)
  have z9 : E 9 = 0 := su1 1 2 (by decide) (by decide) (by decide)
  have z8 : E 8 = 0 := su1 1 1 (by decide) (by decide) (by decide)
  have z7 : E 7 = 0 := hz 1 0 (by decide) (by decide)
  have z3 : E 3 = 0 := su1 0 3 (by decide) (by decide) (by decide)
  have z2 : E 2 = 0 := su1 0 2 (by decide) (by decide) (by decide)
  have t20 : S 2 0 = c * (2 * E 14 * E 0 + E 7 * E 7 + 18446744073709551616 * G 2 0) := (hS 2 0 (by decide)).trans (congrArg (fun v => c * v) (hG 2 0 (by decide)))
  have t11 : S 1 1 = c * (2 * E 7 * E 1 + 2 * E 0 * E 8 + 18446744073709551616 * G 1 1) := (hS 1 1 (by decide)).trans (congrArg (fun v => c * v) (hG 1 1 (by decide)))
  have t10 : S 1 0 = c * (2 * E 7 * E 0 + 18446744073709551616 * G 1 0) := (hS 1 0 (by decide)).trans (congrArg (fun v => c * v) (hG 1 0 (by decide)))
  have t02 : S 0 2 = c * (E 1 * E 1 + 2 * E 0 * E 2 + 18446744073709551616 * G 0 2) := (hS 0 2 (by decide)).trans (congrArg (fun v => c * v) (hG 0 2 (by decide)))
  have t01 : S 0 1 = c * (2 * E 0 * E 1 + 18446744073709551616 * G 0 1) := (hS 0 1 (by decide)).trans (congrArg (fun v => c * v) (hG 0 1 (by decide)))
  have t00 : S 0 0 = c * (E 0 * E 0 + 18446744073709551616 * G 0 0) := (hS 0 0 (by decide)).trans (congrArg (fun v => c * v) (hG 0 0 (by decide)))
  have zl : G 0 2 = 0 := by
    have a' : f 2 = E 1 * E 1 + 2 * E 0 * E 2 + 18446744073709551616 * G 0 2 := hG 0 2 (by decide)
    rw [z2] at a'
    try simp only [Int.mul_zero, Int.zero_mul, Int.zero_add, Int.add_zero, Int.mul_assoc] at a'
    try simp only [Int.mul_zero, Int.zero_mul, Int.zero_add, Int.add_zero, Int.mul_assoc] at hl'
    omega
  rw [z14] at t20
  rw [z8] at t11
  rw [z7] at t20 t11 t10
  rw [z2] at t02
  have dh : (2 * (E 1 * (E 0))).natAbs ≤ 9223372036854775808 := by
    have q := hb 0 (by decide) (by decide)
    rw [db2, Int.mul_assoc] at q
    exact q
  obtain ⟨w20, w11, w10, w02, w01, w00⟩ := lns2y c (E 1) (E 0) (S 2 0) (S 1 1) (S 1 0) (S 0 2) (S 0 1) (S 0 0) (G 2 0) (G 1 1) (G 1 0) (G 0 2) (G 0 1) (G 0 0) hc he zl (bS 2 0) (bS 1 1) (bS 1 0) (bS 0 2) (bS 0 1) (bS 0 0) (t20.trans (congrArg (fun v => c * v) (ew2_02_20 (E 1) (E 0) (G 2 0)))) (t11.trans (congrArg (fun v => c * v) (ew2_02_11 (E 1) (E 0) (G 1 1)))) (t10.trans (congrArg (fun v => c * v) (ew2_02_10 (E 1) (E 0) (G 1 0)))) (t02.trans (congrArg (fun v => c * v) (ew2_02_02 (E 1) (E 0) (G 0 2)))) (t01.trans (congrArg (fun v => c * v) (ew2_02_01 (E 1) (E 0) (G 0 1)))) (t00.trans (congrArg (fun v => c * v) (ew2_02_00 (E 1) (E 0) (G 0 0)))) dh
  refine env_end2 su (fun a b hab => ?_)
  by_cases hd : a + b ≤ 2
  · have g0 : G a b = 0 := by
      have ha : a = 0 ∨ a = 1 ∨ a = 2 ∨ a = 3 ∨ a = 4 := by omega
      have hb : b = 0 ∨ b = 1 ∨ b = 2 ∨ b = 3 ∨ b = 4 := by omega
      clear hH hG hS hv hz
      rcases ha with ha | ha | ha | ha | ha <;> rcases hb with hb | hb | hb | hb | hb <;> subst ha <;> subst hb <;> first | (exfalso; omega) | assumption
    rw [hG a b hab, g0, Int.mul_zero, Int.add_zero]
  · rw [hv a b hab (Or.inl (by omega))]
    have ha : a = 0 ∨ a = 1 ∨ a = 2 ∨ a = 3 ∨ a = 4 ∨ a = 5 ∨ a = 6 := by omega
    have hb : b = 0 ∨ b = 1 ∨ b = 2 ∨ b = 3 ∨ b = 4 ∨ b = 5 ∨ b = 6 := by omega
    clear hH hG hS hv hz
    rcases ha with ha | ha | ha | ha | ha | ha | ha <;> rcases hb with hb | hb | hb | hb | hb | hb | hb <;> subst ha <;> subst hb <;> first | (exfalso; omega) | rfl | (simp only [s2c, z21, z15, z14, z9, z8, z7, z3, z2, Int.mul_zero, Int.zero_mul, Int.add_zero])
theorem ew3_30_30 (g1 m h G : Int) : (6 * 0 * (g1 * h) + g1 * g1 * g1 + 18446744073709551616 * G : Int) = g1 * (g1 * g1) + 18446744073709551616 * G := by grind
theorem ew3_30_21 (g1 m h G : Int) : (6 * (0 * m) * h + (3 * (g1 * g1) * m + 6 * g1 * (h * 0)) + 18446744073709551616 * G : Int) = 3 * (g1 * (g1 * m)) + 18446744073709551616 * G := by grind
theorem ew3_30_20 (g1 m h G : Int) : (3 * 0 * (h * h) + 3 * (g1 * g1) * h + 18446744073709551616 * G : Int) = 3 * (g1 * (g1 * h)) + 18446744073709551616 * G := by grind
theorem ew3_30_12 (g1 m h G : Int) : (3 * g1 * (m * m) + (6 * g1 * (h * 0) + 6 * 0 * (h * m)) + 18446744073709551616 * G : Int) = 3 * (g1 * (m * m)) + 18446744073709551616 * G := by grind
theorem ew3_30_11 (g1 m h G : Int) : (6 * g1 * (h * m) + 3 * (h * h) * 0 + 18446744073709551616 * G : Int) = 6 * (g1 * (m * h)) + 18446744073709551616 * G := by grind
theorem ew3_30_10 (g1 m h G : Int) : (3 * g1 * (h * h) + 18446744073709551616 * G : Int) = 3 * (g1 * (h * h)) + 18446744073709551616 * G := by grind
theorem ew3_30_03 (g1 m h G : Int) : (m * m * m + 6 * 0 * (h * m) + 18446744073709551616 * G : Int) = m * (m * m) + 18446744073709551616 * G := by grind
theorem ew3_30_02 (g1 m h G : Int) : (3 * h * (m * m) + 3 * (h * h) * 0 + 18446744073709551616 * G : Int) = 3 * (m * (m * h)) + 18446744073709551616 * G := by grind
theorem ew3_30_01 (g1 m h G : Int) : (3 * (h * h) * m + 18446744073709551616 * G : Int) = 3 * (m * (h * h)) + 18446744073709551616 * G := by grind
theorem ew3_30_00 (g1 m h G : Int) : (h * h * h + 18446744073709551616 * G : Int) = h * (h * h) + 18446744073709551616 * G := by grind
theorem ew3_30 {S : Nat → Nat → Int} {f E : Nat → Int} {c : Int} (hc : c ≠ 0) (bS : ∀ a b, (S a b).natAbs ≤ 5157348) (hS : ∀ a b, a + b ≤ 4 → S a b = c * f (7 * a + b)) (z : zr 3 3 0 f E) : TP 3 f E := by
  obtain ⟨su0, hl, hne, hz, hb, hv, H, pH, hH⟩ := z
  have su1 : SUi E 1 := su0
  have su : SUi E 2 := fun a b ha hb' h => su1 a b ha hb' (by omega)
  obtain ⟨G, hG⟩ := env_G3 su pH hH
  have hl' : ipw (E 7) 3 = f 21 := hl
  rw [lb3] at hl'
  have he : E 7 ≠ 0 := hne
  have z14 : E 14 = 0 := su1 2 0 (by decide) (by decide) (by decide)
  have z8 : E 8 = 0 := su1 1 1 (by decide) (by decide) (by decide)
  have z2 : E 2 = 0 := su1 0 2 (by decide) (by decide) (by decide)
  have t30 : S 3 0 = c * (6 * E 14 * (E 7 * E 0) + E 7 * E 7 * E 7 + 18446744073709551616 * G 3 0) := (hS 3 0 (by decide)).trans (congrArg (fun v => c * v) (hG 3 0 (by decide)))
  have t21 : S 2 1 = c * (6 * (E 14 * E 1) * E 0 + (3 * (E 7 * E 7) * E 1 + 6 * E 7 * (E 0 * E 8)) + 18446744073709551616 * G 2 1) := (hS 2 1 (by decide)).trans (congrArg (fun v => c * v) (hG 2 1 (by decide)))
  have t20 : S 2 0 = c * (3 * E 14 * (E 0 * E 0) + 3 * (E 7 * E 7) * E 0 + 18446744073709551616 * G 2 0) := (hS 2 0 (by decide)).trans (congrArg (fun v => c * v) (hG 2 0 (by decide)))
  have t12 : S 1 2 = c * (3 * E 7 * (E 1 * E 1) + (6 * E 7 * (E 0 * E 2) + 6 * E 8 * (E 0 * E 1)) + 18446744073709551616 * G 1 2) := (hS 1 2 (by decide)).trans (congrArg (fun v => c * v) (hG 1 2 (by decide)))
  have t11 : S 1 1 = c * (6 * E 7 * (E 0 * E 1) + 3 * (E 0 * E 0) * E 8 + 18446744073709551616 * G 1 1) := (hS 1 1 (by decide)).trans (congrArg (fun v => c * v) (hG 1 1 (by decide)))
  have t10 : S 1 0 = c * (3 * E 7 * (E 0 * E 0) + 18446744073709551616 * G 1 0) := (hS 1 0 (by decide)).trans (congrArg (fun v => c * v) (hG 1 0 (by decide)))
  have t03 : S 0 3 = c * (E 1 * E 1 * E 1 + 6 * E 2 * (E 0 * E 1) + 18446744073709551616 * G 0 3) := (hS 0 3 (by decide)).trans (congrArg (fun v => c * v) (hG 0 3 (by decide)))
  have t02 : S 0 2 = c * (3 * E 0 * (E 1 * E 1) + 3 * (E 0 * E 0) * E 2 + 18446744073709551616 * G 0 2) := (hS 0 2 (by decide)).trans (congrArg (fun v => c * v) (hG 0 2 (by decide)))
  have t01 : S 0 1 = c * (3 * (E 0 * E 0) * E 1 + 18446744073709551616 * G 0 1) := (hS 0 1 (by decide)).trans (congrArg (fun v => c * v) (hG 0 1 (by decide)))
  have t00 : S 0 0 = c * (E 0 * E 0 * E 0 + 18446744073709551616 * G 0 0) := (hS 0 0 (by decide)).trans (congrArg (fun v => c * v) (hG 0 0 (by decide)))
  have zl : G 3 0 = 0 := by
    have a' : f 21 = 6 * E 14 * (E 7 * E 0) + E 7 * E 7 * E 7 + 18446744073709551616 * G 3 0 := hG 3 0 (by decide)
    rw [z14] at a'
    try simp only [Int.mul_zero, Int.zero_mul, Int.zero_add, Int.add_zero, Int.mul_assoc] at a'
    try simp only [Int.mul_zero, Int.zero_mul, Int.zero_add, Int.add_zero, Int.mul_assoc] at hl'
    omega
  rw [z14] at t30 t21 t20
  rw [z8] at t21 t12 t11
  rw [z2] at t12 t03 t02
  have dg : (3 * (E 7 * (E 7 * (E 1)))).natAbs ≤ 9223372036854775808 := by
    have q := hb 1 (by decide) (by decide)
    rw [db3, Int.mul_assoc, Int.mul_assoc] at q
    exact q
  have dh : (3 * (E 7 * (E 7 * (E 0)))).natAbs ≤ 9223372036854775808 := by
    have q := hb 0 (by decide) (by decide)
    rw [db3, Int.mul_assoc, Int.mul_assoc] at q
    exact q
  obtain ⟨w30, w21, w20, w12, w11, w10, w03, w02, w01, w00⟩ := lns3x c (E 7) (E 1) (E 0) (S 3 0) (S 2 1) (S 2 0) (S 1 2) (S 1 1) (S 1 0) (S 0 3) (S 0 2) (S 0 1) (S 0 0) (G 3 0) (G 2 1) (G 2 0) (G 1 2) (G 1 1) (G 1 0) (G 0 3) (G 0 2) (G 0 1) (G 0 0) hc he zl (bS 3 0) (bS 2 1) (bS 2 0) (bS 1 2) (bS 1 1) (bS 1 0) (bS 0 3) (bS 0 2) (bS 0 1) (bS 0 0) (t30.trans (congrArg (fun v => c * v) (ew3_30_30 (E 7) (E 1) (E 0) (G 3 0)))) (t21.trans (congrArg (fun v => c * v) (ew3_30_21 (E 7) (E 1) (E 0) (G 2 1)))) (t20.trans (congrArg (fun v => c * v) (ew3_30_20 (E 7) (E 1) (E 0) (G 2 0)))) (t12.trans (congrArg (fun v => c * v) (ew3_30_12 (E 7) (E 1) (E 0) (G 1 2)))) (t11.trans (congrArg (fun v => c * v) (ew3_30_11 (E 7) (E 1) (E 0) (G 1 1)))) (t10.trans (congrArg (fun v => c * v) (ew3_30_10 (E 7) (E 1) (E 0) (G 1 0)))) (t03.trans (congrArg (fun v => c * v) (ew3_30_03 (E 7) (E 1) (E 0) (G 0 3)))) (t02.trans (congrArg (fun v => c * v) (ew3_30_02 (E 7) (E 1) (E 0) (G 0 2)))) (t01.trans (congrArg (fun v => c * v) (ew3_30_01 (E 7) (E 1) (E 0) (G 0 1)))) (t00.trans (congrArg (fun v => c * v) (ew3_30_00 (E 7) (E 1) (E 0) (G 0 0)))) dg dh
  refine env_end3 su (fun a b hab => ?_)
  by_cases hd : a + b ≤ 3
  · have g0 : G a b = 0 := by
      have ha : a = 0 ∨ a = 1 ∨ a = 2 ∨ a = 3 ∨ a = 4 := by omega
      have hb : b = 0 ∨ b = 1 ∨ b = 2 ∨ b = 3 ∨ b = 4 := by omega
      clear hH hG hS hv hz
      rcases ha with ha | ha | ha | ha | ha <;> rcases hb with hb | hb | hb | hb | hb <;> subst ha <;> subst hb <;> first | (exfalso; omega) | assumption
    rw [hG a b hab, g0, Int.mul_zero, Int.add_zero]
  · rw [hv a b hab (Or.inl (by omega))]
    have ha : a = 0 ∨ a = 1 ∨ a = 2 ∨ a = 3 ∨ a = 4 ∨ a = 5 ∨ a = 6 := by omega
    have hb : b = 0 ∨ b = 1 ∨ b = 2 ∨ b = 3 ∨ b = 4 ∨ b = 5 ∨ b = 6 := by omega
    clear hH hG hS hv hz
    rcases ha with ha | ha | ha | ha | ha | ha | ha <;> rcases hb with hb | hb | hb | hb | hb | hb | hb <;> subst ha <;> subst hb <;> first | (exfalso; omega) | rfl | (simp only [s3c, z14, z8, z2, Int.mul_zero, Int.zero_mul, Int.add_zero])
theorem ew3_03_30 (m h G : Int) : (6 * 0 * (0 * h) + 0 * 0 * 0 + 18446744073709551616 * G : Int) = 0 + 18446744073709551616 * G := by grind
theorem ew3_03_21 (m h G : Int) : (6 * (0 * m) * h + (3 * (0 * 0) * m + 6 * 0 * (h * 0)) + 18446744073709551616 * G : Int) = 0 + 18446744073709551616 * G := by grind
theorem ew3_03_20 (m h G : Int) : (3 * 0 * (h * h) + 3 * (0 * 0) * h + 18446744073709551616 * G : Int) = 0 + 18446744073709551616 * G := by grind
theorem ew3_03_12 (m h G : Int) : (3 * 0 * (m * m) + (6 * 0 * (h * 0) + 6 * 0 * (h * m)) + 18446744073709551616 * G : Int) = 0 + 18446744073709551616 * G := by grind
theorem ew3_03_11 (m h G : Int) : (6 * 0 * (h * m) + 3 * (h * h) * 0 + 18446744073709551616 * G : Int) = 0 + 18446744073709551616 * G := by grind
theorem ew3_03_10 (m h G : Int) : (3 * 0 * (h * h) + 18446744073709551616 * G : Int) = 0 + 18446744073709551616 * G := by grind
theorem ew3_03_03 (m h G : Int) : (m * m * m + 6 * 0 * (h * m) + 18446744073709551616 * G : Int) = m * (m * m) + 18446744073709551616 * G := by grind
theorem ew3_03_02 (m h G : Int) : (3 * h * (m * m) + 3 * (h * h) * 0 + 18446744073709551616 * G : Int) = 3 * (m * (m * h)) + 18446744073709551616 * G := by grind
theorem ew3_03_01 (m h G : Int) : (3 * (h * h) * m + 18446744073709551616 * G : Int) = 3 * (m * (h * h)) + 18446744073709551616 * G := by grind
theorem ew3_03_00 (m h G : Int) : (h * h * h + 18446744073709551616 * G : Int) = h * (h * h) + 18446744073709551616 * G := by grind
theorem ew3_03 {S : Nat → Nat → Int} {f E : Nat → Int} {c : Int} (hc : c ≠ 0) (bS : ∀ a b, (S a b).natAbs ≤ 5157348) (hS : ∀ a b, a + b ≤ 4 → S a b = c * f (7 * a + b)) (z : zr 3 0 3 f E) : TP 3 f E := by
  obtain ⟨su0, hl, hne, hz, hb, hv, H, pH, hH⟩ := z
  have su1 : SUi E 1 := su0
  have su : SUi E 2 := fun a b ha hb' h => su1 a b ha hb' (by omega)
  obtain ⟨G, hG⟩ := env_G3 su pH hH
  have hl' : ipw (E 1) 3 = f 3 := hl
  rw [lb3] at hl'
  have he : E 1 ≠ 0 := hne
  have z14 : E 14 = 0 := su1 2 0 (by decide) (by decide) (by decide)
  have z8 : E 8 = 0 := su1 1 1 (by decide) (by decide) (by decide)
  have z7 : E 7 = 0 := hz 1 0 (by decide) (by decide)
  have z2 : E 2 = 0 := su1 0 2 (by decide) (by decide) (by decide)
  have t30 : S 3 0 = c * (6 * E 14 * (E 7 * E 0) + E 7 * E 7 * E 7 + 18446744073709551616 * G 3 0) := (hS 3 0 (by decide)).trans (congrArg (fun v => c * v) (hG 3 0 (by decide)))
  have t21 : S 2 1 = c * (6 * (E 14 * E 1) * E 0 + (3 * (E 7 * E 7) * E 1 + 6 * E 7 * (E 0 * E 8)) + 18446744073709551616 * G 2 1) := (hS 2 1 (by decide)).trans (congrArg (fun v => c * v) (hG 2 1 (by decide)))
  have t20 : S 2 0 = c * (3 * E 14 * (E 0 * E 0) + 3 * (E 7 * E 7) * E 0 + 18446744073709551616 * G 2 0) := (hS 2 0 (by decide)).trans (congrArg (fun v => c * v) (hG 2 0 (by decide)))
  have t12 : S 1 2 = c * (3 * E 7 * (E 1 * E 1) + (6 * E 7 * (E 0 * E 2) + 6 * E 8 * (E 0 * E 1)) + 18446744073709551616 * G 1 2) := (hS 1 2 (by decide)).trans (congrArg (fun v => c * v) (hG 1 2 (by decide)))
  have t11 : S 1 1 = c * (6 * E 7 * (E 0 * E 1) + 3 * (E 0 * E 0) * E 8 + 18446744073709551616 * G 1 1) := (hS 1 1 (by decide)).trans (congrArg (fun v => c * v) (hG 1 1 (by decide)))
  have t10 : S 1 0 = c * (3 * E 7 * (E 0 * E 0) + 18446744073709551616 * G 1 0) := (hS 1 0 (by decide)).trans (congrArg (fun v => c * v) (hG 1 0 (by decide)))
  have t03 : S 0 3 = c * (E 1 * E 1 * E 1 + 6 * E 2 * (E 0 * E 1) + 18446744073709551616 * G 0 3) := (hS 0 3 (by decide)).trans (congrArg (fun v => c * v) (hG 0 3 (by decide)))
  have t02 : S 0 2 = c * (3 * E 0 * (E 1 * E 1) + 3 * (E 0 * E 0) * E 2 + 18446744073709551616 * G 0 2) := (hS 0 2 (by decide)).trans (congrArg (fun v => c * v) (hG 0 2 (by decide)))
  have t01 : S 0 1 = c * (3 * (E 0 * E 0) * E 1 + 18446744073709551616 * G 0 1) := (hS 0 1 (by decide)).trans (congrArg (fun v => c * v) (hG 0 1 (by decide)))
  have t00 : S 0 0 = c * (E 0 * E 0 * E 0 + 18446744073709551616 * G 0 0) := (hS 0 0 (by decide)).trans (congrArg (fun v => c * v) (hG 0 0 (by decide)))
  have zl : G 0 3 = 0 := by
    have a' : f 3 = E 1 * E 1 * E 1 + 6 * E 2 * (E 0 * E 1) + 18446744073709551616 * G 0 3 := hG 0 3 (by decide)
    rw [z2] at a'
    try simp only [Int.mul_zero, Int.zero_mul, Int.zero_add, Int.add_zero, Int.mul_assoc] at a'
    try simp only [Int.mul_zero, Int.zero_mul, Int.zero_add, Int.add_zero, Int.mul_assoc] at hl'
    omega
  rw [z14] at t30 t21 t20
  rw [z8] at t21 t12 t11
  rw [z7] at t30 t21 t20 t12 t11 t10
  rw [z2] at t12 t03 t02
  have dh : (3 * (E 1 * (E 1 * (E 0)))).natAbs ≤ 9223372036854775808 := by
    have q := hb 0 (by decide) (by decide)
    rw [db3, Int.mul_assoc, Int.mul_assoc] at q
    exact q
  obtain ⟨w30, w21, w20, w12, w11, w10, w03, w02, w01, w00⟩ := lns3y c (E 1) (E 0) (S 3 0) (S 2 1) (S 2 0) (S 1 2) (S 1 1) (S 1 0) (S 0 3) (S 0 2) (S 0 1) (S 0 0) (G 3 0) (G 2 1) (G 2 0) (G 1 2) (G 1 1) (G 1 0) (G 0 3) (G 0 2) (G 0 1) (G 0 0) hc he zl (bS 3 0) (bS 2 1) (bS 2 0) (bS 1 2) (bS 1 1) (bS 1 0) (bS 0 3) (bS 0 2) (bS 0 1) (bS 0 0) (t30.trans (congrArg (fun v => c * v) (ew3_03_30 (E 1) (E 0) (G 3 0)))) (t21.trans (congrArg (fun v => c * v) (ew3_03_21 (E 1) (E 0) (G 2 1)))) (t20.trans (congrArg (fun v => c * v) (ew3_03_20 (E 1) (E 0) (G 2 0)))) (t12.trans (congrArg (fun v => c * v) (ew3_03_12 (E 1) (E 0) (G 1 2)))) (t11.trans (congrArg (fun v => c * v) (ew3_03_11 (E 1) (E 0) (G 1 1)))) (t10.trans (congrArg (fun v => c * v) (ew3_03_10 (E 1) (E 0) (G 1 0)))) (t03.trans (congrArg (fun v => c * v) (ew3_03_03 (E 1) (E 0) (G 0 3)))) (t02.trans (congrArg (fun v => c * v) (ew3_03_02 (E 1) (E 0) (G 0 2)))) (t01.trans (congrArg (fun v => c * v) (ew3_03_01 (E 1) (E 0) (G 0 1)))) (t00.trans (congrArg (fun v => c * v) (ew3_03_00 (E 1) (E 0) (G 0 0)))) dh
  refine env_end3 su (fun a b hab => ?_)
  by_cases hd : a + b ≤ 3
  · have g0 : G a b = 0 := by
      have ha : a = 0 ∨ a = 1 ∨ a = 2 ∨ a = 3 ∨ a = 4 := by omega
      have hb : b = 0 ∨ b = 1 ∨ b = 2 ∨ b = 3 ∨ b = 4 := by omega
      clear hH hG hS hv hz
      rcases ha with ha | ha | ha | ha | ha <;> rcases hb with hb | hb | hb | hb | hb <;> subst ha <;> subst hb <;> first | (exfalso; omega) | assumption
    rw [hG a b hab, g0, Int.mul_zero, Int.add_zero]
  · rw [hv a b hab (Or.inl (by omega))]
    have ha : a = 0 ∨ a = 1 ∨ a = 2 ∨ a = 3 ∨ a = 4 ∨ a = 5 ∨ a = 6 := by omega
    have hb : b = 0 ∨ b = 1 ∨ b = 2 ∨ b = 3 ∨ b = 4 ∨ b = 5 ∨ b = 6 := by omega
    clear hH hG hS hv hz
    rcases ha with ha | ha | ha | ha | ha | ha | ha <;> rcases hb with hb | hb | hb | hb | hb | hb | hb <;> subst ha <;> subst hb <;> first | (exfalso; omega) | rfl | (simp only [s3c, z14, z8, z7, z2, Int.mul_zero, Int.zero_mul, Int.add_zero])
theorem ew4_40_40 (e g h G : Int) : (e * (e * (e * e)) + 18446744073709551616 * G : Int) = e * (e * (e * e)) + 18446744073709551616 * G := by grind
theorem ew4_40_31 (e g h G : Int) : (4 * (e * (e * (e * g))) + 18446744073709551616 * G : Int) = 4 * (e * (e * (e * g))) + 18446744073709551616 * G := by grind
theorem ew4_40_30 (e g h G : Int) : (4 * (e * (e * (e * h))) + 18446744073709551616 * G : Int) = 4 * (e * (e * (e * h))) + 18446744073709551616 * G := by grind
theorem ew4_40_22 (e g h G : Int) : (6 * (e * (e * (g * g))) + 18446744073709551616 * G : Int) = 6 * (e * (e * (g * g))) + 18446744073709551616 * G := by grind
theorem ew4_40_21 (e g h G : Int) : (12 * (e * (e * (g * h))) + 18446744073709551616 * G : Int) = 12 * (e * (e * (g * h))) + 18446744073709551616 * G := by grind
theorem ew4_40_20 (e g h G : Int) : (6 * (e * (e * (h * h))) + 18446744073709551616 * G : Int) = 6 * (e * (e * (h * h))) + 18446744073709551616 * G := by grind
theorem ew4_40_13 (e g h G : Int) : (4 * (e * (g * (g * g))) + 18446744073709551616 * G : Int) = 4 * (e * (g * (g * g))) + 18446744073709551616 * G := by grind
theorem ew4_40_12 (e g h G : Int) : (12 * (e * (g * (g * h))) + 18446744073709551616 * G : Int) = 12 * (e * (g * (g * h))) + 18446744073709551616 * G := by grind
theorem ew4_40_11 (e g h G : Int) : (12 * (e * (g * (h * h))) + 18446744073709551616 * G : Int) = 12 * (e * (g * (h * h))) + 18446744073709551616 * G := by grind
theorem ew4_40_10 (e g h G : Int) : (4 * (e * (h * (h * h))) + 18446744073709551616 * G : Int) = 4 * (e * (h * (h * h))) + 18446744073709551616 * G := by grind
theorem ew4_40_04 (e g h G : Int) : (g * (g * (g * g)) + 18446744073709551616 * G : Int) = g * (g * (g * g)) + 18446744073709551616 * G := by grind
theorem ew4_40_03 (e g h G : Int) : (4 * (g * (g * (g * h))) + 18446744073709551616 * G : Int) = 4 * (g * (g * (g * h))) + 18446744073709551616 * G := by grind
theorem ew4_40_02 (e g h G : Int) : (6 * (g * (g * (h * h))) + 18446744073709551616 * G : Int) = 6 * (g * (g * (h * h))) + 18446744073709551616 * G := by grind
theorem ew4_40_01 (e g h G : Int) : (4 * (g * (h * (h * h))) + 18446744073709551616 * G : Int) = 4 * (g * (h * (h * h))) + 18446744073709551616 * G := by grind
theorem ew4_40_00 (e g h G : Int) : (h * (h * (h * h)) + 18446744073709551616 * G : Int) = h * (h * (h * h)) + 18446744073709551616 * G := by grind
theorem ew4_40 {S : Nat → Nat → Int} {f E : Nat → Int} {c : Int} (hc : c ≠ 0) (bS : ∀ a b, (S a b).natAbs ≤ 5157348) (hS : ∀ a b, a + b ≤ 4 → S a b = c * f (7 * a + b)) (z : zr 4 4 0 f E) : TP 4 f E := by
  obtain ⟨su0, hl, hne, hz, hb, hv, H, pH, hH⟩ := z
  have su1 : SUi E 1 := su0
  have su := su1
  obtain ⟨G, hG⟩ := env_G4 su pH hH
  have hl' : ipw (E 7) 4 = f 28 := hl
  rw [lb4] at hl'
  have he : E 7 ≠ 0 := hne
  have t40 : S 4 0 = c * (E 7 * (E 7 * (E 7 * E 7)) + 18446744073709551616 * G 4 0) := (hS 4 0 (by decide)).trans (congrArg (fun v => c * v) (hG 4 0 (by decide)))
  have t31 : S 3 1 = c * (4 * (E 7 * (E 7 * (E 7 * E 1))) + 18446744073709551616 * G 3 1) := (hS 3 1 (by decide)).trans (congrArg (fun v => c * v) (hG 3 1 (by decide)))
  have t30 : S 3 0 = c * (4 * (E 7 * (E 7 * (E 7 * E 0))) + 18446744073709551616 * G 3 0) := (hS 3 0 (by decide)).trans (congrArg (fun v => c * v) (hG 3 0 (by decide)))
  have t22 : S 2 2 = c * (6 * (E 7 * (E 7 * (E 1 * E 1))) + 18446744073709551616 * G 2 2) := (hS 2 2 (by decide)).trans (congrArg (fun v => c * v) (hG 2 2 (by decide)))
  have t21 : S 2 1 = c * (12 * (E 7 * (E 7 * (E 1 * E 0))) + 18446744073709551616 * G 2 1) := (hS 2 1 (by decide)).trans (congrArg (fun v => c * v) (hG 2 1 (by decide)))
  have t20 : S 2 0 = c * (6 * (E 7 * (E 7 * (E 0 * E 0))) + 18446744073709551616 * G 2 0) := (hS 2 0 (by decide)).trans (congrArg (fun v => c * v) (hG 2 0 (by decide)))
  have t13 : S 1 3 = c * (4 * (E 7 * (E 1 * (E 1 * E 1))) + 18446744073709551616 * G 1 3) := (hS 1 3 (by decide)).trans (congrArg (fun v => c * v) (hG 1 3 (by decide)))
  have t12 : S 1 2 = c * (12 * (E 7 * (E 1 * (E 1 * E 0))) + 18446744073709551616 * G 1 2) := (hS 1 2 (by decide)).trans (congrArg (fun v => c * v) (hG 1 2 (by decide)))
  have t11 : S 1 1 = c * (12 * (E 7 * (E 1 * (E 0 * E 0))) + 18446744073709551616 * G 1 1) := (hS 1 1 (by decide)).trans (congrArg (fun v => c * v) (hG 1 1 (by decide)))
  have t10 : S 1 0 = c * (4 * (E 7 * (E 0 * (E 0 * E 0))) + 18446744073709551616 * G 1 0) := (hS 1 0 (by decide)).trans (congrArg (fun v => c * v) (hG 1 0 (by decide)))
  have t04 : S 0 4 = c * (E 1 * (E 1 * (E 1 * E 1)) + 18446744073709551616 * G 0 4) := (hS 0 4 (by decide)).trans (congrArg (fun v => c * v) (hG 0 4 (by decide)))
  have t03 : S 0 3 = c * (4 * (E 1 * (E 1 * (E 1 * E 0))) + 18446744073709551616 * G 0 3) := (hS 0 3 (by decide)).trans (congrArg (fun v => c * v) (hG 0 3 (by decide)))
  have t02 : S 0 2 = c * (6 * (E 1 * (E 1 * (E 0 * E 0))) + 18446744073709551616 * G 0 2) := (hS 0 2 (by decide)).trans (congrArg (fun v => c * v) (hG 0 2 (by decide)))
  have t01 : S 0 1 = c * (4 * (E 1 * (E 0 * (E 0 * E 0))) + 18446744073709551616 * G 0 1) := (hS 0 1 (by decide)).trans (congrArg (fun v => c * v) (hG 0 1 (by decide)))
  have t00 : S 0 0 = c * (E 0 * (E 0 * (E 0 * E 0)) + 18446744073709551616 * G 0 0) := (hS 0 0 (by decide)).trans (congrArg (fun v => c * v) (hG 0 0 (by decide)))
  have zl : G 4 0 = 0 := by
    have a' : f 28 = E 7 * (E 7 * (E 7 * E 7)) + 18446744073709551616 * G 4 0 := hG 4 0 (by decide)
    try simp only [Int.mul_zero, Int.zero_mul, Int.zero_add, Int.add_zero, Int.mul_assoc] at a'
    try simp only [Int.mul_zero, Int.zero_mul, Int.zero_add, Int.add_zero, Int.mul_assoc] at hl'
    omega
  have dg : (4 * (E 7 * (E 7 * (E 7 * (E 1))))).natAbs ≤ 9223372036854775808 := by
    have q := hb 1 (by decide) (by decide)
    rw [db4] at q
    exact q
  have dh : (4 * (E 7 * (E 7 * (E 7 * (E 0))))).natAbs ≤ 9223372036854775808 := by
    have q := hb 0 (by decide) (by decide)
    rw [db4] at q
    exact q
  obtain ⟨w40, w31, w30, w22, w21, w20, w13, w12, w11, w10, w04, w03, w02, w01, w00⟩ := lns4x c (E 7) (E 1) (E 0) (S 4 0) (S 3 1) (S 3 0) (S 2 2) (S 2 1) (S 2 0) (S 1 3) (S 1 2) (S 1 1) (S 1 0) (S 0 4) (S 0 3) (S 0 2) (S 0 1) (S 0 0) (G 4 0) (G 3 1) (G 3 0) (G 2 2) (G 2 1) (G 2 0) (G 1 3) (G 1 2) (G 1 1) (G 1 0) (G 0 4) (G 0 3) (G 0 2) (G 0 1) (G 0 0) hc he zl (bS 4 0) (bS 3 1) (bS 3 0) (bS 2 2) (bS 2 1) (bS 2 0) (bS 1 3) (bS 1 2) (bS 1 1) (bS 1 0) (bS 0 4) (bS 0 3) (bS 0 2) (bS 0 1) (bS 0 0) (t40.trans (congrArg (fun v => c * v) (ew4_40_40 (E 7) (E 1) (E 0) (G 4 0)))) (t31.trans (congrArg (fun v => c * v) (ew4_40_31 (E 7) (E 1) (E 0) (G 3 1)))) (t30.trans (congrArg (fun v => c * v) (ew4_40_30 (E 7) (E 1) (E 0) (G 3 0)))) (t22.trans (congrArg (fun v => c * v) (ew4_40_22 (E 7) (E 1) (E 0) (G 2 2)))) (t21.trans (congrArg (fun v => c * v) (ew4_40_21 (E 7) (E 1) (E 0) (G 2 1)))) (t20.trans (congrArg (fun v => c * v) (ew4_40_20 (E 7) (E 1) (E 0) (G 2 0)))) (t13.trans (congrArg (fun v => c * v) (ew4_40_13 (E 7) (E 1) (E 0) (G 1 3)))) (t12.trans (congrArg (fun v => c * v) (ew4_40_12 (E 7) (E 1) (E 0) (G 1 2)))) (t11.trans (congrArg (fun v => c * v) (ew4_40_11 (E 7) (E 1) (E 0) (G 1 1)))) (t10.trans (congrArg (fun v => c * v) (ew4_40_10 (E 7) (E 1) (E 0) (G 1 0)))) (t04.trans (congrArg (fun v => c * v) (ew4_40_04 (E 7) (E 1) (E 0) (G 0 4)))) (t03.trans (congrArg (fun v => c * v) (ew4_40_03 (E 7) (E 1) (E 0) (G 0 3)))) (t02.trans (congrArg (fun v => c * v) (ew4_40_02 (E 7) (E 1) (E 0) (G 0 2)))) (t01.trans (congrArg (fun v => c * v) (ew4_40_01 (E 7) (E 1) (E 0) (G 0 1)))) (t00.trans (congrArg (fun v => c * v) (ew4_40_00 (E 7) (E 1) (E 0) (G 0 0)))) dg dh
  refine env_end4 su (fun a b hab => ?_)
  by_cases hd : a + b ≤ 4
  · have g0 : G a b = 0 := by
      have ha : a = 0 ∨ a = 1 ∨ a = 2 ∨ a = 3 ∨ a = 4 := by omega
      have hb : b = 0 ∨ b = 1 ∨ b = 2 ∨ b = 3 ∨ b = 4 := by omega
      clear hH hG hS hv hz
      rcases ha with ha | ha | ha | ha | ha <;> rcases hb with hb | hb | hb | hb | hb <;> subst ha <;> subst hb <;> first | (exfalso; omega) | assumption
    rw [hG a b hab, g0, Int.mul_zero, Int.add_zero]
  · rw [hv a b hab (Or.inl (by omega))]
    have ha : a = 0 ∨ a = 1 ∨ a = 2 ∨ a = 3 ∨ a = 4 ∨ a = 5 ∨ a = 6 := by omega
    have hb : b = 0 ∨ b = 1 ∨ b = 2 ∨ b = 3 ∨ b = 4 ∨ b = 5 ∨ b = 6 := by omega
    clear hH hG hS hv hz
    rcases ha with ha | ha | ha | ha | ha | ha | ha <;> rcases hb with hb | hb | hb | hb | hb | hb | hb <;> subst ha <;> subst hb <;> first | (exfalso; omega) | rfl | (simp only [s4l, Int.mul_zero, Int.zero_mul, Int.add_zero])
theorem ew4_04_40 (g h G : Int) : (0 * (0 * (0 * 0)) + 18446744073709551616 * G : Int) = 0 + 18446744073709551616 * G := by grind
theorem ew4_04_31 (g h G : Int) : (4 * (0 * (0 * (0 * g))) + 18446744073709551616 * G : Int) = 0 + 18446744073709551616 * G := by grind
theorem ew4_04_30 (g h G : Int) : (4 * (0 * (0 * (0 * h))) + 18446744073709551616 * G : Int) = 0 + 18446744073709551616 * G := by grind
theorem ew4_04_22 (g h G : Int) : (6 * (0 * (0 * (g * g))) + 18446744073709551616 * G : Int) = 0 + 18446744073709551616 * G := by grind
theorem ew4_04_21 (g h G : Int) : (12 * (0 * (0 * (g * h))) + 18446744073709551616 * G : Int) = 0 + 18446744073709551616 * G := by grind
theorem ew4_04_20 (g h G : Int) : (6 * (0 * (0 * (h * h))) + 18446744073709551616 * G : Int) = 0 + 18446744073709551616 * G := by grind
theorem ew4_04_13 (g h G : Int) : (4 * (0 * (g * (g * g))) + 18446744073709551616 * G : Int) = 0 + 18446744073709551616 * G := by grind
theorem ew4_04_12 (g h G : Int) : (12 * (0 * (g * (g * h))) + 18446744073709551616 * G : Int) = 0 + 18446744073709551616 * G := by grind
theorem ew4_04_11 (g h G : Int) : (12 * (0 * (g * (h * h))) + 18446744073709551616 * G : Int) = 0 + 18446744073709551616 * G := by grind
theorem ew4_04_10 (g h G : Int) : (4 * (0 * (h * (h * h))) + 18446744073709551616 * G : Int) = 0 + 18446744073709551616 * G := by grind
theorem ew4_04_04 (g h G : Int) : (g * (g * (g * g)) + 18446744073709551616 * G : Int) = g * (g * (g * g)) + 18446744073709551616 * G := by grind
theorem ew4_04_03 (g h G : Int) : (4 * (g * (g * (g * h))) + 18446744073709551616 * G : Int) = 4 * (g * (g * (g * h))) + 18446744073709551616 * G := by grind
theorem ew4_04_02 (g h G : Int) : (6 * (g * (g * (h * h))) + 18446744073709551616 * G : Int) = 6 * (g * (g * (h * h))) + 18446744073709551616 * G := by grind
theorem ew4_04_01 (g h G : Int) : (4 * (g * (h * (h * h))) + 18446744073709551616 * G : Int) = 4 * (g * (h * (h * h))) + 18446744073709551616 * G := by grind
theorem ew4_04_00 (g h G : Int) : (h * (h * (h * h)) + 18446744073709551616 * G : Int) = h * (h * (h * h)) + 18446744073709551616 * G := by grind
theorem ew4_04 {S : Nat → Nat → Int} {f E : Nat → Int} {c : Int} (hc : c ≠ 0) (bS : ∀ a b, (S a b).natAbs ≤ 5157348) (hS : ∀ a b, a + b ≤ 4 → S a b = c * f (7 * a + b)) (z : zr 4 0 4 f E) : TP 4 f E := by
  obtain ⟨su0, hl, hne, hz, hb, hv, H, pH, hH⟩ := z
  have su1 : SUi E 1 := su0
  have su := su1
  obtain ⟨G, hG⟩ := env_G4 su pH hH
  have hl' : ipw (E 1) 4 = f 4 := hl
  rw [lb4] at hl'
  have he : E 1 ≠ 0 := hne
  have z7 : E 7 = 0 := hz 1 0 (by decide) (by decide)
  have t40 : S 4 0 = c * (E 7 * (E 7 * (E 7 * E 7)) + 18446744073709551616 * G 4 0) := (hS 4 0 (by decide)).trans (congrArg (fun v => c * v) (hG 4 0 (by decide)))
  have t31 : S 3 1 = c * (4 * (E 7 * (E 7 * (E 7 * E 1))) + 18446744073709551616 * G 3 1) := (hS 3 1 (by decide)).trans (congrArg (fun v => c * v) (hG 3 1 (by decide)))
  have t30 : S 3 0 = c * (4 * (E 7 * (E 7 * (E 7 * E 0))) + 18446744073709551616 * G 3 0) := (hS 3 0 (by decide)).trans (congrArg (fun v => c * v) (hG 3 0 (by decide)))
  have t22 : S 2 2 = c * (6 * (E 7 * (E 7 * (E 1 * E 1))) + 18446744073709551616 * G 2 2) := (hS 2 2 (by decide)).trans (congrArg (fun v => c * v) (hG 2 2 (by decide)))
  have t21 : S 2 1 = c * (12 * (E 7 * (E 7 * (E 1 * E 0))) + 18446744073709551616 * G 2 1) := (hS 2 1 (by decide)).trans (congrArg (fun v => c * v) (hG 2 1 (by decide)))
  have t20 : S 2 0 = c * (6 * (E 7 * (E 7 * (E 0 * E 0))) + 18446744073709551616 * G 2 0) := (hS 2 0 (by decide)).trans (congrArg (fun v => c * v) (hG 2 0 (by decide)))
  have t13 : S 1 3 = c * (4 * (E 7 * (E 1 * (E 1 * E 1))) + 18446744073709551616 * G 1 3) := (hS 1 3 (by decide)).trans (congrArg (fun v => c * v) (hG 1 3 (by decide)))
  have t12 : S 1 2 = c * (12 * (E 7 * (E 1 * (E 1 * E 0))) + 18446744073709551616 * G 1 2) := (hS 1 2 (by decide)).trans (congrArg (fun v => c * v) (hG 1 2 (by decide)))
  have t11 : S 1 1 = c * (12 * (E 7 * (E 1 * (E 0 * E 0))) + 18446744073709551616 * G 1 1) := (hS 1 1 (by decide)).trans (congrArg (fun v => c * v) (hG 1 1 (by decide)))
  have t10 : S 1 0 = c * (4 * (E 7 * (E 0 * (E 0 * E 0))) + 18446744073709551616 * G 1 0) := (hS 1 0 (by decide)).trans (congrArg (fun v => c * v) (hG 1 0 (by decide)))
  have t04 : S 0 4 = c * (E 1 * (E 1 * (E 1 * E 1)) + 18446744073709551616 * G 0 4) := (hS 0 4 (by decide)).trans (congrArg (fun v => c * v) (hG 0 4 (by decide)))
  have t03 : S 0 3 = c * (4 * (E 1 * (E 1 * (E 1 * E 0))) + 18446744073709551616 * G 0 3) := (hS 0 3 (by decide)).trans (congrArg (fun v => c * v) (hG 0 3 (by decide)))
  have t02 : S 0 2 = c * (6 * (E 1 * (E 1 * (E 0 * E 0))) + 18446744073709551616 * G 0 2) := (hS 0 2 (by decide)).trans (congrArg (fun v => c * v) (hG 0 2 (by decide)))
  have t01 : S 0 1 = c * (4 * (E 1 * (E 0 * (E 0 * E 0))) + 18446744073709551616 * G 0 1) := (hS 0 1 (by decide)).trans (congrArg (fun v => c * v) (hG 0 1 (by decide)))
  have t00 : S 0 0 = c * (E 0 * (E 0 * (E 0 * E 0)) + 18446744073709551616 * G 0 0) := (hS 0 0 (by decide)).trans (congrArg (fun v => c * v) (hG 0 0 (by decide)))
  have zl : G 0 4 = 0 := by
    have a' : f 4 = E 1 * (E 1 * (E 1 * E 1)) + 18446744073709551616 * G 0 4 := hG 0 4 (by decide)
    try simp only [Int.mul_zero, Int.zero_mul, Int.zero_add, Int.add_zero, Int.mul_assoc] at a'
    try simp only [Int.mul_zero, Int.zero_mul, Int.zero_add, Int.add_zero, Int.mul_assoc] at hl'
    omega
  rw [z7] at t40 t31 t30 t22 t21 t20 t13 t12 t11 t10
  have dh : (4 * (E 1 * (E 1 * (E 1 * (E 0))))).natAbs ≤ 9223372036854775808 := by
    have q := hb 0 (by decide) (by decide)
    rw [db4] at q
    exact q
  obtain ⟨w40, w31, w30, w22, w21, w20, w13, w12, w11, w10, w04, w03, w02, w01, w00⟩ := lns4y c (E 1) (E 0) (S 4 0) (S 3 1) (S 3 0) (S 2 2) (S 2 1) (S 2 0) (S 1 3) (S 1 2) (S 1 1) (S 1 0) (S 0 4) (S 0 3) (S 0 2) (S 0 1) (S 0 0) (G 4 0) (G 3 1) (G 3 0) (G 2 2) (G 2 1) (G 2 0) (G 1 3) (G 1 2) (G 1 1) (G 1 0) (G 0 4) (G 0 3) (G 0 2) (G 0 1) (G 0 0) hc he zl (bS 4 0) (bS 3 1) (bS 3 0) (bS 2 2) (bS 2 1) (bS 2 0) (bS 1 3) (bS 1 2) (bS 1 1) (bS 1 0) (bS 0 4) (bS 0 3) (bS 0 2) (bS 0 1) (bS 0 0) (t40.trans (congrArg (fun v => c * v) (ew4_04_40 (E 1) (E 0) (G 4 0)))) (t31.trans (congrArg (fun v => c * v) (ew4_04_31 (E 1) (E 0) (G 3 1)))) (t30.trans (congrArg (fun v => c * v) (ew4_04_30 (E 1) (E 0) (G 3 0)))) (t22.trans (congrArg (fun v => c * v) (ew4_04_22 (E 1) (E 0) (G 2 2)))) (t21.trans (congrArg (fun v => c * v) (ew4_04_21 (E 1) (E 0) (G 2 1)))) (t20.trans (congrArg (fun v => c * v) (ew4_04_20 (E 1) (E 0) (G 2 0)))) (t13.trans (congrArg (fun v => c * v) (ew4_04_13 (E 1) (E 0) (G 1 3)))) (t12.trans (congrArg (fun v => c * v) (ew4_04_12 (E 1) (E 0) (G 1 2)))) (t11.trans (congrArg (fun v => c * v) (ew4_04_11 (E 1) (E 0) (G 1 1)))) (t10.trans (congrArg (fun v => c * v) (ew4_04_10 (E 1) (E 0) (G 1 0)))) (t04.trans (congrArg (fun v => c * v) (ew4_04_04 (E 1) (E 0) (G 0 4)))) (t03.trans (congrArg (fun v => c * v) (ew4_04_03 (E 1) (E 0) (G 0 3)))) (t02.trans (congrArg (fun v => c * v) (ew4_04_02 (E 1) (E 0) (G 0 2)))) (t01.trans (congrArg (fun v => c * v) (ew4_04_01 (E 1) (E 0) (G 0 1)))) (t00.trans (congrArg (fun v => c * v) (ew4_04_00 (E 1) (E 0) (G 0 0)))) dh
  refine env_end4 su (fun a b hab => ?_)
  by_cases hd : a + b ≤ 4
  · have g0 : G a b = 0 := by
      have ha : a = 0 ∨ a = 1 ∨ a = 2 ∨ a = 3 ∨ a = 4 := by omega
      have hb : b = 0 ∨ b = 1 ∨ b = 2 ∨ b = 3 ∨ b = 4 := by omega
      clear hH hG hS hv hz
      rcases ha with ha | ha | ha | ha | ha <;> rcases hb with hb | hb | hb | hb | hb <;> subst ha <;> subst hb <;> first | (exfalso; omega) | assumption
    rw [hG a b hab, g0, Int.mul_zero, Int.add_zero]
  · rw [hv a b hab (Or.inl (by omega))]
    have ha : a = 0 ∨ a = 1 ∨ a = 2 ∨ a = 3 ∨ a = 4 ∨ a = 5 ∨ a = 6 := by omega
    have hb : b = 0 ∨ b = 1 ∨ b = 2 ∨ b = 3 ∨ b = 4 ∨ b = 5 ∨ b = 6 := by omega
    clear hH hG hS hv hz
    rcases ha with ha | ha | ha | ha | ha | ha | ha <;> rcases hb with hb | hb | hb | hb | hb | hb | hb <;> subst ha <;> subst hb <;> first | (exfalso; omega) | rfl | (simp only [s4l, z7, Int.mul_zero, Int.zero_mul, Int.add_zero])
