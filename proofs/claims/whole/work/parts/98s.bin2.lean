/-! a square mod 2^64 whose first digits are true: the sizes that make it a true square -/
theorem nsub_le (a b : Int) : (a - b).natAbs ≤ a.natAbs + b.natAbs := by omega
theorem nadd_le (a b : Int) : (a + b).natAbs ≤ a.natAbs + b.natAbs := by omega
theorem nsub_ge (a b : Int) : a.natAbs ≤ (a - b).natAbs + b.natAbs := by omega
theorem nsub_ge' (a b : Int) : b.natAbs ≤ (a - b).natAbs + a.natAbs := by omega
theorem sq_lt {a b : Nat} (h : a * a < b * b) : a < b := by
  rcases Nat.lt_or_ge a b with q | q
  · exact q
  · exact absurd (Nat.mul_le_mul q q) (by omega)
theorem kp_zero (C e0 e1 e2 e3 h3 h4 G0 G1 G2 G3 G4 : Int) (A g b2 b3 b4 S : Nat) (q0 : G0 = C * (e0 * e0)) (q1 : G1 = C * (2 * e0 * e1)) (q2 : G2 = C * (2 * e0 * e2 + e1 * e1)) (q3 : G3 = C * (2 * e0 * e3 + 2 * e1 * e2 + 18446744073709551616 * h3)) (q4 : G4 = C * (2 * e1 * e3 + e2 * e2 + 18446744073709551616 * h4))
    (hA : G0.natAbs = A) (hg : G1.natAbs ≤ g) (h2 : G2.natAbs ≤ b2) (hb3 : G3.natAbs ≤ b3) (hb4 : G4.natAbs ≤ b4) (hS : e0.natAbs * e0.natAbs ≤ S)
    (cr : S * S * S * (((4 * A * b2 + g * g) * (5 * (g * g) + 4 * A * b2) + 32 * (A * A) * (g * b3 + 2 * (A * b4))) * ((4 * A * b2 + g * g) * (5 * (g * g) + 4 * A * b2) + 32 * (A * A) * (g * b3 + 2 * (A * b4)))) < 2 ^ 140 * (A * A * A * A * (A * A * A * A))) : e0 * h4 - e1 * h3 = 0 := by
  have K := kp_eq C e0 e1 e2 e3 h3 h4 18446744073709551616 G0 G1 G2 G3 G4 q0 q1 q2 q3 q4
  by_cases hk : e0 * h4 - e1 * h3 = 0
  · exact hk
  · exfalso
    have hk1 : 1 ≤ (e0 * h4 - e1 * h3).natAbs := by omega
    generalize e0 * h4 - e1 * h3 = k at *
    have n1 : (4 * G0 * G2 - G1 * G1).natAbs ≤ 4 * A * b2 + g * g := by
      refine Nat.le_trans (nsub_le _ _) ?_
      rw [Int.natAbs_mul, Int.natAbs_mul, Int.natAbs_mul, hA]
      exact Nat.add_le_add (Nat.mul_le_mul (Nat.le_refl _) h2) (Nat.mul_le_mul hg hg)
    have n2 : (5 * (G1 * G1) - 4 * G0 * G2).natAbs ≤ 5 * (g * g) + 4 * A * b2 := by
      refine Nat.le_trans (nsub_le _ _) ?_
      rw [Int.natAbs_mul, Int.natAbs_mul, Int.natAbs_mul, Int.natAbs_mul, hA]
      exact Nat.add_le_add (Nat.mul_le_mul (Nat.le_refl _) (Nat.mul_le_mul hg hg)) (Nat.mul_le_mul (Nat.le_refl _) h2)
    have n3 : (32 * (G0 * G0) * (G1 * G3 - 2 * (G0 * G4))).natAbs ≤ 32 * (A * A) * (g * b3 + 2 * (A * b4)) := by
      rw [Int.natAbs_mul, Int.natAbs_mul, Int.natAbs_mul, hA]
      refine Nat.mul_le_mul (Nat.le_refl _) (Nat.le_trans (nsub_le _ _) ?_)
      rw [Int.natAbs_mul, Int.natAbs_mul, Int.natAbs_mul, hA]
      exact Nat.add_le_add (Nat.mul_le_mul hg hb3) (Nat.mul_le_mul (Nat.le_refl _) (Nat.mul_le_mul (Nat.le_refl _) hb4))
    have n4 := nsub_le ((4 * G0 * G2 - G1 * G1) * (5 * (G1 * G1) - 4 * G0 * G2)) (32 * (G0 * G0) * (G1 * G3 - 2 * (G0 * G4)))
    rw [K, Int.natAbs_mul (4 * G0 * G2 - G1 * G1)] at n4
    have n5 := Nat.le_trans n4 (Nat.add_le_add (Nat.mul_le_mul n1 n2) n3)
    generalize (4 * A * b2 + g * g) * (5 * (g * g) + 4 * A * b2) + 32 * (A * A) * (g * b3 + 2 * (A * b4)) = N at *
    simp only [Int.natAbs_mul] at n5
    have hA2 : C.natAbs * (e0.natAbs * e0.natAbs) = A := by rw [← hA, q0, Int.natAbs_mul, Int.natAbs_mul]
    generalize C.natAbs = c at *
    generalize e0.natAbs = e at *
    generalize k.natAbs = kk at *
    have n6 : 64 * (c * c * c * c * (e * e * e * e * e)) * 18446744073709551616 ≤ N := by
      refine Nat.le_trans ?_ n5
      have : (18446744073709551616 : Int).natAbs = 18446744073709551616 := rfl
      have : (64 : Int).natAbs = 64 := rfl
      refine Nat.mul_le_mul (Nat.le_refl _) ?_
      exact Nat.le_trans (by decide) (Nat.le_mul_of_pos_right _ hk1)
    have n7 : 1180591620717411303424 * (A * A * A * A) ≤ N * (e * e * e) := by
      refine Nat.le_trans (Nat.le_of_eq ?_) (Nat.mul_le_mul n6 (Nat.le_refl (e * e * e)))
      rw [← hA2]
      grind
    have n8 := Nat.mul_le_mul n7 n7
    have n9 : N * (e * e * e) * (N * (e * e * e)) ≤ S * S * S * (N * N) := by
      refine Nat.le_trans (Nat.le_of_eq ?_) (Nat.mul_le_mul (Nat.mul_le_mul (Nat.mul_le_mul hS hS) hS) (Nat.le_refl (N * N)))
      grind
    have n10 : 1180591620717411303424 * (A * A * A * A) * (1180591620717411303424 * (A * A * A * A)) = 2 ^ 140 * (A * A * A * A * (A * A * A * A)) := by
      have : (2 : Nat) ^ 140 = 1180591620717411303424 * 1180591620717411303424 := by decide +kernel
      rw [this]
      grind
    omega
