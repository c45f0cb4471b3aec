/-! a pencil through a quartic that the discriminant meets twice: lead x^4 y^2 -/
theorem s5_eq (C e1 e2 e3 h5 M G2 G3 G4 G5 : Int) (q2 : G2 = C * (e1 * e1)) (q3 : G3 = C * (2 * e1 * e2)) (q4 : G4 = C * (2 * e1 * e3 + e2 * e2)) (q5 : G5 = C * (2 * e2 * e3 + M * h5)) : 8 * (G2 * G2) * G5 - G3 * (4 * G2 * G4 - G3 * G3) = 8 * (C * C * C * (e1 * e1 * (e1 * e1))) * (M * h5) := by
  rw [q2, q3, q4, q5]
  clear q2 q3 q4 q5
  grind
theorem bin2s (C e1 e2 e3 h5 h6 G2 G3 G4 G5 G6 : Int) (A g b4 b5 : Nat) (q2 : G2 = C * (e1 * e1)) (q3 : G3 = C * (2 * e1 * e2)) (q4 : G4 = C * (2 * e1 * e3 + e2 * e2)) (q5 : G5 = C * (2 * e2 * e3 + 18446744073709551616 * h5)) (q6 : G6 = C * (e3 * e3 + 18446744073709551616 * h6))
    (hA : G2.natAbs = A) (hg : G3.natAbs ≤ g) (hb4 : G4.natAbs ≤ b4) (hb5 : G5.natAbs ≤ b5) (hb4' : G4.natAbs < 27 * 4294967296) (hb5' : G5.natAbs < 27 * 1073741824) (hb6 : G6.natAbs < 2 ^ 62) (he : e1 ≠ 0) (hC : 27 ≤ C.natAbs)
    (cr : 8 * (A * A) * b5 + g * (4 * A * b4 + g * g) < 8 * (27 * (A * A)) * 18446744073709551616) : h5 = 0 ∧ h6 = 0 := by
  have hA2 : C.natAbs * (e1.natAbs * e1.natAbs) = A := by rw [← hA, q2, Int.natAbs_mul, Int.natAbs_mul]
  have R := s5_eq C e1 e2 e3 h5 18446744073709551616 G2 G3 G4 G5 q2 q3 q4 q5
  have n0 : (8 * (G2 * G2) * G5 - G3 * (4 * G2 * G4 - G3 * G3)).natAbs ≤ 8 * (A * A) * b5 + g * (4 * A * b4 + g * g) :=
    ns_le (nmul_le (nmul_le (show (8 : Int).natAbs ≤ 8 by decide) (nmul_le (Nat.le_of_eq hA) (Nat.le_of_eq hA))) hb5) (nmul_le hg (ns_le (nmul_le (nmul_le k4 (Nat.le_of_eq hA)) hb4) (nmul_le hg hg)))
  have z5 : h5 = 0 := by
    refine big_zero _ h5 (8 * (C.natAbs * (A * A))) _ ?_ n0 ?_
    · rw [R]
      simp only [Int.natAbs_mul]
      rw [← hA2]
      have a1 : (8 : Int).natAbs = 8 := rfl
      have a2 : (18446744073709551616 : Int).natAbs = 18446744073709551616 := rfl
      rw [a1, a2]
      clear R n0 cr
      grind
    · refine Nat.lt_of_lt_of_le cr (Nat.mul_le_mul (Nat.mul_le_mul (Nat.le_refl 8) (Nat.mul_le_mul hC (Nat.le_refl _))) (Nat.le_refl _))
  have he1 : 1 ≤ e1.natAbs := Int.natAbs_pos.mpr he
  have p4 : (2 * e1 * e3 + e2 * e2).natAbs < 4294967296 := dv27 C _ _ _ hC q4 hb4'
  have p5 : (2 * e2 * e3 + 18446744073709551616 * h5).natAbs < 1073741824 := dv27 C _ _ _ hC q5 hb5'
  have s3 : e3.natAbs < 2147483648 := by
    by_cases r : e2 = 0
    · rw [r, Int.mul_zero, Int.add_zero] at p4
      have := div_two e1 e3 1 4294967295 (Nat.le_of_lt_succ p4) he1
      omega
    · rw [z5, Int.mul_zero, Int.add_zero] at p5
      have := div_two e2 e3 1 _ (Nat.le_of_lt p5) (Int.natAbs_pos.mpr r)
      omega
  refine ⟨z5, ?_⟩
  have a1 : (e3 * e3 + 18446744073709551616 * h6).natAbs < 2 ^ 62 := by
    refine Nat.lt_of_le_of_lt ?_ hb6
    rw [q6, Int.natAbs_mul]
    exact Nat.le_mul_of_pos_left _ (by omega)
  have e62 : (2 : Nat) ^ 62 = 4611686018427387904 := by decide +kernel
  rw [e62] at a1
  have a2 : (e3 * e3).natAbs ≤ 2147483648 * 2147483648 := nmul_le (Nat.le_of_lt s3) (Nat.le_of_lt s3)
  clear p4 p5 s3 R n0 cr q2 q3 q4 q5 q6
  generalize e3 * e3 = p at *
  omega
