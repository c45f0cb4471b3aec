/-- the zone: one of two numbers is small -/
theorem zone2 (G0 G1 G2 G3 G4 : Int) (A g b2 b3 b4 t : Nat) (hA : G0.natAbs = A) (hg : G1.natAbs ≤ g) (h2 : G2.natAbs ≤ b2) (hb3 : G3.natAbs ≤ b3) (hb4 : G4.natAbs ≤ b4)
    (K : (4 * G0 * G2 - G1 * G1) * (5 * (G1 * G1) - 4 * G0 * G2) = 32 * (G0 * G0) * (G1 * G3 - 2 * (G0 * G4)))
    (ht : 32 * (A * A) * (g * b3 + 2 * (A * b4)) ≤ t * t) :
    (G1.natAbs * G1.natAbs ≤ 4 * (A * b2) + t ∧ (4 * G0 * G2 - G1 * G1).natAbs ≤ t) ∨ (G1.natAbs * G1.natAbs ≤ (4 * (A * b2) + t) / 5 ∧ (4 * G0 * G2 - G1 * G1).natAbs ≤ 4 * ((4 * (A * b2) + t) / 5) + t) := by
  have m1 : (4 * G0 * G2).natAbs ≤ 4 * (A * b2) := by
    rw [Int.natAbs_mul, Int.natAbs_mul, hA]
    refine Nat.le_trans (Nat.mul_le_mul (Nat.le_refl _) h2) (Nat.le_of_eq ?_)
    show 4 * A * b2 = _
    rw [Nat.mul_assoc]
  have m2 := nsub_ge' (4 * G0 * G2) (G1 * G1)
  have m3 := nsub_ge (5 * (G1 * G1)) (4 * G0 * G2)
  have m6 := nsub_le (4 * (G1 * G1)) (5 * (G1 * G1) - 4 * G0 * G2)
  have m7 : 4 * (G1 * G1) - (5 * (G1 * G1) - 4 * G0 * G2) = 4 * G0 * G2 - G1 * G1 := by omega
  rw [m7] at m6
  have m4 : (32 * (G0 * G0) * (G1 * G3 - 2 * (G0 * G4))).natAbs ≤ 32 * (A * A) * (g * b3 + 2 * (A * b4)) := by
    rw [Int.natAbs_mul, Int.natAbs_mul, Int.natAbs_mul, hA]
    refine Nat.mul_le_mul (Nat.le_refl _) (Nat.le_trans (nsub_le _ _) ?_)
    rw [Int.natAbs_mul, Int.natAbs_mul, Int.natAbs_mul, hA]
    exact Nat.add_le_add (Nat.mul_le_mul hg hb3) (Nat.mul_le_mul (Nat.le_refl _) (Nat.mul_le_mul (Nat.le_refl _) hb4))
  rw [← K, Int.natAbs_mul] at m4
  rw [Int.natAbs_mul G1 G1] at m2
  rw [Int.natAbs_mul 5, Int.natAbs_mul G1 G1] at m3
  rw [Int.natAbs_mul 4, Int.natAbs_mul G1 G1] at m6
  have m5 : (5 : Int).natAbs = 5 := rfl
  have m8 : (4 : Int).natAbs = 4 := rfl
  rw [m5] at m3
  rw [m8] at m6
  generalize G1.natAbs = y at *
  generalize (4 * G0 * G2).natAbs = z at *
  generalize (4 * G0 * G2 - G1 * G1).natAbs = u at *
  generalize (5 * (G1 * G1) - 4 * G0 * G2).natAbs = v at *
  rcases Nat.lt_or_ge t u with r | r
  · rcases Nat.lt_or_ge t v with s | s
    · exact absurd (Nat.mul_lt_mul'' r s) (by omega)
    · right
      omega
  · left
    omega
theorem dv27 (C f G : Int) (n : Nat) (hC : 27 ≤ C.natAbs) (h : G = C * f) (hG : G.natAbs < 27 * n) : f.natAbs < n := by
  rw [h, Int.natAbs_mul] at hG
  rcases Nat.lt_or_ge f.natAbs n with r | r
  · exact r
  · exact absurd (Nat.mul_le_mul hC r) (by omega)
/-- a square mod 2^64 with true first digits, one of them small, is a true square -/
theorem bin2u (C e0 e1 e2 e3 h3 h4 h5 h6 G0 G1 G2 G3 G4 G5 G6 : Int) (A u w b3 S : Nat) (q0 : G0 = C * (e0 * e0)) (q1 : G1 = C * (2 * e0 * e1)) (q2 : G2 = C * (2 * e0 * e2 + e1 * e1)) (q3 : G3 = C * (2 * e0 * e3 + 2 * e1 * e2 + 18446744073709551616 * h3)) (q5 : G5 = C * (2 * e2 * e3 + 18446744073709551616 * h5)) (q6 : G6 = C * (e3 * e3 + 18446744073709551616 * h6))
    (hk : e0 * h4 - e1 * h3 = 0)
    (hA : G0.natAbs = A) (hb3 : G3.natAbs ≤ b3) (hb5 : G5.natAbs < 27 * 1073741824) (hb6 : G6.natAbs < 2 ^ 62) (hS : e0.natAbs * e0.natAbs ≤ S)
    (he0 : e0 ≠ 0) (hC : 27 ≤ C.natAbs) (hd : (2 * e0 * e3).natAbs ≤ 2 ^ 63) (hb : b3 < 27 * 4294967296)
    (z : G1.natAbs * G1.natAbs ≤ u) (f2 : (4 * G0 * G2 - G1 * G1).natAbs ≤ w)
    (c6 : S * S * (w * w) * (64 * (A * A * A * A * (b3 * b3)) + u * (w * w)) < 2 ^ 137 * (A * A * A * A * A * (A * A * A * A * A))) (c5 : S * S * (u * (w * w)) < 2 ^ 130 * (A * A * A * (A * A * A))) : h3 = 0 ∧ h4 = 0 ∧ h5 = 0 ∧ h6 = 0 := by
  have hA2 : C.natAbs * (e0.natAbs * e0.natAbs) = A := by rw [← hA, q0, Int.natAbs_mul, Int.natAbs_mul]
  have hc1 : 1 ≤ C.natAbs := by omega
  have he1 : 1 ≤ e0.natAbs := by omega
  have hA0 : 0 < A := by
    rw [← hA2]
    exact Nat.mul_pos hc1 (Nat.mul_pos he1 he1)
  have f1 : 4 * G0 * G2 - G1 * G1 = 8 * (C * C) * (e0 * e0 * e0 * e2) := by rw [q0, q1, q2]; grind
  have f1n : (4 * G0 * G2 - G1 * G1).natAbs = 8 * (C.natAbs * C.natAbs) * (e0.natAbs * e0.natAbs * e0.natAbs * e2.natAbs) := by
    rw [f1]
    simp only [Int.natAbs_mul]
    rfl
  -- 2 e1 e2
  have f4 : (2 * e1 * e2).natAbs < 2 ^ 62 := by
    apply sq_lt
    have a1 : (2 * C * e0 * e1).natAbs = G1.natAbs := by rw [q1]; congr 1; grind
    have a2 : 2 * C.natAbs * e0.natAbs * e1.natAbs = G1.natAbs := by
      rw [← a1, Int.natAbs_mul, Int.natAbs_mul, Int.natAbs_mul]
      rfl
    have a3 : (2 * e1 * e2).natAbs = 2 * e1.natAbs * e2.natAbs := by
      rw [Int.natAbs_mul, Int.natAbs_mul]
      rfl
    rw [a3]
    rw [← a2] at z
    rw [f1n] at f2
    generalize C.natAbs = c at *
    generalize e0.natAbs = e at *
    generalize e2.natAbs = x at *
    generalize e1.natAbs = v at *
    have z3 := Nat.mul_le_mul f2 f2
    have z4 := Nat.mul_le_mul z z3
    have z5 : 2 * c * e * v * (2 * c * e * v) * (8 * (c * c) * (e * e * e * x) * (8 * (c * c) * (e * e * e * x))) * (e * e * (e * e)) = 64 * (A * A * A * (A * A * A) * (2 * v * x * (2 * v * x))) := by
      rw [← hA2]
      grind
    have z6 := Nat.mul_le_mul z4 (Nat.mul_le_mul hS hS)
    rw [z5] at z6
    have z7 : u * (w * w) * (S * S) = S * S * (u * (w * w)) := Nat.mul_comm _ _
    have z8 : 2 ^ 130 * (A * A * A * (A * A * A)) = 64 * (A * A * A * (A * A * A) * 2 ^ 124) := by
      have : (2 : Nat) ^ 130 = 64 * 2 ^ 124 := by decide +kernel
      rw [this]
      grind
    have z9 : A * A * A * (A * A * A) * (2 * v * x * (2 * v * x)) < A * A * A * (A * A * A) * 2 ^ 124 := by omega
    have z10 := Nat.lt_of_mul_lt_mul_left z9
    have z11 : (2 : Nat) ^ 62 * 2 ^ 62 = 2 ^ 124 := by decide +kernel
    rw [z11]
    exact z10
  have e62 : (2 : Nat) ^ 62 = 4611686018427387904 := by decide +kernel
  have e63 : (2 : Nat) ^ 63 = 9223372036854775808 := by decide +kernel
  have g3 : h3 = 0 := by
    have a1 : (2 * e0 * e3 + 2 * e1 * e2 + 18446744073709551616 * h3).natAbs < 4294967296 := dv27 C _ _ _ hC q3 (Nat.lt_of_le_of_lt hb3 hb)
    rw [e62] at f4
    rw [e63] at hd
    generalize 2 * e0 * e3 = p at *
    generalize 2 * e1 * e2 = r at *
    omega
  have g4 : h4 = 0 := by
    rw [g3, Int.mul_zero, Int.sub_zero] at hk
    rcases Int.mul_eq_zero.mp hk with r | r
    · exact absurd r he0
    · exact r
  -- e3
  have f5 : (2 * e2 * e3).natAbs < 2 ^ 63 := by
    apply sq_lt
    have a0 : (2 * e2 * e3).natAbs = 2 * e2.natAbs * e3.natAbs := by
      rw [Int.natAbs_mul, Int.natAbs_mul]
      rfl
    rw [a0]
    have a1 : 8 * (G0 * G0) * G3 - G1 * (4 * G0 * G2 - G1 * G1) = 16 * (C * C * C) * (e0 * e0 * e0 * e0 * e0 * e3) := by
      rw [f1, q0, q1, q3, g3]
      grind
    have a2 := nsub_le (8 * (G0 * G0) * G3) (G1 * (4 * G0 * G2 - G1 * G1))
    rw [a1] at a2
    have a3 : (8 * (G0 * G0) * G3).natAbs ≤ 8 * (A * A * b3) := by
      rw [Int.natAbs_mul, Int.natAbs_mul, Int.natAbs_mul, hA]
      refine Nat.le_trans (Nat.mul_le_mul (Nat.le_refl _) hb3) (Nat.le_of_eq ?_)
      show 8 * (A * A) * b3 = _
      grind
    have a4 : (G1 * (4 * G0 * G2 - G1 * G1)).natAbs ≤ G1.natAbs * w := by
      rw [Int.natAbs_mul]
      exact Nat.mul_le_mul (Nat.le_refl _) f2
    have a5 := Nat.le_trans a2 (Nat.add_le_add a3 a4)
    simp only [Int.natAbs_mul] at a5
    have m5 : (16 : Int).natAbs = 16 := rfl
    rw [m5] at a5
    rw [f1n] at f2
    clear a2 a3 a4 a1 a0 f1n
    generalize G1.natAbs = y at *
    generalize C.natAbs = c at *
    generalize e0.natAbs = e at *
    generalize e3.natAbs = v at *
    generalize e2.natAbs = x at *
    have a7 := Nat.mul_le_mul a5 a5
    have a8 : (8 * (A * A * b3) + y * w) * (8 * (A * A * b3) + y * w) ≤ 128 * (A * A * A * A * (b3 * b3)) + 2 * (y * y * (w * w)) := by
      have t : ∀ p q : Nat, (p + q) * (p + q) ≤ 2 * (p * p) + 2 * (q * q) := by
        intro p q
        rcases Nat.le_total p q with r | r
        · obtain ⟨d, rfl⟩ := Nat.exists_eq_add_of_le r
          have : 2 * (p * p) + 2 * ((p + d) * (p + d)) = (p + (p + d)) * (p + (p + d)) + d * d := by grind
          omega
        · obtain ⟨d, rfl⟩ := Nat.exists_eq_add_of_le r
          have : 2 * ((q + d) * (q + d)) + 2 * (q * q) = (q + d + q) * (q + d + q) + d * d := by grind
          omega
      refine Nat.le_trans (t _ _) (Nat.le_of_eq ?_)
      grind
    have a9 : y * y * (w * w) ≤ u * (w * w) := Nat.mul_le_mul z (Nat.le_refl _)
    have a10 : 16 * (c * c * c) * (e * e * e * e * e * v) * (16 * (c * c * c) * (e * e * e * e * e * v)) ≤ 2 * (64 * (A * A * A * A * (b3 * b3)) + u * (w * w)) := by omega
    have a11 := Nat.mul_le_mul (Nat.mul_le_mul f2 f2) a10
    have a12 := Nat.mul_le_mul a11 (Nat.mul_le_mul hS hS)
    have a13 : 8 * (c * c) * (e * e * e * x) * (8 * (c * c) * (e * e * e * x)) * (16 * (c * c * c) * (e * e * e * e * e * v) * (16 * (c * c * c) * (e * e * e * e * e * v))) * (e * e * (e * e)) = 4096 * (A * A * A * A * A * (A * A * A * A * A) * (2 * x * v * (2 * x * v))) := by
      rw [← hA2]
      grind
    rw [a13] at a12
    have a14 : w * w * (2 * (64 * (A * A * A * A * (b3 * b3)) + u * (w * w))) * (S * S) = 2 * (S * S * (w * w) * (64 * (A * A * A * A * (b3 * b3)) + u * (w * w))) := by grind
    rw [a14] at a12
    have a15 : 2 * (2 ^ 137 * (A * A * A * A * A * (A * A * A * A * A))) = 4096 * (A * A * A * A * A * (A * A * A * A * A) * 2 ^ 126) := by
      have : (2 : Nat) * 2 ^ 137 = 4096 * 2 ^ 126 := by decide +kernel
      rw [← Nat.mul_assoc, this]
      grind
    have a16 : A * A * A * A * A * (A * A * A * A * A) * (2 * x * v * (2 * x * v)) < A * A * A * A * A * (A * A * A * A * A) * 2 ^ 126 := by omega
    have a17 := Nat.lt_of_mul_lt_mul_left a16
    have a18 : (2 : Nat) ^ 63 * 2 ^ 63 = 2 ^ 126 := by decide +kernel
    rw [a18]
    exact a17
  have g5a : (2 * e2 * e3 + 18446744073709551616 * h5).natAbs < 1073741824 := dv27 C _ _ _ hC q5 hb5
  have g5 : h5 = 0 := by
    rw [e63] at f5
    generalize 2 * e2 * e3 = p at *
    omega
  have f6 : e3.natAbs < 2147483648 := by
    by_cases r : e2 = 0
    · have a1 : (2 * e0 * e3 + 2 * e1 * e2 + 18446744073709551616 * h3).natAbs < 4294967296 := dv27 C _ _ _ hC q3 (Nat.lt_of_le_of_lt hb3 hb)
      rw [g3, r, Int.mul_zero, Int.mul_zero, Int.add_zero, Int.add_zero, Int.natAbs_mul, Int.natAbs_mul] at a1
      have a2 : 2 * e3.natAbs ≤ (2 : Int).natAbs * e0.natAbs * e3.natAbs := Nat.mul_le_mul (Nat.le_mul_of_pos_right 2 he1) (Nat.le_refl _)
      omega
    · rw [g5, Int.mul_zero, Int.add_zero, Int.natAbs_mul, Int.natAbs_mul] at g5a
      have r1 : 1 ≤ e2.natAbs := by omega
      have a2 : 2 * e3.natAbs ≤ (2 : Int).natAbs * e2.natAbs * e3.natAbs := Nat.mul_le_mul (Nat.le_mul_of_pos_right 2 r1) (Nat.le_refl _)
      omega
  have g6 : h6 = 0 := by
    have a1 : (e3 * e3 + 18446744073709551616 * h6).natAbs < 2 ^ 62 := by
      refine Nat.lt_of_le_of_lt ?_ hb6
      rw [q6, Int.natAbs_mul]
      exact Nat.le_mul_of_pos_left _ hc1
    have a2 := Nat.mul_le_mul (Nat.le_of_lt f6) (Nat.le_of_lt f6)
    rw [← Int.natAbs_mul] at a2
    rw [e62] at a1
    generalize e3 * e3 = p at *
    omega
  exact ⟨g3, g4, g5, g6⟩
