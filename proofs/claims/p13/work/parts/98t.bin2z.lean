/-- the zone: the first digit can't be large -/
theorem zone2 (G0 G1 G2 G3 G4 : Int) (A b2 b3 b4 : Nat) (hA : G0.natAbs = A) (h2 : G2.natAbs ≤ b2) (hb3 : G3.natAbs ≤ b3) (hb4 : G4.natAbs ≤ b4)
    (K : (4 * G0 * G2 - G1 * G1) * (5 * (G1 * G1) - 4 * G0 * G2) = 32 * (G0 * G0) * (G1 * G3 - 2 * (G0 * G4)))
    (c1 : 1024 * (A * (b3 * b3)) < 648 * (b2 * b2 * b2)) (c2 : 8 * (A * b4) < 9 * (b2 * b2)) (hA0 : 0 < A) : G1.natAbs * G1.natAbs < 8 * (A * b2) := by
  rcases Nat.lt_or_ge (G1.natAbs * G1.natAbs) (8 * (A * b2)) with q | q
  · exact q
  exfalso
  have m1 : (4 * G0 * G2).natAbs ≤ 4 * (A * b2) := by
    rw [Int.natAbs_mul, Int.natAbs_mul, hA]
    refine Nat.le_trans (Nat.mul_le_mul (Nat.le_refl _) h2) (Nat.le_of_eq ?_)
    show 4 * A * b2 = _
    rw [Nat.mul_assoc]
  have m2 := nsub_ge' (4 * G0 * G2) (G1 * G1)
  have m3 := nsub_ge (5 * (G1 * G1)) (4 * G0 * G2)
  have m4 : (32 * (G0 * G0) * (G1 * G3 - 2 * (G0 * G4))).natAbs ≤ 32 * (A * A) * (G1.natAbs * b3 + 2 * (A * b4)) := by
    rw [Int.natAbs_mul, Int.natAbs_mul, Int.natAbs_mul, hA]
    refine Nat.mul_le_mul (Nat.le_refl _) (Nat.le_trans (nsub_le _ _) ?_)
    rw [Int.natAbs_mul, Int.natAbs_mul, Int.natAbs_mul, hA]
    exact Nat.add_le_add (Nat.mul_le_mul (Nat.le_refl _) hb3) (Nat.mul_le_mul (Nat.le_refl _) (Nat.mul_le_mul (Nat.le_refl _) hb4))
  rw [← K, Int.natAbs_mul] at m4
  rw [Int.natAbs_mul G1 G1] at m2
  rw [Int.natAbs_mul 5, Int.natAbs_mul G1 G1] at m3
  have m5 : (5 : Int).natAbs = 5 := rfl
  rw [m5] at m3
  generalize G1.natAbs = y at *
  generalize (4 * G0 * G2).natAbs = z at *
  generalize (4 * G0 * G2 - G1 * G1).natAbs = u at *
  generalize (5 * (G1 * G1) - 4 * G0 * G2).natAbs = v at *
  have u1 : y * y ≤ 2 * u := by omega
  have v1 : 9 * (y * y) ≤ 2 * v := by omega
  have w1 := Nat.mul_le_mul u1 v1
  have w2 : 2 * u * (2 * v) = 4 * (u * v) := by grind
  rw [w2] at w1
  -- 9 y^4 <= 128 A^2 (y b3 + 2 A b4)
  have w3 : y * y * (9 * (y * y)) ≤ 128 * (A * A) * (y * b3 + 2 * (A * b4)) := by
    refine Nat.le_trans w1 (Nat.le_trans (Nat.mul_le_mul (Nat.le_refl 4) m4) (Nat.le_of_eq ?_))
    grind
  have w4 : 512 * (A * A * (A * b4)) < y * y * (9 * (y * y)) := by
    have a1 := Nat.mul_le_mul q q
    have a2 : 8 * (A * b2) * (8 * (A * b2)) = 64 * (A * A * (b2 * b2)) := by grind
    rw [a2] at a1
    have a3 : A * A * (8 * (A * b4)) < A * A * (9 * (b2 * b2)) := Nat.mul_lt_mul_of_pos_left c2 (Nat.mul_pos hA0 hA0)
    have a4 : y * y * (9 * (y * y)) = 9 * (y * y * (y * y)) := by grind
    have a5 : A * A * (8 * (A * b4)) = 8 * (A * A * (A * b4)) := by grind
    have a6 : A * A * (9 * (b2 * b2)) = 9 * (A * A * (b2 * b2)) := by grind
    rw [a5, a6] at a3
    rw [a4]
    omega
  have w5 : 256 * (A * A * b3) < 9 * (y * y * y) := by
    apply sq_lt
    have a1 := Nat.mul_le_mul (Nat.mul_le_mul q q) q
    have a2 : 8 * (A * b2) * (8 * (A * b2)) * (8 * (A * b2)) = 512 * (A * A * A * (b2 * b2 * b2)) := by grind
    rw [a2] at a1
    have a3 : A * A * A * (1024 * (A * (b3 * b3))) < A * A * A * (648 * (b2 * b2 * b2)) := Nat.mul_lt_mul_of_pos_left c1 (Nat.mul_pos (Nat.mul_pos hA0 hA0) hA0)
    have a4 : 9 * (y * y * y) * (9 * (y * y * y)) = 81 * (y * y * (y * y) * (y * y)) := by grind
    have a5 : 256 * (A * A * b3) * (256 * (A * A * b3)) = 64 * (A * A * A * (1024 * (A * (b3 * b3)))) := by grind
    have a6 : A * A * A * (648 * (b2 * b2 * b2)) = 648 * (A * A * A * (b2 * b2 * b2)) := by grind
    rw [a4, a5]
    omega
  have w6 : 256 * (A * A * b3) * y ≤ 9 * (y * y * y) * y := Nat.mul_le_mul (Nat.le_of_lt w5) (Nat.le_refl y)
  have w7 : 9 * (y * y * y) * y = y * y * (9 * (y * y)) := by grind
  have w8 : 2 * (128 * (A * A) * (y * b3 + 2 * (A * b4))) = 256 * (A * A * b3) * y + 512 * (A * A * (A * b4)) := by grind
  rw [w7] at w6
  omega
/-- a square mod 2^64 with true first digits is a true square -/
theorem bin2 (C e0 e1 e2 e3 h3 h4 h5 h6 G0 G1 G2 G3 G4 G5 G6 : Int) (A g b2 b3 b4 S : Nat) (q0 : G0 = C * (e0 * e0)) (q1 : G1 = C * (2 * e0 * e1)) (q2 : G2 = C * (2 * e0 * e2 + e1 * e1)) (q3 : G3 = C * (2 * e0 * e3 + 2 * e1 * e2 + 18446744073709551616 * h3)) (q4 : G4 = C * (2 * e1 * e3 + e2 * e2 + 18446744073709551616 * h4)) (q5 : G5 = C * (2 * e2 * e3 + 18446744073709551616 * h5)) (q6 : G6 = C * (e3 * e3 + 18446744073709551616 * h6))
    (hA : G0.natAbs = A) (hg : G1.natAbs ≤ g) (h2 : G2.natAbs ≤ b2) (hb3 : G3.natAbs ≤ b3) (hb4 : G4.natAbs ≤ b4) (hb5 : G5.natAbs < 2 ^ 62) (hb6 : G6.natAbs < 2 ^ 62) (hS : e0.natAbs * e0.natAbs ≤ S)
    (he0 : e0 ≠ 0) (hC : C ≠ 0) (hd : (2 * e0 * e3).natAbs ≤ 2 ^ 63) (hb : b3 < 2 ^ 62)
    (cr : S * S * S * (((4 * A * b2 + g * g) * (5 * (g * g) + 4 * A * b2) + 32 * (A * A) * (g * b3 + 2 * (A * b4))) * ((4 * A * b2 + g * g) * (5 * (g * g) + 4 * A * b2) + 32 * (A * A) * (g * b3 + 2 * (A * b4)))) < 2 ^ 140 * (A * A * A * A * (A * A * A * A)))
    (c1 : 1024 * (A * (b3 * b3)) < 648 * (b2 * b2 * b2)) (c2 : 8 * (A * b4) < 9 * (b2 * b2))
    (c3 : S * (A * (b3 * b3) + 18 * (b2 * b2 * b2)) < 2 ^ 64 * (A * A * A)) (c4 : 9 * (S * (b2 * b2)) < 2 ^ 63 * (A * A)) (c5 : 18 * (S * S * (b2 * b2 * b2)) < 2 ^ 124 * (A * A * A)) : h3 = 0 ∧ h4 = 0 ∧ h5 = 0 ∧ h6 = 0 := by
  have hk := kp_zero C e0 e1 e2 e3 h3 h4 G0 G1 G2 G3 G4 A g b2 b3 b4 S q0 q1 q2 q3 q4 hA hg h2 hb3 hb4 hS cr
  have K := kp_eq C e0 e1 e2 e3 h3 h4 18446744073709551616 G0 G1 G2 G3 G4 q0 q1 q2 q3 q4
  rw [hk, Int.mul_zero, Int.mul_zero] at K
  have hA2 : C.natAbs * (e0.natAbs * e0.natAbs) = A := by rw [← hA, q0, Int.natAbs_mul, Int.natAbs_mul]
  have hc1 : 1 ≤ C.natAbs := by omega
  have he1 : 1 ≤ e0.natAbs := by omega
  have hA0 : 0 < A := by
    rw [← hA2]
    exact Nat.mul_pos hc1 (Nat.mul_pos he1 he1)
  have z := zone2 G0 G1 G2 G3 G4 A b2 b3 b4 hA h2 hb3 hb4 (by omega) c1 c2 hA0
  have f1 : 4 * G0 * G2 - G1 * G1 = 8 * (C * C) * (e0 * e0 * e0 * e2) := by rw [q0, q1, q2]; grind
  have f2 : (4 * G0 * G2 - G1 * G1).natAbs ≤ 12 * (A * b2) := by
    refine Nat.le_trans (nsub_le _ _) ?_
    rw [Int.natAbs_mul, Int.natAbs_mul, Int.natAbs_mul G1, hA]
    have m5 : (4 : Int).natAbs = 4 := rfl
    rw [m5]
    have a1 : 4 * A * G2.natAbs ≤ 4 * A * b2 := Nat.mul_le_mul (Nat.le_refl _) h2
    have a2 : 4 * A * b2 = 4 * (A * b2) := Nat.mul_assoc _ _ _
    omega
  -- e2
  have f3 : 2 * (A * e2.natAbs) ≤ 3 * (b2 * e0.natAbs) := by
    have a1 := f2
    rw [f1] at a1
    simp only [Int.natAbs_mul] at a1
    have m5 : (8 : Int).natAbs = 8 := rfl
    rw [m5] at a1
    generalize C.natAbs = c at *
    generalize e0.natAbs = e at *
    generalize e2.natAbs = x at *
    have a2 : 8 * (c * c) * (e * e * e * x) * e = 8 * (A * (A * x)) := by rw [← hA2]; grind
    have a3 := Nat.mul_le_mul a1 (Nat.le_refl e)
    rw [a2] at a3
    have a4 : 12 * (A * b2) * e = A * (12 * (b2 * e)) := by grind
    have a5 : 8 * (A * (A * x)) = A * (8 * (A * x)) := by grind
    rw [a4, a5] at a3
    have a6 := Nat.le_of_mul_le_mul_left a3 hA0
    omega
  -- 2 e1 e2
  have f4 : (2 * e1 * e2).natAbs < 2 ^ 62 := by
    apply sq_lt
    have a1 : (2 * C * e0 * e1).natAbs = G1.natAbs := by rw [q1]; congr 1; grind
    have a2 : 2 * C.natAbs * e0.natAbs * e1.natAbs = G1.natAbs := by
      rw [← a1, Int.natAbs_mul, Int.natAbs_mul, Int.natAbs_mul]
      rfl
    have a3 : (2 * e1 * e2).natAbs = 2 * e1.natAbs * e2.natAbs := by
      rw [Int.natAbs_mul, Int.natAbs_mul]
      rfl
    rw [a3]
    rw [← a2] at z
    generalize C.natAbs = c at *
    generalize e0.natAbs = e at *
    generalize e2.natAbs = x at *
    generalize e1.natAbs = w at *
    -- A * A * (2wx)^2 ... : (2 c e w)^2 < 8 A b2
    have z1 : c * A * (4 * (w * w)) < 8 * (A * b2) := by
      refine Nat.lt_of_le_of_lt (Nat.le_of_eq ?_) z
      rw [← hA2]
      grind
    have z2 : c * (w * w) ≤ 2 * b2 := by
      have a4 : c * A * (4 * (w * w)) = A * (4 * (c * (w * w))) := by grind
      have a5 : 8 * (A * b2) = A * (8 * b2) := by grind
      rw [a4, a5] at z1
      have := Nat.lt_of_mul_lt_mul_left z1
      omega
    have z3 := Nat.mul_le_mul f3 f3
    have z4 := Nat.mul_le_mul z2 z3
    -- c w^2 4 A^2 x^2 <= 2 b2 9 b2^2 e^2
    have z5 : c * (w * w) * (2 * (A * x) * (2 * (A * x))) * (e * e) = A * A * A * (2 * w * x * (2 * w * x)) := by
      have : A * A * A * (2 * w * x * (2 * w * x)) = c * (e * e) * (A * A * (2 * w * x * (2 * w * x))) := by rw [hA2]; grind
      rw [this]
      grind
    have z6 := Nat.mul_le_mul z4 (Nat.le_refl (e * e))
    rw [z5] at z6
    have z7 : 2 * b2 * (3 * (b2 * e) * (3 * (b2 * e))) * (e * e) = 18 * (e * e * (e * e) * (b2 * b2 * b2)) := by grind
    rw [z7] at z6
    have z8 : 18 * (e * e * (e * e) * (b2 * b2 * b2)) ≤ 18 * (S * S * (b2 * b2 * b2)) := Nat.mul_le_mul (Nat.le_refl _) (Nat.mul_le_mul (Nat.mul_le_mul hS hS) (Nat.le_refl _))
    have z9 : A * A * A * (2 * w * x * (2 * w * x)) < A * A * A * (2 ^ 124) := by
      rw [Nat.mul_comm (A * A * A) (2 ^ 124)]
      omega
    have z10 := Nat.lt_of_mul_lt_mul_left z9
    have z11 : (2 : Nat) ^ 62 * 2 ^ 62 = 2 ^ 124 := by decide +kernel
    rw [z11]
    exact z10
  have g3 : h3 = 0 := by
    have a1 : (2 * e0 * e3 + 2 * e1 * e2 + 18446744073709551616 * h3).natAbs ≤ b3 := by
      refine Nat.le_trans ?_ hb3
      rw [q3, Int.natAbs_mul]
      exact Nat.le_mul_of_pos_left _ hc1
    have e62 : (2 : Nat) ^ 62 = 4611686018427387904 := by decide +kernel
    have e63 : (2 : Nat) ^ 63 = 9223372036854775808 := by decide +kernel
    rw [e62] at f4 hb
    rw [e63] at hd
    generalize 2 * e0 * e3 = p at *
    generalize 2 * e1 * e2 = r at *
    omega
  have g4 : h4 = 0 := by
    rw [g3, Int.mul_zero, Int.sub_zero] at hk
    rcases Int.mul_eq_zero.mp hk with r | r
    · exact absurd r he0
    · exact r
  -- e3
  have f5 : e3.natAbs * e3.natAbs < 2 ^ 63 := by
    have a1 : 8 * (G0 * G0) * G3 - G1 * (4 * G0 * G2 - G1 * G1) = 16 * (C * C * C) * (e0 * e0 * e0 * e0 * e0 * e3) := by
      rw [f1, q0, q1, q3, g3]
      grind
    have a2 := nsub_le (8 * (G0 * G0) * G3) (G1 * (4 * G0 * G2 - G1 * G1))
    rw [a1] at a2
    have a3 : (8 * (G0 * G0) * G3).natAbs ≤ 8 * (A * A * b3) := by
      rw [Int.natAbs_mul, Int.natAbs_mul, Int.natAbs_mul, hA]
      refine Nat.le_trans (Nat.mul_le_mul (Nat.le_refl _) hb3) (Nat.le_of_eq ?_)
      show 8 * (A * A) * b3 = _
      grind
    have a4 : (G1 * (4 * G0 * G2 - G1 * G1)).natAbs ≤ G1.natAbs * (12 * (A * b2)) := by
      rw [Int.natAbs_mul]
      exact Nat.mul_le_mul (Nat.le_refl _) f2
    simp only [Int.natAbs_mul] at a2
    rw [Int.natAbs_mul] at a3 a4
    have m5 : (16 : Int).natAbs = 16 := rfl
    rw [m5] at a2
    generalize G1.natAbs = y at *
    generalize C.natAbs = c at *
    generalize e0.natAbs = e at *
    generalize e3.natAbs = x at *
    simp only [Int.natAbs_mul] at a3
    have a5 : 16 * (c * c * c) * (e * e * e * e * e * x) ≤ 8 * (A * A * b3) + y * (12 * (A * b2)) := by omega
    have a6 : 4 * (c * c * c * (e * e * e * e * e * x)) ≤ 2 * (A * A * b3) + 3 * (y * (A * b2)) := by
      have t1 : 16 * (c * c * c) * (e * e * e * e * e * x) = 4 * (4 * (c * c * c * (e * e * e * e * e * x))) := by grind
      have t2 : y * (12 * (A * b2)) = 4 * (3 * (y * (A * b2))) := by grind
      omega
    have a7 := Nat.mul_le_mul a6 a6
    have a8 : (2 * (A * A * b3) + 3 * (y * (A * b2))) * (2 * (A * A * b3) + 3 * (y * (A * b2))) ≤ 8 * (A * A * A * A * (b3 * b3)) + 18 * (y * y * (A * A * (b2 * b2))) := by
      have t : ∀ p q : Nat, (p + q) * (p + q) ≤ 2 * (p * p) + 2 * (q * q) := by
        intro p q
        rcases Nat.le_total p q with r | r
        · obtain ⟨d, rfl⟩ := Nat.exists_eq_add_of_le r
          have : 2 * (p * p) + 2 * ((p + d) * (p + d)) = (p + (p + d)) * (p + (p + d)) + d * d := by grind
          omega
        · obtain ⟨d, rfl⟩ := Nat.exists_eq_add_of_le r
          have : 2 * ((q + d) * (q + d)) + 2 * (q * q) = (q + d + q) * (q + d + q) + d * d := by grind
          omega
      refine Nat.le_trans (t _ _) (Nat.le_of_eq ?_)
      grind
    have a9 : 18 * (y * y * (A * A * (b2 * b2))) ≤ 18 * (8 * (A * b2) * (A * A * (b2 * b2))) := Nat.mul_le_mul (Nat.le_refl _) (Nat.mul_le_mul (Nat.le_of_lt z) (Nat.le_refl _))
    have a10 : 16 * (A * A * A * (A * A * A * (x * x))) = 4 * (c * c * c * (e * e * e * e * e * x)) * (4 * (c * c * c * (e * e * e * e * e * x))) * (e * e) := by rw [← hA2]; grind
    have a11 : 4 * (c * c * c * (e * e * e * e * e * x)) * (4 * (c * c * c * (e * e * e * e * e * x))) * (e * e) ≤ (8 * (A * A * A * A * (b3 * b3)) + 18 * (8 * (A * b2) * (A * A * (b2 * b2)))) * S := Nat.mul_le_mul (by omega) hS
    rw [← a10] at a11
    have a12 : (8 * (A * A * A * A * (b3 * b3)) + 18 * (8 * (A * b2) * (A * A * (b2 * b2)))) * S = 8 * (A * A * A * (S * (A * (b3 * b3) + 18 * (b2 * b2 * b2)))) := by grind
    rw [a12] at a11
    have a13 : A * A * A * (2 * (A * A * A * (x * x))) ≤ A * A * A * (S * (A * (b3 * b3) + 18 * (b2 * b2 * b2))) := by
      have : A * A * A * (2 * (A * A * A * (x * x))) = 2 * (A * A * A * (A * A * A * (x * x))) := by grind
      omega
    have hA3 : 0 < A * A * A := Nat.mul_pos (Nat.mul_pos hA0 hA0) hA0
    have a14 := Nat.le_of_mul_le_mul_left a13 hA3
    have a15 : A * A * A * (x * x) < A * A * A * 2 ^ 63 := by
      have t1 : (2 : Nat) ^ 64 = 2 * 2 ^ 63 := by decide +kernel
      rw [t1] at c3
      have t2 : 2 * 2 ^ 63 * (A * A * A) = 2 * (A * A * A * 2 ^ 63) := by grind
      omega
    exact Nat.lt_of_mul_lt_mul_left a15
  have g6 : h6 = 0 := by
    have a1 : (e3 * e3 + 18446744073709551616 * h6).natAbs < 2 ^ 62 := by
      refine Nat.lt_of_le_of_lt ?_ hb6
      rw [q6, Int.natAbs_mul]
      exact Nat.le_mul_of_pos_left _ hc1
    rw [← Int.natAbs_mul] at f5
    have e62 : (2 : Nat) ^ 62 = 4611686018427387904 := by decide +kernel
    have e63 : (2 : Nat) ^ 63 = 9223372036854775808 := by decide +kernel
    rw [e62] at a1
    rw [e63] at f5
    generalize e3 * e3 = p at *
    omega
  have g5 : h5 = 0 := by
    have a1 : (2 * e2 * e3 + 18446744073709551616 * h5).natAbs < 2 ^ 62 := by
      refine Nat.lt_of_le_of_lt ?_ hb5
      rw [q5, Int.natAbs_mul]
      exact Nat.le_mul_of_pos_left _ hc1
    have a2 : (2 * e2 * e3).natAbs < 2 ^ 63 := by
      apply sq_lt
      have a3 : (2 * e2 * e3).natAbs = 2 * e2.natAbs * e3.natAbs := by
        rw [Int.natAbs_mul, Int.natAbs_mul]
        rfl
      rw [a3]
      generalize e0.natAbs = e at *
      generalize e2.natAbs = x at *
      generalize e3.natAbs = w at *
      have t1 := Nat.mul_le_mul f3 f3
      have t2 : 3 * (b2 * e) * (3 * (b2 * e)) ≤ 9 * (S * (b2 * b2)) := by
        refine Nat.le_trans (Nat.le_of_eq ?_) (Nat.mul_le_mul (Nat.le_refl 9) (Nat.mul_le_mul hS (Nat.le_refl (b2 * b2))))
        grind
      have t3 : 2 * (A * x) * (2 * (A * x)) < 2 ^ 63 * (A * A) := by omega
      have t4 : A * A * (2 * x * (2 * x)) < A * A * 2 ^ 63 := by
        have : A * A * (2 * x * (2 * x)) = 2 * (A * x) * (2 * (A * x)) := by grind
        rw [this, Nat.mul_comm (A * A)]
        exact t3
      have t5 := Nat.lt_of_mul_lt_mul_left t4
      have t6 : 2 * x * w * (2 * x * w) = 2 * x * (2 * x) * (w * w) := by grind
      rw [t6]
      exact Nat.lt_of_le_of_lt (Nat.mul_le_mul (Nat.le_refl _) (Nat.le_of_lt f5)) (Nat.mul_lt_mul_of_pos_right t5 (by decide +kernel))
    have e62 : (2 : Nat) ^ 62 = 4611686018427387904 := by decide +kernel
    have e63 : (2 : Nat) ^ 63 = 9223372036854775808 := by decide +kernel
    rw [e62] at a1
    rw [e63] at a2
    generalize 2 * e2 * e3 = p at *
    omega
  exact ⟨g3, g4, g5, g6⟩
