def hP (k : Nat) (X Y W : Nat → Int) : Int := match k with
  | 0 => hz0 (d3 X Y W 0 1 2) (d3 X Y W 0 1 3) (d3 X Y W 0 1 4) (d3 X Y W 0 1 4 + d3 X Y W 0 2 3) (d3 X Y W 0 2 4) (d3 X Y W 0 3 4) (2 * d3 X Y W 0 2 4 + d3 X Y W 1 2 3) (d3 X Y W 0 3 4 + d3 X Y W 1 2 4) (d3 X Y W 1 3 4) (d3 X Y W 2 3 4)
  | 1 => hz1 (d3 X Y W 0 1 2) (d3 X Y W 0 1 3) (d3 X Y W 0 1 4) (d3 X Y W 0 1 4 + d3 X Y W 0 2 3) (d3 X Y W 0 2 4) (d3 X Y W 0 3 4) (2 * d3 X Y W 0 2 4 + d3 X Y W 1 2 3) (d3 X Y W 0 3 4 + d3 X Y W 1 2 4) (d3 X Y W 1 3 4) (d3 X Y W 2 3 4)
  | 2 => hz2 (d3 X Y W 0 1 2) (d3 X Y W 0 1 3) (d3 X Y W 0 1 4) (d3 X Y W 0 1 4 + d3 X Y W 0 2 3) (d3 X Y W 0 2 4) (d3 X Y W 0 3 4) (2 * d3 X Y W 0 2 4 + d3 X Y W 1 2 3) (d3 X Y W 0 3 4 + d3 X Y W 1 2 4) (d3 X Y W 1 3 4) (d3 X Y W 2 3 4)
  | 3 => hz3 (d3 X Y W 0 1 2) (d3 X Y W 0 1 3) (d3 X Y W 0 1 4) (d3 X Y W 0 1 4 + d3 X Y W 0 2 3) (d3 X Y W 0 2 4) (d3 X Y W 0 3 4) (2 * d3 X Y W 0 2 4 + d3 X Y W 1 2 3) (d3 X Y W 0 3 4 + d3 X Y W 1 2 4) (d3 X Y W 1 3 4) (d3 X Y W 2 3 4)
  | 4 => hz4 (d3 X Y W 0 1 2) (d3 X Y W 0 1 3) (d3 X Y W 0 1 4) (d3 X Y W 0 1 4 + d3 X Y W 0 2 3) (d3 X Y W 0 2 4) (d3 X Y W 0 3 4) (2 * d3 X Y W 0 2 4 + d3 X Y W 1 2 3) (d3 X Y W 0 3 4 + d3 X Y W 1 2 4) (d3 X Y W 1 3 4) (d3 X Y W 2 3 4)
  | 5 => hz5 (d3 X Y W 0 1 2) (d3 X Y W 0 1 3) (d3 X Y W 0 1 4) (d3 X Y W 0 1 4 + d3 X Y W 0 2 3) (d3 X Y W 0 2 4) (d3 X Y W 0 3 4) (2 * d3 X Y W 0 2 4 + d3 X Y W 1 2 3) (d3 X Y W 0 3 4 + d3 X Y W 1 2 4) (d3 X Y W 1 3 4) (d3 X Y W 2 3 4)
  | _ => hz6 (d3 X Y W 0 1 2) (d3 X Y W 0 1 3) (d3 X Y W 0 1 4) (d3 X Y W 0 1 4 + d3 X Y W 0 2 3) (d3 X Y W 0 2 4) (d3 X Y W 0 3 4) (2 * d3 X Y W 0 2 4 + d3 X Y W 1 2 3) (d3 X Y W 0 3 4 + d3 X Y W 1 2 4) (d3 X Y W 1 3 4) (d3 X Y W 2 3 4)
theorem hz0_w (c a000 a100 a200 a110 a210 a220 a111 a211 a221 a222 : Int) : hz0 a000 (c * a100) (c * c * a200) (c * c * a110) (c * c * c * a210) (c * c * c * c * a220) (c * c * c * a111) (c * c * c * c * a211) (c * c * c * c * c * a221) (c * c * c * c * c * c * a222) = c * c * c * c * c * c * hz0 a000 a100 a200 a110 a210 a220 a111 a211 a221 a222 := by
  unfold hz0
  grind
theorem hz0_s (c a000 a100 a200 a110 a210 a220 a111 a211 a221 a222 : Int) : hz0 (c * a000) (c * a100) (c * a200) (c * a110) (c * a210) (c * a220) (c * a111) (c * a211) (c * a221) (c * a222) = c * c * c * hz0 a000 a100 a200 a110 a210 a220 a111 a211 a221 a222 := by
  unfold hz0
  grind
theorem hz1_w (c a000 a100 a200 a110 a210 a220 a111 a211 a221 a222 : Int) : hz1 a000 (c * a100) (c * c * a200) (c * c * a110) (c * c * c * a210) (c * c * c * c * a220) (c * c * c * a111) (c * c * c * c * a211) (c * c * c * c * c * a221) (c * c * c * c * c * c * a222) = c * c * c * c * c * c * c * hz1 a000 a100 a200 a110 a210 a220 a111 a211 a221 a222 := by
  unfold hz1
  grind
theorem hz1_s (c a000 a100 a200 a110 a210 a220 a111 a211 a221 a222 : Int) : hz1 (c * a000) (c * a100) (c * a200) (c * a110) (c * a210) (c * a220) (c * a111) (c * a211) (c * a221) (c * a222) = c * c * c * hz1 a000 a100 a200 a110 a210 a220 a111 a211 a221 a222 := by
  unfold hz1
  grind
theorem hz2_w (c a000 a100 a200 a110 a210 a220 a111 a211 a221 a222 : Int) : hz2 a000 (c * a100) (c * c * a200) (c * c * a110) (c * c * c * a210) (c * c * c * c * a220) (c * c * c * a111) (c * c * c * c * a211) (c * c * c * c * c * a221) (c * c * c * c * c * c * a222) = c * c * c * c * c * c * c * c * hz2 a000 a100 a200 a110 a210 a220 a111 a211 a221 a222 := by
  unfold hz2
  grind
theorem hz2_s (c a000 a100 a200 a110 a210 a220 a111 a211 a221 a222 : Int) : hz2 (c * a000) (c * a100) (c * a200) (c * a110) (c * a210) (c * a220) (c * a111) (c * a211) (c * a221) (c * a222) = c * c * c * hz2 a000 a100 a200 a110 a210 a220 a111 a211 a221 a222 := by
  unfold hz2
  grind
theorem hz3_w (c a000 a100 a200 a110 a210 a220 a111 a211 a221 a222 : Int) : hz3 a000 (c * a100) (c * c * a200) (c * c * a110) (c * c * c * a210) (c * c * c * c * a220) (c * c * c * a111) (c * c * c * c * a211) (c * c * c * c * c * a221) (c * c * c * c * c * c * a222) = c * c * c * c * c * c * c * c * c * hz3 a000 a100 a200 a110 a210 a220 a111 a211 a221 a222 := by
  unfold hz3
  grind
theorem hz3_s (c a000 a100 a200 a110 a210 a220 a111 a211 a221 a222 : Int) : hz3 (c * a000) (c * a100) (c * a200) (c * a110) (c * a210) (c * a220) (c * a111) (c * a211) (c * a221) (c * a222) = c * c * c * hz3 a000 a100 a200 a110 a210 a220 a111 a211 a221 a222 := by
  unfold hz3
  grind
theorem plk034 (X Y W : Nat → Int) : d3 X Y W 0 1 2 * d3 X Y W 0 3 4 = d3 X Y W 0 1 3 * d3 X Y W 0 2 4 - d3 X Y W 0 2 3 * d3 X Y W 0 1 4 := by
  unfold d3
  grind
theorem plk134 (X Y W : Nat → Int) : d3 X Y W 0 1 2 * d3 X Y W 1 3 4 = d3 X Y W 0 1 3 * d3 X Y W 1 2 4 - d3 X Y W 1 2 3 * d3 X Y W 0 1 4 := by
  unfold d3
  grind
theorem plk234 (X Y W : Nat → Int) : d3 X Y W 0 1 2 * d3 X Y W 2 3 4 = d3 X Y W 0 2 3 * d3 X Y W 1 2 4 - d3 X Y W 1 2 3 * d3 X Y W 0 2 4 := by
  unfold d3
  grind
theorem ch_exact {P T R p014 p024 p034 p123 p124 p134 p234 : Int} (hP : P ≠ 0) (k1 : P * p034 = T * p024 - R * p014) (k2 : P * p134 = T * p124 - p123 * p014) (k3 : P * p234 = R * p124 - p123 * p024) (g0 : hz0 P T p014 (p014 + R) p024 p034 (2 * p024 + p123) (p034 + p124) p134 p234 = 0) (g1 : hz1 P T p014 (p014 + R) p024 p034 (2 * p024 + p123) (p034 + p124) p134 p234 = 0) (g2 : hz2 P T p014 (p014 + R) p024 p034 (2 * p024 + p123) (p034 + p124) p134 p234 = 0) (g3 : hz3 P T p014 (p014 + R) p024 p034 (2 * p024 + p123) (p034 + p124) p134 p234 = 0) : (4 * P * p014 - T * T = 0 ∧ T * p014 - T * R + 2 * P * p024 = 0 ∧ P * p123 + 4 * T * p014 - 2 * T * R = 0 ∧ P * p124 - R * R + 2 * R * p014 = 0) ∨ ∀ m01 m02 m12 : Int, dS m01 m02 ((-(P * R)) * m01 + T * m02) ((-(P * P * p024)) * m01 + (P * p014) * m02) ((-(P * R)) * m01 + T * m02 + m12) ((-(P * P * p024)) * m01 + (P * p014) * m02 + (T * m12 - (P * P * p123) * m01)) ((P * p014) * m12 - (P * P * P * p124) * m01) ((P * p014) * m12 - (P * P * P * p124) * m01 + (-((P * P * p123) * m02) - (-(P * R)) * m12)) (-((P * P * P * p124) * m02) - (-(P * P * p024)) * m12) (((P * P * p123) * (-(P * P * p024)) - (-(P * R)) * (P * P * P * p124)) * m01 + ((P * P * p123) * (P * p014) - T * (P * P * P * p124)) * m02 + ((-(P * R)) * (P * p014) - T * (-(P * P * p024))) * m12) = 0 := by
  have hP3 : P * P * P ≠ 0 := Int.mul_ne_zero (Int.mul_ne_zero hP hP) hP
  have s0 : P = P * 1 := by grind
  have s1 : P * T = P * T := by grind
  have s2 : P * P * p014 = P * (P * p014) := by grind
  have s3 : P * P * (p014 + R) = P * ((P * p014) - (-(P * R))) := by grind
  have s4 : P * P * P * p024 = P * (-(-(P * P * p024))) := by grind
  have s5 : P * P * P * P * p034 = P * ((-(P * R)) * (P * p014) - T * (-(P * P * p024))) := by rw [show P * P * P * P * p034 = P * P * P * (P * p034) by grind]; rw [k1]; grind
  have s6 : P * P * P * (2 * p024 + p123) = P * ((P * P * p123) - 2 * (-(P * P * p024))) := by grind
  have s7 : P * P * P * P * (p034 + p124) = P * ((-(P * R)) * (P * p014) - T * (-(P * P * p024)) + (P * P * P * p124)) := by rw [show P * P * P * P * (p034 + p124) = P * P * P * (P * p034) + P * P * P * P * p124 by grind, k1]; grind
  have s8 : P * P * P * P * P * p134 = P * (T * (P * P * P * p124) - (P * P * p123) * (P * p014)) := by rw [show P * P * P * P * P * p134 = P * P * P * P * (P * p134) by grind]; rw [k2]; grind
  have s9 : P * P * P * P * P * P * p234 = P * ((P * P * p123) * (-(P * P * p024)) - (-(P * R)) * (P * P * P * p124)) := by rw [show P * P * P * P * P * P * p234 = P * P * P * P * P * (P * p234) by grind]; rw [k3]; grind
  have w0 : hz0 1 T (P * p014) ((P * p014) - (-(P * R))) (-(-(P * P * p024))) ((-(P * R)) * (P * p014) - T * (-(P * P * p024))) ((P * P * p123) - 2 * (-(P * P * p024))) ((-(P * R)) * (P * p014) - T * (-(P * P * p024)) + (P * P * P * p124)) (T * (P * P * P * p124) - (P * P * p123) * (P * p014)) ((P * P * p123) * (-(P * P * p024)) - (-(P * R)) * (P * P * P * p124)) = 0 := by
    have q1 := hz0_w P P T p014 (p014 + R) p024 p034 (2 * p024 + p123) (p034 + p124) p134 p234
    rw [g0, Int.mul_zero, s1, s2, s3, s4, s5, s6, s7, s8, s9] at q1
    have q2 := hz0_s P 1 T (P * p014) ((P * p014) - (-(P * R))) (-(-(P * P * p024))) ((-(P * R)) * (P * p014) - T * (-(P * P * p024))) ((P * P * p123) - 2 * (-(P * P * p024))) ((-(P * R)) * (P * p014) - T * (-(P * P * p024)) + (P * P * P * p124)) (T * (P * P * P * p124) - (P * P * p123) * (P * p014)) ((P * P * p123) * (-(P * P * p024)) - (-(P * R)) * (P * P * P * p124))
    rw [Int.mul_one] at q2
    rw [q1] at q2
    rcases Int.mul_eq_zero.mp q2.symm with z | z
    · exact absurd z hP3
    · exact z
  have w1 : hz1 1 T (P * p014) ((P * p014) - (-(P * R))) (-(-(P * P * p024))) ((-(P * R)) * (P * p014) - T * (-(P * P * p024))) ((P * P * p123) - 2 * (-(P * P * p024))) ((-(P * R)) * (P * p014) - T * (-(P * P * p024)) + (P * P * P * p124)) (T * (P * P * P * p124) - (P * P * p123) * (P * p014)) ((P * P * p123) * (-(P * P * p024)) - (-(P * R)) * (P * P * P * p124)) = 0 := by
    have q1 := hz1_w P P T p014 (p014 + R) p024 p034 (2 * p024 + p123) (p034 + p124) p134 p234
    rw [g1, Int.mul_zero, s1, s2, s3, s4, s5, s6, s7, s8, s9] at q1
    have q2 := hz1_s P 1 T (P * p014) ((P * p014) - (-(P * R))) (-(-(P * P * p024))) ((-(P * R)) * (P * p014) - T * (-(P * P * p024))) ((P * P * p123) - 2 * (-(P * P * p024))) ((-(P * R)) * (P * p014) - T * (-(P * P * p024)) + (P * P * P * p124)) (T * (P * P * P * p124) - (P * P * p123) * (P * p014)) ((P * P * p123) * (-(P * P * p024)) - (-(P * R)) * (P * P * P * p124))
    rw [Int.mul_one] at q2
    rw [q1] at q2
    rcases Int.mul_eq_zero.mp q2.symm with z | z
    · exact absurd z hP3
    · exact z
  have w2 : hz2 1 T (P * p014) ((P * p014) - (-(P * R))) (-(-(P * P * p024))) ((-(P * R)) * (P * p014) - T * (-(P * P * p024))) ((P * P * p123) - 2 * (-(P * P * p024))) ((-(P * R)) * (P * p014) - T * (-(P * P * p024)) + (P * P * P * p124)) (T * (P * P * P * p124) - (P * P * p123) * (P * p014)) ((P * P * p123) * (-(P * P * p024)) - (-(P * R)) * (P * P * P * p124)) = 0 := by
    have q1 := hz2_w P P T p014 (p014 + R) p024 p034 (2 * p024 + p123) (p034 + p124) p134 p234
    rw [g2, Int.mul_zero, s1, s2, s3, s4, s5, s6, s7, s8, s9] at q1
    have q2 := hz2_s P 1 T (P * p014) ((P * p014) - (-(P * R))) (-(-(P * P * p024))) ((-(P * R)) * (P * p014) - T * (-(P * P * p024))) ((P * P * p123) - 2 * (-(P * P * p024))) ((-(P * R)) * (P * p014) - T * (-(P * P * p024)) + (P * P * P * p124)) (T * (P * P * P * p124) - (P * P * p123) * (P * p014)) ((P * P * p123) * (-(P * P * p024)) - (-(P * R)) * (P * P * P * p124))
    rw [Int.mul_one] at q2
    rw [q1] at q2
    rcases Int.mul_eq_zero.mp q2.symm with z | z
    · exact absurd z hP3
    · exact z
  have w3 : hz3 1 T (P * p014) ((P * p014) - (-(P * R))) (-(-(P * P * p024))) ((-(P * R)) * (P * p014) - T * (-(P * P * p024))) ((P * P * p123) - 2 * (-(P * P * p024))) ((-(P * R)) * (P * p014) - T * (-(P * P * p024)) + (P * P * P * p124)) (T * (P * P * P * p124) - (P * P * p123) * (P * p014)) ((P * P * p123) * (-(P * P * p024)) - (-(P * R)) * (P * P * P * p124)) = 0 := by
    have q1 := hz3_w P P T p014 (p014 + R) p024 p034 (2 * p024 + p123) (p034 + p124) p134 p234
    rw [g3, Int.mul_zero, s1, s2, s3, s4, s5, s6, s7, s8, s9] at q1
    have q2 := hz3_s P 1 T (P * p014) ((P * p014) - (-(P * R))) (-(-(P * P * p024))) ((-(P * R)) * (P * p014) - T * (-(P * P * p024))) ((P * P * p123) - 2 * (-(P * P * p024))) ((-(P * R)) * (P * p014) - T * (-(P * P * p024)) + (P * P * P * p124)) (T * (P * P * P * p124) - (P * P * p123) * (P * p014)) ((P * P * p123) * (-(P * P * p024)) - (-(P * R)) * (P * P * P * p124))
    rw [Int.mul_one] at q2
    rw [q1] at q2
    rcases Int.mul_eq_zero.mp q2.symm with z | z
    · exact absurd z hP3
    · exact z
  rcases chart_zero w0 w1 w2 w3 with ⟨q1, q2, q3, q4⟩ | q
  · refine Or.inl ⟨?_, ?_, ?_, ?_⟩
    · unfold uu4 at q1
      clear w0 w1 w2 w3
      grind
    · apply Int.eq_of_mul_eq_mul_left hP
      clear w0 w1 w2 w3 q1 q3 q4
      grind
    · apply Int.eq_of_mul_eq_mul_left hP
      clear w0 w1 w2 w3 q1 q2 q4
      grind
    · apply Int.eq_of_mul_eq_mul_left (Int.mul_ne_zero hP hP)
      clear w0 w1 w2 w3 q1 q2 q3
      grind
  · exact Or.inr q
