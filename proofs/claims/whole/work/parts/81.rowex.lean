theorem sc_F {P T R p014 p024 p123 p124 m01 m02 m12 m03 m04 m13 m14 m23 m24 m34 a b c : Int} (e03 : P * m03 = a * 0 - R * m01 + T * m02) (e04 : P * m04 = b * 0 - p024 * m01 + p014 * m02) (e13 : P * m13 = p123 * -m01 - R * 0 + T * m12) (e14 : P * m14 = p124 * -m01 - p024 * 0 + p014 * m12) (e23 : P * m23 = p123 * -m02 - R * -m12 + T * 0) (e24 : P * m24 = p124 * -m02 - p024 * -m12 + p014 * 0) (e34 : P * m34 = p124 * -m03 - p024 * -m13 + p014 * -m23) (hP : P ≠ 0) (h : dS (P * m01) (P * P * m02) ((-(P * R)) * (P * m01) + T * (P * P * m02)) ((-(P * P * p024)) * (P * m01) + (P * p014) * (P * P * m02)) ((-(P * R)) * (P * m01) + T * (P * P * m02) + (P * P * P * m12)) ((-(P * P * p024)) * (P * m01) + (P * p014) * (P * P * m02) + (T * (P * P * P * m12) - (P * P * p123) * (P * m01))) ((P * p014) * (P * P * P * m12) - (P * P * P * p124) * (P * m01)) ((P * p014) * (P * P * P * m12) - (P * P * P * p124) * (P * m01) + (-((P * P * p123) * (P * P * m02)) - (-(P * R)) * (P * P * P * m12))) (-((P * P * P * p124) * (P * P * m02)) - (-(P * P * p024)) * (P * P * P * m12)) (((P * P * p123) * (-(P * P * p024)) - (-(P * R)) * (P * P * P * p124)) * (P * m01) + ((P * P * p123) * (P * p014) - T * (P * P * P * p124)) * (P * P * m02) + ((-(P * R)) * (P * p014) - T * (-(P * P * p024))) * (P * P * P * m12)) = 0) : dS m01 m02 m03 m04 (m03 + m12) (m04 + m13) m14 (m14 + m23) m24 m34 = 0 := by
  have c3 : P * P * P * m03 = (-(P * R)) * (P * m01) + T * (P * P * m02) := by
    rw [show P * P * P * m03 = P * P * (P * m03) by grind, e03]
    clear e03 e04 e13 e14 e23 e24 e34 h
    grind
  have c4 : P * P * P * P * m04 = (-(P * P * p024)) * (P * m01) + (P * p014) * (P * P * m02) := by
    rw [show P * P * P * P * m04 = P * P * P * (P * m04) by grind, e04]
    clear e03 e04 e13 e14 e23 e24 e34 h c3
    grind
  have c13 : P * P * P * P * m13 = T * (P * P * P * m12) - (P * P * p123) * (P * m01) := by
    rw [show P * P * P * P * m13 = P * P * P * (P * m13) by grind, e13]
    clear e03 e04 e13 e14 e23 e24 e34 h c3 c4
    grind
  have c14 : P * P * P * P * P * m14 = (P * p014) * (P * P * P * m12) - (P * P * P * p124) * (P * m01) := by
    rw [show P * P * P * P * P * m14 = P * P * P * P * (P * m14) by grind, e14]
    clear e03 e04 e13 e14 e23 e24 e34 h c3 c4 c13
    grind
  have c23 : P * P * P * P * P * m23 = -((P * P * p123) * (P * P * m02)) - (-(P * R)) * (P * P * P * m12) := by
    rw [show P * P * P * P * P * m23 = P * P * P * P * (P * m23) by grind, e23]
    clear e03 e04 e13 e14 e23 e24 e34 h c3 c4 c13 c14
    grind
  have c24 : P * P * P * P * P * P * m24 = -((P * P * P * p124) * (P * P * m02)) - (-(P * P * p024)) * (P * P * P * m12) := by
    rw [show P * P * P * P * P * P * m24 = P * P * P * P * P * (P * m24) by grind, e24]
    clear e03 e04 e13 e14 e23 e24 e34 h c3 c4 c13 c14 c23
    grind
  have c34 : P * P * P * P * P * P * P * m34 = ((P * P * p123) * (-(P * P * p024)) - (-(P * R)) * (P * P * P * p124)) * (P * m01) + ((P * P * p123) * (P * p014) - T * (P * P * P * p124)) * (P * P * m02) + ((-(P * R)) * (P * p014) - T * (-(P * P * p024))) * (P * P * P * m12) := by
    have q : P * P * P * P * P * P * P * m34 = P * P * P * P * P * P * (P * m34) := by grind
    have f : P * P * P * P * P * P * (p124 * -m03 - p024 * -m13 + p014 * -m23) = -(P * P * P * p124) * (P * P * P * m03) + (P * P * p024) * (P * P * P * P * m13) - (P * p014) * (P * P * P * P * P * m23) := by clear e03 e04 e13 e14 e23 e24 e34 h c3 c4 c13 c14 c23 c24 q; grind
    rw [q, e34, f, c3, c13, c23]
    clear e03 e04 e13 e14 e23 e24 e34 h c3 c4 c13 c14 c23 c24 q f
    grind
  have hh := dS_sc P m01 m02 m03 m04 (m03 + m12) (m04 + m13) m14 (m14 + m23) m24 m34
  rw [Int.mul_add, Int.mul_add, Int.mul_add, c3, c4, c13, c14, c23, c24, c34] at hh
  rw [h] at hh
  rcases Int.mul_eq_zero.mp hh.symm with z | z
  · exfalso
    have hp2 : P * P * P * P * P * P * P * P ≠ 0 := Int.mul_ne_zero (Int.mul_ne_zero (Int.mul_ne_zero (Int.mul_ne_zero (Int.mul_ne_zero (Int.mul_ne_zero (Int.mul_ne_zero hP hP) hP) hP) hP) hP) hP) hP
    exact Int.mul_ne_zero hp2 hp2 z
  · exact z
theorem row_exact {X Y W : Nat → Int} (hd : d3 X Y W 0 1 2 ≠ 0) (g0 : hP 0 X Y W = 0) (g1 : hP 1 X Y W = 0) (g2 : hP 2 X Y W = 0) (g3 : hP 3 X Y W = 0) : EA X Y W ∨ ∀ x y w : Int, FF X Y W x y w = 0 := by
  rcases ch_exact hd (plk034 X Y W) (plk134 X Y W) (plk234 X Y W) g0 g1 g2 g3 with q | q
  · exact Or.inl q
  · refine Or.inr (fun x y w => ?_)
    have e03 := m3_cmb X Y W x y w 0 0 1 2 3 _ _ _ _ (cramX X Y W 0 1 2 3) (cramY X Y W 0 1 2 3) (cramW X Y W 0 1 2 3)
    have e04 := m3_cmb X Y W x y w 0 0 1 2 4 _ _ _ _ (cramX X Y W 0 1 2 4) (cramY X Y W 0 1 2 4) (cramW X Y W 0 1 2 4)
    have e13 := m3_cmb X Y W x y w 1 0 1 2 3 _ _ _ _ (cramX X Y W 0 1 2 3) (cramY X Y W 0 1 2 3) (cramW X Y W 0 1 2 3)
    have e14 := m3_cmb X Y W x y w 1 0 1 2 4 _ _ _ _ (cramX X Y W 0 1 2 4) (cramY X Y W 0 1 2 4) (cramW X Y W 0 1 2 4)
    have e23 := m3_cmb X Y W x y w 2 0 1 2 3 _ _ _ _ (cramX X Y W 0 1 2 3) (cramY X Y W 0 1 2 3) (cramW X Y W 0 1 2 3)
    have e24 := m3_cmb X Y W x y w 2 0 1 2 4 _ _ _ _ (cramX X Y W 0 1 2 4) (cramY X Y W 0 1 2 4) (cramW X Y W 0 1 2 4)
    have e34 := m3_cmb X Y W x y w 3 0 1 2 4 _ _ _ _ (cramX X Y W 0 1 2 4) (cramY X Y W 0 1 2 4) (cramW X Y W 0 1 2 4)
    rw [m3_anti X Y W x y w 3 0, m3_anti X Y W x y w 3 1, m3_anti X Y W x y w 3 2] at e34
    rw [m3_self] at e03 e04 e13 e14 e23 e24
    rw [m3_anti X Y W x y w 1 0] at e13 e14
    rw [m3_anti X Y W x y w 2 0, m3_anti X Y W x y w 2 1] at e23 e24
    exact sc_F (c := 0) e03 e04 e13 e14 e23 e24 e34 hd (q _ _ _)
