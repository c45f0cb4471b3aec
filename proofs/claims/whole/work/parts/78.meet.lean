/-! where the curve meets itself: the sextic that is the determinant of nine quadratic entries -/
def hz0 (a000 a100 a200 a110 a210 a220 a111 a211 a221 a222 : Int) : Int := a000 * a110 * a220 - a000 * a210 * a210 - a100 * a100 * a220 + 2 * a100 * a200 * a210 - a110 * a200 * a200
def hz1 (a000 a100 a200 a110 a210 a220 a111 a211 a221 a222 : Int) : Int := a000 * a110 * a221 + a000 * a111 * a220 - 2 * a000 * a210 * a211 - a100 * a100 * a221 - a100 * a110 * a220 + 2 * a100 * a200 * a211 + a100 * a210 * a210 - a111 * a200 * a200
def hz2 (a000 a100 a200 a110 a210 a220 a111 a211 a221 a222 : Int) : Int := a000 * a110 * a222 + a000 * a111 * a221 - 2 * a000 * a210 * a221 - a000 * a211 * a211 + a000 * a211 * a220 - a100 * a100 * a222 - a100 * a110 * a221 + a100 * a111 * a220 + 2 * a100 * a200 * a221 - a110 * a110 * a220 + 2 * a110 * a200 * a211 - a110 * a200 * a220 + a110 * a210 * a210 - 2 * a111 * a200 * a210 - a200 * a200 * a211 + a200 * a210 * a210
def hz3 (a000 a100 a200 a110 a210 a220 a111 a211 a221 a222 : Int) : Int := a000 * a111 * a222 - a000 * a211 * a221 - a100 * a110 * a222 + a100 * a111 * a221 - 2 * a100 * a210 * a221 - a100 * a211 * a211 + 3 * a100 * a211 * a220 - a110 * a110 * a221 + 3 * a110 * a200 * a221 + 2 * a110 * a210 * a211 - 2 * a110 * a210 * a220 - a111 * a200 * a220 - a111 * a210 * a210 - 2 * a200 * a210 * a211 + 2 * a210 * a210 * a210
def hz4 (a000 a100 a200 a110 a210 a220 a111 a211 a221 a222 : Int) : Int := a000 * a211 * a222 - a000 * a221 * a221 + a100 * a111 * a222 - 2 * a100 * a210 * a222 - a100 * a211 * a221 + 2 * a100 * a220 * a221 - a110 * a110 * a222 + a110 * a200 * a222 + 2 * a110 * a211 * a220 - a110 * a220 * a220 + a111 * a200 * a221 - 2 * a111 * a210 * a220 - a200 * a211 * a211 - a200 * a211 * a220 + a210 * a210 * a211 + a210 * a210 * a220
def hz5 (a000 a100 a200 a110 a210 a220 a111 a211 a221 a222 : Int) : Int := a100 * a211 * a222 - a100 * a221 * a221 - 2 * a110 * a210 * a222 + 2 * a110 * a220 * a221 + a111 * a200 * a222 - a111 * a220 * a220 - a200 * a211 * a221 + a210 * a210 * a221
def hz6 (a000 a100 a200 a110 a210 a220 a111 a211 a221 a222 : Int) : Int := a200 * a211 * a222 - a200 * a221 * a221 - a210 * a210 * a222 + 2 * a210 * a220 * a221 - a211 * a220 * a220
theorem det4_col (p q r a0 a1 a2 b0 b1 b2 c0 c1 c2 d0 d1 d2 : Int) : det4 a0 a1 a2 (p * a0 + q * a1 + r * a2) b0 b1 b2 (p * b0 + q * b1 + r * b2) c0 c1 c2 (p * c0 + q * c1 + r * c2) d0 d1 d2 (p * d0 + q * d1 + r * d2) = 0 := by
  unfold det4
  grind
theorem det4_sc (s a0 a1 a2 a3 b0 b1 b2 b3 c0 c1 c2 c3 d0 d1 d2 d3 : Int) : det4 a0 a1 a2 (s * a3) b0 b1 b2 (s * b3) c0 c1 c2 (s * c3) d0 d1 d2 (s * d3) = s * det4 a0 a1 a2 a3 b0 b1 b2 b3 c0 c1 c2 c3 d0 d1 d2 d3 := by
  unfold det4
  grind
theorem k_zero {s p q r a b c d e f g h i j : Int} (hs : s ≠ 0) (h1 : s * d = p * a + q * b + r * c) (h2 : s * g = p * b + q * e + r * f) (h3 : s * i = p * c + q * f + r * h) (h4 : s * j = p * d + q * g + r * i) : dS a b c d e f g h i j = 0 := by
  have k1 := det4_sc s a b c d b e f g c f h i d g i j
  rw [h1, h2, h3, h4, det4_col] at k1
  rcases Int.mul_eq_zero.mp k1.symm with z | z
  · exact absurd z hs
  · exact z
theorem hc0 (x1 x2 x3 y1 y2 y3 : Int) : hz0 1 x3 y3 (y3 - x2) (-y2) (x2 * y3 - x3 * y2) (x1 - 2 * y2) (x2 * y3 - x3 * y2 + y1) (x3 * y1 - x1 * y3) (x1 * y2 - x2 * y1) = vv x2 x3 y3 * x3 * (y2 + x3 * y3) - vv x2 x3 y3 * vv x2 x3 y3 * y3 - (y2 + x3 * y3) * (y2 + x3 * y3) := by
  unfold hz0 vv
  grind
/-- the second factor is nothing -/
theorem hc2 (x1 x3 y1 y3 m01 m02 m12 : Int) : ∃ Q : Int, dS m01 m02 ((y3 - x3 * x3) * m01 + x3 * m02) (-(x3 * y3) * m01 + y3 * m02) ((y3 - x3 * x3) * m01 + x3 * m02 + m12) (-(x3 * y3) * m01 + y3 * m02 + (x3 * m12 - x1 * m01)) (y3 * m12 - y1 * m01) (y3 * m12 - y1 * m01 + (-(x1 * m02) - (y3 - x3 * x3) * m12)) (-(y1 * m02) - -(x3 * y3) * m12) ((x1 * -(x3 * y3) - (y3 - x3 * x3) * y1) * m01 + (x1 * y3 - x3 * y1) * m02 + ((y3 - x3 * x3) * y3 - x3 * -(x3 * y3)) * m12) = hz2 1 x3 y3 (y3 - (y3 - x3 * x3)) (-(-(x3 * y3))) ((y3 - x3 * x3) * y3 - x3 * -(x3 * y3)) (x1 - 2 * -(x3 * y3)) ((y3 - x3 * x3) * y3 - x3 * -(x3 * y3) + y1) (x3 * y1 - x1 * y3) (x1 * -(x3 * y3) - (y3 - x3 * x3) * y1) * Q := by
  refine ⟨(m01 * ((y3 - x3 * x3) * m01 + x3 * m02 + m12 - x3 * m02) - (m02 - x3 * m01) * m02) * ((m02 - x3 * m01) * (m02 - x3 * m01)) - (m01 * (-(x3 * y3) * m01 + y3 * m02 + (x3 * m12 - x1 * m01) - x3 * ((y3 - x3 * x3) * m01 + x3 * m02)) - (m02 - x3 * m01) * ((y3 - x3 * x3) * m01 + x3 * m02)) * (m01 * (m02 - x3 * m01)) + (m01 * (y3 * m12 - y1 * m01 - x3 * (-(x3 * y3) * m01 + y3 * m02)) - (m02 - x3 * m01) * (-(x3 * y3) * m01 + y3 * m02)) * (m01 * m01), ?_⟩
  unfold dS det4 hz2
  grind
