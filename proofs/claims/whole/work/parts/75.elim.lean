/-! the eliminant, as Bezout's form has it -/
def m3 (X Y W : Nat → Int) (x y w : Int) (i j : Nat) : Int := x * (Y i * W j - Y j * W i) - y * (X i * W j - X j * W i) + w * (X i * Y j - X j * Y i)
def det4 (a0 a1 a2 a3 b0 b1 b2 b3 c0 c1 c2 c3 d0 d1 d2 d3 : Int) : Int := a0 * (b1 * (c2 * d3 - c3 * d2) - b2 * (c1 * d3 - c3 * d1) + b3 * (c1 * d2 - c2 * d1)) - a1 * (b0 * (c2 * d3 - c3 * d2) - b2 * (c0 * d3 - c3 * d0) + b3 * (c0 * d2 - c2 * d0)) + a2 * (b0 * (c1 * d3 - c3 * d1) - b1 * (c0 * d3 - c3 * d0) + b3 * (c0 * d1 - c1 * d0)) - a3 * (b0 * (c1 * d2 - c2 * d1) - b1 * (c0 * d2 - c2 * d0) + b2 * (c0 * d1 - c1 * d0))
def dS (a b c d e f g h i j : Int) : Int := det4 a b c d b e f g c f h i d g i j
def FF (X Y W : Nat → Int) (x y w : Int) : Int := dS (m3 X Y W x y w 0 1) (m3 X Y W x y w 0 2) (m3 X Y W x y w 0 3) (m3 X Y W x y w 0 4) (m3 X Y W x y w 0 3 + m3 X Y W x y w 1 2) (m3 X Y W x y w 0 4 + m3 X Y W x y w 1 3) (m3 X Y W x y w 1 4) (m3 X Y W x y w 1 4 + m3 X Y W x y w 2 3) (m3 X Y W x y w 2 4) (m3 X Y W x y w 3 4)
theorem dS_sc (c a b d e f g h i j k : Int) : dS (c * a) (c * c * b) (c * c * c * d) (c * c * c * c * e) (c * c * c * f) (c * c * c * c * g) (c * c * c * c * c * h) (c * c * c * c * c * i) (c * c * c * c * c * c * j) (c * c * c * c * c * c * c * k) = c * c * c * c * c * c * c * c * (c * c * c * c * c * c * c * c) * dS a b d e f g h i j k := by
  unfold dS det4
  grind
/-- on the double conic, in coordinates -/
theorem dS_dbl (T X p q r : Int) : dS p q (X * p + 2 * T * q) (T * (X + T * T) * p + T * T * q) ((X * p + 2 * T * q) + r) ((T * (X + T * T) * p + T * T * q) + ((8 * T * T * T + 4 * T * X) * p + 2 * T * r)) (-(X * X + 2 * X * T * T) * p + T * T * r) ((-(X * X + 2 * X * T * T) * p + T * T * r) + ((8 * T * T * T + 4 * T * X) * q - X * r)) (-(X * X + 2 * X * T * T) * q - T * (X + T * T) * r) ((-(8 * T * T * T + 4 * T * X) * (T * (X + T * T)) - X * (X * X + 2 * X * T * T)) * p + (-(8 * T * T * T + 4 * T * X) * (T * T) - 2 * T * (X * X + 2 * X * T * T)) * q + (X * (T * T) - 2 * T * (T * (X + T * T))) * r) = ((X + 3 * T * T) * (X + 3 * T * T) * (p * r - q * q + 2 * T * p * q + (2 * X + 3 * T * T) * p * p)) * ((X + 3 * T * T) * (X + 3 * T * T) * (p * r - q * q + 2 * T * p * q + (2 * X + 3 * T * T) * p * p)) := by
  unfold dS det4
  grind
