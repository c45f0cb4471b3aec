theorem m3_cmb (X Y W : Nat → Int) (x y w : Int) (h i j k l : Nat) (d a b c : Int) (h1 : d * X l = a * X i - b * X j + c * X k) (h2 : d * Y l = a * Y i - b * Y j + c * Y k) (h3 : d * W l = a * W i - b * W j + c * W k) : d * m3 X Y W x y w h l = a * m3 X Y W x y w h i - b * m3 X Y W x y w h j + c * m3 X Y W x y w h k := by
  unfold m3
  generalize X l = x1 at *
  generalize Y l = y1 at *
  generalize W l = w1 at *
  grind
theorem m3_anti (X Y W : Nat → Int) (x y w : Int) (i j : Nat) : m3 X Y W x y w i j = -m3 X Y W x y w j i := by
  unfold m3
  grind
theorem m3_self (X Y W : Nat → Int) (x y w : Int) (i : Nat) : m3 X Y W x y w i i = 0 := by
  unfold m3
  grind
theorem tr_u2 {P T R p014 p024 : Int} (hU : 4 * P * p014 = T * T) (hZ : T * p014 - T * R + 2 * P * p024 = 0) : 8 * P * P * p024 = T * (4 * P * R - T * T) := by grind
theorem tr_u3 {P T R p014 p123 : Int} (hU : 4 * P * p014 = T * T) (h5 : P * p123 + 4 * T * p014 - 2 * T * R = 0) : P * P * p123 = 2 * P * T * R - T * T * T := by grind
theorem tr_u4 {P T R p014 p124 : Int} (hU : 4 * P * p014 = T * T) (h6 : P * p124 - R * R + 2 * R * p014 = 0) : 2 * P * P * p124 = 2 * P * R * R - R * T * T := by grind
theorem tr_c3 {P T R m01 m02 m03 a : Int} (e : P * m03 = a * 0 - R * m01 + T * m02) : 2 * P * (2 * P) * (2 * P) * m03 = -(4 * P * R) * (2 * P * m01) + 2 * T * (2 * P * (2 * P) * m02) := by grind
theorem tr_c4 {P T R m01 m02 m04 a p014 p024 : Int} (u1 : 4 * P * p014 = T * T) (u2 : 8 * P * P * p024 = T * (4 * P * R - T * T)) (e : P * m04 = a * 0 - p024 * m01 + p014 * m02) : 2 * P * (2 * P) * (2 * P) * (2 * P) * m04 = T * (-(4 * P * R) + T * T) * (2 * P * m01) + T * T * (2 * P * (2 * P) * m02) := by
  have f : 2 * P * (2 * P) * (2 * P) * (2 * P) * m04 = 16 * P * P * P * (P * m04) := by grind
  rw [f, e]
  grind
theorem tr_c13 {P T R m01 m12 m13 b p123 : Int} (u3 : P * P * p123 = 2 * P * T * R - T * T * T) (e : P * m13 = p123 * -m01 - b * 0 + T * m12) : 2 * P * (2 * P) * (2 * P) * (2 * P) * m13 = (8 * T * T * T + 4 * T * -(4 * P * R)) * (2 * P * m01) + 2 * T * (2 * P * (2 * P) * (2 * P) * m12) := by
  have f : 2 * P * (2 * P) * (2 * P) * (2 * P) * m13 = 16 * P * P * P * (P * m13) := by grind
  rw [f, e]
  grind
theorem tr_c14 {P T R m01 m12 m14 b p014 p124 : Int} (u1 : 4 * P * p014 = T * T) (u4 : 2 * P * P * p124 = 2 * P * R * R - R * T * T) (e : P * m14 = p124 * -m01 - b * 0 + p014 * m12) : 2 * P * (2 * P) * (2 * P) * (2 * P) * (2 * P) * m14 = -(-(4 * P * R) * -(4 * P * R) + 2 * -(4 * P * R) * T * T) * (2 * P * m01) + T * T * (2 * P * (2 * P) * (2 * P) * m12) := by
  have f : 2 * P * (2 * P) * (2 * P) * (2 * P) * (2 * P) * m14 = 32 * P * P * P * P * (P * m14) := by grind
  rw [f, e]
  grind
theorem tr_c23 {P T R m02 m12 m23 c p123 : Int} (u3 : P * P * p123 = 2 * P * T * R - T * T * T) (e : P * m23 = p123 * -m02 - R * -m12 + c * 0) : 2 * P * (2 * P) * (2 * P) * (2 * P) * (2 * P) * m23 = (8 * T * T * T + 4 * T * -(4 * P * R)) * (2 * P * (2 * P) * m02) - -(4 * P * R) * (2 * P * (2 * P) * (2 * P) * m12) := by
  have f : 2 * P * (2 * P) * (2 * P) * (2 * P) * (2 * P) * m23 = 32 * P * P * P * P * (P * m23) := by grind
  rw [f, e]
  grind
theorem tr_c24 {P T R m02 m12 m24 c p024 p124 : Int} (u2 : 8 * P * P * p024 = T * (4 * P * R - T * T)) (u4 : 2 * P * P * p124 = 2 * P * R * R - R * T * T) (e : P * m24 = p124 * -m02 - p024 * -m12 + c * 0) : 2 * P * (2 * P) * (2 * P) * (2 * P) * (2 * P) * (2 * P) * m24 = -(-(4 * P * R) * -(4 * P * R) + 2 * -(4 * P * R) * T * T) * (2 * P * (2 * P) * m02) - T * (-(4 * P * R) + T * T) * (2 * P * (2 * P) * (2 * P) * m12) := by
  have f : 2 * P * (2 * P) * (2 * P) * (2 * P) * (2 * P) * (2 * P) * m24 = 64 * P * P * P * P * P * (P * m24) := by grind
  rw [f, e]
  grind
theorem tr_c34 {P T R m01 m02 m12 m03 m13 m23 m34 p014 p024 p124 : Int} (u1 : 4 * P * p014 = T * T) (u2 : 8 * P * P * p024 = T * (4 * P * R - T * T)) (u4 : 2 * P * P * p124 = 2 * P * R * R - R * T * T) (c3 : 2 * P * (2 * P) * (2 * P) * m03 = -(4 * P * R) * (2 * P * m01) + 2 * T * (2 * P * (2 * P) * m02)) (c13 : 2 * P * (2 * P) * (2 * P) * (2 * P) * m13 = (8 * T * T * T + 4 * T * -(4 * P * R)) * (2 * P * m01) + 2 * T * (2 * P * (2 * P) * (2 * P) * m12)) (c23 : 2 * P * (2 * P) * (2 * P) * (2 * P) * (2 * P) * m23 = (8 * T * T * T + 4 * T * -(4 * P * R)) * (2 * P * (2 * P) * m02) - -(4 * P * R) * (2 * P * (2 * P) * (2 * P) * m12)) (e34 : P * m34 = p124 * -m03 - p024 * -m13 + p014 * -m23) : 2 * P * (2 * P) * (2 * P) * (2 * P) * (2 * P) * (2 * P) * (2 * P) * m34 = (-(8 * T * T * T + 4 * T * -(4 * P * R)) * (T * (-(4 * P * R) + T * T)) - -(4 * P * R) * (-(4 * P * R) * -(4 * P * R) + 2 * -(4 * P * R) * T * T)) * (2 * P * m01) + (-(8 * T * T * T + 4 * T * -(4 * P * R)) * (T * T) - 2 * T * (-(4 * P * R) * -(4 * P * R) + 2 * -(4 * P * R) * T * T)) * (2 * P * (2 * P) * m02) + (-(4 * P * R) * (T * T) - 2 * T * (T * (-(4 * P * R) + T * T))) * (2 * P * (2 * P) * (2 * P) * m12) := by
  have f : 2 * P * (2 * P) * (2 * P) * (2 * P) * (2 * P) * (2 * P) * (2 * P) * m34 = 128 * P * P * P * P * P * P * (P * m34) := by clear u1 u2 u4 c3 c13 c23 e34; grind
  have g : 128 * P * P * P * P * P * P * (p124 * -m03 - p024 * -m13 + p014 * -m23) = -(8 * P * (2 * P * P * p124)) * (2 * P * (2 * P) * (2 * P) * m03) + (8 * P * P * p024) * (2 * P * (2 * P) * (2 * P) * (2 * P) * m13) - (4 * P * p014) * (2 * P * (2 * P) * (2 * P) * (2 * P) * (2 * P) * m23) := by clear u1 u2 u4 c3 c13 c23 e34 f; grind
  rw [f, e34, g, c3, c13, c23, u1, u2, u4]
  clear u1 u2 u4 c3 c13 c23 e34 f g
  grind
theorem pw16 (c : Int) : c ^ 16 = c * c * c * c * c * c * c * c * (c * c * c * c * c * c * c * c) := by grind
/-- what is a square over the first three vectors -/
def GG0 (X Y W : Nat → Int) (x y w : Int) : Int := (-(4 * d3 X Y W 0 1 2 * d3 X Y W 0 2 3) + 3 * d3 X Y W 0 1 3 * d3 X Y W 0 1 3) * (-(4 * d3 X Y W 0 1 2 * d3 X Y W 0 2 3) + 3 * d3 X Y W 0 1 3 * d3 X Y W 0 1 3) * ((2 * d3 X Y W 0 1 2) * m3 X Y W x y w 0 1 * ((2 * d3 X Y W 0 1 2) * (2 * d3 X Y W 0 1 2) * (2 * d3 X Y W 0 1 2) * m3 X Y W x y w 1 2) - ((2 * d3 X Y W 0 1 2) * (2 * d3 X Y W 0 1 2) * m3 X Y W x y w 0 2) * ((2 * d3 X Y W 0 1 2) * (2 * d3 X Y W 0 1 2) * m3 X Y W x y w 0 2) + 2 * d3 X Y W 0 1 3 * ((2 * d3 X Y W 0 1 2) * m3 X Y W x y w 0 1) * ((2 * d3 X Y W 0 1 2) * (2 * d3 X Y W 0 1 2) * m3 X Y W x y w 0 2) + (2 * -(4 * d3 X Y W 0 1 2 * d3 X Y W 0 2 3) + 3 * d3 X Y W 0 1 3 * d3 X Y W 0 1 3) * ((2 * d3 X Y W 0 1 2) * m3 X Y W x y w 0 1) * ((2 * d3 X Y W 0 1 2) * m3 X Y W x y w 0 1))
theorem truth012 {X Y W : Nat → Int} (h : EA X Y W) (x y w : Int) : (2 * d3 X Y W 0 1 2) ^ 16 * FF X Y W x y w = GG0 X Y W x y w * GG0 X Y W x y w := by
  obtain ⟨hU, hZ, h5, h6⟩ := h
  have e03 := m3_cmb X Y W x y w 0 0 1 2 3 _ _ _ _ (cramX X Y W 0 1 2 3) (cramY X Y W 0 1 2 3) (cramW X Y W 0 1 2 3)
  have e04 := m3_cmb X Y W x y w 0 0 1 2 4 _ _ _ _ (cramX X Y W 0 1 2 4) (cramY X Y W 0 1 2 4) (cramW X Y W 0 1 2 4)
  have e13 := m3_cmb X Y W x y w 1 0 1 2 3 _ _ _ _ (cramX X Y W 0 1 2 3) (cramY X Y W 0 1 2 3) (cramW X Y W 0 1 2 3)
  have e14 := m3_cmb X Y W x y w 1 0 1 2 4 _ _ _ _ (cramX X Y W 0 1 2 4) (cramY X Y W 0 1 2 4) (cramW X Y W 0 1 2 4)
  have e23 := m3_cmb X Y W x y w 2 0 1 2 3 _ _ _ _ (cramX X Y W 0 1 2 3) (cramY X Y W 0 1 2 3) (cramW X Y W 0 1 2 3)
  have e24 := m3_cmb X Y W x y w 2 0 1 2 4 _ _ _ _ (cramX X Y W 0 1 2 4) (cramY X Y W 0 1 2 4) (cramW X Y W 0 1 2 4)
  have e34 := m3_cmb X Y W x y w 3 0 1 2 4 _ _ _ _ (cramX X Y W 0 1 2 4) (cramY X Y W 0 1 2 4) (cramW X Y W 0 1 2 4)
  rw [m3_anti X Y W x y w 3 0, m3_anti X Y W x y w 3 1, m3_anti X Y W x y w 3 2] at e34
  rw [m3_self] at e03 e04 e13 e14 e23 e24
  rw [m3_anti X Y W x y w 1 0] at e13 e14
  rw [m3_anti X Y W x y w 2 0, m3_anti X Y W x y w 2 1] at e23 e24
  unfold FF GG0
  generalize m3 X Y W x y w 0 1 = m01 at *
  generalize m3 X Y W x y w 0 2 = m02 at *
  generalize m3 X Y W x y w 0 3 = m03 at *
  generalize m3 X Y W x y w 0 4 = m04 at *
  generalize m3 X Y W x y w 1 2 = m12 at *
  generalize m3 X Y W x y w 1 3 = m13 at *
  generalize m3 X Y W x y w 1 4 = m14 at *
  generalize m3 X Y W x y w 2 3 = m23 at *
  generalize m3 X Y W x y w 2 4 = m24 at *
  generalize m3 X Y W x y w 3 4 = m34 at *
  generalize d3 X Y W 0 1 2 = P at *
  generalize d3 X Y W 0 1 3 = T at *
  generalize d3 X Y W 0 2 3 = R at *
  generalize d3 X Y W 0 1 4 = p014 at *
  generalize d3 X Y W 0 2 4 = p024 at *
  generalize d3 X Y W 1 2 3 = p123 at *
  generalize d3 X Y W 1 2 4 = p124 at *
  have u1 : 4 * P * p014 = T * T := by omega
  have u2 := tr_u2 u1 hZ
  have u3 := tr_u3 u1 h5
  have u4 := tr_u4 u1 h6
  have c3 := tr_c3 e03
  have c4 := tr_c4 u1 u2 e04
  have c13 := tr_c13 u3 e13
  have c14 := tr_c14 u1 u4 e14
  have c23 := tr_c23 u3 e23
  have c24 := tr_c24 u2 u4 e24
  have c34 := tr_c34 u1 u2 u4 c3 c13 c23 e34
  have hh := dS_sc (2 * P) m01 m02 m03 m04 (m03 + m12) (m04 + m13) m14 (m14 + m23) m24 m34
  rw [Int.mul_add, Int.mul_add, Int.mul_add, c3, c4, c13, c14, c23, c24, c34] at hh
  rw [dS_dbl T (-(4 * P * R)) (2 * P * m01) (2 * P * (2 * P) * m02) (2 * P * (2 * P) * (2 * P) * m12)] at hh
  rw [pw16, ← hh]
