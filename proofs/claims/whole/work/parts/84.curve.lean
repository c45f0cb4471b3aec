/-! on the curve itself -/
def pv (X : Nat → Int) (t : Int) : Int := X 0 + t * X 1 + t * t * X 2 + t * t * t * X 3 + t * t * t * t * X 4
theorem mg_a (X Y W : Nat → Int) (t : Int) : m3 X Y W (pv X t) (pv Y t) (pv W t) 0 1 = t * t * (d3 X Y W 0 1 2 + d3 X Y W 0 1 3 * t + d3 X Y W 0 1 4 * (t * t)) := by
  unfold m3 d3 pv
  grind
theorem mg_b (X Y W : Nat → Int) (t : Int) : m3 X Y W (pv X t) (pv Y t) (pv W t) 0 2 = t * t * (d3 X Y W 0 1 3 + (d3 X Y W 0 1 4 + d3 X Y W 0 2 3) * t + d3 X Y W 0 2 4 * (t * t)) - t * (d3 X Y W 0 1 2 + d3 X Y W 0 1 3 * t + d3 X Y W 0 1 4 * (t * t)) := by
  unfold m3 d3 pv
  grind
theorem mg_c (X Y W : Nat → Int) (t : Int) : m3 X Y W (pv X t) (pv Y t) (pv W t) 0 3 = t * t * (d3 X Y W 0 1 4 + d3 X Y W 0 2 4 * t + d3 X Y W 0 3 4 * (t * t)) - t * (d3 X Y W 0 1 3 + (d3 X Y W 0 1 4 + d3 X Y W 0 2 3) * t + d3 X Y W 0 2 4 * (t * t)) := by
  unfold m3 d3 pv
  grind
theorem mg_d (X Y W : Nat → Int) (t : Int) : m3 X Y W (pv X t) (pv Y t) (pv W t) 0 4 = -(t * (d3 X Y W 0 1 4 + d3 X Y W 0 2 4 * t + d3 X Y W 0 3 4 * (t * t))) := by
  unfold m3 d3 pv
  grind
theorem mg_e (X Y W : Nat → Int) (t : Int) : m3 X Y W (pv X t) (pv Y t) (pv W t) 0 3 + m3 X Y W (pv X t) (pv Y t) (pv W t) 1 2 = (d3 X Y W 0 1 2 + d3 X Y W 0 1 3 * t + d3 X Y W 0 1 4 * (t * t)) - 2 * t * (d3 X Y W 0 1 3 + (d3 X Y W 0 1 4 + d3 X Y W 0 2 3) * t + d3 X Y W 0 2 4 * (t * t)) + t * t * ((d3 X Y W 0 1 4 + d3 X Y W 0 2 3) + (2 * d3 X Y W 0 2 4 + d3 X Y W 1 2 3) * t + (d3 X Y W 0 3 4 + d3 X Y W 1 2 4) * (t * t)) := by
  unfold m3 d3 pv
  grind
theorem mg_f (X Y W : Nat → Int) (t : Int) : m3 X Y W (pv X t) (pv Y t) (pv W t) 0 4 + m3 X Y W (pv X t) (pv Y t) (pv W t) 1 3 = (d3 X Y W 0 1 3 + (d3 X Y W 0 1 4 + d3 X Y W 0 2 3) * t + d3 X Y W 0 2 4 * (t * t)) - t * (d3 X Y W 0 1 4 + d3 X Y W 0 2 4 * t + d3 X Y W 0 3 4 * (t * t)) - t * ((d3 X Y W 0 1 4 + d3 X Y W 0 2 3) + (2 * d3 X Y W 0 2 4 + d3 X Y W 1 2 3) * t + (d3 X Y W 0 3 4 + d3 X Y W 1 2 4) * (t * t)) + t * t * (d3 X Y W 0 2 4 + (d3 X Y W 0 3 4 + d3 X Y W 1 2 4) * t + d3 X Y W 1 3 4 * (t * t)) := by
  unfold m3 d3 pv
  grind
theorem mg_g (X Y W : Nat → Int) (t : Int) : m3 X Y W (pv X t) (pv Y t) (pv W t) 1 4 = (d3 X Y W 0 1 4 + d3 X Y W 0 2 4 * t + d3 X Y W 0 3 4 * (t * t)) - t * (d3 X Y W 0 2 4 + (d3 X Y W 0 3 4 + d3 X Y W 1 2 4) * t + d3 X Y W 1 3 4 * (t * t)) := by
  unfold m3 d3 pv
  grind
theorem mg_h (X Y W : Nat → Int) (t : Int) : m3 X Y W (pv X t) (pv Y t) (pv W t) 1 4 + m3 X Y W (pv X t) (pv Y t) (pv W t) 2 3 = ((d3 X Y W 0 1 4 + d3 X Y W 0 2 3) + (2 * d3 X Y W 0 2 4 + d3 X Y W 1 2 3) * t + (d3 X Y W 0 3 4 + d3 X Y W 1 2 4) * (t * t)) - 2 * t * (d3 X Y W 0 2 4 + (d3 X Y W 0 3 4 + d3 X Y W 1 2 4) * t + d3 X Y W 1 3 4 * (t * t)) + t * t * (d3 X Y W 0 3 4 + d3 X Y W 1 3 4 * t + d3 X Y W 2 3 4 * (t * t)) := by
  unfold m3 d3 pv
  grind
theorem mg_i (X Y W : Nat → Int) (t : Int) : m3 X Y W (pv X t) (pv Y t) (pv W t) 2 4 = (d3 X Y W 0 2 4 + (d3 X Y W 0 3 4 + d3 X Y W 1 2 4) * t + d3 X Y W 1 3 4 * (t * t)) - t * (d3 X Y W 0 3 4 + d3 X Y W 1 3 4 * t + d3 X Y W 2 3 4 * (t * t)) := by
  unfold m3 d3 pv
  grind
theorem mg_j (X Y W : Nat → Int) (t : Int) : m3 X Y W (pv X t) (pv Y t) (pv W t) 3 4 = (d3 X Y W 0 3 4 + d3 X Y W 1 3 4 * t + d3 X Y W 2 3 4 * (t * t)) := by
  unfold m3 d3 pv
  grind
theorem FF_g (X Y W : Nat → Int) (t : Int) : FF X Y W (pv X t) (pv Y t) (pv W t) = 0 := by
  unfold FF
  rw [mg_e, mg_f, mg_h, mg_a, mg_b, mg_c, mg_d, mg_g, mg_i, mg_j]
  exact dS_ker _ _ _ _ _ _ _
def hL (X Y W : Nat → Int) : List Int := [hP 0 X Y W, hP 1 X Y W, hP 2 X Y W, hP 3 X Y W, hP 4 X Y W, hP 5 X Y W, hP 6 X Y W]
theorem dd3_t (t a000 a100 a200 a110 a210 a220 a111 a211 a221 a222 : Int) : dd3 (a000 + a100 * t + a200 * (t * t)) (a100 + a110 * t + a210 * (t * t)) (a200 + a210 * t + a220 * (t * t)) (a110 + a111 * t + a211 * (t * t)) (a210 + a211 * t + a221 * (t * t)) (a220 + a221 * t + a222 * (t * t)) = evl [hz0 a000 a100 a200 a110 a210 a220 a111 a211 a221 a222, hz1 a000 a100 a200 a110 a210 a220 a111 a211 a221 a222, hz2 a000 a100 a200 a110 a210 a220 a111 a211 a221 a222, hz3 a000 a100 a200 a110 a210 a220 a111 a211 a221 a222, hz4 a000 a100 a200 a110 a210 a220 a111 a211 a221 a222, hz5 a000 a100 a200 a110 a210 a220 a111 a211 a221 a222, hz6 a000 a100 a200 a110 a210 a220 a111 a211 a221 a222] t := by
  show _ = hz0 _ _ _ _ _ _ _ _ _ _ + t * (hz1 _ _ _ _ _ _ _ _ _ _ + t * (hz2 _ _ _ _ _ _ _ _ _ _ + t * (hz3 _ _ _ _ _ _ _ _ _ _ + t * (hz4 _ _ _ _ _ _ _ _ _ _ + t * (hz5 _ _ _ _ _ _ _ _ _ _ + t * (hz6 _ _ _ _ _ _ _ _ _ _ + t * 0))))))
  unfold dd3 hz0 hz1 hz2 hz3 hz4 hz5 hz6
  grind
def dL (X Y W : Nat → Int) (v1 v2 v3 : Int) : List Int := [m3 X Y W v1 v2 v3 0 1, 2 * m3 X Y W v1 v2 v3 0 2, 3 * m3 X Y W v1 v2 v3 0 3 + m3 X Y W v1 v2 v3 1 2, 4 * m3 X Y W v1 v2 v3 0 4 + 2 * m3 X Y W v1 v2 v3 1 3, 3 * m3 X Y W v1 v2 v3 1 4 + m3 X Y W v1 v2 v3 2 3, 2 * m3 X Y W v1 v2 v3 2 4, m3 X Y W v1 v2 v3 3 4]
def dF (X Y W : Nat → Int) (x y w v1 v2 v3 : Int) : Int := dD (m3 X Y W x y w 0 1) (m3 X Y W x y w 0 2) (m3 X Y W x y w 0 3) (m3 X Y W x y w 0 4) (m3 X Y W x y w 0 3 + m3 X Y W x y w 1 2) (m3 X Y W x y w 0 4 + m3 X Y W x y w 1 3) (m3 X Y W x y w 1 4) (m3 X Y W x y w 1 4 + m3 X Y W x y w 2 3) (m3 X Y W x y w 2 4) (m3 X Y W x y w 3 4) (m3 X Y W v1 v2 v3 0 1) (m3 X Y W v1 v2 v3 0 2) (m3 X Y W v1 v2 v3 0 3) (m3 X Y W v1 v2 v3 0 4) (m3 X Y W v1 v2 v3 0 3 + m3 X Y W v1 v2 v3 1 2) (m3 X Y W v1 v2 v3 0 4 + m3 X Y W v1 v2 v3 1 3) (m3 X Y W v1 v2 v3 1 4) (m3 X Y W v1 v2 v3 1 4 + m3 X Y W v1 v2 v3 2 3) (m3 X Y W v1 v2 v3 2 4) (m3 X Y W v1 v2 v3 3 4)
theorem dF_g (X Y W : Nat → Int) (t v1 v2 v3 : Int) : dF X Y W (pv X t) (pv Y t) (pv W t) v1 v2 v3 = evl (hL X Y W) t * evl (dL X Y W v1 v2 v3) t := by
  unfold dF
  rw [mg_e, mg_f, mg_h, mg_a, mg_b, mg_c, mg_d, mg_g, mg_i, mg_j, dD_ker, dd3_t]
  congr 1
  show _ = m3 X Y W v1 v2 v3 0 1 + t * (2 * m3 X Y W v1 v2 v3 0 2 + t * ((3 * m3 X Y W v1 v2 v3 0 3 + m3 X Y W v1 v2 v3 1 2) + t * ((4 * m3 X Y W v1 v2 v3 0 4 + 2 * m3 X Y W v1 v2 v3 1 3) + t * ((3 * m3 X Y W v1 v2 v3 1 4 + m3 X Y W v1 v2 v3 2 3) + t * (2 * m3 X Y W v1 v2 v3 2 4 + t * (m3 X Y W v1 v2 v3 3 4 + t * 0))))))
  generalize m3 X Y W v1 v2 v3 = m
  grind
theorem m3_lin (X Y W : Nat → Int) (x y w v1 v2 v3 k : Int) (i j : Nat) : m3 X Y W (x + k * v1) (y + k * v2) (w + k * v3) i j = m3 X Y W x y w i j + k * m3 X Y W v1 v2 v3 i j := by
  unfold m3
  grind
theorem FF_sh (X Y W : Nat → Int) (x y w v1 v2 v3 k : Int) : FF X Y W (x + k * v1) (y + k * v2) (w + k * v3) = dS ((m3 X Y W x y w 0 1) + k * (m3 X Y W v1 v2 v3 0 1)) ((m3 X Y W x y w 0 2) + k * (m3 X Y W v1 v2 v3 0 2)) ((m3 X Y W x y w 0 3) + k * (m3 X Y W v1 v2 v3 0 3)) ((m3 X Y W x y w 0 4) + k * (m3 X Y W v1 v2 v3 0 4)) ((m3 X Y W x y w 0 3 + m3 X Y W x y w 1 2) + k * (m3 X Y W v1 v2 v3 0 3 + m3 X Y W v1 v2 v3 1 2)) ((m3 X Y W x y w 0 4 + m3 X Y W x y w 1 3) + k * (m3 X Y W v1 v2 v3 0 4 + m3 X Y W v1 v2 v3 1 3)) ((m3 X Y W x y w 1 4) + k * (m3 X Y W v1 v2 v3 1 4)) ((m3 X Y W x y w 1 4 + m3 X Y W x y w 2 3) + k * (m3 X Y W v1 v2 v3 1 4 + m3 X Y W v1 v2 v3 2 3)) ((m3 X Y W x y w 2 4) + k * (m3 X Y W v1 v2 v3 2 4)) ((m3 X Y W x y w 3 4) + k * (m3 X Y W v1 v2 v3 3 4)) := by
  unfold FF
  rw [m3_lin, m3_lin, m3_lin, m3_lin, m3_lin, m3_lin, m3_lin, m3_lin, m3_lin, m3_lin]
  generalize m3 X Y W v1 v2 v3 = n
  generalize m3 X Y W x y w = m
  rw [show m 0 3 + k * n 0 3 + (m 1 2 + k * n 1 2) = m 0 3 + m 1 2 + k * (n 0 3 + n 1 2) by grind, show m 0 4 + k * n 0 4 + (m 1 3 + k * n 1 3) = m 0 4 + m 1 3 + k * (n 0 4 + n 1 3) by grind, show m 1 4 + k * n 1 4 + (m 2 3 + k * n 2 3) = m 1 4 + m 2 3 + k * (n 1 4 + n 2 3) by grind]
theorem FF_fd (X Y W : Nat → Int) (x y w v1 v2 v3 : Int) : 12 * dF X Y W x y w v1 v2 v3 = 8 * FF X Y W (x + 1 * v1) (y + 1 * v2) (w + 1 * v3) - 8 * FF X Y W (x + -1 * v1) (y + -1 * v2) (w + -1 * v3) - FF X Y W (x + 2 * v1) (y + 2 * v2) (w + 2 * v3) + FF X Y W (x + -2 * v1) (y + -2 * v2) (w + -2 * v3) := by
  unfold dF
  rw [dS_fd, FF_sh, FF_sh, FF_sh, FF_sh]
  simp only [Int.one_mul, Int.neg_mul, Int.sub_eq_add_neg]
/-! a square less a multiple of 2^64 -/
def cE (e : Nat → Int) (x y w : Int) : Int := e 0 * (x * x) + e 1 * (x * y) + e 2 * (y * y) + e 3 * (x * w) + e 4 * (y * w) + e 5 * (w * w)
def cS (e : Nat → Int) (x y w v1 v2 v3 : Int) : Int := 2 * e 0 * (x * v1) + e 1 * (x * v2 + y * v1) + 2 * e 2 * (y * v2) + e 3 * (x * v3 + w * v1) + e 4 * (y * v3 + w * v2) + 2 * e 5 * (w * v3)
def qg (G : Nat → Int) (x y w : Int) : Int := G 0 * (x * x * x * x) + G 1 * (x * x * x * y) + G 2 * (x * x * y * y) + G 3 * (x * y * y * y) + G 4 * (y * y * y * y) + G 5 * (x * x * x * w) + G 6 * (x * x * y * w) + G 7 * (x * y * y * w) + G 8 * (y * y * y * w) + G 9 * (x * x * w * w) + G 10 * (x * y * w * w) + G 11 * (y * y * w * w) + G 12 * (x * w * w * w) + G 13 * (y * w * w * w) + G 14 * (w * w * w * w)
def dq (G : Nat → Int) (x y w v1 v2 v3 : Int) : Int := G 0 * (4 * (x * x * x) * v1) + G 1 * (3 * (x * x * y) * v1 + 1 * (x * x * x) * v2) + G 2 * (2 * (x * y * y) * v1 + 2 * (x * x * y) * v2) + G 3 * (1 * (y * y * y) * v1 + 3 * (x * y * y) * v2) + G 4 * (4 * (y * y * y) * v2) + G 5 * (3 * (x * x * w) * v1 + 1 * (x * x * x) * v3) + G 6 * (2 * (x * y * w) * v1 + 1 * (x * x * w) * v2 + 1 * (x * x * y) * v3) + G 7 * (1 * (y * y * w) * v1 + 2 * (x * y * w) * v2 + 1 * (x * y * y) * v3) + G 8 * (3 * (y * y * w) * v2 + 1 * (y * y * y) * v3) + G 9 * (2 * (x * w * w) * v1 + 2 * (x * x * w) * v3) + G 10 * (1 * (y * w * w) * v1 + 1 * (x * w * w) * v2 + 2 * (x * y * w) * v3) + G 11 * (2 * (y * w * w) * v2 + 2 * (y * y * w) * v3) + G 12 * (1 * (w * w * w) * v1 + 3 * (x * w * w) * v3) + G 13 * (1 * (w * w * w) * v2 + 3 * (y * w * w) * v3) + G 14 * (4 * (w * w * w) * v3)
theorem cE_fd (e : Nat → Int) (x y w v1 v2 v3 : Int) : 8 * (cE e (x + 1 * v1) (y + 1 * v2) (w + 1 * v3) * cE e (x + 1 * v1) (y + 1 * v2) (w + 1 * v3)) - 8 * (cE e (x + -1 * v1) (y + -1 * v2) (w + -1 * v3) * cE e (x + -1 * v1) (y + -1 * v2) (w + -1 * v3)) - cE e (x + 2 * v1) (y + 2 * v2) (w + 2 * v3) * cE e (x + 2 * v1) (y + 2 * v2) (w + 2 * v3) + cE e (x + -2 * v1) (y + -2 * v2) (w + -2 * v3) * cE e (x + -2 * v1) (y + -2 * v2) (w + -2 * v3) = 12 * (2 * cE e x y w * cS e x y w v1 v2 v3) := by
  have h : ∀ k : Int, cE e (x + k * v1) (y + k * v2) (w + k * v3) = cE e x y w + k * cS e x y w v1 v2 v3 + k * k * cE e v1 v2 v3 := fun k => by
    unfold cE cS
    grind
  rw [h, h, h, h]
  generalize cE e x y w = a
  generalize cS e x y w v1 v2 v3 = b
  generalize cE e v1 v2 v3 = c
  grind
theorem qm0 (x y w v1 v2 v3 : Int) : 8 * ((x + 1 * v1) * (x + 1 * v1) * (x + 1 * v1) * (x + 1 * v1)) - 8 * ((x + -1 * v1) * (x + -1 * v1) * (x + -1 * v1) * (x + -1 * v1)) - ((x + 2 * v1) * (x + 2 * v1) * (x + 2 * v1) * (x + 2 * v1)) + ((x + -2 * v1) * (x + -2 * v1) * (x + -2 * v1) * (x + -2 * v1)) = 12 * (4 * (x * x * x) * v1) := by grind
theorem qm1 (x y w v1 v2 v3 : Int) : 8 * ((x + 1 * v1) * (x + 1 * v1) * (x + 1 * v1) * (y + 1 * v2)) - 8 * ((x + -1 * v1) * (x + -1 * v1) * (x + -1 * v1) * (y + -1 * v2)) - ((x + 2 * v1) * (x + 2 * v1) * (x + 2 * v1) * (y + 2 * v2)) + ((x + -2 * v1) * (x + -2 * v1) * (x + -2 * v1) * (y + -2 * v2)) = 12 * (3 * (x * x * y) * v1 + 1 * (x * x * x) * v2) := by grind
theorem qm2 (x y w v1 v2 v3 : Int) : 8 * ((x + 1 * v1) * (x + 1 * v1) * (y + 1 * v2) * (y + 1 * v2)) - 8 * ((x + -1 * v1) * (x + -1 * v1) * (y + -1 * v2) * (y + -1 * v2)) - ((x + 2 * v1) * (x + 2 * v1) * (y + 2 * v2) * (y + 2 * v2)) + ((x + -2 * v1) * (x + -2 * v1) * (y + -2 * v2) * (y + -2 * v2)) = 12 * (2 * (x * y * y) * v1 + 2 * (x * x * y) * v2) := by grind
theorem qm3 (x y w v1 v2 v3 : Int) : 8 * ((x + 1 * v1) * (y + 1 * v2) * (y + 1 * v2) * (y + 1 * v2)) - 8 * ((x + -1 * v1) * (y + -1 * v2) * (y + -1 * v2) * (y + -1 * v2)) - ((x + 2 * v1) * (y + 2 * v2) * (y + 2 * v2) * (y + 2 * v2)) + ((x + -2 * v1) * (y + -2 * v2) * (y + -2 * v2) * (y + -2 * v2)) = 12 * (1 * (y * y * y) * v1 + 3 * (x * y * y) * v2) := by grind
theorem qm4 (x y w v1 v2 v3 : Int) : 8 * ((y + 1 * v2) * (y + 1 * v2) * (y + 1 * v2) * (y + 1 * v2)) - 8 * ((y + -1 * v2) * (y + -1 * v2) * (y + -1 * v2) * (y + -1 * v2)) - ((y + 2 * v2) * (y + 2 * v2) * (y + 2 * v2) * (y + 2 * v2)) + ((y + -2 * v2) * (y + -2 * v2) * (y + -2 * v2) * (y + -2 * v2)) = 12 * (4 * (y * y * y) * v2) := by grind
theorem qm5 (x y w v1 v2 v3 : Int) : 8 * ((x + 1 * v1) * (x + 1 * v1) * (x + 1 * v1) * (w + 1 * v3)) - 8 * ((x + -1 * v1) * (x + -1 * v1) * (x + -1 * v1) * (w + -1 * v3)) - ((x + 2 * v1) * (x + 2 * v1) * (x + 2 * v1) * (w + 2 * v3)) + ((x + -2 * v1) * (x + -2 * v1) * (x + -2 * v1) * (w + -2 * v3)) = 12 * (3 * (x * x * w) * v1 + 1 * (x * x * x) * v3) := by grind
theorem qm6 (x y w v1 v2 v3 : Int) : 8 * ((x + 1 * v1) * (x + 1 * v1) * (y + 1 * v2) * (w + 1 * v3)) - 8 * ((x + -1 * v1) * (x + -1 * v1) * (y + -1 * v2) * (w + -1 * v3)) - ((x + 2 * v1) * (x + 2 * v1) * (y + 2 * v2) * (w + 2 * v3)) + ((x + -2 * v1) * (x + -2 * v1) * (y + -2 * v2) * (w + -2 * v3)) = 12 * (2 * (x * y * w) * v1 + 1 * (x * x * w) * v2 + 1 * (x * x * y) * v3) := by grind
theorem qm7 (x y w v1 v2 v3 : Int) : 8 * ((x + 1 * v1) * (y + 1 * v2) * (y + 1 * v2) * (w + 1 * v3)) - 8 * ((x + -1 * v1) * (y + -1 * v2) * (y + -1 * v2) * (w + -1 * v3)) - ((x + 2 * v1) * (y + 2 * v2) * (y + 2 * v2) * (w + 2 * v3)) + ((x + -2 * v1) * (y + -2 * v2) * (y + -2 * v2) * (w + -2 * v3)) = 12 * (1 * (y * y * w) * v1 + 2 * (x * y * w) * v2 + 1 * (x * y * y) * v3) := by grind
theorem qm8 (x y w v1 v2 v3 : Int) : 8 * ((y + 1 * v2) * (y + 1 * v2) * (y + 1 * v2) * (w + 1 * v3)) - 8 * ((y + -1 * v2) * (y + -1 * v2) * (y + -1 * v2) * (w + -1 * v3)) - ((y + 2 * v2) * (y + 2 * v2) * (y + 2 * v2) * (w + 2 * v3)) + ((y + -2 * v2) * (y + -2 * v2) * (y + -2 * v2) * (w + -2 * v3)) = 12 * (3 * (y * y * w) * v2 + 1 * (y * y * y) * v3) := by grind
theorem qm9 (x y w v1 v2 v3 : Int) : 8 * ((x + 1 * v1) * (x + 1 * v1) * (w + 1 * v3) * (w + 1 * v3)) - 8 * ((x + -1 * v1) * (x + -1 * v1) * (w + -1 * v3) * (w + -1 * v3)) - ((x + 2 * v1) * (x + 2 * v1) * (w + 2 * v3) * (w + 2 * v3)) + ((x + -2 * v1) * (x + -2 * v1) * (w + -2 * v3) * (w + -2 * v3)) = 12 * (2 * (x * w * w) * v1 + 2 * (x * x * w) * v3) := by grind
theorem qm10 (x y w v1 v2 v3 : Int) : 8 * ((x + 1 * v1) * (y + 1 * v2) * (w + 1 * v3) * (w + 1 * v3)) - 8 * ((x + -1 * v1) * (y + -1 * v2) * (w + -1 * v3) * (w + -1 * v3)) - ((x + 2 * v1) * (y + 2 * v2) * (w + 2 * v3) * (w + 2 * v3)) + ((x + -2 * v1) * (y + -2 * v2) * (w + -2 * v3) * (w + -2 * v3)) = 12 * (1 * (y * w * w) * v1 + 1 * (x * w * w) * v2 + 2 * (x * y * w) * v3) := by grind
theorem qm11 (x y w v1 v2 v3 : Int) : 8 * ((y + 1 * v2) * (y + 1 * v2) * (w + 1 * v3) * (w + 1 * v3)) - 8 * ((y + -1 * v2) * (y + -1 * v2) * (w + -1 * v3) * (w + -1 * v3)) - ((y + 2 * v2) * (y + 2 * v2) * (w + 2 * v3) * (w + 2 * v3)) + ((y + -2 * v2) * (y + -2 * v2) * (w + -2 * v3) * (w + -2 * v3)) = 12 * (2 * (y * w * w) * v2 + 2 * (y * y * w) * v3) := by grind
theorem qm12 (x y w v1 v2 v3 : Int) : 8 * ((x + 1 * v1) * (w + 1 * v3) * (w + 1 * v3) * (w + 1 * v3)) - 8 * ((x + -1 * v1) * (w + -1 * v3) * (w + -1 * v3) * (w + -1 * v3)) - ((x + 2 * v1) * (w + 2 * v3) * (w + 2 * v3) * (w + 2 * v3)) + ((x + -2 * v1) * (w + -2 * v3) * (w + -2 * v3) * (w + -2 * v3)) = 12 * (1 * (w * w * w) * v1 + 3 * (x * w * w) * v3) := by grind
theorem qm13 (x y w v1 v2 v3 : Int) : 8 * ((y + 1 * v2) * (w + 1 * v3) * (w + 1 * v3) * (w + 1 * v3)) - 8 * ((y + -1 * v2) * (w + -1 * v3) * (w + -1 * v3) * (w + -1 * v3)) - ((y + 2 * v2) * (w + 2 * v3) * (w + 2 * v3) * (w + 2 * v3)) + ((y + -2 * v2) * (w + -2 * v3) * (w + -2 * v3) * (w + -2 * v3)) = 12 * (1 * (w * w * w) * v2 + 3 * (y * w * w) * v3) := by grind
theorem qm14 (x y w v1 v2 v3 : Int) : 8 * ((w + 1 * v3) * (w + 1 * v3) * (w + 1 * v3) * (w + 1 * v3)) - 8 * ((w + -1 * v3) * (w + -1 * v3) * (w + -1 * v3) * (w + -1 * v3)) - ((w + 2 * v3) * (w + 2 * v3) * (w + 2 * v3) * (w + 2 * v3)) + ((w + -2 * v3) * (w + -2 * v3) * (w + -2 * v3) * (w + -2 * v3)) = 12 * (4 * (w * w * w) * v3) := by grind
theorem qg_fd (G : Nat → Int) (x y w v1 v2 v3 : Int) : 8 * qg G (x + 1 * v1) (y + 1 * v2) (w + 1 * v3) - 8 * qg G (x + -1 * v1) (y + -1 * v2) (w + -1 * v3) - qg G (x + 2 * v1) (y + 2 * v2) (w + 2 * v3) + qg G (x + -2 * v1) (y + -2 * v2) (w + -2 * v3) = 12 * dq G x y w v1 v2 v3 := by
  unfold qg dq
  grind
