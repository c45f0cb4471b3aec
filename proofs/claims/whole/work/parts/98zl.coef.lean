/-! values tell the numbers of a polynomial; a quartic with a linear factor -/
theorem u7 (c0 c1 c2 c3 c4 c5 c6 : Int) (h : ∀ s : Int, c0 + c1 * s + c2 * (s * s) + c3 * (s * s * s) + c4 * (s * s * (s * s)) + c5 * (s * s * (s * s) * s) + c6 * (s * s * (s * s) * (s * s)) = 0) : c0 = 0 ∧ c1 = 0 ∧ c2 = 0 ∧ c3 = 0 ∧ c4 = 0 ∧ c5 = 0 ∧ c6 = 0 := by
  have a := h 0
  have b := h 1
  have c := h (-1)
  have d := h 2
  have e := h (-2)
  have f := h 3
  have g := h (-3)
  simp only [Int.reduceMul, Int.reduceNeg, Int.mul_zero, Int.mul_one] at a b c d e f g
  omega
def hom6 (t : Nat → Nat → Int) (x y w : Int) : Int :=
  (t 0 0 * (w * w * (w * w) * (w * w)) + t 0 1 * (w * w * (w * w) * w) * y + t 0 2 * (w * w * (w * w)) * (y * y) + t 0 3 * (w * w * w) * (y * y * y) + t 0 4 * (w * w) * (y * y * (y * y)) + t 0 5 * w * (y * y * (y * y) * y) + t 0 6 * (y * y * (y * y) * (y * y)))
  + (t 1 0 * (w * w * (w * w) * w) + t 1 1 * (w * w * (w * w)) * y + t 1 2 * (w * w * w) * (y * y) + t 1 3 * (w * w) * (y * y * y) + t 1 4 * w * (y * y * (y * y)) + t 1 5 * (y * y * (y * y) * y)) * x
  + (t 2 0 * (w * w * (w * w)) + t 2 1 * (w * w * w) * y + t 2 2 * (w * w) * (y * y) + t 2 3 * w * (y * y * y) + t 2 4 * (y * y * (y * y))) * (x * x)
  + (t 3 0 * (w * w * w) + t 3 1 * (w * w) * y + t 3 2 * w * (y * y) + t 3 3 * (y * y * y)) * (x * x * x)
  + (t 4 0 * (w * w) + t 4 1 * w * y + t 4 2 * (y * y)) * (x * x * (x * x))
  + (t 5 0 * w + t 5 1 * y) * (x * x * (x * x) * x)
  + t 6 0 * (x * x * (x * x) * (x * x))
theorem hom6_zero (t : Nat → Nat → Int) (h : ∀ x y : Int, hom6 t x y 1 = 0) : ∀ a b, a + b ≤ 6 → t a b = 0 := by
  have r : ∀ y : Int, _ := fun y => u7 _ _ _ _ _ _ _ (fun s => h s y)
  have c0 := u7 (t 0 0) (t 0 1) (t 0 2) (t 0 3) (t 0 4) (t 0 5) (t 0 6) (fun y => by have := (r y).1; simp only [Int.one_mul, Int.mul_one] at this; exact this)
  have c1 := u7 (t 1 0) (t 1 1) (t 1 2) (t 1 3) (t 1 4) (t 1 5) 0 (fun y => by have := (r y).2.1; simp only [Int.one_mul, Int.mul_one] at this; rw [Int.zero_mul, Int.add_zero]; exact this)
  have c2 := u7 (t 2 0) (t 2 1) (t 2 2) (t 2 3) (t 2 4) 0 0 (fun y => by have := (r y).2.2.1; simp only [Int.one_mul, Int.mul_one] at this; rw [Int.zero_mul, Int.zero_mul, Int.add_zero, Int.add_zero]; exact this)
  have c3 := u7 (t 3 0) (t 3 1) (t 3 2) (t 3 3) 0 0 0 (fun y => by have := (r y).2.2.2.1; simp only [Int.one_mul, Int.mul_one] at this; rw [Int.zero_mul, Int.zero_mul, Int.zero_mul, Int.add_zero, Int.add_zero, Int.add_zero]; exact this)
  have c4 := u7 (t 4 0) (t 4 1) (t 4 2) 0 0 0 0 (fun y => by have := (r y).2.2.2.2.1; simp only [Int.one_mul, Int.mul_one] at this; rw [Int.zero_mul, Int.zero_mul, Int.zero_mul, Int.zero_mul, Int.add_zero, Int.add_zero, Int.add_zero, Int.add_zero]; exact this)
  have c5 := u7 (t 5 0) (t 5 1) 0 0 0 0 0 (fun y => by have := (r y).2.2.2.2.2.1; simp only [Int.one_mul, Int.mul_one] at this; rw [Int.zero_mul, Int.zero_mul, Int.zero_mul, Int.zero_mul, Int.zero_mul, Int.add_zero, Int.add_zero, Int.add_zero, Int.add_zero, Int.add_zero]; exact this)
  have c6 := (r 0).2.2.2.2.2.2
  intro a b hab
  have ha : a = 0 ∨ a = 1 ∨ a = 2 ∨ a = 3 ∨ a = 4 ∨ a = 5 ∨ a = 6 := by omega
  have hb : b = 0 ∨ b = 1 ∨ b = 2 ∨ b = 3 ∨ b = 4 ∨ b = 5 ∨ b = 6 := by omega
  rcases ha with ha | ha | ha | ha | ha | ha | ha <;> rcases hb with hb | hb | hb | hb | hb | hb | hb <;> subst ha <;> subst hb <;> first | (exfalso; omega) | skip
  · exact c0.1
  · exact c0.2.1
  · exact c0.2.2.1
  · exact c0.2.2.2.1
  · exact c0.2.2.2.2.1
  · exact c0.2.2.2.2.2.1
  · exact c0.2.2.2.2.2.2
  · exact c1.1
  · exact c1.2.1
  · exact c1.2.2.1
  · exact c1.2.2.2.1
  · exact c1.2.2.2.2.1
  · exact c1.2.2.2.2.2.1
  · exact c2.1
  · exact c2.2.1
  · exact c2.2.2.1
  · exact c2.2.2.2.1
  · exact c2.2.2.2.2.1
  · exact c3.1
  · exact c3.2.1
  · exact c3.2.2.1
  · exact c3.2.2.2.1
  · exact c4.1
  · exact c4.2.1
  · exact c4.2.2.1
  · exact c5.1
  · exact c5.2.1
  · exact c6
/-- a quartic with the factor p t - q: the discriminant is that of the cubic, times the square of its value -/
def lc (p q : Int) (c : Nat → Int) : Nat → Int := v5 (-q * c 0) (p * c 0 - q * c 1) (p * c 1 - q * c 2) (p * c 2 - q * c 3) (p * c 3)
def dc (c : Nat → Int) : Int := c 1 * c 1 * (c 2 * c 2) - 4 * c 3 * (c 1 * c 1 * c 1) - 4 * c 0 * (c 2 * c 2 * c 2) - 27 * (c 0 * c 0) * (c 3 * c 3) + 18 * (c 0 * c 1) * (c 2 * c 3)
def rc (p q : Int) (c : Nat → Int) : Int := c 0 * (p * p * p) + c 1 * (p * p) * q + c 2 * p * (q * q) + c 3 * (q * q * q)
theorem qD_lc (p q : Int) (c : Nat → Int) : qD (lc p q c) = 27 * (rc p q c * rc p q c) * dc c := by
  show 4 * (qI (lc p q c) * (qI (lc p q c) * qI (lc p q c))) - qJ (lc p q c) * qJ (lc p q c) = _
  have i : qI (lc p q c) = 12 * ((-q * c 0) * (p * c 3)) - 3 * ((p * c 0 - q * c 1) * (p * c 2 - q * c 3)) + (p * c 1 - q * c 2) * (p * c 1 - q * c 2) := rfl
  have j : qJ (lc p q c) = 72 * ((-q * c 0) * ((p * c 1 - q * c 2) * (p * c 3))) + 9 * ((p * c 0 - q * c 1) * ((p * c 1 - q * c 2) * (p * c 2 - q * c 3))) - 27 * ((-q * c 0) * ((p * c 2 - q * c 3) * (p * c 2 - q * c 3))) - 27 * ((p * c 3) * ((p * c 0 - q * c 1) * (p * c 0 - q * c 1))) - 2 * ((p * c 1 - q * c 2) * ((p * c 1 - q * c 2) * (p * c 1 - q * c 2))) := rfl
  rw [i, j]
  unfold rc dc
  generalize c 0 = a
  generalize c 1 = b
  generalize c 2 = d
  generalize c 3 = e
  grind
