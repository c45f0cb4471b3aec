/-! the line's join: minors 0 by size -/
theorem minors0 {m : Nat} {a b c : Int} {X Y W : Nat → Int} (ho : a % 2 = 1 ∨ b % 2 = 1 ∨ c % 2 = 1) (h : ∀ i, i < 5 → (2 ^ m : Int) ∣ a * X i + b * Y i + c * W i) (hb : ∀ i j k, i < 5 → j < 5 → k < 5 → (d3 X Y W i j k).natAbs < 2 ^ m) : ∀ i j k, i < 5 → j < 5 → k < 5 → d3 X Y W i j k = 0 := fun i j k hi hj hk => small_zero (line_minor ho h hi hj hk) (hb i j k hi hj hk)
theorem lodd_lk {a b c : Int} (h : lodd (lk a b c)) : a % 2 = 1 ∨ b % 2 = 1 ∨ c % 2 = 1 := by
  obtain ⟨j, hj⟩ := h
  match j with
  | 0 => exact Or.inr (Or.inr hj)
  | 1 => exact Or.inr (Or.inl hj)
  | 2 => exact absurd (show (0 : Int) % 2 = 1 from hj) (by decide)
  | 3 => exact absurd (show (0 : Int) % 2 = 1 from hj) (by decide)
  | 4 => exact absurd (show (0 : Int) % 2 = 1 from hj) (by decide)
  | 5 => exact absurd (show (0 : Int) % 2 = 1 from hj) (by decide)
  | 6 => exact absurd (show (0 : Int) % 2 = 1 from hj) (by decide)
  | 7 => exact Or.inl hj
  | j + 8 => exact absurd (show (0 : Int) % 2 = 1 from hj) (by decide)
