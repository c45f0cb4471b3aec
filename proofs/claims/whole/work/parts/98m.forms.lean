/-- a product of two linear forms is a form -/
theorem form2 (p q r s u v : Int) : ∃ Q : Nat → Int, ∀ x y w : Int, (p * x + q * y + r * w) * (s * x + u * y + v * w) = cE Q x y w := by
  refine ⟨fun i => match i with | 0 => p * s | 1 => p * u + q * s | 2 => q * u | 3 => p * v + r * s | 4 => q * v + r * u | _ => r * v, fun x y w => ?_⟩
  unfold cE
  show _ = p * s * (x * x) + (p * u + q * s) * (x * y) + q * u * (y * y) + (p * v + r * s) * (x * w) + (q * v + r * u) * (y * w) + r * v * (w * w)
  grind
def Fm (F : Int → Int → Int → Int) : Prop := ∃ Q : Nat → Int, ∀ x y w : Int, F x y w = cE Q x y w
theorem Fm.add {F G : Int → Int → Int → Int} (h1 : Fm F) (h2 : Fm G) : Fm (fun x y w => F x y w + G x y w) := by
  obtain ⟨P, hP⟩ := h1
  obtain ⟨Q, hQ⟩ := h2
  refine ⟨fun i => P i + Q i, fun x y w => ?_⟩
  show F x y w + G x y w = _
  rw [hP, hQ]
  unfold cE
  grind
theorem Fm.sc {F : Int → Int → Int → Int} (k : Int) (h1 : Fm F) : Fm (fun x y w => k * F x y w) := by
  obtain ⟨P, hP⟩ := h1
  refine ⟨fun i => k * P i, fun x y w => ?_⟩
  show k * F x y w = _
  rw [hP]
  unfold cE
  grind
theorem Fm_mm (X Y W : Nat → Int) (i j k l : Nat) : Fm (fun x y w => m3 X Y W x y w i j * m3 X Y W x y w k l) := by
  obtain ⟨Q, hQ⟩ := form2 (Y i * W j - Y j * W i) (-(X i * W j - X j * W i)) (X i * Y j - X j * Y i) (Y k * W l - Y l * W k) (-(X k * W l - X l * W k)) (X k * Y l - X l * Y k)
  refine ⟨Q, fun x y w => ?_⟩
  rw [← hQ]
  unfold m3
  clear hQ
  grind
