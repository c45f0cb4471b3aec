theorem dS_even (a b c : Int) : dS 0 a 0 b 0 b 0 0 c 0 = (a * c - b * b) * (a * c - b * b) := by
  unfold dS det4
  grind
theorem m3_z {X Y W : Nat → Int} {i j : Nat} (h : (X i = 0 ∧ Y i = 0 ∧ W i = 0) ∨ (X j = 0 ∧ Y j = 0 ∧ W j = 0)) (x y w : Int) : m3 X Y W x y w i j = 0 := by
  unfold m3
  rcases h with ⟨h1, h2, h3⟩ | ⟨h1, h2, h3⟩ <;> rw [h1, h2, h3] <;> clear h1 h2 h3 <;> grind
theorem FF_even {X Y W : Nat → Int} (h1 : X 1 = 0 ∧ Y 1 = 0 ∧ W 1 = 0) (h3 : X 3 = 0 ∧ Y 3 = 0 ∧ W 3 = 0) (x y w : Int) : FF X Y W x y w = (m3 X Y W x y w 0 2 * m3 X Y W x y w 2 4 - m3 X Y W x y w 0 4 * m3 X Y W x y w 0 4) * (m3 X Y W x y w 0 2 * m3 X Y W x y w 2 4 - m3 X Y W x y w 0 4 * m3 X Y W x y w 0 4) := by
  unfold FF
  rw [m3_z (i := 0) (j := 1) (Or.inr h1), m3_z (i := 0) (j := 3) (Or.inr h3), m3_z (i := 1) (j := 2) (Or.inl h1), m3_z (i := 1) (j := 3) (Or.inl h1), m3_z (i := 1) (j := 4) (Or.inl h1), m3_z (i := 2) (j := 3) (Or.inr h3), m3_z (i := 3) (j := 4) (Or.inl h3)]
  rw [Int.add_zero, Int.add_zero, dS_even]
theorem pw16n {P : Int} (h : P ≠ 0) : (2 * P) ^ 16 ≠ 0 := fun z => by
  have : 2 * P ≠ 0 := by omega
  exact Int.pow_ne_zero this z
/-- the conic's end: a root mod 2 ^ 64 is nothing on the curve -/
theorem conic_end {X Y W e G : Nat → Int} {c : Int} {f : List Int} (hS : SQ X Y W e G c) (hc : c ≠ 0) (he : ∃ i, i < 6 ∧ e i % 2 = 1) (h7 : b7 X Y W) (hp : ∃ i j k, i < 5 ∧ j < 5 ∧ k < 5 ∧ d3 X Y W i j k ≠ 0) (hf : lprim f) (hv : ∀ t, evl f t = cE e (t7 t) t 1 * cE e (t7 t) t 1 - 2 ^ 64 * qg G (t7 t) t 1) (bf : ∀ i, (gd f i).natAbs < 2 ^ 60) (be : ∀ i, i < 6 → (e i).natAbs ≤ 2 ^ 62) (ho : lodd (lq e)) (t : Int) : cE e (pv X t) (pv Y t) (pv W t) = 0 := by
  rcases conic_all hS hc he h7 hp with ⟨z1, z2⟩ | ⟨z1, z2⟩ | z | ⟨a1, a2, a3, a4, a5, a6⟩
  · obtain ⟨Q, hQ⟩ := Fm_GG0 X Y W
    exact conic_zero hS hc (pw16n z1) (fun x y w => by rw [truth012 z2, ← hQ]) hf hv bf be ho t
  · obtain ⟨Q, hQ⟩ := Fm_GG0 (rv X) (rv Y) (rv W)
    exact conic_zero hS hc (pw16n z1) (fun x y w => by rw [← FF_rv, truth012 z2, ← hQ]) hf hv bf be ho t
  · exfalso
    exact lprim_ne hf hc (fun t => by rw [hv t, ← hS, z])
  · obtain ⟨Q, hQ⟩ := (Fm_mm X Y W 0 2 2 4).add ((Fm_mm X Y W 0 4 0 4).sc (-1))
    refine conic_zero (N := 1) (Q := Q) hS hc (by decide) (fun x y w => ?_) hf hv bf be ho t
    rw [Int.one_mul, FF_even ⟨a1, a2, a3⟩ ⟨a4, a5, a6⟩, ← hQ]
    dsimp only
    have e1 : m3 X Y W x y w 0 2 * m3 X Y W x y w 2 4 + -1 * (m3 X Y W x y w 0 4 * m3 X Y W x y w 0 4) = m3 X Y W x y w 0 2 * m3 X Y W x y w 2 4 - m3 X Y W x y w 0 4 * m3 X Y W x y w 0 4 := by omega
    rw [e1]
