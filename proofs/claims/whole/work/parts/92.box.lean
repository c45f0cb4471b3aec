theorem mul7 {a x : Int} (h : a.natAbs ≤ 7) : (a * x).natAbs ≤ 7 * x.natAbs := by
  rw [Int.natAbs_mul]
  exact Nat.mul_le_mul_right _ h
theorem tri28 {x y z : Int} (hx : x.natAbs ≤ 7) (hy : y.natAbs ≤ 7) (hz : z.natAbs ≤ 7) : (x - y).natAbs + (x - z).natAbs + (y - z).natAbs ≤ 28 := by omega
theorem crs (a1 a2 a3 x y z : Int) (h1 : a1.natAbs ≤ 7) (h2 : a2.natAbs ≤ 7) (h3 : a3.natAbs ≤ 7) (h : x.natAbs + y.natAbs + z.natAbs ≤ 28) : (a1 * x + a2 * y + a3 * z).natAbs ≤ 196 := by
  have k1 := mul7 (x := x) h1
  have k2 := mul7 (x := y) h2
  have k3 := mul7 (x := z) h3
  have k4 := nadd (nadd k1 k2) k3
  omega
theorem cross196 {a1 a2 a3 b1 b2 b3 : Int} (h1 : a1.natAbs ≤ 7) (h2 : a2.natAbs ≤ 7) (h3 : a3.natAbs ≤ 7) (g1 : b1.natAbs ≤ 7) (g2 : b2.natAbs ≤ 7) (g3 : b3.natAbs ≤ 7) : (a2 * b3 - a3 * b2).natAbs + (a1 * b3 - a3 * b1).natAbs + (a1 * b2 - a2 * b1).natAbs ≤ 196 := by
  have t1 := crs a1 a2 a3 (b3 + b2) (b3 - b1) (-b2 - b1) h1 h2 h3 (by clear h1 h2 h3; omega)
  have t2 := crs a1 a2 a3 (b3 - b2) (b3 + b1) (-b2 - b1) h1 h2 h3 (by clear h1 h2 h3; omega)
  have t3 := crs a1 a2 a3 (-b3 + b2) (b3 - b1) (-b2 + b1) h1 h2 h3 (by clear h1 h2 h3; omega)
  have t4 := crs a1 a2 a3 (-b3 - b2) (b3 + b1) (-b2 + b1) h1 h2 h3 (by clear h1 h2 h3; omega)
  have e1 : a1 * (b3 + b2) + a2 * (b3 - b1) + a3 * (-b2 - b1) = (a2 * b3 - a3 * b2) + (a1 * b3 - a3 * b1) + (a1 * b2 - a2 * b1) := by grind
  have e2 : a1 * (b3 - b2) + a2 * (b3 + b1) + a3 * (-b2 - b1) = (a2 * b3 - a3 * b2) + (a1 * b3 - a3 * b1) - (a1 * b2 - a2 * b1) := by grind
  have e3 : a1 * (-b3 + b2) + a2 * (b3 - b1) + a3 * (-b2 + b1) = (a2 * b3 - a3 * b2) - (a1 * b3 - a3 * b1) + (a1 * b2 - a2 * b1) := by grind
  have e4 : a1 * (-b3 - b2) + a2 * (b3 + b1) + a3 * (-b2 + b1) = (a2 * b3 - a3 * b2) - (a1 * b3 - a3 * b1) - (a1 * b2 - a2 * b1) := by grind
  rw [e1] at t1
  rw [e2] at t2
  rw [e3] at t3
  rw [e4] at t4
  generalize a2 * b3 - a3 * b2 = A at *
  generalize a1 * b3 - a3 * b1 = B at *
  generalize a1 * b2 - a2 * b1 = C at *
  clear e1 e2 e3 e4 h1 h2 h3 g1 g2 g3
  omega
def b7 (X Y W : Nat → Int) : Prop := ∀ i, i < 5 → (X i).natAbs ≤ 7 ∧ (Y i).natAbs ≤ 7 ∧ (W i).natAbs ≤ 7
theorem b7_P {X Y W : Nat → Int} (h : b7 X Y W) : bP X Y W := fun i j k hi hj hk => by
  obtain ⟨i1, i2, i3⟩ := h i hi
  obtain ⟨j1, j2, j3⟩ := h j hj
  obtain ⟨k1, k2, k3⟩ := h k hk
  have c := cross196 j1 j2 j3 k1 k2 k3
  unfold d3
  have e : X i * (Y j * W k - Y k * W j) - Y i * (X j * W k - X k * W j) + W i * (X j * Y k - X k * Y j) = X i * (Y j * W k - W j * Y k) - Y i * (X j * W k - W j * X k) + W i * (X j * Y k - Y j * X k) := by grind
  rw [e]
  have q := nadd (nsub (mul7 (x := Y j * W k - W j * Y k) i1) (mul7 (x := X j * W k - W j * X k) i2)) (mul7 (x := X j * Y k - Y j * X k) i3)
  refine Nat.le_trans q ?_
  generalize (Y j * W k - W j * Y k).natAbs = A at *
  generalize (X j * W k - W j * X k).natAbs = B at *
  generalize (X j * Y k - Y j * X k).natAbs = C at *
  clear q e
  omega
theorem m7 {a b c d : Int} (h1 : a.natAbs ≤ 7) (h2 : b.natAbs ≤ 7) (h3 : c.natAbs ≤ 7) (h4 : d.natAbs ≤ 7) : (a * b - c * d).natAbs ≤ 98 := by
  have k1 := mul7 (x := b) h1
  have k2 := mul7 (x := d) h3
  have k3 := nsub k1 k2
  omega
theorem b7_m {X Y W : Nat → Int} (h : b7 X Y W) {i j : Nat} (hi : i < 5) (hj : j < 5) : (m3 X Y W 1 0 0 i j).natAbs ≤ 98 ∧ (m3 X Y W 0 1 0 i j).natAbs ≤ 98 ∧ (m3 X Y W 0 0 1 i j).natAbs ≤ 98 := by
  obtain ⟨i1, i2, i3⟩ := h i hi
  obtain ⟨j1, j2, j3⟩ := h j hj
  have e1 : m3 X Y W 1 0 0 i j = Y i * W j - Y j * W i := by unfold m3; grind
  have e2 : m3 X Y W 0 1 0 i j = X j * W i - X i * W j := by unfold m3; grind
  have e3 : m3 X Y W 0 0 1 i j = X i * Y j - X j * Y i := by unfold m3; grind
  rw [e1, e2, e3]
  exact ⟨m7 i2 j3 j2 i3, m7 j1 i3 i1 j3, m7 i1 j2 j1 i2⟩
theorem b7_rv {X Y W : Nat → Int} (h : b7 X Y W) : b7 (rv X) (rv Y) (rv W) := fun i hi => h (4 - i) (by omega)
theorem nbk4 {x : Int} {A : Nat} (hx : x.natAbs ≤ A) : (4 * x).natAbs ≤ 4 * A := by omega
theorem sf_m {X Y W : Nat → Int} {x y w : Int} (hm : ∀ i j, i < 5 → j < 5 → (m3 X Y W x y w i j).natAbs ≤ 98) : (m3 (sf X) (sf Y) (sf W) x y w 0 1).natAbs < 4096 := by
  rw [ms_a]
  exact Nat.lt_of_le_of_lt (nadd (nadd (nadd (nadd (nadd (nadd (nadd (nadd (nadd (hm 0 1 (by decide) (by decide)) (nbk2 (hm 0 2 (by decide) (by decide)))) (nbk2 (hm 0 3 (by decide) (by decide)))) (nbk2 (hm 0 4 (by decide) (by decide)))) (nadd (hm 0 3 (by decide) (by decide)) (hm 1 2 (by decide) (by decide)))) (nbk2 (nadd (hm 0 4 (by decide) (by decide)) (hm 1 3 (by decide) (by decide))))) (nbk2 (hm 1 4 (by decide) (by decide)))) (nadd (hm 1 4 (by decide) (by decide)) (hm 2 3 (by decide) (by decide)))) (nbk2 (hm 2 4 (by decide) (by decide)))) (hm 3 4 (by decide) (by decide))) (by decide)
theorem sf_0 {X : Nat → Int} (h : ∀ i, i < 5 → (X i).natAbs ≤ 7) : (sf X 0).natAbs < 64 := by
  have h0 := h 0 (by decide)
  have h1 := h 1 (by decide)
  have h2 := h 2 (by decide)
  have h3 := h 3 (by decide)
  have h4 := h 4 (by decide)
  show (X 0 + X 1 + X 2 + X 3 + X 4).natAbs < 64
  exact Nat.lt_of_le_of_lt (nadd (nadd (nadd (nadd h0 h1) h2) h3) h4) (by decide)
