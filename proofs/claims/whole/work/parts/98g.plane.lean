theorem plane_mu {X Y W : Nat → Int} (hm : ∀ i j k, i < 5 → j < 5 → k < 5 → d3 X Y W i j k = 0) (hx : ∃ i j, i < 5 ∧ j < 5 ∧ ∃ x y w : Int, m3 X Y W x y w i j ≠ 0) : ∃ a b c : Int, pr3 a b c ∧ (∀ i, i < 5 → a * X i + b * Y i + c * W i = 0) ∧ ∃ μ : Nat → Nat → Int, ∀ i j, i < 5 → j < 5 → ∀ x y w : Int, m3 X Y W x y w i j = μ i j * (a * x + b * y + c * w) := by
  obtain ⟨i0, j0, hi0, hj0, x, y, w, hne⟩ := hx
  have hc : ¬ (Y i0 * W j0 - Y j0 * W i0 = 0 ∧ -(X i0 * W j0 - X j0 * W i0) = 0 ∧ X i0 * Y j0 - X j0 * Y i0 = 0) := fun z => hne (by
    unfold m3
    rw [z.1, z.2.2, show X i0 * W j0 - X j0 * W i0 = 0 by omega]
    omega)
  obtain ⟨d, a, b, c, k0, k1, k2, k3, k4⟩ := pr3_ex _ _ _ _ (Nat.le_refl _) hc
  have hL : ∀ i, i < 5 → a * X i + b * Y i + c * W i = 0 := fun i hi => by
    have h := hm i i0 j0 hi hi0 hj0
    have e : d * (a * X i + b * Y i + c * W i) = d3 X Y W i i0 j0 := by
      have e2 : d * (a * X i + b * Y i + c * W i) = (d * a) * X i + (d * b) * Y i + (d * c) * W i := by clear h k1 k2 k3 hne hc; grind
      rw [e2, ← k1, ← k2, ← k3]
      unfold d3
      clear h k1 k2 k3 hne hc e2
      grind
    rw [h] at e
    rcases Int.mul_eq_zero.mp e with z | z
    · exact absurd z k0
    · exact z
  refine ⟨a, b, c, k4, hL, ?_⟩
  have hmu : ∀ i j, i < 5 → j < 5 → ∃ m : Int, ∀ x y w : Int, m3 X Y W x y w i j = m * (a * x + b * y + c * w) := fun i j hi hj => by
    have qi := hL i hi
    have qj := hL j hj
    obtain ⟨m, m1, m2, m3'⟩ := pr3_mul (u := Y i * W j - Y j * W i) (v := -(X i * W j - X j * W i)) (w := X i * Y j - X j * Y i) k4 (by
      have e : a * -(X i * W j - X j * W i) - b * (Y i * W j - Y j * W i) = W i * (a * X j + b * Y j + c * W j) - W j * (a * X i + b * Y i + c * W i) := by clear qi qj hne hc k1 k2 k3; grind
      rw [qi, qj] at e
      omega) (by
      have e : a * (X i * Y j - X j * Y i) - c * (Y i * W j - Y j * W i) = -(Y i * (a * X j + b * Y j + c * W j) - Y j * (a * X i + b * Y i + c * W i)) := by clear qi qj hne hc k1 k2 k3; grind
      rw [qi, qj] at e
      omega) (by
      have e : b * (X i * Y j - X j * Y i) - c * -(X i * W j - X j * W i) = X i * (a * X j + b * Y j + c * W j) - X j * (a * X i + b * Y i + c * W i) := by clear qi qj hne hc k1 k2 k3; grind
      rw [qi, qj] at e
      omega)
    refine ⟨m, fun x y w => ?_⟩
    have e : m3 X Y W x y w i j = x * (Y i * W j - Y j * W i) + y * -(X i * W j - X j * W i) + w * (X i * Y j - X j * Y i) := by
      unfold m3
      clear qi qj hne hc k1 k2 k3 m1 m2 m3'
      grind
    rw [e, m1, m2, m3']
    clear e qi qj hne hc k1 k2 k3 m1 m2 m3'
    grind
  refine ⟨fun i j => if h : i < 5 ∧ j < 5 then (hmu i j h.1 h.2).choose else 0, fun i j hi hj x y w => ?_⟩
  have h : i < 5 ∧ j < 5 := ⟨hi, hj⟩
  show _ = (if h : i < 5 ∧ j < 5 then (hmu i j h.1 h.2).choose else 0) * _
  rw [dif_pos h]
  exact (hmu i j hi hj).choose_spec x y w
def F2 (X Y W : Nat → Int) (x y w : Int) : Int := m3 X Y W x y w 0 1 * m3 X Y W x y w 1 2 - m3 X Y W x y w 0 2 * m3 X Y W x y w 0 2
def F3 (X Y W : Nat → Int) (x y w : Int) : Int := dd3 (m3 X Y W x y w 0 1) (m3 X Y W x y w 0 2) (m3 X Y W x y w 0 3) (m3 X Y W x y w 0 3 + m3 X Y W x y w 1 2) (m3 X Y W x y w 1 3) (m3 X Y W x y w 2 3)
theorem dS_h (s a b c d e f g h i j : Int) : dS (a * s) (b * s) (c * s) (d * s) (e * s) (f * s) (g * s) (h * s) (i * s) (j * s) = dS a b c d e f g h i j * (s * s * (s * s)) := by
  unfold dS det4
  grind
theorem dd3_h (s a b c d e f : Int) : dd3 (a * s) (b * s) (c * s) (d * s) (e * s) (f * s) = dd3 a b c d e f * (s * s * s) := by
  unfold dd3
  grind
theorem plane_F {X Y W : Nat → Int} {a b c : Int} {μ : Nat → Nat → Int} (h : ∀ i j, i < 5 → j < 5 → ∀ x y w : Int, m3 X Y W x y w i j = μ i j * (a * x + b * y + c * w)) : (∃ k : Int, ∀ x y w : Int, F2 X Y W x y w = k * ((a * x + b * y + c * w) * (a * x + b * y + c * w))) ∧ (∃ k : Int, ∀ x y w : Int, F3 X Y W x y w = k * ((a * x + b * y + c * w) * (a * x + b * y + c * w) * (a * x + b * y + c * w))) ∧ ∃ k : Int, ∀ x y w : Int, FF X Y W x y w = k * ((a * x + b * y + c * w) * (a * x + b * y + c * w) * ((a * x + b * y + c * w) * (a * x + b * y + c * w))) := by
  have H := fun i j hi hj x y w => h i j hi hj x y w
  refine ⟨⟨μ 0 1 * μ 1 2 - μ 0 2 * μ 0 2, fun x y w => ?_⟩, ⟨dd3 (μ 0 1) (μ 0 2) (μ 0 3) (μ 0 3 + μ 1 2) (μ 1 3) (μ 2 3), fun x y w => ?_⟩, ⟨dS (μ 0 1) (μ 0 2) (μ 0 3) (μ 0 4) (μ 0 3 + μ 1 2) (μ 0 4 + μ 1 3) (μ 1 4) (μ 1 4 + μ 2 3) (μ 2 4) (μ 3 4), fun x y w => ?_⟩⟩
  · unfold F2
    rw [H 0 1 (by decide) (by decide), H 1 2 (by decide) (by decide), H 0 2 (by decide) (by decide)]
    grind
  · unfold F3
    rw [H 0 1 (by decide) (by decide), H 1 2 (by decide) (by decide), H 0 2 (by decide) (by decide), H 0 3 (by decide) (by decide), H 1 3 (by decide) (by decide), H 2 3 (by decide) (by decide), ← Int.add_mul, dd3_h]
  · unfold FF
    rw [H 0 1 (by decide) (by decide), H 1 2 (by decide) (by decide), H 0 2 (by decide) (by decide), H 0 3 (by decide) (by decide), H 1 3 (by decide) (by decide), H 2 3 (by decide) (by decide), H 0 4 (by decide) (by decide), H 1 4 (by decide) (by decide), H 2 4 (by decide) (by decide), H 3 4 (by decide) (by decide), ← Int.add_mul, ← Int.add_mul, ← Int.add_mul, dS_h]
/-- two primitive polynomials on one line -/
theorem cont_eq {f h : List Int} (hf : lprim f) (hh : lprim h) : ∀ (K : Nat) (N k : Int), N.natAbs ≤ K → N ≠ 0 → (∀ t, N * evl f t = k * evl h t) → (∀ t, evl f t = evl h t) ∨ ∀ t, evl f t = -evl h t
  | 0, N, k, hK, h0, _ => absurd (Int.natAbs_eq_zero.mp (Nat.le_zero.mp hK)) h0
  | K + 1, N, k, hK, h0, he => by
    by_cases q : 2 ≤ N.natAbs
    · obtain ⟨p, hp, hd⟩ := irr_ex _ _ (Nat.le_refl _) q
      have hd' : (p : Int) ∣ N := Int.ofNat_dvd_left.mpr hd
      obtain ⟨M, hM⟩ := hd'
      have pp : (p : Int) ≠ 0 := by have := hp.1; omega
      obtain ⟨j, hj⟩ := hh p hp
      have hk : (p : Int) ∣ k := by
        have u := evl_uq (l := h.map (fun x => k * x)) (m := f.map (fun x => N * x)) (fun t => by rw [evl_map, evl_map, he t]) j
        rw [gd_map, gd_map, hM, Int.mul_assoc] at u
        exact hp.pm ⟨_, u⟩ hj
      obtain ⟨k1, hk1⟩ := hk
      subst hM
      subst hk1
      have M0 : M ≠ 0 := fun z => h0 (by rw [z]; omega)
      have hlt : M.natAbs ≤ K := by
        have hp2 := hp.1
        have e4 : ((p : Int) * M).natAbs = p * M.natAbs := by
          rw [Int.natAbs_mul]
          rfl
        have e5 : 2 * M.natAbs ≤ p * M.natAbs := Nat.mul_le_mul hp2 (Nat.le_refl _)
        have : M.natAbs ≠ 0 := fun z => M0 (Int.natAbs_eq_zero.mp z)
        omega
      exact cont_eq hf hh K M k1 hlt M0 (fun t => by
        apply Int.eq_of_mul_eq_mul_left pp
        rw [← Int.mul_assoc, he t, Int.mul_assoc])
    · have hN : N = 1 ∨ N = -1 := by omega
      have hk : k.natAbs < 2 := Nat.lt_of_not_le fun z => by
        obtain ⟨p, hp, hd⟩ := irr_ex _ _ (Nat.le_refl _) z
        have hd' : (p : Int) ∣ k := Int.ofNat_dvd_left.mpr hd
        obtain ⟨j, hj⟩ := hf p hp
        apply hj
        have u := evl_uq (l := h.map (fun x => k * x)) (m := f.map (fun x => N * x)) (fun t => by rw [evl_map, evl_map, he t]) j
        rw [gd_map, gd_map] at u
        obtain ⟨k1, hk1⟩ := hd'
        rcases hN with y | y
        · rw [y, hk1, Int.mul_assoc, Int.one_mul] at u
          exact ⟨_, u.symm⟩
        · rw [y, hk1, Int.mul_assoc] at u
          exact ⟨-(k1 * gd h j), by rw [Int.mul_neg]; omega⟩
      have hk0 : k ≠ 0 := fun z => by
        obtain ⟨j, hj⟩ := hf 2 irr2
        apply hj
        have u := evl_uq (l := h.map (fun x => k * x)) (m := f.map (fun x => N * x)) (fun t => by rw [evl_map, evl_map, he t]) j
        rw [gd_map, gd_map, z] at u
        rcases hN with y | y <;> rw [y] at u <;> exact ⟨0, by omega⟩
      have hk2 : k = 1 ∨ k = -1 := by omega
      rcases hN with y | y <;> rcases hk2 with z | z <;> subst y <;> subst z
      · left
        intro t
        have := he t
        omega
      · right
        intro t
        have := he t
        omega
      · right
        intro t
        have := he t
        omega
      · left
        intro t
        have := he t
        omega
