/-! the line -/
def lv (a b c : Int) (X Y W : Nat → Int) (t : Int) : Int := a * pv X t + b * pv Y t + c * pv W t
def ll (a b c : Int) (X Y W : Nat → Int) : List Int := [a * X 0 + b * Y 0 + c * W 0, a * X 1 + b * Y 1 + c * W 1, a * X 2 + b * Y 2 + c * W 2, a * X 3 + b * Y 3 + c * W 3, a * X 4 + b * Y 4 + c * W 4]
theorem evl_ll (a b c : Int) (X Y W : Nat → Int) (t : Int) : evl (ll a b c X Y W) t = lv a b c X Y W t := by
  unfold ll lv pv
  simp only [evl]
  grind
theorem gd_ll (a b c : Int) (X Y W : Nat → Int) : ∀ i, i < 5 → gd (ll a b c X Y W) i = a * X i + b * Y i + c * W i := five rfl rfl rfl rfl rfl
theorem line2 {a b c : Int} {X Y W : Nat → Int} {F : Int → Int} (hF : Pf F) (h : ∀ t, lv a b c X Y W t * lv a b c X Y W t = 2 ^ 64 * F t) (i : Nat) (hi : i < 5) : (2 ^ 32 : Int) ∣ a * X i + b * Y i + c * W i := by
  rw [← gd_ll a b c X Y W i hi]
  exact gauss_sq 32 _ (fun j => prod_dvd (n := 2 ^ (2 * 32)) hF (fun t => by rw [evl_ll]; exact h t) j) i
theorem line4 {a b c : Int} {X Y W : Nat → Int} {F : Int → Int} (hF : Pf F) (h : ∀ t, lv a b c X Y W t * lv a b c X Y W t * (lv a b c X Y W t * lv a b c X Y W t) = 2 ^ 64 * F t) (i : Nat) (hi : i < 5) : (2 ^ 16 : Int) ∣ a * X i + b * Y i + c * W i := by
  rw [← gd_ll a b c X Y W i hi]
  refine gauss_sq 16 _ (fun j => ?_) i
  rw [← gd_mul]
  exact gauss_sq 32 _ (fun j => prod_dvd (n := 2 ^ (2 * 32)) hF (fun t => by rw [evl_mul, evl_ll]; exact h t) j) j
theorem line3 {a b c : Int} {X Y W : Nat → Int} {F : Int → Int} (hF : Pf F) (h : ∀ t, lv a b c X Y W t * lv a b c X Y W t * lv a b c X Y W t = 2 ^ 64 * F t) (i : Nat) (hi : i < 5) : (2 ^ 21 : Int) ∣ a * X i + b * Y i + c * W i := by
  rw [← gd_ll a b c X Y W i hi]
  by_cases q : ∀ j, (2 ^ (21 + 1) : Int) ∣ gd (ll a b c X Y W) j
  · exact pw_le_dvd (by decide) (q i)
  · refine gauss_sq 21 _ (fun j => ?_) i
    rw [← gd_mul]
    have h1 := gauss3 (A := 64) (B := 21) (by decide) q (c := lmul (ll a b c X Y W) (ll a b c X Y W)) (fun j => prod_dvd hF (fun t => by rw [evl_mul, evl_ll]; exact h t) j) j
    exact pw_le_dvd (by decide) h1
theorem line_minor {m : Nat} {a b c : Int} {X Y W : Nat → Int} (ho : a % 2 = 1 ∨ b % 2 = 1 ∨ c % 2 = 1) (h : ∀ i, i < 5 → (2 ^ m : Int) ∣ a * X i + b * Y i + c * W i) {i j k : Nat} (hi : i < 5) (hj : j < 5) (hk : k < 5) : (2 ^ m : Int) ∣ d3 X Y W i j k := by
  have q1 := h i hi
  have q2 := h j hj
  have q3 := h k hk
  have e1 : a * d3 X Y W i j k = (Y j * W k - Y k * W j) * (a * X i + b * Y i + c * W i) - (Y i * W k - Y k * W i) * (a * X j + b * Y j + c * W j) + (Y i * W j - Y j * W i) * (a * X k + b * Y k + c * W k) := by
    clear q1 q2 q3
    unfold d3
    grind
  have e2 : b * d3 X Y W i j k = (X i * W k - X k * W i) * (a * X j + b * Y j + c * W j) - (X j * W k - X k * W j) * (a * X i + b * Y i + c * W i) - (X i * W j - X j * W i) * (a * X k + b * Y k + c * W k) := by
    clear q1 q2 q3 e1
    unfold d3
    grind
  have e3 : c * d3 X Y W i j k = (X j * Y k - X k * Y j) * (a * X i + b * Y i + c * W i) - (X i * Y k - X k * Y i) * (a * X j + b * Y j + c * W j) + (X i * Y j - X j * Y i) * (a * X k + b * Y k + c * W k) := by
    clear q1 q2 q3 e1 e2
    unfold d3
    grind
  rcases ho with z | z | z
  · apply odd_cancel z
    rw [e1]
    exact Int.dvd_add (Int.dvd_sub (dl _ q1) (dl _ q2)) (dl _ q3)
  · apply odd_cancel z
    rw [e2]
    exact Int.dvd_sub (Int.dvd_sub (dl _ q2) (dl _ q1)) (dl _ q3)
  · apply odd_cancel z
    rw [e3]
    exact Int.dvd_add (Int.dvd_sub (dl _ q1) (dl _ q2)) (dl _ q3)
/-- three numbers without a common divisor -/
def pr3 (a b c : Int) : Prop := ∀ p : Nat, Irr p → ¬ ((p : Int) ∣ a ∧ (p : Int) ∣ b ∧ (p : Int) ∣ c)
theorem pr3_ex : ∀ (K : Nat) (a b c : Int), a.natAbs + b.natAbs + c.natAbs ≤ K → ¬ (a = 0 ∧ b = 0 ∧ c = 0) → ∃ (d a' b' c' : Int), d ≠ 0 ∧ a = d * a' ∧ b = d * b' ∧ c = d * c' ∧ pr3 a' b' c'
  | 0, a, b, c, h, h0 => absurd ⟨by omega, by omega, by omega⟩ h0
  | K + 1, a, b, c, h, h0 => by
    by_cases q : ∃ p : Nat, Irr p ∧ (p : Int) ∣ a ∧ (p : Int) ∣ b ∧ (p : Int) ∣ c
    · obtain ⟨p, hp, ⟨a1, ha⟩, ⟨b1, hb⟩, ⟨c1, hc⟩⟩ := q
      have hp2 := hp.1
      have s : ∀ {x y : Int}, x = (p : Int) * y → 2 * y.natAbs ≤ x.natAbs := fun {x y} e => by
        rw [e, Int.natAbs_mul]
        exact Nat.mul_le_mul hp2 (Nat.le_refl _)
      have sa := s ha
      have sb := s hb
      have sc := s hc
      have h1 : ¬ (a1 = 0 ∧ b1 = 0 ∧ c1 = 0) := fun z => h0 ⟨by rw [ha, z.1]; omega, by rw [hb, z.2.1]; omega, by rw [hc, z.2.2]; omega⟩
      obtain ⟨d, a', b', c', k0, k1, k2, k3, k4⟩ := pr3_ex K a1 b1 c1 (by omega) h1
      refine ⟨p * d, a', b', c', ?_, by rw [ha, k1, Int.mul_assoc], by rw [hb, k2, Int.mul_assoc], by rw [hc, k3, Int.mul_assoc], k4⟩
      intro z
      rcases Int.mul_eq_zero.mp z with y | y
      · omega
      · exact k0 y
    · exact ⟨1, a, b, c, by decide, by omega, by omega, by omega, fun p hp z => q ⟨p, hp, z⟩⟩
/-- what is on the line of three such numbers is a multiple of them -/
theorem pr3_mul {a b c u v w : Int} (hp : pr3 a b c) (h1 : a * v = b * u) (h2 : a * w = c * u) (h3 : b * w = c * v) : ∃ m : Int, u = m * a ∧ v = m * b ∧ w = m * c := by
  have hne : ¬ (a = 0 ∧ b = 0 ∧ c = 0) := fun z => hp 2 irr2 ⟨by rw [z.1]; exact ⟨0, rfl⟩, by rw [z.2.1]; exact ⟨0, rfl⟩, by rw [z.2.2]; exact ⟨0, rfl⟩⟩
  by_cases hz : u = 0 ∧ v = 0 ∧ w = 0
  · exact ⟨0, by rw [hz.1]; omega, by rw [hz.2.1]; omega, by rw [hz.2.2]; omega⟩
  obtain ⟨d, u', v', w', k0, k1, k2, k3, k4⟩ := pr3_ex _ u v w (Nat.le_refl _) hz
  subst k1
  subst k2
  subst k3
  have g1 : a * v' = b * u' := by apply Int.eq_of_mul_eq_mul_left k0; clear h2 h3 hp k4; grind
  have g2 : a * w' = c * u' := by apply Int.eq_of_mul_eq_mul_left k0; clear h1 h3 hp k4; grind
  have g3 : b * w' = c * v' := by apply Int.eq_of_mul_eq_mul_left k0; clear h1 h2 hp k4; grind
  have key : ∀ (K : Nat) (s r : Int), s.natAbs ≤ K → s ≠ 0 → r * a = s * u' → r * b = s * v' → r * c = s * w' → ∃ m : Int, u' = m * a ∧ v' = m * b ∧ w' = m * c ∨ False := fun K => by
    induction K with
    | zero => exact fun s r hs h0 _ _ _ => absurd (by omega) h0
    | succ K ih =>
      intro s r hs h0 f1 f2 f3
      by_cases q : 2 ≤ s.natAbs
      · obtain ⟨p, hpp, hd⟩ := irr_ex _ _ (Nat.le_refl _) q
        have hd' : (p : Int) ∣ s := Int.ofNat_dvd_left.mpr hd
        obtain ⟨s1, hs1⟩ := hd'
        have pp : (p : Int) ≠ 0 := by have := hpp.1; omega
        have hr : (p : Int) ∣ r := by
          apply Classical.byContradiction
          intro nr
          refine hp p hpp ⟨?_, ?_, ?_⟩
          · exact hpp.pm (b := r) ⟨s1 * u', by rw [Int.mul_comm, f1, hs1, Int.mul_assoc]⟩ nr
          · exact hpp.pm (b := r) ⟨s1 * v', by rw [Int.mul_comm, f2, hs1, Int.mul_assoc]⟩ nr
          · exact hpp.pm (b := r) ⟨s1 * w', by rw [Int.mul_comm, f3, hs1, Int.mul_assoc]⟩ nr
        obtain ⟨r1, hr1⟩ := hr
        subst hs1
        subst hr1
        have s10 : s1 ≠ 0 := fun z => h0 (by rw [z]; omega)
        have hlt : s1.natAbs ≤ K := by
          have hp2 := hpp.1
          have e4 : ((p : Int) * s1).natAbs = p * s1.natAbs := by
            rw [Int.natAbs_mul]
            rfl
          have e5 : 2 * s1.natAbs ≤ p * s1.natAbs := Nat.mul_le_mul hp2 (Nat.le_refl _)
          have : s1.natAbs ≠ 0 := fun z => s10 (Int.natAbs_eq_zero.mp z)
          omega
        exact ih s1 r1 hlt s10 (by apply Int.eq_of_mul_eq_mul_left pp; rw [← Int.mul_assoc, f1, Int.mul_assoc]) (by apply Int.eq_of_mul_eq_mul_left pp; rw [← Int.mul_assoc, f2, Int.mul_assoc]) (by apply Int.eq_of_mul_eq_mul_left pp; rw [← Int.mul_assoc, f3, Int.mul_assoc])
      · have : s = 1 ∨ s = -1 := by omega
        rcases this with z | z
        · subst z
          exact ⟨r, Or.inl ⟨by omega, by omega, by omega⟩⟩
        · subst z
          refine ⟨-r, Or.inl ⟨?_, ?_, ?_⟩⟩
          · rw [Int.neg_mul]; omega
          · rw [Int.neg_mul]; omega
          · rw [Int.neg_mul]; omega
  have fin : ∃ m : Int, u' = m * a ∧ v' = m * b ∧ w' = m * c ∨ False := by
    by_cases ha : a = 0
    · by_cases hb : b = 0
      · have hc : c ≠ 0 := fun z => hne ⟨ha, hb, z⟩
        exact key _ c w' (Nat.le_refl _) hc (by rw [Int.mul_comm]; exact g2) (by rw [Int.mul_comm]; exact g3) (by rw [Int.mul_comm])
      · exact key _ b v' (Nat.le_refl _) hb (by rw [Int.mul_comm]; exact g1) (by rw [Int.mul_comm]) (by rw [Int.mul_comm]; exact g3.symm)
    · exact key _ a u' (Nat.le_refl _) ha (by rw [Int.mul_comm]) (by rw [Int.mul_comm]; exact g1.symm) (by rw [Int.mul_comm]; exact g2.symm)
  obtain ⟨m, ⟨m1, m2, m3⟩ | hf⟩ := fin
  · exact ⟨d * m, by rw [m1, Int.mul_assoc], by rw [m2, Int.mul_assoc], by rw [m3, Int.mul_assoc]⟩
  · exact hf.elim
