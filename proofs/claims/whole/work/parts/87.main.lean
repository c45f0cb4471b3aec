def xt (X : Nat → Int) (v : Int) : Nat → Int := fun i => if i = 5 then v else X i
theorem xt_sP (e X Y W : Nat → Int) (x y w : Int) {i j : Nat} (hi : i < 5) (hj : j < 5) : sP e (xt X x) (xt Y y) (xt W w) i j = sP e X Y W i j := by
  unfold sP xt
  rw [if_neg (by omega), if_neg (by omega), if_neg (by omega), if_neg (by omega), if_neg (by omega), if_neg (by omega)]
theorem xt_sE (e X Y W : Nat → Int) (x y w : Int) {i : Nat} (hi : i < 5) : sE e (xt X x) (xt Y y) (xt W w) i = sE e X Y W i := by
  unfold sE xt
  rw [if_neg (by omega), if_neg (by omega), if_neg (by omega)]
theorem xt_d3 (X Y W : Nat → Int) (x y w : Int) {i j k : Nat} (hi : i < 5) (hj : j < 5) (hk : k < 5) : d3 (xt X x) (xt Y y) (xt W w) i j k = d3 X Y W i j k := by
  unfold d3 xt
  rw [if_neg (by omega), if_neg (by omega), if_neg (by omega), if_neg (by omega), if_neg (by omega), if_neg (by omega), if_neg (by omega), if_neg (by omega), if_neg (by omega)]
theorem xt_5 (e X Y W : Nat → Int) (x y w : Int) : sE e (xt X x) (xt Y y) (xt W w) 5 = cE e x y w := rfl
def dvA (b : Nat) (e X Y W : Nat → Int) : Prop := (∀ i, i < 5 → (2 ^ b : Int) ∣ sE e X Y W i) ∧ ∀ i j, i < 5 → j < 5 → (2 ^ b : Int) ∣ sP e X Y W i j
theorem cont_p {b : Nat} {e X Y W : Nat → Int} (h : dvA b e X Y W) (he : ∃ i, i < 6 ∧ e i % 2 = 1) {i j k : Nat} (hi : i < 5) (hj : j < 5) (hk : k < 5) : (2 ^ b : Int) ∣ d3 X Y W i j k * d3 X Y W i j k := by
  obtain ⟨x, y, w, ho⟩ := cE_odd he
  have h1 := cont_d (e := e) (X := xt X x) (Y := xt Y y) (W := xt W w) (b := b) (i := i) (j := j) (k := k) (by rw [xt_sE e X Y W x y w hi]; exact h.1 i hi) (by rw [xt_sE e X Y W x y w hj]; exact h.1 j hj) (by rw [xt_sE e X Y W x y w hk]; exact h.1 k hk) (by rw [xt_sP e X Y W x y w hi hj]; exact h.2 i j hi hj) (by rw [xt_sP e X Y W x y w hi hk]; exact h.2 i k hi hk) (by rw [xt_sP e X Y W x y w hj hk]; exact h.2 j k hj hk) 5
  rw [xt_5, xt_d3 X Y W x y w hi hj hk, Int.mul_comm] at h1
  exact odd_cancel ho b _ h1
theorem half_dvd {b : Nat} {x : Int} (h : (2 ^ b : Int) ∣ x * x) : (2 ^ ((b + 1) / 2) : Int) ∣ x := by
  rcases Nat.mod_two_eq_zero_or_one b with q | q
  · apply sq_dvd
    exact pw_le_dvd (by omega) h
  · by_cases z : x = 0
    · exact ⟨0, by rw [z, Int.mul_zero]⟩
    · obtain ⟨a, o, h1, h2⟩ := two_split x.natAbs x (Nat.le_refl _) z
      have h3 : b ≤ 2 * a := by
        apply Nat.le_of_not_lt
        intro w
        have oo : (o * o) % 2 = 1 := by rw [Int.mul_emod, h2]; rfl
        have h4 : (2 ^ (2 * a + 1) : Int) ∣ x * x := pw_le_dvd (by omega) h
        have e : x * x = (o * o) * 2 ^ (2 * a) := by rw [h1, show 2 * a = a + a by omega, Int.pow_add]; grind
        rw [e] at h4
        obtain ⟨t, ht⟩ := odd_cancel oo _ _ h4
        rw [Int.pow_succ] at ht
        have hp : (2 ^ (2 * a) : Int) ≠ 0 := Int.ne_of_gt (Int.pow_pos (by decide))
        have : (1 : Int) = 2 * t := by
          apply Int.eq_of_mul_eq_mul_left hp
          grind
        omega
      exact pw_le_dvd (by omega) ⟨o, h1⟩
theorem pw_bd {a : Nat} {o d : Int} {B : Nat} (hd : d = 2 ^ a * o) (h0 : d ≠ 0) (hB : d.natAbs < 2 ^ B) : a < B := by
  apply Nat.lt_of_not_le
  intro q
  have := small_zero (pw_le_dvd q ⟨o, hd⟩) hB
  exact h0 this
theorem e1_odd {b : Nat} {k s e1 : Int} (hb : b < 32) (hk : s = 2 ^ b * k) (ok : k % 2 = 1) (h : (2 ^ 32 : Int) ∣ s + e1) : ∃ k1 : Int, e1 = 2 ^ b * k1 ∧ k1 % 2 = 1 := by
  obtain ⟨t, ht⟩ := h
  refine ⟨2 ^ (32 - b) * t - k, ?_, ?_⟩
  · have e2 : (2 ^ 32 : Int) = 2 ^ b * 2 ^ (32 - b) := by rw [← Int.pow_add]; congr 1; omega
    rw [e2] at ht
    grind
  · obtain ⟨c, hc⟩ : ∃ c, 32 - b = c + 1 := ⟨31 - b, by omega⟩
    rw [hc, Int.pow_succ]
    have : (2 : Int) ^ c * 2 * t = 2 * (2 ^ c * t) := by grind
    omega
theorem d_ne {e X Y W : Nat → Int} {b : Nat} {k : Int} (hC : CK (2 ^ 32) e X Y W) (hk : sP e X Y W 0 2 = 2 ^ b * k) (ok : k % 2 = 1) (hb : b ≤ 20) (hx : (X 0).natAbs < 64 ∧ (Y 0).natAbs < 64 ∧ (W 0).natAbs < 64) (hm : (m3 X Y W 1 0 0 0 1).natAbs < 4096 ∧ (m3 X Y W 0 1 0 0 1).natAbs < 4096 ∧ (m3 X Y W 0 0 1 0 1).natAbs < 4096) : d3 X Y W 0 1 2 ≠ 0 := fun hd => by
  have key : ∀ x y w : Int, (m3 X Y W x y w 0 1).natAbs < 4096 → m3 X Y W x y w 0 1 = 0 := fun x y w hlt => by
    have I1 := sP_cmb e (xt X x) (xt Y y) (xt W w) 0 0 1 2 5 _ _ _ _ (cramX (xt X x) (xt Y y) (xt W w) 0 1 2 5) (cramY (xt X x) (xt Y y) (xt W w) 0 1 2 5) (cramW (xt X x) (xt Y y) (xt W w) 0 1 2 5)
    rw [sP_self, xt_sE e X Y W x y w (i := 0) (by decide), xt_sP e X Y W x y w (i := 0) (j := 1) (by decide) (by decide), xt_sP e X Y W x y w (i := 0) (j := 2) (by decide) (by decide), xt_d3 X Y W x y w (i := 0) (j := 1) (k := 2) (by decide) (by decide) (by decide), hd, Int.zero_mul, hk] at I1
    have e1 : d3 (xt X x) (xt Y y) (xt W w) 0 1 5 = m3 X Y W x y w 0 1 := by
      unfold d3 m3 xt
      simp only [if_true]
      rw [if_neg (by decide), if_neg (by decide), if_neg (by decide), if_neg (by decide), if_neg (by decide), if_neg (by decide)]
      grind
    rw [e1] at I1
    have h2 : (2 ^ 32 : Int) ∣ m3 X Y W x y w 0 1 * (2 ^ b * k) := by
      have q : m3 X Y W x y w 0 1 * (2 ^ b * k) = d3 (xt X x) (xt Y y) (xt W w) 0 2 5 * sP e X Y W 0 1 - d3 (xt X x) (xt Y y) (xt W w) 1 2 5 * 2 * sE e X Y W 0 := by grind
      rw [q]
      exact Int.dvd_sub (dl _ hC.2.1) (dl _ hC.1)
    have h3 := drop_b (by omega) ok h2
    exact small_zero (k := 12) (pw_le_dvd (by omega) h3) hlt
  have m1 := key 1 0 0 hm.1
  have m2 := key 0 1 0 hm.2.1
  have m4 := key 0 0 1 hm.2.2
  have n1 : Y 0 * W 1 = Y 1 * W 0 := by unfold m3 at m1; omega
  have n2 : X 0 * W 1 = X 1 * W 0 := by unfold m3 at m2; omega
  have n3 : X 0 * Y 1 = X 1 * Y 0 := by unfold m3 at m4; omega
  obtain ⟨k1, hk1, ok1⟩ := e1_odd (by omega) hk ok hC.2.2.1
  have fin : ∀ z z1 : Int, z * z * sE e X Y W 1 = z1 * z1 * sE e X Y W 0 → z.natAbs < 64 → z = 0 := fun z z1 h hz => by
    have h2 : (2 ^ 32 : Int) ∣ z * z * (2 ^ b * k1) := by
      rw [← hk1, h]
      exact dl _ hC.1
    have h3 := drop_b (by omega) ok1 h2
    exact small_zero (k := 6) (sq_dvd 6 z (pw_le_dvd (by omega) h3)) hz
  have x0 : X 0 = 0 := fin (X 0) (X 1) (by
    have q : X 0 * X 0 * sE e X Y W 1 = e 0 * (X 1 * X 1 * (X 0 * X 0)) + e 1 * (X 0 * X 1 * (X 0 * Y 1)) + e 2 * ((X 0 * Y 1) * (X 0 * Y 1)) + e 3 * (X 0 * X 1 * (X 0 * W 1)) + e 4 * ((X 0 * Y 1) * (X 0 * W 1)) + e 5 * ((X 0 * W 1) * (X 0 * W 1)) := by unfold sE; grind
    rw [q, n2, n3]
    unfold sE
    grind) hx.1
  have y0 : Y 0 = 0 := fin (Y 0) (Y 1) (by
    have q : Y 0 * Y 0 * sE e X Y W 1 = e 0 * ((X 1 * Y 0) * (X 1 * Y 0)) + e 1 * ((X 1 * Y 0) * (Y 0 * Y 1)) + e 2 * (Y 1 * Y 1 * (Y 0 * Y 0)) + e 3 * ((X 1 * Y 0) * (Y 0 * W 1)) + e 4 * (Y 0 * Y 1 * (Y 0 * W 1)) + e 5 * ((Y 0 * W 1) * (Y 0 * W 1)) := by unfold sE; grind
    rw [q, n1, ← n3]
    unfold sE
    grind) hx.2.1
  have w0 : W 0 = 0 := fin (W 0) (W 1) (by
    have q : W 0 * W 0 * sE e X Y W 1 = e 0 * ((X 1 * W 0) * (X 1 * W 0)) + e 1 * ((X 1 * W 0) * (Y 1 * W 0)) + e 2 * ((Y 1 * W 0) * (Y 1 * W 0)) + e 3 * ((X 1 * W 0) * (W 0 * W 1)) + e 4 * ((Y 1 * W 0) * (W 0 * W 1)) + e 5 * (W 1 * W 1 * (W 0 * W 0)) := by unfold sE; grind
    rw [q, ← n1, ← n2]
    unfold sE
    grind) hx.2.2
  have s0 : sP e X Y W 0 2 = 0 := by
    unfold sP
    rw [x0, y0, w0]
    grind
  rw [s0] at hk
  have hp : (2 ^ b : Int) ≠ 0 := Int.ne_of_gt (Int.pow_pos (by decide))
  rcases Int.mul_eq_zero.mp hk.symm with z | z
  · exact hp z
  · omega
/-- the lowest power of two in the three leading cross products -/
theorem kap {X Y W : Nat → Int} (hd : d3 X Y W 0 1 2 ≠ 0) : ∃ κ : Nat, (∀ x y w : Int, (2 ^ κ : Int) ∣ m3 X Y W x y w 0 1 ∧ (2 ^ κ : Int) ∣ m3 X Y W x y w 0 2 ∧ (2 ^ κ : Int) ∣ m3 X Y W x y w 1 2) ∧ ∃ x y w : Int, ¬ ((2 ^ (κ + 1) : Int) ∣ m3 X Y W x y w 0 1 ∧ (2 ^ (κ + 1) : Int) ∣ m3 X Y W x y w 0 2 ∧ (2 ^ (κ + 1) : Int) ∣ m3 X Y W x y w 1 2) := by
  have step : ∀ n : Nat, (∀ x y w : Int, (2 ^ n : Int) ∣ m3 X Y W x y w 0 1 ∧ (2 ^ n : Int) ∣ m3 X Y W x y w 0 2 ∧ (2 ^ n : Int) ∣ m3 X Y W x y w 1 2) ∨ ∃ κ : Nat, (∀ x y w : Int, (2 ^ κ : Int) ∣ m3 X Y W x y w 0 1 ∧ (2 ^ κ : Int) ∣ m3 X Y W x y w 0 2 ∧ (2 ^ κ : Int) ∣ m3 X Y W x y w 1 2) ∧ ∃ x y w : Int, ¬ ((2 ^ (κ + 1) : Int) ∣ m3 X Y W x y w 0 1 ∧ (2 ^ (κ + 1) : Int) ∣ m3 X Y W x y w 0 2 ∧ (2 ^ (κ + 1) : Int) ∣ m3 X Y W x y w 1 2) := fun n => by
    induction n with
    | zero => exact Or.inl fun x y w => ⟨⟨_, by rw [Int.pow_zero, Int.one_mul]⟩, ⟨_, by rw [Int.pow_zero, Int.one_mul]⟩, ⟨_, by rw [Int.pow_zero, Int.one_mul]⟩⟩
    | succ n ih =>
      rcases ih with h | h
      · by_cases q : ∀ x y w : Int, (2 ^ (n + 1) : Int) ∣ m3 X Y W x y w 0 1 ∧ (2 ^ (n + 1) : Int) ∣ m3 X Y W x y w 0 2 ∧ (2 ^ (n + 1) : Int) ∣ m3 X Y W x y w 1 2
        · exact Or.inl q
        · right
          refine ⟨n, h, Classical.byContradiction fun z => q fun x y w => Classical.byContradiction fun y1 => z ⟨x, y, w, y1⟩⟩
      · exact Or.inr h
  obtain ⟨a, o, h1, h2⟩ := two_split (d3 X Y W 0 1 2).natAbs _ (Nat.le_refl _) hd
  rcases step (a + 1) with h | h
  · exfalso
    have h3 := (h (X 2) (Y 2) (W 2)).1
    have e : m3 X Y W (X 2) (Y 2) (W 2) 0 1 = d3 X Y W 0 1 2 := by unfold m3 d3; grind
    rw [e, h1, Int.mul_comm] at h3
    obtain ⟨t, ht⟩ := odd_cancel h2 _ _ h3
    rw [Int.pow_succ] at ht
    have hp : (2 ^ a : Int) ≠ 0 := Int.ne_of_gt (Int.pow_pos (by decide))
    have : (1 : Int) = 2 * t := by
      apply Int.eq_of_mul_eq_mul_left hp
      grind
    omega
  · exact h
theorem gcross {X Y W : Nat → Int} {κ : Nat} {x1 x2 x3 : Int} (h3 : cmb (2 ^ 64) X Y W 3 x1 x2 x3) (hκ : κ ≤ 50) (hk : ∀ x y w : Int, (2 ^ κ : Int) ∣ m3 X Y W x y w 0 1 ∧ (2 ^ κ : Int) ∣ m3 X Y W x y w 0 2 ∧ (2 ^ κ : Int) ∣ m3 X Y W x y w 1 2) (hn : ∃ x y w : Int, ¬ ((2 ^ (κ + 1) : Int) ∣ m3 X Y W x y w 0 1 ∧ (2 ^ (κ + 1) : Int) ∣ m3 X Y W x y w 0 2 ∧ (2 ^ (κ + 1) : Int) ∣ m3 X Y W x y w 1 2)) : ∃ v1 v2 v3 : Int, ¬ ∀ j, (2 ^ (κ + 2) : Int) ∣ gd (dL X Y W v1 v2 v3) j := by
  obtain ⟨x, y, w, hn⟩ := hn
  refine ⟨x, y, w, fun h => hn ?_⟩
  have q0 : (2 ^ (κ + 2) : Int) ∣ m3 X Y W x y w 0 1 := h 0
  have q1 : (2 ^ (κ + 2) : Int) ∣ 2 * m3 X Y W x y w 0 2 := h 1
  have q2 : (2 ^ (κ + 2) : Int) ∣ 3 * m3 X Y W x y w 0 3 + m3 X Y W x y w 1 2 := h 2
  have p0 : (2 ^ (κ + 1) : Int) ∣ m3 X Y W x y w 0 1 := pw_le_dvd (by omega) q0
  have p1 : (2 ^ (κ + 1) : Int) ∣ m3 X Y W x y w 0 2 := by
    obtain ⟨t, ht⟩ := q1
    refine ⟨t, ?_⟩
    rw [show κ + 2 = κ + 1 + 1 by omega, Int.pow_succ] at ht
    have : 2 * m3 X Y W x y w 0 2 = 2 * (2 ^ (κ + 1) * t) := by rw [ht]; grind
    omega
  refine ⟨p0, p1, ?_⟩
  have g03 := m3_mod h3 x y w 0
  rw [m3_self] at g03
  have g03 : (2 ^ (κ + 1) : Int) ∣ _ := pw_le_dvd (by omega) g03
  have p3 : (2 ^ (κ + 1) : Int) ∣ m3 X Y W x y w 0 3 := by
    have e : m3 X Y W x y w 0 3 = (m3 X Y W x y w 0 3 - (x1 * 0 + x2 * m3 X Y W x y w 0 1 + x3 * m3 X Y W x y w 0 2)) + x2 * m3 X Y W x y w 0 1 + x3 * m3 X Y W x y w 0 2 := by omega
    rw [e]
    exact Int.dvd_add (Int.dvd_add g03 (dl _ p0)) (dl _ p1)
  have e : m3 X Y W x y w 1 2 = (3 * m3 X Y W x y w 0 3 + m3 X Y W x y w 1 2) - 3 * m3 X Y W x y w 0 3 := by omega
  rw [e]
  exact Int.dvd_sub (pw_le_dvd (by omega) q2) (dl _ p3)
