theorem five {P : Nat → Prop} (h0 : P 0) (h1 : P 1) (h2 : P 2) (h3 : P 3) (h4 : P 4) : ∀ i, i < 5 → P i
  | 0, _ => h0
  | 1, _ => h1
  | 2, _ => h2
  | 3, _ => h3
  | 4, _ => h4
theorem dvA_of {b : Nat} {e X Y W : Nat → Int} (e0 : (2 ^ b : Int) ∣ sE e X Y W 0) (e1 : (2 ^ b : Int) ∣ sE e X Y W 1) (e2 : (2 ^ b : Int) ∣ sE e X Y W 2) (e3 : (2 ^ b : Int) ∣ sE e X Y W 3) (e4 : (2 ^ b : Int) ∣ sE e X Y W 4) (s01 : (2 ^ b : Int) ∣ sP e X Y W 0 1) (s02 : (2 ^ b : Int) ∣ sP e X Y W 0 2) (s03 : (2 ^ b : Int) ∣ sP e X Y W 0 3) (s04 : (2 ^ b : Int) ∣ sP e X Y W 0 4) (s12 : (2 ^ b : Int) ∣ sP e X Y W 1 2) (s13 : (2 ^ b : Int) ∣ sP e X Y W 1 3) (s14 : (2 ^ b : Int) ∣ sP e X Y W 1 4) (s23 : (2 ^ b : Int) ∣ sP e X Y W 2 3) (s24 : (2 ^ b : Int) ∣ sP e X Y W 2 4) (s34 : (2 ^ b : Int) ∣ sP e X Y W 3 4) : dvA b e X Y W := by
  have dd : ∀ i, (2 ^ b : Int) ∣ sE e X Y W i → (2 ^ b : Int) ∣ sP e X Y W i i := fun i h => by rw [sP_self]; exact dl _ h
  have sy : ∀ {i j}, (2 ^ b : Int) ∣ sP e X Y W i j → (2 ^ b : Int) ∣ sP e X Y W j i := fun h => by rw [sP_sym]; exact h
  refine ⟨five e0 e1 e2 e3 e4, fun i j hi hj => ?_⟩
  revert j
  revert i
  refine five ?_ ?_ ?_ ?_ ?_
  · exact five (dd 0 e0) s01 s02 s03 s04
  · exact five (sy s01) (dd 1 e1) s12 s13 s14
  · exact five (sy s02) (sy s12) (dd 2 e2) s23 s24
  · exact five (sy s03) (sy s13) (sy s23) (dd 3 e3) s34
  · exact five (sy s04) (sy s14) (sy s24) (sy s34) (dd 4 e4)
/-- six numbers are enough -/
theorem dvA_six {b : Nat} {e X Y W : Nat → Int} (hC : CK (2 ^ 32) e X Y W) (hb : b ≤ 32) (s02 : (2 ^ b : Int) ∣ sP e X Y W 0 2) (s03 : (2 ^ b : Int) ∣ sP e X Y W 0 3) (s04 : (2 ^ b : Int) ∣ sP e X Y W 0 4) (s13 : (2 ^ b : Int) ∣ sP e X Y W 1 3) (s14 : (2 ^ b : Int) ∣ sP e X Y W 1 4) (s24 : (2 ^ b : Int) ∣ sP e X Y W 2 4) : dvA b e X Y W := by
  obtain ⟨c0, c1, c2, c3, c4, c5, c6, c7, c8⟩ := hC
  have up : ∀ {z : Int}, (2 ^ 32 : Int) ∣ z → (2 ^ b : Int) ∣ z := fun h => pw_le_dvd hb h
  have su : ∀ {x y : Int}, (2 ^ b : Int) ∣ x + y → (2 ^ b : Int) ∣ x → (2 ^ b : Int) ∣ y := fun {x y} h1 h2 => by
    have e : y = (x + y) - x := by omega
    rw [e]
    exact Int.dvd_sub h1 h2
  exact dvA_of (up c0) (su (up c2) s02) (su (up c4) (Int.dvd_add s04 s13)) (su (up c6) s24) (up c8) (up c1) s02 s03 s04 (su (up c3) s03) s13 s14 (su (up c5) s14) s24 (up c7)
theorem low_b {e X Y W : Nat → Int} (he : ∃ i, i < 6 ∧ e i % 2 = 1) (h7 : b7 X Y W) (hp : ∃ i j k, i < 5 ∧ j < 5 ∧ k < 5 ∧ d3 X Y W i j k ≠ 0) : ∃ b : Nat, b ≤ 20 ∧ dvA b e X Y W ∧ ¬ dvA (b + 1) e X Y W := by
  have step : ∀ n : Nat, dvA n e X Y W ∨ ∃ b : Nat, b < n ∧ dvA b e X Y W ∧ ¬ dvA (b + 1) e X Y W := fun n => by
    induction n with
    | zero => exact Or.inl ⟨fun i _ => ⟨_, by rw [Int.pow_zero, Int.one_mul]⟩, fun i j _ _ => ⟨_, by rw [Int.pow_zero, Int.one_mul]⟩⟩
    | succ n ih =>
      rcases ih with h | ⟨b, h1, h2⟩
      · by_cases q : dvA (n + 1) e X Y W
        · exact Or.inl q
        · exact Or.inr ⟨n, Nat.lt_succ_self n, h, q⟩
      · exact Or.inr ⟨b, by omega, h2⟩
  rcases step 21 with h | ⟨b, h1, h2⟩
  · exfalso
    obtain ⟨i, j, k, hi, hj, hk, hne⟩ := hp
    have h3 := cont_p h he hi hj hk
    have h4 := nb2 (b7_P h7 i j k hi hj hk) (b7_P h7 i j k hi hj hk)
    have h5 := small_zero h3 (Nat.lt_of_le_of_lt h4 (by decide))
    rcases Int.mul_eq_zero.mp h5 with z | z <;> exact hne z
  · exact ⟨b, by omega, h2⟩
/-- a relation of four vectors -/
def Rl (X Y W : Nat → Int) (n0 n1 n2 n3 : Int) : Prop := n0 * X 0 + n1 * X 1 + n2 * X 2 + n3 * X 3 = 0 ∧ n0 * Y 0 + n1 * Y 1 + n2 * Y 2 + n3 * Y 3 = 0 ∧ n0 * W 0 + n1 * W 1 + n2 * W 2 + n3 * W 3 = 0
theorem Rl_prim {X Y W : Nat → Int} : ∀ (N : Nat) (n0 n1 n2 n3 : Int), n0.natAbs + n1.natAbs + n2.natAbs + n3.natAbs ≤ N → ¬ (n0 = 0 ∧ n1 = 0 ∧ n2 = 0 ∧ n3 = 0) → Rl X Y W n0 n1 n2 n3 → ∃ n0 n1 n2 n3 : Int, Rl X Y W n0 n1 n2 n3 ∧ (n0 % 2 = 1 ∨ n1 % 2 = 1 ∨ n2 % 2 = 1 ∨ n3 % 2 = 1)
  | 0, n0, n1, n2, n3, h, h0, _ => absurd ⟨by omega, by omega, by omega, by omega⟩ h0
  | N + 1, n0, n1, n2, n3, h, h0, hr => by
    by_cases q : n0 % 2 = 1 ∨ n1 % 2 = 1 ∨ n2 % 2 = 1 ∨ n3 % 2 = 1
    · exact ⟨n0, n1, n2, n3, hr, q⟩
    · obtain ⟨a, ha⟩ : ∃ a, n0 = 2 * a := ⟨n0 / 2, by omega⟩
      obtain ⟨b, hb⟩ : ∃ a, n1 = 2 * a := ⟨n1 / 2, by omega⟩
      obtain ⟨c, hc⟩ : ∃ a, n2 = 2 * a := ⟨n2 / 2, by omega⟩
      obtain ⟨d, hd⟩ : ∃ a, n3 = 2 * a := ⟨n3 / 2, by omega⟩
      refine Rl_prim N a b c d (by omega) (fun z => h0 ⟨by omega, by omega, by omega, by omega⟩) ?_
      obtain ⟨r1, r2, r3⟩ := hr
      subst ha
      subst hb
      subst hc
      subst hd
      have f : ∀ p q r s : Int, 2 * a * p + 2 * b * q + 2 * c * r + 2 * d * s = 0 → a * p + b * q + c * r + d * s = 0 := fun p q r s z => by
        have : 2 * (a * p + b * q + c * r + d * s) = 0 := by rw [← z]; grind
        omega
      exact ⟨f _ _ _ _ r1, f _ _ _ _ r2, f _ _ _ _ r3⟩
theorem Rl_ex (X Y W : Nat → Int) : ∃ n0 n1 n2 n3 : Int, Rl X Y W n0 n1 n2 n3 ∧ (n0 % 2 = 1 ∨ n1 % 2 = 1 ∨ n2 % 2 = 1 ∨ n3 % 2 = 1) := by
  have go : ∀ n0 n1 n2 n3 : Int, ¬ (n0 = 0 ∧ n1 = 0 ∧ n2 = 0 ∧ n3 = 0) → Rl X Y W n0 n1 n2 n3 → ∃ n0 n1 n2 n3 : Int, Rl X Y W n0 n1 n2 n3 ∧ (n0 % 2 = 1 ∨ n1 % 2 = 1 ∨ n2 % 2 = 1 ∨ n3 % 2 = 1) := fun n0 n1 n2 n3 h1 h2 => Rl_prim _ n0 n1 n2 n3 (Nat.le_refl _) h1 h2
  by_cases q1 : d3 X Y W 1 2 3 = 0 ∧ -d3 X Y W 0 2 3 = 0 ∧ d3 X Y W 0 1 3 = 0 ∧ -d3 X Y W 0 1 2 = 0
  · have d0 : d3 X Y W 0 1 2 = 0 := by omega
    have cr : ∀ a b c : Int, Rl X Y W (m3 X Y W a b c 1 2) (-m3 X Y W a b c 0 2) (m3 X Y W a b c 0 1) 0 := fun a b c => by
      unfold d3 at d0
      unfold Rl m3
      refine ⟨?_, ?_, ?_⟩
      · have e : (a * (Y 1 * W 2 - Y 2 * W 1) - b * (X 1 * W 2 - X 2 * W 1) + c * (X 1 * Y 2 - X 2 * Y 1)) * X 0 + -(a * (Y 0 * W 2 - Y 2 * W 0) - b * (X 0 * W 2 - X 2 * W 0) + c * (X 0 * Y 2 - X 2 * Y 0)) * X 1 + (a * (Y 0 * W 1 - Y 1 * W 0) - b * (X 0 * W 1 - X 1 * W 0) + c * (X 0 * Y 1 - X 1 * Y 0)) * X 2 + 0 * X 3 = a * (X 0 * (Y 1 * W 2 - Y 2 * W 1) - Y 0 * (X 1 * W 2 - X 2 * W 1) + W 0 * (X 1 * Y 2 - X 2 * Y 1)) := by grind
        rw [e, d0, Int.mul_zero]
      · have e : (a * (Y 1 * W 2 - Y 2 * W 1) - b * (X 1 * W 2 - X 2 * W 1) + c * (X 1 * Y 2 - X 2 * Y 1)) * Y 0 + -(a * (Y 0 * W 2 - Y 2 * W 0) - b * (X 0 * W 2 - X 2 * W 0) + c * (X 0 * Y 2 - X 2 * Y 0)) * Y 1 + (a * (Y 0 * W 1 - Y 1 * W 0) - b * (X 0 * W 1 - X 1 * W 0) + c * (X 0 * Y 1 - X 1 * Y 0)) * Y 2 + 0 * Y 3 = b * (X 0 * (Y 1 * W 2 - Y 2 * W 1) - Y 0 * (X 1 * W 2 - X 2 * W 1) + W 0 * (X 1 * Y 2 - X 2 * Y 1)) := by grind
        rw [e, d0, Int.mul_zero]
      · have e : (a * (Y 1 * W 2 - Y 2 * W 1) - b * (X 1 * W 2 - X 2 * W 1) + c * (X 1 * Y 2 - X 2 * Y 1)) * W 0 + -(a * (Y 0 * W 2 - Y 2 * W 0) - b * (X 0 * W 2 - X 2 * W 0) + c * (X 0 * Y 2 - X 2 * Y 0)) * W 1 + (a * (Y 0 * W 1 - Y 1 * W 0) - b * (X 0 * W 1 - X 1 * W 0) + c * (X 0 * Y 1 - X 1 * Y 0)) * W 2 + 0 * W 3 = c * (X 0 * (Y 1 * W 2 - Y 2 * W 1) - Y 0 * (X 1 * W 2 - X 2 * W 1) + W 0 * (X 1 * Y 2 - X 2 * Y 1)) := by grind
        rw [e, d0, Int.mul_zero]
    by_cases q2 : ∀ a b c : Int, m3 X Y W a b c 0 1 = 0
    · have n1 : Y 0 * W 1 - Y 1 * W 0 = 0 := by have := q2 1 0 0; unfold m3 at this; omega
      have n2 : X 0 * W 1 - X 1 * W 0 = 0 := by have := q2 0 1 0; unfold m3 at this; omega
      have n3 : X 0 * Y 1 - X 1 * Y 0 = 0 := by have := q2 0 0 1; unfold m3 at this; omega
      by_cases x0 : X 0 = 0
      · by_cases y0 : Y 0 = 0
        · by_cases w0 : W 0 = 0
          · exact go 1 0 0 0 (by omega) ⟨by rw [x0]; omega, by rw [y0]; omega, by rw [w0]; omega⟩
          · exact go (W 1) (-W 0) 0 0 (by omega) ⟨by grind, by grind, by grind⟩
        · exact go (Y 1) (-Y 0) 0 0 (by omega) ⟨by grind, by grind, by grind⟩
      · exact go (X 1) (-X 0) 0 0 (by omega) ⟨by grind, by grind, by grind⟩
    · obtain ⟨a, b, c, hne⟩ : ∃ a b c : Int, m3 X Y W a b c 0 1 ≠ 0 := Classical.byContradiction fun z => q2 fun a b c => Classical.byContradiction fun y => z ⟨a, b, c, y⟩
      exact go _ _ _ _ (fun z => hne z.2.2.1) (cr a b c)
  · refine go _ _ _ _ q1 ⟨?_, ?_, ?_⟩
    · have := cramX X Y W 0 1 2 3
      grind
    · have := cramY X Y W 0 1 2 3
      grind
    · have := cramW X Y W 0 1 2 3
      grind
theorem Rl_S {X Y W e : Nat → Int} {n0 n1 n2 n3 : Int} (h : Rl X Y W n0 n1 n2 n3) (i : Nat) : n0 * sP e X Y W i 0 + n1 * sP e X Y W i 1 + n2 * sP e X Y W i 2 + n3 * sP e X Y W i 3 = 0 := by
  obtain ⟨h1, h2, h3⟩ := h
  have q : n0 * sP e X Y W i 0 + n1 * sP e X Y W i 1 + n2 * sP e X Y W i 2 + n3 * sP e X Y W i 3 = (2 * e 0 * X i + e 1 * Y i + e 3 * W i) * (n0 * X 0 + n1 * X 1 + n2 * X 2 + n3 * X 3) + (e 1 * X i + 2 * e 2 * Y i + e 4 * W i) * (n0 * Y 0 + n1 * Y 1 + n2 * Y 2 + n3 * Y 3) + (e 3 * X i + e 4 * Y i + 2 * e 5 * W i) * (n0 * W 0 + n1 * W 1 + n2 * W 2 + n3 * W 3) := by
    unfold sP
    clear h1 h2 h3
    grind
  rw [q, h1, h2, h3]
  omega
/-- the lowest power: if it is not in the second, it is not in the third -/
theorem par03 {X Y W e : Nat → Int} {b : Nat} (hC : CK (2 ^ 32) e X Y W) (hA : dvA b e X Y W) (hb : b ≤ 20) (h02 : (2 ^ (b + 1) : Int) ∣ sP e X Y W 0 2) : (2 ^ (b + 1) : Int) ∣ sP e X Y W 0 3 := by
  apply Classical.byContradiction
  intro hn
  obtain ⟨n0, n1, n2, n3, hr, ho⟩ := Rl_ex X Y W
  have up : ∀ {z : Int}, (2 ^ 32 : Int) ∣ z → (2 ^ (b + 1) : Int) ∣ z := fun h => pw_le_dvd (by omega) h
  have ev : ∀ {z : Int}, (2 ^ b : Int) ∣ z → (2 ^ (b + 1) : Int) ∣ 2 * z := fun {z} h => by
    obtain ⟨t, ht⟩ := h
    exact ⟨t, by rw [ht, Int.pow_succ]; grind⟩
  have ev2 : ∀ {n z : Int}, n % 2 = 0 → (2 ^ b : Int) ∣ z → (2 ^ (b + 1) : Int) ∣ n * z := fun {n z} hn h => by
    obtain ⟨t, ht⟩ := h
    obtain ⟨m, hm⟩ : ∃ m, n = 2 * m := ⟨n / 2, by omega⟩
    exact ⟨m * t, by rw [ht, hm, Int.pow_succ]; grind⟩
  have cut : ∀ {n z : Int}, ¬ (2 ^ (b + 1) : Int) ∣ z → (2 ^ b : Int) ∣ z → (2 ^ (b + 1) : Int) ∣ n * z → n % 2 = 0 := fun {n z} hz h hnz => by
    obtain ⟨t, ht⟩ := h
    have ot : t % 2 = 1 := by
      rcases Int.emod_two_eq t with y | y
      · exfalso
        obtain ⟨m, hm⟩ : ∃ m, t = 2 * m := ⟨t / 2, by omega⟩
        exact hz ⟨m, by rw [ht, hm, Int.pow_succ]; grind⟩
      · exact y
    have h1 : (2 ^ (1 + b) : Int) ∣ 2 ^ b * t * n := by
      rw [show 1 + b = b + 1 by omega, ← ht, Int.mul_comm]
      exact hnz
    have h2 := odd_cancel2 ot h1
    omega
  have hn12 : ¬ (2 ^ (b + 1) : Int) ∣ sP e X Y W 1 2 := fun h => hn (by
    have e1 : sP e X Y W 0 3 = (sP e X Y W 0 3 + sP e X Y W 1 2) - sP e X Y W 1 2 := by omega
    rw [e1]
    exact Int.dvd_sub (up hC.2.2.2.1) h)
  have r0 := Rl_S (e := e) hr 0
  have r1 := Rl_S (e := e) hr 1
  have r2 := Rl_S (e := e) hr 2
  have r3 := Rl_S (e := e) hr 3
  rw [sP_self] at r0 r1 r2 r3
  rw [sP_sym e X Y W 1 0] at r1
  rw [sP_sym e X Y W 2 0, sP_sym e X Y W 2 1] at r2
  rw [sP_sym e X Y W 3 0, sP_sym e X Y W 3 1, sP_sym e X Y W 3 2] at r3
  have k3 : n3 % 2 = 0 := cut hn (hA.2 0 3 (by decide) (by decide)) (by
    have e1 : n3 * sP e X Y W 0 3 = -(n0 * (2 * sE e X Y W 0) + n1 * sP e X Y W 0 1 + n2 * sP e X Y W 0 2) := by omega
    rw [e1]
    exact Int.dvd_neg.mpr (Int.dvd_add (Int.dvd_add (dl _ (dl _ (up hC.1))) (dl _ (up hC.2.1))) (dl _ h02)))
  have k2 : n2 % 2 = 0 := cut hn12 (hA.2 1 2 (by decide) (by decide)) (by
    have e1 : n2 * sP e X Y W 1 2 = -(n0 * sP e X Y W 0 1 + n1 * (2 * sE e X Y W 1) + n3 * sP e X Y W 1 3) := by omega
    rw [e1]
    exact Int.dvd_neg.mpr (Int.dvd_add (Int.dvd_add (dl _ (up hC.2.1)) (dl _ (ev (hA.1 1 (by decide))))) (ev2 k3 (hA.2 1 3 (by decide) (by decide)))))
  have k1 : n1 % 2 = 0 := cut hn12 (hA.2 1 2 (by decide) (by decide)) (by
    have e1 : n1 * sP e X Y W 1 2 = -(n0 * sP e X Y W 0 2 + n2 * (2 * sE e X Y W 2) + n3 * sP e X Y W 2 3) := by omega
    rw [e1]
    exact Int.dvd_neg.mpr (Int.dvd_add (Int.dvd_add (dl _ h02) (dl _ (ev (hA.1 2 (by decide))))) (ev2 k3 (hA.2 2 3 (by decide) (by decide)))))
  have k0 : n0 % 2 = 0 := cut hn (hA.2 0 3 (by decide) (by decide)) (by
    have e1 : n0 * sP e X Y W 0 3 = -(n1 * sP e X Y W 1 3 + n2 * sP e X Y W 2 3 + n3 * (2 * sE e X Y W 3)) := by omega
    rw [e1]
    exact Int.dvd_neg.mpr (Int.dvd_add (Int.dvd_add (ev2 k1 (hA.2 1 3 (by decide) (by decide))) (ev2 k2 (hA.2 2 3 (by decide) (by decide)))) (dl _ (ev (hA.1 3 (by decide))))))
  omega
