/-! the freed row is the true quotient, and small -/
theorem gd_nil (i : Nat) : gd [] i = 0 := rfl
theorem conv_ll (g : Nat → Int) : ∀ (c : List Int), (∀ j, gd c j = 0) → ∀ i, conv c g i = 0
  | [], _, _ => rfl
  | a :: c, h, 0 => by
    rw [conv_0, show a = 0 from h 0, Int.zero_mul]
  | a :: c, h, i + 1 => by
    rw [conv_s, show a = 0 from h 0, Int.zero_mul, conv_ll g c (fun j => h (j + 1)) i]
    rfl
theorem conv_last {g : Nat → Int} {d : Nat} (hg : ∀ i, d < i → g i = 0) : ∀ (c : List Int) (J : Nat), (∀ j, J < j → gd c j = 0) → conv c g (J + d) = gd c J * g d
  | [], J, _ => by
    show (0 : Int) = 0 * g d
    rw [Int.zero_mul]
  | a :: c, 0, h => by
    have h0 := conv_ll g c (fun j => h (j + 1) (by omega))
    rw [Nat.zero_add]
    cases d with
    | zero => exact conv_0 a c g
    | succ d =>
      rw [conv_s, h0, Int.add_zero]
      rfl
  | a :: c, J + 1, h => by
    rw [show J + 1 + d = (J + d) + 1 by omega, conv_s, hg _ (by omega), Int.mul_zero, Int.zero_add, conv_last hg c J (fun j hj => h (j + 1) (by omega))]
    rfl
theorem gd_fin : ∀ (c : List Int) (i : Nat), c.length ≤ i → gd c i = 0
  | [], _, _ => rfl
  | a :: c, 0, h => absurd h (by simp)
  | a :: c, i + 1, h => gd_fin c i (by simpa using h)
theorem gd_max (c : List Int) (K : Nat) : ∀ L : Nat, (∀ j, L ≤ j → gd c j = 0) → (∀ j, K < j → gd c j = 0) ∨ ∃ J, K < J ∧ gd c J ≠ 0 ∧ ∀ j, J < j → gd c j = 0
  | 0, h => Or.inl fun j _ => h j (Nat.zero_le _)
  | L + 1, h => by
    by_cases e : gd c L = 0
    · exact gd_max c K L (fun j hj => by
        by_cases q : j = L
        · rw [q]
          exact e
        · exact h j (by omega))
    · by_cases q : K < L
      · exact Or.inr ⟨L, q, e, fun j hj => h j (by omega)⟩
      · exact Or.inl fun j hj => h j (by omega)
theorem conv_deg {g : Nat → Int} {d : Nat} (hg : top g d) {c : List Int} (h : ∀ i, 4 < i → conv c g i = 0) (hd : d ≤ 4) : ∀ j, 4 - d < j → gd c j = 0 := by
  rcases gd_max c (4 - d) c.length (fun j hj => gd_fin c j hj) with q | ⟨J, h1, h2, h3⟩
  · exact q
  · exfalso
    have e := conv_last hg.2 c J h3
    rw [h (J + d) (by omega)] at e
    rcases Int.mul_eq_zero.mp e.symm with z | z
    · exact h2 z
    · exact hg.1 z
theorem conv_e1 (g : Nat → Int) : ∀ c : List Int, conv c g 0 = gd c 0 * g 0
  | [] => by show (0 : Int) = 0 * g 0; rw [Int.zero_mul]
  | a :: c => conv_0 a c g
theorem conv_e2 (g : Nat → Int) : ∀ c : List Int, conv c g 1 = gd c 0 * g 1 + gd c 1 * g 0
  | [] => by show (0 : Int) = 0 * g 1 + 0 * g 0; rw [Int.zero_mul, Int.zero_mul]; rfl
  | a :: c => by rw [conv_s, conv_e1]; rfl
theorem conv_e3 (g : Nat → Int) : ∀ c : List Int, conv c g 2 = gd c 0 * g 2 + (gd c 1 * g 1 + gd c 2 * g 0)
  | [] => by show (0 : Int) = 0 * g 2 + (0 * g 1 + 0 * g 0); rw [Int.zero_mul, Int.zero_mul, Int.zero_mul]; rfl
  | a :: c => by rw [conv_s, conv_e2]; rfl
theorem conv_e4 (g : Nat → Int) : ∀ c : List Int, conv c g 3 = gd c 0 * g 3 + (gd c 1 * g 2 + (gd c 2 * g 1 + gd c 3 * g 0))
  | [] => by show (0 : Int) = 0 * g 3 + (0 * g 2 + (0 * g 1 + 0 * g 0)); rw [Int.zero_mul, Int.zero_mul, Int.zero_mul, Int.zero_mul]; rfl
  | a :: c => by rw [conv_s, conv_e3]; rfl
theorem conv_e5 (g : Nat → Int) : ∀ c : List Int, conv c g 4 = gd c 0 * g 4 + (gd c 1 * g 3 + (gd c 2 * g 2 + (gd c 3 * g 1 + gd c 4 * g 0)))
  | [] => by show (0 : Int) = 0 * g 4 + (0 * g 3 + (0 * g 2 + (0 * g 1 + 0 * g 0))); rw [Int.zero_mul, Int.zero_mul, Int.zero_mul, Int.zero_mul, Int.zero_mul]; rfl
  | a :: c => by rw [conv_s, conv_e4]; rfl
theorem zL_div {q G : Int} (hG : G ≠ 0) (b1 : (q * G).natAbs < 4611686018427387904) (b2 : G.natAbs < 4611686018427387904) : zL (q * G) / zL G = zL q := by
  have hq : q.natAbs < 4611686018427387904 := by
    rw [Int.natAbs_mul] at b1
    have := Nat.mul_le_mul (Nat.le_refl q.natAbs) (show 1 ≤ G.natAbs by omega)
    omega
  apply Int64.toInt_inj.mp
  rw [Int64.toInt_div, zL_toInt (by omega) (by omega), zL_toInt (by omega) (by omega), zL_toInt (by omega) (by omega), Int.mul_tdiv_cancel _ hG]
  exact Int.bmod_eq_of_le (by omega) (by omega)
theorem zL_ms (a b c : Int) : zL a - zL b * zL c = zL (a - b * c) := by
  rw [zL_mul, zL_sub]
/-- the numbers of the quotient -/
def qsm (d : Int) (q : Nat → Int) : Prop := (∀ j, (q j).natAbs ≤ 105) ∧ (d = 1 → ∀ j, (q j).natAbs ≤ 56) ∧ (d = 2 → ∀ j, j ≠ 1 → (q j).natAbs ≤ 7) ∧ (3 ≤ d → ∀ j, (q j).natAbs ≤ 7) ∧ (∀ j, (4 - d).toNat < j → q j = 0)
theorem nm_b {a b : Int} {A B : Nat} (h1 : a.natAbs ≤ A) (h2 : b.natAbs ≤ B) : (a * b).natAbs ≤ A * B := by
  rw [Int.natAbs_mul]
  exact Nat.mul_le_mul h1 h2
theorem q_small {X g : Nat → Int} {c : List Int} {d : Nat} (hd : 1 ≤ d ∧ d ≤ 4) (hX : bx 7 X) (sX : ∀ i, 4 < i → X i = 0) (tg : top g d) (h : ∀ i, X i = conv c g i) : qsm d (gd c) := by
  have hz := conv_deg tg (c := c) (fun i hi => by rw [← h i]; exact sX i hi) hd.2
  have X0 := (h 0).trans (conv_e1 g c)
  have X1 := (h 1).trans (conv_e2 g c)
  have X2 := (h 2).trans (conv_e3 g c)
  have X3 := (h 3).trans (conv_e4 g c)
  have X4 := (h 4).trans (conv_e5 g c)
  have B := hX
  by_cases hn : ∀ i, X i = 0
  · -- nothing
    have hc : ∀ j, gd c j = 0 := by
      rcases gd_max c 0 c.length (fun j hj => gd_fin c j hj) with q | ⟨J, h1, h2, h3⟩
      · intro j
        by_cases j0 : j = 0
        · subst j0
          have e := conv_last tg.2 c 0 q
          rw [← h, hn] at e
          rcases Int.mul_eq_zero.mp e.symm with z | z
          · exact z
          · exact absurd z tg.1
        · exact q j (by omega)
      · exfalso
        have e := conv_last tg.2 c J h3
        rw [← h, hn] at e
        rcases Int.mul_eq_zero.mp e.symm with z | z
        · exact h2 z
        · exact tg.1 z
    have h0 : ∀ j, (gd c j).natAbs = 0 := fun j => by rw [hc j]; rfl
    exact ⟨fun j => by rw [h0]; decide, fun _ j => by rw [h0]; decide, fun _ j _ => by rw [h0]; decide, fun _ j => by rw [h0]; decide, fun j _ => hc j⟩
  · have hu := top_le hX tg h hn
    have hw := low_le (l := 0) hX (fun j hj => by omega) h hn
    have hzt : ∀ j, (4 - (d : Int)).toNat < j → gd c j = 0 := fun j hj => hz j (by omega)
    have hzn : ∀ j, 4 - d < j → (gd c j).natAbs = 0 := fun j hj => by rw [hz j hj]; rfl
    have : d = 1 ∨ d = 2 ∨ d = 3 ∨ d = 4 := by omega
    rcases this with rfl | rfl | rfl | rfl
    · rw [tg.2 2 (by omega)] at X2 X3 X4
      rw [tg.2 3 (by omega)] at X3 X4
      rw [tg.2 4 (by omega), hz 4 (by omega)] at X4
      simp only [Int.mul_zero, Int.zero_mul, Int.zero_add, Int.add_zero] at X2 X3 X4
      have q3 : (gd c 3).natAbs ≤ 7 := fac_le (x := g 1) (by rw [Int.mul_comm, ← X4]; exact B 4) tg.1
      have q0 : (gd c 0).natAbs ≤ 7 := by
        by_cases w0 : g 0 = 0
        · exact fac_le (x := g 1) (by rw [w0, Int.mul_zero, Int.add_zero] at X1; rw [Int.mul_comm, ← X1]; exact B 1) tg.1
        · exact fac_le (x := g 0) (by rw [Int.mul_comm, ← X0]; exact B 0) w0
      have q2 : (gd c 2).natAbs ≤ 56 := by
        have b1 := nm_b q3 hw
        have b2 := B 3
        exact fac_le (x := g 1) (by rw [Int.mul_comm]; omega) tg.1
      have q1 : (gd c 1).natAbs ≤ 56 := by
        by_cases w0 : g 0 = 0
        · have b2 := B 2
          rw [w0, Int.mul_zero, Int.add_zero] at X2
          exact fac_le (x := g 1) (by rw [Int.mul_comm, ← X2]; omega) tg.1
        · have b1 := nm_b q0 hu
          have b2 := B 1
          exact fac_le (x := g 0) (by rw [Int.mul_comm]; omega) w0
      have all : ∀ j, (gd c j).natAbs ≤ 56 := fun j => by
        match j with
        | 0 => omega
        | 1 => omega
        | 2 => omega
        | 3 => omega
        | j + 4 => rw [hzn (j + 4) (by omega)]; decide
      exact ⟨fun j => by have := all j; omega, fun _ => all, fun e => absurd e (by decide), fun e => absurd e (by decide), hzt⟩
    · rw [tg.2 3 (by omega), hz 3 (by omega)] at X3 X4
      rw [tg.2 4 (by omega), hz 4 (by omega)] at X4
      simp only [Int.mul_zero, Int.zero_mul, Int.zero_add, Int.add_zero] at X3 X4
      have q2 : (gd c 2).natAbs ≤ 7 := fac_le (x := g 2) (by rw [Int.mul_comm, ← X4]; exact B 4) tg.1
      have q0 : (gd c 0).natAbs ≤ 7 := by
        by_cases w0 : g 0 = 0
        · by_cases m0 : g 1 = 0
          · exact fac_le (x := g 2) (by rw [w0, m0, Int.mul_zero, Int.mul_zero, Int.add_zero, Int.add_zero] at X2; rw [Int.mul_comm, ← X2]; exact B 2) tg.1
          · exact fac_le (x := g 1) (by rw [w0, Int.mul_zero, Int.add_zero] at X1; rw [Int.mul_comm, ← X1]; exact B 1) m0
        · exact fac_le (x := g 0) (by rw [Int.mul_comm, ← X0]; exact B 0) w0
      have q1 : (gd c 1).natAbs ≤ 105 := by
        by_cases m0 : g 1 = 0
        · rw [m0, Int.mul_zero, Int.add_zero] at X3
          have := fac_le (x := g 2) (y := gd c 1) (B := 7) (by rw [Int.mul_comm, ← X3]; exact B 3) tg.1
          omega
        · have b1 := nm_b q0 hu
          have b2 := nm_b q2 hw
          have b3 := B 2
          exact fac_le (x := g 1) (by rw [Int.mul_comm]; omega) m0
      have all : ∀ j, j ≠ 1 → (gd c j).natAbs ≤ 7 := fun j hj => by
        match j with
        | 0 => omega
        | 1 => exact absurd rfl hj
        | 2 => omega
        | j + 3 => rw [hzn (j + 3) (by omega)]; decide
      exact ⟨fun j => by
        by_cases e : j = 1
        · rw [e]
          exact q1
        · have := all j e
          omega, fun e => absurd e (by decide), fun _ => all, fun e => absurd e (by decide), hzt⟩
    · rw [hz 2 (by omega)] at X2 X3 X4
      rw [hz 3 (by omega)] at X3 X4
      rw [tg.2 4 (by omega), hz 4 (by omega)] at X4
      simp only [Int.mul_zero, Int.zero_mul, Int.zero_add, Int.add_zero] at X2 X3 X4
      have q1 : (gd c 1).natAbs ≤ 7 := fac_le (x := g 3) (by rw [Int.mul_comm, ← X4]; exact B 4) tg.1
      have q0 : (gd c 0).natAbs ≤ 7 := by
        by_cases w0 : g 0 = 0
        · by_cases m0 : g 1 = 0
          · by_cases n0 : g 2 = 0
            · exact fac_le (x := g 3) (by rw [n0, Int.mul_zero, Int.add_zero] at X3; rw [Int.mul_comm, ← X3]; exact B 3) tg.1
            · exact fac_le (x := g 2) (by rw [m0, Int.mul_zero, Int.add_zero] at X2; rw [Int.mul_comm, ← X2]; exact B 2) n0
          · exact fac_le (x := g 1) (by rw [w0, Int.mul_zero, Int.add_zero] at X1; rw [Int.mul_comm, ← X1]; exact B 1) m0
        · exact fac_le (x := g 0) (by rw [Int.mul_comm, ← X0]; exact B 0) w0
      have all : ∀ j, (gd c j).natAbs ≤ 7 := fun j => by
        match j with
        | 0 => omega
        | 1 => omega
        | j + 2 => rw [hzn (j + 2) (by omega)]; decide
      exact ⟨fun j => by have := all j; omega, fun e => absurd e (by decide), fun e => absurd e (by decide), fun _ => all, hzt⟩
    · rw [hz 1 (by omega)] at X1 X2 X3 X4
      rw [hz 2 (by omega)] at X2 X3 X4
      rw [hz 3 (by omega)] at X3 X4
      rw [hz 4 (by omega)] at X4
      simp only [Int.mul_zero, Int.zero_mul, Int.zero_add, Int.add_zero] at X2 X3 X4
      have q0 : (gd c 0).natAbs ≤ 7 := fac_le (x := g 4) (by rw [Int.mul_comm, ← X4]; exact B 4) tg.1
      have all : ∀ j, (gd c j).natAbs ≤ 7 := fun j => by
        match j with
        | 0 => omega
        | j + 1 => rw [hzn (j + 1) (by omega)]; decide
      exact ⟨fun j => by have := all j; omega, fun e => absurd e (by decide), fun e => absurd e (by decide), fun _ => all, hzt⟩
