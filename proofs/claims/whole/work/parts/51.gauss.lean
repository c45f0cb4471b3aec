/-! Gauss: a primitive divisor divides with whole quotients -/
theorem dv_r {p b : Int} (a : Int) (h : p ∣ b) : p ∣ a * b := by
  obtain ⟨k, hk⟩ := h
  exact ⟨a * k, by rw [hk, Int.mul_left_comm]⟩
theorem dv_l {p a : Int} (b : Int) (h : p ∣ a) : p ∣ a * b := by
  obtain ⟨k, hk⟩ := h
  exact ⟨k * b, by rw [hk, Int.mul_assoc]⟩
def Irr (p : Nat) : Prop := 2 ≤ p ∧ ∀ q, 2 ≤ q → q ∣ p → q = p
theorem irr_ex : ∀ (K N : Nat), N ≤ K → 2 ≤ N → ∃ p, Irr p ∧ p ∣ N
  | 0, N, h1, h2 => by omega
  | K + 1, N, h1, h2 => by
    by_cases h : ∃ q, 2 ≤ q ∧ q ∣ N ∧ q ≠ N
    · obtain ⟨q, q2, qd, qn⟩ := h
      have qle : q ≤ N := Nat.le_of_dvd (by omega) qd
      obtain ⟨p, hp, hpd⟩ := irr_ex K q (by omega) q2
      exact ⟨p, hp, Nat.dvd_trans hpd qd⟩
    · refine ⟨N, ⟨h2, fun q q2 qd => ?_⟩, Nat.dvd_refl N⟩
      by_cases e : q = N
      · exact e
      · exact absurd ⟨q, q2, qd, e⟩ h
theorem Irr.pm {p : Nat} (hp : Irr p) {a b : Int} (h : (p : Int) ∣ a * b) (hb : ¬ (p : Int) ∣ b) : (p : Int) ∣ a := by
  have h1 : p ∣ a.natAbs * b.natAbs := by
    rw [← Int.natAbs_mul]
    exact Int.ofNat_dvd_left.mp h
  have hg : Nat.gcd p b.natAbs = 1 := by
    have hpos : 0 < Nat.gcd p b.natAbs := Nat.gcd_pos_of_pos_left _ (by have := hp.1; omega)
    by_cases h2 : 2 ≤ Nat.gcd p b.natAbs
    · have h3 := hp.2 _ h2 (Nat.gcd_dvd_left p b.natAbs)
      exfalso
      apply hb
      apply Int.ofNat_dvd_left.mpr
      have h4 := Nat.gcd_dvd_right p b.natAbs
      rw [h3] at h4
      exact h4
    · omega
  exact Int.ofNat_dvd_left.mpr (Nat.Coprime.dvd_of_dvd_mul_right (show Nat.Coprime p b.natAbs from hg) h1)
theorem first_ex {P : Nat → Prop} : ∀ (K i : Nat), i ≤ K → P i → ∃ j, P j ∧ ∀ k, k < j → ¬ P k
  | 0, i, h1, h2 => ⟨i, h2, fun k hk => by omega⟩
  | K + 1, i, h1, h2 => by
    by_cases h : ∃ k, k < i ∧ P k
    · obtain ⟨k, hk, hp⟩ := h
      exact first_ex K k (by omega) hp
    · exact ⟨i, h2, fun k hk q => h ⟨k, hk, q⟩⟩
theorem conv_lo {g : Nat → Int} {p : Int} {i0 : Nat} (hg : ∀ j, j < i0 → p ∣ g j) : ∀ (c : List Int) (j : Nat), j < i0 → p ∣ conv c g j
  | [], j, _ => Int.dvd_zero p
  | a :: c, 0, h => by
    rw [conv_0]
    exact dv_r a (hg 0 h)
  | a :: c, j + 1, h => by
    rw [conv_s]
    exact Int.dvd_add (dv_r a (hg (j + 1) h)) (conv_lo hg c j (by omega))
theorem conv_pm {g : Nat → Int} {p : Nat} (hp : Irr p) {i0 : Nat} (h0 : ¬ (p : Int) ∣ g i0) (hg : ∀ j, j < i0 → (p : Int) ∣ g j) : ∀ c : List Int, (∀ i, (p : Int) ∣ conv c g i) → ∃ d : List Int, c = d.map (fun x => (p : Int) * x)
  | [], _ => ⟨[], rfl⟩
  | a :: c, h => by
    have h1 : (p : Int) ∣ a * g i0 := by
      cases i0 with
      | zero => have := h 0; rw [conv_0] at this; exact this
      | succ i =>
        have h2 := h (i + 1)
        rw [conv_s] at h2
        exact (Int.dvd_add_left (conv_lo hg c i (by omega))).mp h2
    obtain ⟨a1, ha1⟩ := hp.pm h1 h0
    obtain ⟨d, hd⟩ := conv_pm hp h0 hg c (fun i => by
      have h2 := h (i + 1)
      rw [conv_s] at h2
      exact (Int.dvd_add_right (dv_l (g (i + 1)) ⟨a1, ha1⟩)).mp h2)
    exact ⟨a1 :: d, by rw [ha1, hd]; rfl⟩
theorem gauss {g : Nat → Int} (pr : Pr g) : ∀ (K : Nat) (n : Int) (c : List Int) (X : Nat → Int), n.natAbs ≤ K → n ≠ 0 → (∀ i, n * X i = conv c g i) → ∃ h : List Int, ∀ i, X i = conv h g i
  | 0, n, c, X, h1, h2, _ => by
    exfalso
    have := Int.natAbs_pos.mpr h2
    omega
  | K + 1, n, c, X, h1, h2, h => by
    by_cases hN : 2 ≤ n.natAbs
    · obtain ⟨p, hp, hpd⟩ := irr_ex _ _ (Nat.le_refl _) hN
      have hpn : (p : Int) ∣ n := Int.ofNat_dvd_left.mpr hpd
      obtain ⟨m, hm⟩ := hpn
      have hp0 : (p : Int) ≠ 0 := by have := hp.1; omega
      have hex : ∃ i, ¬ (p : Int) ∣ g i := by
        by_cases q : ∃ i, ¬ (p : Int) ∣ g i
        · exact q
        · exfalso
          have h3 := pr p (fun i => Classical.byContradiction fun z => q ⟨i, z⟩)
          have := hp.1
          omega
      obtain ⟨i, hi⟩ := hex
      obtain ⟨i0, h0, hlo⟩ := first_ex (P := fun i => ¬ (p : Int) ∣ g i) i i (Nat.le_refl i) hi
      obtain ⟨d, hd⟩ := conv_pm hp h0 (fun j hj => Classical.byContradiction fun z => hlo j hj z) c (fun i => by rw [← h i, hm, Int.mul_assoc]; exact Int.dvd_mul_right _ _)
      have hm0 : m ≠ 0 := fun q => h2 (by rw [hm, q, Int.mul_zero])
      have hlt : m.natAbs < n.natAbs := by
        have e : n.natAbs = p * m.natAbs := by rw [hm, Int.natAbs_mul, Int.natAbs_natCast]
        have := Int.natAbs_pos.mpr hm0
        have := hp.1
        rw [e]
        exact Nat.lt_of_lt_of_le (by omega : m.natAbs < 2 * m.natAbs) (Nat.mul_le_mul_right _ hp.1)
      refine gauss pr K m d X (by omega) hm0 (fun i => ?_)
      have h3 := h i
      rw [hd, conv_mul, hm, Int.mul_assoc] at h3
      exact Int.eq_of_mul_eq_mul_left hp0 h3
    · have h3 : n.natAbs = 1 := by have := Int.natAbs_pos.mpr h2; omega
      rcases Int.natAbs_eq n with q | q
      · refine ⟨c, fun i => ?_⟩
        have h4 := h i
        rw [q, h3] at h4
        rw [← h4]
        show _ = 1 * X i
        omega
      · refine ⟨c.map (fun x => (-1) * x), fun i => ?_⟩
        have h4 := h i
        rw [q, h3] at h4
        rw [conv_mul, ← h4]
        show X i = -1 * (-1 * X i)
        omega
/-- a factor's first and last numbers divide numbers of the product -/
theorem conv_tp {g : Nat → Int} {d : Nat} (hg : top g d) : ∀ c : List Int, (∀ i, conv c g i = 0) ∨ ∃ i x, d ≤ i ∧ x ≠ 0 ∧ conv c g i = x * g d
  | [] => Or.inl fun _ => rfl
  | a :: c => by
    rcases conv_tp hg c with h | ⟨i, x, h1, h2, h3⟩
    · have h4 : ∀ i, conv (a :: c) g i = a * g i := fun i => by
        cases i with
        | zero => rw [conv_0]
        | succ i => rw [conv_s, h i, Int.add_zero]
      by_cases ha : a = 0
      · exact Or.inl fun i => by rw [h4 i, ha, Int.zero_mul]
      · exact Or.inr ⟨d, a, Nat.le_refl d, ha, h4 d⟩
    · exact Or.inr ⟨i + 1, x, by omega, h2, by rw [conv_s, hg.2 (i + 1) (by omega), Int.mul_zero, Int.zero_add, h3]⟩
theorem conv_lw {g : Nat → Int} {l : Nat} (hl : ∀ j, j < l → g j = 0) : ∀ c : List Int, (∀ i, conv c g i = 0) ∨ ∃ i x, x ≠ 0 ∧ conv c g i = x * g l
  | [] => Or.inl fun _ => rfl
  | a :: c => by
    by_cases ha : a = 0
    · subst ha
      rcases conv_lw hl c with h | ⟨i, x, h2, h3⟩
      · exact Or.inl fun i => by
          cases i with
          | zero => rw [conv_0, Int.zero_mul]
          | succ i => rw [conv_s, h i, Int.zero_mul, Int.add_zero]
      · exact Or.inr ⟨i + 1, x, h2, by rw [conv_s, Int.zero_mul, Int.zero_add, h3]⟩
    · refine Or.inr ⟨l, a, ha, ?_⟩
      cases l with
      | zero => rw [conv_0]
      | succ l =>
        have h4 : ∀ (c : List Int) (j : Nat), j ≤ l → conv c g j = 0 := fun c => by
          induction c with
          | nil => intro j _; rfl
          | cons b c ih =>
            intro j hj
            cases j with
            | zero => rw [conv_0, hl 0 (by omega), Int.mul_zero]
            | succ j => rw [conv_s, hl (j + 1) (by omega), Int.mul_zero, ih j (by omega)]; rfl
        rw [conv_s, h4 c l (Nat.le_refl l), Int.add_zero]
def bx (B : Nat) (p : Nat → Int) : Prop := ∀ i, (p i).natAbs ≤ B
theorem fac_le {x y : Int} {B : Nat} (h : (x * y).natAbs ≤ B) (hx : x ≠ 0) : y.natAbs ≤ B := by
  rw [Int.natAbs_mul] at h
  have h1 := Int.natAbs_pos.mpr hx
  exact Nat.le_trans (Nat.le_mul_of_pos_left _ h1) h
theorem top_le {X g : Nat → Int} {d : Nat} {c : List Int} {B : Nat} (hX : bx B X) (hg : top g d) (h : ∀ i, X i = conv c g i) (hn : ¬ ∀ i, X i = 0) : (g d).natAbs ≤ B := by
  rcases conv_tp hg c with q | ⟨i, x, -, q1, q2⟩
  · exact absurd (fun i => (h i).trans (q i)) hn
  · exact fac_le (by rw [← q2, ← h i]; exact hX i) q1
theorem low_le {X g : Nat → Int} {l : Nat} {c : List Int} {B : Nat} (hX : bx B X) (hl : ∀ j, j < l → g j = 0) (h : ∀ i, X i = conv c g i) (hn : ¬ ∀ i, X i = 0) : (g l).natAbs ≤ B := by
  rcases conv_lw hl c with q | ⟨i, x, q1, q2⟩
  · exact absurd (fun i => (h i).trans (q i)) hn
  · exact fac_le (by rw [← q2, ← h i]; exact hX i) q1
/-- the quotient's numbers, by the degrees -/
theorem conv_peel {g : Nat → Int} {d e : Nat} (hg : top g d) (hde : d ≤ e) {c : List Int} (h : ∀ j, e < j → conv c g j = 0) (hlt : d < e + 1) : d = e ∨ ∃ (a : Int) (c1 : List Int), (∀ i, conv c g i = a * g i + sh (conv c1 g) i) ∧ ∀ j, e - 1 < j → conv c1 g j = 0 := by
  by_cases q : d = e
  · exact Or.inl q
  · right
    cases c with
    | nil => exact ⟨0, [], fun i => by rw [Int.zero_mul]; cases i <;> rfl, fun j _ => rfl⟩
    | cons a c =>
      refine ⟨a, c, fun i => rfl, fun j hj => ?_⟩
      have h2 := h (j + 1) (by omega)
      rw [conv_s, hg.2 (j + 1) (by omega), Int.mul_zero, Int.zero_add] at h2
      exact h2
