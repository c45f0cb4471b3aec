/-! a degree, one more than it; 0 for the polynomial 0 -/
def dgp (A : Nat → Int) (a : Nat) : Prop := (∀ i, a ≤ i → A i = 0) ∧ (0 < a → A (a - 1) ≠ 0)
theorem dgp_uq {A : Nat → Int} {a b : Nat} (h1 : dgp A a) (h2 : dgp A b) : a = b := by
  rcases Nat.lt_trichotomy a b with h | h | h
  · exact absurd (h1.1 (b - 1) (by omega)) (h2.2 (by omega))
  · exact h
  · exact absurd (h2.1 (a - 1) (by omega)) (h1.2 (by omega))
theorem dgp_ex {A : Nat → Int} : ∀ N : Nat, (∀ i, N ≤ i → A i = 0) → ∃ a, a ≤ N ∧ dgp A a
  | 0, h => ⟨0, Nat.le_refl 0, h, fun q => absurd q (Nat.lt_irrefl 0)⟩
  | N + 1, h => by
    by_cases e : A N = 0
    · obtain ⟨a, h1, h2⟩ := dgp_ex (A := A) N (fun i hi => by
        by_cases q : i = N
        · rw [q]; exact e
        · exact h i (by omega))
      exact ⟨a, by omega, h2⟩
    · exact ⟨N + 1, Nat.le_refl _, h, fun _ => e⟩
theorem dgp_le {A : Nat → Int} {a N : Nat} (h : dgp A a) (hz : ∀ i, N ≤ i → A i = 0) : a ≤ N := Nat.le_of_not_lt fun q => h.2 (by omega) (hz (a - 1) (by omega))
theorem dgp_0 {A : Nat → Int} (h : dgp A 0) : ∀ i, A i = 0 := fun i => h.1 i (Nat.zero_le i)
theorem dgp_tp {A : Nat → Int} {a : Nat} (h : dgp A (a + 1)) : top A a := ⟨h.2 (Nat.succ_pos a), fun i hi => h.1 i hi⟩
theorem shN_b {B : Nat} {p : Nat → Int} (h : bx B p) : ∀ k, bx B (shN k p)
  | 0 => h
  | k + 1 => sh_b (shN_b h k)
/-! bounds alone: a pair whose every further number is below 2^63, a last constant below 2^64 -/
def nsafe : Nat → Nat → Nat → Nat → Nat → Bool
  | 0, _, _, _, _ => false
  | n + 1, a, α, b, β => decide (2 * α * β < 18446744073709551616) && (List.range a).all (fun a1 => decide (a1 = 0) || ((decide (a1 = 1) || decide (2 * α * β < 9223372036854775808)) && (if b ≤ a1 then nsafe n a1 (if a1 = 1 then 1 else 2 * α * β) b β else nsafe n b β a1 (if a1 = 1 then 1 else 2 * α * β))))
theorem nsafe_s {n a α b β : Nat} (h : nsafe (n + 1) a α b β = true) : 2 * α * β < 18446744073709551616 ∧ ∀ a1, a1 < a → a1 = 0 ∨ ((a1 = 1 ∨ 2 * α * β < 9223372036854775808) ∧ (if b ≤ a1 then nsafe n a1 (if a1 = 1 then 1 else 2 * α * β) b β else nsafe n b β a1 (if a1 = 1 then 1 else 2 * α * β)) = true) := by
  unfold nsafe at h
  rw [Bool.and_eq_true, decide_eq_true_eq, List.all_eq_true] at h
  refine ⟨h.1, fun a1 ha => ?_⟩
  have h1 := h.2 a1 (List.mem_range.mpr ha)
  rw [Bool.or_eq_true, decide_eq_true_eq, Bool.and_eq_true, Bool.or_eq_true, decide_eq_true_eq, decide_eq_true_eq] at h1
  exact h1
def NS (A B : Nat → Int) : Prop := ∃ n a α b β, dgp A a ∧ dgp B b ∧ 1 ≤ b ∧ b ≤ a ∧ bx α A ∧ bx β B ∧ nsafe n a α b β = true
def pro (A T : Nat → Int) : Prop := ∃ k : Int, k ≠ 0 ∧ ∀ i, k * A i = T i
def SPc (A B : Nat → Int) : Prop := ∃ f g : Nat → Int, bx 7 f ∧ bx 7 g ∧ (∀ i, 4 < i → f i = 0) ∧ (∀ i, 4 < i → g i = 0) ∧ g 4 ≠ 0 ∧ T1 f g 3 ≠ 0 ∧
  ((dgp A 5 ∧ dgp B 4 ∧ (∀ i, A i = g i) ∧ pro B (T1 f g)) ∨ (dgp A 4 ∧ dgp B 4 ∧ pro A (T1b f g) ∧ pro B (T1 f g)) ∨ (dgp A 4 ∧ dgp B 3 ∧ pro A (T1 f g) ∧ pro B (S2 f g)) ∨ (dgp A 3 ∧ dgp B 3 ∧ pro A (T2b f g) ∧ pro B (S2 f g)) ∨ (dgp A 3 ∧ dgp B 2 ∧ pro A (S2 f g) ∧ pro B (S1 f g)) ∨ (dgp A 2 ∧ dgp B 2 ∧ pro A (T3b f g) ∧ pro B (S1 f g)))
def SFo (A B : Nat → Int) : Prop := NS A B ∨ (dgp A 5 ∧ dgp B 5 ∧ bx 7 A ∧ bx 7 B) ∨ SPc A B
def SF (A B : Nat → Int) : Prop := (∀ i, A i = 0) ∨ (∀ i, B i = 0) ∨ SFo A B ∨ ∃ a b, dgp A a ∧ dgp B b ∧ a < b ∧ SFo B A
theorem pro_b {A T : Nat → Int} {B : Nat} (h : pro A T) (hT : bx B T) : bx B A := by
  obtain ⟨k, hk, h⟩ := h
  exact fun i => fac_le (by rw [h i]; exact hT i) hk
/-- a primitive polynomial, proportional to one, divides it -/
theorem pro_to {A T S : Nat → Int} (pr : Pr A) (h : pro A T) {p q : Int} (hp : p ≠ 0) (hq : q ≠ 0) (e : ∀ i, p * T i = q * S i) : pro A S := by
  obtain ⟨k, hk, h⟩ := h
  obtain ⟨k1, hk1⟩ := pr.dv (c := q) (n := p * k) hq (fun i => ⟨S i, by rw [Int.mul_assoc, h i]; exact e i⟩)
  refine ⟨k1, fun z => Int.mul_ne_zero hp hk (by rw [hk1, z, Int.mul_zero]), fun i => ?_⟩
  have h1 := e i
  rw [← h i, ← Int.mul_assoc, hk1, Int.mul_assoc] at h1
  exact Int.eq_of_mul_eq_mul_left hq h1
def NZ (R A1 : Nat → Int) : Prop := ((∀ i, R i = 0) ∧ ∀ i, A1 i = 0) ∨ (Pr A1 ∧ ∃ k : Int, k ≠ 0 ∧ ∀ i, R i = k * A1 i)
section ST
variable {A B R A1 : Nat → Int} {a b : Nat} {c sf ot : Int}
theorem low_top (da : dgp A a) (db : dgp B b) (h1 : 1 ≤ b) (h2 : b ≤ a) (hc : c ≠ 0) (e1 : c * sf = B (b - 1)) (e2 : c * ot = A (a - 1)) (hR : ∀ i, R i = sf * A i - ot * shN (a - b) B i) : ∀ i, a - 1 ≤ i → R i = 0 := fun i hi => by
  by_cases q : i = a - 1
  · have h3 : c * R i = 0 := by
      rw [hR i, shN_at, if_neg (by omega), Int.mul_sub, ← Int.mul_assoc, ← Int.mul_assoc, e1, e2, q, show a - 1 - (a - b) = b - 1 by omega, Int.mul_comm]
      exact Int.sub_self _
    exact (Int.mul_eq_zero.mp h3).resolve_left hc
  · rw [hR i, da.1 i (by omega), shN_at, if_neg (by omega), db.1 (i - (a - b)) (by omega), Int.mul_zero, Int.mul_zero]
    rfl
/-- the step, times the factors, is the step of the two that they are proportional to -/
theorem low_pro {TA TB : Nat → Int} (hc : c ≠ 0) (e1 : c * sf = B (b - 1)) (e2 : c * ot = A (a - 1)) (hR : ∀ i, R i = sf * A i - ot * shN (a - b) B i) (hA : pro A TA) (hB : pro B TB) : pro R (fun i => TB (b - 1) * TA i - TA (a - 1) * shN (a - b) TB i) := by
  obtain ⟨k, hk, hA⟩ := hA
  obtain ⟨m, hm, hB⟩ := hB
  refine ⟨c * (k * m), Int.mul_ne_zero hc (Int.mul_ne_zero hk hm), fun i => ?_⟩
  have hs : shN (a - b) TB i = m * shN (a - b) B i := by
    rw [shN_at, shN_at]
    by_cases q : i < a - b
    · rw [if_pos q, if_pos q, Int.mul_zero]
    · rw [if_neg q, if_neg q, hB]
  show c * (k * m) * R i = TB (b - 1) * TA i - TA (a - 1) * shN (a - b) TB i
  rw [hs, ← hB (b - 1), ← hA i, ← hA (a - 1), ← e1, ← e2, hR i]
  generalize A i = x
  generalize shN (a - b) B i = y
  grind
theorem low_pro0 {TA TB : Nat → Int} {l : Nat} (hc : c ≠ 0) (e1 : c * sf = B l) (e2 : c * ot = A l) (hR : ∀ i, R i = sf * A i - ot * B i) (hA : pro A TA) (hB : pro B TB) : pro R (fun i => TB l * TA i - TA l * TB i) := low_pro (a := l + 1) (b := l + 1) hc e1 e2 (fun i => by rw [hR i, Nat.sub_self]; rfl) hA hB |> fun h => by
  rw [Nat.sub_self] at h
  exact h
theorem low_pro1 {TA TB : Nat → Int} {la lb : Nat} (hl : la = lb + 1) (hc : c ≠ 0) (e1 : c * sf = B lb) (e2 : c * ot = A la) (hR : ∀ i, R i = sf * A i - ot * sh B i) (hA : pro A TA) (hB : pro B TB) : pro R (fun i => TB lb * TA i - TA la * sh TB i) := by
  have h := low_pro (a := la + 1) (b := lb + 1) hc e1 e2 (R := R) (fun i => by rw [hR i, show la + 1 - (lb + 1) = 1 by omega]; rfl) hA hB
  rw [show la + 1 - (lb + 1) = 1 by omega] at h
  exact h
theorem NZ.pro {T : Nat → Int} (h : pro R T) (hk : ∃ k : Int, k ≠ 0 ∧ ∀ i, R i = k * A1 i) : pro A1 T := by
  obtain ⟨k, h0, hk⟩ := hk
  obtain ⟨m, hm, h⟩ := h
  exact ⟨m * k, Int.mul_ne_zero hm h0, fun i => by rw [Int.mul_assoc, ← hk i]; exact h i⟩
theorem const_b (pr : Pr A1) (d : dgp A1 1) : bx 1 A1 := gb0 pr (dgp_tp d)
end ST
theorem sf_S2 {A1 B f g : Nat → Int} {a1 : Nat} (hf : bx 7 f) (hg : bx 7 g) (sf : ∀ i, 4 < i → f i = 0) (sg : ∀ i, 4 < i → g i = 0) (g4 : g 4 ≠ 0) (t3 : T1 f g 3 ≠ 0) (dB : dgp B 4) (hB : pro B (T1 f g)) (d1 : dgp A1 a1) (h1 : a1 ≤ 3) (hA : pro A1 (S2 f g)) : SF A1 B := by
  by_cases q0 : a1 = 0
  · subst q0; exact Or.inl (dgp_0 d1)
  · refine Or.inr (Or.inr (Or.inr ⟨a1, 4, d1, dB, by omega, ?_⟩))
    by_cases q3 : a1 = 3
    · subst q3
      exact Or.inr (Or.inr ⟨f, g, hf, hg, sf, sg, g4, t3, Or.inr (Or.inr (Or.inl ⟨dB, d1, hB, hA⟩))⟩)
    · refine Or.inl ⟨12, 4, 98, a1, 28812, dB, d1, by omega, by omega, pro_b hB (T1_b hf hg), pro_b hA (S2_b hf hg), ?_⟩
      rcases (show a1 = 1 ∨ a1 = 2 by omega) with rfl | rfl <;> decide +kernel
theorem sf_S1 {A1 B f g : Nat → Int} {a1 : Nat} (hf : bx 7 f) (hg : bx 7 g) (sf : ∀ i, 4 < i → f i = 0) (sg : ∀ i, 4 < i → g i = 0) (g4 : g 4 ≠ 0) (t3 : T1 f g 3 ≠ 0) (dB : dgp B 3) (hB : pro B (S2 f g)) (d1 : dgp A1 a1) (h1 : a1 ≤ 2) (pr : Pr A1) (hA : pro A1 (S1 f g)) : SF A1 B := by
  by_cases q0 : a1 = 0
  · subst q0; exact Or.inl (dgp_0 d1)
  · refine Or.inr (Or.inr (Or.inr ⟨a1, 3, d1, dB, by omega, ?_⟩))
    by_cases q3 : a1 = 2
    · subst q3
      exact Or.inr (Or.inr ⟨f, g, hf, hg, sf, sg, g4, t3, Or.inr (Or.inr (Or.inr (Or.inr (Or.inl ⟨dB, d1, hB, hA⟩))))⟩)
    · have e : a1 = 1 := by omega
      subst e
      exact Or.inl ⟨12, 3, 28812, 1, 1, dB, d1, by omega, by omega, pro_b hB (S2_b hf hg), const_b pr d1, by decide +kernel⟩
theorem sf_c {A1 B f g : Nat → Int} {a1 : Nat} (hf : bx 7 f) (hg : bx 7 g) (dB : dgp B 2) (hB : pro B (S1 f g)) (d1 : dgp A1 a1) (h1 : a1 ≤ 1) (pr : Pr A1) : SF A1 B := by
  by_cases q0 : a1 = 0
  · subst q0; exact Or.inl (dgp_0 d1)
  · have e : a1 = 1 := by omega
    subst e
    exact Or.inr (Or.inr (Or.inr ⟨1, 2, d1, dB, by omega, Or.inl ⟨12, 2, 15059072, 1, 1, dB, d1, by omega, by omega, pro_b hB (S1_b hf hg), const_b pr d1, by decide +kernel⟩⟩))
/-- what a step's numbers are below, and that the next pair is safe again -/
def STP (B R : Nat → Int) : Prop := (∀ i, (R i).natAbs < 18446744073709551616) ∧ ((∃ i, 1 ≤ i ∧ R i ≠ 0) → ∀ i, (R i).natAbs < 9223372036854775808) ∧ ∀ A1, NZ R A1 → SF A1 B
theorem stp_of {B R T : Nat → Int} {K : Nat} (hT : pro R T) (hb : bx K T) (hK : K < 9223372036854775808) (h : ∀ A1, Pr A1 → pro A1 T → (∃ k : Int, k ≠ 0 ∧ ∀ i, R i = k * A1 i) → SF A1 B) : STP B R := by
  have hb2 := pro_b hT hb
  refine ⟨fun i => Nat.lt_of_le_of_lt (hb2 i) (by omega), fun _ i => Nat.lt_of_le_of_lt (hb2 i) hK, fun A1 hA => ?_⟩
  rcases hA with ⟨-, z⟩ | ⟨pr, hk⟩
  · exact Or.inl z
  · exact h A1 pr (NZ.pro hT hk) hk
theorem nz_hi {R A1 : Nat → Int} {N : Nat} (hz : ∀ i, N ≤ i → R i = 0) (hk : ∃ k : Int, k ≠ 0 ∧ ∀ i, R i = k * A1 i) : ∀ i, N ≤ i → A1 i = 0 := fun i hi => by
  obtain ⟨k, h0, hk⟩ := hk
  have := hk i
  rw [hz i hi] at this
  exact (Int.mul_eq_zero.mp this.symm).resolve_left h0
theorem pro_0 {A T : Nat → Int} (h : pro A T) {i : Nat} (hz : A i = 0) : T i = 0 := by
  obtain ⟨k, -, h⟩ := h
  rw [← h i, hz, Int.mul_zero]
theorem step_ns {A B R : Nat → Int} {a b : Nat} {c sf ot : Int} (h : NS A B) (da : dgp A a) (db : dgp B b) (hc : c ≠ 0) (e1 : c * sf = B (b - 1)) (e2 : c * ot = A (a - 1)) (hR : ∀ i, R i = sf * A i - ot * shN (a - b) B i) : STP B R := by
  obtain ⟨n, a0, α, b0, β, da0, db0, h1, h2, bA, bB, hs⟩ := h
  have ea := dgp_uq da0 da
  have eb := dgp_uq db0 db
  subst ea; subst eb
  cases n with
  | zero => cases hs
  | succ n =>
    obtain ⟨v1, v2⟩ := nsafe_s hs
    have hsf : sf.natAbs ≤ β := fac_le (x := c) (by rw [e1]; exact bB _) hc
    have hot : ot.natAbs ≤ α := fac_le (x := c) (by rw [e2]; exact bA _) hc
    have hb : ∀ i, (R i).natAbs ≤ 2 * α * β := fun i => by
      have c1 := nb_mul hsf (bA i)
      have c2 := nb_mul hot (shN_b bB (a0 - b0) i)
      rw [Nat.mul_comm β α] at c1
      rw [hR i, Nat.mul_assoc]
      omega
    have hz := low_top da db h1 h2 hc e1 e2 hR
    refine ⟨fun i => Nat.lt_of_le_of_lt (hb i) v1, fun hn i => ?_, fun A1 hA => ?_⟩
    · obtain ⟨j, hj, hj0⟩ := hn
      obtain ⟨a1, ha1, d1⟩ := dgp_ex (a0 - 1) hz
      have hja : j < a1 := Nat.lt_of_not_le fun q => hj0 (d1.1 j q)
      rcases v2 a1 (by omega) with q | ⟨q, -⟩
      · omega
      · rcases q with q | q
        · omega
        · exact Nat.lt_of_le_of_lt (hb i) q
    · rcases hA with ⟨-, z⟩ | ⟨pr, hk⟩
      · exact Or.inl z
      · obtain ⟨a1, ha1, d1⟩ := dgp_ex (a0 - 1) (nz_hi hz hk)
        by_cases q0 : a1 = 0
        · subst q0; exact Or.inl (dgp_0 d1)
        · have hb1 : bx (if a1 = 1 then 1 else 2 * α * β) A1 := by
            by_cases q1 : a1 = 1
            · rw [if_pos q1]
              subst q1
              exact const_b pr d1
            · rw [if_neg q1]
              obtain ⟨k, hk0, hk⟩ := hk
              exact fun i => fac_le (x := k) (by rw [← hk i]; exact hb i) hk0
          obtain ⟨-, hn⟩ := (v2 a1 (by omega)).resolve_left q0
          by_cases hle : b0 ≤ a1
          · rw [if_pos hle] at hn
            exact Or.inr (Or.inr (Or.inl (Or.inl ⟨n, a1, _, b0, β, d1, db, h1, hle, hb1, bB, hn⟩)))
          · rw [if_neg hle] at hn
            exact Or.inr (Or.inr (Or.inr ⟨a1, b0, d1, db, by omega, Or.inl ⟨n, b0, β, a1, _, db, d1, by omega, by omega, bB, hb1, hn⟩⟩))
set_option maxHeartbeats 4000000 in
theorem step {A B R : Nat → Int} {a b : Nat} {c sf ot : Int} (h : SFo A B) (da : dgp A a) (db : dgp B b) (hc : c ≠ 0) (e1 : c * sf = B (b - 1)) (e2 : c * ot = A (a - 1)) (hR : ∀ i, R i = sf * A i - ot * shN (a - b) B i) : STP B R := by
  rcases h with h | ⟨d5, d5', bA, bB⟩ | ⟨f, g, hf, hg, zf, zg, g4, t3, h⟩
  · exact step_ns h da db hc e1 e2 hR
  · -- f and g themselves
    have ea := dgp_uq d5 da
    have eb := dgp_uq d5' db
    subst ea; subst eb
    have hp : pro R (T1 A B) := low_pro0 (l := 4) hc e1 e2 hR ⟨1, by decide, fun i => Int.one_mul (A i)⟩ ⟨1, by decide, fun i => Int.one_mul (B i)⟩
    have zf : ∀ i, 4 < i → A i = 0 := fun i hi => d5.1 i hi
    have zg : ∀ i, 4 < i → B i = 0 := fun i hi => d5'.1 i hi
    refine stp_of hp (T1_b bA bB) (by decide) (fun A1 pr hA hk => ?_)
    obtain ⟨a1, ha1, d1⟩ := dgp_ex 4 (nz_hi (low_top d5 d5' (by omega) (by omega) hc e1 e2 hR) hk)
    by_cases q0 : a1 = 0
    · subst q0; exact Or.inl (dgp_0 d1)
    · refine Or.inr (Or.inr (Or.inr ⟨a1, 5, d1, d5', by omega, ?_⟩))
      by_cases q4 : a1 = 4
      · subst q4
        have t3 : T1 A B 3 ≠ 0 := by
          obtain ⟨k, hk0, hk1⟩ := hA
          rw [← hk1 3]
          exact Int.mul_ne_zero hk0 (d1.2 (by omega))
        exact Or.inr (Or.inr ⟨A, B, bA, bB, zf, zg, d5'.2 (by omega), t3, Or.inl ⟨d5', d1, fun _ => rfl, hA⟩⟩)
      · refine Or.inl ⟨12, 5, 7, a1, 98, d5', d1, by omega, by omega, bB, pro_b hA (T1_b bA bB), ?_⟩
        rcases (show a1 = 1 ∨ a1 = 2 ∨ a1 = 3 by omega) with rfl | rfl | rfl <;> decide +kernel
  · have hng : -(g 4) ≠ 0 := by omega
    have hnp : -(T1 f g 3 * T1 f g 3) ≠ 0 := by
      have := Int.mul_ne_zero t3 t3
      omega
    rcases h with ⟨dA, dB, hA, hB⟩ | ⟨dA, dB, hA, hB⟩ | ⟨dA, dB, hA, hB⟩ | ⟨dA, dB, hA, hB⟩ | ⟨dA, dB, hA, hB⟩ | ⟨dA, dB, hA, hB⟩
    · have ea := dgp_uq dA da
      have eb := dgp_uq dB db
      subst ea; subst eb
      have hp : pro R (T1b f g) := low_pro1 (la := 4) (lb := 3) rfl hc e1 e2 hR (TA := g) ⟨1, by decide, fun i => by rw [hA i]; exact Int.one_mul _⟩ hB
      refine stp_of hp (T1b_b hf hg) (by decide) (fun A1 pr h1 hk => ?_)
      obtain ⟨a1, ha1, d1⟩ := dgp_ex 4 (nz_hi (low_top dA dB (by omega) (by omega) hc e1 e2 hR) hk)
      by_cases q4 : a1 = 4
      · subst q4
        exact Or.inr (Or.inr (Or.inl (Or.inr (Or.inr ⟨f, g, hf, hg, zf, zg, g4, t3, Or.inr (Or.inl ⟨d1, dB, h1, hB⟩)⟩))))
      · have z3 := pro_0 h1 (d1.1 3 (by omega))
        refine sf_S2 hf hg zf zg g4 t3 dB hB d1 (by omega) (pro_to pr h1 t3 hng (fun i => ?_))
        have := E4 zf zg i
        rw [z3, Int.zero_mul, Int.sub_zero] at this
        exact this
    · have ea := dgp_uq dA da
      have eb := dgp_uq dB db
      subst ea; subst eb
      have hp : pro R (fun i => T1 f g 3 * T1b f g i - T1b f g 3 * T1 f g i) := low_pro0 (l := 3) hc e1 e2 hR hA hB
      have hp : pro R (fun i => -(g 4) * S2 f g i) := by
        obtain ⟨k, hk0, hk⟩ := hp
        exact ⟨k, hk0, fun i => (hk i).trans (E4 zf zg i)⟩
      refine stp_of (K := 201684) hp (fun i => ?_) (by decide) (fun A1 pr h1 hk => ?_)
      · exact nb_mul (A := 7) (B := 28812) (by rw [Int.natAbs_neg]; exact hg 4) (S2_b hf hg i)
      · obtain ⟨a1, ha1, d1⟩ := dgp_ex 3 (nz_hi (low_top dA dB (by omega) (by omega) hc e1 e2 hR) hk)
        exact sf_S2 hf hg zf zg g4 t3 dB hB d1 (by omega) (pro_to pr h1 (p := 1) (by decide) hng (fun i => Int.one_mul _))
    · have ea := dgp_uq dA da
      have eb := dgp_uq dB db
      subst ea; subst eb
      have hp : pro R (T2b f g) := low_pro1 (la := 3) (lb := 2) rfl hc e1 e2 hR hA hB
      have s2 : S2 f g 2 ≠ 0 := by
        obtain ⟨k, hk0, hk1⟩ := hB
        rw [← hk1 2]
        exact Int.mul_ne_zero hk0 (dB.2 (by omega))
      refine stp_of hp (T2b_b hf hg) (by decide) (fun A1 pr h1 hk => ?_)
      obtain ⟨a1, ha1, d1⟩ := dgp_ex 3 (nz_hi (low_top dA dB (by omega) (by omega) hc e1 e2 hR) hk)
      by_cases q4 : a1 = 3
      · subst q4
        exact Or.inr (Or.inr (Or.inl (Or.inr (Or.inr ⟨f, g, hf, hg, zf, zg, g4, t3, Or.inr (Or.inr (Or.inr (Or.inl ⟨d1, dB, h1, hB⟩)))⟩))))
      · have z3 := pro_0 h1 (d1.1 2 (by omega))
        refine sf_S1 hf hg zf zg g4 t3 dB hB d1 (by omega) pr (pro_to pr h1 s2 hnp (fun i => ?_))
        have := E5 zf zg i
        rw [z3, Int.zero_mul, Int.sub_zero] at this
        exact this
    · have ea := dgp_uq dA da
      have eb := dgp_uq dB db
      subst ea; subst eb
      have hp : pro R (fun i => S2 f g 2 * T2b f g i - T2b f g 2 * S2 f g i) := low_pro0 (l := 2) hc e1 e2 hR hA hB
      have hp : pro R (fun i => -(T1 f g 3 * T1 f g 3) * S1 f g i) := by
        obtain ⟨k, hk0, hk⟩ := hp
        exact ⟨k, hk0, fun i => (hk i).trans (E5 zf zg i)⟩
      refine stp_of (K := 144627327488) hp (fun i => ?_) (by decide) (fun A1 pr h1 hk => ?_)
      · exact nb_mul (A := 9604) (B := 15059072) (by rw [Int.natAbs_neg]; exact nb_mul (A := 98) (B := 98) (T1_b hf hg 3) (T1_b hf hg 3)) (S1_b hf hg i)
      · obtain ⟨a1, ha1, d1⟩ := dgp_ex 2 (nz_hi (low_top dA dB (by omega) (by omega) hc e1 e2 hR) hk)
        exact sf_S1 hf hg zf zg g4 t3 dB hB d1 (by omega) pr (pro_to pr h1 (p := 1) (by decide) hnp (fun i => Int.one_mul _))
    · have ea := dgp_uq dA da
      have eb := dgp_uq dB db
      subst ea; subst eb
      have hp : pro R (T3b f g) := low_pro1 (la := 2) (lb := 1) rfl hc e1 e2 hR hA hB
      refine stp_of hp (T3b_b hf hg) (by decide) (fun A1 pr h1 hk => ?_)
      obtain ⟨a1, ha1, d1⟩ := dgp_ex 2 (nz_hi (low_top dA dB (by omega) (by omega) hc e1 e2 hR) hk)
      by_cases q4 : a1 = 2
      · subst q4
        exact Or.inr (Or.inr (Or.inl (Or.inr (Or.inr ⟨f, g, hf, hg, zf, zg, g4, t3, Or.inr (Or.inr (Or.inr (Or.inr (Or.inr ⟨d1, dB, h1, hB⟩))))⟩))))
      · exact sf_c hf hg dB hB d1 (by omega) pr
    · have ea := dgp_uq dA da
      have eb := dgp_uq dB db
      subst ea; subst eb
      have hp : pro R (fun i => S1 f g 1 * T3b f g i - T3b f g 1 * S1 f g i) := low_pro0 (l := 1) hc e1 e2 hR hA hB
      have hz := low_top dA dB (by omega) (by omega) hc e1 e2 hR
      have hb0 : (R 0).natAbs < 18446744073709551616 := by
        obtain ⟨k, hk0, hk⟩ := hp
        have h1 : (k * R 0).natAbs ≤ (S1 f g 1 * T3b f g 0 - T3b f g 1 * S1 f g 0).natAbs := by rw [hk 0]; exact Nat.le_refl _
        exact Nat.lt_of_le_of_lt (fac_le h1 hk0) (T4_b hf hg)
      refine ⟨fun i => ?_, fun hn => ?_, fun A1 hA1 => ?_⟩
      · cases i with
        | zero => exact hb0
        | succ i => rw [hz (i + 1) (by omega)]; decide
      · obtain ⟨j, hj, hj0⟩ := hn
        exact absurd (hz j (by omega)) hj0
      · rcases hA1 with ⟨-, z⟩ | ⟨pr, hk⟩
        · exact Or.inl z
        · obtain ⟨a1, ha1, d1⟩ := dgp_ex 1 (nz_hi hz hk)
          exact sf_c hf hg dB hB d1 (by omega) pr
/-- where the two begin -/
theorem SF.init {A B : Nat → Int} {a : Nat} (zA : ∀ i, 4 < i → A i = 0) (zB : ∀ i, 4 < i → B i = 0) (da : dgp A a) (hA : bx (if a = 3 then 105 else 7) A) (hB : bx 7 B) : SF A B := by
  have ha : a ≤ 5 := dgp_le da (fun i hi => zA i hi)
  obtain ⟨b, hb, db⟩ := dgp_ex 5 (A := B) (fun i hi => zB i hi)
  by_cases a0 : a = 0
  · subst a0; exact Or.inl (dgp_0 da)
  · by_cases b0 : b = 0
    · subst b0; exact Or.inr (Or.inl (dgp_0 db))
    · by_cases h55 : a = 5 ∧ b = 5
      · obtain ⟨rfl, rfl⟩ := h55
        exact Or.inr (Or.inr (Or.inl (Or.inr (Or.inl ⟨da, db, hA, hB⟩))))
      · by_cases hle : b ≤ a
        · refine Or.inr (Or.inr (Or.inl (Or.inl ⟨14, a, _, b, 7, da, db, by omega, hle, hA, hB, ?_⟩)))
          rcases (show a = 1 ∨ a = 2 ∨ a = 3 ∨ a = 4 ∨ a = 5 by omega) with rfl | rfl | rfl | rfl | rfl <;> rcases (show b = 1 ∨ b = 2 ∨ b = 3 ∨ b = 4 ∨ b = 5 by omega) with rfl | rfl | rfl | rfl | rfl <;> first | omega | exact absurd ⟨rfl, rfl⟩ h55 | decide +kernel
        · refine Or.inr (Or.inr (Or.inr ⟨a, b, da, db, by omega, Or.inl ⟨14, b, 7, a, _, db, da, by omega, by omega, hB, hA, ?_⟩⟩))
          rcases (show a = 1 ∨ a = 2 ∨ a = 3 ∨ a = 4 ∨ a = 5 by omega) with rfl | rfl | rfl | rfl | rfl <;> rcases (show b = 1 ∨ b = 2 ∨ b = 3 ∨ b = 4 ∨ b = 5 by omega) with rfl | rfl | rfl | rfl | rfl <;> first | omega | decide +kernel
