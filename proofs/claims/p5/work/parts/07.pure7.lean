/-! numbers under the reference's small methods -/
def lab (a : Int64) : Int64 := if a < 0 then -a else a
theorem lab_pos {a : Int64} (h : (0 : Int64) ≤ a) : a = lab a := by
  unfold lab
  rw [if_neg]
  intro q
  rw [Int64.lt_iff_toInt_lt] at q
  rw [Int64.le_iff_toInt_le] at h
  omega
theorem lab_neg {a : Int64} (h : ¬ (0 : Int64) ≤ a) : -a = lab a := by
  unfold lab
  rw [if_pos]
  rw [Int64.le_iff_toInt_le] at h
  rw [Int64.lt_iff_toInt_lt]
  omega
theorem l0 : (0 : Int64).toInt = 0 := rfl
theorem lab_0 {a : Int64} (h : lab a = 0) : a = 0 := by
  unfold lab at h
  by_cases q : a < 0
  · rw [if_pos q] at h
    rw [← Int64.neg_neg (a := a), h]
    rfl
  · rw [if_neg q] at h
    exact h
theorem lab_toInt {a : Int64} (h : a.toInt ≠ -9223372036854775808) : (lab a).toInt = a.toInt.natAbs := by
  have h1 := Int64.le_toInt a
  have h2 := Int64.toInt_lt a
  unfold lab
  by_cases q : a < 0
  · rw [if_pos q]
    rw [Int64.lt_iff_toInt_lt, l0] at q
    rw [Int64.toInt_neg, Int.bmod_eq_of_le (by omega) (by omega)]
    omega
  · rw [if_neg q]
    rw [Int64.lt_iff_toInt_lt, l0] at q
    omega
theorem l_rem (x y : Int64) : (x - (x / y) * y).toInt = x.toInt.tmod y.toInt := by
  have a := (x % y).toInt_lt
  have b := (x % y).le_toInt
  rw [Int64.toInt_mod] at a b
  rw [Int64.toInt_sub, Int64.toInt_mul, Int64.toInt_div, Int.bmod_mul_bmod, Int.sub_bmod_bmod, Int.mul_comm, ← Int.tmod_def]
  exact Int.bmod_eq_of_le (by omega) (by omega)
/-- the greatest common divisor under way -/
def cgI (a b x y : Int64) : Prop := (x = 0 → y = 0 → a = 0 ∧ b = 0) ∧ (a.toInt ≠ -9223372036854775808 → b.toInt ≠ -9223372036854775808 → 0 ≤ x.toInt ∧ 0 ≤ y.toInt ∧ Int.gcd x.toInt y.toInt = Int.gcd a.toInt b.toInt)
def cgE (a b r : Int64) : Prop := (r = 0 → a = 0 ∧ b = 0) ∧ (a.toInt ≠ -9223372036854775808 → b.toInt ≠ -9223372036854775808 → r.toInt = Int.gcd a.toInt b.toInt)
theorem cgI_0 (a b : Int64) : cgI a b (lab a) (lab b) := by
  refine ⟨fun h1 h2 => ⟨lab_0 h1, lab_0 h2⟩, fun h1 h2 => ?_⟩
  rw [lab_toInt h1, lab_toInt h2]
  refine ⟨by omega, by omega, ?_⟩
  simp [Int.gcd]
theorem cgI_s {a b x y : Int64} (hy : ¬ y = 0) (h : cgI a b x y) : cgI a b y (x - x / y * y) := by
  refine ⟨fun h1 _ => absurd h1 hy, fun h1 h2 => ?_⟩
  obtain ⟨g1, g2, g3⟩ := h.2 h1 h2
  have hy0 : y.toInt ≠ 0 := fun q => hy (Int64.toInt_inj.mp q)
  rw [l_rem, Int.tmod_eq_emod_of_nonneg g1]
  refine ⟨g2, Int.emod_nonneg _ hy0, ?_⟩
  rw [← g3]
  obtain ⟨u, hu⟩ := Int.eq_ofNat_of_zero_le g1
  obtain ⟨v, hv⟩ := Int.eq_ofNat_of_zero_le g2
  rw [hu, hv]
  show Nat.gcd v (u % v) = Nat.gcd u v
  rw [Nat.gcd_comm v (u % v), ← Nat.gcd_rec v u, Nat.gcd_comm]
theorem cgI_e {a b x y : Int64} (hy : y = 0) (h : cgI a b x y) : cgE a b x := by
  refine ⟨fun q => h.1 q hy, fun h1 h2 => ?_⟩
  obtain ⟨g1, g2, g3⟩ := h.2 h1 h2
  rw [hy, l0] at g3
  rw [← g3]
  simp
  omega
theorem cg_dec {x y : Int64} (hy : ¬ y = 0) : (x - x / y * y).toInt.natAbs < y.toInt.natAbs := by
  have hy0 : y.toInt ≠ 0 := fun q => hy (Int64.toInt_inj.mp q)
  rw [l_rem, Int.natAbs_tmod]
  exact Nat.mod_lt _ (by omega)
def lpow (b : Int64) : Nat → Int64
  | 0 => 1
  | n + 1 => lpow b n * b
theorem lpow_s {b : Int64} {k : Int} (h : 0 ≤ k) : lpow b k.toNat * b = lpow b (k + 1).toNat := by
  have : (k + 1).toNat = k.toNat + 1 := by omega
  rw [this]
  rfl
def pc8 (n : Nat) : Nat := n % 2 + n / 2 % 2 + n / 4 % 2 + n / 8 % 2 + n / 16 % 2 + n / 32 % 2 + n / 64 % 2 + n / 128 % 2
theorem pc8_t : ∀ n : Fin 256, n.val ≠ 0 → zI (n.val : Int) &&& zI ((n.val : Int) - 1) = zI ((n.val &&& (n.val - 1) : Nat) : Int) ∧ (n.val &&& (n.val - 1)) < n.val ∧ pc8 (n.val &&& (n.val - 1)) + 1 = pc8 n.val := by decide +kernel
theorem pc8_s {a : Int} (h0 : 0 ≤ a) (h1 : a < 256) (hn : ¬ a = 0) : ∃ t : Int, zI a &&& zI (a - 1) = zI t ∧ 0 ≤ t ∧ t < a ∧ (pc8 t.toNat : Int) + 1 = pc8 a.toNat := by
  obtain ⟨n, rfl⟩ := Int.eq_ofNat_of_zero_le h0
  obtain ⟨e1, e2, e3⟩ := pc8_t ⟨n, by omega⟩ (by simpa using hn)
  refine ⟨((n &&& (n - 1) : Nat) : Int), e1, by omega, by exact_mod_cast e2, ?_⟩
  show ((pc8 (n &&& (n - 1)) : Nat) : Int) + 1 = (pc8 n : Nat)
  exact_mod_cast e3
theorem zL_toInt {z : Int} (h1 : -9223372036854775808 ≤ z) (h2 : z < 9223372036854775808) : (zL z).toInt = z := Int64.toInt_ofInt_of_le h1 h2
theorem zL_add (a b : Int) : zL a + zL b = zL (a + b) := (Int64.ofInt_add a b).symm
theorem zL_sub (a b : Int) : zL a - zL b = zL (a - b) := (Int64.ofInt_sub a b).symm
theorem zL_mul (a b : Int) : zL a * zL b = zL (a * b) := (Int64.ofInt_mul a b).symm
theorem zL_1 : (1 : Int64) = zL 1 := rfl
theorem zL_of (x : Int64) : x = zL x.toInt := (Int64.ofInt_toInt x).symm
/-- powers that don't pass v -/
def abI (b v p : Int64) (i : Int) : Prop := p.toInt = b.toInt ^ i.toNat ∧ 1 ≤ p.toInt ∧ (i = 0 ∨ p.toInt ≤ v.toInt)
theorem abI_0 (b v : Int64) : abI b v 1 0 := ⟨by show (1 : Int) = b.toInt ^ 0; rw [Int.pow_zero], by decide, Or.inl rfl⟩
theorem abI_s {b v p : Int64} {i : Int} (hb : 1 ≤ b.toInt) (hi : 0 ≤ i) (h : abI b v p i) (hc : p ≤ v / b) : abI b v (p * b) (i + 1) := by
  obtain ⟨h1, h2, -⟩ := h
  have hbm := Int64.toInt_lt b
  have hvm := Int64.toInt_lt v
  have hvl := Int64.le_toInt v
  rw [Int64.le_iff_toInt_le, Int64.toInt_div_of_ne_right v b (by intro q; rw [q] at hb; exact absurd hb (by decide))] at hc
  have hv : 0 ≤ v.toInt := by
    rcases Int.le_total 0 v.toInt with q | q
    · exact q
    · have e1 : v.toInt.tdiv b.toInt = -((-v.toInt).tdiv b.toInt) := by rw [Int.neg_tdiv, Int.neg_neg]
      have e2 : 0 ≤ (-v.toInt).tdiv b.toInt := Int.tdiv_nonneg (by omega) (by omega)
      omega
  rw [Int.tdiv_eq_ediv_of_nonneg hv] at hc
  have h3 : p.toInt * b.toInt ≤ v.toInt := (Int.le_ediv_iff_mul_le (by omega)).mp hc
  have h4 : 1 ≤ p.toInt * b.toInt := by
    have := Int.mul_le_mul h2 hb (by decide) (by omega)
    omega
  have h5 : (p * b).toInt = p.toInt * b.toInt := by
    rw [Int64.toInt_mul]
    exact Int.bmod_eq_of_le (by omega) (by omega)
  refine ⟨?_, by omega, Or.inr (by omega)⟩
  have : (i + 1).toNat = i.toNat + 1 := by omega
  rw [h5, h1, this, Int.pow_succ]
theorem pc8_e {t n a : Int} (e0 : t = 0) (hn : n + pc8 t.toNat = pc8 a.toNat) : n = pc8 a.toNat := by
  rw [e0] at hn
  have : (pc8 (0 : Int).toNat : Int) = 0 := rfl
  omega
theorem abI_e {b v p : Int64} {i k : Int} (h : abI b v p i) (e : i = k) (hc : p ≤ v) : b.toInt ^ k.toNat ≤ v.toInt := by
  rw [← e, ← h.1]
  exact Int64.le_iff_toInt_le.mp hc
theorem dg_ih {f : Nat → Int64} {z : Int} (h2 : ∀ k : Int, z < k → k ≤ 4 → f k.toNat = 0) (h : f z.toNat = 0) : ∀ k : Int, z + -1 < k → k ≤ 4 → f k.toNat = 0 := by
  intro k h3 h4
  by_cases e : k = z
  · rw [e]; exact h
  · exact h2 k (by omega) h4
theorem zL_le {a b : Int} (ha : -9223372036854775808 ≤ a ∧ a < 9223372036854775808) (hb : -9223372036854775808 ≤ b ∧ b < 9223372036854775808) : zL a ≤ zL b ↔ a ≤ b := by
  rw [Int64.le_iff_toInt_le, zL_toInt ha.1 ha.2, zL_toInt hb.1 hb.2]
theorem zL_nle {a b : Int} (ha : -9223372036854775808 ≤ a ∧ a < 9223372036854775808) (hb : -9223372036854775808 ≤ b ∧ b < 9223372036854775808) (h : ¬ zL b ≤ zL a) : a < b := by
  rw [zL_le hb ha] at h
  omega
theorem zL_mid {a b : Int} (h : 1 ≤ a ∧ a ≤ b ∧ b ≤ 2000000000) : (zL a + zL b + 1) / 2 = zL ((a + b + 1) / 2) := by
  rw [zL_1, zL_add, zL_add]
  apply Int64.toInt_inj.mp
  rw [Int64.toInt_div_of_ne_right _ _ (by decide), zL_toInt (by omega) (by omega), zL_toInt (by omega) (by omega)]
  exact Int.tdiv_eq_ediv_of_nonneg (by omega)
theorem lpow_one : ∀ n : Nat, lpow (zL 1) n = 1
  | 0 => rfl
  | n + 1 => by
    show lpow (zL 1) n * zL 1 = 1
    rw [lpow_one n]
    rfl
theorem rt_mid {a b k : Int} {v : Int64} (h : 1 ≤ a ∧ a ≤ b ∧ b ≤ 2000000000) (hq : (zL ((a + b + 1) / 2)).toInt ^ k.toNat ≤ v.toInt) : (a + b + 1) / 2 = 1 ∨ ((a + b + 1) / 2) ^ k.toNat ≤ v.toInt := by
  rw [zL_toInt (by omega) (by omega)] at hq
  exact Or.inr hq
theorem rt_end {a b k i : Int} {v q : Int64} (h : 1 ≤ a ∧ a ≤ b ∧ b ≤ 2000000000) (hv : a = 1 ∨ a ^ k.toNat ≤ v.toInt) (hq : q = lpow (zL a) i.toNat) (hqv : q = v) : zL a = 0 ∨ (1 ≤ (zL a).toInt ∧ (zL a).toInt ≤ 2000000000 ∧ (zL a).toInt ^ k.toNat ≤ v.toInt) := by
  rw [zL_toInt (by omega) (by omega)]
  refine Or.inr ⟨h.1, by omega, ?_⟩
  rcases hv with e | e
  · rw [e, lpow_one] at hq
    rw [e, Int.one_pow, ← hqv, hq]
    decide
  · exact e
theorem up_eq {α : Type} {f : Nat → α} {k : Nat} {v : α} : va_up f k v k = v := if_pos rfl
theorem up_ne {α : Type} {f : Nat → α} {k j : Nat} {v : α} (h : j ≠ k) : va_up f k v j = f j := if_neg h
theorem up_at {f : Nat → Int64} {k : Int} {x : Int64} (hk : 0 ≤ k) {j : Int} (hj : 0 ≤ j) : vp_updL f k.toNat x j.toNat = if j = k then x else f j.toNat := by
  by_cases e : j = k
  · rw [if_pos e, e]; exact if_pos rfl
  · rw [if_neg e]; exact if_neg (by omega)
theorem red_z {f g : Nat → Int64} {k : Int} {c : Int64} (hk : 0 ≤ k) (hz : ∀ j : Int, 0 ≤ j → j < 5 → f j.toNat = 0 → g j.toNat = 0) : ∀ j : Int, 0 ≤ j → j < 5 → f j.toNat = 0 → vp_updL g k.toNat (g k.toNat / c) j.toNat = 0 := by
  intro j h1 h2 h3
  rw [up_at hk h1]
  by_cases e : j = k
  · rw [if_pos e, ← e, hz j h1 h2 h3]; exact Int64.zero_div
  · rw [if_neg e]; exact hz j h1 h2 h3
theorem dg_uq {f : Nat → Int64} {z z' : Int} (h1 : -1 ≤ z ∧ z ≤ 4) (h2 : ∀ k : Int, z < k → k ≤ 4 → f k.toNat = 0) (h3 : 0 ≤ z → f z.toNat ≠ 0) (g1 : -1 ≤ z' ∧ z' ≤ 4) (g2 : ∀ k : Int, z' < k → k ≤ 4 → f k.toNat = 0) (g3 : 0 ≤ z' → f z'.toNat ≠ 0) : z = z' := by
  rcases Int.lt_trichotomy z z' with q | q | q
  · exact absurd (h2 z' q g1.2) (g3 (by omega))
  · exact q
  · exact absurd (g2 z q h1.2) (h3 (by omega))
theorem dv_mul {X X' Y : Nat → Int64} {k : Int} {b : Int64} (hk : 0 ≤ k) (e : X' = vp_updL X k.toNat (X k.toNat * b)) (hp : ∀ j : Int, 0 ≤ j → j ≤ 4 → X j.toNat = if j < k then Y j.toNat * b else Y j.toNat) : ∀ j : Int, 0 ≤ j → j ≤ 4 → X' j.toNat = if j < k + 1 then Y j.toNat * b else Y j.toNat := by
  intro j h1 h2
  rw [e, up_at hk h1]
  by_cases q : j = k
  · rw [if_pos q, if_pos (by omega), ← q, hp j h1 h2, if_neg (by omega)]
  · rw [if_neg q, hp j h1 h2]
    by_cases r : j < k
    · rw [if_pos r, if_pos (by omega)]
    · rw [if_neg r, if_neg (by omega)]
theorem dv_sub {X X' T : Nat → Int64} {k d e0 : Int} {a : Int64} (he : 0 ≤ e0) (hde : d ≤ e0) (hk : 0 ≤ k ∧ k ≤ d) (e : X' = vp_updL X (e0 - d + k).toNat (X (e0 - d + k).toNat - a * T k.toNat)) (h : (k ≤ d → X e0.toNat = a * T d.toNat) ∧ (d < k → X e0.toNat = 0)) : (k + 1 ≤ d → X' e0.toNat = a * T d.toNat) ∧ (d < k + 1 → X' e0.toNat = 0) := by
  rw [e, up_at (by omega) he]
  by_cases q : k = d
  · refine ⟨fun h1 => by omega, fun _ => ?_⟩
    rw [if_pos (by omega), show e0 - d + k = e0 by omega, h.1 (by omega), q]
    exact Int64.sub_self _
  · refine ⟨fun _ => ?_, fun h1 => by omega⟩
    rw [if_neg (by omega)]
    exact h.1 hk.2
theorem dv_sw {X Y X' Y' U W : Nat → Int64} {k : Int} (hk : 0 ≤ k) (eX : X' = vp_updL X k.toNat (Y k.toNat)) (eY : Y' = vp_updL Y k.toNat (X k.toNat)) (hk4 : k ≤ 4) (h0 : ∀ j : Int, k ≤ j → j ≤ 4 → X j.toNat = U j.toNat ∧ Y j.toNat = W j.toNat) (hs : ∀ j : Int, 0 ≤ j → j < k → X j.toNat = W j.toNat ∧ Y j.toNat = U j.toNat) :
    (∀ j : Int, k + 1 ≤ j → j ≤ 4 → X' j.toNat = U j.toNat ∧ Y' j.toNat = W j.toNat) ∧ (∀ j : Int, 0 ≤ j → j < k + 1 → X' j.toNat = W j.toNat ∧ Y' j.toNat = U j.toNat) := by
  constructor
  · intro j h1 h2
    rw [eX, eY, up_at hk (by omega), up_at hk (by omega), if_neg (by omega), if_neg (by omega)]
    exact h0 j (by omega) h2
  · intro j h1 h2
    rw [eX, eY, up_at hk h1, up_at hk h1]
    by_cases q : j = k
    · rw [if_pos q, if_pos q, ← q]
      have := h0 j (by omega) (by omega)
      exact ⟨this.2, this.1⟩
    · rw [if_neg q, if_neg q]
      exact hs j h1 (by omega)
theorem dg_le {f : Nat → Int64} {z t : Int} (h1 : -1 ≤ z ∧ z ≤ 4) (h3 : 0 ≤ z → f z.toNat ≠ 0) (hz : ∀ k : Int, t < k → k ≤ 4 → f k.toNat = 0) (h0 : 0 ≤ z) : z ≤ t := by
  rcases Int.lt_or_le t z with q | q
  · exact absurd (hz z q h1.2) (h3 h0)
  · exact q
theorem dv_top {X : Nat → Int64} {e0 j : Int} (h : X e0.toNat = 0) (hz : ∀ j : Int, e0 < j → j ≤ 4 → X j.toNat = 0) (h1 : e0 ≤ j) (h2 : j ≤ 4) : X j.toNat = 0 := by
  by_cases e : j = e0
  · rw [e]; exact h
  · exact hz j (by omega) h2
