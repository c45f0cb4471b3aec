/-! the reference's roots: what its methods need to go through -/
def d2x (f : Nat → Int64) (z : Int) : Prop := 0 ≤ z → ∃ a b : Int, 0 ≤ a ∧ a < 7 ∧ 0 ≤ b ∧ b < 7 ∧ a + b = z ∧ f (7 * a + b).toNat ≠ 0
theorem d2_s {f : Nat → Int64} {i j d : Int} (hi : 0 ≤ i ∧ i < 7) (hj : 0 ≤ j ∧ j < 7) (h : d2x f d) (hne : ¬ f (7 * i + j).toNat = 0) : d2x f (i + j) := fun _ => ⟨i, j, hi.1, hi.2, hj.1, hj.2, rfl, hne⟩
/-- from here on no place of degree d holds anything -/
theorem fo_s {f : Nat → Int64} {i d : Int} (h : ∀ a : Int, i < a → a < 7 → 0 ≤ d - a → d - a < 7 → f (7 * a + (d - a)).toNat = 0) (hz : d - i < 7 → 0 ≤ d - i → f (7 * i + (d - i)).toNat = 0) : ∀ a : Int, i + -1 < a → a < 7 → 0 ≤ d - a → d - a < 7 → f (7 * a + (d - a)).toNat = 0 := by
  intro a h1 h2 h3 h4
  by_cases e : a = i
  · subst e; exact hz h4 h3
  · exact h a (by omega) h2 h3 h4
theorem fo_e {f : Nat → Int64} {d i : Int} (hi : i < 0) (h : ∀ a : Int, i < a → a < 7 → 0 ≤ d - a → d - a < 7 → f (7 * a + (d - a)).toNat = 0) (hd : d2x f d) : d < 0 := by
  rcases Int.lt_or_le d 0 with q | q
  · exact q
  · obtain ⟨a, b, h1, h2, h3, h4, h5, h6⟩ := hd q
    have e : b = d - a := by omega
    rw [e] at h6
    exact absurd (h a (by omega) h2 (by omega) (by omega)) h6
theorem ip_div {a k : Int} (ha : 0 ≤ a ∧ a ≤ 6) (hk : 2 ≤ k ∧ k ≤ 12) : 0 ≤ a / k ∧ a / k ≤ 3 ∧ 0 ≤ (k - 1) * (a / k) ∧ (k - 1) * (a / k) + a / k ≤ a := by
  have h1 : 0 ≤ a / k := Int.ediv_nonneg ha.1 (by omega)
  have h2 : a / k * k ≤ a := Int.ediv_mul_le a (by omega)
  have h3 : (k - 1) * (a / k) + a / k = a / k * k := by rw [Int.sub_mul, Int.one_mul, Int.mul_comm k]; omega
  have h4 : 0 ≤ (k - 1) * (a / k) := Int.mul_nonneg (by omega) h1
  have h5 : a / k * 2 ≤ a / k * k := Int.mul_le_mul_of_nonneg_left hk.1 h1
  exact ⟨h1, by omega, h4, by omega⟩
theorem ip_un {L : Int64} {k : Int} (hk : 2 ≤ k ∧ k ≤ 12) {v : Int64} (h1 : 1 ≤ L.toInt) (h2 : L.toInt ≤ 2000000000) (h3 : L.toInt ^ k.toNat ≤ v.toInt) : ¬ zL (k * L.toInt ^ (k - 1).toNat) = 0 := by
  have hv := Int64.toInt_lt v
  have hp : 1 ≤ L.toInt ^ (k - 1).toNat := Int.pow_pos (by omega)
  have hs : L.toInt ^ k.toNat = L.toInt ^ (k - 1).toNat * L.toInt := by
    rw [show k.toNat = (k - 1).toNat + 1 by omega, Int.pow_succ]
  have hlt : k * L.toInt ^ (k - 1).toNat < 9223372036854775808 := by
    rcases Int.lt_or_le L.toInt 12 with q | q
    · have hb : L.toInt ^ (k - 1).toNat ≤ 11 ^ 11 := by
        obtain ⟨n, hn⟩ := Int.eq_ofNat_of_zero_le (show 0 ≤ L.toInt by omega)
        have hn11 : n ≤ 11 := by omega
        rw [hn]
        have e1 : n ^ (k - 1).toNat ≤ 11 ^ (k - 1).toNat := Nat.pow_le_pow_left hn11 _
        have e2 : 11 ^ (k - 1).toNat ≤ 11 ^ 11 := Nat.pow_le_pow_right (by decide) (by omega)
        exact_mod_cast Nat.le_trans e1 e2
      have hb2 : k * L.toInt ^ (k - 1).toNat ≤ 12 * 11 ^ 11 := Int.mul_le_mul hk.2 hb (by omega) (by omega)
      have : (12 * 11 ^ 11 : Int) < 9223372036854775808 := by decide
      omega
    · have hb2 : k * L.toInt ^ (k - 1).toNat ≤ L.toInt * L.toInt ^ (k - 1).toNat := Int.mul_le_mul_of_nonneg_right (by omega) (by omega)
      rw [Int.mul_comm L.toInt, ← hs] at hb2
      omega
  have hge : 1 ≤ k * L.toInt ^ (k - 1).toNat := by
    have : 1 * 1 ≤ k * L.toInt ^ (k - 1).toNat := Int.mul_le_mul (by omega) hp (by decide) (by omega)
    omega
  intro q
  have e0 := congrArg Int64.toInt q
  rw [zL_toInt (by omega) hlt, l0] at e0
  omega
theorem ip_us {L u : Int64} {k n : Int} (hn : 1 ≤ n) (e : u = zL (k * L.toInt ^ (n - 1).toNat)) : u * L = zL (k * L.toInt ^ (n + 1 - 1).toNat) := by
  rw [e, zL_of L, zL_mul, show (n + 1 - 1).toNat = (n - 1).toNat + 1 by omega, Int.pow_succ, Int.mul_assoc, ← zL_of L]
theorem tl_c {f f' : Nat → Int64} {k : Int} {x r y : Int64} (hk : 0 ≤ k) (e : f' = vp_updL f k.toNat y) (hz : x = 0 → ∀ q : Int, 0 ≤ q → q < k → f q.toNat = 0) (hr : cgE x (f' k.toNat) r) : r = 0 → ∀ q : Int, 0 ≤ q → q < k + 1 → f' q.toNat = 0 := by
  intro h q h1 h2
  obtain ⟨h3, h4⟩ := hr.1 h
  by_cases g : q = k
  · rw [g]; exact h4
  · rw [e, up_at hk h1, if_neg g]; exact hz h3 q h1 (by omega)
theorem fo_no {f : Nat → Int64} {d i : Int} (h : ∀ a : Int, i < a → a < 7 → 0 ≤ d - a → d - a < 7 → f (7 * a + (d - a)).toNat = 0) (hi : i < 0) (hd : d2x f d) (hm : ∀ a b : Int, 0 ≤ a → a < 7 → 0 ≤ b → b < 7 → f (7 * a + b).toNat ≠ 0 → a + b ≤ d) : ∀ a b : Int, 0 ≤ a → a < 7 → 0 ≤ b → b < 7 → f (7 * a + b).toNat = 0 := fun a b h1 h2 h3 h4 => Classical.byContradiction (fun q => by have g1 := fo_e hi h hd; have g2 := hm a b h1 h2 h3 h4 q; omega)
theorem d2_v {f : Nat → Int64} {i j z z' : Int} (h : ∀ a b : Int, 0 ≤ a → a < 7 → 0 ≤ b → b < 7 → (a < i ∨ a = i ∧ b < j) → f (7 * a + b).toNat ≠ 0 → a + b ≤ z) (hz : z ≤ z') (hn : f (7 * i + j).toNat ≠ 0 → i + j ≤ z') : ∀ a b : Int, 0 ≤ a → a < 7 → 0 ≤ b → b < 7 → (a < i ∨ a = i ∧ b < j + 1) → f (7 * a + b).toNat ≠ 0 → a + b ≤ z' := by
  intro a b h1 h2 h3 h4 h5 h6
  by_cases e : a = i ∧ b = j
  · rw [e.1, e.2] at h6 ⊢
    exact hn h6
  · exact Int.le_trans (h a b h1 h2 h3 h4 (by omega) h6) hz
theorem zR_mod {a k : Int} (hk : 2 ≤ k ∧ k ≤ 12) : zR (a % k) := ⟨by have := Int.emod_nonneg a (show k ≠ 0 by omega); omega, by have := Int.emod_lt_of_pos a (show 0 < k by omega); omega⟩
def tz (x : Int64) (f : Nat → Int64) (k : Int) : Prop := x = 0 → ∀ q : Int, 0 ≤ q → q < k → f q.toNat = 0
theorem tl_s {f f' : Nat → Int64} {k : Int} {x r y : Int64} (hk : 0 ≤ k) (e : f' = vp_updL f k.toNat y) (hz : tz x f k) (hr : cgE x (f' k.toNat) r) : tz r f' (k + 1) := tl_c hk e hz hr
theorem tl_f {f : Nat → Int64} {z d : Int} (h : (0 ≤ z ∧ z < 49 ∧ f z.toNat ≠ 0) ∨ (z = -1 ∧ ∀ a b : Int, 0 ≤ a → a < 7 → 0 ≤ b → b < 7 → f (7 * a + b).toNat = 0)) (hd : d2x f d) (h0 : 0 ≤ d) : 0 ≤ z ∧ z < 49 ∧ f z.toNat ≠ 0 := by
  rcases h with q | q
  · exact q
  · obtain ⟨a, b, h1, h2, h3, h4, -, h6⟩ := hd h0
    exact absurd (q.2 a b h1 h2 h3 h4) h6
theorem tl_x {f : Nat → Int64} {z k : Int} {x : Int64} (h : tz x f k) (hz : 0 ≤ z ∧ z < k) (hne : f z.toNat ≠ 0) : ¬ x = 0 := fun q => hne (h q z hz.1 hz.2)
theorem tl_n {x : Int64} (h : ¬ x = 0) : ¬ -x = 0 := fun q => h (by rw [← Int64.neg_neg (a := x), q]; rfl)
def DGok (g : Nat → Int32) : Prop := ∀ j : Int, 0 ≤ j → j < 2 → ∃ z : Int, 0 ≤ z ∧ z ≤ 12 ∧ g j.toNat = zI z
theorem upI_at {f : Nat → Int32} {k : Int} {x : Int32} (hk : 0 ≤ k) {j : Int} (hj : 0 ≤ j) : upd f k.toNat x j.toNat = if j = k then x else f j.toNat := by
  by_cases e : j = k
  · rw [if_pos e, e]; exact if_pos rfl
  · rw [if_neg e]; exact if_neg (by omega)
theorem DG_s {g g' : Nat → Int32} {k d q : Int} (h : DGok g) (hk : 0 ≤ k) (hq : 1 ≤ q ∧ q ≤ d) (hd : d ≤ 12) (e : g' = upd g k.toNat (zI (d / q))) : DGok g' := by
  intro j h1 h2
  rw [e, upI_at hk h1]
  by_cases r : j = k
  · rw [if_pos r]
    refine ⟨d / q, Int.ediv_nonneg (by omega) (by omega), ?_, rfl⟩
    have := Int.ediv_le_self (a := d) q (by omega)
    omega
  · rw [if_neg r]; exact h j h1 h2
