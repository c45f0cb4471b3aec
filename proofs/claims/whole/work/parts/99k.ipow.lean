/-! isPower's yes -/
def RB (f : Nat → Int64) (k : Int) : Prop := ∀ q : Int, 0 ≤ q → q < 49 → (f q.toNat).toInt.natAbs * k.toNat ≤ 9223372036854775808
theorem RB_z {f : Nat → Int64} {k : Int} (h : ∀ q : Int, 0 ≤ q → q < 49 → f q.toNat = 0) : RB f k := fun q a b => by
  rw [h q a b, show (0 : Int64).toInt.natAbs = 0 from rfl, Nat.zero_mul]
  exact Nat.zero_le _
theorem RB_u {f f' : Nat → Int64} {k q : Int} {x : Int64} (hq : 0 ≤ q) (e : f' = vp_updL f q.toNat x) (hx : x.toInt.natAbs * k.toNat ≤ 9223372036854775808) (h : RB f k) : RB f' k := fun p a b => by
  rw [e, up_at hq a]
  by_cases z : p = q
  · rw [if_pos z]
    exact hx
  · rw [if_neg z]
    exact h p a b
theorem ip_ld {L : Int64} {k : Int} (hk : 2 ≤ k ∧ k ≤ 12) (h1 : 1 ≤ L.toInt) (h2 : L.toInt ≤ 2000000000) : L.toInt.natAbs * k.toNat ≤ 9223372036854775808 := by
  have := Nat.mul_le_mul (show L.toInt.natAbs ≤ 2000000000 by omega) (show k.toNat ≤ 12 by omega)
  omega
theorem ip_uv {L : Int64} {k : Int} (hk : 2 ≤ k ∧ k ≤ 12) {v : Int64} (h1 : 1 ≤ L.toInt) (h2 : L.toInt ≤ 2000000000) (h3 : L.toInt ^ k.toNat ≤ v.toInt) : k ≤ (zL (k * L.toInt ^ (k - 1).toNat)).toInt := by
  have hv := Int64.toInt_lt v
  have hp : 1 ≤ L.toInt ^ (k - 1).toNat := Int.pow_pos (by omega)
  have hs : L.toInt ^ k.toNat = L.toInt ^ (k - 1).toNat * L.toInt := by
    rw [show k.toNat = (k - 1).toNat + 1 by omega, Int.pow_succ]
  have hlt : k * L.toInt ^ (k - 1).toNat < 9223372036854775808 := by
    rcases Int.lt_or_le L.toInt 12 with q | q
    · have hb : L.toInt ^ (k - 1).toNat ≤ 11 ^ 11 := by
        obtain ⟨n, hn⟩ := Int.eq_ofNat_of_zero_le (show 0 ≤ L.toInt by omega)
        have hn11 : n ≤ 11 := by omega
        rw [hn]
        have e1 : n ^ (k - 1).toNat ≤ 11 ^ (k - 1).toNat := Nat.pow_le_pow_left hn11 _
        have e2 : 11 ^ (k - 1).toNat ≤ 11 ^ 11 := Nat.pow_le_pow_right (by decide) (by omega)
        exact_mod_cast Nat.le_trans e1 e2
      have hb2 : k * L.toInt ^ (k - 1).toNat ≤ 12 * 11 ^ 11 := Int.mul_le_mul hk.2 hb (by omega) (by omega)
      have : (12 * 11 ^ 11 : Int) < 9223372036854775808 := by decide
      omega
    · have hb2 : k * L.toInt ^ (k - 1).toNat ≤ L.toInt * L.toInt ^ (k - 1).toNat := Int.mul_le_mul_of_nonneg_right (by omega) (by omega)
      rw [Int.mul_comm L.toInt, ← hs] at hb2
      omega
  have hge : k * 1 ≤ k * L.toInt ^ (k - 1).toNat := Int.mul_le_mul_of_nonneg_left hp (by omega)
  rw [zL_toInt (by omega) hlt]
  omega
theorem ip_qt {a u : Int64} {k : Int} (hk : 2 ≤ k) (hu : k ≤ u.toInt) : (a / u).toInt.natAbs * k.toNat ≤ 9223372036854775808 := by
  have ha := i64_b a
  have h1 : (a.toInt.tdiv u.toInt).natAbs = a.toInt.natAbs / u.toInt.natAbs := Int.natAbs_tdiv ..
  have h2 : a.toInt.natAbs / u.toInt.natAbs * u.toInt.natAbs ≤ a.toInt.natAbs := Nat.div_mul_le_self _ _
  have h3 : a.toInt.natAbs / u.toInt.natAbs * k.toNat ≤ a.toInt.natAbs / u.toInt.natAbs * u.toInt.natAbs := Nat.mul_le_mul (Nat.le_refl _) (by omega)
  have h4 : a.toInt.natAbs / u.toInt.natAbs * 2 ≤ a.toInt.natAbs / u.toInt.natAbs * u.toInt.natAbs := Nat.mul_le_mul (Nat.le_refl _) (by omega)
  rw [Int64.toInt_div, Int.bmod_eq_of_le (by omega) (by omega), h1]
  omega
theorem ip_ex {a k r : Int} (e : r = a / k) (h : a % k = 0) : k * r = a := by
  rw [e]
  exact Int.mul_ediv_cancel_of_emod_eq_zero h
theorem pw_eq {f g : Nat → Int64} (h : ∀ q : Int, 0 ≤ q → q < 49 → f q.toNat = g q.toNat) (t : Int) : pw id f 49 t = pw id g 49 t := pw_c 49 (fun i hi => by
  have := h (i : Int) (by omega) (by omega)
  rw [Int.toNat_natCast] at this
  exact this) t
def PWy (R W : Nat → Int64) (k d : Int) : Prop := ∃ Dg : Int, 0 ≤ Dg ∧ k * Dg = d ∧ SU R Dg ∧ RB R k ∧ CG (fun z => pw id R 49 z ^ k.toNat) (pw id W 49)
theorem eq_s {f g : Nat → Int64} {q : Int} (h0 : 0 ≤ q) (e : f q.toNat = g q.toNat) (h : ∀ x : Int, 0 ≤ x → x < q → f x.toNat = g x.toNat) : ∀ x : Int, 0 ≤ x → x < q + 1 → f x.toNat = g x.toNat := fun x a b => by
  by_cases z : x = q
  · rw [z]
    exact e
  · exact h x a (by omega)
/-- the first place of the highest degree -/
theorem d2_uq {f : Nat → Int64} {d z : Int} (hd : d2x f d) (h0 : 0 ≤ d) (hv : ∀ a b : Int, 0 ≤ a → a < 7 → 0 ≤ b → b < 7 → f (7 * a + b).toNat ≠ 0 → a + b ≤ d) (hz : 0 ≤ z ∧ z < 49) (hne : f z.toNat ≠ 0) (hm : ∀ a b : Int, 0 ≤ a → a < 7 → 0 ≤ b → b < 7 → f (7 * a + b).toNat ≠ 0 → a + b ≤ z / 7 + z % 7) : z / 7 + z % 7 = d := by
  obtain ⟨a, b, h1, h2, h3, h4, h5, h6⟩ := hd h0
  have e1 := hm a b h1 h2 h3 h4 h6
  have e2 := hv (z / 7) (z % 7) (by omega) (by omega) (by omega) (by omega) (by rw [show 7 * (z / 7) + z % 7 = z by omega]; exact hne)
  omega
theorem d2_su {f : Nat → Int64} {d : Int} (hv : ∀ a b : Int, 0 ≤ a → a < 7 → 0 ≤ b → b < 7 → f (7 * a + b).toNat ≠ 0 → a + b ≤ d) : SU f d := fun q h0 h1 h2 => Classical.byContradiction fun z => by
  have := hv (q / 7) (q % 7) (by omega) (by omega) (by omega) (by omega) (by rw [show 7 * (q / 7) + q % 7 = q by omega]; exact z)
  omega
