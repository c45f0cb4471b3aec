/-! isPower's yes, with its digits -/
def RZ (f : Nat → Int64) (k ri rj : Int) (L : Int64) : Prop := f (7 * ri + rj).toNat = L ∧ (∀ q : Int, 0 ≤ q → q < 49 → q ≠ 7 * ri + rj → (f q.toNat).toInt.natAbs * (k * L.toInt ^ (k - 1).toNat).toNat ≤ 9223372036854775808) ∧ (∀ q : Int, 0 ≤ q → q < 49 → q / 7 + q % 7 = ri + rj → ri < q / 7 → f q.toNat = 0)
theorem RZ_0 {f f' : Nat → Int64} {k ri rj : Int} {L : Int64} (h0 : 0 ≤ ri ∧ 0 ≤ rj ∧ ri + rj ≤ 6) (e : f' = vp_updL f (7 * ri + rj).toNat L) (h : ∀ q : Int, 0 ≤ q → q < 49 → f q.toNat = 0) : RZ f' k ri rj L := by
  refine ⟨?_, ?_, ?_⟩
  · rw [e]
    exact if_pos rfl
  · intro q a b n
    rw [e, up_at (by omega) a, if_neg n, h q a b]
    show (0 : Int).natAbs * _ ≤ _
    rw [show (0 : Int).natAbs = 0 from rfl, Nat.zero_mul]
    exact Nat.zero_le _
  · intro q a b _ n
    rw [e, up_at (by omega) a, if_neg (by omega)]
    exact h q a b
theorem RZ_u {f f' : Nat → Int64} {k ri rj i ev : Int} {L x : Int64} {p : Int} (hp : p = 7 * i + (ev - i)) (hi : 0 ≤ i ∧ i ≤ ev ∧ ev ≤ ri + rj) (hr : 0 ≤ ri ∧ 0 ≤ rj ∧ ri + rj ≤ 6) (hb : ev < ri + rj ∨ i < ri) (e : f' = vp_updL f p.toNat x) (hx : x.toInt.natAbs * (k * L.toInt ^ (k - 1).toNat).toNat ≤ 9223372036854775808) (h : RZ f k ri rj L) : RZ f' k ri rj L := by
  obtain ⟨h1, h2, h3⟩ := h
  refine ⟨?_, ?_, ?_⟩
  · rw [e, up_at (by omega) (by omega), if_neg (by omega)]
    exact h1
  · intro q a b n
    rw [e, up_at (by omega) a]
    by_cases z : q = p
    · rw [if_pos z]
      exact hx
    · rw [if_neg z]
      exact h2 q a b n
  · intro q a b n1 n2
    rw [e, up_at (by omega) a, if_neg (by omega)]
    exact h3 q a b n1 n2
theorem rt_endz {a b k i : Int} {v q : Int64} (h : 1 ≤ a ∧ a ≤ b ∧ b ≤ 2000000000) (hv : a = 1 ∨ a ^ k.toNat ≤ v.toInt) (hi : i = k) (hq : q = lpow (zL a) i.toNat) (hqv : q = v) : zL a = 0 ∨ (1 ≤ (zL a).toInt ∧ (zL a).toInt ≤ 2000000000 ∧ (zL a).toInt ^ k.toNat = v.toInt) := by
  rw [zL_toInt (by omega) (by omega)]
  refine Or.inr ⟨h.1, by omega, ?_⟩
  rcases hv with e | e
  · rw [e, lpow_one] at hq
    rw [e, Int.one_pow, ← hqv, hq]
    rfl
  · have b2 := Int64.toInt_lt v
    have b1 : 1 ≤ a ^ k.toNat := Int.pow_pos (by omega)
    rw [lpow_z, hi] at hq
    rw [← hqv, hq, zL_toInt (by omega) (by omega)]
theorem ip_uz {L : Int64} {k : Int} (hk : 2 ≤ k ∧ k ≤ 12) {v : Int64} (h1 : 1 ≤ L.toInt) (h2 : L.toInt ≤ 2000000000) (h3 : L.toInt ^ k.toNat = v.toInt) : (zL (k * L.toInt ^ (k - 1).toNat)).toInt = k * L.toInt ^ (k - 1).toNat := by
  have hv := Int64.toInt_lt v
  have hp : 1 ≤ L.toInt ^ (k - 1).toNat := Int.pow_pos (by omega)
  have hs : L.toInt ^ k.toNat = L.toInt ^ (k - 1).toNat * L.toInt := by
    rw [show k.toNat = (k - 1).toNat + 1 by omega, Int.pow_succ]
  have hlt : k * L.toInt ^ (k - 1).toNat < 9223372036854775808 := by
    rcases Int.lt_or_le L.toInt 12 with q | q
    · have hb : L.toInt ^ (k - 1).toNat ≤ 11 ^ 11 := by
        obtain ⟨n, hn⟩ := Int.eq_ofNat_of_zero_le (show 0 ≤ L.toInt by omega)
        have hn11 : n ≤ 11 := by omega
        rw [hn]
        have e1 : n ^ (k - 1).toNat ≤ 11 ^ (k - 1).toNat := Nat.pow_le_pow_left hn11 _
        have e2 : 11 ^ (k - 1).toNat ≤ 11 ^ 11 := Nat.pow_le_pow_right (by decide) (by omega)
        exact_mod_cast Nat.le_trans e1 e2
      have hb2 : k * L.toInt ^ (k - 1).toNat ≤ 12 * 11 ^ 11 := Int.mul_le_mul hk.2 hb (by omega) (by omega)
      have : (12 * 11 ^ 11 : Int) < 9223372036854775808 := by decide
      omega
    · have hb2 : k * L.toInt ^ (k - 1).toNat ≤ L.toInt * L.toInt ^ (k - 1).toNat := Int.mul_le_mul_of_nonneg_right (by omega) (by omega)
      rw [Int.mul_comm L.toInt, ← hs] at hb2
      omega
  have hge : k * 1 ≤ k * L.toInt ^ (k - 1).toNat := Int.mul_le_mul_of_nonneg_left hp (by omega)
  exact zL_toInt (by omega) hlt
theorem ip_qz {a u : Int64} {k : Int} {U : Int} (hk : 2 ≤ k) (hu : k ≤ u.toInt) (hU : u.toInt = U) : (a / u).toInt.natAbs * U.toNat ≤ 9223372036854775808 := by
  have ha := i64_b a
  have h1 : (a.toInt.tdiv u.toInt).natAbs = a.toInt.natAbs / u.toInt.natAbs := Int.natAbs_tdiv ..
  have h2 : a.toInt.natAbs / u.toInt.natAbs * u.toInt.natAbs ≤ a.toInt.natAbs := Nat.div_mul_le_self _ _
  have h4 : a.toInt.natAbs / u.toInt.natAbs * 2 ≤ a.toInt.natAbs / u.toInt.natAbs * u.toInt.natAbs := Nat.mul_le_mul (Nat.le_refl _) (by omega)
  have hU2 : U.toNat = u.toInt.natAbs := by omega
  rw [Int64.toInt_div, Int.bmod_eq_of_le (by omega) (by omega), h1, hU2]
  omega
def PWz (R W : Nat → Int64) (k first : Int) : Prop := ∃ (ri rj : Int) (L : Int64), 0 ≤ ri ∧ 0 ≤ rj ∧ k * ri = first / 7 ∧ k * rj = first % 7 ∧ SU R (ri + rj) ∧ RZ R k ri rj L ∧ 1 ≤ L.toInt ∧ L.toInt ^ k.toNat = (W first.toNat).toInt ∧ CG (fun z => pw id R 49 z ^ k.toNat) (pw id W 49)
theorem ip_r6 {k ri rj s : Int} (hk : 2 ≤ k) (h1 : 0 ≤ ri) (h2 : 0 ≤ rj) (h : k * (ri + rj) = s) (hs : s ≤ 6) : 0 ≤ ri ∧ 0 ≤ rj ∧ ri + rj ≤ 6 := by
  have : 2 * (ri + rj) ≤ k * (ri + rj) := Int.mul_le_mul_of_nonneg_right hk (by omega)
  omega
