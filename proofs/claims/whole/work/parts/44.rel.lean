/-! the class's row and the reference's row are one row -/
def rel (L : Nat → Nat → Int64) (r : Nat → Int32) : Prop := (∀ a, a < 3 → ∀ b, b < 5 → L a b = (r (5 * a + b)).toInt64) ∧ ∀ k, k < 15 → -7 ≤ (r k).toInt ∧ (r k).toInt ≤ 7
theorem i64_0 {x : Int32} : x.toInt64 = 0 ↔ x = 0 := by
  constructor
  · intro h
    apply Int32.toInt_inj.mp
    have := congrArg Int64.toInt h
    rw [Int32.toInt_toInt64] at this
    exact this
  · intro h
    rw [h]
    rfl
theorem rel_same {L L2 : Nat → Nat → Int64} {r r2 : Nat → Int32} (h : rel L r) (h1 : ∀ k, k < 3 → L2 k = L k) (h2 : r2 = r) : rel L2 r2 := ⟨fun a ha b hb => by rw [h1 a ha, h2]; exact h.1 a ha b hb, by rw [h2]; exact h.2⟩
theorem rel_zero {L : Nat → Nat → Int64} {r : Nat → Int32} (h1 : ∀ q : Int, 0 ≤ q → q < 15 → L (q.toNat / 5) (q.toNat % 5) = 0) (h2 : ∀ q : Int, 0 ≤ q → q < 15 → r q.toNat = 0) : rel L r := by
  refine ⟨fun a ha b hb => ?_, fun k hk => ?_⟩
  · have e1 := h1 ((5 * a + b : Nat) : Int) (by omega) (by omega)
    have e2 := h2 ((5 * a + b : Nat) : Int) (by omega) (by omega)
    rw [Int.toNat_natCast] at e1 e2
    rw [show (5 * a + b) / 5 = a by omega, show (5 * a + b) % 5 = b by omega] at e1
    rw [e1, e2]
    rfl
  · have e2 := h2 (k : Int) (by omega) (by omega)
    rw [Int.toNat_natCast] at e2
    rw [e2]
    decide
theorem hp_mo {L : Nat → Nat → Int64} {r : Nat → Int32} {n : Int} (h : rel L r) (hp : HP L n) : n = moK r 5 := by
  obtain ⟨⟨h0, h4⟩, hz, hn⟩ := hp
  have key : ∀ k : Nat, k < 5 → ((L 0 k = 0 ∧ L 1 k = 0 ∧ L 2 k = 0) ↔ (r k = 0 ∧ r (5 + k) = 0 ∧ r (10 + k) = 0)) := fun k hk => by
    rw [h.1 0 (by decide) k hk, h.1 1 (by decide) k hk, h.1 2 (by decide) k hk, i64_0, i64_0, i64_0]
    rw [show 5 * 0 + k = k by omega, show 5 * 1 + k = 5 + k by omega, show 5 * 2 + k = 10 + k by omega]
  obtain ⟨m, rfl⟩ := Int.eq_ofNat_of_zero_le h0
  have step : ∀ k : Nat, k < 5 → m < k → moK r (k + 1) = moK r k := fun k hk hgt => by
    have h2 := (key k hk).mp (by have := hz (k : Int) (by omega) (by omega); rw [Int.toNat_natCast] at this; exact this)
    show (if _ then _ else _) = _
    rw [if_neg (by rw [h2.1, h2.2.1, h2.2.2]; decide)]
  have hd : ∀ j, m + 1 + j ≤ 5 → moK r (m + 1 + j) = moK r (m + 1) := by
    intro j
    induction j with
    | zero => intro _; rfl
    | succ j ih =>
      intro hj
      rw [show m + 1 + (j + 1) = (m + 1 + j) + 1 by omega, step _ (by omega) (by omega), ih (by omega)]
  have h5 : moK r 5 = moK r (m + 1) := by
    have := hd (4 - m) (by omega)
    rwa [show m + 1 + (4 - m) = 5 by omega] at this
  rw [h5]
  show _ = if _ then _ else _
  by_cases hm : 0 < m
  · rw [if_pos ?_]
    have h6 := hn (by omega)
    rw [Int.toNat_natCast, key m (by omega)] at h6
    by_cases q1 : r m = 0
    · by_cases q2 : r (5 + m) = 0
      · exact Or.inr (Or.inr (fun q3 => h6 ⟨q1, q2, q3⟩))
      · exact Or.inr (Or.inl q2)
    · exact Or.inl q1
  · have : m = 0 := by omega
    subst this
    split <;> rfl
theorem ws_vs {L : Nat → Nat → Int64} {r : Nat → Int32} (h : rel L r) {w : Nat} (hw : w < 3) (u v : Int64) (n : Int) : ∀ k : Nat, k ≤ 5 → wsum (L w) u v n k = vsum r w u v n k
  | 0, _ => rfl
  | k + 1, hk => by
    show wsum (L w) u v n k + L w k * lpow u k * lpow v (n - k).toNat = vsum r w u v n k + (r (5 * (w : Int) + k).toNat).toInt64 * lpow u k * lpow v (n - k).toNat
    rw [ws_vs h hw u v n k (by omega), h.1 w hw k (by omega), show (5 * (w : Int) + k).toNat = 5 * w + k by omega]
theorem w_v {L : Nat → Nat → Int64} {r : Nat → Int32} {n u v : Int} (h : rel L r) (hp : HP L n) {w : Nat} (hw : w < 3) : wOf (L w) u v n = vOf r w u v := by
  have h1 := hp_mo h hp
  have h2 := hp.1
  unfold wOf vOf
  rw [← h1]
  exact ws_vs h hw _ _ _ _ (by omega)
theorem cnt_eq {L : Nat → Nat → Int64} {r : Nat → Int32} (h : rel L r) : ∀ k : Nat, k ≤ 15 → cntB (fun q => L (q / 5) (q % 5)) k = cntK r k
  | 0, _ => rfl
  | k + 1, hk => by
    show cntB (fun q => L (q / 5) (q % 5)) k + (if L (k / 5) (k % 5) = 0 then 0 else 1) = cntK r k + (if r k = 0 then 0 else 1)
    rw [cnt_eq h k (by omega), h.1 (k / 5) (by omega) (k % 5) (by omega), show 5 * (k / 5) + k % 5 = k by omega]
    by_cases q : r k = 0
    · rw [if_pos q, if_pos (i64_0.mpr q)]
    · rw [if_neg q, if_neg (fun z => q (i64_0.mp z))]
theorem lpow_z (u : Int) : ∀ k : Nat, lpow (zL u) k = zL (u ^ k)
  | 0 => by rw [Int.pow_zero]; rfl
  | k + 1 => by
    show lpow (zL u) k * zL u = _
    rw [lpow_z u k, zL_mul, Int.pow_succ]
theorem pw_le {u : Int} (h : -9 ≤ u ∧ u ≤ 9) (k : Nat) : (u ^ k).natAbs ≤ 9 ^ k := by
  rw [Int.natAbs_pow]
  exact Nat.pow_le_pow_left (by omega) k
theorem vs_b {r : Nat → Int32} {w u v n : Int} (hr : ∀ k, k < 15 → -7 ≤ (r k).toInt ∧ (r k).toInt ≤ 7) (hw : 0 ≤ w ∧ w < 3) (hu : -9 ≤ u ∧ u ≤ 9) (hv : -9 ≤ v ∧ v ≤ 9) (hn : 0 ≤ n ∧ n ≤ 4) : ∀ k : Nat, (k : Int) ≤ n + 1 → ∃ t : Int, vsum r w (zL u) (zL v) n k = zL t ∧ t.natAbs ≤ k * 45927
  | 0, _ => ⟨0, rfl, by decide⟩
  | k + 1, hk => by
    obtain ⟨t, e, ht⟩ := vs_b hr hw hu hv hn k (by omega)
    have h1 := hr (5 * w + k).toNat (by omega)
    refine ⟨t + (r (5 * w + k).toNat).toInt * u ^ k * v ^ (n - k).toNat, ?_, ?_⟩
    · show vsum r w (zL u) (zL v) n k + (r (5 * w + k).toNat).toInt64 * lpow (zL u) k * lpow (zL v) (n - k).toNat = _
      have e2 : (r (5 * w + k).toNat).toInt64 = zL (r (5 * w + k).toNat).toInt := by
        have e3 : r (5 * w + k).toNat = zI (r (5 * w + k).toNat).toInt := (Int32.ofInt_toInt _).symm
        exact (congrArg Int32.toInt64 e3).trans (zL_i2l ⟨by omega, by omega⟩)
      rw [e, e2, lpow_z, lpow_z, zL_mul, zL_mul, zL_add]
    · have b1 := pw_le hu k
      have b2 := pw_le hv (n - k).toNat
      have b3 : (u ^ k).natAbs * (v ^ (n - k).toNat).natAbs ≤ 6561 := by
        refine Nat.le_trans (Nat.mul_le_mul b1 b2) ?_
        rw [← Nat.pow_add]
        exact Nat.pow_le_pow_right (n := 9) (by decide) (show k + (n - k).toNat ≤ 4 by omega)
      have b4 : ((r (5 * w + k).toNat).toInt * u ^ k * v ^ (n - k).toNat).natAbs ≤ 7 * 6561 := by
        rw [Int.natAbs_mul, Int.natAbs_mul, Nat.mul_assoc]
        exact Nat.mul_le_mul (by omega) b3
      have b5 := Int.natAbs_add_le t ((r (5 * w + k).toNat).toInt * u ^ k * v ^ (n - k).toNat)
      rw [Nat.add_mul]
      omega
theorem moK_le (r : Nat → Int32) : ∀ k : Nat, k ≤ 5 → 0 ≤ moK r k ∧ moK r k ≤ 4
  | 0, _ => by show (0 : Int) ≤ 0 ∧ (0 : Int) ≤ 4; omega
  | k + 1, hk => by
    have := moK_le r k (by omega)
    show 0 ≤ (if _ then (k : Int) else _) ∧ (if _ then (k : Int) else _) ≤ 4
    split <;> omega
theorem v_nm {r : Nat → Int32} {w u v : Int} (hr : ∀ k, k < 15 → -7 ≤ (r k).toInt ∧ (r k).toInt ≤ 7) (hw : 0 ≤ w ∧ w < 3) (hu : -9 ≤ u ∧ u ≤ 9) (hv : -9 ≤ v ∧ v ≤ 9) : (vOf r w u v).toInt ≠ -9223372036854775808 := by
  have hn := moK_le r 5 (by decide)
  obtain ⟨t, e, ht⟩ := vs_b hr hw hu hv hn (moK r 5 + 1).toNat (by omega)
  unfold vOf
  have h2 : (moK r 5 + 1).toNat ≤ 5 := by omega
  have h3 : t.natAbs ≤ 5 * 45927 := Nat.le_trans ht (Nat.mul_le_mul_right _ h2)
  rw [e, zL_toInt (by omega) (by omega)]
  omega
theorem cg_order {x y z c1 c2 d1 d2 : Int64} (hx : x.toInt ≠ -9223372036854775808) (hy : y.toInt ≠ -9223372036854775808) (hz : z.toInt ≠ -9223372036854775808) (h1 : cgE x y c1) (h2 : cgE c1 z c2) (h3 : cgE y z d1) (h4 : cgE x d1 d2) : c2 = d2 := by
  have e1 := h1.2 hx hy
  have e3 := h3.2 hy hz
  have e2 := h2.2 (by omega) hz
  have e4 := h4.2 hx (by omega)
  apply Int64.toInt_inj.mp
  rw [e2, e4, e1, e3, Int.gcd_assoc]
