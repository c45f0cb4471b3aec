theorem hp_s {a b d : Nat → Int64} {z : Int} (h : ∀ k : Int, z < k → k ≤ 4 → a k.toNat = 0 ∧ b k.toNat = 0 ∧ d k.toNat = 0) (hz : a z.toNat = 0 ∧ b z.toNat = 0 ∧ d z.toNat = 0) : ∀ k : Int, z + -1 < k → k ≤ 4 → a k.toNat = 0 ∧ b k.toNat = 0 ∧ d k.toNat = 0 := by
  intro k h1 h2
  by_cases e : k = z
  · rw [e]; exact hz
  · exact h k (by omega) h2
def cntB (f : Nat → Int64) : Nat → Int
  | 0 => 0
  | k + 1 => cntB f k + (if f k = 0 then 0 else 1)
/-- the row's first t places are 0, the others as they were -/
def erI (L M : Nat → Nat → Int64) (t : Int) : Prop := ∀ q : Int, 0 ≤ q → q < 15 → M (q.toNat / 5) (q.toNat % 5) = if q < t then 0 else L (q.toNat / 5) (q.toNat % 5)
theorem erI_0 (L : Nat → Nat → Int64) : erI L L (5 * 0) := fun q h1 _ => (if_neg (by omega)).symm
theorem er_at {w i : Int} (hw : 0 ≤ w) (hi : 0 ≤ i) (hi5 : i < 5) : (5 * w + i).toNat / 5 = w.toNat ∧ (5 * w + i).toNat % 5 = i.toNat := by omega
theorem cntB_s {L M : Nat → Nat → Int64} {w i n x : Int} (hw : 0 ≤ w) (hi : 0 ≤ i) (h5 : i < 5 ∧ w < 3) (hn : n = cntB (fun q => L (q / 5) (q % 5)) (5 * w + i).toNat) (hM : erI L M (5 * w + i)) (hx : (M w.toNat i.toNat = 0 ∧ x = n) ∨ (¬ M w.toNat i.toNat = 0 ∧ x = n + 1)) : x = cntB (fun q => L (q / 5) (q % 5)) (5 * w + (i + 1)).toNat := by
  obtain ⟨e1, e2⟩ := er_at hw hi h5.1
  have h := hM (5 * w + i) (by omega) (by omega)
  rw [e1, e2, if_neg (by omega)] at h
  rw [show (5 * w + (i + 1)).toNat = (5 * w + i).toNat + 1 by omega]
  show x = cntB _ _ + (if L ((5 * w + i).toNat / 5) ((5 * w + i).toNat % 5) = 0 then 0 else 1)
  rw [e1, e2, ← h, ← hn]
  rcases hx with ⟨g1, g2⟩ | ⟨g1, g2⟩
  · rw [if_pos g1, g2, Int.add_zero]
  · rw [if_neg g1, g2]
theorem erI_z {L M : Nat → Nat → Int64} {w i : Int} (hw : 0 ≤ w) (hi : 0 ≤ i) (h5 : i < 5 ∧ w < 3) (hM : erI L M (5 * w + i)) (hz : M w.toNat i.toNat = 0) : erI L M (5 * w + (i + 1)) := by
  intro q h1 h2
  obtain ⟨e1, e2⟩ := er_at hw hi h5.1
  by_cases g : q = 5 * w + i
  · rw [if_pos (by omega), g, e1, e2, hz]
  · rw [hM q h1 h2]
    by_cases g2 : q < 5 * w + i
    · rw [if_pos g2, if_pos (by omega)]
    · rw [if_neg g2, if_neg (by omega)]
theorem erI_s {L M M2 : Nat → Nat → Int64} {w i : Int} (hw : 0 ≤ w) (hi : 0 ≤ i) (h5 : i < 5 ∧ w < 3) (hM : erI L M (5 * w + i)) (e : M2 w.toNat = vp_updL (M w.toNat) i.toNat 0) (f : ∀ j, j ≠ w.toNat → M2 j = M j) : erI L M2 (5 * w + (i + 1)) := by
  intro q h1 h2
  obtain ⟨e1, e2⟩ := er_at hw hi h5.1
  by_cases g : q = 5 * w + i
  · rw [if_pos (by omega), g, e1, e2, e]
    exact if_pos rfl
  · have h3 : M2 (q.toNat / 5) (q.toNat % 5) = M (q.toNat / 5) (q.toNat % 5) := by
      by_cases g3 : q.toNat / 5 = w.toNat
      · rw [g3, e]
        exact if_neg (by omega)
      · rw [f _ g3]
    rw [h3, hM q h1 h2]
    by_cases g2 : q < 5 * w + i
    · rw [if_pos g2, if_pos (by omega)]
    · rw [if_neg g2, if_neg (by omega)]
theorem er_f {L M M2 : Nat → Nat → Int64} {w : Int} (hw : 0 ≤ w ∧ w < 3) (f : ∀ j, j ≠ w.toNat → M2 j = M j) (h : ∀ k, k ≠ 0 → k ≠ 1 → k ≠ 2 → M k = L k) : ∀ k, k ≠ 0 → k ≠ 1 → k ≠ 2 → M2 k = L k := fun k h1 h2 h3 => (f k (by omega)).trans (h k h1 h2 h3)
theorem er_e {L M : Nat → Nat → Int64} (h : erI L M 15) : ∀ q : Int, 0 ≤ q → q < 15 → M (q.toNat / 5) (q.toNat % 5) = 0 := fun q h1 h2 => by rw [h q h1 h2, if_pos h2]
