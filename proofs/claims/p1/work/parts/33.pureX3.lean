theorem sr_div {b k : Int} (hb : 0 ≤ b ∧ b ≤ 6) (hk : 1 ≤ k ∧ k ≤ 6) : 0 ≤ b / k ∧ b / k ≤ b ∧ b / k * k ≤ b := by
  have h1 : 0 ≤ b / k := Int.ediv_nonneg hb.1 (by omega)
  have h2 : b / k * k ≤ b := Int.ediv_mul_le b (by omega)
  have h3 : b / k * 1 ≤ b / k * k := Int.mul_le_mul_of_nonneg_left hk.1 h1
  exact ⟨h1, by omega, h2⟩
theorem sr_mod {a k : Int} (hk : 1 ≤ k ∧ k ≤ 6) : zR (a % k) := ⟨by have := Int.emod_nonneg a (show k ≠ 0 by omega); omega, by have := Int.emod_lt_of_pos a (show 0 < k by omega); omega⟩
theorem sr_mono {a b k : Int} (h : a ≤ b) (h0 : 0 ≤ a) (hk : 1 ≤ k) : a / k ≤ b / k := Int.ediv_le_ediv (by omega) h
/-- places of the next terms of a power -/
theorem cr_b {B k f d j : Int} (hk : 2 ≤ k ∧ k ≤ 6) (hB : 0 ≤ B ∧ B * k ≤ 6) (hf : 0 ≤ f ∧ f ≤ B) (hd : 0 ≤ d ∧ d ≤ B) (hj : 0 ≤ j ∧ j ≤ d) : 0 ≤ d + (k - 1) * B ∧ d + (k - 1) * B ≤ 6 ∧ 0 ≤ j + (k - 1) * f ∧ j + (k - 1) * f ≤ d + (k - 1) * B := by
  have h1 : (k - 1) * B + B = B * k := by rw [Int.sub_mul, Int.one_mul, Int.mul_comm k]; omega
  have h2 : 0 ≤ (k - 1) * B := Int.mul_nonneg (by omega) hB.1
  have h3 : 0 ≤ (k - 1) * f := Int.mul_nonneg (by omega) hf.1
  have h4 : (k - 1) * f ≤ (k - 1) * B := Int.mul_le_mul_of_nonneg_left hf.2 (by omega)
  omega
