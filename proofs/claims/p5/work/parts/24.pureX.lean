/-! numbers under the class's small methods -/
/-- Euclid's way takes no more steps than the class counts -/
def cgP (x y : Int64) (i : Int) : Prop := i = 0 ∨ (y.toInt.natAbs ≤ x.toInt.natAbs ∧ x.toInt.natAbs * y.toInt.natAbs * 2 ^ (i - 1).toNat ≤ 2 ^ 126)
theorem abs_le63 (x : Int64) : x.toInt.natAbs ≤ 2 ^ 63 := by
  have h1 := Int64.le_toInt x
  have h2 := Int64.toInt_lt x
  omega
theorem cgP_s {x y : Int64} {i : Int} (hi : 0 ≤ i) (hy : ¬ y = 0) (h : cgP x y i) : cgP y (x - x / y * y) (i + 1) := by
  have hy0 : y.toInt.natAbs ≠ 0 := fun q => hy (Int64.toInt_inj.mp (by rw [l0]; omega))
  have e1 : (x - x / y * y).toInt.natAbs = x.toInt.natAbs % y.toInt.natAbs := by rw [l_rem, Int.natAbs_tmod]
  right
  rw [e1]
  have hlt := Nat.mod_lt x.toInt.natAbs (Nat.pos_of_ne_zero hy0)
  refine ⟨Nat.le_of_lt hlt, ?_⟩
  have e2 : (i + 1 - 1).toNat = i.toNat := by omega
  rw [e2]
  rcases h with h | ⟨h1, h2⟩
  · rw [h]
    show _ * 1 ≤ _
    rw [Nat.mul_one]
    have a1 := abs_le63 y
    have a2 : x.toInt.natAbs % y.toInt.natAbs ≤ 2 ^ 63 := by omega
    calc y.toInt.natAbs * (x.toInt.natAbs % y.toInt.natAbs) ≤ 2 ^ 63 * 2 ^ 63 := Nat.mul_le_mul a1 a2
      _ = 2 ^ 126 := by decide
  · rcases Nat.eq_zero_or_pos i.toNat with q | q
    · have a1 := abs_le63 y
      have a2 : x.toInt.natAbs % y.toInt.natAbs ≤ 2 ^ 63 := by omega
      rw [q]
      show _ * 1 ≤ _
      rw [Nat.mul_one]
      calc y.toInt.natAbs * (x.toInt.natAbs % y.toInt.natAbs) ≤ 2 ^ 63 * 2 ^ 63 := Nat.mul_le_mul a1 a2
        _ = 2 ^ 126 := by decide
    · have e3 : i.toNat = (i - 1).toNat + 1 := by omega
      rw [e3, Nat.pow_succ]
      have hhalf : x.toInt.natAbs % y.toInt.natAbs * 2 ≤ x.toInt.natAbs := by
        have d1 := Nat.div_add_mod x.toInt.natAbs y.toInt.natAbs
        have d2 : 1 ≤ x.toInt.natAbs / y.toInt.natAbs := (Nat.one_le_div_iff (Nat.pos_of_ne_zero hy0)).mpr h1
        have d3 : y.toInt.natAbs * 1 ≤ y.toInt.natAbs * (x.toInt.natAbs / y.toInt.natAbs) := Nat.mul_le_mul_left _ d2
        omega
      calc y.toInt.natAbs * (x.toInt.natAbs % y.toInt.natAbs) * (2 ^ (i - 1).toNat * 2) = (x.toInt.natAbs % y.toInt.natAbs * 2) * y.toInt.natAbs * 2 ^ (i - 1).toNat := by
            rw [Nat.mul_comm y.toInt.natAbs, Nat.mul_comm (2 ^ (i - 1).toNat) 2, ← Nat.mul_assoc, Nat.mul_right_comm _ y.toInt.natAbs 2]
        _ ≤ x.toInt.natAbs * y.toInt.natAbs * 2 ^ (i - 1).toNat := Nat.mul_le_mul_right _ (Nat.mul_le_mul_right _ hhalf)
        _ ≤ 2 ^ 126 := h2
theorem cgP_e {x y : Int64} {i : Int} (hi : 128 ≤ i) (h : cgP x y i) : y = 0 := by
  rcases h with h | ⟨h1, h2⟩
  · omega
  · have h3 : 2 ^ 127 ≤ 2 ^ (i - 1).toNat := Nat.pow_le_pow_right (by decide) (by omega)
    have hz : x.toInt.natAbs * y.toInt.natAbs = 0 := by
      rcases Nat.eq_zero_or_pos (x.toInt.natAbs * y.toInt.natAbs) with q | q
      · exact q
      · have h4 : 1 * 2 ^ 127 ≤ x.toInt.natAbs * y.toInt.natAbs * 2 ^ (i - 1).toNat := Nat.mul_le_mul q h3
        have h5 : (2 : Nat) ^ 126 < 1 * 2 ^ 127 := by decide
        omega
    rcases Nat.mul_eq_zero.mp hz with q | q
    · exact Int64.toInt_inj.mp (by rw [l0]; omega)
    · exact Int64.toInt_inj.mp (by rw [l0]; omega)
def sl (d : Int) : Int := d * (d + 1) / 2
theorem sl_m {d : Int} (h : 0 ≤ d ∧ d ≤ 6) : 0 ≤ d * (d + 1) ∧ d * (d + 1) ≤ 42 := by
  have h1 : d = 0 ∨ d = 1 ∨ d = 2 ∨ d = 3 ∨ d = 4 ∨ d = 5 ∨ d = 6 := by omega
  rcases h1 with rfl | rfl | rfl | rfl | rfl | rfl | rfl <;> decide
theorem sl_b {d : Int} (h : 0 ≤ d ∧ d ≤ 6) : 0 ≤ sl d ∧ sl d + d ≤ 27 := by
  have h1 : d = 0 ∨ d = 1 ∨ d = 2 ∨ d = 3 ∨ d = 4 ∨ d = 5 ∨ d = 6 := by omega
  rcases h1 with rfl | rfl | rfl | rfl | rfl | rfl | rfl <;> decide
theorem fl_s {f f' : Nat → Int64} {k : Int} {v : Int64} (hk : 0 ≤ k) (e : f' = vp_updL f k.toNat v) (hz : ∀ q : Int, 0 ≤ q → q < k → f q.toNat = v) : ∀ q : Int, 0 ≤ q → q < k + 1 → f' q.toNat = v := by
  intro q h1 h2
  rw [e, up_at hk h1]
  by_cases r : q = k
  · rw [if_pos r]
  · rw [if_neg r]; exact hz q h1 (by omega)
