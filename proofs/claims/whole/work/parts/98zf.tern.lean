/-! three letters: where both pencils through the first are true squares, the whole is one -/
theorem root_le (x B E c : Nat) (h : x * x ≤ B + c * x) (hE : B < (E + 1 - c) * (E + 1)) (hc : c ≤ E) : x ≤ E := by
  rcases Nat.lt_or_ge E x with r | r
  · exfalso
    have a1 : (E + 1) * x ≤ x * x := Nat.mul_le_mul r (Nat.le_refl x)
    obtain ⟨d, hd⟩ := Nat.exists_eq_add_of_le hc
    have a2 : E + 1 - c = d + 1 := by omega
    rw [a2] at hE
    have a3 : (E + 1) * x = c * x + (d + 1) * x := by
      rw [hd]
      grind
    have a4 : (d + 1) * (E + 1) ≤ (d + 1) * x := Nat.mul_le_mul (Nat.le_refl _) r
    omega
  · exact r
theorem nsq_le (a : Int) (n : Nat) (h : (a * a).natAbs ≤ n * n) : a.natAbs ≤ n := by
  rw [Int.natAbs_mul] at h
  rcases Nat.lt_or_ge n a.natAbs with r | r
  · exact absurd (Nat.mul_lt_mul'' r r) (by omega)
  · exact r
/-- the middle digits of a true square -/
theorem mid_le (e0 e1 e2 e3 f2 f4 : Int) (P E : Nat) (B : Nat) (h0 : e0.natAbs ≤ P) (h3 : e3.natAbs ≤ P) (q2 : f2 = 2 * e0 * e2 + e1 * e1) (q4 : f4 = 2 * e1 * e3 + e2 * e2) (b2 : f2.natAbs ≤ B) (b4 : f4.natAbs ≤ B) (hE : B < (E + 1 - 2 * P) * (E + 1)) (hP : 2 * P ≤ E) : e1.natAbs ≤ E ∧ e2.natAbs ≤ E := by
  have s1 : e1.natAbs * e1.natAbs ≤ B + 2 * P * e2.natAbs := by
    have : e1 * e1 = f2 - 2 * e0 * e2 := by omega
    rw [← Int.natAbs_mul, this]
    refine ns_le b2 ?_
    rw [Int.natAbs_mul, Int.natAbs_mul]
    exact Nat.mul_le_mul (Nat.mul_le_mul k2 h0) (Nat.le_refl _)
  have s2 : e2.natAbs * e2.natAbs ≤ B + 2 * P * e1.natAbs := by
    have : e2 * e2 = f4 - 2 * e3 * e1 := by
      have : 2 * e1 * e3 = 2 * e3 * e1 := by grind
      omega
    rw [← Int.natAbs_mul, this]
    refine ns_le b4 ?_
    rw [Int.natAbs_mul, Int.natAbs_mul]
    exact Nat.mul_le_mul (Nat.mul_le_mul k2 h3) (Nat.le_refl _)
  generalize e1.natAbs = x at *
  generalize e2.natAbs = y at *
  rcases Nat.le_total x y with r | r
  · have : y ≤ E := root_le y B E (2 * P) (Nat.le_trans s2 (Nat.add_le_add (Nat.le_refl _) (Nat.mul_le_mul (Nat.le_refl _) r))) hE hP
    exact ⟨Nat.le_trans r this, this⟩
  · have : x ≤ E := root_le x B E (2 * P) (Nat.le_trans s1 (Nat.add_le_add (Nat.le_refl _) (Nat.mul_le_mul (Nat.le_refl _) r))) hE hP
    exact ⟨this, Nat.le_trans r this⟩
/-- the digit behind a lead: true, and its size -/
theorem dig_true (e x f s H : Int) (F T : Nat) (q : f = 2 * e * x + s + 18446744073709551616 * H) (hf : f.natAbs ≤ F) (hs : s.natAbs ≤ T) (hd : (2 * e * x).natAbs ≤ 2 ^ 63) (hT : F + T < 2 ^ 63) : H = 0 ∧ (2 * e * x).natAbs ≤ F + T := by
  have e63 : (2 : Nat) ^ 63 = 9223372036854775808 := by decide +kernel
  rw [e63] at hd hT
  generalize 2 * e * x = p at *
  have : H = 0 := by omega
  subst this
  refine ⟨rfl, ?_⟩
  omega
theorem num_true (f s H : Int) (F T : Nat) (q : f = s + 18446744073709551616 * H) (hf : f.natAbs ≤ F) (hs : s.natAbs ≤ T) (hT : F + T < 18446744073709551616) : H = 0 := by omega
theorem div_two (e x : Int) (t F : Nat) (h : (2 * e * x).natAbs ≤ F) (he : t ≤ e.natAbs) : 2 * t * x.natAbs ≤ F := by
  rw [Int.natAbs_mul, Int.natAbs_mul] at h
  exact Nat.le_trans (Nat.mul_le_mul (Nat.mul_le_mul (show 2 ≤ (2 : Int).natAbs by decide) he) (Nat.le_refl _)) h
