/-! the four quartics: what the kernel's walk says -/
theorem qG_v5 (X Z : Nat → Int) (j : Nat) : qG X Z j = qG (v5 (X 0) (X 1) (X 2) (X 3) (X 4)) (v5 (Z 0) (Z 1) (Z 2) (Z 3) (Z 4)) j := rfl
theorem dz_cd (z : Int) (h : z.natAbs ≤ 9223372036854775807) : dz (cd z) = z := by
  have hz := cd_int z
  unfold dz
  cases q : Nat.ble (cd z) 9223372036854775808 with
  | true =>
    have := Nat.le_of_ble_eq_true q
    show ((cd z : Nat) : Int) = z
    omega
  | false =>
    have : ¬ cd z ≤ 9223372036854775808 := by
      intro w
      rw [Nat.ble_eq_true_of_le w] at q
      exact absurd q (by decide)
    have l := cd_lt z
    show Int.negSucc (18446744073709551615 - cd z) = z
    rw [Int.negSucc_eq]
    omega
theorem zz7 (z : Int) (h : z.natAbs ≤ 7) : (z + 7).toNat < 15 ∧ nS (z + 7).toNat 7 = cd z := by
  refine ⟨by omega, ?_⟩
  rw [← cd_small (z + 7) (z + 7).toNat (by omega) (by omega), show (7 : Nat) = cd 7 from by decide, nS_cd, show z + 7 - 7 = z by omega]
theorem ble_true {a b : Nat} (h : Nat.ble a b = true) : a ≤ b := Nat.le_of_ble_eq_true h
theorem xsz (A0 A1 A2 A3 A4 P1 P2 P3 P4 Q1 Q2 Q3 Q4 r1 r2 r3 : Nat) (h3 : 7 * Q4 ≤ r3) (h2 : 7 * Q3 + 7 * Q4 ≤ r2) (h1 : 7 * Q2 + 7 * Q3 + 7 * Q4 ≤ r1) (hq : Q1 + Q2 + Q3 + Q4 ≤ 1000000000000000) (hS : A0 ≤ 1000000000000000) (p1 : P1 ≤ Q1 * 7) (p2 : P2 ≤ Q2 * 7) (p3 : P3 ≤ Q3 * 7) (p4 : P4 ≤ Q4 * 7) (n1 : A1 ≤ A0 + P1) (n2 : A2 ≤ A1 + P2) (n3 : A3 ≤ A2 + P3) (n4 : A4 ≤ A3 + P4) :
    A1 ≤ 9223372036854775807 ∧ A2 ≤ 9223372036854775807 ∧ A3 ≤ 9223372036854775807 ∧ A4 ≤ 9223372036854775807 ∧ A4 ≤ A1 + r1 ∧ A4 ≤ A2 + r2 ∧ A4 ≤ A3 + r3 := by omega
theorem xE_sound (c0 : Nat) (q1 q2 q3 q4 S0 : Int) (r1 r2 r3 gst m : Nat) (lf : Nat → Nat → Nat → Nat → Nat → Bool) (h3 : 7 * q4.natAbs ≤ r3) (h2 : 7 * q3.natAbs + 7 * q4.natAbs ≤ r2) (h1 : 7 * q2.natAbs + 7 * q3.natAbs + 7 * q4.natAbs ≤ r1)
    (hq : q1.natAbs + q2.natAbs + q3.natAbs + q4.natAbs ≤ 1000000000000000) (hS : S0.natAbs ≤ 1000000000000000)
    (hx : xE c0 (cd q1) (cd q2) (cd q3) (cd q4) r1 r2 r3 gst m (cd S0) lf = true) (z1 z2 z3 z4 : Int) (b1 : z1.natAbs ≤ 7) (b2 : z2.natAbs ≤ 7) (b3 : z3.natAbs ≤ 7) (b4 : z4.natAbs ≤ 7) :
    (S0 + q1 * z1 + q2 * z2 + q3 * z3 + q4 * z4).natAbs ≤ gst ∨ 0 < (S0 + q1 * z1 + q2 * z2 + q3 * z3 + q4 * z4).natAbs % m ∨ lf (cd z1) (cd z2) (cd z3) (cd z4) (cd (S0 + q1 * z1 + q2 * z2 + q3 * z3 + q4 * z4)) = true := by
  obtain ⟨s1, s2, s3, s4, k1, k2, k3⟩ := xsz _ _ _ _ _ _ _ _ _ _ _ _ _ r1 r2 r3 h3 h2 h1 hq hS (nmul_le (Nat.le_refl q1.natAbs) b1) (nmul_le (Nat.le_refl q2.natAbs) b2) (nmul_le (Nat.le_refl q3.natAbs) b3) (nmul_le (Nat.le_refl q4.natAbs) b4) (nadd_le S0 (q1 * z1)) (nadd_le (S0 + q1 * z1) (q2 * z2)) (nadd_le (S0 + q1 * z1 + q2 * z2) (q3 * z3)) (nadd_le (S0 + q1 * z1 + q2 * z2 + q3 * z3) (q4 * z4))
  obtain ⟨l1, c1⟩ := zz7 z1 b1
  obtain ⟨l2, c2⟩ := zz7 z2 b2
  obtain ⟨l3, c3⟩ := zz7 z3 b3
  obtain ⟨l4, c4⟩ := zz7 z4 b4
  unfold xE at hx
  have t1 := crL_at _ _ hx _ l1
  simp only [c1, nP_cd, nA_cd] at t1
  rw [nB_cd _ s1, Bool.or_eq_true] at t1
  rcases t1 with t1 | t1
  · exact Or.inl (Nat.le_trans k1 (ble_true t1))
  have t2 := crL_at _ _ t1 _ l2
  simp only [c2, nP_cd, nA_cd] at t2
  rw [nB_cd _ s2, Bool.or_eq_true] at t2
  rcases t2 with t2 | t2
  · exact Or.inl (Nat.le_trans k2 (ble_true t2))
  have t3 := crL_at _ _ t2 _ l3
  simp only [c3, nP_cd, nA_cd] at t3
  rw [nB_cd _ s3, Bool.or_eq_true] at t3
  rcases t3 with t3 | t3
  · exact Or.inl (Nat.le_trans k3 (ble_true t3))
  have t4 := crL_at _ _ t3 _ l4
  simp only [c4, nP_cd, nA_cd] at t4
  rw [nB_cd _ s4, Bool.or_eq_true, Bool.or_eq_true] at t4
  rcases t4 with t4 | t4 | t4
  · exact Or.inl (ble_true t4)
  · exact Or.inr (Or.inl (ble_true t4))
  · exact Or.inr (Or.inr t4)
theorem eI1_cd (a b c d e u v w x y : Int) : eI1 (cd a) (cd b) (cd c) (cd d) (cd e) (cd u) (cd v) (cd w) (cd x) (cd y) = cd (12 * (a * y + u * e) - 3 * (b * x + v * d) + 2 * (c * w)) := by
  unfold eI1
  rw [show (12 : Nat) = cd 12 from by decide, show (3 : Nat) = cd 3 from by decide, show (2 : Nat) = cd 2 from by decide]
  simp only [nP_cd, nS_cd, nA_cd]
theorem eJ5_cd (X Z : Nat → Int) : eJ5 (cd (X 0)) (cd (X 1)) (cd (X 2)) (cd (X 3)) (cd (X 4)) (cd (Z 0)) (cd (Z 1)) (cd (Z 2)) (cd (Z 3)) (cd (Z 4)) = cd (qJ1 X Z) := by
  unfold eJ5
  rw [eJ0_cd, eJ1_cd, eJ2_cd, eJ3_cd, eJ4_cd]
  simp only [nP_cd, nS_cd, nA_cd]
  rfl
theorem eG2_cd (i j i1 i2 j1 j2 : Int) : eG2 (cd i) (cd j) (cd i1) (cd i2) (cd j1) (cd j2) = cd (12 * (i * (i * i2)) + 12 * (i * (i1 * i1)) - 2 * (j * j2) - j1 * j1) := by
  unfold eG2
  rw [show (12 : Nat) = cd 12 from by decide, show (2 : Nat) = cd 2 from by decide]
  simp only [nP_cd, nS_cd, nA_cd]
theorem g2c_cd (X Z : Nat → Int) : g2c (cd (X 0)) (cd (X 1)) (cd (X 2)) (cd (X 3)) (cd (X 4)) (cd (Z 0)) (cd (Z 1)) (cd (Z 2)) (cd (Z 3)) (cd (Z 4)) = cd (qG X Z 2) := by
  unfold g2c
  rw [eI_cd, eJ_cd, eI1_cd, eI_cd, eJ5_cd, eJ5_cd, eG2_cd]
  rfl
