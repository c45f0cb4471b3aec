/-! type A: the sixth jet is true -/
theorem hsz (P h d : Nat) (hd : 1 ≤ d) (h1 : P * h ≤ 96270496 * (d * d)) (h2 : h ≤ 20629392 * d + 2 * (P * P)) : h * h ≤ 9300000000000000 * (d * d * d) := by
  rcases Nat.lt_or_ge (P * P) d with r | r
  · have a1 : h ≤ 20629394 * d := by omega
    have a2 := Nat.mul_le_mul a1 a1
    have a3 : 20629394 * d * (20629394 * d) = 425571896807236 * (d * d) := by grind
    have a4 : d * d * 1 ≤ d * d * d := Nat.mul_le_mul (Nat.le_refl _) hd
    omega
  · have a1 := Nat.mul_le_mul h1 h1
    have a2 : P * h * (P * h) = P * P * (h * h) := by grind
    have a3 : 96270496 * (d * d) * (96270496 * (d * d)) = d * (9268008400086016 * (d * d * d)) := by grind
    rw [a2, a3] at a1
    have a4 : d * (h * h) ≤ d * (9268008400086016 * (d * d * d)) := Nat.le_trans (Nat.mul_le_mul r (Nat.le_refl _)) a1
    have a5 := Nat.le_of_mul_le_mul_left a4 hd
    omega
/-- dividing by the larger number of a linear form -/
theorem hdiv (D p q H0 H1 H2 s0 s1 s2 : Int) (hq : q.natAbs ≤ p.natAbs) (z0 : 8 * (D * D) * s0 - p * H0 = 0) (z1 : 8 * (D * D) * s1 - (p * H1 + q * H0) = 0) (z2 : 8 * (D * D) * s2 - (p * H2 + q * H1) = 0) (b0 : s0.natAbs ≤ 1719116) (b1 : s1.natAbs ≤ 5157348) (b2 : s2.natAbs ≤ 5157348) :
    p.natAbs * H0.natAbs ≤ 96270496 * (D.natAbs * D.natAbs) ∧ p.natAbs * H1.natAbs ≤ 96270496 * (D.natAbs * D.natAbs) ∧ p.natAbs * H2.natAbs ≤ 96270496 * (D.natAbs * D.natAbs) := by
  have e0 : (p * H0).natAbs ≤ 8 * (D.natAbs * D.natAbs) * 1719116 := by
    have : p * H0 = 8 * (D * D) * s0 := by omega
    rw [this]
    exact nmul_le (nmul_le (show (8 : Int).natAbs ≤ 8 by decide) (nmul_le (Nat.le_refl _) (Nat.le_refl _))) b0
  have e1 : (p * H1).natAbs ≤ 8 * (D.natAbs * D.natAbs) * 5157348 + q.natAbs * H0.natAbs := by
    have : p * H1 = 8 * (D * D) * s1 - q * H0 := by omega
    rw [this]
    exact ns_le (nmul_le (nmul_le (show (8 : Int).natAbs ≤ 8 by decide) (nmul_le (Nat.le_refl _) (Nat.le_refl _))) b1) (nmul_le (Nat.le_refl _) (Nat.le_refl _))
  have e2 : (p * H2).natAbs ≤ 8 * (D.natAbs * D.natAbs) * 5157348 + q.natAbs * H1.natAbs := by
    have : p * H2 = 8 * (D * D) * s2 - q * H1 := by omega
    rw [this]
    exact ns_le (nmul_le (nmul_le (show (8 : Int).natAbs ≤ 8 by decide) (nmul_le (Nat.le_refl _) (Nat.le_refl _))) b2) (nmul_le (Nat.le_refl _) (Nat.le_refl _))
  rw [Int.natAbs_mul] at e0 e1 e2
  have f0 : q.natAbs * H0.natAbs ≤ p.natAbs * H0.natAbs := Nat.mul_le_mul hq (Nat.le_refl _)
  have f1 : q.natAbs * H1.natAbs ≤ p.natAbs * H1.natAbs := Nat.mul_le_mul hq (Nat.le_refl _)
  clear z0 z1 z2 b0 b1 b2 hq
  generalize p.natAbs * H0.natAbs = x0 at *
  generalize p.natAbs * H1.natAbs = x1 at *
  generalize p.natAbs * H2.natAbs = x2 at *
  generalize q.natAbs * H0.natAbs = y0 at *
  generalize q.natAbs * H1.natAbs = y1 at *
  generalize D.natAbs * D.natAbs = d at *
  omega
/-- the form h is small -/
theorem hbA (D p1 p2 r0 r1 r2 s0 s1 s2 s3 : Int) (hD : D ≠ 0) (z0 : 8 * (D * D) * s0 - p1 * (4 * D * r0 - p1 * p1) = 0) (z1 : 8 * (D * D) * s1 - (p1 * (4 * D * r1 - 2 * p1 * p2) + p2 * (4 * D * r0 - p1 * p1)) = 0) (z2 : 8 * (D * D) * s2 - (p1 * (4 * D * r2 - p2 * p2) + p2 * (4 * D * r1 - 2 * p1 * p2)) = 0) (z3 : 8 * (D * D) * s3 - p2 * (4 * D * r2 - p2 * p2) = 0)
    (b0 : s0.natAbs ≤ 1719116) (b1 : s1.natAbs ≤ 5157348) (b2 : s2.natAbs ≤ 5157348) (b3 : s3.natAbs ≤ 1719116) (c0 : r0.natAbs ≤ 5157348) (c1 : r1.natAbs ≤ 5157348) (c2 : r2.natAbs ≤ 5157348) :
    (4 * D * r0 - p1 * p1).natAbs * (4 * D * r0 - p1 * p1).natAbs ≤ 9300000000000000 * (D.natAbs * D.natAbs * D.natAbs) ∧ (4 * D * r1 - 2 * p1 * p2).natAbs * (4 * D * r1 - 2 * p1 * p2).natAbs ≤ 9300000000000000 * (D.natAbs * D.natAbs * D.natAbs) ∧ (4 * D * r2 - p2 * p2).natAbs * (4 * D * r2 - p2 * p2).natAbs ≤ 9300000000000000 * (D.natAbs * D.natAbs * D.natAbs) := by
  have hd : 1 ≤ D.natAbs := Int.natAbs_pos.mpr hD
  have d4 : ∀ r : Int, r.natAbs ≤ 5157348 → (4 * D * r).natAbs ≤ 20629392 * D.natAbs := by
    intro r h
    have := nmul_le (nmul_le k4 (Nat.le_refl D.natAbs)) h
    omega
  have main : ∀ P : Nat, p1.natAbs ≤ P → p2.natAbs ≤ P → ∀ h : Int, P * h.natAbs ≤ 96270496 * (D.natAbs * D.natAbs) → h.natAbs ≤ 20629392 * D.natAbs + 2 * (P * P) → h.natAbs * h.natAbs ≤ 9300000000000000 * (D.natAbs * D.natAbs * D.natAbs) := fun P _ _ h a b => hsz P h.natAbs D.natAbs hd a b
  have up : ∀ P : Nat, p1.natAbs ≤ P → p2.natAbs ≤ P → (4 * D * r0 - p1 * p1).natAbs ≤ 20629392 * D.natAbs + 2 * (P * P) ∧ (4 * D * r1 - 2 * p1 * p2).natAbs ≤ 20629392 * D.natAbs + 2 * (P * P) ∧ (4 * D * r2 - p2 * p2).natAbs ≤ 20629392 * D.natAbs + 2 * (P * P) := by
    intro P h1 h2
    refine ⟨?_, ?_, ?_⟩
    · refine Nat.le_trans (ns_le (d4 r0 c0) (nmul_le h1 h1)) ?_
      omega
    · refine Nat.le_trans (ns_le (d4 r1 c1) (nmul_le (nmul_le k2 h1) h2)) ?_
      have : 2 * P * P = 2 * (P * P) := Nat.mul_assoc _ _ _
      omega
    · refine Nat.le_trans (ns_le (d4 r2 c2) (nmul_le h2 h2)) ?_
      omega
  rcases Nat.le_total p2.natAbs p1.natAbs with r | r
  · obtain ⟨x0, x1, x2⟩ := hdiv D p1 p2 _ _ _ s0 s1 s2 r z0 z1 z2 b0 b1 b2
    obtain ⟨u0, u1, u2⟩ := up p1.natAbs (Nat.le_refl _) r
    exact ⟨main _ (Nat.le_refl _) r _ x0 u0, main _ (Nat.le_refl _) r _ x1 u1, main _ (Nat.le_refl _) r _ x2 u2⟩
  · obtain ⟨x2, x1, x0⟩ := hdiv D p2 p1 _ _ _ s3 s2 s1 r z3 (by rw [Int.add_comm]; exact z2) (by rw [Int.add_comm]; exact z1) b3 b2 b1
    obtain ⟨u0, u1, u2⟩ := up p2.natAbs r (Nat.le_refl _)
    exact ⟨main _ r (Nat.le_refl _) _ x0 u0, main _ r (Nat.le_refl _) _ x1 u1, main _ r (Nat.le_refl _) _ x2 u2⟩
