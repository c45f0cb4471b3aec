/-! type A: the assembly -/
theorem fle (c f S : Int) (F : Nat) (h : c * f = S) (hc : c ≠ 0) (hS : S.natAbs ≤ F) : f.natAbs ≤ F := by
  refine Nat.le_trans ?_ hS
  rw [← h, Int.natAbs_mul]
  exact Nat.le_mul_of_pos_left _ (Int.natAbs_pos.mpr hc)
theorem fle2 (k f S : Int) (F : Nat) (h : k * f = S) (hk : k ≠ 0) (hS : S.natAbs ≤ F) : f.natAbs ≤ F := fle k f S F h hk hS
theorem dgA (c e x s S H : Int) (F T : Nat) (h : c * (2 * e * x + s + 18446744073709551616 * H) = S) (hc : c ≠ 0) (hS : S.natAbs ≤ F) (hs : s.natAbs ≤ T) (hd : (2 * e * x).natAbs ≤ 2 ^ 63) (hT : F + T < 2 ^ 63) : H = 0 := (dig_true e x _ s H F T rfl (fle c _ S F h hc hS) hs hd hT).1
theorem bnA (c s S H : Int) (F T : Nat) (h : c * (s + 18446744073709551616 * H) = S) (hc : c ≠ 0) (hS : S.natAbs ≤ F) (hs : s.natAbs ≤ T) (hT : F + T < 18446744073709551616) : H = 0 := num_true _ s H F T rfl (fle c _ S F h hc hS) hs hT
theorem zH (c s S H : Int) (h : c * (s + 18446744073709551616 * H) = S) (hs : c * s = S) (hc : c ≠ 0) : H = 0 := by
  have : c * (18446744073709551616 * H) = 0 := by
    rw [Int.mul_add, hs] at h
    omega
  rcases Int.mul_eq_zero.mp this with r | r
  · exact absurd r hc
  · omega
theorem k2w : (2 : Int).natAbs ≤ 2 := by decide
/-- the first digits of type A, one by one -/
theorem digs1 (c e1 g1 e2 m h1 et om D p1 p2 H411 H330 H321 H312 : Int) (hc : c ≠ 0) (he : e1 ≠ 0) (het : et ≠ 0) (be : et.natAbs ≤ 70) (bo : om.natAbs ≤ 70) (bD : D.natAbs ≤ 429779) (bp : p1.natAbs ≤ 1719116) (bq : p2.natAbs ≤ 1719116)
    (k1 : c * (e1 * e1) = et * et * D) (k2 : c * (2 * e1 * g1 + 18446744073709551616 * H411) = 2 * et * om * D) (d2 : (2 * e1 * g1).natAbs ≤ 2 ^ 63)
    (k3 : c * (2 * e1 * e2 + 18446744073709551616 * H330) = et * et * p1) (d3 : (2 * e1 * e2).natAbs ≤ 2 ^ 63)
    (k4 : c * (2 * e1 * m + 2 * g1 * e2 + 18446744073709551616 * H321) = et * et * p2 + 2 * et * om * p1) (d4 : (2 * e1 * m).natAbs ≤ 2 ^ 63)
    (k5 : c * (2 * e1 * h1 + 2 * g1 * m + 18446744073709551616 * H312) = 2 * et * om * p2 + om * om * p1) (d5 : (2 * e1 * h1).natAbs ≤ 2 ^ 63) :
    H411 = 0 ∧ H330 = 0 ∧ H321 = 0 ∧ H312 = 0 := by
  have z1 : H411 = 0 := by
    have := dgA c e1 g1 0 _ H411 4212000000 0 (by rw [Int.add_zero]; exact k2) hc (Nat.le_trans (nmul_le (nmul_le (nmul_le k2w be) bo) bD) (by decide)) (by decide) d2 (by decide +kernel)
    exact this
  have z2 : H330 = 0 := dgA c e1 e2 0 _ H330 9000000000 0 (by rw [Int.add_zero]; exact k3) hc (Nat.le_trans (nmul_le (nmul_le be be) bp) (by decide)) (by decide) d3 (by decide +kernel)
  rw [z1, Int.mul_zero, Int.add_zero] at k2
  rw [z2, Int.mul_zero, Int.add_zero] at k3
  have hg : e1 * om = et * g1 := by
    apply cnl (k := 2 * c * e1) (Int.mul_ne_zero (Int.mul_ne_zero (by decide) hc) he)
    rw [ra1 c e1 g1 om, ra2, k1, k2]
    exact rb1 _ _ _
  have q2 : 2 * c * e1 * e2 = et * (et * p1) := by rw [ra3, k3]; exact rb3 _ _
  have G2 := g_of (X := 2) het hg q2
  have s2 : (2 * g1 * e2).natAbs ≤ 9000000000 := fle c _ _ _ (show c * (2 * g1 * e2) = om * (et * p1) by rw [← G2]; clear k1 k2 k3 k4 k5 G2 q2 hg; grind) hc (Nat.le_trans (nmul_le bo (nmul_le be bp)) (by decide))
  have z3 : H321 = 0 := dgA c e1 m (2 * g1 * e2) _ H321 90000000000 _ k4 hc (Nat.le_trans (na_le (nmul_le (nmul_le be be) bq) (nmul_le (nmul_le (nmul_le k2w be) bo) bp)) (by decide)) s2 d4 (by decide +kernel)
  rw [z3, Int.mul_zero, Int.add_zero] at k4
  have qm : 2 * c * e1 * m = et * (et * p2 + om * p1) := by rw [ra4 c e1 g1 m e2, k4, G2]; exact rb4 _ _ _ _
  have Gm := g_of (X := 2) het hg qm
  have s3 : (2 * g1 * m).natAbs ≤ 90000000000 := fle c _ _ _ (show c * (2 * g1 * m) = om * (et * p2 + om * p1) by rw [← Gm]; clear k1 k2 k3 k4 k5 G2 q2 hg Gm qm; grind) hc (Nat.le_trans (nmul_le bo (na_le (nmul_le be bq) (nmul_le bo bp))) (by decide))
  have z4 : H312 = 0 := dgA c e1 h1 (2 * g1 * m) _ H312 90000000000 _ k5 hc (Nat.le_trans (na_le (nmul_le (nmul_le (nmul_le k2w be) bo) bq) (nmul_le (nmul_le bo bo) bp)) (by decide)) s3 d5 (by decide +kernel)
  exact ⟨z1, z2, z3, z4⟩
