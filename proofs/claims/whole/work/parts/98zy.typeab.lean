/-! type A with the roots +-2, +-1/2: smaller cubics, larger values -/
theorem hszb (P h d : Nat) (hd : 1 ≤ d) (h1 : P * h ≤ 29042496 * (d * d)) (h2 : h ≤ 6223392 * d + 2 * (P * P)) : h * h ≤ 900000000000000 * (d * d * d) := by
  rcases Nat.lt_or_ge (P * P) d with r | r
  · have a1 : h ≤ 6223394 * d := by omega
    have a2 := Nat.mul_le_mul a1 a1
    have a3 : 6223394 * d * (6223394 * d) = 38730632879236 * (d * d) := by grind
    have a4 : d * d * 1 ≤ d * d * d := Nat.mul_le_mul (Nat.le_refl _) hd
    omega
  · have a1 := Nat.mul_le_mul h1 h1
    have a2 : P * h * (P * h) = P * P * (h * h) := by grind
    have a3 : 29042496 * (d * d) * (29042496 * (d * d)) = d * (843466573910016 * (d * d * d)) := by grind
    rw [a2, a3] at a1
    have a4 : d * (h * h) ≤ d * (843466573910016 * (d * d * d)) := Nat.le_trans (Nat.mul_le_mul r (Nat.le_refl _)) a1
    have a5 := Nat.le_of_mul_le_mul_left a4 hd
    omega
theorem hdivb (D p q H0 H1 H2 s0 s1 s2 : Int) (hq : q.natAbs ≤ p.natAbs) (z0 : 8 * (D * D) * s0 - p * H0 = 0) (z1 : 8 * (D * D) * s1 - (p * H1 + q * H0) = 0) (z2 : 8 * (D * D) * s2 - (p * H2 + q * H1) = 0) (b0 : s0.natAbs ≤ 518616) (b1 : s1.natAbs ≤ 1555848) (b2 : s2.natAbs ≤ 1555848) :
    p.natAbs * H0.natAbs ≤ 29042496 * (D.natAbs * D.natAbs) ∧ p.natAbs * H1.natAbs ≤ 29042496 * (D.natAbs * D.natAbs) ∧ p.natAbs * H2.natAbs ≤ 29042496 * (D.natAbs * D.natAbs) := by
  have e0 : (p * H0).natAbs ≤ 8 * (D.natAbs * D.natAbs) * 518616 := by
    have : p * H0 = 8 * (D * D) * s0 := by omega
    rw [this]
    exact nmul_le (nmul_le (show (8 : Int).natAbs ≤ 8 by decide) (nmul_le (Nat.le_refl _) (Nat.le_refl _))) b0
  have e1 : (p * H1).natAbs ≤ 8 * (D.natAbs * D.natAbs) * 1555848 + q.natAbs * H0.natAbs := by
    have : p * H1 = 8 * (D * D) * s1 - q * H0 := by omega
    rw [this]
    exact ns_le (nmul_le (nmul_le (show (8 : Int).natAbs ≤ 8 by decide) (nmul_le (Nat.le_refl _) (Nat.le_refl _))) b1) (nmul_le (Nat.le_refl _) (Nat.le_refl _))
  have e2 : (p * H2).natAbs ≤ 8 * (D.natAbs * D.natAbs) * 1555848 + q.natAbs * H1.natAbs := by
    have : p * H2 = 8 * (D * D) * s2 - q * H1 := by omega
    rw [this]
    exact ns_le (nmul_le (nmul_le (show (8 : Int).natAbs ≤ 8 by decide) (nmul_le (Nat.le_refl _) (Nat.le_refl _))) b2) (nmul_le (Nat.le_refl _) (Nat.le_refl _))
  rw [Int.natAbs_mul] at e0 e1 e2
  have f0 : q.natAbs * H0.natAbs ≤ p.natAbs * H0.natAbs := Nat.mul_le_mul hq (Nat.le_refl _)
  have f1 : q.natAbs * H1.natAbs ≤ p.natAbs * H1.natAbs := Nat.mul_le_mul hq (Nat.le_refl _)
  clear z0 z1 z2 b0 b1 b2 hq
  generalize p.natAbs * H0.natAbs = x0 at *
  generalize p.natAbs * H1.natAbs = x1 at *
  generalize p.natAbs * H2.natAbs = x2 at *
  generalize q.natAbs * H0.natAbs = y0 at *
  generalize q.natAbs * H1.natAbs = y1 at *
  generalize D.natAbs * D.natAbs = d at *
  omega
theorem hbAb (D p1 p2 r0 r1 r2 s0 s1 s2 s3 : Int) (hD : D ≠ 0) (z0 : 8 * (D * D) * s0 - p1 * (4 * D * r0 - p1 * p1) = 0) (z1 : 8 * (D * D) * s1 - (p1 * (4 * D * r1 - 2 * p1 * p2) + p2 * (4 * D * r0 - p1 * p1)) = 0) (z2 : 8 * (D * D) * s2 - (p1 * (4 * D * r2 - p2 * p2) + p2 * (4 * D * r1 - 2 * p1 * p2)) = 0) (z3 : 8 * (D * D) * s3 - p2 * (4 * D * r2 - p2 * p2) = 0)
    (b0 : s0.natAbs ≤ 518616) (b1 : s1.natAbs ≤ 1555848) (b2 : s2.natAbs ≤ 1555848) (b3 : s3.natAbs ≤ 518616) (c0 : r0.natAbs ≤ 1555848) (c1 : r1.natAbs ≤ 1555848) (c2 : r2.natAbs ≤ 1555848) :
    (4 * D * r0 - p1 * p1).natAbs * (4 * D * r0 - p1 * p1).natAbs ≤ 900000000000000 * (D.natAbs * D.natAbs * D.natAbs) ∧ (4 * D * r1 - 2 * p1 * p2).natAbs * (4 * D * r1 - 2 * p1 * p2).natAbs ≤ 900000000000000 * (D.natAbs * D.natAbs * D.natAbs) ∧ (4 * D * r2 - p2 * p2).natAbs * (4 * D * r2 - p2 * p2).natAbs ≤ 900000000000000 * (D.natAbs * D.natAbs * D.natAbs) := by
  have hd : 1 ≤ D.natAbs := Int.natAbs_pos.mpr hD
  have d4 : ∀ r : Int, r.natAbs ≤ 1555848 → (4 * D * r).natAbs ≤ 6223392 * D.natAbs := by
    intro r h
    have := nmul_le (nmul_le k4 (Nat.le_refl D.natAbs)) h
    omega
  have main : ∀ P : Nat, p1.natAbs ≤ P → p2.natAbs ≤ P → ∀ h : Int, P * h.natAbs ≤ 29042496 * (D.natAbs * D.natAbs) → h.natAbs ≤ 6223392 * D.natAbs + 2 * (P * P) → h.natAbs * h.natAbs ≤ 900000000000000 * (D.natAbs * D.natAbs * D.natAbs) := fun P _ _ h a b => hszb P h.natAbs D.natAbs hd a b
  have up : ∀ P : Nat, p1.natAbs ≤ P → p2.natAbs ≤ P → (4 * D * r0 - p1 * p1).natAbs ≤ 6223392 * D.natAbs + 2 * (P * P) ∧ (4 * D * r1 - 2 * p1 * p2).natAbs ≤ 6223392 * D.natAbs + 2 * (P * P) ∧ (4 * D * r2 - p2 * p2).natAbs ≤ 6223392 * D.natAbs + 2 * (P * P) := by
    intro P h1 h2
    refine ⟨?_, ?_, ?_⟩
    · refine Nat.le_trans (ns_le (d4 r0 c0) (nmul_le h1 h1)) ?_
      omega
    · refine Nat.le_trans (ns_le (d4 r1 c1) (nmul_le (nmul_le k2 h1) h2)) ?_
      have : 2 * P * P = 2 * (P * P) := Nat.mul_assoc _ _ _
      omega
    · refine Nat.le_trans (ns_le (d4 r2 c2) (nmul_le h2 h2)) ?_
      omega
  rcases Nat.le_total p2.natAbs p1.natAbs with r | r
  · obtain ⟨x0, x1, x2⟩ := hdivb D p1 p2 _ _ _ s0 s1 s2 r z0 z1 z2 b0 b1 b2
    obtain ⟨u0, u1, u2⟩ := up p1.natAbs (Nat.le_refl _) r
    exact ⟨main _ (Nat.le_refl _) r _ x0 u0, main _ (Nat.le_refl _) r _ x1 u1, main _ (Nat.le_refl _) r _ x2 u2⟩
  · obtain ⟨x2, x1, x0⟩ := hdivb D p2 p1 _ _ _ s3 s2 s1 r z3 (by rw [Int.add_comm]; exact z2) (by rw [Int.add_comm]; exact z1) b3 b2 b1
    obtain ⟨u0, u1, u2⟩ := up p2.natAbs r (Nat.le_refl _)
    exact ⟨main _ r (Nat.le_refl _) _ x0 u0, main _ r (Nat.le_refl _) _ x1 u1, main _ r (Nat.le_refl _) _ x2 u2⟩
theorem digs1b (c e1 g1 e2 m h1 et om D p1 p2 H411 H330 H321 H312 : Int) (hc : c ≠ 0) (he : e1 ≠ 0) (het : et ≠ 0) (be : et.natAbs ≤ 100) (bo : om.natAbs ≤ 100) (bD : D.natAbs ≤ 129654) (bp : p1.natAbs ≤ 518616) (bq : p2.natAbs ≤ 518616)
    (k1 : c * (e1 * e1) = et * et * D) (k2 : c * (2 * e1 * g1 + 18446744073709551616 * H411) = 2 * et * om * D) (d2 : (2 * e1 * g1).natAbs ≤ 2 ^ 63)
    (k3 : c * (2 * e1 * e2 + 18446744073709551616 * H330) = et * et * p1) (d3 : (2 * e1 * e2).natAbs ≤ 2 ^ 63)
    (k4 : c * (2 * e1 * m + 2 * g1 * e2 + 18446744073709551616 * H321) = et * et * p2 + 2 * et * om * p1) (d4 : (2 * e1 * m).natAbs ≤ 2 ^ 63)
    (k5 : c * (2 * e1 * h1 + 2 * g1 * m + 18446744073709551616 * H312) = 2 * et * om * p2 + om * om * p1) (d5 : (2 * e1 * h1).natAbs ≤ 2 ^ 63) :
    H411 = 0 ∧ H330 = 0 ∧ H321 = 0 ∧ H312 = 0 := by
  have z1 : H411 = 0 := by
    have := dgA c e1 g1 0 _ H411 4212000000 0 (by rw [Int.add_zero]; exact k2) hc (Nat.le_trans (nmul_le (nmul_le (nmul_le k2w be) bo) bD) (by decide)) (by decide) d2 (by decide +kernel)
    exact this
  have z2 : H330 = 0 := dgA c e1 e2 0 _ H330 9000000000 0 (by rw [Int.add_zero]; exact k3) hc (Nat.le_trans (nmul_le (nmul_le be be) bp) (by decide)) (by decide) d3 (by decide +kernel)
  rw [z1, Int.mul_zero, Int.add_zero] at k2
  rw [z2, Int.mul_zero, Int.add_zero] at k3
  have hg : e1 * om = et * g1 := by
    apply cnl (k := 2 * c * e1) (Int.mul_ne_zero (Int.mul_ne_zero (by decide) hc) he)
    rw [ra1 c e1 g1 om, ra2, k1, k2]
    exact rb1 _ _ _
  have q2 : 2 * c * e1 * e2 = et * (et * p1) := by rw [ra3, k3]; exact rb3 _ _
  have G2 := g_of (X := 2) het hg q2
  have s2 : (2 * g1 * e2).natAbs ≤ 9000000000 := fle c _ _ _ (show c * (2 * g1 * e2) = om * (et * p1) by rw [← G2]; clear k1 k2 k3 k4 k5 G2 q2 hg; grind) hc (Nat.le_trans (nmul_le bo (nmul_le be bp)) (by decide))
  have z3 : H321 = 0 := dgA c e1 m (2 * g1 * e2) _ H321 90000000000 _ k4 hc (Nat.le_trans (na_le (nmul_le (nmul_le be be) bq) (nmul_le (nmul_le (nmul_le k2w be) bo) bp)) (by decide)) s2 d4 (by decide +kernel)
  rw [z3, Int.mul_zero, Int.add_zero] at k4
  have qm : 2 * c * e1 * m = et * (et * p2 + om * p1) := by rw [ra4 c e1 g1 m e2, k4, G2]; exact rb4 _ _ _ _
  have Gm := g_of (X := 2) het hg qm
  have s3 : (2 * g1 * m).natAbs ≤ 90000000000 := fle c _ _ _ (show c * (2 * g1 * m) = om * (et * p2 + om * p1) by rw [← Gm]; clear k1 k2 k3 k4 k5 G2 q2 hg Gm qm; grind) hc (Nat.le_trans (nmul_le bo (na_le (nmul_le be bq) (nmul_le bo bp))) (by decide))
  have z4 : H312 = 0 := dgA c e1 h1 (2 * g1 * m) _ H312 90000000000 _ k5 hc (Nat.le_trans (na_le (nmul_le (nmul_le (nmul_le k2w be) bo) bq) (nmul_le (nmul_le bo bo) bp)) (by decide)) s3 d5 (by decide +kernel)
  exact ⟨z1, z2, z3, z4⟩
theorem hz0b (D r p : Int) (bD : D.natAbs ≤ 129654) (br : r.natAbs ≤ 1555848) (bp : p.natAbs ≤ 518616) : (4 * D * r - p * p).natAbs ≤ 15000000000000 := Nat.le_trans (ns_le (nmul_le (nmul_le k4 bD) br) (nmul_le bp bp)) (by decide)
theorem hz1b (D r p q : Int) (bD : D.natAbs ≤ 129654) (br : r.natAbs ≤ 1555848) (bp : p.natAbs ≤ 518616) (bq : q.natAbs ≤ 518616) : (4 * D * r - 2 * p * q).natAbs ≤ 15000000000000 := Nat.le_trans (ns_le (nmul_le (nmul_le k4 bD) br) (nmul_le (nmul_le k2w bp) bq)) (by decide)
theorem digs2b (c e1 g1 e2 m h1 e3 n1 n2 k0 et om D p1 p2 r0 r1 r2 H240 H231 H222 H213 : Int) (hc : c ≠ 0) (hD : D ≠ 0) (het : et ≠ 0) (be : et.natAbs ≤ 100) (bo : om.natAbs ≤ 100) (bD : D.natAbs ≤ 129654) (bp : p1.natAbs ≤ 518616) (bq : p2.natAbs ≤ 518616) (br0 : r0.natAbs ≤ 1555848) (br1 : r1.natAbs ≤ 1555848) (br2 : r2.natAbs ≤ 1555848)
    (k1 : c * (e1 * e1) = et * et * D) (hg : e1 * om = et * g1) (q2 : 2 * c * e1 * e2 = et * (et * p1)) (qm : 2 * c * e1 * m = et * (et * p2 + om * p1)) (qh : 2 * c * e1 * h1 = et * (om * p2))
    (k6 : c * (2 * e1 * e3 + e2 * e2 + 18446744073709551616 * H240) = et * et * r0) (d6 : (2 * e1 * e3).natAbs ≤ 2 ^ 63)
    (k7 : c * (2 * e1 * n1 + (2 * g1 * e3 + 2 * e2 * m) + 18446744073709551616 * H231) = et * et * r1 + 2 * et * om * r0) (d7 : (2 * e1 * n1).natAbs ≤ 2 ^ 63)
    (k8 : c * (2 * e1 * n2 + (2 * g1 * n1 + (m * m + 2 * e2 * h1)) + 18446744073709551616 * H222) = et * et * r2 + 2 * et * om * r1 + om * om * r0) (d8 : (2 * e1 * n2).natAbs ≤ 2 ^ 63)
    (k9 : c * (2 * e1 * k0 + (2 * g1 * n2 + 2 * m * h1) + 18446744073709551616 * H213) = 2 * et * om * r2 + om * om * r1) (d9 : (2 * e1 * k0).natAbs ≤ 2 ^ 63) :
    (H240 = 0 ∧ H231 = 0 ∧ H222 = 0 ∧ H213 = 0) ∧ 8 * D * c * e1 * e3 = et * (et * (4 * D * r0 - p1 * p1)) ∧ 8 * D * c * e1 * n1 = et * (et * (4 * D * r1 - 2 * p1 * p2) + om * (4 * D * r0 - p1 * p1)) ∧ 8 * D * c * e1 * n2 = et * (et * (4 * D * r2 - p2 * p2) + om * (4 * D * r1 - 2 * p1 * p2)) ∧ 8 * D * c * e1 * k0 = et * (om * (4 * D * r2 - p2 * p2)) := by
  have bh0 := hz0b D r0 p1 bD br0 bp
  have bh1 := hz1b D r1 p1 p2 bD br1 bp bq
  have bh2 := hz0b D r2 p2 bD br2 bq
  have n4 : 4 * c * D ≠ 0 := Int.mul_ne_zero (Int.mul_ne_zero (by decide) hc) hD
  have n2' : 2 * c * D ≠ 0 := Int.mul_ne_zero (Int.mul_ne_zero (by decide) hc) hD
  have n4' : 4 * D * c ≠ 0 := Int.mul_ne_zero (Int.mul_ne_zero (by decide) hD) hc
  have s22 := pr_ee het k1 q2 q2
  have s2m := pr_ee het k1 q2 qm
  have smm := pr_ee het k1 qm qm
  have s2h := pr_ee het k1 q2 qh
  have smh := pr_ee het k1 qm qh
  have A0 : (et * p1).natAbs ≤ 100 * 518616 := nmul_le be bp
  have A1 : (et * p2 + om * p1).natAbs ≤ 100 * 518616 + 100 * 518616 := na_le (nmul_le be bq) (nmul_le bo bp)
  have A2 : (om * p2).natAbs ≤ 100 * 518616 := nmul_le bo bq
  have w22 : (e2 * e2).natAbs ≤ 60000000000000000 := fle (4 * c * D) _ _ _ s22 n4 (Nat.le_trans (nmul_le A0 A0) (by decide))
  have w2m : (2 * e2 * m).natAbs ≤ 60000000000000000 := fle (2 * c * D) _ _ _ ((rd1 c D e2 m).symm.trans s2m) n2' (Nat.le_trans (nmul_le A0 A1) (by decide))
  have wmm : (m * m).natAbs ≤ 60000000000000000 := fle (4 * c * D) _ _ _ smm n4 (Nat.le_trans (nmul_le A1 A1) (by decide))
  have w2h : (2 * e2 * h1).natAbs ≤ 60000000000000000 := fle (2 * c * D) _ _ _ ((rd1 c D e2 h1).symm.trans s2h) n2' (Nat.le_trans (nmul_le A0 A2) (by decide))
  have wmh : (2 * m * h1).natAbs ≤ 60000000000000000 := fle (2 * c * D) _ _ _ ((rd1 c D m h1).symm.trans smh) n2' (Nat.le_trans (nmul_le A1 A2) (by decide))
  have z0 : H240 = 0 := dgA c e1 e3 (e2 * e2) _ H240 100000000000 _ k6 hc (Nat.le_trans (nmul_le (nmul_le be be) br0) (by decide)) w22 d6 (by decide +kernel)
  rw [z0, Int.mul_zero, Int.add_zero] at k6
  have t3 : 8 * D * c * e1 * e3 = et * (et * (4 * D * r0 - p1 * p1)) := by rw [ra5 D c e1 e3 e2, k6, s22]; exact rb6 _ _ _ _
  have G3 := g_of (X := 8 * D) het hg t3
  have wg3 : (2 * g1 * e3).natAbs ≤ 160000000000000000 := fle (4 * D * c) _ _ _ ((rd2 D c g1 e3).symm.trans G3) n4' (Nat.le_trans (nmul_le bo (nmul_le be bh0)) (by decide))
  have z1 : H231 = 0 := dgA c e1 n1 (2 * g1 * e3 + 2 * e2 * m) _ H231 100000000000 _ k7 hc (Nat.le_trans (na_le (nmul_le (nmul_le be be) br1) (nmul_le (nmul_le (nmul_le k2w be) bo) br0)) (by decide)) (na_le wg3 w2m) d7 (by decide +kernel)
  rw [z1, Int.mul_zero, Int.add_zero] at k7
  have t1 : 8 * D * c * e1 * n1 = et * (et * (4 * D * r1 - 2 * p1 * p2) + om * (4 * D * r0 - p1 * p1)) := by rw [ra6 D c e1 g1 n1 e3 e2 m, k7, s2m, G3]; exact rb7 _ _ _ _ _ _ _
  have G1 := g_of (X := 8 * D) het hg t1
  have wg1 : (2 * g1 * n1).natAbs ≤ 400000000000000000 := fle (4 * D * c) _ _ _ ((rd2 D c g1 n1).symm.trans G1) n4' (Nat.le_trans (nmul_le bo (na_le (nmul_le be bh1) (nmul_le bo bh0))) (by decide))
  have z2 : H222 = 0 := dgA c e1 n2 (2 * g1 * n1 + (m * m + 2 * e2 * h1)) _ H222 200000000000 _ k8 hc (Nat.le_trans (na_le (na_le (nmul_le (nmul_le be be) br2) (nmul_le (nmul_le (nmul_le k2w be) bo) br1)) (nmul_le (nmul_le bo bo) br0)) (by decide)) (na_le wg1 (na_le wmm w2h)) d8 (by decide +kernel)
  rw [z2, Int.mul_zero, Int.add_zero] at k8
  have t2 : 8 * D * c * e1 * n2 = et * (et * (4 * D * r2 - p2 * p2) + om * (4 * D * r1 - 2 * p1 * p2)) := by rw [ra7 D c e1 g1 n2 n1 m e2 h1, k8, smm, s2h, G1]; exact rb8 _ _ _ _ _ _ _ _
  have G2' := g_of (X := 8 * D) het hg t2
  have wg2 : (2 * g1 * n2).natAbs ≤ 400000000000000000 := fle (4 * D * c) _ _ _ ((rd2 D c g1 n2).symm.trans G2') n4' (Nat.le_trans (nmul_le bo (na_le (nmul_le be bh2) (nmul_le bo bh1))) (by decide))
  have z3 : H213 = 0 := dgA c e1 k0 (2 * g1 * n2 + 2 * m * h1) _ H213 100000000000 _ k9 hc (Nat.le_trans (na_le (nmul_le (nmul_le (nmul_le k2w be) bo) br2) (nmul_le (nmul_le bo bo) br1)) (by decide)) (na_le wg2 wmh) d9 (by decide +kernel)
  rw [z3, Int.mul_zero, Int.add_zero] at k9
  have t0 : 8 * D * c * e1 * k0 = et * (om * (4 * D * r2 - p2 * p2)) := by rw [ra6 D c e1 g1 k0 n2 m h1, k9, smh, G2']; exact rb9 _ _ _ _ _ _ _
  exact ⟨⟨z0, z1, z2, z3⟩, t3, t1, t2, t0⟩
theorem pz6b (D c u v x y : Int) (hD : D ≠ 0) (hc : c ≠ 0) (h : 64 * (D * D * D) * c * (u * v) = x * y) (hx : x.natAbs * x.natAbs ≤ 36000000000000000000 * (D.natAbs * D.natAbs * D.natAbs)) (hy : y.natAbs * y.natAbs ≤ 36000000000000000000 * (D.natAbs * D.natAbs * D.natAbs)) : (u * v).natAbs ≤ 562500000000000000 := by
  have e : (64 * (D * D * D) * c * (u * v)).natAbs = x.natAbs * y.natAbs := by rw [h, Int.natAbs_mul]
  have xy : x.natAbs * y.natAbs ≤ 36000000000000000000 * (D.natAbs * D.natAbs * D.natAbs) := by
    rcases Nat.le_total x.natAbs y.natAbs with r | r
    · exact Nat.le_trans (Nat.mul_le_mul r (Nat.le_refl _)) hy
    · exact Nat.le_trans (Nat.mul_le_mul (Nat.le_refl _) r) hx
  rw [← e] at xy
  rw [Int.natAbs_mul, Int.natAbs_mul, Int.natAbs_mul, Int.natAbs_mul (D * D), Int.natAbs_mul D D] at xy
  have w : (64 : Int).natAbs = 64 := rfl
  rw [w] at xy
  have hc1 : 1 ≤ c.natAbs := Int.natAbs_pos.mpr hc
  have hd : 0 < D.natAbs * D.natAbs * D.natAbs := Nat.mul_pos (Nat.mul_pos (Int.natAbs_pos.mpr hD) (Int.natAbs_pos.mpr hD)) (Int.natAbs_pos.mpr hD)
  generalize D.natAbs * D.natAbs * D.natAbs = d at *
  generalize (u * v).natAbs = z at *
  generalize c.natAbs = k at *
  have a1 : 64 * d * 1 * z ≤ 64 * d * k * z := Nat.mul_le_mul (Nat.mul_le_mul (Nat.le_refl _) hc1) (Nat.le_refl _)
  have a2 : d * (64 * z) ≤ d * 36000000000000000000 := by
    have b1 : 64 * d * 1 * z = d * (64 * z) := by grind
    have b2 : d * 36000000000000000000 = 36000000000000000000 * d := Nat.mul_comm _ _
    omega
  have a3 := Nat.le_of_mul_le_mul_left a2 hd
  omega
theorem bs1b (et H : Int) (T : Nat) (he : et.natAbs ≤ 100) (h : H.natAbs * H.natAbs ≤ 900000000000000 * T) : (et * H).natAbs * (et * H).natAbs ≤ 36000000000000000000 * T := by
  rw [Int.natAbs_mul]
  have a := Nat.mul_le_mul (Nat.mul_le_mul he he) h
  have b : et.natAbs * H.natAbs * (et.natAbs * H.natAbs) = et.natAbs * et.natAbs * (H.natAbs * H.natAbs) := by grind
  rw [b]
  omega
theorem bs2b (et om H G : Int) (T : Nat) (he : et.natAbs ≤ 100) (ho : om.natAbs ≤ 100) (h : H.natAbs * H.natAbs ≤ 900000000000000 * T) (g : G.natAbs * G.natAbs ≤ 900000000000000 * T) : (et * H + om * G).natAbs * (et * H + om * G).natAbs ≤ 36000000000000000000 * T := by
  have n := nadd_le (et * H) (om * G)
  have a := Nat.mul_le_mul n n
  have s := sq2_le (et * H).natAbs (om * G).natAbs
  have b1 : (et * H).natAbs * (et * H).natAbs ≤ 10000 * (900000000000000 * T) := by
    rw [Int.natAbs_mul]
    have b : et.natAbs * H.natAbs * (et.natAbs * H.natAbs) = et.natAbs * et.natAbs * (H.natAbs * H.natAbs) := by grind
    rw [b]
    exact Nat.mul_le_mul (Nat.mul_le_mul he he) h
  have b2 : (om * G).natAbs * (om * G).natAbs ≤ 10000 * (900000000000000 * T) := by
    rw [Int.natAbs_mul]
    have b : om.natAbs * G.natAbs * (om.natAbs * G.natAbs) = om.natAbs * om.natAbs * (G.natAbs * G.natAbs) := by grind
    rw [b]
    exact Nat.mul_le_mul (Nat.mul_le_mul ho ho) g
  generalize (et * H + om * G).natAbs * (et * H + om * G).natAbs = w at *
  omega
theorem typeAb (c c3 mu et om a b D p1 p2 r0 r1 r2 s0 s1 s2 s3 u0 u1 u2 u3 u4 e1 g1 e2 m h1 e3 n1 n2 k0 H411 H402 H330 H321 H312 H303 H240 H231 H222 H213 H204 H150 H141 H132 H123 H114 H105 H060 H051 H042 H033 H024 H015 H006 : Int)
    (hc : c ≠ 0) (hD : D ≠ 0) (he : e1 ≠ 0) (het : et ≠ 0) (hmu : mu ≠ 0) (hce : c = mu * mu * c3) (hea : et = mu * a) (hob : om = mu * b) (hodd : a % 2 = 1 ∨ b % 2 = 1)
    (be : et.natAbs ≤ 100) (bo : om.natAbs ≤ 100) (bD : D.natAbs ≤ 129654) (bp : p1.natAbs ≤ 518616) (bq : p2.natAbs ≤ 518616) (br0 : r0.natAbs ≤ 1555848) (br1 : r1.natAbs ≤ 1555848) (br2 : r2.natAbs ≤ 1555848) (bs0 : s0.natAbs ≤ 518616) (bs1b' : s1.natAbs ≤ 1555848) (bs2b' : s2.natAbs ≤ 1555848) (bs3 : s3.natAbs ≤ 518616) (bu0 : u0.natAbs ≤ 1555848) (bu1 : u1.natAbs ≤ 1555848) (bu2 : u2.natAbs ≤ 1555848) (bu3 : u3.natAbs ≤ 1555848) (bu4 : u4.natAbs ≤ 1555848)
    (k1 : c * (e1 * e1) = et * et * D) (k2 : c * (2 * e1 * g1 + 18446744073709551616 * H411) = 2 * et * om * D) (d2 : (2 * e1 * g1).natAbs ≤ 2 ^ 63) (k402 : c * (g1 * g1 + 18446744073709551616 * H402) = om * om * D)
    (k3 : c * (2 * e1 * e2 + 18446744073709551616 * H330) = et * et * p1) (d3 : (2 * e1 * e2).natAbs ≤ 2 ^ 63)
    (k4 : c * (2 * e1 * m + 2 * g1 * e2 + 18446744073709551616 * H321) = et * et * p2 + 2 * et * om * p1) (d4 : (2 * e1 * m).natAbs ≤ 2 ^ 63)
    (k5 : c * (2 * e1 * h1 + 2 * g1 * m + 18446744073709551616 * H312) = 2 * et * om * p2 + om * om * p1) (d5 : (2 * e1 * h1).natAbs ≤ 2 ^ 63) (k303 : c * (2 * g1 * h1 + 18446744073709551616 * H303) = om * om * p2)
    (k6 : c * (2 * e1 * e3 + e2 * e2 + 18446744073709551616 * H240) = et * et * r0) (d6 : (2 * e1 * e3).natAbs ≤ 2 ^ 63)
    (k7 : c * (2 * e1 * n1 + (2 * g1 * e3 + 2 * e2 * m) + 18446744073709551616 * H231) = et * et * r1 + 2 * et * om * r0) (d7 : (2 * e1 * n1).natAbs ≤ 2 ^ 63)
    (k8 : c * (2 * e1 * n2 + (2 * g1 * n1 + (m * m + 2 * e2 * h1)) + 18446744073709551616 * H222) = et * et * r2 + 2 * et * om * r1 + om * om * r0) (d8 : (2 * e1 * n2).natAbs ≤ 2 ^ 63)
    (k9 : c * (2 * e1 * k0 + (2 * g1 * n2 + 2 * m * h1) + 18446744073709551616 * H213) = 2 * et * om * r2 + om * om * r1) (d9 : (2 * e1 * k0).natAbs ≤ 2 ^ 63) (k204 : c * (2 * g1 * k0 + h1 * h1 + 18446744073709551616 * H204) = om * om * r2)
    (f0 : c * (2 * e2 * e3 + 18446744073709551616 * H150) = et * et * s0) (f1 : c * (2 * e2 * n1 + 2 * m * e3 + 18446744073709551616 * H141) = et * et * s1 + 2 * et * om * s0) (f2 : c * (2 * e2 * n2 + (2 * m * n1 + 2 * h1 * e3) + 18446744073709551616 * H132) = et * et * s2 + 2 * et * om * s1 + om * om * s0) (f3 : c * (2 * h1 * n1 + (2 * m * n2 + 2 * e2 * k0) + 18446744073709551616 * H123) = et * et * s3 + 2 * et * om * s2 + om * om * s1) (f4 : c * (2 * h1 * n2 + 2 * m * k0 + 18446744073709551616 * H114) = 2 * et * om * s3 + om * om * s2) (f5 : c * (2 * h1 * k0 + 18446744073709551616 * H105) = om * om * s3)
    (v0 : c * (e3 * e3 + 18446744073709551616 * H060) = et * et * u0) (v1 : c * (2 * e3 * n1 + 18446744073709551616 * H051) = et * et * u1 + 2 * et * om * u0) (v2 : c * (n1 * n1 + 2 * e3 * n2 + 18446744073709551616 * H042) = et * et * u2 + 2 * et * om * u1 + om * om * u0) (v3 : c * (2 * e3 * k0 + 2 * n1 * n2 + 18446744073709551616 * H033) = et * et * u3 + 2 * et * om * u2 + om * om * u1) (v4 : c * (n2 * n2 + 2 * k0 * n1 + 18446744073709551616 * H024) = et * et * u4 + 2 * et * om * u3 + om * om * u2) (v5 : c * (2 * k0 * n2 + 18446744073709551616 * H015) = 2 * et * om * u4 + om * om * u3) (v6 : c * (k0 * k0 + 18446744073709551616 * H006) = om * om * u4) :
    (H411 = 0 ∧ H402 = 0 ∧ H330 = 0 ∧ H321 = 0 ∧ H312 = 0 ∧ H303 = 0 ∧ H240 = 0 ∧ H231 = 0 ∧ H222 = 0 ∧ H213 = 0 ∧ H204 = 0) ∧ (H150 = 0 ∧ H141 = 0 ∧ H132 = 0 ∧ H123 = 0 ∧ H114 = 0 ∧ H105 = 0) ∧ H060 = 0 ∧ H051 = 0 ∧ H042 = 0 ∧ H033 = 0 ∧ H024 = 0 ∧ H015 = 0 ∧ H006 = 0 := by
  obtain ⟨z1, z2, z3, z4⟩ := digs1b c e1 g1 e2 m h1 et om D p1 p2 H411 H330 H321 H312 hc he het be bo bD bp bq k1 k2 d2 k3 d3 k4 d4 k5 d5
  subst z1 z2 z3 z4
  simp only [Int.mul_zero, Int.add_zero] at k2 k3 k4 k5
  have hg : e1 * om = et * g1 := by
    apply cnl (k := 2 * c * e1) (Int.mul_ne_zero (Int.mul_ne_zero (by decide) hc) he)
    rw [ra1 c e1 g1 om, ra2, k1, k2]
    exact rb1 _ _ _
  have q2 : 2 * c * e1 * e2 = et * (et * p1) := by rw [ra3, k3]; exact rb3 _ _
  have G2 := g_of (X := 2) het hg q2
  have qm : 2 * c * e1 * m = et * (et * p2 + om * p1) := by rw [ra4 c e1 g1 m e2, k4, G2]; exact rb4 _ _ _ _
  have Gm := g_of (X := 2) het hg qm
  have qh : 2 * c * e1 * h1 = et * (om * p2) := by rw [ra4 c e1 g1 h1 m, k5, Gm]; exact rb5 _ _ _ _
  have Gh := g_of (X := 2) het hg qh
  obtain ⟨⟨y0, y1, y2, y3⟩, t3, t1, t2, t0⟩ := digs2b c e1 g1 e2 m h1 e3 n1 n2 k0 et om D p1 p2 r0 r1 r2 H240 H231 H222 H213 hc hD het be bo bD bp bq br0 br1 br2 k1 hg q2 qm qh k6 d6 k7 d7 k8 d8 k9 d9
  clear k6 k7 k8 k9 d2 d3 d4 d5 d6 d7 d8 d9
  have G0 := g_of (X := 8 * D) het hg t0
  have shh := pr_ee het k1 qh qh
  -- the third letter's own
  have x402 : H402 = 0 := by
    refine zH c (g1 * g1) _ H402 k402 ?_ hc
    apply cnl (k := et * et) (Int.mul_ne_zero het het)
    have b1 : et * et * (c * (g1 * g1)) = c * ((et * g1) * (et * g1)) := by clear k1 k2 k3 k4 k5 k402 k303 k204 f0 f1 f2 f3 f4 f5 v0 v1 v2 v3 v4 v5 v6 hg q2 qm qh G2 Gm Gh t3 t1 t2 t0 G0 shh hce hea hob; grind
    rw [b1, ← hg]
    have b2 : c * (e1 * om * (e1 * om)) = om * om * (c * (e1 * e1)) := by clear k1 k2 k3 k4 k5 k402 k303 k204 f0 f1 f2 f3 f4 f5 v0 v1 v2 v3 v4 v5 v6 hg q2 qm qh G2 Gm Gh t3 t1 t2 t0 G0 shh hce hea hob b1; grind
    rw [b2, k1]
    clear k1 k2 k3 k4 k5 k402 k303 k204 f0 f1 f2 f3 f4 f5 v0 v1 v2 v3 v4 v5 v6 hg q2 qm qh G2 Gm Gh t3 t1 t2 t0 G0 shh hce hea hob b1 b2
    grind
  have x303 : H303 = 0 := by
    refine zH c (2 * g1 * h1) _ H303 k303 ?_ hc
    rw [← ra3, Gh]
    exact (Int.mul_assoc _ _ _).symm
  have x204 : H204 = 0 := by
    refine zH c (2 * g1 * k0 + h1 * h1) _ H204 k204 ?_ hc
    apply cnl (k := 4 * D) (Int.mul_ne_zero (by decide) hD)
    have b1 : 4 * D * (c * (2 * g1 * k0 + h1 * h1)) = 8 * D * c * g1 * k0 + 4 * c * D * (h1 * h1) := by clear k1 k2 k3 k4 k5 k402 k303 k204 f0 f1 f2 f3 f4 f5 v0 v1 v2 v3 v4 v5 v6 hg q2 qm qh G2 Gm Gh t3 t1 t2 t0 G0 shh hce hea hob; grind
    rw [b1, G0, shh]
    clear k1 k2 k3 k4 k5 k402 k303 k204 f0 f1 f2 f3 f4 f5 v0 v1 v2 v3 v4 v5 v6 hg q2 qm qh G2 Gm Gh t3 t1 t2 t0 G0 shh hce hea hob b1
    grind
  -- the fifth jet
  have bh0 := hz0b D r0 p1 bD br0 bp
  have bh1 := hz1b D r1 p1 p2 bD br1 bp bq
  have bh2 := hz0b D r2 p2 bD br2 bq
  have b8 : (8 * (D * D)).natAbs ≤ 8 * (129654 * 129654) := nmul_le (show (8 : Int).natAbs ≤ 8 by decide) (nmul_le bD bD)
  obtain ⟨⟨w0, w1, w2, w3⟩, x5⟩ := jet5A c c3 mu et om a b D e2 m h1 e3 n1 n2 k0 p1 p2 _ _ _ s0 s1 s2 s3 H150 H141 H132 H123 H114 H105 hD hc hmu hce hea hob hodd (pr_em het k1 q2 t3) (pr_em het k1 q2 t1) (pr_em het k1 q2 t2) (pr_em het k1 q2 t0) (pr_em het k1 qm t3) (pr_em het k1 qm t1) (pr_em het k1 qm t2) (pr_em het k1 qm t0) (pr_em het k1 qh t3) (pr_em het k1 qh t1) (pr_em het k1 qh t2) (pr_em het k1 qh t0) f0 f1 f2 f3 f4 f5
    (Nat.lt_of_le_of_lt (ns_le (nmul_le b8 bs0) (nmul_le bp bh0)) (by decide +kernel)) (Nat.lt_of_le_of_lt (ns_le (nmul_le b8 bs1b') (na_le (nmul_le bp bh1) (nmul_le bq bh0))) (by decide +kernel)) (Nat.lt_of_le_of_lt (ns_le (nmul_le b8 bs2b') (na_le (nmul_le bp bh2) (nmul_le bq bh1))) (by decide +kernel)) (Nat.lt_of_le_of_lt (ns_le (nmul_le b8 bs3) (nmul_le bq bh2)) (by decide +kernel))
  -- the sixth
  obtain ⟨j0, j1, j2⟩ := hbAb D p1 p2 r0 r1 r2 s0 s1 s2 s3 hD w0 w1 w2 w3 bs0 bs1b' bs2b' bs3 br0 br1 br2
  have B0 := bs1b et _ _ be j0
  have B1 := bs2b et om _ _ _ be bo j1 j0
  have B2 := bs2b et om _ _ _ be bo j2 j1
  have B3 := bs1b om _ _ bo j2
  have m33 := pz6b D c e3 e3 _ _ hD hc (pr_mm het k1 t3 t3) B0 B0
  have m31 := pz6b D c e3 n1 _ _ hD hc (pr_mm het k1 t3 t1) B0 B1
  have m32 := pz6b D c e3 n2 _ _ hD hc (pr_mm het k1 t3 t2) B0 B2
  have m30 := pz6b D c e3 k0 _ _ hD hc (pr_mm het k1 t3 t0) B0 B3
  have m11 := pz6b D c n1 n1 _ _ hD hc (pr_mm het k1 t1 t1) B1 B1
  have m12 := pz6b D c n1 n2 _ _ hD hc (pr_mm het k1 t1 t2) B1 B2
  have m01 := pz6b D c k0 n1 _ _ hD hc (pr_mm het k1 t0 t1) B3 B1
  have m22 := pz6b D c n2 n2 _ _ hD hc (pr_mm het k1 t2 t2) B2 B2
  have m02 := pz6b D c k0 n2 _ _ hD hc (pr_mm het k1 t0 t2) B3 B2
  have m00 := pz6b D c k0 k0 _ _ hD hc (pr_mm het k1 t0 t0) B3 B3
  have ee := nmul_le be be
  have eo := nmul_le (nmul_le k2w be) bo
  have oo := nmul_le bo bo
  have x060 := bnA c _ _ H060 1000000000000 _ v0 hc (Nat.le_trans (nmul_le ee bu0) (by decide)) m33 (by decide)
  have x051 := bnA c _ _ H051 1000000000000 _ v1 hc (Nat.le_trans (na_le (nmul_le ee bu1) (nmul_le eo bu0)) (by decide)) (dbl m31) (by decide)
  have x042 := bnA c _ _ H042 1000000000000 _ v2 hc (Nat.le_trans (na_le (na_le (nmul_le ee bu2) (nmul_le eo bu1)) (nmul_le oo bu0)) (by decide)) (na_le m11 (dbl m32)) (by decide)
  have x033 := bnA c _ _ H033 1000000000000 _ v3 hc (Nat.le_trans (na_le (na_le (nmul_le ee bu3) (nmul_le eo bu2)) (nmul_le oo bu1)) (by decide)) (na_le (dbl m30) (dbl m12)) (by decide)
  have x024 := bnA c _ _ H024 1000000000000 _ v4 hc (Nat.le_trans (na_le (na_le (nmul_le ee bu4) (nmul_le eo bu3)) (nmul_le oo bu2)) (by decide)) (na_le m22 (dbl m01)) (by decide)
  have x015 := bnA c _ _ H015 1000000000000 _ v5 hc (Nat.le_trans (na_le (nmul_le eo bu4) (nmul_le oo bu3)) (by decide)) (dbl m02) (by decide)
  have x006 := bnA c _ _ H006 1000000000000 _ v6 hc (Nat.le_trans (nmul_le oo bu4) (by decide)) m00 (by decide)
  exact ⟨⟨rfl, x402, rfl, rfl, rfl, x303, y0, y1, y2, y3, x204⟩, x5, x060, x051, x042, x033, x024, x015, x006⟩
