theorem hzA0 (D r p : Int) (bD : D.natAbs ≤ 429779) (br : r.natAbs ≤ 5157348) (bp : p.natAbs ≤ 1719116) : (4 * D * r - p * p).natAbs ≤ 15000000000000 := Nat.le_trans (ns_le (nmul_le (nmul_le k4 bD) br) (nmul_le bp bp)) (by decide)
theorem hzA1 (D r p q : Int) (bD : D.natAbs ≤ 429779) (br : r.natAbs ≤ 5157348) (bp : p.natAbs ≤ 1719116) (bq : q.natAbs ≤ 1719116) : (4 * D * r - 2 * p * q).natAbs ≤ 15000000000000 := Nat.le_trans (ns_le (nmul_le (nmul_le k4 bD) br) (nmul_le (nmul_le k2w bp) bq)) (by decide)
theorem rd1 (c D u v : Int) : 4 * c * D * (u * v) = 2 * c * D * (2 * u * v) := by grind
theorem rd2 (D c g v : Int) : 8 * D * c * g * v = 4 * D * c * (2 * g * v) := by grind
/-- the last digits of type A, one by one -/
theorem digs2 (c e1 g1 e2 m h1 e3 n1 n2 k0 et om D p1 p2 r0 r1 r2 H240 H231 H222 H213 : Int) (hc : c ≠ 0) (hD : D ≠ 0) (het : et ≠ 0) (be : et.natAbs ≤ 70) (bo : om.natAbs ≤ 70) (bD : D.natAbs ≤ 429779) (bp : p1.natAbs ≤ 1719116) (bq : p2.natAbs ≤ 1719116) (br0 : r0.natAbs ≤ 5157348) (br1 : r1.natAbs ≤ 5157348) (br2 : r2.natAbs ≤ 5157348)
    (k1 : c * (e1 * e1) = et * et * D) (hg : e1 * om = et * g1) (q2 : 2 * c * e1 * e2 = et * (et * p1)) (qm : 2 * c * e1 * m = et * (et * p2 + om * p1)) (qh : 2 * c * e1 * h1 = et * (om * p2))
    (k6 : c * (2 * e1 * e3 + e2 * e2 + 18446744073709551616 * H240) = et * et * r0) (d6 : (2 * e1 * e3).natAbs ≤ 2 ^ 63)
    (k7 : c * (2 * e1 * n1 + (2 * g1 * e3 + 2 * e2 * m) + 18446744073709551616 * H231) = et * et * r1 + 2 * et * om * r0) (d7 : (2 * e1 * n1).natAbs ≤ 2 ^ 63)
    (k8 : c * (2 * e1 * n2 + (2 * g1 * n1 + (m * m + 2 * e2 * h1)) + 18446744073709551616 * H222) = et * et * r2 + 2 * et * om * r1 + om * om * r0) (d8 : (2 * e1 * n2).natAbs ≤ 2 ^ 63)
    (k9 : c * (2 * e1 * k0 + (2 * g1 * n2 + 2 * m * h1) + 18446744073709551616 * H213) = 2 * et * om * r2 + om * om * r1) (d9 : (2 * e1 * k0).natAbs ≤ 2 ^ 63) :
    (H240 = 0 ∧ H231 = 0 ∧ H222 = 0 ∧ H213 = 0) ∧ 8 * D * c * e1 * e3 = et * (et * (4 * D * r0 - p1 * p1)) ∧ 8 * D * c * e1 * n1 = et * (et * (4 * D * r1 - 2 * p1 * p2) + om * (4 * D * r0 - p1 * p1)) ∧ 8 * D * c * e1 * n2 = et * (et * (4 * D * r2 - p2 * p2) + om * (4 * D * r1 - 2 * p1 * p2)) ∧ 8 * D * c * e1 * k0 = et * (om * (4 * D * r2 - p2 * p2)) := by
  have bh0 := hzA0 D r0 p1 bD br0 bp
  have bh1 := hzA1 D r1 p1 p2 bD br1 bp bq
  have bh2 := hzA0 D r2 p2 bD br2 bq
  have n4 : 4 * c * D ≠ 0 := Int.mul_ne_zero (Int.mul_ne_zero (by decide) hc) hD
  have n2' : 2 * c * D ≠ 0 := Int.mul_ne_zero (Int.mul_ne_zero (by decide) hc) hD
  have n4' : 4 * D * c ≠ 0 := Int.mul_ne_zero (Int.mul_ne_zero (by decide) hD) hc
  have s22 := pr_ee het k1 q2 q2
  have s2m := pr_ee het k1 q2 qm
  have smm := pr_ee het k1 qm qm
  have s2h := pr_ee het k1 q2 qh
  have smh := pr_ee het k1 qm qh
  have A0 : (et * p1).natAbs ≤ 70 * 1719116 := nmul_le be bp
  have A1 : (et * p2 + om * p1).natAbs ≤ 70 * 1719116 + 70 * 1719116 := na_le (nmul_le be bq) (nmul_le bo bp)
  have A2 : (om * p2).natAbs ≤ 70 * 1719116 := nmul_le bo bq
  have w22 : (e2 * e2).natAbs ≤ 60000000000000000 := fle (4 * c * D) _ _ _ s22 n4 (Nat.le_trans (nmul_le A0 A0) (by decide))
  have w2m : (2 * e2 * m).natAbs ≤ 60000000000000000 := fle (2 * c * D) _ _ _ ((rd1 c D e2 m).symm.trans s2m) n2' (Nat.le_trans (nmul_le A0 A1) (by decide))
  have wmm : (m * m).natAbs ≤ 60000000000000000 := fle (4 * c * D) _ _ _ smm n4 (Nat.le_trans (nmul_le A1 A1) (by decide))
  have w2h : (2 * e2 * h1).natAbs ≤ 60000000000000000 := fle (2 * c * D) _ _ _ ((rd1 c D e2 h1).symm.trans s2h) n2' (Nat.le_trans (nmul_le A0 A2) (by decide))
  have wmh : (2 * m * h1).natAbs ≤ 60000000000000000 := fle (2 * c * D) _ _ _ ((rd1 c D m h1).symm.trans smh) n2' (Nat.le_trans (nmul_le A1 A2) (by decide))
  have z0 : H240 = 0 := dgA c e1 e3 (e2 * e2) _ H240 100000000000 _ k6 hc (Nat.le_trans (nmul_le (nmul_le be be) br0) (by decide)) w22 d6 (by decide +kernel)
  rw [z0, Int.mul_zero, Int.add_zero] at k6
  have t3 : 8 * D * c * e1 * e3 = et * (et * (4 * D * r0 - p1 * p1)) := by rw [ra5 D c e1 e3 e2, k6, s22]; exact rb6 _ _ _ _
  have G3 := g_of (X := 8 * D) het hg t3
  have wg3 : (2 * g1 * e3).natAbs ≤ 80000000000000000 := fle (4 * D * c) _ _ _ ((rd2 D c g1 e3).symm.trans G3) n4' (Nat.le_trans (nmul_le bo (nmul_le be bh0)) (by decide))
  have z1 : H231 = 0 := dgA c e1 n1 (2 * g1 * e3 + 2 * e2 * m) _ H231 100000000000 _ k7 hc (Nat.le_trans (na_le (nmul_le (nmul_le be be) br1) (nmul_le (nmul_le (nmul_le k2w be) bo) br0)) (by decide)) (na_le wg3 w2m) d7 (by decide +kernel)
  rw [z1, Int.mul_zero, Int.add_zero] at k7
  have t1 : 8 * D * c * e1 * n1 = et * (et * (4 * D * r1 - 2 * p1 * p2) + om * (4 * D * r0 - p1 * p1)) := by rw [ra6 D c e1 g1 n1 e3 e2 m, k7, s2m, G3]; exact rb7 _ _ _ _ _ _ _
  have G1 := g_of (X := 8 * D) het hg t1
  have wg1 : (2 * g1 * n1).natAbs ≤ 160000000000000000 := fle (4 * D * c) _ _ _ ((rd2 D c g1 n1).symm.trans G1) n4' (Nat.le_trans (nmul_le bo (na_le (nmul_le be bh1) (nmul_le bo bh0))) (by decide))
  have z2 : H222 = 0 := dgA c e1 n2 (2 * g1 * n1 + (m * m + 2 * e2 * h1)) _ H222 200000000000 _ k8 hc (Nat.le_trans (na_le (na_le (nmul_le (nmul_le be be) br2) (nmul_le (nmul_le (nmul_le k2w be) bo) br1)) (nmul_le (nmul_le bo bo) br0)) (by decide)) (na_le wg1 (na_le wmm w2h)) d8 (by decide +kernel)
  rw [z2, Int.mul_zero, Int.add_zero] at k8
  have t2 : 8 * D * c * e1 * n2 = et * (et * (4 * D * r2 - p2 * p2) + om * (4 * D * r1 - 2 * p1 * p2)) := by rw [ra7 D c e1 g1 n2 n1 m e2 h1, k8, smm, s2h, G1]; exact rb8 _ _ _ _ _ _ _ _
  have G2' := g_of (X := 8 * D) het hg t2
  have wg2 : (2 * g1 * n2).natAbs ≤ 160000000000000000 := fle (4 * D * c) _ _ _ ((rd2 D c g1 n2).symm.trans G2') n4' (Nat.le_trans (nmul_le bo (na_le (nmul_le be bh2) (nmul_le bo bh1))) (by decide))
  have z3 : H213 = 0 := dgA c e1 k0 (2 * g1 * n2 + 2 * m * h1) _ H213 100000000000 _ k9 hc (Nat.le_trans (na_le (nmul_le (nmul_le (nmul_le k2w be) bo) br2) (nmul_le (nmul_le bo bo) br1)) (by decide)) (na_le wg2 wmh) d9 (by decide +kernel)
  rw [z3, Int.mul_zero, Int.add_zero] at k9
  have t0 : 8 * D * c * e1 * k0 = et * (om * (4 * D * r2 - p2 * p2)) := by rw [ra6 D c e1 g1 k0 n2 m h1, k9, smh, G2']; exact rb9 _ _ _ _ _ _ _
  exact ⟨⟨z0, z1, z2, z3⟩, t3, t1, t2, t0⟩
