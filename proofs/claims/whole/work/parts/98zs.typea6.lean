theorem pz6 (D c u v x y : Int) (hD : D ≠ 0) (hc : c ≠ 0) (h : 64 * (D * D * D) * c * (u * v) = x * y) (hx : x.natAbs * x.natAbs ≤ 182280000000000000000 * (D.natAbs * D.natAbs * D.natAbs)) (hy : y.natAbs * y.natAbs ≤ 182280000000000000000 * (D.natAbs * D.natAbs * D.natAbs)) : (u * v).natAbs ≤ 2848125000000000000 := by
  have e : (64 * (D * D * D) * c * (u * v)).natAbs = x.natAbs * y.natAbs := by rw [h, Int.natAbs_mul]
  have xy : x.natAbs * y.natAbs ≤ 182280000000000000000 * (D.natAbs * D.natAbs * D.natAbs) := by
    rcases Nat.le_total x.natAbs y.natAbs with r | r
    · exact Nat.le_trans (Nat.mul_le_mul r (Nat.le_refl _)) hy
    · exact Nat.le_trans (Nat.mul_le_mul (Nat.le_refl _) r) hx
  rw [← e] at xy
  rw [Int.natAbs_mul, Int.natAbs_mul, Int.natAbs_mul, Int.natAbs_mul (D * D), Int.natAbs_mul D D] at xy
  have w : (64 : Int).natAbs = 64 := rfl
  rw [w] at xy
  have hc1 : 1 ≤ c.natAbs := Int.natAbs_pos.mpr hc
  have hd : 0 < D.natAbs * D.natAbs * D.natAbs := Nat.mul_pos (Nat.mul_pos (Int.natAbs_pos.mpr hD) (Int.natAbs_pos.mpr hD)) (Int.natAbs_pos.mpr hD)
  generalize D.natAbs * D.natAbs * D.natAbs = d at *
  generalize (u * v).natAbs = z at *
  generalize c.natAbs = k at *
  have a1 : 64 * d * 1 * z ≤ 64 * d * k * z := Nat.mul_le_mul (Nat.mul_le_mul (Nat.le_refl _) hc1) (Nat.le_refl _)
  have a2 : d * (64 * z) ≤ d * 182280000000000000000 := by
    have b1 : 64 * d * 1 * z = d * (64 * z) := by grind
    have b2 : d * 182280000000000000000 = 182280000000000000000 * d := Nat.mul_comm _ _
    omega
  have a3 := Nat.le_of_mul_le_mul_left a2 hd
  omega
theorem sq2_le (p q : Nat) : (p + q) * (p + q) ≤ 2 * (p * p) + 2 * (q * q) := by
  rcases Nat.le_total p q with r | r
  · obtain ⟨d, rfl⟩ := Nat.exists_eq_add_of_le r
    have : 2 * (p * p) + 2 * ((p + d) * (p + d)) = (p + (p + d)) * (p + (p + d)) + d * d := by grind
    omega
  · obtain ⟨d, rfl⟩ := Nat.exists_eq_add_of_le r
    have : 2 * ((q + d) * (q + d)) + 2 * (q * q) = (q + d + q) * (q + d + q) + d * d := by grind
    omega
theorem bs1 (et H : Int) (T : Nat) (he : et.natAbs ≤ 70) (h : H.natAbs * H.natAbs ≤ 9300000000000000 * T) : (et * H).natAbs * (et * H).natAbs ≤ 182280000000000000000 * T := by
  rw [Int.natAbs_mul]
  have a := Nat.mul_le_mul (Nat.mul_le_mul he he) h
  have b : et.natAbs * H.natAbs * (et.natAbs * H.natAbs) = et.natAbs * et.natAbs * (H.natAbs * H.natAbs) := by grind
  rw [b]
  omega
theorem bs2 (et om H G : Int) (T : Nat) (he : et.natAbs ≤ 70) (ho : om.natAbs ≤ 70) (h : H.natAbs * H.natAbs ≤ 9300000000000000 * T) (g : G.natAbs * G.natAbs ≤ 9300000000000000 * T) : (et * H + om * G).natAbs * (et * H + om * G).natAbs ≤ 182280000000000000000 * T := by
  have n := nadd_le (et * H) (om * G)
  have a := Nat.mul_le_mul n n
  have s := sq2_le (et * H).natAbs (om * G).natAbs
  have b1 : (et * H).natAbs * (et * H).natAbs ≤ 4900 * (9300000000000000 * T) := by
    rw [Int.natAbs_mul]
    have b : et.natAbs * H.natAbs * (et.natAbs * H.natAbs) = et.natAbs * et.natAbs * (H.natAbs * H.natAbs) := by grind
    rw [b]
    exact Nat.mul_le_mul (Nat.mul_le_mul he he) h
  have b2 : (om * G).natAbs * (om * G).natAbs ≤ 4900 * (9300000000000000 * T) := by
    rw [Int.natAbs_mul]
    have b : om.natAbs * G.natAbs * (om.natAbs * G.natAbs) = om.natAbs * om.natAbs * (G.natAbs * G.natAbs) := by grind
    rw [b]
    exact Nat.mul_le_mul (Nat.mul_le_mul ho ho) g
  generalize (et * H + om * G).natAbs * (et * H + om * G).natAbs = w at *
  omega
theorem dbl {u v : Int} {Z : Nat} (h : (u * v).natAbs ≤ Z) : (2 * u * v).natAbs ≤ 2 * Z := by
  have : 2 * u * v = 2 * (u * v) := Int.mul_assoc _ _ _
  rw [this]
  exact nmul_le k2w h
/-- TYPE A: all three share a root that is double in the first -/
theorem typeA (c c3 mu et om a b D p1 p2 r0 r1 r2 s0 s1 s2 s3 u0 u1 u2 u3 u4 e1 g1 e2 m h1 e3 n1 n2 k0 H411 H402 H330 H321 H312 H303 H240 H231 H222 H213 H204 H150 H141 H132 H123 H114 H105 H060 H051 H042 H033 H024 H015 H006 : Int)
    (hc : c ≠ 0) (hD : D ≠ 0) (he : e1 ≠ 0) (het : et ≠ 0) (hmu : mu ≠ 0) (hce : c = mu * mu * c3) (hea : et = mu * a) (hob : om = mu * b) (hodd : a % 2 = 1 ∨ b % 2 = 1)
    (be : et.natAbs ≤ 70) (bo : om.natAbs ≤ 70) (bD : D.natAbs ≤ 429779) (bp : p1.natAbs ≤ 1719116) (bq : p2.natAbs ≤ 1719116) (br0 : r0.natAbs ≤ 5157348) (br1 : r1.natAbs ≤ 5157348) (br2 : r2.natAbs ≤ 5157348) (bs0 : s0.natAbs ≤ 1719116) (bs1' : s1.natAbs ≤ 5157348) (bs2' : s2.natAbs ≤ 5157348) (bs3 : s3.natAbs ≤ 1719116) (bu0 : u0.natAbs ≤ 5157348) (bu1 : u1.natAbs ≤ 5157348) (bu2 : u2.natAbs ≤ 5157348) (bu3 : u3.natAbs ≤ 5157348) (bu4 : u4.natAbs ≤ 5157348)
    (k1 : c * (e1 * e1) = et * et * D) (k2 : c * (2 * e1 * g1 + 18446744073709551616 * H411) = 2 * et * om * D) (d2 : (2 * e1 * g1).natAbs ≤ 2 ^ 63) (k402 : c * (g1 * g1 + 18446744073709551616 * H402) = om * om * D)
    (k3 : c * (2 * e1 * e2 + 18446744073709551616 * H330) = et * et * p1) (d3 : (2 * e1 * e2).natAbs ≤ 2 ^ 63)
    (k4 : c * (2 * e1 * m + 2 * g1 * e2 + 18446744073709551616 * H321) = et * et * p2 + 2 * et * om * p1) (d4 : (2 * e1 * m).natAbs ≤ 2 ^ 63)
    (k5 : c * (2 * e1 * h1 + 2 * g1 * m + 18446744073709551616 * H312) = 2 * et * om * p2 + om * om * p1) (d5 : (2 * e1 * h1).natAbs ≤ 2 ^ 63) (k303 : c * (2 * g1 * h1 + 18446744073709551616 * H303) = om * om * p2)
    (k6 : c * (2 * e1 * e3 + e2 * e2 + 18446744073709551616 * H240) = et * et * r0) (d6 : (2 * e1 * e3).natAbs ≤ 2 ^ 63)
    (k7 : c * (2 * e1 * n1 + (2 * g1 * e3 + 2 * e2 * m) + 18446744073709551616 * H231) = et * et * r1 + 2 * et * om * r0) (d7 : (2 * e1 * n1).natAbs ≤ 2 ^ 63)
    (k8 : c * (2 * e1 * n2 + (2 * g1 * n1 + (m * m + 2 * e2 * h1)) + 18446744073709551616 * H222) = et * et * r2 + 2 * et * om * r1 + om * om * r0) (d8 : (2 * e1 * n2).natAbs ≤ 2 ^ 63)
    (k9 : c * (2 * e1 * k0 + (2 * g1 * n2 + 2 * m * h1) + 18446744073709551616 * H213) = 2 * et * om * r2 + om * om * r1) (d9 : (2 * e1 * k0).natAbs ≤ 2 ^ 63) (k204 : c * (2 * g1 * k0 + h1 * h1 + 18446744073709551616 * H204) = om * om * r2)
    (f0 : c * (2 * e2 * e3 + 18446744073709551616 * H150) = et * et * s0) (f1 : c * (2 * e2 * n1 + 2 * m * e3 + 18446744073709551616 * H141) = et * et * s1 + 2 * et * om * s0) (f2 : c * (2 * e2 * n2 + (2 * m * n1 + 2 * h1 * e3) + 18446744073709551616 * H132) = et * et * s2 + 2 * et * om * s1 + om * om * s0) (f3 : c * (2 * h1 * n1 + (2 * m * n2 + 2 * e2 * k0) + 18446744073709551616 * H123) = et * et * s3 + 2 * et * om * s2 + om * om * s1) (f4 : c * (2 * h1 * n2 + 2 * m * k0 + 18446744073709551616 * H114) = 2 * et * om * s3 + om * om * s2) (f5 : c * (2 * h1 * k0 + 18446744073709551616 * H105) = om * om * s3)
    (v0 : c * (e3 * e3 + 18446744073709551616 * H060) = et * et * u0) (v1 : c * (2 * e3 * n1 + 18446744073709551616 * H051) = et * et * u1 + 2 * et * om * u0) (v2 : c * (n1 * n1 + 2 * e3 * n2 + 18446744073709551616 * H042) = et * et * u2 + 2 * et * om * u1 + om * om * u0) (v3 : c * (2 * e3 * k0 + 2 * n1 * n2 + 18446744073709551616 * H033) = et * et * u3 + 2 * et * om * u2 + om * om * u1) (v4 : c * (n2 * n2 + 2 * k0 * n1 + 18446744073709551616 * H024) = et * et * u4 + 2 * et * om * u3 + om * om * u2) (v5 : c * (2 * k0 * n2 + 18446744073709551616 * H015) = 2 * et * om * u4 + om * om * u3) (v6 : c * (k0 * k0 + 18446744073709551616 * H006) = om * om * u4) :
    (H411 = 0 ∧ H402 = 0 ∧ H330 = 0 ∧ H321 = 0 ∧ H312 = 0 ∧ H303 = 0 ∧ H240 = 0 ∧ H231 = 0 ∧ H222 = 0 ∧ H213 = 0 ∧ H204 = 0) ∧ (H150 = 0 ∧ H141 = 0 ∧ H132 = 0 ∧ H123 = 0 ∧ H114 = 0 ∧ H105 = 0) ∧ H060 = 0 ∧ H051 = 0 ∧ H042 = 0 ∧ H033 = 0 ∧ H024 = 0 ∧ H015 = 0 ∧ H006 = 0 := by
  obtain ⟨z1, z2, z3, z4⟩ := digs1 c e1 g1 e2 m h1 et om D p1 p2 H411 H330 H321 H312 hc he het be bo bD bp bq k1 k2 d2 k3 d3 k4 d4 k5 d5
  subst z1 z2 z3 z4
  simp only [Int.mul_zero, Int.add_zero] at k2 k3 k4 k5
  have hg : e1 * om = et * g1 := by
    apply cnl (k := 2 * c * e1) (Int.mul_ne_zero (Int.mul_ne_zero (by decide) hc) he)
    rw [ra1 c e1 g1 om, ra2, k1, k2]
    exact rb1 _ _ _
  have q2 : 2 * c * e1 * e2 = et * (et * p1) := by rw [ra3, k3]; exact rb3 _ _
  have G2 := g_of (X := 2) het hg q2
  have qm : 2 * c * e1 * m = et * (et * p2 + om * p1) := by rw [ra4 c e1 g1 m e2, k4, G2]; exact rb4 _ _ _ _
  have Gm := g_of (X := 2) het hg qm
  have qh : 2 * c * e1 * h1 = et * (om * p2) := by rw [ra4 c e1 g1 h1 m, k5, Gm]; exact rb5 _ _ _ _
  have Gh := g_of (X := 2) het hg qh
  obtain ⟨⟨y0, y1, y2, y3⟩, t3, t1, t2, t0⟩ := digs2 c e1 g1 e2 m h1 e3 n1 n2 k0 et om D p1 p2 r0 r1 r2 H240 H231 H222 H213 hc hD het be bo bD bp bq br0 br1 br2 k1 hg q2 qm qh k6 d6 k7 d7 k8 d8 k9 d9
  clear k6 k7 k8 k9 d2 d3 d4 d5 d6 d7 d8 d9
  have G0 := g_of (X := 8 * D) het hg t0
  have shh := pr_ee het k1 qh qh
  -- the third letter's own
  have x402 : H402 = 0 := by
    refine zH c (g1 * g1) _ H402 k402 ?_ hc
    apply cnl (k := et * et) (Int.mul_ne_zero het het)
    have b1 : et * et * (c * (g1 * g1)) = c * ((et * g1) * (et * g1)) := by clear k1 k2 k3 k4 k5 k402 k303 k204 f0 f1 f2 f3 f4 f5 v0 v1 v2 v3 v4 v5 v6 hg q2 qm qh G2 Gm Gh t3 t1 t2 t0 G0 shh hce hea hob; grind
    rw [b1, ← hg]
    have b2 : c * (e1 * om * (e1 * om)) = om * om * (c * (e1 * e1)) := by clear k1 k2 k3 k4 k5 k402 k303 k204 f0 f1 f2 f3 f4 f5 v0 v1 v2 v3 v4 v5 v6 hg q2 qm qh G2 Gm Gh t3 t1 t2 t0 G0 shh hce hea hob b1; grind
    rw [b2, k1]
    clear k1 k2 k3 k4 k5 k402 k303 k204 f0 f1 f2 f3 f4 f5 v0 v1 v2 v3 v4 v5 v6 hg q2 qm qh G2 Gm Gh t3 t1 t2 t0 G0 shh hce hea hob b1 b2
    grind
  have x303 : H303 = 0 := by
    refine zH c (2 * g1 * h1) _ H303 k303 ?_ hc
    rw [← ra3, Gh]
    exact (Int.mul_assoc _ _ _).symm
  have x204 : H204 = 0 := by
    refine zH c (2 * g1 * k0 + h1 * h1) _ H204 k204 ?_ hc
    apply cnl (k := 4 * D) (Int.mul_ne_zero (by decide) hD)
    have b1 : 4 * D * (c * (2 * g1 * k0 + h1 * h1)) = 8 * D * c * g1 * k0 + 4 * c * D * (h1 * h1) := by clear k1 k2 k3 k4 k5 k402 k303 k204 f0 f1 f2 f3 f4 f5 v0 v1 v2 v3 v4 v5 v6 hg q2 qm qh G2 Gm Gh t3 t1 t2 t0 G0 shh hce hea hob; grind
    rw [b1, G0, shh]
    clear k1 k2 k3 k4 k5 k402 k303 k204 f0 f1 f2 f3 f4 f5 v0 v1 v2 v3 v4 v5 v6 hg q2 qm qh G2 Gm Gh t3 t1 t2 t0 G0 shh hce hea hob b1
    grind
  -- the fifth jet
  have bh0 := hzA0 D r0 p1 bD br0 bp
  have bh1 := hzA1 D r1 p1 p2 bD br1 bp bq
  have bh2 := hzA0 D r2 p2 bD br2 bq
  have b8 : (8 * (D * D)).natAbs ≤ 8 * (429779 * 429779) := nmul_le (show (8 : Int).natAbs ≤ 8 by decide) (nmul_le bD bD)
  obtain ⟨⟨w0, w1, w2, w3⟩, x5⟩ := jet5A c c3 mu et om a b D e2 m h1 e3 n1 n2 k0 p1 p2 _ _ _ s0 s1 s2 s3 H150 H141 H132 H123 H114 H105 hD hc hmu hce hea hob hodd (pr_em het k1 q2 t3) (pr_em het k1 q2 t1) (pr_em het k1 q2 t2) (pr_em het k1 q2 t0) (pr_em het k1 qm t3) (pr_em het k1 qm t1) (pr_em het k1 qm t2) (pr_em het k1 qm t0) (pr_em het k1 qh t3) (pr_em het k1 qh t1) (pr_em het k1 qh t2) (pr_em het k1 qh t0) f0 f1 f2 f3 f4 f5
    (Nat.lt_of_le_of_lt (ns_le (nmul_le b8 bs0) (nmul_le bp bh0)) (by decide +kernel)) (Nat.lt_of_le_of_lt (ns_le (nmul_le b8 bs1') (na_le (nmul_le bp bh1) (nmul_le bq bh0))) (by decide +kernel)) (Nat.lt_of_le_of_lt (ns_le (nmul_le b8 bs2') (na_le (nmul_le bp bh2) (nmul_le bq bh1))) (by decide +kernel)) (Nat.lt_of_le_of_lt (ns_le (nmul_le b8 bs3) (nmul_le bq bh2)) (by decide +kernel))
  -- the sixth
  obtain ⟨j0, j1, j2⟩ := hbA D p1 p2 r0 r1 r2 s0 s1 s2 s3 hD w0 w1 w2 w3 bs0 bs1' bs2' bs3 br0 br1 br2
  have B0 := bs1 et _ _ be j0
  have B1 := bs2 et om _ _ _ be bo j1 j0
  have B2 := bs2 et om _ _ _ be bo j2 j1
  have B3 := bs1 om _ _ bo j2
  have m33 := pz6 D c e3 e3 _ _ hD hc (pr_mm het k1 t3 t3) B0 B0
  have m31 := pz6 D c e3 n1 _ _ hD hc (pr_mm het k1 t3 t1) B0 B1
  have m32 := pz6 D c e3 n2 _ _ hD hc (pr_mm het k1 t3 t2) B0 B2
  have m30 := pz6 D c e3 k0 _ _ hD hc (pr_mm het k1 t3 t0) B0 B3
  have m11 := pz6 D c n1 n1 _ _ hD hc (pr_mm het k1 t1 t1) B1 B1
  have m12 := pz6 D c n1 n2 _ _ hD hc (pr_mm het k1 t1 t2) B1 B2
  have m01 := pz6 D c k0 n1 _ _ hD hc (pr_mm het k1 t0 t1) B3 B1
  have m22 := pz6 D c n2 n2 _ _ hD hc (pr_mm het k1 t2 t2) B2 B2
  have m02 := pz6 D c k0 n2 _ _ hD hc (pr_mm het k1 t0 t2) B3 B2
  have m00 := pz6 D c k0 k0 _ _ hD hc (pr_mm het k1 t0 t0) B3 B3
  have ee := nmul_le be be
  have eo := nmul_le (nmul_le k2w be) bo
  have oo := nmul_le bo bo
  have x060 := bnA c _ _ H060 1000000000000 _ v0 hc (Nat.le_trans (nmul_le ee bu0) (by decide)) m33 (by decide)
  have x051 := bnA c _ _ H051 1000000000000 _ v1 hc (Nat.le_trans (na_le (nmul_le ee bu1) (nmul_le eo bu0)) (by decide)) (dbl m31) (by decide)
  have x042 := bnA c _ _ H042 1000000000000 _ v2 hc (Nat.le_trans (na_le (na_le (nmul_le ee bu2) (nmul_le eo bu1)) (nmul_le oo bu0)) (by decide)) (na_le m11 (dbl m32)) (by decide)
  have x033 := bnA c _ _ H033 1000000000000 _ v3 hc (Nat.le_trans (na_le (na_le (nmul_le ee bu3) (nmul_le eo bu2)) (nmul_le oo bu1)) (by decide)) (na_le (dbl m30) (dbl m12)) (by decide)
  have x024 := bnA c _ _ H024 1000000000000 _ v4 hc (Nat.le_trans (na_le (na_le (nmul_le ee bu4) (nmul_le eo bu3)) (nmul_le oo bu2)) (by decide)) (na_le m22 (dbl m01)) (by decide)
  have x015 := bnA c _ _ H015 1000000000000 _ v5 hc (Nat.le_trans (na_le (nmul_le eo bu4) (nmul_le oo bu3)) (by decide)) (dbl m02) (by decide)
  have x006 := bnA c _ _ H006 1000000000000 _ v6 hc (Nat.le_trans (nmul_le oo bu4) (by decide)) m00 (by decide)
  exact ⟨⟨rfl, x402, rfl, rfl, rfl, x303, y0, y1, y2, y3, x204⟩, x5, x060, x051, x042, x033, x024, x015, x006⟩
