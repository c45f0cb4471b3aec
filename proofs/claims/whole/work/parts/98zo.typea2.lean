/-! type A: the fifth jet is true -/
theorem od_t {o x : Int} (ho : o % 2 = 1) (h : (2 : Int) ∣ o * x) : (2 : Int) ∣ x := by
  have h1 := Int.emod_eq_zero_of_dvd h
  rw [Int.mul_emod, ho] at h1
  rcases Int.emod_two_eq x with q | q
  · exact Int.dvd_of_emod_eq_zero q
  · rw [q] at h1
    exact absurd h1 (by decide)
theorem od_c {o : Int} (ho : o % 2 = 1) : ∀ (k : Nat) (x : Int), (2 ^ k : Int) ∣ o * x → (2 ^ k : Int) ∣ x
  | 0, x, _ => ⟨x, by rw [Int.pow_zero, Int.one_mul]⟩
  | k + 1, x, h => by
    obtain ⟨t, ht⟩ := h
    rw [Int.pow_succ] at ht
    obtain ⟨y, hy⟩ := od_t ho ⟨2 ^ k * t, by rw [ht]; generalize (2 : Int) ^ k = z; grind⟩
    have h2 : (2 ^ k : Int) ∣ o * y := ⟨t, by
      apply cnl (k := 2) (by decide)
      rw [hy] at ht
      generalize (2 : Int) ^ k = z at *
      have : 2 * (o * y) = o * (2 * y) := by clear ht hy; grind
      rw [this, ht]
      clear ht hy this
      grind⟩
    obtain ⟨u, hu⟩ := od_c ho k y h2
    refine ⟨u, ?_⟩
    rw [hy, hu, Int.pow_succ]
    generalize (2 : Int) ^ k = z
    grind
theorem dm_r {N b : Int} (a : Int) (h : N ∣ b) : N ∣ a * b := by
  obtain ⟨t, ht⟩ := h
  exact ⟨a * t, by rw [ht]; clear ht; grind⟩
theorem od_sq {o : Int} (ho : o % 2 = 1) : (o * o) % 2 = 1 := by rw [Int.mul_emod, ho]; decide
/-- a square of a linear form with an odd number takes no power of two away -/
theorem gs_odd (N : Nat) (a b K0 K1 K2 K3 : Int) (ha : a % 2 = 1) (h0 : (2 ^ N : Int) ∣ a * a * K0) (h1 : (2 ^ N : Int) ∣ a * a * K1 + 2 * a * b * K0) (h2 : (2 ^ N : Int) ∣ a * a * K2 + 2 * a * b * K1 + b * b * K0) (h3 : (2 ^ N : Int) ∣ a * a * K3 + 2 * a * b * K2 + b * b * K1) : (2 ^ N : Int) ∣ K0 ∧ (2 ^ N : Int) ∣ K1 ∧ (2 ^ N : Int) ∣ K2 ∧ (2 ^ N : Int) ∣ K3 := by
  have o := od_sq ha
  have c0 := od_c o N K0 h0
  have c1 : (2 ^ N : Int) ∣ K1 := by
    apply od_c o N
    have := Int.dvd_sub h1 (dm_r (2 * a * b) c0)
    rwa [Int.add_sub_cancel] at this
  have c2 : (2 ^ N : Int) ∣ K2 := by
    apply od_c o N
    have := Int.dvd_sub (Int.dvd_sub h2 (dm_r (b * b) c0)) (dm_r (2 * a * b) c1)
    rwa [Int.add_sub_cancel, Int.add_sub_cancel] at this
  have c3 : (2 ^ N : Int) ∣ K3 := by
    apply od_c o N
    have := Int.dvd_sub (Int.dvd_sub h3 (dm_r (b * b) c1)) (dm_r (2 * a * b) c2)
    rwa [Int.add_sub_cancel, Int.add_sub_cancel] at this
  exact ⟨c0, c1, c2, c3⟩
theorem dv_small (N : Nat) (K : Int) (h : (2 ^ N : Int) ∣ K) (hb : K.natAbs < 2 ^ N) : K = 0 := by
  obtain ⟨t, ht⟩ := h
  by_cases r : t = 0
  · rw [ht, r, Int.mul_zero]
  · exfalso
    have r1 : 1 ≤ t.natAbs := Int.natAbs_pos.mpr r
    rw [ht, Int.natAbs_mul, Int.natAbs_pow] at hb
    have : (2 : Int).natAbs = 2 := rfl
    rw [this] at hb
    exact absurd (Nat.le_mul_of_pos_right (2 ^ N) r1) (by omega)
theorem jt5 {D c M X S P Q : Int} (h : c * (P + M * X) = S) (hp : 8 * (D * D) * c * P = Q) : 8 * (D * D) * S - Q = 8 * (D * D) * c * M * X := by
  rw [← h, ← hp]
  clear h hp
  grind
theorem ee5 {D c u v a b : Int} (h : 16 * (D * D) * c * (u * v) = a * b) : 8 * (D * D) * c * (2 * u * v) = a * b := by
  rw [← h]
  clear h
  grind
/-- the fifth jet -/
theorem jet5A (c c3 mu et om a b D e2 m h1 e3 n1 n2 k0 p1 p2 H0 H1 H2 s0 s1 s2 s3 X0 X1 X2 X3 X4 X5 : Int) (hD : D ≠ 0) (hc : c ≠ 0) (hmu : mu ≠ 0) (hce : c = mu * mu * c3) (hea : et = mu * a) (hob : om = mu * b) (hodd : a % 2 = 1 ∨ b % 2 = 1)
    (P00 : 16 * (D * D) * c * (e2 * e3) = et * p1 * (et * H0)) (P01 : 16 * (D * D) * c * (e2 * n1) = et * p1 * (et * H1 + om * H0)) (P02 : 16 * (D * D) * c * (e2 * n2) = et * p1 * (et * H2 + om * H1)) (P03 : 16 * (D * D) * c * (e2 * k0) = et * p1 * (om * H2))
    (P10 : 16 * (D * D) * c * (m * e3) = (et * p2 + om * p1) * (et * H0)) (P11 : 16 * (D * D) * c * (m * n1) = (et * p2 + om * p1) * (et * H1 + om * H0)) (P12 : 16 * (D * D) * c * (m * n2) = (et * p2 + om * p1) * (et * H2 + om * H1)) (P13 : 16 * (D * D) * c * (m * k0) = (et * p2 + om * p1) * (om * H2))
    (P20 : 16 * (D * D) * c * (h1 * e3) = om * p2 * (et * H0)) (P21 : 16 * (D * D) * c * (h1 * n1) = om * p2 * (et * H1 + om * H0)) (P22 : 16 * (D * D) * c * (h1 * n2) = om * p2 * (et * H2 + om * H1)) (P23 : 16 * (D * D) * c * (h1 * k0) = om * p2 * (om * H2))
    (f0 : c * (2 * e2 * e3 + 18446744073709551616 * X0) = et * et * s0) (f1 : c * (2 * e2 * n1 + 2 * m * e3 + 18446744073709551616 * X1) = et * et * s1 + 2 * et * om * s0) (f2 : c * (2 * e2 * n2 + (2 * m * n1 + 2 * h1 * e3) + 18446744073709551616 * X2) = et * et * s2 + 2 * et * om * s1 + om * om * s0) (f3 : c * (2 * h1 * n1 + (2 * m * n2 + 2 * e2 * k0) + 18446744073709551616 * X3) = et * et * s3 + 2 * et * om * s2 + om * om * s1) (f4 : c * (2 * h1 * n2 + 2 * m * k0 + 18446744073709551616 * X4) = 2 * et * om * s3 + om * om * s2) (f5 : c * (2 * h1 * k0 + 18446744073709551616 * X5) = om * om * s3)
    (b0 : (8 * (D * D) * s0 - p1 * H0).natAbs < 2 ^ 67) (b1 : (8 * (D * D) * s1 - (p1 * H1 + p2 * H0)).natAbs < 2 ^ 67) (b2 : (8 * (D * D) * s2 - (p1 * H2 + p2 * H1)).natAbs < 2 ^ 67) (b3 : (8 * (D * D) * s3 - p2 * H2).natAbs < 2 ^ 67) :
    (8 * (D * D) * s0 - p1 * H0 = 0 ∧ 8 * (D * D) * s1 - (p1 * H1 + p2 * H0) = 0 ∧ 8 * (D * D) * s2 - (p1 * H2 + p2 * H1) = 0 ∧ 8 * (D * D) * s3 - p2 * H2 = 0) ∧ X0 = 0 ∧ X1 = 0 ∧ X2 = 0 ∧ X3 = 0 ∧ X4 = 0 ∧ X5 = 0 := by
  have g0 := jt5 f0 (ee5 P00)
  have j1 : 8 * (D * D) * c * (2 * e2 * n1 + 2 * m * e3) = et * p1 * (et * H1 + om * H0) + (et * p2 + om * p1) * (et * H0) := by rw [Int.mul_add (8 * (D * D) * c), ee5 P01, ee5 P10]
  have j2 : 8 * (D * D) * c * (2 * e2 * n2 + (2 * m * n1 + 2 * h1 * e3)) = et * p1 * (et * H2 + om * H1) + ((et * p2 + om * p1) * (et * H1 + om * H0) + om * p2 * (et * H0)) := by rw [Int.mul_add (8 * (D * D) * c), Int.mul_add (8 * (D * D) * c), ee5 P02, ee5 P11, ee5 P20]
  have j3 : 8 * (D * D) * c * (2 * h1 * n1 + (2 * m * n2 + 2 * e2 * k0)) = om * p2 * (et * H1 + om * H0) + ((et * p2 + om * p1) * (et * H2 + om * H1) + et * p1 * (om * H2)) := by rw [Int.mul_add (8 * (D * D) * c), Int.mul_add (8 * (D * D) * c), ee5 P21, ee5 P12, ee5 P03]
  have j4 : 8 * (D * D) * c * (2 * h1 * n2 + 2 * m * k0) = om * p2 * (et * H2 + om * H1) + (et * p2 + om * p1) * (om * H2) := by rw [Int.mul_add (8 * (D * D) * c), ee5 P22, ee5 P13]
  have g1 := jt5 f1 j1
  have g2 := jt5 f2 j2
  have g3 := jt5 f3 j3
  have g4 := jt5 f4 j4
  have g5 := jt5 f5 (ee5 P23)
  clear P00 P01 P02 P03 P10 P11 P12 P13 P20 P21 P22 P23 f0 f1 f2 f3 f4 f5 j1 j2 j3 j4
  generalize hK0 : 8 * (D * D) * s0 - p1 * H0 = K0 at *
  generalize hK1 : 8 * (D * D) * s1 - (p1 * H1 + p2 * H0) = K1 at *
  generalize hK2 : 8 * (D * D) * s2 - (p1 * H2 + p2 * H1) = K2 at *
  generalize hK3 : 8 * (D * D) * s3 - p2 * H2 = K3 at *
  have l0 : 8 * (D * D) * (et * et * s0) - et * p1 * (et * H0) = et * et * K0 := by rw [← hK0]; clear g0 g1 g2 g3 g4 g5 hK0 hK1 hK2 hK3 hce hea hob; grind
  have l1 : 8 * (D * D) * (et * et * s1 + 2 * et * om * s0) - (et * p1 * (et * H1 + om * H0) + (et * p2 + om * p1) * (et * H0)) = et * et * K1 + 2 * et * om * K0 := by rw [← hK0, ← hK1]; clear g0 g1 g2 g3 g4 g5 hK0 hK1 hK2 hK3 hce hea hob l0; grind
  have l2 : 8 * (D * D) * (et * et * s2 + 2 * et * om * s1 + om * om * s0) - (et * p1 * (et * H2 + om * H1) + ((et * p2 + om * p1) * (et * H1 + om * H0) + om * p2 * (et * H0))) = et * et * K2 + 2 * et * om * K1 + om * om * K0 := by rw [← hK0, ← hK1, ← hK2]; clear g0 g1 g2 g3 g4 g5 hK0 hK1 hK2 hK3 hce hea hob l0 l1; grind
  have l3 : 8 * (D * D) * (et * et * s3 + 2 * et * om * s2 + om * om * s1) - (om * p2 * (et * H1 + om * H0) + ((et * p2 + om * p1) * (et * H2 + om * H1) + et * p1 * (om * H2))) = et * et * K3 + 2 * et * om * K2 + om * om * K1 := by rw [← hK1, ← hK2, ← hK3]; clear g0 g1 g2 g3 g4 g5 hK0 hK1 hK2 hK3 hce hea hob l0 l1 l2; grind
  have l4 : 8 * (D * D) * (2 * et * om * s3 + om * om * s2) - (om * p2 * (et * H2 + om * H1) + (et * p2 + om * p1) * (om * H2)) = 2 * et * om * K3 + om * om * K2 := by rw [← hK2, ← hK3]; clear g0 g1 g2 g3 g4 g5 hK0 hK1 hK2 hK3 hce hea hob l0 l1 l2 l3; grind
  have l5 : 8 * (D * D) * (om * om * s3) - om * p2 * (om * H2) = om * om * K3 := by rw [← hK3]; clear g0 g1 g2 g3 g4 g5 hK0 hK1 hK2 hK3 hce hea hob l0 l1 l2 l3 l4; grind
  rw [l0] at g0
  rw [l1] at g1
  rw [l2] at g2
  rw [l3] at g3
  rw [l4] at g4
  rw [l5] at g5
  clear l0 l1 l2 l3 l4 l5 hK0 hK1 hK2 hK3
  have e67 : (2 : Int) ^ 67 = 8 * 18446744073709551616 := by decide +kernel
  have D2 : ∀ Z V : Int, mu * mu * Z = 8 * (D * D) * c * 18446744073709551616 * V → (2 ^ 67 : Int) ∣ Z := by
    intro Z V h
    refine ⟨D * D * c3 * V, ?_⟩
    apply cnl (k := mu * mu) (Int.mul_ne_zero hmu hmu)
    rw [h, hce, e67]
    clear g0 g1 g2 g3 g4 g5 h hce hea hob b0 b1 b2 b3
    grind
  have hz : K0 = 0 ∧ K1 = 0 ∧ K2 = 0 ∧ K3 = 0 := by
    subst hea hob
    rcases hodd with o | o
    · obtain ⟨x0, x1, x2, x3⟩ := gs_odd 67 a b K0 K1 K2 K3 o (D2 _ X0 (by rw [← g0]; clear g0 g1 g2 g3 g4 g5 hce D2; grind)) (D2 _ X1 (by rw [← g1]; clear g0 g1 g2 g3 g4 g5 hce D2; grind)) (D2 _ X2 (by rw [← g2]; clear g0 g1 g2 g3 g4 g5 hce D2; grind)) (D2 _ X3 (by rw [← g3]; clear g0 g1 g2 g3 g4 g5 hce D2; grind))
      exact ⟨dv_small 67 _ x0 b0, dv_small 67 _ x1 b1, dv_small 67 _ x2 b2, dv_small 67 _ x3 b3⟩
    · obtain ⟨x3, x2, x1, x0⟩ := gs_odd 67 b a K3 K2 K1 K0 o (D2 _ X5 (by rw [← g5]; clear g0 g1 g2 g3 g4 g5 hce D2; grind)) (D2 _ X4 (by rw [← g4]; clear g0 g1 g2 g3 g4 g5 hce D2; grind)) (D2 _ X3 (by rw [← g3]; clear g0 g1 g2 g3 g4 g5 hce D2; grind)) (D2 _ X2 (by rw [← g2]; clear g0 g1 g2 g3 g4 g5 hce D2; grind))
      exact ⟨dv_small 67 _ x0 b0, dv_small 67 _ x1 b1, dv_small 67 _ x2 b2, dv_small 67 _ x3 b3⟩
  obtain ⟨z0, z1, z2, z3⟩ := hz
  have nz : 8 * (D * D) * c * 18446744073709551616 ≠ 0 := Int.mul_ne_zero (Int.mul_ne_zero (Int.mul_ne_zero (by decide) (Int.mul_ne_zero hD hD)) hc) (by decide)
  have fin : ∀ V : Int, 0 = 8 * (D * D) * c * 18446744073709551616 * V → V = 0 := by
    intro V h
    rcases Int.mul_eq_zero.mp h.symm with r | r
    · exact absurd r nz
    · exact r
  subst z0 z1 z2 z3
  simp only [Int.mul_zero, Int.add_zero] at g0 g1 g2 g3 g4 g5
  exact ⟨⟨rfl, rfl, rfl, rfl⟩, fin _ g0, fin _ g1, fin _ g2, fin _ g3, fin _ g4, fin _ g5⟩
