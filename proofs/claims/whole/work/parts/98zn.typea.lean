/-! all three quartics share a root that is double in the first: the square is (linear form)^2 times a cubic net's -/
theorem cnl {k a b : Int} (hk : k ≠ 0) (h : k * a = k * b) : a = b := Int.eq_of_mul_eq_mul_left hk h
theorem pr_ee {c e et D u v a b : Int} (he : et ≠ 0) (k1 : c * (e * e) = et * et * D) (hu : 2 * c * e * u = et * a) (hv : 2 * c * e * v = et * b) : 4 * c * D * (u * v) = a * b := by
  apply cnl (k := et * et) (Int.mul_ne_zero he he)
  have h1 : (2 * c * e * u) * (2 * c * e * v) = (et * a) * (et * b) := by rw [hu, hv]
  have h2 : (2 * c * e * u) * (2 * c * e * v) = 4 * c * (c * (e * e)) * (u * v) := by clear h1 hu hv k1; grind
  rw [h2, k1] at h1
  clear h2 hu hv k1
  grind
theorem pr_em {c e et D u v a b : Int} (he : et ≠ 0) (k1 : c * (e * e) = et * et * D) (hu : 2 * c * e * u = et * a) (hv : 8 * D * c * e * v = et * b) : 16 * (D * D) * c * (u * v) = a * b := by
  apply cnl (k := et * et) (Int.mul_ne_zero he he)
  have h1 : (2 * c * e * u) * (8 * D * c * e * v) = (et * a) * (et * b) := by rw [hu, hv]
  have h2 : (2 * c * e * u) * (8 * D * c * e * v) = 16 * D * c * (c * (e * e)) * (u * v) := by clear h1 hu hv k1; grind
  rw [h2, k1] at h1
  clear h2 hu hv k1
  grind
theorem pr_mm {c e et D u v a b : Int} (he : et ≠ 0) (k1 : c * (e * e) = et * et * D) (hu : 8 * D * c * e * u = et * a) (hv : 8 * D * c * e * v = et * b) : 64 * (D * D * D) * c * (u * v) = a * b := by
  apply cnl (k := et * et) (Int.mul_ne_zero he he)
  have h1 : (8 * D * c * e * u) * (8 * D * c * e * v) = (et * a) * (et * b) := by rw [hu, hv]
  have h2 : (8 * D * c * e * u) * (8 * D * c * e * v) = 64 * (D * D) * c * (c * (e * e)) * (u * v) := by clear h1 hu hv k1; grind
  rw [h2, k1] at h1
  clear h2 hu hv k1
  grind
theorem g_of {c e g et om u a X : Int} (he : et ≠ 0) (hg : e * om = et * g) (hu : X * c * e * u = et * a) : X * c * g * u = om * a := by
  apply cnl he
  have a1 : et * (X * c * g * u) = X * c * (et * g) * u := by clear hg hu; grind
  rw [a1, ← hg]
  have a2 : X * c * (e * om) * u = om * (X * c * e * u) := by clear hg hu a1; grind
  rw [a2, hu]
  clear hg hu a1 a2
  grind
theorem ra1 (c e g om : Int) : 2 * c * e * (e * om) = 2 * om * (c * (e * e)) := by grind
theorem ra2 (c e g et : Int) : 2 * c * e * (et * g) = et * (c * (2 * e * g)) := by grind
theorem ra3 (c e x : Int) : 2 * c * e * x = c * (2 * e * x) := by grind
theorem ra4 (c e g x y : Int) : 2 * c * e * x = c * (2 * e * x + 2 * g * y) - 2 * c * g * y := by grind
theorem ra5 (D c e x y : Int) : 8 * D * c * e * x = 4 * D * (c * (2 * e * x + y * y)) - 4 * c * D * (y * y) := by grind
theorem ra6 (D c e g x y z w : Int) : 8 * D * c * e * x = 4 * D * (c * (2 * e * x + (2 * g * y + 2 * z * w))) - 8 * D * c * g * y - 2 * (4 * c * D * (z * w)) := by grind
theorem ra7 (D c e g x y m z w : Int) : 8 * D * c * e * x = 4 * D * (c * (2 * e * x + (2 * g * y + (m * m + 2 * z * w)))) - 8 * D * c * g * y - 4 * c * D * (m * m) - 2 * (4 * c * D * (z * w)) := by grind
theorem rb1 (et om D : Int) : 2 * om * (et * et * D) = et * (2 * et * om * D) := by grind
theorem rb3 (et p : Int) : et * et * p = et * (et * p) := by grind
theorem rb4 (et om p q : Int) : et * et * q + 2 * et * om * p - om * (et * p) = et * (et * q + om * p) := by grind
theorem rb5 (et om p q : Int) : 2 * et * om * q + om * om * p - om * (et * q + om * p) = et * (om * q) := by grind
theorem rb6 (et D r p : Int) : 4 * D * (et * et * r) - et * p * (et * p) = et * (et * (4 * D * r - p * p)) := by grind
theorem rb7 (et om D r0 r1 p q : Int) : 4 * D * (et * et * r1 + 2 * et * om * r0) - om * (et * (4 * D * r0 - p * p)) - 2 * (et * p * (et * q + om * p)) = et * (et * (4 * D * r1 - 2 * p * q) + om * (4 * D * r0 - p * p)) := by grind
theorem rb8 (et om D r0 r1 r2 p q : Int) : 4 * D * (et * et * r2 + 2 * et * om * r1 + om * om * r0) - om * (et * (4 * D * r1 - 2 * p * q) + om * (4 * D * r0 - p * p)) - (et * q + om * p) * (et * q + om * p) - 2 * (et * p * (om * q)) = et * (et * (4 * D * r2 - q * q) + om * (4 * D * r1 - 2 * p * q)) := by grind
theorem rb9 (et om D r1 r2 p q : Int) : 4 * D * (2 * et * om * r2 + om * om * r1) - om * (et * (4 * D * r2 - q * q) + om * (4 * D * r1 - 2 * p * q)) - 2 * ((et * q + om * p) * (om * q)) = et * (om * (4 * D * r2 - q * q)) := by grind
/-- the digits of the root, told by the forms L d1 and L h -/
theorem digA (c e1 g1 e2 m h1 e3 n1 n2 k0 et om D p1 p2 r0 r1 r2 : Int) (hc : c ≠ 0) (he : e1 ≠ 0) (het : et ≠ 0)
    (k1 : c * (e1 * e1) = et * et * D) (k2 : c * (2 * e1 * g1) = 2 * et * om * D)
    (k3 : c * (2 * e1 * e2) = et * et * p1) (k4 : c * (2 * e1 * m + 2 * g1 * e2) = et * et * p2 + 2 * et * om * p1) (k5 : c * (2 * e1 * h1 + 2 * g1 * m) = 2 * et * om * p2 + om * om * p1)
    (k6 : c * (2 * e1 * e3 + e2 * e2) = et * et * r0) (k7 : c * (2 * e1 * n1 + (2 * g1 * e3 + 2 * e2 * m)) = et * et * r1 + 2 * et * om * r0) (k8 : c * (2 * e1 * n2 + (2 * g1 * n1 + (m * m + 2 * e2 * h1))) = et * et * r2 + 2 * et * om * r1 + om * om * r0) (k9 : c * (2 * e1 * k0 + (2 * g1 * n2 + 2 * m * h1)) = 2 * et * om * r2 + om * om * r1) :
    e1 * om = et * g1 ∧ (2 * c * e1 * e2 = et * (et * p1) ∧ 2 * c * e1 * m = et * (et * p2 + om * p1) ∧ 2 * c * e1 * h1 = et * (om * p2)) ∧ (8 * D * c * e1 * e3 = et * (et * (4 * D * r0 - p1 * p1)) ∧ 8 * D * c * e1 * n1 = et * (et * (4 * D * r1 - 2 * p1 * p2) + om * (4 * D * r0 - p1 * p1)) ∧ 8 * D * c * e1 * n2 = et * (et * (4 * D * r2 - p2 * p2) + om * (4 * D * r1 - 2 * p1 * p2)) ∧ 8 * D * c * e1 * k0 = et * (om * (4 * D * r2 - p2 * p2))) := by
  have hg : e1 * om = et * g1 := by
    apply cnl (k := 2 * c * e1) (Int.mul_ne_zero (Int.mul_ne_zero (by decide) hc) he)
    rw [ra1 c e1 g1 om, ra2, k1, k2]
    exact rb1 _ _ _
  have q2 : 2 * c * e1 * e2 = et * (et * p1) := by rw [ra3, k3]; exact rb3 _ _
  have G2 := g_of (X := 2) het hg q2
  have qm : 2 * c * e1 * m = et * (et * p2 + om * p1) := by rw [ra4 c e1 g1 m e2, k4, G2]; exact rb4 _ _ _ _
  have Gm := g_of (X := 2) het hg qm
  have qh : 2 * c * e1 * h1 = et * (om * p2) := by rw [ra4 c e1 g1 h1 m, k5, Gm]; exact rb5 _ _ _ _
  have s22 := pr_ee het k1 q2 q2
  have s2m := pr_ee het k1 q2 qm
  have smm := pr_ee het k1 qm qm
  have s2h := pr_ee het k1 q2 qh
  have smh := pr_ee het k1 qm qh
  have t3 : 8 * D * c * e1 * e3 = et * (et * (4 * D * r0 - p1 * p1)) := by rw [ra5 D c e1 e3 e2, k6, s22]; exact rb6 _ _ _ _
  have G3 := g_of (X := 8 * D) het hg t3
  have t1 : 8 * D * c * e1 * n1 = et * (et * (4 * D * r1 - 2 * p1 * p2) + om * (4 * D * r0 - p1 * p1)) := by rw [ra6 D c e1 g1 n1 e3 e2 m, k7, s2m, G3]; exact rb7 _ _ _ _ _ _ _
  have G1 := g_of (X := 8 * D) het hg t1
  have t2 : 8 * D * c * e1 * n2 = et * (et * (4 * D * r2 - p2 * p2) + om * (4 * D * r1 - 2 * p1 * p2)) := by rw [ra7 D c e1 g1 n2 n1 m e2 h1, k8, smm, s2h, G1]; exact rb8 _ _ _ _ _ _ _ _
  have G2' := g_of (X := 8 * D) het hg t2
  have t0 : 8 * D * c * e1 * k0 = et * (om * (4 * D * r2 - p2 * p2)) := by rw [ra6 D c e1 g1 k0 n2 m h1, k9, smh, G2']; exact rb9 _ _ _ _ _ _ _
  exact ⟨hg, ⟨q2, qm, qh⟩, t3, t1, t2, t0⟩
