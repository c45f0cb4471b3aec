/-! Cauchy's estimate, at 1, i, -1, -i: no number of a root is above the root of the sum of sizes -/
theorem sqz (x : Int) : 0 ≤ x * x := by
  rcases Int.le_total 0 x with h | h
  · exact Int.mul_nonneg h h
  · rw [← Int.neg_mul_neg]
    exact Int.mul_nonneg (by omega) (by omega)
theorem nas (z : Int) : z * z = (z.natAbs : Int) * z.natAbs := by
  rcases Int.natAbs_eq z with h | h
  · rw [← h]
  · have e : (z.natAbs : Int) = -z := by omega
    rw [e, Int.neg_mul_neg]
def nr (z : Int × Int) : Nat := z.1.natAbs + z.2.natAbs
def rt (α : Nat) (z : Int × Int) : Int × Int := match α with
  | 0 => z
  | 1 => (-z.2, z.1)
  | 2 => (-z.1, -z.2)
  | _ => (z.2, -z.1)
theorem nr_rt (α : Nat) (z : Int × Int) : nr (rt α z) = nr z := by
  unfold rt nr
  split <;> simp only [] <;> omega
def eu (α : Nat) : List (Int × Int) → Int × Int
  | [] => (0, 0)
  | c :: l => (c.1 + (rt α (eu α l)).1, c.2 + (rt α (eu α l)).2)
def ns : List (Int × Int) → Nat
  | [] => 0
  | c :: l => nr c + ns l
theorem nr_eu (α : Nat) : ∀ l, nr (eu α l) ≤ ns l
  | [] => Nat.le_refl _
  | c :: l => by
    have h := nr_eu α l
    have h2 := nr_rt α (eu α l)
    show (c.1 + (rt α (eu α l)).1).natAbs + (c.2 + (rt α (eu α l)).2).natAbs ≤ nr c + ns l
    unfold nr at *
    omega
def pr0 (l : List Int) : List (Int × Int) := l.map (fun x => (x, 0))
def gv (T : Nat → Nat → Int) (α β : Nat) : Int × Int := eu α [eu β (pr0 [T 0 0, T 0 1, T 0 2, T 0 3, T 0 4, T 0 5, T 0 6]), eu β (pr0 [T 1 0, T 1 1, T 1 2, T 1 3, T 1 4, T 1 5]), eu β (pr0 [T 2 0, T 2 1, T 2 2, T 2 3, T 2 4]), eu β (pr0 [T 3 0, T 3 1, T 3 2, T 3 3]), eu β (pr0 [T 4 0, T 4 1, T 4 2]), eu β (pr0 [T 5 0, T 5 1]), eu β (pr0 [T 6 0])]
def sS (T : Nat → Nat → Int) : Nat := (ns (pr0 [T 0 0, T 0 1, T 0 2, T 0 3, T 0 4, T 0 5, T 0 6]) + (ns (pr0 [T 1 0, T 1 1, T 1 2, T 1 3, T 1 4, T 1 5]) + (ns (pr0 [T 2 0, T 2 1, T 2 2, T 2 3, T 2 4]) + (ns (pr0 [T 3 0, T 3 1, T 3 2, T 3 3]) + (ns (pr0 [T 4 0, T 4 1, T 4 2]) + (ns (pr0 [T 5 0, T 5 1]) + (ns (pr0 [T 6 0]) + 0)))))))
theorem gv_le (T : Nat → Nat → Int) (α β : Nat) : nr (gv T α β) ≤ sS T := Nat.le_trans (nr_eu α _) (Nat.add_le_add (nr_eu β _) (Nat.add_le_add (nr_eu β _) (Nat.add_le_add (nr_eu β _) (Nat.add_le_add (nr_eu β _) (Nat.add_le_add (nr_eu β _) (Nat.add_le_add (nr_eu β _) (Nat.add_le_add (nr_eu β _) (Nat.le_refl 0))))))))
def nm (z : Int × Int) : Int := z.1 * z.1 + z.2 * z.2
theorem nm_0 (z : Int × Int) : 0 ≤ nm z := Int.add_nonneg (sqz _) (sqz _)
theorem nm_nr (z : Int × Int) {S : Nat} (h : nr z ≤ S) : nm z ≤ (S : Int) * S := by
  unfold nm
  unfold nr at h
  have e1 := nas z.1
  have e2 := nas z.2
  rw [e1, e2]
  generalize z.1.natAbs = a at *
  generalize z.2.natAbs = b at *
  have k : (a + b) * (a + b) ≤ S * S := Nat.mul_le_mul h h
  have k2 : a * a + b * b ≤ (a + b) * (a + b) := by
    have : (a + b) * (a + b) = a * a + b * b + 2 * (a * b) := by grind
    omega
  have k3 : a * a + b * b ≤ S * S := Nat.le_trans k2 k
  exact_mod_cast k3
def csq (z : Int × Int) : Int × Int := (z.1 * z.1 - z.2 * z.2, 2 * (z.1 * z.2))
def ccu (z : Int × Int) : Int × Int := (z.1 * (z.1 * z.1) - 3 * (z.1 * (z.2 * z.2)), 3 * (z.1 * (z.1 * z.2)) - z.2 * (z.2 * z.2))
theorem nm_csq (z : Int × Int) : nm (csq z) = nm z * nm z := by
  unfold nm csq
  simp only []
  generalize z.1 = a
  generalize z.2 = b
  grind
theorem nm_ccu (z : Int × Int) : nm (ccu z) = nm z * (nm z * nm z) := by
  unfold nm ccu
  simp only []
  generalize z.1 = a
  generalize z.2 = b
  grind
theorem lt4 {n : Nat} (h : n < 4) : n = 0 ∨ n = 1 ∨ n = 2 ∨ n = 3 := by omega
def gE3 (e0 e1 g1 e2 m h1 e3 n1 n2 k0 : Int) (α β : Nat) : Int × Int := eu α [eu β (pr0 [k0, n2, n1, e3]), eu β (pr0 [h1, m, e2]), eu β (pr0 [g1, e1]), eu β (pr0 [e0])]
def gE2 (e0 e1 g1 e2 m h : Int) (α β : Nat) : Int × Int := eu α [eu β (pr0 [h, m, e2]), eu β (pr0 [g1, e1]), eu β (pr0 [e0])]
theorem gp3_00 (e0 e1 g1 e2 m h1 e3 n1 n2 k0 : Int) : gv (s2c e0 e1 g1 e2 m h1 e3 n1 n2 k0) 0 0 = csq (gE3 e0 e1 g1 e2 m h1 e3 n1 n2 k0 0 0) := by
  simp only [gv, gE3, pr0, List.map, eu, rt, s2c, csq]
  refine Prod.ext ?_ ?_ <;> simp only [] <;> grind
theorem gp3_01 (e0 e1 g1 e2 m h1 e3 n1 n2 k0 : Int) : gv (s2c e0 e1 g1 e2 m h1 e3 n1 n2 k0) 0 1 = csq (gE3 e0 e1 g1 e2 m h1 e3 n1 n2 k0 0 1) := by
  simp only [gv, gE3, pr0, List.map, eu, rt, s2c, csq]
  refine Prod.ext ?_ ?_ <;> simp only [] <;> grind
theorem gp3_02 (e0 e1 g1 e2 m h1 e3 n1 n2 k0 : Int) : gv (s2c e0 e1 g1 e2 m h1 e3 n1 n2 k0) 0 2 = csq (gE3 e0 e1 g1 e2 m h1 e3 n1 n2 k0 0 2) := by
  simp only [gv, gE3, pr0, List.map, eu, rt, s2c, csq]
  refine Prod.ext ?_ ?_ <;> simp only [] <;> grind
theorem gp3_03 (e0 e1 g1 e2 m h1 e3 n1 n2 k0 : Int) : gv (s2c e0 e1 g1 e2 m h1 e3 n1 n2 k0) 0 3 = csq (gE3 e0 e1 g1 e2 m h1 e3 n1 n2 k0 0 3) := by
  simp only [gv, gE3, pr0, List.map, eu, rt, s2c, csq]
  refine Prod.ext ?_ ?_ <;> simp only [] <;> grind
theorem gp3_10 (e0 e1 g1 e2 m h1 e3 n1 n2 k0 : Int) : gv (s2c e0 e1 g1 e2 m h1 e3 n1 n2 k0) 1 0 = csq (gE3 e0 e1 g1 e2 m h1 e3 n1 n2 k0 1 0) := by
  simp only [gv, gE3, pr0, List.map, eu, rt, s2c, csq]
  refine Prod.ext ?_ ?_ <;> simp only [] <;> grind
theorem gp3_11 (e0 e1 g1 e2 m h1 e3 n1 n2 k0 : Int) : gv (s2c e0 e1 g1 e2 m h1 e3 n1 n2 k0) 1 1 = csq (gE3 e0 e1 g1 e2 m h1 e3 n1 n2 k0 1 1) := by
  simp only [gv, gE3, pr0, List.map, eu, rt, s2c, csq]
  refine Prod.ext ?_ ?_ <;> simp only [] <;> grind
theorem gp3_12 (e0 e1 g1 e2 m h1 e3 n1 n2 k0 : Int) : gv (s2c e0 e1 g1 e2 m h1 e3 n1 n2 k0) 1 2 = csq (gE3 e0 e1 g1 e2 m h1 e3 n1 n2 k0 1 2) := by
  simp only [gv, gE3, pr0, List.map, eu, rt, s2c, csq]
  refine Prod.ext ?_ ?_ <;> simp only [] <;> grind
theorem gp3_13 (e0 e1 g1 e2 m h1 e3 n1 n2 k0 : Int) : gv (s2c e0 e1 g1 e2 m h1 e3 n1 n2 k0) 1 3 = csq (gE3 e0 e1 g1 e2 m h1 e3 n1 n2 k0 1 3) := by
  simp only [gv, gE3, pr0, List.map, eu, rt, s2c, csq]
  refine Prod.ext ?_ ?_ <;> simp only [] <;> grind
theorem gp3_20 (e0 e1 g1 e2 m h1 e3 n1 n2 k0 : Int) : gv (s2c e0 e1 g1 e2 m h1 e3 n1 n2 k0) 2 0 = csq (gE3 e0 e1 g1 e2 m h1 e3 n1 n2 k0 2 0) := by
  simp only [gv, gE3, pr0, List.map, eu, rt, s2c, csq]
  refine Prod.ext ?_ ?_ <;> simp only [] <;> grind
theorem gp3_21 (e0 e1 g1 e2 m h1 e3 n1 n2 k0 : Int) : gv (s2c e0 e1 g1 e2 m h1 e3 n1 n2 k0) 2 1 = csq (gE3 e0 e1 g1 e2 m h1 e3 n1 n2 k0 2 1) := by
  simp only [gv, gE3, pr0, List.map, eu, rt, s2c, csq]
  refine Prod.ext ?_ ?_ <;> simp only [] <;> grind
theorem gp3_22 (e0 e1 g1 e2 m h1 e3 n1 n2 k0 : Int) : gv (s2c e0 e1 g1 e2 m h1 e3 n1 n2 k0) 2 2 = csq (gE3 e0 e1 g1 e2 m h1 e3 n1 n2 k0 2 2) := by
  simp only [gv, gE3, pr0, List.map, eu, rt, s2c, csq]
  refine Prod.ext ?_ ?_ <;> simp only [] <;> grind
theorem gp3_23 (e0 e1 g1 e2 m h1 e3 n1 n2 k0 : Int) : gv (s2c e0 e1 g1 e2 m h1 e3 n1 n2 k0) 2 3 = csq (gE3 e0 e1 g1 e2 m h1 e3 n1 n2 k0 2 3) := by
  simp only [gv, gE3, pr0, List.map, eu, rt, s2c, csq]
  refine Prod.ext ?_ ?_ <;> simp only [] <;> grind
theorem gp3_30 (e0 e1 g1 e2 m h1 e3 n1 n2 k0 : Int) : gv (s2c e0 e1 g1 e2 m h1 e3 n1 n2 k0) 3 0 = csq (gE3 e0 e1 g1 e2 m h1 e3 n1 n2 k0 3 0) := by
  simp only [gv, gE3, pr0, List.map, eu, rt, s2c, csq]
  refine Prod.ext ?_ ?_ <;> simp only [] <;> grind
theorem gp3_31 (e0 e1 g1 e2 m h1 e3 n1 n2 k0 : Int) : gv (s2c e0 e1 g1 e2 m h1 e3 n1 n2 k0) 3 1 = csq (gE3 e0 e1 g1 e2 m h1 e3 n1 n2 k0 3 1) := by
  simp only [gv, gE3, pr0, List.map, eu, rt, s2c, csq]
  refine Prod.ext ?_ ?_ <;> simp only [] <;> grind
theorem gp3_32 (e0 e1 g1 e2 m h1 e3 n1 n2 k0 : Int) : gv (s2c e0 e1 g1 e2 m h1 e3 n1 n2 k0) 3 2 = csq (gE3 e0 e1 g1 e2 m h1 e3 n1 n2 k0 3 2) := by
  simp only [gv, gE3, pr0, List.map, eu, rt, s2c, csq]
  refine Prod.ext ?_ ?_ <;> simp only [] <;> grind
theorem gp3_33 (e0 e1 g1 e2 m h1 e3 n1 n2 k0 : Int) : gv (s2c e0 e1 g1 e2 m h1 e3 n1 n2 k0) 3 3 = csq (gE3 e0 e1 g1 e2 m h1 e3 n1 n2 k0 3 3) := by
  simp only [gv, gE3, pr0, List.map, eu, rt, s2c, csq]
  refine Prod.ext ?_ ?_ <;> simp only [] <;> grind
theorem gs3 (e0 e1 g1 e2 m h1 e3 n1 n2 k0 : Int) : nm (gE3 e0 e1 g1 e2 m h1 e3 n1 n2 k0 0 0) + nm (gE3 e0 e1 g1 e2 m h1 e3 n1 n2 k0 0 1) + nm (gE3 e0 e1 g1 e2 m h1 e3 n1 n2 k0 0 2) + nm (gE3 e0 e1 g1 e2 m h1 e3 n1 n2 k0 0 3) + nm (gE3 e0 e1 g1 e2 m h1 e3 n1 n2 k0 1 0) + nm (gE3 e0 e1 g1 e2 m h1 e3 n1 n2 k0 1 1) + nm (gE3 e0 e1 g1 e2 m h1 e3 n1 n2 k0 1 2) + nm (gE3 e0 e1 g1 e2 m h1 e3 n1 n2 k0 1 3) + nm (gE3 e0 e1 g1 e2 m h1 e3 n1 n2 k0 2 0) + nm (gE3 e0 e1 g1 e2 m h1 e3 n1 n2 k0 2 1) + nm (gE3 e0 e1 g1 e2 m h1 e3 n1 n2 k0 2 2) + nm (gE3 e0 e1 g1 e2 m h1 e3 n1 n2 k0 2 3) + nm (gE3 e0 e1 g1 e2 m h1 e3 n1 n2 k0 3 0) + nm (gE3 e0 e1 g1 e2 m h1 e3 n1 n2 k0 3 1) + nm (gE3 e0 e1 g1 e2 m h1 e3 n1 n2 k0 3 2) + nm (gE3 e0 e1 g1 e2 m h1 e3 n1 n2 k0 3 3) = 16 * (e0 * e0 + e1 * e1 + g1 * g1 + e2 * e2 + m * m + h1 * h1 + e3 * e3 + n1 * n1 + n2 * n2 + k0 * k0) := by
  simp only [nm, gE3, pr0, List.map, eu, rt]
  grind
theorem gp2_00 (e0 e1 g1 e2 m h : Int) : gv (s3c e0 e1 g1 e2 m h) 0 0 = ccu (gE2 e0 e1 g1 e2 m h 0 0) := by
  simp only [gv, gE2, pr0, List.map, eu, rt, s3c, ccu]
  refine Prod.ext ?_ ?_ <;> simp only [] <;> grind
theorem gp2_01 (e0 e1 g1 e2 m h : Int) : gv (s3c e0 e1 g1 e2 m h) 0 1 = ccu (gE2 e0 e1 g1 e2 m h 0 1) := by
  simp only [gv, gE2, pr0, List.map, eu, rt, s3c, ccu]
  refine Prod.ext ?_ ?_ <;> simp only [] <;> grind
theorem gp2_02 (e0 e1 g1 e2 m h : Int) : gv (s3c e0 e1 g1 e2 m h) 0 2 = ccu (gE2 e0 e1 g1 e2 m h 0 2) := by
  simp only [gv, gE2, pr0, List.map, eu, rt, s3c, ccu]
  refine Prod.ext ?_ ?_ <;> simp only [] <;> grind
theorem gp2_03 (e0 e1 g1 e2 m h : Int) : gv (s3c e0 e1 g1 e2 m h) 0 3 = ccu (gE2 e0 e1 g1 e2 m h 0 3) := by
  simp only [gv, gE2, pr0, List.map, eu, rt, s3c, ccu]
  refine Prod.ext ?_ ?_ <;> simp only [] <;> grind
theorem gp2_10 (e0 e1 g1 e2 m h : Int) : gv (s3c e0 e1 g1 e2 m h) 1 0 = ccu (gE2 e0 e1 g1 e2 m h 1 0) := by
  simp only [gv, gE2, pr0, List.map, eu, rt, s3c, ccu]
  refine Prod.ext ?_ ?_ <;> simp only [] <;> grind
theorem gp2_11 (e0 e1 g1 e2 m h : Int) : gv (s3c e0 e1 g1 e2 m h) 1 1 = ccu (gE2 e0 e1 g1 e2 m h 1 1) := by
  simp only [gv, gE2, pr0, List.map, eu, rt, s3c, ccu]
  refine Prod.ext ?_ ?_ <;> simp only [] <;> grind
theorem gp2_12 (e0 e1 g1 e2 m h : Int) : gv (s3c e0 e1 g1 e2 m h) 1 2 = ccu (gE2 e0 e1 g1 e2 m h 1 2) := by
  simp only [gv, gE2, pr0, List.map, eu, rt, s3c, ccu]
  refine Prod.ext ?_ ?_ <;> simp only [] <;> grind
theorem gp2_13 (e0 e1 g1 e2 m h : Int) : gv (s3c e0 e1 g1 e2 m h) 1 3 = ccu (gE2 e0 e1 g1 e2 m h 1 3) := by
  simp only [gv, gE2, pr0, List.map, eu, rt, s3c, ccu]
  refine Prod.ext ?_ ?_ <;> simp only [] <;> grind
theorem gp2_20 (e0 e1 g1 e2 m h : Int) : gv (s3c e0 e1 g1 e2 m h) 2 0 = ccu (gE2 e0 e1 g1 e2 m h 2 0) := by
  simp only [gv, gE2, pr0, List.map, eu, rt, s3c, ccu]
  refine Prod.ext ?_ ?_ <;> simp only [] <;> grind
theorem gp2_21 (e0 e1 g1 e2 m h : Int) : gv (s3c e0 e1 g1 e2 m h) 2 1 = ccu (gE2 e0 e1 g1 e2 m h 2 1) := by
  simp only [gv, gE2, pr0, List.map, eu, rt, s3c, ccu]
  refine Prod.ext ?_ ?_ <;> simp only [] <;> grind
theorem gp2_22 (e0 e1 g1 e2 m h : Int) : gv (s3c e0 e1 g1 e2 m h) 2 2 = ccu (gE2 e0 e1 g1 e2 m h 2 2) := by
  simp only [gv, gE2, pr0, List.map, eu, rt, s3c, ccu]
  refine Prod.ext ?_ ?_ <;> simp only [] <;> grind
theorem gp2_23 (e0 e1 g1 e2 m h : Int) : gv (s3c e0 e1 g1 e2 m h) 2 3 = ccu (gE2 e0 e1 g1 e2 m h 2 3) := by
  simp only [gv, gE2, pr0, List.map, eu, rt, s3c, ccu]
  refine Prod.ext ?_ ?_ <;> simp only [] <;> grind
theorem gp2_30 (e0 e1 g1 e2 m h : Int) : gv (s3c e0 e1 g1 e2 m h) 3 0 = ccu (gE2 e0 e1 g1 e2 m h 3 0) := by
  simp only [gv, gE2, pr0, List.map, eu, rt, s3c, ccu]
  refine Prod.ext ?_ ?_ <;> simp only [] <;> grind
theorem gp2_31 (e0 e1 g1 e2 m h : Int) : gv (s3c e0 e1 g1 e2 m h) 3 1 = ccu (gE2 e0 e1 g1 e2 m h 3 1) := by
  simp only [gv, gE2, pr0, List.map, eu, rt, s3c, ccu]
  refine Prod.ext ?_ ?_ <;> simp only [] <;> grind
theorem gp2_32 (e0 e1 g1 e2 m h : Int) : gv (s3c e0 e1 g1 e2 m h) 3 2 = ccu (gE2 e0 e1 g1 e2 m h 3 2) := by
  simp only [gv, gE2, pr0, List.map, eu, rt, s3c, ccu]
  refine Prod.ext ?_ ?_ <;> simp only [] <;> grind
theorem gp2_33 (e0 e1 g1 e2 m h : Int) : gv (s3c e0 e1 g1 e2 m h) 3 3 = ccu (gE2 e0 e1 g1 e2 m h 3 3) := by
  simp only [gv, gE2, pr0, List.map, eu, rt, s3c, ccu]
  refine Prod.ext ?_ ?_ <;> simp only [] <;> grind
theorem gs2 (e0 e1 g1 e2 m h : Int) : nm (gE2 e0 e1 g1 e2 m h 0 0) + nm (gE2 e0 e1 g1 e2 m h 0 1) + nm (gE2 e0 e1 g1 e2 m h 0 2) + nm (gE2 e0 e1 g1 e2 m h 0 3) + nm (gE2 e0 e1 g1 e2 m h 1 0) + nm (gE2 e0 e1 g1 e2 m h 1 1) + nm (gE2 e0 e1 g1 e2 m h 1 2) + nm (gE2 e0 e1 g1 e2 m h 1 3) + nm (gE2 e0 e1 g1 e2 m h 2 0) + nm (gE2 e0 e1 g1 e2 m h 2 1) + nm (gE2 e0 e1 g1 e2 m h 2 2) + nm (gE2 e0 e1 g1 e2 m h 2 3) + nm (gE2 e0 e1 g1 e2 m h 3 0) + nm (gE2 e0 e1 g1 e2 m h 3 1) + nm (gE2 e0 e1 g1 e2 m h 3 2) + nm (gE2 e0 e1 g1 e2 m h 3 3) = 16 * (e0 * e0 + e1 * e1 + g1 * g1 + e2 * e2 + m * m + h * h) := by
  simp only [nm, gE2, pr0, List.map, eu, rt]
  grind
theorem sq_mono {x S : Int} (hS : 0 ≤ S) (h : x * x ≤ S * S) : x ≤ S := by
  rcases Int.lt_or_le S x with q | q
  · exfalso
    have a1 : S * S ≤ S * x := Int.mul_le_mul_of_nonneg_left (Int.le_of_lt q) hS
    have a2 : S * x < x * x := Int.mul_lt_mul_of_pos_right q (by omega)
    omega
  · exact q
theorem cu_mono {x y : Int} (hx : 0 ≤ x) (hy : 0 ≤ y) (h : x * (x * x) < y * (y * y)) : x < y := by
  rcases Int.lt_or_le x y with q | q
  · exact q
  · exfalso
    have a : y * y ≤ x * x := Int.mul_le_mul q q hy hx
    have b : y * (y * y) ≤ x * (x * x) := Int.mul_le_mul q a (sqz y) hx
    omega
theorem sq_pos' (x : Int) : 0 ≤ x * x := sqz x
theorem cau2 (e0 e1 g1 e2 m h1 e3 n1 n2 k0 : Int) {S : Nat} (hS : sS (s2c e0 e1 g1 e2 m h1 e3 n1 n2 k0) ≤ S) : e0 * e0 ≤ (S : Int) ∧ e1 * e1 ≤ (S : Int) ∧ g1 * g1 ≤ (S : Int) ∧ e2 * e2 ≤ (S : Int) ∧ m * m ≤ (S : Int) ∧ h1 * h1 ≤ (S : Int) ∧ e3 * e3 ≤ (S : Int) ∧ n1 * n1 ≤ (S : Int) ∧ n2 * n2 ≤ (S : Int) ∧ k0 * k0 ≤ (S : Int) := by
  have n00 : nm (gE3 e0 e1 g1 e2 m h1 e3 n1 n2 k0 0 0) ≤ (S : Int) := sq_mono (by omega) (by rw [← nm_csq, ← gp3_00]; exact nm_nr _ (Nat.le_trans (gv_le _ _ _) hS))
  have n01 : nm (gE3 e0 e1 g1 e2 m h1 e3 n1 n2 k0 0 1) ≤ (S : Int) := sq_mono (by omega) (by rw [← nm_csq, ← gp3_01]; exact nm_nr _ (Nat.le_trans (gv_le _ _ _) hS))
  have n02 : nm (gE3 e0 e1 g1 e2 m h1 e3 n1 n2 k0 0 2) ≤ (S : Int) := sq_mono (by omega) (by rw [← nm_csq, ← gp3_02]; exact nm_nr _ (Nat.le_trans (gv_le _ _ _) hS))
  have n03 : nm (gE3 e0 e1 g1 e2 m h1 e3 n1 n2 k0 0 3) ≤ (S : Int) := sq_mono (by omega) (by rw [← nm_csq, ← gp3_03]; exact nm_nr _ (Nat.le_trans (gv_le _ _ _) hS))
  have n10 : nm (gE3 e0 e1 g1 e2 m h1 e3 n1 n2 k0 1 0) ≤ (S : Int) := sq_mono (by omega) (by rw [← nm_csq, ← gp3_10]; exact nm_nr _ (Nat.le_trans (gv_le _ _ _) hS))
  have n11 : nm (gE3 e0 e1 g1 e2 m h1 e3 n1 n2 k0 1 1) ≤ (S : Int) := sq_mono (by omega) (by rw [← nm_csq, ← gp3_11]; exact nm_nr _ (Nat.le_trans (gv_le _ _ _) hS))
  have n12 : nm (gE3 e0 e1 g1 e2 m h1 e3 n1 n2 k0 1 2) ≤ (S : Int) := sq_mono (by omega) (by rw [← nm_csq, ← gp3_12]; exact nm_nr _ (Nat.le_trans (gv_le _ _ _) hS))
  have n13 : nm (gE3 e0 e1 g1 e2 m h1 e3 n1 n2 k0 1 3) ≤ (S : Int) := sq_mono (by omega) (by rw [← nm_csq, ← gp3_13]; exact nm_nr _ (Nat.le_trans (gv_le _ _ _) hS))
  have n20 : nm (gE3 e0 e1 g1 e2 m h1 e3 n1 n2 k0 2 0) ≤ (S : Int) := sq_mono (by omega) (by rw [← nm_csq, ← gp3_20]; exact nm_nr _ (Nat.le_trans (gv_le _ _ _) hS))
  have n21 : nm (gE3 e0 e1 g1 e2 m h1 e3 n1 n2 k0 2 1) ≤ (S : Int) := sq_mono (by omega) (by rw [← nm_csq, ← gp3_21]; exact nm_nr _ (Nat.le_trans (gv_le _ _ _) hS))
  have n22 : nm (gE3 e0 e1 g1 e2 m h1 e3 n1 n2 k0 2 2) ≤ (S : Int) := sq_mono (by omega) (by rw [← nm_csq, ← gp3_22]; exact nm_nr _ (Nat.le_trans (gv_le _ _ _) hS))
  have n23 : nm (gE3 e0 e1 g1 e2 m h1 e3 n1 n2 k0 2 3) ≤ (S : Int) := sq_mono (by omega) (by rw [← nm_csq, ← gp3_23]; exact nm_nr _ (Nat.le_trans (gv_le _ _ _) hS))
  have n30 : nm (gE3 e0 e1 g1 e2 m h1 e3 n1 n2 k0 3 0) ≤ (S : Int) := sq_mono (by omega) (by rw [← nm_csq, ← gp3_30]; exact nm_nr _ (Nat.le_trans (gv_le _ _ _) hS))
  have n31 : nm (gE3 e0 e1 g1 e2 m h1 e3 n1 n2 k0 3 1) ≤ (S : Int) := sq_mono (by omega) (by rw [← nm_csq, ← gp3_31]; exact nm_nr _ (Nat.le_trans (gv_le _ _ _) hS))
  have n32 : nm (gE3 e0 e1 g1 e2 m h1 e3 n1 n2 k0 3 2) ≤ (S : Int) := sq_mono (by omega) (by rw [← nm_csq, ← gp3_32]; exact nm_nr _ (Nat.le_trans (gv_le _ _ _) hS))
  have n33 : nm (gE3 e0 e1 g1 e2 m h1 e3 n1 n2 k0 3 3) ≤ (S : Int) := sq_mono (by omega) (by rw [← nm_csq, ← gp3_33]; exact nm_nr _ (Nat.le_trans (gv_le _ _ _) hS))
  have t := gs3 e0 e1 g1 e2 m h1 e3 n1 n2 k0
  generalize nm (gE3 e0 e1 g1 e2 m h1 e3 n1 n2 k0 0 0) = x00 at *
  generalize nm (gE3 e0 e1 g1 e2 m h1 e3 n1 n2 k0 0 1) = x01 at *
  generalize nm (gE3 e0 e1 g1 e2 m h1 e3 n1 n2 k0 0 2) = x02 at *
  generalize nm (gE3 e0 e1 g1 e2 m h1 e3 n1 n2 k0 0 3) = x03 at *
  generalize nm (gE3 e0 e1 g1 e2 m h1 e3 n1 n2 k0 1 0) = x10 at *
  generalize nm (gE3 e0 e1 g1 e2 m h1 e3 n1 n2 k0 1 1) = x11 at *
  generalize nm (gE3 e0 e1 g1 e2 m h1 e3 n1 n2 k0 1 2) = x12 at *
  generalize nm (gE3 e0 e1 g1 e2 m h1 e3 n1 n2 k0 1 3) = x13 at *
  generalize nm (gE3 e0 e1 g1 e2 m h1 e3 n1 n2 k0 2 0) = x20 at *
  generalize nm (gE3 e0 e1 g1 e2 m h1 e3 n1 n2 k0 2 1) = x21 at *
  generalize nm (gE3 e0 e1 g1 e2 m h1 e3 n1 n2 k0 2 2) = x22 at *
  generalize nm (gE3 e0 e1 g1 e2 m h1 e3 n1 n2 k0 2 3) = x23 at *
  generalize nm (gE3 e0 e1 g1 e2 m h1 e3 n1 n2 k0 3 0) = x30 at *
  generalize nm (gE3 e0 e1 g1 e2 m h1 e3 n1 n2 k0 3 1) = x31 at *
  generalize nm (gE3 e0 e1 g1 e2 m h1 e3 n1 n2 k0 3 2) = x32 at *
  generalize nm (gE3 e0 e1 g1 e2 m h1 e3 n1 n2 k0 3 3) = x33 at *
  have q_e0 := sq_pos' e0
  have q_e1 := sq_pos' e1
  have q_g1 := sq_pos' g1
  have q_e2 := sq_pos' e2
  have q_m := sq_pos' m
  have q_h1 := sq_pos' h1
  have q_e3 := sq_pos' e3
  have q_n1 := sq_pos' n1
  have q_n2 := sq_pos' n2
  have q_k0 := sq_pos' k0
  generalize e0 * e0 = y_e0 at *
  generalize e1 * e1 = y_e1 at *
  generalize g1 * g1 = y_g1 at *
  generalize e2 * e2 = y_e2 at *
  generalize m * m = y_m at *
  generalize h1 * h1 = y_h1 at *
  generalize e3 * e3 = y_e3 at *
  generalize n1 * n1 = y_n1 at *
  generalize n2 * n2 = y_n2 at *
  generalize k0 * k0 = y_k0 at *
  omega
theorem cau3 (e0 e1 g1 e2 m h : Int) {S : Nat} (hS : sS (s3c e0 e1 g1 e2 m h) ≤ S) (z : Int) (hz : z = e0 ∨ z = e1 ∨ z = g1 ∨ z = e2 ∨ z = m ∨ z = h) : z * z * (z * z * (z * z)) ≤ (S : Int) * S := by
  apply Classical.byContradiction
  intro hn
  have n00 : nm (gE2 e0 e1 g1 e2 m h 0 0) < z * z := cu_mono (nm_0 _) (sqz z) (Int.lt_of_le_of_lt (by rw [← nm_ccu, ← gp2_00]; exact nm_nr _ (Nat.le_trans (gv_le _ _ _) hS)) (Int.not_le.mp hn))
  have n01 : nm (gE2 e0 e1 g1 e2 m h 0 1) < z * z := cu_mono (nm_0 _) (sqz z) (Int.lt_of_le_of_lt (by rw [← nm_ccu, ← gp2_01]; exact nm_nr _ (Nat.le_trans (gv_le _ _ _) hS)) (Int.not_le.mp hn))
  have n02 : nm (gE2 e0 e1 g1 e2 m h 0 2) < z * z := cu_mono (nm_0 _) (sqz z) (Int.lt_of_le_of_lt (by rw [← nm_ccu, ← gp2_02]; exact nm_nr _ (Nat.le_trans (gv_le _ _ _) hS)) (Int.not_le.mp hn))
  have n03 : nm (gE2 e0 e1 g1 e2 m h 0 3) < z * z := cu_mono (nm_0 _) (sqz z) (Int.lt_of_le_of_lt (by rw [← nm_ccu, ← gp2_03]; exact nm_nr _ (Nat.le_trans (gv_le _ _ _) hS)) (Int.not_le.mp hn))
  have n10 : nm (gE2 e0 e1 g1 e2 m h 1 0) < z * z := cu_mono (nm_0 _) (sqz z) (Int.lt_of_le_of_lt (by rw [← nm_ccu, ← gp2_10]; exact nm_nr _ (Nat.le_trans (gv_le _ _ _) hS)) (Int.not_le.mp hn))
  have n11 : nm (gE2 e0 e1 g1 e2 m h 1 1) < z * z := cu_mono (nm_0 _) (sqz z) (Int.lt_of_le_of_lt (by rw [← nm_ccu, ← gp2_11]; exact nm_nr _ (Nat.le_trans (gv_le _ _ _) hS)) (Int.not_le.mp hn))
  have n12 : nm (gE2 e0 e1 g1 e2 m h 1 2) < z * z := cu_mono (nm_0 _) (sqz z) (Int.lt_of_le_of_lt (by rw [← nm_ccu, ← gp2_12]; exact nm_nr _ (Nat.le_trans (gv_le _ _ _) hS)) (Int.not_le.mp hn))
  have n13 : nm (gE2 e0 e1 g1 e2 m h 1 3) < z * z := cu_mono (nm_0 _) (sqz z) (Int.lt_of_le_of_lt (by rw [← nm_ccu, ← gp2_13]; exact nm_nr _ (Nat.le_trans (gv_le _ _ _) hS)) (Int.not_le.mp hn))
  have n20 : nm (gE2 e0 e1 g1 e2 m h 2 0) < z * z := cu_mono (nm_0 _) (sqz z) (Int.lt_of_le_of_lt (by rw [← nm_ccu, ← gp2_20]; exact nm_nr _ (Nat.le_trans (gv_le _ _ _) hS)) (Int.not_le.mp hn))
  have n21 : nm (gE2 e0 e1 g1 e2 m h 2 1) < z * z := cu_mono (nm_0 _) (sqz z) (Int.lt_of_le_of_lt (by rw [← nm_ccu, ← gp2_21]; exact nm_nr _ (Nat.le_trans (gv_le _ _ _) hS)) (Int.not_le.mp hn))
  have n22 : nm (gE2 e0 e1 g1 e2 m h 2 2) < z * z := cu_mono (nm_0 _) (sqz z) (Int.lt_of_le_of_lt (by rw [← nm_ccu, ← gp2_22]; exact nm_nr _ (Nat.le_trans (gv_le _ _ _) hS)) (Int.not_le.mp hn))
  have n23 : nm (gE2 e0 e1 g1 e2 m h 2 3) < z * z := cu_mono (nm_0 _) (sqz z) (Int.lt_of_le_of_lt (by rw [← nm_ccu, ← gp2_23]; exact nm_nr _ (Nat.le_trans (gv_le _ _ _) hS)) (Int.not_le.mp hn))
  have n30 : nm (gE2 e0 e1 g1 e2 m h 3 0) < z * z := cu_mono (nm_0 _) (sqz z) (Int.lt_of_le_of_lt (by rw [← nm_ccu, ← gp2_30]; exact nm_nr _ (Nat.le_trans (gv_le _ _ _) hS)) (Int.not_le.mp hn))
  have n31 : nm (gE2 e0 e1 g1 e2 m h 3 1) < z * z := cu_mono (nm_0 _) (sqz z) (Int.lt_of_le_of_lt (by rw [← nm_ccu, ← gp2_31]; exact nm_nr _ (Nat.le_trans (gv_le _ _ _) hS)) (Int.not_le.mp hn))
  have n32 : nm (gE2 e0 e1 g1 e2 m h 3 2) < z * z := cu_mono (nm_0 _) (sqz z) (Int.lt_of_le_of_lt (by rw [← nm_ccu, ← gp2_32]; exact nm_nr _ (Nat.le_trans (gv_le _ _ _) hS)) (Int.not_le.mp hn))
  have n33 : nm (gE2 e0 e1 g1 e2 m h 3 3) < z * z := cu_mono (nm_0 _) (sqz z) (Int.lt_of_le_of_lt (by rw [← nm_ccu, ← gp2_33]; exact nm_nr _ (Nat.le_trans (gv_le _ _ _) hS)) (Int.not_le.mp hn))
  have t := gs2 e0 e1 g1 e2 m h
  have hzz : z * z ≤ e0 * e0 + e1 * e1 + g1 * g1 + e2 * e2 + m * m + h * h := by
    have q_e0 := sq_pos' e0
    have q_e1 := sq_pos' e1
    have q_g1 := sq_pos' g1
    have q_e2 := sq_pos' e2
    have q_m := sq_pos' m
    have q_h := sq_pos' h
    rcases hz with e | e | e | e | e | e <;> rw [e] <;> omega
  generalize nm (gE2 e0 e1 g1 e2 m h 0 0) = x00 at *
  generalize nm (gE2 e0 e1 g1 e2 m h 0 1) = x01 at *
  generalize nm (gE2 e0 e1 g1 e2 m h 0 2) = x02 at *
  generalize nm (gE2 e0 e1 g1 e2 m h 0 3) = x03 at *
  generalize nm (gE2 e0 e1 g1 e2 m h 1 0) = x10 at *
  generalize nm (gE2 e0 e1 g1 e2 m h 1 1) = x11 at *
  generalize nm (gE2 e0 e1 g1 e2 m h 1 2) = x12 at *
  generalize nm (gE2 e0 e1 g1 e2 m h 1 3) = x13 at *
  generalize nm (gE2 e0 e1 g1 e2 m h 2 0) = x20 at *
  generalize nm (gE2 e0 e1 g1 e2 m h 2 1) = x21 at *
  generalize nm (gE2 e0 e1 g1 e2 m h 2 2) = x22 at *
  generalize nm (gE2 e0 e1 g1 e2 m h 2 3) = x23 at *
  generalize nm (gE2 e0 e1 g1 e2 m h 3 0) = x30 at *
  generalize nm (gE2 e0 e1 g1 e2 m h 3 1) = x31 at *
  generalize nm (gE2 e0 e1 g1 e2 m h 3 2) = x32 at *
  generalize nm (gE2 e0 e1 g1 e2 m h 3 3) = x33 at *
  clear hn hS hz
  generalize e0 * e0 = y_e0 at *
  generalize e1 * e1 = y_e1 at *
  generalize g1 * g1 = y_g1 at *
  generalize e2 * e2 = y_e2 at *
  generalize m * m = y_m at *
  generalize h * h = y_h at *
  generalize z * z = zz at *
  omega
theorem hs_pp (T : Nat → Nat → Int) : (hom6 T 1 1 1).natAbs ≤ sS T := by
  have h := gv_le T 0 0
  have e : (gv T 0 0).1 = hom6 T 1 1 1 := by
    simp only [gv, pr0, List.map, eu, rt, hom6]
    grind
  unfold nr at h
  rw [e] at h
  omega
theorem hs_pm (T : Nat → Nat → Int) : (hom6 T 1 (-1) 1).natAbs ≤ sS T := by
  have h := gv_le T 0 2
  have e : (gv T 0 2).1 = hom6 T 1 (-1) 1 := by
    simp only [gv, pr0, List.map, eu, rt, hom6]
    grind
  unfold nr at h
  rw [e] at h
  omega
theorem hs_mp (T : Nat → Nat → Int) : (hom6 T (-1) 1 1).natAbs ≤ sS T := by
  have h := gv_le T 2 0
  have e : (gv T 2 0).1 = hom6 T (-1) 1 1 := by
    simp only [gv, pr0, List.map, eu, rt, hom6]
    grind
  unfold nr at h
  rw [e] at h
  omega
theorem hs_mm (T : Nat → Nat → Int) : (hom6 T (-1) (-1) 1).natAbs ≤ sS T := by
  have h := gv_le T 2 2
  have e : (gv T 2 2).1 = hom6 T (-1) (-1) 1 := by
    simp only [gv, pr0, List.map, eu, rt, hom6]
    grind
  unfold nr at h
  rw [e] at h
  omega
theorem pow_lt_of {a b k : Nat} (h : a ^ k < b ^ k) : a < b := by
  rcases Nat.lt_or_ge a b with q | q
  · exact q
  · exact absurd (Nat.pow_le_pow_left q k) (by omega)
theorem cau1 (e g h : Int) {k S : Nat} (h1 : (e + g + h).natAbs ^ k ≤ S) (h2 : (e - g + h).natAbs ^ k ≤ S) (h3 : (-e + g + h).natAbs ^ k ≤ S) (h4 : (-e - g + h).natAbs ^ k ≤ S) (z : Int) (hz : z = e ∨ z = g ∨ z = h) : z.natAbs ^ k ≤ S := by
  rcases Nat.lt_or_ge S (z.natAbs ^ k) with q | q
  · exfalso
    have a1 := pow_lt_of (Nat.lt_of_le_of_lt h1 q)
    have a2 := pow_lt_of (Nat.lt_of_le_of_lt h2 q)
    have a3 := pow_lt_of (Nat.lt_of_le_of_lt h3 q)
    have a4 := pow_lt_of (Nat.lt_of_le_of_lt h4 q)
    clear h1 h2 h3 h4 q
    rcases hz with r | r | r <;> subst r <;> omega
  · exact q
/-- values tell numbers -/
theorem hom6_uq {s t : Nat → Nat → Int} (h : ∀ x y : Int, hom6 s x y 1 = hom6 t x y 1) : ∀ a b, a + b ≤ 6 → s a b = t a b := fun a b hab => by
  have := hom6_zero (fun a b => s a b - t a b) (fun x y => by rw [hom6_sub, h x y]; omega) a b hab
  omega
theorem tru_2 {f E : Nat → Int} (su : SUi E 3) (h : tru 2 f E) : ∀ a b, a + b ≤ 6 → f (7 * a + b) = s2c (E 21) (E 15) (E 14) (E 9) (E 8) (E 7) (E 3) (E 2) (E 1) (E 0) a b := fun a b hab => by
  refine (hom6_uq (s := s2c (E 21) (E 15) (E 14) (E 9) (E 8) (E 7) (E 3) (E 2) (E 1) (E 0)) (t := fun a b => f (7 * a + b)) (fun x y => ?_) a b hab).symm
  rw [s2c_e, ← h x y, Int.pow_succ, Int.pow_succ, Int.pow_zero, Int.one_mul, hom6_cb3 su]
  simp only [Int.one_mul]
theorem tru_3 {f E : Nat → Int} (su : SUi E 2) (h : tru 3 f E) : ∀ a b, a + b ≤ 6 → f (7 * a + b) = s3c (E 14) (E 8) (E 7) (E 2) (E 1) (E 0) a b := fun a b hab => by
  refine (hom6_uq (s := s3c (E 14) (E 8) (E 7) (E 2) (E 1) (E 0)) (t := fun a b => f (7 * a + b)) (fun x y => ?_) a b hab).symm
  rw [s3c_e, ← h x y, Int.pow_succ, Int.pow_succ, Int.pow_succ, Int.pow_zero, Int.one_mul, hom6_qd2 su]
  simp only [Int.one_mul, Int.mul_assoc]
theorem sS_c {s t : Nat → Nat → Int} (h : ∀ a b, a + b ≤ 6 → s a b = t a b) : sS s = sS t := by
  unfold sS
  rw [h 0 0 (by decide), h 0 1 (by decide), h 0 2 (by decide), h 0 3 (by decide), h 0 4 (by decide), h 0 5 (by decide), h 0 6 (by decide), h 1 0 (by decide), h 1 1 (by decide), h 1 2 (by decide), h 1 3 (by decide), h 1 4 (by decide), h 1 5 (by decide), h 2 0 (by decide), h 2 1 (by decide), h 2 2 (by decide), h 2 3 (by decide), h 2 4 (by decide), h 3 0 (by decide), h 3 1 (by decide), h 3 2 (by decide), h 3 3 (by decide), h 4 0 (by decide), h 4 1 (by decide), h 4 2 (by decide), h 5 0 (by decide), h 5 1 (by decide), h 6 0 (by decide)]
theorem cauchy {k D : Nat} {f E : Nat → Int} {S : Nat} (hk : 2 ≤ k) (hD : k * D ≤ 6) (su : SUi E D) (h : tru k f E) (hS : sS (fun a b => f (7 * a + b)) ≤ S) : ∀ a b, a + b ≤ 6 → (E (7 * a + b)).natAbs ^ k ≤ S := by
  intro a b hab
  by_cases hz : E (7 * a + b) = 0
  · rw [hz, show (0 : Int).natAbs = 0 from rfl, Nat.zero_pow (by omega)]
    exact Nat.zero_le _
  have hd : a + b ≤ D := Classical.byContradiction fun q => hz (su a b (by omega) (by omega) (by omega))
  have hk6 : k ≤ 6 ∨ D = 0 := by
    rcases Nat.eq_zero_or_pos D with q | q
    · exact Or.inr q
    · left
      have := Nat.mul_le_mul (Nat.le_refl k) q
      omega
  have hD3 : D ≤ 3 := by
    have := Nat.mul_le_mul hk (Nat.le_refl D)
    omega
  by_cases d1 : D ≤ 1
  · have su1 : SUi E 1 := fun a b ha hb hab => su a b ha hb (by omega)
    have v : ∀ x y : Int, hom6 (fun a b => E (7 * a + b)) x y 1 = E 7 * x + E 1 * y + E 0 := fun x y => by
      rw [hom6_ln1 su1]
      unfold ln1f
      omega
    have p : ∀ x y : Int, (hom6 (fun a b => f (7 * a + b)) x y 1).natAbs ≤ S → (E 7 * x + E 1 * y + E 0).natAbs ^ k ≤ S := fun x y hh => by
      rw [← h x y, v, Int.natAbs_pow] at hh
      exact hh
    refine cau1 (E 7) (E 1) (E 0) (k := k) (S := S) ?_ ?_ ?_ ?_ _ ?_
    · have := p 1 1 (Nat.le_trans (hs_pp _) hS)
      rw [show E 7 * 1 + E 1 * 1 + E 0 = E 7 + E 1 + E 0 by omega] at this
      exact this
    · have := p 1 (-1) (Nat.le_trans (hs_pm _) hS)
      rw [show E 7 * 1 + E 1 * -1 + E 0 = E 7 - E 1 + E 0 by omega] at this
      exact this
    · have := p (-1) 1 (Nat.le_trans (hs_mp _) hS)
      rw [show E 7 * -1 + E 1 * 1 + E 0 = -E 7 + E 1 + E 0 by omega] at this
      exact this
    · have := p (-1) (-1) (Nat.le_trans (hs_mm _) hS)
      rw [show E 7 * -1 + E 1 * -1 + E 0 = -E 7 - E 1 + E 0 by omega] at this
      exact this
    · have : (a = 0 ∧ b = 0) ∨ (a = 0 ∧ b = 1) ∨ (a = 1 ∧ b = 0) := by omega
      rcases this with ⟨r, q⟩ | ⟨r, q⟩ | ⟨r, q⟩ <;> subst r <;> subst q
      · exact Or.inr (Or.inr rfl)
      · exact Or.inr (Or.inl rfl)
      · exact Or.inl rfl
  · have k3 : k = 2 ∨ (k = 3 ∧ D = 2) := by
      have h2 : k * 2 ≤ k * D := Nat.mul_le_mul (Nat.le_refl k) (by omega)
      rcases Nat.lt_or_ge k 3 with q | q
      · omega
      · right
        have : 3 * D ≤ k * D := Nat.mul_le_mul q (Nat.le_refl D)
        omega
    have hab' : (a = 0 ∨ a = 1 ∨ a = 2 ∨ a = 3) ∧ (b = 0 ∨ b = 1 ∨ b = 2 ∨ b = 3) := by omega
    rcases k3 with r | ⟨r, q⟩
    · subst r
      have su3 : SUi E 3 := fun a b ha hb hab => su a b ha hb (by omega)
      rw [sS_c (tru_2 su3 h)] at hS
      obtain ⟨q21, q15, q14, q9, q8, q7, q3, q2, q1, q0⟩ := cau2 (E 21) (E 15) (E 14) (E 9) (E 8) (E 7) (E 3) (E 2) (E 1) (E 0) hS
      have fin : ∀ x : Int, x * x ≤ (S : Int) → x.natAbs ^ 2 ≤ S := fun x hx => by
        rw [nas x] at hx
        rw [Nat.pow_succ, Nat.pow_succ, Nat.pow_zero, Nat.one_mul]
        exact_mod_cast hx
      apply fin
      rcases hab'.1 with r | r | r | r <;> rcases hab'.2 with q | q | q | q <;> subst r <;> subst q <;> first | (exfalso; omega) | assumption
    · subst r
      subst q
      rw [sS_c (tru_3 su h)] at hS
      have c3 := cau3 (E 14) (E 8) (E 7) (E 2) (E 1) (E 0) hS (E (7 * a + b)) (by
        rcases hab'.1 with r | r | r | r <;> rcases hab'.2 with q | q | q | q <;> subst r <;> subst q <;> first | (exfalso; omega) | simp)
      generalize E (7 * a + b) = z at *
      have e : z * z * (z * z * (z * z)) = ((z.natAbs ^ 3 * z.natAbs ^ 3 : Nat) : Int) := by
        rw [nas z]
        generalize z.natAbs = w
        have : ((w ^ 3 * w ^ 3 : Nat) : Int) = (w : Int) ^ 3 * (w : Int) ^ 3 := by
          rw [Int.natCast_mul, Int.natCast_pow]
        rw [this]
        grind
      rw [e] at c3
      have c4 : z.natAbs ^ 3 * z.natAbs ^ 3 ≤ S * S := by exact_mod_cast c3
      rcases Nat.lt_or_ge S (z.natAbs ^ 3) with q | q
      · have := Nat.mul_lt_mul'' q q
        omega
      · exact q
