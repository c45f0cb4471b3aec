/-! bounds of the two invariants over the box -/
def bx7 (X : Nat → Int) : Prop := ∀ k, (X k).natAbs ≤ 7
theorem nmul_le {a b : Int} {p q : Nat} (h1 : a.natAbs ≤ p) (h2 : b.natAbs ≤ q) : (a * b).natAbs ≤ p * q := by
  rw [Int.natAbs_mul]
  exact Nat.mul_le_mul h1 h2
theorem na_le {a b : Int} {p q : Nat} (h1 : a.natAbs ≤ p) (h2 : b.natAbs ≤ q) : (a + b).natAbs ≤ p + q := Nat.le_trans (nadd_le a b) (Nat.add_le_add h1 h2)
theorem ns_le {a b : Int} {p q : Nat} (h1 : a.natAbs ≤ p) (h2 : b.natAbs ≤ q) : (a - b).natAbs ≤ p + q := Nat.le_trans (nsub_le a b) (Nat.add_le_add h1 h2)
theorem k2 : (2 : Int).natAbs ≤ 2 := by decide
theorem k3 : (3 : Int).natAbs ≤ 3 := by decide
theorem k4 : (4 : Int).natAbs ≤ 4 := by decide
theorem k6 : (6 : Int).natAbs ≤ 6 := by decide
theorem k9 : (9 : Int).natAbs ≤ 9 := by decide
theorem k12 : (12 : Int).natAbs ≤ 12 := by decide
theorem k24 : (24 : Int).natAbs ≤ 24 := by decide
theorem k27 : (27 : Int).natAbs ≤ 27 := by decide
theorem k54 : (54 : Int).natAbs ≤ 54 := by decide
theorem k72 : (72 : Int).natAbs ≤ 72 := by decide
theorem bI (X : Nat → Int) (h : bx7 X) : (qI X).natAbs ≤ 784 :=
  na_le (ns_le (nmul_le k12 (nmul_le (h 0) (h 4))) (nmul_le k3 (nmul_le (h 1) (h 3)))) (nmul_le (h 2) (h 2))
theorem bI1 (X Z : Nat → Int) (hx : bx7 X) (h : bx7 Z) : (qI1 X Z).natAbs ≤ 1568 :=
  na_le (ns_le (nmul_le k12 (na_le (nmul_le (hx 0) (h 4)) (nmul_le (h 0) (hx 4)))) (nmul_le k3 (na_le (nmul_le (hx 1) (h 3)) (nmul_le (h 1) (hx 3))))) (nmul_le k2 (nmul_le (hx 2) (h 2)))
theorem bJ (X : Nat → Int) (h : bx7 X) : (qJ X).natAbs ≤ 46991 :=
  ns_le (ns_le (ns_le (na_le (nmul_le k72 (nmul_le (h 0) (nmul_le (h 2) (h 4)))) (nmul_le k9 (nmul_le (h 1) (nmul_le (h 2) (h 3))))) (nmul_le k27 (nmul_le (h 0) (nmul_le (h 3) (h 3))))) (nmul_le k27 (nmul_le (h 4) (nmul_le (h 1) (h 1))))) (nmul_le k2 (nmul_le (h 2) (nmul_le (h 2) (h 2))))
theorem bJd (X : Nat → Int) (h : bx7 X) : (qJd X 0).natAbs ≤ 4851 ∧ (qJd X 1).natAbs ≤ 3087 ∧ (qJd X 2).natAbs ≤ 4263 ∧ (qJd X 3).natAbs ≤ 3087 ∧ (qJd X 4).natAbs ≤ 4851 :=
  ⟨ns_le (nmul_le k72 (nmul_le (h 2) (h 4))) (nmul_le k27 (nmul_le (h 3) (h 3))), ns_le (nmul_le k9 (nmul_le (h 2) (h 3))) (nmul_le k54 (nmul_le (h 4) (h 1))), ns_le (na_le (nmul_le k72 (nmul_le (h 0) (h 4))) (nmul_le k9 (nmul_le (h 1) (h 3)))) (nmul_le k6 (nmul_le (h 2) (h 2))), ns_le (nmul_le k9 (nmul_le (h 1) (h 2))) (nmul_le k54 (nmul_le (h 0) (h 3))), ns_le (nmul_le k72 (nmul_le (h 0) (h 2))) (nmul_le k27 (nmul_le (h 1) (h 1)))⟩
theorem five_le {a b c d e x y z u v : Int} {p q r s t l m n o w : Nat} (h1 : a.natAbs ≤ p) (h2 : b.natAbs ≤ q) (h3 : c.natAbs ≤ r) (h4 : d.natAbs ≤ s) (h5 : e.natAbs ≤ t) (g1 : x.natAbs ≤ l) (g2 : y.natAbs ≤ m) (g3 : z.natAbs ≤ n) (g4 : u.natAbs ≤ o) (g5 : v.natAbs ≤ w) : (a * x + b * y + c * z + d * u + e * v).natAbs ≤ p * l + q * m + r * n + s * o + t * w :=
  na_le (na_le (na_le (na_le (nmul_le h1 g1) (nmul_le h2 g2)) (nmul_le h3 g3)) (nmul_le h4 g4)) (nmul_le h5 g5)
theorem bJ1 (X Z : Nat → Int) (hx : bx7 X) (h : bx7 Z) : (qJ1 X Z).natAbs ≤ 140973 := by
  obtain ⟨a, b, c, d, e⟩ := bJd X hx
  exact five_le a b c d e (h 0) (h 1) (h 2) (h 3) (h 4)
/-- a sharper bound with the first quartic known -/
theorem bJ1x (X Z : Nat → Int) (h : bx7 Z) : (qJ1 X Z).natAbs ≤ 7 * ((qJd X 0).natAbs + (qJd X 1).natAbs + (qJd X 2).natAbs + (qJd X 3).natAbs + (qJd X 4).natAbs) := by
  have f := five_le (Nat.le_refl (qJd X 0).natAbs) (Nat.le_refl (qJd X 1).natAbs) (Nat.le_refl (qJd X 2).natAbs) (Nat.le_refl (qJd X 3).natAbs) (Nat.le_refl (qJd X 4).natAbs) (h 0) (h 1) (h 2) (h 3) (h 4)
  refine Nat.le_trans f (Nat.le_of_eq ?_)
  generalize (qJd X 0).natAbs = a
  generalize (qJd X 1).natAbs = b
  generalize (qJd X 2).natAbs = c
  generalize (qJd X 3).natAbs = d
  generalize (qJd X 4).natAbs = e
  omega
theorem bJ2x (X Z : Nat → Int) (h : bx7 Z) : (qJ1 Z X).natAbs ≤ 4851 * (X 0).natAbs + 3087 * (X 1).natAbs + 4263 * (X 2).natAbs + 3087 * (X 3).natAbs + 4851 * (X 4).natAbs := by
  obtain ⟨a, b, c, d, e⟩ := bJd Z h
  exact five_le a b c d e (Nat.le_refl (X 0).natAbs) (Nat.le_refl (X 1).natAbs) (Nat.le_refl (X 2).natAbs) (Nat.le_refl (X 3).natAbs) (Nat.le_refl (X 4).natAbs)
theorem bI1x (X Z : Nat → Int) (h : bx7 Z) : (qI1 X Z).natAbs ≤ 7 * (12 * (X 4).natAbs + 3 * (X 3).natAbs + 2 * (X 2).natAbs + 3 * (X 1).natAbs + 12 * (X 0).natAbs) := by
  have f : (qI1 X Z).natAbs ≤ _ := na_le (ns_le (nmul_le k12 (na_le (nmul_le (Nat.le_refl (X 0).natAbs) (h 4)) (nmul_le (h 0) (Nat.le_refl (X 4).natAbs)))) (nmul_le k3 (na_le (nmul_le (Nat.le_refl (X 1).natAbs) (h 3)) (nmul_le (h 1) (Nat.le_refl (X 3).natAbs))))) (nmul_le k2 (nmul_le (Nat.le_refl (X 2).natAbs) (h 2)))
  refine Nat.le_trans f (Nat.le_of_eq ?_)
  generalize (X 0).natAbs = a
  generalize (X 1).natAbs = b
  generalize (X 2).natAbs = c
  generalize (X 3).natAbs = d
  generalize (X 4).natAbs = e
  omega
/-! bounds of 27 times the discriminant's coefficients, out of bounds i0 i1 j0 j1 j2 -/
theorem bG2 (X Z : Nat → Int) (h : bx7 Z) (i0 i1 j0 j1 j2 : Nat) (a : (qI X).natAbs ≤ i0) (b : (qI1 X Z).natAbs ≤ i1) (c : (qJ X).natAbs ≤ j0) (d : (qJ1 X Z).natAbs ≤ j1) (e : (qJ1 Z X).natAbs ≤ j2) : (qG X Z 2).natAbs ≤ 12 * (i0 * (i0 * 784)) + 12 * (i0 * (i1 * i1)) + 2 * (j0 * j2) + j1 * j1 :=
  ns_le (ns_le (na_le (nmul_le k12 (nmul_le a (nmul_le a (bI Z h)))) (nmul_le k12 (nmul_le a (nmul_le b b)))) (nmul_le k2 (nmul_le c e))) (nmul_le d d)
theorem bG3 (X Z : Nat → Int) (h : bx7 Z) (i0 i1 j0 j1 j2 : Nat) (a : (qI X).natAbs ≤ i0) (b : (qI1 X Z).natAbs ≤ i1) (c : (qJ X).natAbs ≤ j0) (d : (qJ1 X Z).natAbs ≤ j1) (e : (qJ1 Z X).natAbs ≤ j2) : (qG X Z 3).natAbs ≤ 24 * (i0 * (i1 * 784)) + 4 * (i1 * (i1 * i1)) + 2 * (j0 * 46991) + 2 * (j1 * j2) :=
  ns_le (ns_le (na_le (nmul_le k24 (nmul_le a (nmul_le b (bI Z h)))) (nmul_le k4 (nmul_le b (nmul_le b b)))) (nmul_le k2 (nmul_le c (bJ Z h)))) (nmul_le k2 (nmul_le d e))
theorem bG4 (X Z : Nat → Int) (h : bx7 Z) (i0 i1 j1 j2 : Nat) (a : (qI X).natAbs ≤ i0) (b : (qI1 X Z).natAbs ≤ i1) (d : (qJ1 X Z).natAbs ≤ j1) (e : (qJ1 Z X).natAbs ≤ j2) : (qG X Z 4).natAbs ≤ 12 * (784 * (784 * i0)) + 12 * (784 * (i1 * i1)) + 2 * (46991 * j1) + j2 * j2 :=
  ns_le (ns_le (na_le (nmul_le k12 (nmul_le (bI Z h) (nmul_le (bI Z h) a))) (nmul_le k12 (nmul_le (bI Z h) (nmul_le b b)))) (nmul_le k2 (nmul_le (bJ Z h) d))) (nmul_le e e)
theorem bG5 (X Z : Nat → Int) (hx : bx7 X) (h : bx7 Z) : (qG X Z 5).natAbs < 27 * 1073741824 := by
  have f : (qG X Z 5).natAbs ≤ _ := ns_le (nmul_le k12 (nmul_le (bI Z h) (nmul_le (bI Z h) (bI1 X Z hx h)))) (nmul_le k2 (nmul_le (bJ Z h) (bJ1 Z X h hx)))
  exact Nat.lt_of_le_of_lt f (by decide +kernel)
theorem bG6 (X Z : Nat → Int) (h : bx7 Z) : (qG X Z 6).natAbs < 2 ^ 62 := by
  have f : (qG X Z 6).natAbs ≤ _ := ns_le (nmul_le k4 (nmul_le (bI Z h) (nmul_le (bI Z h) (bI Z h)))) (nmul_le (bJ Z h) (bJ Z h))
  exact Nat.lt_of_le_of_lt f (by decide +kernel)
theorem bG1 (X Z : Nat → Int) (i0 i1 j0 j1 : Nat) (a : (qI X).natAbs ≤ i0) (b : (qI1 X Z).natAbs ≤ i1) (c : (qJ X).natAbs ≤ j0) (d : (qJ1 X Z).natAbs ≤ j1) : (qG X Z 1).natAbs ≤ 12 * (i0 * (i0 * i1)) + 2 * (j0 * j1) :=
  ns_le (nmul_le k12 (nmul_le a (nmul_le a b))) (nmul_le k2 (nmul_le c d))
def qgr (X : Nat → Int) (k : Nat) : Int := 12 * (qI X * qI X) * qId X k - 2 * qJ X * qJd X k
theorem bG1x (X Z : Nat → Int) (h : bx7 Z) : (qG X Z 1).natAbs ≤ 7 * ((qgr X 0).natAbs + (qgr X 1).natAbs + (qgr X 2).natAbs + (qgr X 3).natAbs + (qgr X 4).natAbs) := by
  rw [qG1_lin]
  have f := five_le (Nat.le_refl (qgr X 0).natAbs) (Nat.le_refl (qgr X 1).natAbs) (Nat.le_refl (qgr X 2).natAbs) (Nat.le_refl (qgr X 3).natAbs) (Nat.le_refl (qgr X 4).natAbs) (h 0) (h 1) (h 2) (h 3) (h 4)
  refine Nat.le_trans f (Nat.le_of_eq ?_)
  generalize (qgr X 0).natAbs = a
  generalize (qgr X 1).natAbs = b
  generalize (qgr X 2).natAbs = c
  generalize (qgr X 3).natAbs = d
  generalize (qgr X 4).natAbs = e
  omega
