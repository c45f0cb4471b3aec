/-! bounds of the two invariants over the box -/
def bx7 (X : Nat → Int) : Prop := ∀ k, (X k).natAbs ≤ 7
theorem nmul_le {a b : Int} {p q : Nat} (h1 : a.natAbs ≤ p) (h2 : b.natAbs ≤ q) : (a * b).natAbs ≤ p * q := by
  rw [Int.natAbs_mul]
  exact Nat.mul_le_mul h1 h2
theorem bI (X : Nat → Int) (h : bx7 X) : (qI X).natAbs ≤ 784 := by
  have a := nmul_le (h 0) (h 4)
  have b := nmul_le (h 1) (h 3)
  have c := nmul_le (h 2) (h 2)
  unfold qI
  omega
theorem bI1 (X Z : Nat → Int) (hx : bx7 X) (h : bx7 Z) : (qI1 X Z).natAbs ≤ 1568 := by
  have a := nmul_le (hx 0) (h 4)
  have b := nmul_le (h 0) (hx 4)
  have c := nmul_le (hx 1) (h 3)
  have d := nmul_le (h 1) (hx 3)
  have e := nmul_le (hx 2) (h 2)
  unfold qI1
  omega
theorem bJ (X : Nat → Int) (h : bx7 X) : (qJ X).natAbs ≤ 46991 := by
  have a := nmul_le (h 0) (nmul_le (h 2) (h 4))
  have b := nmul_le (h 1) (nmul_le (h 2) (h 3))
  have c := nmul_le (h 0) (nmul_le (h 3) (h 3))
  have d := nmul_le (h 4) (nmul_le (h 1) (h 1))
  have e := nmul_le (h 2) (nmul_le (h 2) (h 2))
  unfold qJ
  omega
theorem bJd (X : Nat → Int) (h : bx7 X) : (qJd X 0).natAbs ≤ 4851 ∧ (qJd X 1).natAbs ≤ 3087 ∧ (qJd X 2).natAbs ≤ 4263 ∧ (qJd X 3).natAbs ≤ 3087 ∧ (qJd X 4).natAbs ≤ 4851 := by
  have a := nmul_le (h 2) (h 4)
  have b := nmul_le (h 3) (h 3)
  have c := nmul_le (h 2) (h 3)
  have d := nmul_le (h 4) (h 1)
  have e := nmul_le (h 0) (h 4)
  have f := nmul_le (h 1) (h 3)
  have g := nmul_le (h 2) (h 2)
  have i := nmul_le (h 1) (h 2)
  have j := nmul_le (h 0) (h 3)
  have k := nmul_le (h 0) (h 2)
  have l := nmul_le (h 1) (h 1)
  unfold qJd
  simp only [if_true, if_false, Nat.reduceEqDiff]
  omega
theorem bJ1 (X Z : Nat → Int) (hx : bx7 X) (h : bx7 Z) : (qJ1 X Z).natAbs ≤ 140973 := by
  obtain ⟨a, b, c, d, e⟩ := bJd X hx
  have a := nmul_le a (h 0)
  have b := nmul_le b (h 1)
  have c := nmul_le c (h 2)
  have d := nmul_le d (h 3)
  have e := nmul_le e (h 4)
  unfold qJ1
  omega
/-- a sharper bound with the first quartic known -/
theorem bJ1x (X Z : Nat → Int) (h : bx7 Z) : (qJ1 X Z).natAbs ≤ 7 * ((qJd X 0).natAbs + (qJd X 1).natAbs + (qJd X 2).natAbs + (qJd X 3).natAbs + (qJd X 4).natAbs) := by
  have a := nmul_le (Nat.le_refl (qJd X 0).natAbs) (h 0)
  have b := nmul_le (Nat.le_refl (qJd X 1).natAbs) (h 1)
  have c := nmul_le (Nat.le_refl (qJd X 2).natAbs) (h 2)
  have d := nmul_le (Nat.le_refl (qJd X 3).natAbs) (h 3)
  have e := nmul_le (Nat.le_refl (qJd X 4).natAbs) (h 4)
  unfold qJ1
  omega
theorem bJ2x (X Z : Nat → Int) (h : bx7 Z) : (qJ1 Z X).natAbs ≤ 4851 * (X 0).natAbs + 3087 * (X 1).natAbs + 4263 * (X 2).natAbs + 3087 * (X 3).natAbs + 4851 * (X 4).natAbs := by
  obtain ⟨a, b, c, d, e⟩ := bJd Z h
  have a := nmul_le a (Nat.le_refl (X 0).natAbs)
  have b := nmul_le b (Nat.le_refl (X 1).natAbs)
  have c := nmul_le c (Nat.le_refl (X 2).natAbs)
  have d := nmul_le d (Nat.le_refl (X 3).natAbs)
  have e := nmul_le e (Nat.le_refl (X 4).natAbs)
  unfold qJ1
  omega
theorem bI1x (X Z : Nat → Int) (h : bx7 Z) : (qI1 X Z).natAbs ≤ 7 * (12 * (X 4).natAbs + 3 * (X 3).natAbs + 2 * (X 2).natAbs + 3 * (X 1).natAbs + 12 * (X 0).natAbs) := by
  have a := nmul_le (Nat.le_refl (X 0).natAbs) (h 4)
  have b := nmul_le (h 0) (Nat.le_refl (X 4).natAbs)
  have c := nmul_le (Nat.le_refl (X 1).natAbs) (h 3)
  have d := nmul_le (h 1) (Nat.le_refl (X 3).natAbs)
  have e := nmul_le (Nat.le_refl (X 2).natAbs) (h 2)
  unfold qI1
  omega
/-! bounds of 27 times the discriminant's coefficients, out of bounds i0 i1 j0 j1 j2 -/
theorem bG2 (X Z : Nat → Int) (h : bx7 Z) (i0 i1 j0 j1 j2 : Nat) (a : (qI X).natAbs ≤ i0) (b : (qI1 X Z).natAbs ≤ i1) (c : (qJ X).natAbs ≤ j0) (d : (qJ1 X Z).natAbs ≤ j1) (e : (qJ1 Z X).natAbs ≤ j2) : (qG X Z 2).natAbs ≤ 12 * (i0 * (i0 * 784)) + 12 * (i0 * (i1 * i1)) + 2 * (j0 * j2) + j1 * j1 := by
  have k := bI Z h
  have u := nmul_le a (nmul_le a k)
  have v := nmul_le a (nmul_le b b)
  have w := nmul_le c e
  have x := nmul_le d d
  unfold qG
  simp only [if_true, if_false, Nat.reduceEqDiff]
  omega
theorem bG3 (X Z : Nat → Int) (h : bx7 Z) (i0 i1 j0 j1 j2 : Nat) (a : (qI X).natAbs ≤ i0) (b : (qI1 X Z).natAbs ≤ i1) (c : (qJ X).natAbs ≤ j0) (d : (qJ1 X Z).natAbs ≤ j1) (e : (qJ1 Z X).natAbs ≤ j2) : (qG X Z 3).natAbs ≤ 24 * (i0 * (i1 * 784)) + 4 * (i1 * (i1 * i1)) + 2 * (j0 * 46991) + 2 * (j1 * j2) := by
  have k := bI Z h
  have l := bJ Z h
  have u := nmul_le a (nmul_le b k)
  have v := nmul_le b (nmul_le b b)
  have w := nmul_le c l
  have x := nmul_le d e
  unfold qG
  simp only [if_true, if_false, Nat.reduceEqDiff]
  omega
theorem bG4 (X Z : Nat → Int) (h : bx7 Z) (i0 i1 j1 j2 : Nat) (a : (qI X).natAbs ≤ i0) (b : (qI1 X Z).natAbs ≤ i1) (d : (qJ1 X Z).natAbs ≤ j1) (e : (qJ1 Z X).natAbs ≤ j2) : (qG X Z 4).natAbs ≤ 12 * (614656 * i0) + 12 * (784 * (i1 * i1)) + 2 * (46991 * j1) + j2 * j2 := by
  have k := bI Z h
  have l := bJ Z h
  have u := nmul_le k (nmul_le k a)
  have v := nmul_le k (nmul_le b b)
  have w := nmul_le l d
  have x := nmul_le e e
  unfold qG
  simp only [if_true, if_false, Nat.reduceEqDiff]
  omega
theorem bG5 (X Z : Nat → Int) (hx : bx7 X) (h : bx7 Z) : (qG X Z 5).natAbs < 2 ^ 62 := by
  have k := bI Z h
  have l := bJ Z h
  have u := nmul_le k (nmul_le k (bI1 X Z hx h))
  have v := nmul_le l (bJ1 Z X h hx)
  unfold qG
  simp only [if_true, if_false, Nat.reduceEqDiff]
  have e62 : (2 : Nat) ^ 62 = 4611686018427387904 := by decide +kernel
  rw [e62]
  omega
theorem bG6 (X Z : Nat → Int) (h : bx7 Z) : (qG X Z 6).natAbs < 2 ^ 62 := by
  have k := bI Z h
  have l := bJ Z h
  have u := nmul_le k (nmul_le k k)
  have v := nmul_le l l
  unfold qG
  simp only [if_true, if_false, Nat.reduceEqDiff]
  have e62 : (2 : Nat) ^ 62 = 4611686018427387904 := by decide +kernel
  rw [e62]
  omega
theorem bG1 (X Z : Nat → Int) (i0 i1 j0 j1 : Nat) (a : (qI X).natAbs ≤ i0) (b : (qI1 X Z).natAbs ≤ i1) (c : (qJ X).natAbs ≤ j0) (d : (qJ1 X Z).natAbs ≤ j1) : (qG X Z 1).natAbs ≤ 12 * (i0 * (i0 * i1)) + 2 * (j0 * j1) := by
  have u := nmul_le a (nmul_le a b)
  have v := nmul_le c d
  unfold qG
  simp only [if_true, if_false, Nat.reduceEqDiff]
  omega
def qg (X : Nat → Int) (k : Nat) : Int := 12 * (qI X * qI X) * qId X k - 2 * qJ X * qJd X k
theorem bG1x (X Z : Nat → Int) (h : bx7 Z) : (qG X Z 1).natAbs ≤ 7 * ((qg X 0).natAbs + (qg X 1).natAbs + (qg X 2).natAbs + (qg X 3).natAbs + (qg X 4).natAbs) := by
  rw [qG1_lin]
  have a := nmul_le (Nat.le_refl (qg X 0).natAbs) (h 0)
  have b := nmul_le (Nat.le_refl (qg X 1).natAbs) (h 1)
  have c := nmul_le (Nat.le_refl (qg X 2).natAbs) (h 2)
  have d := nmul_le (Nat.le_refl (qg X 3).natAbs) (h 3)
  have e := nmul_le (Nat.le_refl (qg X 4).natAbs) (h 4)
  show (qg X 0 * Z 0 + qg X 1 * Z 1 + qg X 2 * Z 2 + qg X 3 * Z 3 + qg X 4 * Z 4).natAbs ≤ _
  omega
