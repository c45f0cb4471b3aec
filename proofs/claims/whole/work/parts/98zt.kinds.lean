/-! the kinds of quartics with a double root -/
theorem cd_inj (x y : Int) (hx : x.natAbs ≤ 4611686018427387904) (hy : y.natAbs ≤ 4611686018427387904) (h : Nat.beq (cd x) (cd y) = true) : x = y := by
  have h1 := Nat.eq_of_beq_eq_true h
  have a := cd_int x
  have b := cd_int y
  omega
def kd (X : Nat → Int) (w0 w1 w2 w3 w4 d1 d2 d3 d4 : Int) : Prop := (∃ k : Int, qgr X 0 = k * w0 ∧ qgr X 1 = k * w1 ∧ qgr X 2 = k * w2 ∧ qgr X 3 = k * w3 ∧ qgr X 4 = k * w4) ∧ d1 * X 1 + d2 * X 2 + d3 * X 3 + d4 * X 4 = 0
def qz (X : Nat → Int) : Prop := qgr X 0 = 0 ∧ qgr X 1 = 0 ∧ qgr X 2 = 0 ∧ qgr X 3 = 0 ∧ qgr X 4 = 0
theorem bqg2 (X : Nat → Int) (h : bx7 X) (k : Nat) (hk : k < 5) : (qgr X k).natAbs ≤ 2000000000 := by
  have i := bI X h
  have j := bJ X h
  have u : (qId X k).natAbs ≤ 84 := by
    obtain ⟨a, b, c, d, e⟩ := bId X h
    have : k = 0 ∨ k = 1 ∨ k = 2 ∨ k = 3 ∨ k = 4 := by omega
    rcases this with r | r | r | r | r <;> rw [r] <;> assumption
  have v : (qJd X k).natAbs ≤ 4851 := by
    obtain ⟨a, b, c, d, e⟩ := bJd X h
    have : k = 0 ∨ k = 1 ∨ k = 2 ∨ k = 3 ∨ k = 4 := by omega
    rcases this with r | r | r | r | r <;> rw [r]
    · exact a
    · exact Nat.le_trans b (by decide)
    · exact Nat.le_trans c (by decide)
    · exact Nat.le_trans d (by decide)
    · exact e
  refine Nat.le_trans (ns_le (nmul_le (nmul_le k12 (nmul_le i i)) u) (nmul_le (nmul_le k2 j) v)) ?_
  decide
theorem eC_mean (X : Nat → Int) (h : bx7 X) (k w0 w1 w2 w3 w4 d1 d2 d3 d4 : Int) (hk : k.natAbs ≤ 2000000000) (b0 : w0.natAbs ≤ 16) (b1 : w1.natAbs ≤ 16) (b2 : w2.natAbs ≤ 16) (b3 : w3.natAbs ≤ 16) (b4 : w4.natAbs ≤ 16) (f1 : d1.natAbs ≤ 32) (f2 : d2.natAbs ≤ 32) (f3 : d3.natAbs ≤ 32) (f4 : d4.natAbs ≤ 32) (hc : eC (cd (qgr X 0)) (cd (qgr X 1)) (cd (qgr X 2)) (cd (qgr X 3)) (cd (qgr X 4)) (cd k) (cd w0) (cd w1) (cd w2) (cd w3) (cd w4) (cd d1) (cd d2) (cd d3) (cd d4) (cd (X 1)) (cd (X 2)) (cd (X 3)) (cd (X 4)) = true) : kd X w0 w1 w2 w3 w4 d1 d2 d3 d4 := by
  unfold eC at hc
  simp only [nP_cd, nA_cd, Bool.and_eq_true] at hc
  have g : ∀ j, j < 5 → (qgr X j).natAbs ≤ 4611686018427387904 := fun j hj => Nat.le_trans (bqg2 X h j hj) (by decide)
  have m : ∀ w : Int, w.natAbs ≤ 16 → (k * w).natAbs ≤ 4611686018427387904 := fun w hw => Nat.le_trans (nmul_le hk hw) (by decide)
  refine ⟨⟨k, cd_inj _ _ (g 0 (by decide)) (m _ b0) hc.1, cd_inj _ _ (g 1 (by decide)) (m _ b1) hc.2.1, cd_inj _ _ (g 2 (by decide)) (m _ b2) hc.2.2.1, cd_inj _ _ (g 3 (by decide)) (m _ b3) hc.2.2.2.1, cd_inj _ _ (g 4 (by decide)) (m _ b4) hc.2.2.2.2.1⟩, ?_⟩
  refine cd_inj _ 0 (Nat.le_trans (na_le (na_le (na_le (nmul_le f1 (h 1)) (nmul_le f2 (h 2))) (nmul_le f3 (h 3))) (nmul_le f4 (h 4))) (by decide)) (by decide) ?_
  exact hc.2.2.2.2.2
theorem wX_mean (X : Nat → Int) (h : bx7 X) (hw : wX X = true) : qz X ∨ kd X 1 0 0 0 0 1 0 0 0 ∨ kd X 0 0 0 0 1 0 0 1 0 ∨ kd X 1 1 1 1 1 1 2 3 4 ∨ kd X 1 (-1) 1 (-1) 1 1 (-2) 3 (-4) ∨ kd X 1 2 4 8 16 1 4 12 32 ∨ kd X 1 (-2) 4 (-8) 16 1 (-4) 12 (-32) ∨ kd X 16 8 4 2 1 8 8 6 4 ∨ kd X 16 (-8) 4 (-2) 1 8 (-8) 6 (-4) := by
  unfold wX eW at hw
  simp only [Bool.or_eq_true] at hw
  rcases hw with q | q | q | q | q | q | q | q | q
  · left
    simp only [Bool.and_eq_true] at q
    have g : ∀ j, j < 5 → Nat.beq (cd (qgr X j)) 0 = true → qgr X j = 0 := fun j hj r => cd_inj _ 0 (Nat.le_trans (bqg2 X h j hj) (by decide)) (by decide) r
    exact ⟨g 0 (by decide) q.1, g 1 (by decide) q.2.1, g 2 (by decide) q.2.2.1, g 3 (by decide) q.2.2.2.1, g 4 (by decide) q.2.2.2.2⟩
  · exact Or.inr (Or.inl (eC_mean X h (qgr X 0) 1 0 0 0 0 1 0 0 0 (bqg2 X h 0 (by decide)) (by decide) (by decide) (by decide) (by decide) (by decide) (by decide) (by decide) (by decide) (by decide) q))
  · exact Or.inr (Or.inr (Or.inl (eC_mean X h (qgr X 4) 0 0 0 0 1 0 0 1 0 (bqg2 X h 4 (by decide)) (by decide) (by decide) (by decide) (by decide) (by decide) (by decide) (by decide) (by decide) (by decide) q)))
  · exact Or.inr (Or.inr (Or.inr (Or.inl (eC_mean X h (qgr X 0) 1 1 1 1 1 1 2 3 4 (bqg2 X h 0 (by decide)) (by decide) (by decide) (by decide) (by decide) (by decide) (by decide) (by decide) (by decide) (by decide) q))))
  · exact Or.inr (Or.inr (Or.inr (Or.inr (Or.inl (eC_mean X h (qgr X 0) 1 (-1) 1 (-1) 1 1 (-2) 3 (-4) (bqg2 X h 0 (by decide)) (by decide) (by decide) (by decide) (by decide) (by decide) (by decide) (by decide) (by decide) (by decide) q)))))
  · exact Or.inr (Or.inr (Or.inr (Or.inr (Or.inr (Or.inl (eC_mean X h (qgr X 0) 1 2 4 8 16 1 4 12 32 (bqg2 X h 0 (by decide)) (by decide) (by decide) (by decide) (by decide) (by decide) (by decide) (by decide) (by decide) (by decide) q))))))
  · exact Or.inr (Or.inr (Or.inr (Or.inr (Or.inr (Or.inr (Or.inl (eC_mean X h (qgr X 0) 1 (-2) 4 (-8) 16 1 (-4) 12 (-32) (bqg2 X h 0 (by decide)) (by decide) (by decide) (by decide) (by decide) (by decide) (by decide) (by decide) (by decide) (by decide) q)))))))
  · exact Or.inr (Or.inr (Or.inr (Or.inr (Or.inr (Or.inr (Or.inr (Or.inl (eC_mean X h (qgr X 4) 16 8 4 2 1 8 8 6 4 (bqg2 X h 4 (by decide)) (by decide) (by decide) (by decide) (by decide) (by decide) (by decide) (by decide) (by decide) (by decide) q))))))))
  · exact Or.inr (Or.inr (Or.inr (Or.inr (Or.inr (Or.inr (Or.inr (Or.inr (eC_mean X h (qgr X 4) 16 (-8) 4 (-2) 1 8 (-8) 6 (-4) (bqg2 X h 4 (by decide)) (by decide) (by decide) (by decide) (by decide) (by decide) (by decide) (by decide) (by decide) (by decide) q))))))))
