/-! the coded numbers are the true ones -/
theorem eI_cd (a b c d e : Int) : eI (cd a) (cd b) (cd c) (cd d) (cd e) = cd (12 * (a * e) - 3 * (b * d) + c * c) := by
  unfold eI
  rw [show (12 : Nat) = cd 12 from by decide, show (3 : Nat) = cd 3 from by decide]
  simp only [nP_cd, nS_cd, nA_cd]
theorem eJ_cd (a b c d e : Int) : eJ (cd a) (cd b) (cd c) (cd d) (cd e) = cd (72 * (a * (c * e)) + 9 * (b * (c * d)) - 27 * (a * (d * d)) - 27 * (e * (b * b)) - 2 * (c * (c * c))) := by
  unfold eJ
  rw [show (72 : Nat) = cd 72 from by decide, show (9 : Nat) = cd 9 from by decide, show (27 : Nat) = cd 27 from by decide, show (2 : Nat) = cd 2 from by decide]
  simp only [nP_cd, nS_cd, nA_cd]
theorem eJ0_cd (c d e : Int) : eJ0 (cd c) (cd d) (cd e) = cd (72 * (c * e) - 27 * (d * d)) := by
  unfold eJ0
  rw [show (72 : Nat) = cd 72 from by decide, show (27 : Nat) = cd 27 from by decide]
  simp only [nP_cd, nS_cd, nA_cd]
theorem eJ1_cd (b c d e : Int) : eJ1 (cd b) (cd c) (cd d) (cd e) = cd (9 * (c * d) - 54 * (e * b)) := by
  unfold eJ1
  rw [show (9 : Nat) = cd 9 from by decide, show (54 : Nat) = cd 54 from by decide]
  simp only [nP_cd, nS_cd, nA_cd]
theorem eJ2_cd (a b c d e : Int) : eJ2 (cd a) (cd b) (cd c) (cd d) (cd e) = cd (72 * (a * e) + 9 * (b * d) - 6 * (c * c)) := by
  unfold eJ2
  rw [show (72 : Nat) = cd 72 from by decide, show (9 : Nat) = cd 9 from by decide, show (6 : Nat) = cd 6 from by decide]
  simp only [nP_cd, nS_cd, nA_cd]
theorem eJ3_cd (a b c d : Int) : eJ3 (cd a) (cd b) (cd c) (cd d) = cd (9 * (b * c) - 54 * (a * d)) := by
  unfold eJ3
  rw [show (9 : Nat) = cd 9 from by decide, show (54 : Nat) = cd 54 from by decide]
  simp only [nP_cd, nS_cd, nA_cd]
theorem eJ4_cd (a b c : Int) : eJ4 (cd a) (cd b) (cd c) = cd (72 * (a * c) - 27 * (b * b)) := by
  unfold eJ4
  rw [show (72 : Nat) = cd 72 from by decide, show (27 : Nat) = cd 27 from by decide]
  simp only [nP_cd, nS_cd, nA_cd]
theorem p12_cd (x : Int) : nP 12 (cd x) = cd (12 * x) := by
  rw [show (12 : Nat) = cd 12 from by decide, nP_cd]
theorem p2_cd (x : Int) : nP 2 (cd x) = cd (2 * x) := by
  rw [show (2 : Nat) = cd 2 from by decide, nP_cd]
theorem pm3_cd (x : Int) : nP 18446744073709551613 (cd x) = cd (-3 * x) := by
  rw [show (18446744073709551613 : Nat) = cd (-3) from by decide, nP_cd]
theorem eg_cd (p q u v : Int) (h : (p * u - q * v).natAbs ≤ 9223372036854775807) : eg (cd p) (cd q) (cd u) (cd v) = (p * u - q * v).natAbs := by
  unfold eg
  rw [nP_cd, nP_cd, nS_cd, nB_cd _ h]
theorem bId (X : Nat → Int) (h : bx7 X) : (qId X 0).natAbs ≤ 84 ∧ (qId X 1).natAbs ≤ 84 ∧ (qId X 2).natAbs ≤ 84 ∧ (qId X 3).natAbs ≤ 84 ∧ (qId X 4).natAbs ≤ 84 := by
  have a := h 0
  have b := h 1
  have c := h 2
  have d := h 3
  have e := h 4
  unfold qId
  simp only [if_true, if_false, Nat.reduceEqDiff]
  refine ⟨?_, ?_, ?_, ?_, ?_⟩ <;> omega
theorem bqg (X : Nat → Int) (h : bx7 X) (k : Nat) (hk : k < 5) : (qgr X k).natAbs ≤ 9223372036854775807 := by
  have i := bI X h
  have j := bJ X h
  have u : (qId X k).natAbs ≤ 84 := by
    obtain ⟨a, b, c, d, e⟩ := bId X h
    have : k = 0 ∨ k = 1 ∨ k = 2 ∨ k = 3 ∨ k = 4 := by omega
    rcases this with r | r | r | r | r <;> rw [r] <;> assumption
  have v : (qJd X k).natAbs ≤ 4851 := by
    obtain ⟨a, b, c, d, e⟩ := bJd X h
    have : k = 0 ∨ k = 1 ∨ k = 2 ∨ k = 3 ∨ k = 4 := by omega
    rcases this with r | r | r | r | r <;> rw [r]
    · exact a
    · exact Nat.le_trans b (by decide)
    · exact Nat.le_trans c (by decide)
    · exact Nat.le_trans d (by decide)
    · exact e
  refine Nat.le_trans (ns_le (nmul_le (nmul_le k12 (nmul_le i i)) u) (nmul_le (nmul_le k2 j) v)) ?_
  decide
def wX (X : Nat → Int) : Bool := eW (cd (qgr X 0)) (cd (qgr X 1)) (cd (qgr X 2)) (cd (qgr X 3)) (cd (qgr X 4)) (cd (X 1)) (cd (X 2)) (cd (X 3)) (cd (X 4))
theorem eN_cd (X : Nat → Int) (h : bx7 X) : eN (cd (X 0)) (cd (X 1)) (cd (X 2)) (cd (X 3)) (cd (X 4)) = ((Nat.beq (qD X).natAbs 0 && wX X) || (Nat.blt 27 (qD X).natAbs && crX X)) := by
  have s7 : ∀ k, (X k).natAbs ≤ 9223372036854775807 := fun k => Nat.le_trans (h k) (by decide)
  obtain ⟨a, b, c, d, e⟩ := bJd X h
  have a' : (qJd X 0).natAbs ≤ 9223372036854775807 := Nat.le_trans a (by decide)
  have b' : (qJd X 1).natAbs ≤ 9223372036854775807 := Nat.le_trans b (by decide)
  have c' : (qJd X 2).natAbs ≤ 9223372036854775807 := Nat.le_trans c (by decide)
  have d' : (qJd X 3).natAbs ≤ 9223372036854775807 := Nat.le_trans d (by decide)
  have e' : (qJd X 4).natAbs ≤ 9223372036854775807 := Nat.le_trans e (by decide)
  have hi : eI (cd (X 0)) (cd (X 1)) (cd (X 2)) (cd (X 3)) (cd (X 4)) = cd (qI X) := eI_cd _ _ _ _ _
  have hj : eJ (cd (X 0)) (cd (X 1)) (cd (X 2)) (cd (X 3)) (cd (X 4)) = cd (qJ X) := eJ_cd _ _ _ _ _
  have j0 : eJ0 (cd (X 2)) (cd (X 3)) (cd (X 4)) = cd (qJd X 0) := eJ0_cd _ _ _
  have j1 : eJ1 (cd (X 1)) (cd (X 2)) (cd (X 3)) (cd (X 4)) = cd (qJd X 1) := eJ1_cd _ _ _ _
  have j2 : eJ2 (cd (X 0)) (cd (X 1)) (cd (X 2)) (cd (X 3)) (cd (X 4)) = cd (qJd X 2) := eJ2_cd _ _ _ _ _
  have j3 : eJ3 (cd (X 0)) (cd (X 1)) (cd (X 2)) (cd (X 3)) = cd (qJd X 3) := eJ3_cd _ _ _ _
  have j4 : eJ4 (cd (X 0)) (cd (X 1)) (cd (X 2)) = cd (qJd X 4) := eJ4_cd _ _ _
  have hA : nB (nS (nP 4 (nP (cd (qI X)) (nP (cd (qI X)) (cd (qI X))))) (nP (cd (qJ X)) (cd (qJ X)))) = (qD X).natAbs := by
    rw [show (4 : Nat) = cd 4 from by decide]
    simp only [nP_cd, nS_cd]
    refine nB_cd _ ?_
    refine Nat.le_trans (ns_le (nmul_le k4 (nmul_le (bI X h) (nmul_le (bI X h) (bI X h)))) (nmul_le (bJ X h) (bJ X h))) (by decide)
  have hp : nP 12 (nP (cd (qI X)) (cd (qI X))) = cd (12 * (qI X * qI X)) := by
    rw [show (12 : Nat) = cd 12 from by decide]
    simp only [nP_cd]
  have hq : nP 2 (cd (qJ X)) = cd (2 * qJ X) := by
    rw [show (2 : Nat) = cd 2 from by decide]
    simp only [nP_cd]
  have hg : eG (cd (X 0)) (cd (X 1)) (cd (X 2)) (cd (X 3)) (cd (X 4)) (cd (12 * (qI X * qI X))) (cd (2 * qJ X)) = gs X := by
    unfold eG
    rw [j0, j1, j2, j3, j4]
    rw [p12_cd, p12_cd, p2_cd, pm3_cd, pm3_cd]
    have g0 : eg (cd (12 * (qI X * qI X))) (cd (2 * qJ X)) (cd (12 * X 4)) (cd (qJd X 0)) = (qgr X 0).natAbs := eg_cd _ _ _ _ (bqg X h 0 (by decide))
    have g1 : eg (cd (12 * (qI X * qI X))) (cd (2 * qJ X)) (cd (-3 * X 3)) (cd (qJd X 1)) = (qgr X 1).natAbs := eg_cd _ _ _ _ (bqg X h 1 (by decide))
    have g2 : eg (cd (12 * (qI X * qI X))) (cd (2 * qJ X)) (cd (2 * X 2)) (cd (qJd X 2)) = (qgr X 2).natAbs := eg_cd _ _ _ _ (bqg X h 2 (by decide))
    have g3 : eg (cd (12 * (qI X * qI X))) (cd (2 * qJ X)) (cd (-3 * X 1)) (cd (qJd X 3)) = (qgr X 3).natAbs := eg_cd _ _ _ _ (bqg X h 3 (by decide))
    have g4 : eg (cd (12 * (qI X * qI X))) (cd (2 * qJ X)) (cd (12 * X 0)) (cd (qJd X 4)) = (qgr X 4).natAbs := eg_cd _ _ _ _ (bqg X h 4 (by decide))
    rw [g0, g1, g2, g3, g4]
    rfl
  have hv : eV (cd (X 0)) (cd (X 1)) (cd (X 2)) (cd (X 3)) (cd (X 4)) (cd (12 * (qI X * qI X))) (cd (2 * qJ X)) = wX X := by
    unfold eV
    rw [j0, j1, j2, j3, j4, p12_cd, p12_cd, p2_cd, pm3_cd, pm3_cd]
    simp only [nP_cd, nS_cd]
    rfl
  unfold eN eU eT
  rw [hi, hj, hA, hp, hq, hg, hv]
  have hK : eK (cd (X 0)) (cd (X 1)) (cd (X 2)) (cd (X 3)) (cd (X 4)) = js1 X := by
    unfold eK
    rw [j0, j1, j2, j3, j4, nB_cd _ a', nB_cd _ b', nB_cd _ c', nB_cd _ d', nB_cd _ e']
    rfl
  have hL : eLs (cd (X 0)) (cd (X 1)) (cd (X 2)) (cd (X 3)) (cd (X 4)) = is1 X := by
    unfold eLs
    rw [nB_cd _ (s7 0), nB_cd _ (s7 1), nB_cd _ (s7 2), nB_cd _ (s7 3), nB_cd _ (s7 4)]
    rfl
  have hM : eM (cd (X 0)) (cd (X 1)) (cd (X 2)) (cd (X 3)) (cd (X 4)) = js2 X := by
    unfold eM
    rw [nB_cd _ (s7 0), nB_cd _ (s7 1), nB_cd _ (s7 2), nB_cd _ (s7 3), nB_cd _ (s7 4)]
    rfl
  rw [hK, hL, hM, nB_cd _ (Nat.le_trans (bI X h) (by decide)), nB_cd _ (Nat.le_trans (bJ X h) (by decide))]
  rfl
theorem e3N_cd (X : Nat → Int) (h : bx7 X) : e3N (cd (X 0)) (cd (X 1)) (cd (X 2)) (cd (X 3)) (cd (X 4)) = (Nat.beq (qD X).natAbs 0 || cr3X X) := by
  have s7 : ∀ k, (X k).natAbs ≤ 9223372036854775807 := fun k => Nat.le_trans (h k) (by decide)
  obtain ⟨a, b, c, d, e⟩ := bJd X h
  have a' : (qJd X 0).natAbs ≤ 9223372036854775807 := Nat.le_trans a (by decide)
  have b' : (qJd X 1).natAbs ≤ 9223372036854775807 := Nat.le_trans b (by decide)
  have c' : (qJd X 2).natAbs ≤ 9223372036854775807 := Nat.le_trans c (by decide)
  have d' : (qJd X 3).natAbs ≤ 9223372036854775807 := Nat.le_trans d (by decide)
  have e' : (qJd X 4).natAbs ≤ 9223372036854775807 := Nat.le_trans e (by decide)
  have hi : eI (cd (X 0)) (cd (X 1)) (cd (X 2)) (cd (X 3)) (cd (X 4)) = cd (qI X) := eI_cd _ _ _ _ _
  have hj : eJ (cd (X 0)) (cd (X 1)) (cd (X 2)) (cd (X 3)) (cd (X 4)) = cd (qJ X) := eJ_cd _ _ _ _ _
  have j0 : eJ0 (cd (X 2)) (cd (X 3)) (cd (X 4)) = cd (qJd X 0) := eJ0_cd _ _ _
  have j1 : eJ1 (cd (X 1)) (cd (X 2)) (cd (X 3)) (cd (X 4)) = cd (qJd X 1) := eJ1_cd _ _ _ _
  have j2 : eJ2 (cd (X 0)) (cd (X 1)) (cd (X 2)) (cd (X 3)) (cd (X 4)) = cd (qJd X 2) := eJ2_cd _ _ _ _ _
  have j3 : eJ3 (cd (X 0)) (cd (X 1)) (cd (X 2)) (cd (X 3)) = cd (qJd X 3) := eJ3_cd _ _ _ _
  have j4 : eJ4 (cd (X 0)) (cd (X 1)) (cd (X 2)) = cd (qJd X 4) := eJ4_cd _ _ _
  have hA : nB (nS (nP 4 (nP (cd (qI X)) (nP (cd (qI X)) (cd (qI X))))) (nP (cd (qJ X)) (cd (qJ X)))) = (qD X).natAbs := by
    rw [show (4 : Nat) = cd 4 from by decide]
    simp only [nP_cd, nS_cd]
    refine nB_cd _ ?_
    refine Nat.le_trans (ns_le (nmul_le k4 (nmul_le (bI X h) (nmul_le (bI X h) (bI X h)))) (nmul_le (bJ X h) (bJ X h))) (by decide)
  have hp : nP 12 (nP (cd (qI X)) (cd (qI X))) = cd (12 * (qI X * qI X)) := by
    rw [show (12 : Nat) = cd 12 from by decide]
    simp only [nP_cd]
  have hq : nP 2 (cd (qJ X)) = cd (2 * qJ X) := by
    rw [show (2 : Nat) = cd 2 from by decide]
    simp only [nP_cd]
  have hg : eG (cd (X 0)) (cd (X 1)) (cd (X 2)) (cd (X 3)) (cd (X 4)) (cd (12 * (qI X * qI X))) (cd (2 * qJ X)) = gs X := by
    unfold eG
    rw [j0, j1, j2, j3, j4]
    rw [p12_cd, p12_cd, p2_cd, pm3_cd, pm3_cd]
    have g0 : eg (cd (12 * (qI X * qI X))) (cd (2 * qJ X)) (cd (12 * X 4)) (cd (qJd X 0)) = (qgr X 0).natAbs := eg_cd _ _ _ _ (bqg X h 0 (by decide))
    have g1 : eg (cd (12 * (qI X * qI X))) (cd (2 * qJ X)) (cd (-3 * X 3)) (cd (qJd X 1)) = (qgr X 1).natAbs := eg_cd _ _ _ _ (bqg X h 1 (by decide))
    have g2 : eg (cd (12 * (qI X * qI X))) (cd (2 * qJ X)) (cd (2 * X 2)) (cd (qJd X 2)) = (qgr X 2).natAbs := eg_cd _ _ _ _ (bqg X h 2 (by decide))
    have g3 : eg (cd (12 * (qI X * qI X))) (cd (2 * qJ X)) (cd (-3 * X 1)) (cd (qJd X 3)) = (qgr X 3).natAbs := eg_cd _ _ _ _ (bqg X h 3 (by decide))
    have g4 : eg (cd (12 * (qI X * qI X))) (cd (2 * qJ X)) (cd (12 * X 0)) (cd (qJd X 4)) = (qgr X 4).natAbs := eg_cd _ _ _ _ (bqg X h 4 (by decide))
    rw [g0, g1, g2, g3, g4]
    rfl
  unfold e3N e3U e3T
  rw [hi, hj, hA, hp, hq, hg]
  have hK : eK (cd (X 0)) (cd (X 1)) (cd (X 2)) (cd (X 3)) (cd (X 4)) = js1 X := by
    unfold eK
    rw [j0, j1, j2, j3, j4, nB_cd _ a', nB_cd _ b', nB_cd _ c', nB_cd _ d', nB_cd _ e']
    rfl
  have hL : eLs (cd (X 0)) (cd (X 1)) (cd (X 2)) (cd (X 3)) (cd (X 4)) = is1 X := by
    unfold eLs
    rw [nB_cd _ (s7 0), nB_cd _ (s7 1), nB_cd _ (s7 2), nB_cd _ (s7 3), nB_cd _ (s7 4)]
    rfl
  have hM : eM (cd (X 0)) (cd (X 1)) (cd (X 2)) (cd (X 3)) (cd (X 4)) = js2 X := by
    unfold eM
    rw [nB_cd _ (s7 0), nB_cd _ (s7 1), nB_cd _ (s7 2), nB_cd _ (s7 3), nB_cd _ (s7 4)]
    rfl
  rw [hK, hL, hM, nB_cd _ (Nat.le_trans (bI X h) (by decide)), nB_cd _ (Nat.le_trans (bJ X h) (by decide))]
  rfl
