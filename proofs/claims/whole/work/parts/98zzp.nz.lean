/-! a quartic with one double root: the discriminant's second coefficient at a partner -/
theorem kz1 (X a : Nat → Int) (h : agr 1 0 X a) (hr : rc 1 0 a = 0) (hd : dc a = 0) : qgr X 0 = 0 := by
  obtain ⟨x0, x1, x2, x3, x4⟩ := h
  have s : a 0 = 0 := by
    unfold rc at hr
    omega
  have id : qgr X 0 = -108 * a 1 * dc a := by
    unfold qgr qI qJ qId qJd dc
    simp only [if_true, if_false, Nat.reduceEqDiff]
    rw [x0, x1, x2, x3, x4, s]
    clear x0 x1 x2 x3 x4 s hr hd
    generalize a 0 = a0
    generalize a 1 = a1
    generalize a 2 = a2
    generalize a 3 = a3
    grind
  rw [hd, Int.mul_zero] at id
  exact id
theorem kz2 (X a : Nat → Int) (h : agr 0 1 X a) (hr : rc 0 1 a = 0) (hd : dc a = 0) : qgr X 4 = 0 := by
  obtain ⟨x0, x1, x2, x3, x4⟩ := h
  have s : a 3 = 0 := by
    unfold rc at hr
    omega
  have id : qgr X 4 = 108 * a 2 * dc a := by
    unfold qgr qI qJ qId qJd dc
    simp only [if_true, if_false, Nat.reduceEqDiff]
    rw [x0, x1, x2, x3, x4, s]
    clear x0 x1 x2 x3 x4 s hr hd
    generalize a 0 = a0
    generalize a 1 = a1
    generalize a 2 = a2
    generalize a 3 = a3
    grind
  rw [hd, Int.mul_zero] at id
  exact id
theorem kz3 (X a : Nat → Int) (h : agr 1 1 X a) (hr : rc 1 1 a = 0) (hd : dc a = 0) : qgr X 0 = 0 := by
  obtain ⟨x0, x1, x2, x3, x4⟩ := h
  have s : a 0 = -a 1 - a 2 - a 3 := by
    unfold rc at hr
    omega
  have id : qgr X 0 = -108 * (a 1 + 2 * a 2 + 3 * a 3) * dc a := by
    unfold qgr qI qJ qId qJd dc
    simp only [if_true, if_false, Nat.reduceEqDiff]
    rw [x0, x1, x2, x3, x4, s]
    clear x0 x1 x2 x3 x4 s hr hd
    generalize a 0 = a0
    generalize a 1 = a1
    generalize a 2 = a2
    generalize a 3 = a3
    grind
  rw [hd, Int.mul_zero] at id
  exact id
theorem kz4 (X a : Nat → Int) (h : agr 1 (-1) X a) (hr : rc 1 (-1) a = 0) (hd : dc a = 0) : qgr X 0 = 0 := by
  obtain ⟨x0, x1, x2, x3, x4⟩ := h
  have s : a 0 = a 1 - a 2 + a 3 := by
    unfold rc at hr
    omega
  have id : qgr X 0 = -108 * (a 1 - 2 * a 2 + 3 * a 3) * dc a := by
    unfold qgr qI qJ qId qJd dc
    simp only [if_true, if_false, Nat.reduceEqDiff]
    rw [x0, x1, x2, x3, x4, s]
    clear x0 x1 x2 x3 x4 s hr hd
    generalize a 0 = a0
    generalize a 1 = a1
    generalize a 2 = a2
    generalize a 3 = a3
    grind
  rw [hd, Int.mul_zero] at id
  exact id
theorem kz5 (X a : Nat → Int) (h : agr 1 2 X a) (hr : rc 1 2 a = 0) (hd : dc a = 0) : qgr X 0 = 0 := by
  obtain ⟨x0, x1, x2, x3, x4⟩ := h
  have s : a 0 = -2 * a 1 - 4 * a 2 - 8 * a 3 := by
    unfold rc at hr
    omega
  have id : qgr X 0 = -108 * (a 1 + 4 * a 2 + 12 * a 3) * dc a := by
    unfold qgr qI qJ qId qJd dc
    simp only [if_true, if_false, Nat.reduceEqDiff]
    rw [x0, x1, x2, x3, x4, s]
    clear x0 x1 x2 x3 x4 s hr hd
    generalize a 0 = a0
    generalize a 1 = a1
    generalize a 2 = a2
    generalize a 3 = a3
    grind
  rw [hd, Int.mul_zero] at id
  exact id
theorem kz6 (X a : Nat → Int) (h : agr 1 (-2) X a) (hr : rc 1 (-2) a = 0) (hd : dc a = 0) : qgr X 0 = 0 := by
  obtain ⟨x0, x1, x2, x3, x4⟩ := h
  have s : a 0 = 2 * a 1 - 4 * a 2 + 8 * a 3 := by
    unfold rc at hr
    omega
  have id : qgr X 0 = -108 * (a 1 - 4 * a 2 + 12 * a 3) * dc a := by
    unfold qgr qI qJ qId qJd dc
    simp only [if_true, if_false, Nat.reduceEqDiff]
    rw [x0, x1, x2, x3, x4, s]
    clear x0 x1 x2 x3 x4 s hr hd
    generalize a 0 = a0
    generalize a 1 = a1
    generalize a 2 = a2
    generalize a 3 = a3
    grind
  rw [hd, Int.mul_zero] at id
  exact id
theorem kz7 (X a : Nat → Int) (h : agr 2 1 X a) (hr : rc 2 1 a = 0) (hd : dc a = 0) : qgr X 4 = 0 := by
  obtain ⟨x0, x1, x2, x3, x4⟩ := h
  have s : a 3 = -8 * a 0 - 4 * a 1 - 2 * a 2 := by
    unfold rc at hr
    omega
  have id : 2 * qgr X 4 = -108 * (4 * a 1 + 4 * a 2 + 3 * a 3) * dc a := by
    unfold qgr qI qJ qId qJd dc
    simp only [if_true, if_false, Nat.reduceEqDiff]
    rw [x0, x1, x2, x3, x4, s]
    clear x0 x1 x2 x3 x4 s hr hd
    generalize a 0 = a0
    generalize a 1 = a1
    generalize a 2 = a2
    generalize a 3 = a3
    grind
  rw [hd, Int.mul_zero] at id
  omega
theorem kz8 (X a : Nat → Int) (h : agr 2 (-1) X a) (hr : rc 2 (-1) a = 0) (hd : dc a = 0) : qgr X 4 = 0 := by
  obtain ⟨x0, x1, x2, x3, x4⟩ := h
  have s : a 3 = 8 * a 0 - 4 * a 1 + 2 * a 2 := by
    unfold rc at hr
    omega
  have id : 2 * qgr X 4 = -108 * (4 * a 1 - 4 * a 2 + 3 * a 3) * dc a := by
    unfold qgr qI qJ qId qJd dc
    simp only [if_true, if_false, Nat.reduceEqDiff]
    rw [x0, x1, x2, x3, x4, s]
    clear x0 x1 x2 x3 x4 s hr hd
    generalize a 0 = a0
    generalize a 1 = a1
    generalize a 2 = a2
    generalize a 3 = a3
    grind
  rw [hd, Int.mul_zero] at id
  omega
theorem kd_zero (X : Nat → Int) (w0 w1 w2 w3 w4 d1 d2 d3 d4 : Int) (h : kd X w0 w1 w2 w3 w4 d1 d2 d3 d4) (i : Nat) (hw : (i = 0 ∧ w0 ≠ 0) ∨ (i = 4 ∧ w4 ≠ 0)) (hi : qgr X i = 0) : qz X := by
  obtain ⟨⟨k, e0, e1, e2, e3, e4⟩, -⟩ := h
  have k0 : k = 0 := by
    rcases hw with ⟨r, w⟩ | ⟨r, w⟩
    · rw [r, e0] at hi
      exact (Int.mul_eq_zero.mp hi).resolve_right w
    · rw [r, e4] at hi
      exact (Int.mul_eq_zero.mp hi).resolve_right w
  rw [k0, Int.zero_mul] at e0 e1 e2 e3 e4
  exact ⟨e0, e1, e2, e3, e4⟩
theorem key_lc (p q : Int) (X Y W a b d : Nat → Int) (ha : agr p q X a) (hb : agr p q Y b) (hd : agr p q W d) (hr : rc p q a = 0) : ∀ i j, i + j ≤ 6 → tTf X Y W i j = 27 * sSf (rc p q b) (rc p q d) a b d i j := by
  intro i j hij
  rw [tT_v5, agr_lc p q X a ha, agr_lc p q Y b hb, agr_lc p q W d hd]
  exact tT_lc p q a b d hr i j hij
theorem nz_lc (p q : Int) (X Y W a b d : Nat → Int) (ha : agr p q X a) (hb : agr p q Y b) (hd : agr p q W d) (hr : rc p q a = 0) (n : tT240 X Y W ≠ 0) (hz : dc a ≠ 0) : tT420 X Y W ≠ 0 := by
  have key := key_lc p q X Y W a b d ha hb hd hr
  have s420 : tT420 X Y W = 27 * (rc p q b * rc p q b * dc a) := key 4 2 (by decide)
  have s240 : tT240 X Y W = 27 * (rc p q b * rc p q b * dr a b) := key 2 4 (by decide)
  have hb0 : rc p q b ≠ 0 := by
    intro r
    rw [r] at s240
    simp only [Int.zero_mul, Int.mul_zero] at s240
    exact n s240
  rw [s420]
  exact Int.mul_ne_zero (by decide) (Int.mul_ne_zero (Int.mul_ne_zero hb0 hb0) hz)
theorem nz2 (X Y W : Nat → Int) (hX : bx7 X) (hY : bx7 Y) (hW : bx7 W) (hw : wX X = true) (hz : ¬ qz X) (hD : qD X = 0) (z510 : tT510 X Y W = 0) (z501 : tT501 X Y W = 0) (n : tT240 X Y W ≠ 0) : tT420 X Y W ≠ 0 := by
  have gX : qG X X 1 = 0 := by rw [qG_self, hD, Int.mul_zero]
  have gY : qG X Y 1 = 0 := by rw [← (tT_xy X Y W).2.1]; exact z510
  have gW : qG X W 1 = 0 := by rw [← (tT_xw X Y W).2.1]; exact z501
  rcases wX_mean X hX hw with q | q | q | q | q | q | q | q | q
  · exact absurd q hz
  · obtain ⟨a, ba, fa⟩ := fac1 X hX (kd_lin X _ _ _ _ _ _ _ _ _ q hz X gX)
    obtain ⟨b, bb, fb⟩ := fac1 Y hY (kd_lin X _ _ _ _ _ _ _ _ _ q hz Y gY)
    obtain ⟨d, bd, fd⟩ := fac1 W hW (kd_lin X _ _ _ _ _ _ _ _ _ q hz W gW)
    have r := dbl1 X a fa q.2
    exact nz_lc 1 0 X Y W a b d fa fb fd r n (fun h => hz (kd_zero X _ _ _ _ _ _ _ _ _ q 0 (Or.inl ⟨rfl, by decide⟩) (kz1 X a fa r h)))
  · obtain ⟨a, ba, fa⟩ := fac2 X hX (kd_lin X _ _ _ _ _ _ _ _ _ q hz X gX)
    obtain ⟨b, bb, fb⟩ := fac2 Y hY (kd_lin X _ _ _ _ _ _ _ _ _ q hz Y gY)
    obtain ⟨d, bd, fd⟩ := fac2 W hW (kd_lin X _ _ _ _ _ _ _ _ _ q hz W gW)
    have r := dbl2 X a fa q.2
    exact nz_lc 0 1 X Y W a b d fa fb fd r n (fun h => hz (kd_zero X _ _ _ _ _ _ _ _ _ q 4 (Or.inr ⟨rfl, by decide⟩) (kz2 X a fa r h)))
  · obtain ⟨a, ba, fa⟩ := fac3 X hX (kd_lin X _ _ _ _ _ _ _ _ _ q hz X gX)
    obtain ⟨b, bb, fb⟩ := fac3 Y hY (kd_lin X _ _ _ _ _ _ _ _ _ q hz Y gY)
    obtain ⟨d, bd, fd⟩ := fac3 W hW (kd_lin X _ _ _ _ _ _ _ _ _ q hz W gW)
    have r := dbl3 X a fa q.2
    exact nz_lc 1 1 X Y W a b d fa fb fd r n (fun h => hz (kd_zero X _ _ _ _ _ _ _ _ _ q 0 (Or.inl ⟨rfl, by decide⟩) (kz3 X a fa r h)))
  · obtain ⟨a, ba, fa⟩ := fac4 X hX (kd_lin X _ _ _ _ _ _ _ _ _ q hz X gX)
    obtain ⟨b, bb, fb⟩ := fac4 Y hY (kd_lin X _ _ _ _ _ _ _ _ _ q hz Y gY)
    obtain ⟨d, bd, fd⟩ := fac4 W hW (kd_lin X _ _ _ _ _ _ _ _ _ q hz W gW)
    have r := dbl4 X a fa q.2
    exact nz_lc 1 (-1) X Y W a b d fa fb fd r n (fun h => hz (kd_zero X _ _ _ _ _ _ _ _ _ q 0 (Or.inl ⟨rfl, by decide⟩) (kz4 X a fa r h)))
  · obtain ⟨a, ba, fa⟩ := fac5 X hX (kd_lin X _ _ _ _ _ _ _ _ _ q hz X gX)
    obtain ⟨b, bb, fb⟩ := fac5 Y hY (kd_lin X _ _ _ _ _ _ _ _ _ q hz Y gY)
    obtain ⟨d, bd, fd⟩ := fac5 W hW (kd_lin X _ _ _ _ _ _ _ _ _ q hz W gW)
    have r := dbl5 X a fa q.2
    exact nz_lc 1 2 X Y W a b d fa fb fd r n (fun h => hz (kd_zero X _ _ _ _ _ _ _ _ _ q 0 (Or.inl ⟨rfl, by decide⟩) (kz5 X a fa r h)))
  · obtain ⟨a, ba, fa⟩ := fac6 X hX (kd_lin X _ _ _ _ _ _ _ _ _ q hz X gX)
    obtain ⟨b, bb, fb⟩ := fac6 Y hY (kd_lin X _ _ _ _ _ _ _ _ _ q hz Y gY)
    obtain ⟨d, bd, fd⟩ := fac6 W hW (kd_lin X _ _ _ _ _ _ _ _ _ q hz W gW)
    have r := dbl6 X a fa q.2
    exact nz_lc 1 (-2) X Y W a b d fa fb fd r n (fun h => hz (kd_zero X _ _ _ _ _ _ _ _ _ q 0 (Or.inl ⟨rfl, by decide⟩) (kz6 X a fa r h)))
  · obtain ⟨a, ba, fa⟩ := fac7 X hX (kd_lin X _ _ _ _ _ _ _ _ _ q hz X gX)
    obtain ⟨b, bb, fb⟩ := fac7 Y hY (kd_lin X _ _ _ _ _ _ _ _ _ q hz Y gY)
    obtain ⟨d, bd, fd⟩ := fac7 W hW (kd_lin X _ _ _ _ _ _ _ _ _ q hz W gW)
    have r := dbl7 X a fa q.2
    exact nz_lc 2 1 X Y W a b d fa fb fd r n (fun h => hz (kd_zero X _ _ _ _ _ _ _ _ _ q 4 (Or.inr ⟨rfl, by decide⟩) (kz7 X a fa r h)))
  · obtain ⟨a, ba, fa⟩ := fac8 X hX (kd_lin X _ _ _ _ _ _ _ _ _ q hz X gX)
    obtain ⟨b, bb, fb⟩ := fac8 Y hY (kd_lin X _ _ _ _ _ _ _ _ _ q hz Y gY)
    obtain ⟨d, bd, fd⟩ := fac8 W hW (kd_lin X _ _ _ _ _ _ _ _ _ q hz W gW)
    have r := dbl8 X a fa q.2
    exact nz_lc 2 (-1) X Y W a b d fa fb fd r n (fun h => hz (kd_zero X _ _ _ _ _ _ _ _ _ q 4 (Or.inr ⟨rfl, by decide⟩) (kz8 X a fa r h)))
/-! the first quartic moved to its place, with what it is -/
theorem canonq3 (X Y W : Nat → Int) (hX : bx7 X) (hY : bx7 Y) (hW : bx7 W) : ∃ X' Y' W' : Nat → Int, bx7 X' ∧ bx7 Y' ∧ bx7 W' ∧ sameT X Y W X' Y' W' ∧ 0 ≤ X' 0 ∧ 0 ≤ X' 1 ∧ (X' 4).natAbs ≤ (X' 0).natAbs ∧ (qz X' ↔ qz X) := by
  have nn : ∀ Z : Nat → Int, ngq (ngq Z) = Z := fun Z => funext (fun k => Int.neg_neg (Z k))
  have aa : ∀ Z : Nat → Int, alq (alq Z) = Z := fun Z => funext (fun k => by
    unfold alq
    split
    · exact Int.neg_neg _
    · rfl)
  have s1 : ∃ X' Y' W' : Nat → Int, bx7 X' ∧ bx7 Y' ∧ bx7 W' ∧ sameT X Y W X' Y' W' ∧ (X' 4).natAbs ≤ (X' 0).natAbs ∧ (qz X' ↔ qz X) := by
    rcases Nat.le_total (X 4).natAbs (X 0).natAbs with r | r
    · exact ⟨X, Y, W, hX, hY, hW, sameT_rfl X Y W, r, Iff.rfl⟩
    · exact ⟨rvq X, rvq Y, rvq W, bx_rv hX, bx_rv hY, bx_rv hW, mv_rvq X Y W, r, fun h => qz_rv (rvq X) h, qz_rv X⟩
  obtain ⟨X1, Y1, W1, a1, a2, a3, a4, a5, a6⟩ := s1
  have s2 : ∃ X' Y' W' : Nat → Int, bx7 X' ∧ bx7 Y' ∧ bx7 W' ∧ sameT X Y W X' Y' W' ∧ (X' 4).natAbs ≤ (X' 0).natAbs ∧ 0 ≤ X' 0 ∧ (qz X' ↔ qz X) := by
    rcases Int.le_total 0 (X1 0) with r | r
    · exact ⟨X1, Y1, W1, a1, a2, a3, a4, a5, r, a6⟩
    · refine ⟨ngq X1, ngq Y1, ngq W1, bx_ng a1, bx_ng a2, bx_ng a3, sameT_trans a4 (mv_ngq X1 Y1 W1), ?_, ?_, ?_⟩
      · show (-X1 4).natAbs ≤ (-X1 0).natAbs
        omega
      · show 0 ≤ -X1 0
        omega
      · refine Iff.trans ⟨fun h => ?_, qz_ng X1⟩ a6
        have := qz_ng (ngq X1) h
        rw [nn] at this
        exact this
  obtain ⟨X2, Y2, W2, b1, b2, b3, b4, b5, b6, b7⟩ := s2
  rcases Int.le_total 0 (X2 1) with r | r
  · exact ⟨X2, Y2, W2, b1, b2, b3, b4, b6, r, b5, b7⟩
  · refine ⟨alq X2, alq Y2, alq W2, bx_al b1, bx_al b2, bx_al b3, sameT_trans b4 (mv_alq X2 Y2 W2), b6, ?_, b5, ?_⟩
    · show 0 ≤ -X2 1
      omega
    · refine Iff.trans ⟨fun h => ?_, qz_al X2⟩ b7
      have := qz_al (alq X2) h
      rw [aa] at this
      exact this
