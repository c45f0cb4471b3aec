/-! lead x^4 y^2, the first quartic met twice: the chain -/
theorem fbc (c f T : Int) (n : Nat) (h : T = 27 * c * f) (hT : T.natAbs ≤ n * 4135715297) : c.natAbs * f.natAbs ≤ n * 153174641 := by
  rw [h, Int.natAbs_mul, Int.natAbs_mul] at hT
  have : (27 : Int).natAbs = 27 := rfl
  rw [this, Nat.mul_assoc] at hT
  omega
theorem fb1 (c f T : Int) (n : Nat) (hc : c ≠ 0) (h : T = 27 * c * f) (hT : T.natAbs ≤ n * 4135715297) : f.natAbs ≤ n * 153174641 := fb_le c f T n 153174641 1 h hT (Int.natAbs_pos.mpr hc) (by decide) (by decide)
theorem cr_beg (u v : Nat) (h : 198514334256 * v + u < 3984496719921263149056 * v) : u < 3984496719722748814800 * v := by omega
theorem cr_fin (u v : Nat) (h : u < 3984496719722748814800 * v) : 8 * v * 24814291782 + u < 8 * (27 * v) * 18446744073709551616 := by omega
theorem cr_mono (A0 A K : Nat) (h : A0 ≤ A) (h0 : 0 < A0) (hc : 198514334256 * (A0 * A0) + K * (4 * A0 * 62035729455 + K * K) < 3984496719921263149056 * (A0 * A0)) : 8 * (A * A) * 24814291782 + K * (4 * A * 62035729455 + K * K) < 8 * (27 * (A * A)) * 18446744073709551616 := by
  have b0 : K * (4 * A0 * 62035729455 + K * K) < 3984496719722748814800 * (A0 * A0) := cr_beg _ _ hc
  have b1 : A0 * A0 * (K * (4 * A * 62035729455 + K * K)) ≤ A * A * (K * (4 * A0 * 62035729455 + K * K)) := by
    have e1 : A0 * A0 * (K * (4 * A * 62035729455 + K * K)) = 248142917820 * (K * (A0 * (A0 * A))) + K * (K * K) * (A0 * A0) := by grind
    have e2 : A * A * (K * (4 * A0 * 62035729455 + K * K)) = 248142917820 * (K * (A0 * (A * A))) + K * (K * K) * (A * A) := by grind
    rw [e1, e2]
    exact Nat.add_le_add (Nat.mul_le_mul (Nat.le_refl _) (Nat.mul_le_mul (Nat.le_refl _) (Nat.mul_le_mul (Nat.le_refl _) (Nat.mul_le_mul h (Nat.le_refl _))))) (Nat.mul_le_mul (Nat.le_refl _) (Nat.mul_le_mul h h))
  have b2 : A * A * (K * (4 * A0 * 62035729455 + K * K)) < A * A * (3984496719722748814800 * (A0 * A0)) := Nat.mul_lt_mul_of_pos_left b0 (Nat.mul_pos (Nat.lt_of_lt_of_le h0 h) (Nat.lt_of_lt_of_le h0 h))
  have b3 : A * A * (3984496719722748814800 * (A0 * A0)) = A0 * A0 * (3984496719722748814800 * (A * A)) := by grind
  have b4 : K * (4 * A * 62035729455 + K * K) < 3984496719722748814800 * (A * A) := by
    rw [b3] at b2
    exact Nat.lt_of_mul_lt_mul_left (Nat.lt_of_le_of_lt b1 b2)
  exact cr_fin _ _ b4
theorem qch1 (X Y W : Nat → Int) (hX : bx7 X) (hY : bx7 Y) (hW : bx7 W) (hz : zck X = true) (c e1 g1 e2 m h1 e3 n1 n2 H411 H402 H330 H321 H312 H303 H240 H231 H222 H150 H141 H060 H051 : Int) (he : e1 ≠ 0) (hc : c ≠ 0) (t420 : tT420 X Y W = 27 * c * (e1 * e1)) (t411 : tT411 X Y W = 27 * c * (2 * e1 * g1 + 18446744073709551616 * H411)) (t402 : tT402 X Y W = 27 * c * (g1 * g1 + 18446744073709551616 * H402)) (t330 : tT330 X Y W = 27 * c * (2 * e1 * e2 + 18446744073709551616 * H330)) (t321 : tT321 X Y W = 27 * c * (2 * e1 * m + 2 * g1 * e2 + 18446744073709551616 * H321)) (t312 : tT312 X Y W = 27 * c * (2 * e1 * h1 + 2 * g1 * m + 18446744073709551616 * H312)) (t303 : tT303 X Y W = 27 * c * (2 * g1 * h1 + 18446744073709551616 * H303)) (t240 : tT240 X Y W = 27 * c * (2 * e1 * e3 + e2 * e2 + 18446744073709551616 * H240)) (t231 : tT231 X Y W = 27 * c * (2 * e1 * n1 + (2 * g1 * e3 + 2 * e2 * m) + 18446744073709551616 * H231)) (t222 : tT222 X Y W = 27 * c * (2 * e1 * n2 + (2 * g1 * n1 + (m * m + 2 * e2 * h1)) + 18446744073709551616 * H222)) (t150 : tT150 X Y W = 27 * c * (2 * e2 * e3 + 18446744073709551616 * H150)) (t141 : tT141 X Y W = 27 * c * (2 * e2 * n1 + 2 * m * e3 + 18446744073709551616 * H141)) (t060 : tT060 X Y W = 27 * c * (e3 * e3 + 18446744073709551616 * H060)) (t051 : tT051 X Y W = 27 * c * (2 * e3 * n1 + 18446744073709551616 * H051)) (d411 : (2 * e1 * g1).natAbs ≤ 2 ^ 63) (d330 : (2 * e1 * e2).natAbs ≤ 2 ^ 63) (d321 : (2 * e1 * m).natAbs ≤ 2 ^ 63) (d312 : (2 * e1 * h1).natAbs ≤ 2 ^ 63) (d240 : (2 * e1 * e3).natAbs ≤ 2 ^ 63) (d231 : (2 * e1 * n1).natAbs ≤ 2 ^ 63) (d222 : (2 * e1 * n2).natAbs ≤ 2 ^ 63) :
    H411 = 0 ∧ H402 = 0 ∧ H330 = 0 ∧ H240 = 0 ∧ H150 = 0 ∧ H060 = 0 ∧ H321 = 0 ∧ H312 = 0 ∧ H303 = 0 ∧ H231 = 0 ∧ H141 = 0 ∧ H051 = 0 ∧ H222 = 0 ∧ 108 ≤ (27 * c).natAbs * e1.natAbs ∧ e1.natAbs ≤ 47933 ∧ g1.natAbs ≤ 47933 ∧ e2.natAbs ≤ 59026 ∧ e3.natAbs ≤ 12377 ∧ g1.natAbs ≤ 253 * e1.natAbs ∧ e3.natAbs ≤ 3095 * e1.natAbs ∧ 3 * m.natAbs ≤ 4 * 14915200 ∧ h1.natAbs ≤ 2 * 14915200 + 59026 ∧ (g1.natAbs ≤ e1.natAbs ∨ (3 * (g1.natAbs * m.natAbs) ≤ 4 * 14915200 * e1.natAbs ∧ 3 * (g1.natAbs * h1.natAbs) ≤ 14915200 * e1.natAbs)) ∧ (2 * e1 * n1).natAbs ≤ 2360000000000 ∧ 2 * n1.natAbs ≤ 2360000000000 ∧ s2 X ≤ (27 * c).natAbs * (e1.natAbs * e1.natAbs) ∧ 432 ≤ s2 X := by
  obtain ⟨x0, x1, x2, x3, x4, x5, x6⟩ := tT_xy X Y W
  obtain ⟨y0, y1, y2, y3, y4, y5, y6⟩ := tT_xw X Y W
  have hc1 : 1 ≤ c.natAbs := Int.natAbs_pos.mpr hc
  have he1 : 1 ≤ e1.natAbs := Int.natAbs_pos.mpr he
  have hC : 27 ≤ (27 * c).natAbs := by
    rw [Int.natAbs_mul]
    exact Nat.le_mul_of_pos_right 27 hc1
  have nz : qG X Y 2 ≠ 0 := by
    rw [← x2, t420]
    exact Int.mul_ne_zero (Int.mul_ne_zero (by decide) hc) (Int.mul_ne_zero he he)
  have hs : s2 X ≠ 0 := fun q => nz (s2_zero X Y q)
  obtain ⟨A1, A2, A3, A4⟩ := zt_mean _ _ _ hz hs
  have hA : s2 X ≤ (27 * c).natAbs * (e1.natAbs * e1.natAbs) := by
    rw [← Int.natAbs_mul, ← Int.natAbs_mul, ← t420, x2]
    exact s2_le X Y nz
  have l1 := q_lead (27 * c).natAbs e1.natAbs (s2 X) hC hA A1
  have l4 : 4 ≤ c.natAbs * e1.natAbs := by
    rw [Int.natAbs_mul, show (27 : Int).natAbs = 27 from rfl, Nat.mul_assoc] at l1
    omega
  -- g1
  have f411 := fb1 c _ _ 30 hc t411 (tT411_le X Y W hX hY hW)
  obtain ⟨z411, -⟩ := dig_true e1 g1 _ 0 H411 _ 0 (by rw [Int.add_zero]) f411 (by decide) d411 (by decide)
  subst z411
  rw [Int.mul_zero, Int.add_zero] at t411
  have small : ∀ (x : Int) (n : Nat), c.natAbs * (2 * e1 * x).natAbs ≤ n → 8 * x.natAbs ≤ n := by
    intro x n h
    rw [Int.natAbs_mul, Int.natAbs_mul, show (2 : Int).natAbs = 2 from rfl] at h
    have a1 : c.natAbs * (2 * e1.natAbs * x.natAbs) = c.natAbs * e1.natAbs * (2 * x.natAbs) := by
      generalize c.natAbs = p
      generalize e1.natAbs = q
      generalize x.natAbs = r
      grind
    rw [a1] at h
    have := Nat.mul_le_mul l4 (Nat.le_refl (2 * x.natAbs))
    omega
  have g0 : g1.natAbs ≤ 574404904 := by
    have := small g1 _ (fbc c _ _ 30 t411 (tT411_le X Y W hX hY hW))
    omega
  have f402 := fb1 c _ _ 15 hc t402 (tT402_le X Y W hX hY hW)
  have z402 : H402 = 0 := num_true _ _ H402 _ _ rfl f402 (nmul_le g0 g0) (by decide)
  subst z402
  rw [Int.mul_zero, Int.add_zero] at t402 f402
  have bg : g1.natAbs ≤ 47933 := sq_P g1 (15 * 153174641) 47933 f402 (by decide)
  have b1 : e1.natAbs ≤ 47933 := sq_P e1 (15 * 153174641) 47933 (fb1 c _ _ 15 hc t420 (tT420_le X Y W hX hY hW)) (by decide)
  -- e2, e3
  have f330 := fb1 c _ _ 20 hc t330 (tT330_le X Y W hX hY hW)
  obtain ⟨z330, -⟩ := dig_true e1 e2 _ 0 H330 _ 0 (by rw [Int.add_zero]) f330 (by decide) d330 (by decide)
  subst z330
  rw [Int.mul_zero, Int.add_zero] at t330
  have e20 : e2.natAbs ≤ 382936603 := by
    have := small e2 _ (fbc c _ _ 20 t330 (tT330_le X Y W hX hY hW))
    omega
  have f240 := fb1 c _ _ 15 hc t240 (tT240_le X Y W hX hY hW)
  obtain ⟨z240, -⟩ := dig_true e1 e3 _ _ H240 _ _ rfl f240 (nmul_le e20 e20) d240 (by decide)
  subst z240
  rw [Int.mul_zero, Int.add_zero] at t240 f240
  obtain ⟨z150, z060⟩ := bin2s (27 * c) e1 e2 e3 H150 H060 (qG X Y 2) (qG X Y 3) (qG X Y 4) (qG X Y 5) (qG X Y 6) (qG X Y 2).natAbs (zK3 X) 62035729455 24814291782 (by rw [← x2]; exact t420) (by rw [← x3]; exact t330) (by rw [← x4]; exact t240) (by rw [← x5]; exact t150) (by rw [← x6]; exact t060) rfl (zG3_le X Y hY) (by rw [← x4]; exact tT240_le X Y W hX hY hW) (by rw [← x5]; exact tT150_le X Y W hX hY hW) (by rw [← x4]; exact Nat.lt_of_le_of_lt (tT240_le X Y W hX hY hW) (by decide)) (by rw [← x5]; exact Nat.lt_of_le_of_lt (tT150_le X Y W hX hY hW) (by decide)) (by rw [← x6]; exact Nat.lt_of_le_of_lt (tT060_le X Y W hX hY hW) (by decide +kernel)) he hC (cr_mono (s2 X) _ _ (s2_le X Y nz) (by omega) A4)
  subst z150 z060
  rw [Int.mul_zero, Int.add_zero] at t150 t060
  have b3 : e3.natAbs ≤ 12377 := sq_P e3 (1 * 153174641) 12377 (fb1 c _ _ 1 hc t060 (tT060_le X Y W hX hY hW)) (by decide)
  have b2 : e2.natAbs ≤ 59026 := by
    refine sq_P e2 (15 * 153174641 + 2 * 47933 * 12377) 59026 ?_ (by decide)
    have : e2 * e2 = (2 * e1 * e3 + e2 * e2) - 2 * e1 * e3 := by omega
    rw [this]
    exact ns_le f240 (nmul_le (nmul_le k2 b1) b3)
  have hk := q_k (27 * c).natAbs e1.natAbs (s2 X) (zK3 X) hC hA A3
  have hg : g1.natAbs ≤ 253 * e1.natAbs := by
    refine q_ratio (27 * c).natAbs e1.natAbs g1.natAbs (s2 X) (zK2 X) 253 (by omega) hA ?_ A2
    rw [← Int.natAbs_mul, ← Int.natAbs_mul, ← t402, y2]
    exact zG2_le X W hW
  have h3 : e3.natAbs ≤ 3095 * e1.natAbs := by
    refine q_ratio (27 * c).natAbs e1.natAbs e3.natAbs (s2 X) 4135715297 3095 (by omega) hA ?_ (by omega)
    rw [← Int.natAbs_mul, ← Int.natAbs_mul, ← t060]
    exact tT060_le X Y W hX hY hW
  obtain ⟨z321, z312, z303, bm, bh, bR⟩ := q_row3 (27 * c) e1 g1 e2 m h1 H321 H312 H303 _ _ _ (zK3 X) hC he1 hk hg bg b2 t321 t312 t303 (zT321_le X Y W hY hW) (zT312_le X Y W hY hW) (by rw [y3]; exact zG3_le X W hW) (fb1 c _ _ 60 hc t321 (tT321_le X Y W hX hY hW)) (fb1 c _ _ 60 hc t312 (tT312_le X Y W hX hY hW)) (fb1 c _ _ 20 hc t303 (tT303_le X Y W hX hY hW)) d321 d312
  obtain ⟨z231, z141, z051, z222, n0, n0'⟩ := q_row4 e1 g1 e2 m h1 e3 n1 n2 H231 H141 H051 H222 he1 bg b2 b3 bm bh (fb1 c _ _ 60 hc t231 (tT231_le X Y W hX hY hW)) (fb1 c _ _ 30 hc t141 (tT141_le X Y W hX hY hW)) (fb1 c _ _ 6 hc t051 (tT051_le X Y W hX hY hW)) (fb1 c _ _ 90 hc t222 (tT222_le X Y W hX hY hW)) d231 d222
  exact ⟨rfl, rfl, rfl, rfl, rfl, rfl, z321, z312, z303, z231, z141, z051, z222, l1, b1, bg, b2, b3, hg, h3, bm, bh, bR, n0, n0', hA, A1⟩
