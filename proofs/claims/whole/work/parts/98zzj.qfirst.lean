/-! lead x^4 y^2, the first quartic met twice, the second without a double root -/
theorem q_hN (e1 n2 g1 n1 m e2 h1 : Int) (F : Nat) (h : (2 * e1 * n2 + (2 * g1 * n1 + (m * m + 2 * e2 * h1))).natAbs ≤ F) : 2 * e1.natAbs * n2.natAbs ≤ F + (2 * g1.natAbs * n1.natAbs + (m.natAbs * m.natAbs + 2 * e2.natAbs * h1.natAbs)) := by
  have a1 : (2 * g1 * n1 + (m * m + 2 * e2 * h1)).natAbs ≤ 2 * g1.natAbs * n1.natAbs + (m.natAbs * m.natAbs + 2 * e2.natAbs * h1.natAbs) := na_le (nmul_le (nmul_le k2 (Nat.le_refl _)) (Nat.le_refl _)) (na_le (nmul_le (Nat.le_refl _) (Nat.le_refl _)) (nmul_le (nmul_le k2 (Nat.le_refl _)) (Nat.le_refl _)))
  have a2 : (2 * e1 * n2).natAbs = 2 * e1.natAbs * n2.natAbs := by
    rw [Int.natAbs_mul, Int.natAbs_mul]
    rfl
  have a3 := q_abs _ _ _ h
  omega
theorem q_hK (e1 k0 g1 n2 m h1 : Int) (F : Nat) (h : (2 * e1 * k0 + (2 * g1 * n2 + 2 * m * h1)).natAbs ≤ F) : 2 * e1.natAbs * k0.natAbs ≤ F + (2 * g1.natAbs * n2.natAbs + 2 * m.natAbs * h1.natAbs) := by
  have a1 : (2 * g1 * n2 + 2 * m * h1).natAbs ≤ 2 * g1.natAbs * n2.natAbs + 2 * m.natAbs * h1.natAbs := na_le (nmul_le (nmul_le k2 (Nat.le_refl _)) (Nat.le_refl _)) (nmul_le (nmul_le k2 (Nat.le_refl _)) (Nat.le_refl _))
  have a2 : (2 * e1 * k0).natAbs = 2 * e1.natAbs * k0.natAbs := by
    rw [Int.natAbs_mul, Int.natAbs_mul]
    rfl
  have a3 := q_abs _ _ _ h
  omega
theorem rq600 (c e1 g1 e2 m h1 e3 n1 n2 k0 H : Int) : (27 * c * (e3 * e3) : Int) = 27 * c * (e3 * e3) := by grind
theorem rq510 (c e1 g1 e2 m h1 e3 n1 n2 k0 H : Int) : (27 * c * (2 * e2 * e3) : Int) = 27 * c * (2 * e3 * e2) := by grind
theorem rq501 (c e1 g1 e2 m h1 e3 n1 n2 k0 H : Int) : (27 * c * (2 * e3 * n1) : Int) = 27 * c * (2 * e3 * n1) := by grind
theorem rq420 (c e1 g1 e2 m h1 e3 n1 n2 k0 H : Int) : (27 * c * (2 * e1 * e3 + e2 * e2) : Int) = 27 * c * (2 * e3 * e1 + e2 * e2) := by grind
theorem rq411 (c e1 g1 e2 m h1 e3 n1 n2 k0 H : Int) : (27 * c * (2 * e2 * n1 + 2 * m * e3) : Int) = 27 * c * (2 * e3 * m + 2 * e2 * n1 + 18446744073709551616 * 0) := by grind
theorem rq402 (c e1 g1 e2 m h1 e3 n1 n2 k0 H : Int) : (27 * c * (n1 * n1 + 2 * e3 * n2) : Int) = 27 * c * (2 * e3 * n2 + n1 * n1) := by grind
theorem rq330 (c e1 g1 e2 m h1 e3 n1 n2 k0 H : Int) : (27 * c * (2 * e1 * e2) : Int) = 27 * c * (2 * e3 * 0 + 2 * e2 * e1 + 18446744073709551616 * 0) := by grind
theorem rq321 (c e1 g1 e2 m h1 e3 n1 n2 k0 H : Int) : (27 * c * (2 * e1 * n1 + (2 * g1 * e3 + 2 * e2 * m)) : Int) = 27 * c * (2 * e3 * g1 + (2 * e2 * m + 2 * e1 * n1) + 18446744073709551616 * 0) := by grind
theorem rq312 (c e1 g1 e2 m h1 e3 n1 n2 k0 H : Int) : (27 * c * (2 * e2 * n2 + (2 * m * n1 + 2 * h1 * e3) + 18446744073709551616 * H) : Int) = 27 * c * (2 * e3 * h1 + (2 * n1 * m + 2 * n2 * e2) + 18446744073709551616 * H) := by grind
theorem rq303 (c e1 g1 e2 m h1 e3 n1 n2 k0 H : Int) : (27 * c * (2 * e3 * k0 + 2 * n1 * n2 + 18446744073709551616 * H) : Int) = 27 * c * (2 * e3 * k0 + 2 * n1 * n2 + 18446744073709551616 * H) := by grind
theorem rq240 (c e1 g1 e2 m h1 e3 n1 n2 k0 H : Int) : (27 * c * (e1 * e1) : Int) = 27 * c * (2 * e2 * 0 + e1 * e1 + 18446744073709551616 * 0) := by grind
theorem rq231 (c e1 g1 e2 m h1 e3 n1 n2 k0 H : Int) : (27 * c * (2 * e1 * m + 2 * g1 * e2) : Int) = 27 * c * (2 * e2 * g1 + (2 * e1 * m + 2 * 0 * n1) + 18446744073709551616 * 0) := by grind
theorem rq222 (c e1 g1 e2 m h1 e3 n1 n2 k0 H : Int) : (27 * c * (2 * e1 * n2 + (2 * g1 * n1 + (m * m + 2 * e2 * h1))) : Int) = 27 * c * (m * m + (2 * e2 * h1 + (2 * n1 * g1 + 2 * e1 * n2)) + 18446744073709551616 * 0) := by grind
theorem rq213 (c e1 g1 e2 m h1 e3 n1 n2 k0 H : Int) : (27 * c * (2 * h1 * n1 + (2 * m * n2 + 2 * e2 * k0) + 18446744073709551616 * H) : Int) = 27 * c * (2 * n1 * h1 + (2 * n2 * m + 2 * k0 * e2) + 18446744073709551616 * H) := by grind
theorem rq204 (c e1 g1 e2 m h1 e3 n1 n2 k0 H : Int) : (27 * c * (n2 * n2 + 2 * k0 * n1 + 18446744073709551616 * H) : Int) = 27 * c * (2 * n1 * k0 + n2 * n2 + 18446744073709551616 * H) := by grind
theorem rq150 (c e1 g1 e2 m h1 e3 n1 n2 k0 H : Int) : (0 : Int) = 27 * c * (2 * e1 * 0 + 18446744073709551616 * 0) := by grind
theorem rq141 (c e1 g1 e2 m h1 e3 n1 n2 k0 H : Int) : (27 * c * (2 * e1 * g1) : Int) = 27 * c * (2 * e1 * g1 + 2 * 0 * m + 18446744073709551616 * 0) := by grind
theorem rq132 (c e1 g1 e2 m h1 e3 n1 n2 k0 H : Int) : (27 * c * (2 * e1 * h1 + 2 * g1 * m) : Int) = 27 * c * (2 * e1 * h1 + (2 * m * g1 + 2 * n2 * 0) + 18446744073709551616 * 0) := by grind
theorem rq123 (c e1 g1 e2 m h1 e3 n1 n2 k0 H : Int) : (27 * c * (2 * e1 * k0 + (2 * g1 * n2 + 2 * m * h1)) : Int) = 27 * c * (2 * n2 * g1 + (2 * m * h1 + 2 * e1 * k0) + 18446744073709551616 * 0) := by grind
theorem rq114 (c e1 g1 e2 m h1 e3 n1 n2 k0 H : Int) : (27 * c * (2 * h1 * n2 + 2 * m * k0 + 18446744073709551616 * H) : Int) = 27 * c * (2 * n2 * h1 + 2 * k0 * m + 18446744073709551616 * H) := by grind
theorem rq105 (c e1 g1 e2 m h1 e3 n1 n2 k0 H : Int) : (27 * c * (2 * k0 * n2 + 18446744073709551616 * H) : Int) = 27 * c * (2 * n2 * k0 + 18446744073709551616 * H) := by grind
theorem rq060 (c e1 g1 e2 m h1 e3 n1 n2 k0 H : Int) : (0 : Int) = 27 * c * (0 * 0 + 18446744073709551616 * 0) := by grind
theorem rq051 (c e1 g1 e2 m h1 e3 n1 n2 k0 H : Int) : (0 : Int) = 27 * c * (2 * 0 * g1 + 18446744073709551616 * 0) := by grind
theorem rq042 (c e1 g1 e2 m h1 e3 n1 n2 k0 H : Int) : (27 * c * (g1 * g1) : Int) = 27 * c * (g1 * g1 + 2 * 0 * h1 + 18446744073709551616 * 0) := by grind
theorem rq033 (c e1 g1 e2 m h1 e3 n1 n2 k0 H : Int) : (27 * c * (2 * g1 * h1) : Int) = 27 * c * (2 * 0 * k0 + 2 * g1 * h1 + 18446744073709551616 * 0) := by grind
theorem rq024 (c e1 g1 e2 m h1 e3 n1 n2 k0 H : Int) : (27 * c * (2 * g1 * k0 + h1 * h1 + 18446744073709551616 * H) : Int) = 27 * c * (h1 * h1 + 2 * k0 * g1 + 18446744073709551616 * H) := by grind
theorem rq015 (c e1 g1 e2 m h1 e3 n1 n2 k0 H : Int) : (27 * c * (2 * h1 * k0 + 18446744073709551616 * H) : Int) = 27 * c * (2 * k0 * h1 + 18446744073709551616 * H) := by grind
theorem rq006 (c e1 g1 e2 m h1 e3 n1 n2 k0 H : Int) : (27 * c * (k0 * k0 + 18446744073709551616 * H) : Int) = 27 * c * (k0 * k0 + 18446744073709551616 * H) := by grind
theorem qchY (X Y W : Nat → Int) (hX : bx7 X) (hY : bx7 Y) (hW : bx7 W) (hz : zck X = true) (z600 : tT600 X Y W = 0) (z510 : tT510 X Y W = 0) (z501 : tT501 X Y W = 0) (c e1 g1 e2 m h1 e3 n1 n2 k0 H411 H402 H330 H321 H312 H303 H240 H231 H222 H213 H204 H150 H141 H132 H123 H114 H105 H060 H051 H042 H033 H024 H015 H006 : Int) (he : e1 ≠ 0) (hc : c ≠ 0) (h3 : e3 ≠ 0) (t420 : tT420 X Y W = 27 * c * (e1 * e1)) (t411 : tT411 X Y W = 27 * c * (2 * e1 * g1 + 18446744073709551616 * H411)) (t402 : tT402 X Y W = 27 * c * (g1 * g1 + 18446744073709551616 * H402)) (t330 : tT330 X Y W = 27 * c * (2 * e1 * e2 + 18446744073709551616 * H330)) (t321 : tT321 X Y W = 27 * c * (2 * e1 * m + 2 * g1 * e2 + 18446744073709551616 * H321)) (t312 : tT312 X Y W = 27 * c * (2 * e1 * h1 + 2 * g1 * m + 18446744073709551616 * H312)) (t303 : tT303 X Y W = 27 * c * (2 * g1 * h1 + 18446744073709551616 * H303)) (t240 : tT240 X Y W = 27 * c * (2 * e1 * e3 + e2 * e2 + 18446744073709551616 * H240)) (t231 : tT231 X Y W = 27 * c * (2 * e1 * n1 + (2 * g1 * e3 + 2 * e2 * m) + 18446744073709551616 * H231)) (t222 : tT222 X Y W = 27 * c * (2 * e1 * n2 + (2 * g1 * n1 + (m * m + 2 * e2 * h1)) + 18446744073709551616 * H222)) (t213 : tT213 X Y W = 27 * c * (2 * e1 * k0 + (2 * g1 * n2 + 2 * m * h1) + 18446744073709551616 * H213)) (t204 : tT204 X Y W = 27 * c * (2 * g1 * k0 + h1 * h1 + 18446744073709551616 * H204)) (t150 : tT150 X Y W = 27 * c * (2 * e2 * e3 + 18446744073709551616 * H150)) (t141 : tT141 X Y W = 27 * c * (2 * e2 * n1 + 2 * m * e3 + 18446744073709551616 * H141)) (t132 : tT132 X Y W = 27 * c * (2 * e2 * n2 + (2 * m * n1 + 2 * h1 * e3) + 18446744073709551616 * H132)) (t123 : tT123 X Y W = 27 * c * (2 * h1 * n1 + (2 * m * n2 + 2 * e2 * k0) + 18446744073709551616 * H123)) (t114 : tT114 X Y W = 27 * c * (2 * h1 * n2 + 2 * m * k0 + 18446744073709551616 * H114)) (t105 : tT105 X Y W = 27 * c * (2 * h1 * k0 + 18446744073709551616 * H105)) (t060 : tT060 X Y W = 27 * c * (e3 * e3 + 18446744073709551616 * H060)) (t051 : tT051 X Y W = 27 * c * (2 * e3 * n1 + 18446744073709551616 * H051)) (t042 : tT042 X Y W = 27 * c * (n1 * n1 + 2 * e3 * n2 + 18446744073709551616 * H042)) (t033 : tT033 X Y W = 27 * c * (2 * e3 * k0 + 2 * n1 * n2 + 18446744073709551616 * H033)) (t024 : tT024 X Y W = 27 * c * (n2 * n2 + 2 * k0 * n1 + 18446744073709551616 * H024)) (t015 : tT015 X Y W = 27 * c * (2 * k0 * n2 + 18446744073709551616 * H015)) (t006 : tT006 X Y W = 27 * c * (k0 * k0 + 18446744073709551616 * H006)) (d411 : (2 * e1 * g1).natAbs ≤ 2 ^ 63) (d330 : (2 * e1 * e2).natAbs ≤ 2 ^ 63) (d321 : (2 * e1 * m).natAbs ≤ 2 ^ 63) (d312 : (2 * e1 * h1).natAbs ≤ 2 ^ 63) (d240 : (2 * e1 * e3).natAbs ≤ 2 ^ 63) (d231 : (2 * e1 * n1).natAbs ≤ 2 ^ 63) (d222 : (2 * e1 * n2).natAbs ≤ 2 ^ 63) (d213 : (2 * e1 * k0).natAbs ≤ 2 ^ 63) :
    H411 = 0 ∧ H402 = 0 ∧ H330 = 0 ∧ H321 = 0 ∧ H312 = 0 ∧ H303 = 0 ∧ H240 = 0 ∧ H231 = 0 ∧ H222 = 0 ∧ H213 = 0 ∧ H204 = 0 ∧ H150 = 0 ∧ H141 = 0 ∧ H132 = 0 ∧ H123 = 0 ∧ H114 = 0 ∧ H105 = 0 ∧ H060 = 0 ∧ H051 = 0 ∧ H042 = 0 ∧ H033 = 0 ∧ H024 = 0 ∧ H015 = 0 ∧ H006 = 0 := by
  obtain ⟨z411, z402, z330, z240, z150, z060, z321, z312, z303, z231, z141, z051, z222, l1, b1, bg, b2, b3, hg, hr3, bm, bh, bR, n0, n0', -, -⟩ := qch1 X Y W hX hY hW hz c e1 g1 e2 m h1 e3 n1 n2 H411 H402 H330 H321 H312 H303 H240 H231 H222 H150 H141 H060 H051 he hc t420 t411 t402 t330 t321 t312 t303 t240 t231 t222 t150 t141 t060 t051 d411 d330 d321 d312 d240 d231 d222
  subst z411 z402 z330 z240 z150 z060 z321 z312 z303 z231 z141 z051 z222
  simp only [Int.mul_zero, Int.add_zero] at t411 t402 t330 t240 t150 t060 t321 t312 t303 t231 t141 t051 t222
  have he1 : 1 ≤ e1.natAbs := Int.natAbs_pos.mpr he
  have he3 : 1 ≤ e3.natAbs := Int.natAbs_pos.mpr h3
  have bm' : m.natAbs ≤ 19886933 := by omega
  have f051 := fb1 c _ _ 6 hc t051 (tT051_le X Y W hX hY hW)
  have bn : n1.natAbs ≤ 459523923 := by
    have := q_two e3 n1 _ he3 f051
    omega
  have hne : n1.natAbs * e3.natAbs ≤ 459523923 := by
    rw [Int.natAbs_mul, Int.natAbs_mul, show (2 : Int).natAbs = 2 from rfl, Nat.mul_assoc] at f051
    rw [Nat.mul_comm]
    omega
  have hN := q_hN e1 n2 g1 n1 m e2 h1 _ (fb1 c _ _ 90 hc t222 (tT222_le X Y W hX hY hW))
  have hN' : 2 * e1.natAbs * n2.natAbs ≤ 13785717690 + (2 * g1.natAbs * n1.natAbs + (m.natAbs * m.natAbs + 2 * e2.natAbs * h1.natAbs)) := hN
  have N2 := q_N2 _ _ _ _ _ _ _ bg bn bm' (by omega) b2 hN'
  have f213 := fb1 c _ _ 60 hc t213 (tT213_le X Y W hX hY hW)
  have s213 : (2 * g1 * n2 + 2 * m * h1).natAbs ≤ 253 * 443200000000000 + 2 * 19886933 * 29889426 := by
    refine na_le ?_ (nmul_le (nmul_le k2 bm') (by omega))
    rw [Int.natAbs_mul, Int.natAbs_mul, show (2 : Int).natAbs = 2 from rfl]
    have a1 : 2 * g1.natAbs * n2.natAbs ≤ 2 * (253 * e1.natAbs) * n2.natAbs := Nat.mul_le_mul (Nat.mul_le_mul (Nat.le_refl 2) hg) (Nat.le_refl _)
    have a2 : 2 * (253 * e1.natAbs) * n2.natAbs = 253 * (2 * e1.natAbs * n2.natAbs) := by
      generalize e1.natAbs = p
      generalize n2.natAbs = q
      grind
    rw [a2] at a1
    exact Nat.le_trans a1 (Nat.mul_le_mul (Nat.le_refl _) N2)
  obtain ⟨z213, -⟩ := dig_true e1 k0 _ _ H213 _ _ rfl f213 s213 d213 (by decide)
  subst z213
  simp only [Int.mul_zero, Int.add_zero] at t213
  have hK := q_hK e1 k0 g1 n2 m h1 _ (fb1 c _ _ 60 hc t213 (tT213_le X Y W hX hY hW))
  have hK' : 2 * e1.natAbs * k0.natAbs ≤ 9190478460 + (2 * g1.natAbs * n2.natAbs + 2 * m.natAbs * h1.natAbs) := hK
  have kk := q_k0 _ _ _ _ _ _ _ _ _ he1 hr3 hg bg hne bn bm' (by omega) b2 hN' hK' bR
  have d303 : (2 * e3 * k0).natAbs ≤ 2 ^ 63 := by
    rw [Int.natAbs_mul, Int.natAbs_mul]
    exact Nat.le_trans kk (by decide +kernel)
  have f042 := fb1 c _ _ 15 hc t042 (tT042_le X Y W hX hY hW)
  have s042 : (n1 * n1 + 2 * e3 * n2).natAbs ≤ 459523923 * 459523923 + 3095 * 443200000000000 := by
    refine na_le (nmul_le bn bn) ?_
    rw [Int.natAbs_mul, Int.natAbs_mul, show (2 : Int).natAbs = 2 from rfl]
    have a1 : 2 * e3.natAbs * n2.natAbs ≤ 2 * (3095 * e1.natAbs) * n2.natAbs := Nat.mul_le_mul (Nat.mul_le_mul (Nat.le_refl 2) hr3) (Nat.le_refl _)
    have a2 : 2 * (3095 * e1.natAbs) * n2.natAbs = 3095 * (2 * e1.natAbs * n2.natAbs) := by
      generalize e1.natAbs = p
      generalize n2.natAbs = q
      grind
    rw [a2] at a1
    exact Nat.le_trans a1 (Nat.mul_le_mul (Nat.le_refl _) N2)
  have z042 : H042 = 0 := num_true _ _ H042 _ _ rfl f042 s042 (by decide)
  subst z042
  simp only [Int.mul_zero, Int.add_zero] at t042
  have hD : qD Y ≠ 0 := by
    have : qD Y = tT060 X Y W := by
      unfold tT060 qT060 qD
      omega
    rw [this, t060]
    exact Int.mul_ne_zero (Int.mul_ne_zero (by decide) hc) (Int.mul_ne_zero h3 h3)
  have e63 : (9223372036854775808 : Nat) ≤ 2 ^ 63 := by decide +kernel
  have dd0 : (2 * e3 * 0).natAbs ≤ 2 ^ 63 := by
    rw [Int.mul_zero]
    exact Nat.zero_le _
  have dd1 : (2 * e3 * m).natAbs ≤ 2 ^ 63 := Nat.le_trans (nmul_le (nmul_le k2 b3) bm') (Nat.le_trans (by decide) e63)
  have dd2 : (2 * e3 * g1).natAbs ≤ 2 ^ 63 := Nat.le_trans (nmul_le (nmul_le k2 b3) bg) (Nat.le_trans (by decide) e63)
  have dd3 : (2 * e3 * h1).natAbs ≤ 2 ^ 63 := Nat.le_trans (nmul_le (nmul_le k2 b3) bh) (Nat.le_trans (by decide) e63)
  have R := sq3 Y X W hY hX hW hD c e3 e2 n1 e1 m n2 0 g1 h1 k0 0 0 0 H132 H033 0 0 0 H123 H024 0 0 0 0 H114 H015 0 0 0 0 H204 H105 H006 ((sw600 X Y W).trans (t060.trans (rq600 c e1 g1 e2 m h1 e3 n1 n2 k0 0))) ((sw510 X Y W).trans (t150.trans (rq510 c e1 g1 e2 m h1 e3 n1 n2 k0 0))) ((sw501 X Y W).trans (t051.trans (rq501 c e1 g1 e2 m h1 e3 n1 n2 k0 0))) ((sw420 X Y W).trans (t240.trans (rq420 c e1 g1 e2 m h1 e3 n1 n2 k0 0))) ((sw411 X Y W).trans (t141.trans (rq411 c e1 g1 e2 m h1 e3 n1 n2 k0 0))) ((sw402 X Y W).trans (t042.trans (rq402 c e1 g1 e2 m h1 e3 n1 n2 k0 0))) ((sw330 X Y W).trans (t330.trans (rq330 c e1 g1 e2 m h1 e3 n1 n2 k0 0))) ((sw321 X Y W).trans (t231.trans (rq321 c e1 g1 e2 m h1 e3 n1 n2 k0 0))) ((sw312 X Y W).trans (t132.trans (rq312 c e1 g1 e2 m h1 e3 n1 n2 k0 H132))) ((sw303 X Y W).trans (t033.trans (rq303 c e1 g1 e2 m h1 e3 n1 n2 k0 H033))) ((sw240 X Y W).trans (t420.trans (rq240 c e1 g1 e2 m h1 e3 n1 n2 k0 0))) ((sw231 X Y W).trans (t321.trans (rq231 c e1 g1 e2 m h1 e3 n1 n2 k0 0))) ((sw222 X Y W).trans (t222.trans (rq222 c e1 g1 e2 m h1 e3 n1 n2 k0 0))) ((sw213 X Y W).trans (t123.trans (rq213 c e1 g1 e2 m h1 e3 n1 n2 k0 H123))) ((sw204 X Y W).trans (t024.trans (rq204 c e1 g1 e2 m h1 e3 n1 n2 k0 H024))) ((sw150 X Y W).trans (z510.trans (rq150 c e1 g1 e2 m h1 e3 n1 n2 k0 0))) ((sw141 X Y W).trans (t411.trans (rq141 c e1 g1 e2 m h1 e3 n1 n2 k0 0))) ((sw132 X Y W).trans (t312.trans (rq132 c e1 g1 e2 m h1 e3 n1 n2 k0 0))) ((sw123 X Y W).trans (t213.trans (rq123 c e1 g1 e2 m h1 e3 n1 n2 k0 0))) ((sw114 X Y W).trans (t114.trans (rq114 c e1 g1 e2 m h1 e3 n1 n2 k0 H114))) ((sw105 X Y W).trans (t015.trans (rq105 c e1 g1 e2 m h1 e3 n1 n2 k0 H015))) ((sw060 X Y W).trans (z600.trans (rq060 c e1 g1 e2 m h1 e3 n1 n2 k0 0))) ((sw051 X Y W).trans (z501.trans (rq051 c e1 g1 e2 m h1 e3 n1 n2 k0 0))) ((sw042 X Y W).trans (t402.trans (rq042 c e1 g1 e2 m h1 e3 n1 n2 k0 0))) ((sw033 X Y W).trans (t303.trans (rq033 c e1 g1 e2 m h1 e3 n1 n2 k0 0))) ((sw024 X Y W).trans (t204.trans (rq024 c e1 g1 e2 m h1 e3 n1 n2 k0 H204))) ((sw015 X Y W).trans (t105.trans (rq015 c e1 g1 e2 m h1 e3 n1 n2 k0 H105))) ((sw006 X Y W).trans (t006.trans (rq006 c e1 g1 e2 m h1 e3 n1 n2 k0 H006))) dd0 d303 dd1 dd2 dd3
  obtain ⟨-, -, -, y132, y033, -, -, -, y123, y024, -, -, -, -, y114, y015, -, -, -, -, y204, y105, y006⟩ := R
  exact ⟨rfl, rfl, rfl, rfl, rfl, rfl, rfl, rfl, rfl, rfl, y204, rfl, rfl, y132, y123, y114, y105, rfl, rfl, rfl, y033, y024, y015, y006⟩
