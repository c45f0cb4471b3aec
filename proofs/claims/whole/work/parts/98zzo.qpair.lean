/-! lead x^4 y^2, both quartics met twice -/
theorem rvp0 (c e1 g1 e2 m h1 n1 n2 k0 H204 H123 H114 H105 H033 H024 H015 H006 : Int) : (0) + 1 * (0) + 1 * 1 * (27 * c * (e1 * e1)) + 1 * 1 * 1 * (27 * c * (2 * e1 * e2)) + 1 * 1 * 1 * 1 * (27 * c * (2 * e1 * 0 + e2 * e2)) + 1 * 1 * 1 * 1 * 1 * (27 * c * (2 * e2 * 0)) + 1 * 1 * 1 * 1 * 1 * 1 * (27 * c * (0 * 0)) = 27 * c * ((1 * e1 + e2) * (1 * e1 + e2)) := by grind
theorem rvp1 (c e1 g1 e2 m h1 n1 n2 k0 H204 H123 H114 H105 H033 H024 H015 H006 : Int) : (0) + 1 * (27 * c * (2 * e1 * g1)) + 1 * 1 * (27 * c * (2 * e1 * m + 2 * g1 * e2)) + 1 * 1 * 1 * (27 * c * (2 * e1 * n1 + (2 * g1 * 0 + 2 * e2 * m))) + 1 * 1 * 1 * 1 * (27 * c * (2 * e2 * n1 + 2 * m * 0)) + 1 * 1 * 1 * 1 * 1 * (27 * c * (2 * 0 * n1)) = 27 * c * (2 * (1 * e1 + e2) * (g1 + 1 * m + n1)) := by grind
theorem rvp2 (c e1 g1 e2 m h1 n1 n2 k0 H204 H123 H114 H105 H033 H024 H015 H006 : Int) : (27 * c * (g1 * g1)) + 1 * (27 * c * (2 * e1 * h1 + 2 * g1 * m)) + 1 * 1 * (27 * c * (2 * e1 * n2 + (2 * g1 * n1 + (m * m + 2 * e2 * h1)))) + 1 * 1 * 1 * (27 * c * (2 * e2 * n2 + (2 * m * n1 + 2 * h1 * 0))) + 1 * 1 * 1 * 1 * (27 * c * (n1 * n1 + 2 * 0 * n2)) = 27 * c * (2 * (1 * e1 + e2) * (h1 + 1 * n2) + (g1 + 1 * m + n1) * (g1 + 1 * m + n1)) := by grind
theorem rvp3 (c e1 g1 e2 m h1 n1 n2 k0 H204 H123 H114 H105 H033 H024 H015 H006 : Int) : (27 * c * (2 * g1 * h1)) + 1 * (27 * c * (2 * e1 * k0 + (2 * g1 * n2 + 2 * m * h1))) + 1 * 1 * (27 * c * (2 * h1 * n1 + (2 * m * n2 + 2 * e2 * k0) + 18446744073709551616 * H123)) + 1 * 1 * 1 * (27 * c * (2 * 0 * k0 + 2 * n1 * n2 + 18446744073709551616 * H033)) = 27 * c * (2 * (1 * e1 + e2) * k0 + 2 * (g1 + 1 * m + n1) * (h1 + 1 * n2) + 18446744073709551616 * (H123 + 1 * H033)) := by grind
theorem rvp4 (c e1 g1 e2 m h1 n1 n2 k0 H204 H123 H114 H105 H033 H024 H015 H006 : Int) : (27 * c * (2 * g1 * k0 + h1 * h1 + 18446744073709551616 * H204)) + 1 * (27 * c * (2 * h1 * n2 + 2 * m * k0 + 18446744073709551616 * H114)) + 1 * 1 * (27 * c * (n2 * n2 + 2 * k0 * n1 + 18446744073709551616 * H024)) = 27 * c * (2 * (g1 + 1 * m + n1) * k0 + (h1 + 1 * n2) * (h1 + 1 * n2) + 18446744073709551616 * (H204 + 1 * H114 + H024)) := by grind
theorem rvp5 (c e1 g1 e2 m h1 n1 n2 k0 H204 H123 H114 H105 H033 H024 H015 H006 : Int) : (27 * c * (2 * h1 * k0 + 18446744073709551616 * H105)) + 1 * (27 * c * (2 * k0 * n2 + 18446744073709551616 * H015)) = 27 * c * (2 * (h1 + 1 * n2) * k0 + 18446744073709551616 * (H105 + 1 * H015)) := by grind
theorem rvm0 (c e1 g1 e2 m h1 n1 n2 k0 H204 H123 H114 H105 H033 H024 H015 H006 : Int) : (0) + (-1) * (0) + (-1) * (-1) * (27 * c * (e1 * e1)) + (-1) * (-1) * (-1) * (27 * c * (2 * e1 * e2)) + (-1) * (-1) * (-1) * (-1) * (27 * c * (2 * e1 * 0 + e2 * e2)) + (-1) * (-1) * (-1) * (-1) * (-1) * (27 * c * (2 * e2 * 0)) + (-1) * (-1) * (-1) * (-1) * (-1) * (-1) * (27 * c * (0 * 0)) = 27 * c * (((-1) * e1 + e2) * ((-1) * e1 + e2)) := by grind
theorem rvm1 (c e1 g1 e2 m h1 n1 n2 k0 H204 H123 H114 H105 H033 H024 H015 H006 : Int) : (0) + (-1) * (27 * c * (2 * e1 * g1)) + (-1) * (-1) * (27 * c * (2 * e1 * m + 2 * g1 * e2)) + (-1) * (-1) * (-1) * (27 * c * (2 * e1 * n1 + (2 * g1 * 0 + 2 * e2 * m))) + (-1) * (-1) * (-1) * (-1) * (27 * c * (2 * e2 * n1 + 2 * m * 0)) + (-1) * (-1) * (-1) * (-1) * (-1) * (27 * c * (2 * 0 * n1)) = 27 * c * (2 * ((-1) * e1 + e2) * (g1 + (-1) * m + n1)) := by grind
theorem rvm2 (c e1 g1 e2 m h1 n1 n2 k0 H204 H123 H114 H105 H033 H024 H015 H006 : Int) : (27 * c * (g1 * g1)) + (-1) * (27 * c * (2 * e1 * h1 + 2 * g1 * m)) + (-1) * (-1) * (27 * c * (2 * e1 * n2 + (2 * g1 * n1 + (m * m + 2 * e2 * h1)))) + (-1) * (-1) * (-1) * (27 * c * (2 * e2 * n2 + (2 * m * n1 + 2 * h1 * 0))) + (-1) * (-1) * (-1) * (-1) * (27 * c * (n1 * n1 + 2 * 0 * n2)) = 27 * c * (2 * ((-1) * e1 + e2) * (h1 + (-1) * n2) + (g1 + (-1) * m + n1) * (g1 + (-1) * m + n1)) := by grind
theorem rvm3 (c e1 g1 e2 m h1 n1 n2 k0 H204 H123 H114 H105 H033 H024 H015 H006 : Int) : (27 * c * (2 * g1 * h1)) + (-1) * (27 * c * (2 * e1 * k0 + (2 * g1 * n2 + 2 * m * h1))) + (-1) * (-1) * (27 * c * (2 * h1 * n1 + (2 * m * n2 + 2 * e2 * k0) + 18446744073709551616 * H123)) + (-1) * (-1) * (-1) * (27 * c * (2 * 0 * k0 + 2 * n1 * n2 + 18446744073709551616 * H033)) = 27 * c * (2 * ((-1) * e1 + e2) * k0 + 2 * (g1 + (-1) * m + n1) * (h1 + (-1) * n2) + 18446744073709551616 * (H123 + (-1) * H033)) := by grind
theorem rvm4 (c e1 g1 e2 m h1 n1 n2 k0 H204 H123 H114 H105 H033 H024 H015 H006 : Int) : (27 * c * (2 * g1 * k0 + h1 * h1 + 18446744073709551616 * H204)) + (-1) * (27 * c * (2 * h1 * n2 + 2 * m * k0 + 18446744073709551616 * H114)) + (-1) * (-1) * (27 * c * (n2 * n2 + 2 * k0 * n1 + 18446744073709551616 * H024)) = 27 * c * (2 * (g1 + (-1) * m + n1) * k0 + (h1 + (-1) * n2) * (h1 + (-1) * n2) + 18446744073709551616 * (H204 + (-1) * H114 + H024)) := by grind
theorem rvm5 (c e1 g1 e2 m h1 n1 n2 k0 H204 H123 H114 H105 H033 H024 H015 H006 : Int) : (27 * c * (2 * h1 * k0 + 18446744073709551616 * H105)) + (-1) * (27 * c * (2 * k0 * n2 + 18446744073709551616 * H015)) = 27 * c * (2 * (h1 + (-1) * n2) * k0 + 18446744073709551616 * (H105 + (-1) * H015)) := by grind
theorem qchVp (X Y W : Nat → Int) (hX : bx7 X) (hY : bx7 Y) (hW : bx7 W) (hv : vK (fun k => X k + 1 * Y k) = true) (c e1 g1 e2 m h1 n1 n2 k0 H204 H123 H114 H105 H033 H024 H015 H006 : Int) (hc : c ≠ 0) (z600 : tT600 X Y W = 0) (z510 : tT510 X Y W = 0) (z501 : tT501 X Y W = 0) (t420 : tT420 X Y W = 27 * c * (e1 * e1)) (t411 : tT411 X Y W = 27 * c * (2 * e1 * g1)) (t402 : tT402 X Y W = 27 * c * (g1 * g1)) (t330 : tT330 X Y W = 27 * c * (2 * e1 * e2)) (t321 : tT321 X Y W = 27 * c * (2 * e1 * m + 2 * g1 * e2)) (t312 : tT312 X Y W = 27 * c * (2 * e1 * h1 + 2 * g1 * m)) (t303 : tT303 X Y W = 27 * c * (2 * g1 * h1)) (t240 : tT240 X Y W = 27 * c * (2 * e1 * 0 + e2 * e2)) (t231 : tT231 X Y W = 27 * c * (2 * e1 * n1 + (2 * g1 * 0 + 2 * e2 * m))) (t222 : tT222 X Y W = 27 * c * (2 * e1 * n2 + (2 * g1 * n1 + (m * m + 2 * e2 * h1)))) (t213 : tT213 X Y W = 27 * c * (2 * e1 * k0 + (2 * g1 * n2 + 2 * m * h1))) (t150 : tT150 X Y W = 27 * c * (2 * e2 * 0)) (t141 : tT141 X Y W = 27 * c * (2 * e2 * n1 + 2 * m * 0)) (t132 : tT132 X Y W = 27 * c * (2 * e2 * n2 + (2 * m * n1 + 2 * h1 * 0))) (t060 : tT060 X Y W = 27 * c * (0 * 0)) (t051 : tT051 X Y W = 27 * c * (2 * 0 * n1)) (t042 : tT042 X Y W = 27 * c * (n1 * n1 + 2 * 0 * n2)) (t204 : tT204 X Y W = 27 * c * (2 * g1 * k0 + h1 * h1 + 18446744073709551616 * H204)) (t123 : tT123 X Y W = 27 * c * (2 * h1 * n1 + (2 * m * n2 + 2 * e2 * k0) + 18446744073709551616 * H123)) (t114 : tT114 X Y W = 27 * c * (2 * h1 * n2 + 2 * m * k0 + 18446744073709551616 * H114)) (t105 : tT105 X Y W = 27 * c * (2 * h1 * k0 + 18446744073709551616 * H105)) (t033 : tT033 X Y W = 27 * c * (2 * 0 * k0 + 2 * n1 * n2 + 18446744073709551616 * H033)) (t024 : tT024 X Y W = 27 * c * (n2 * n2 + 2 * k0 * n1 + 18446744073709551616 * H024)) (t015 : tT015 X Y W = 27 * c * (2 * k0 * n2 + 18446744073709551616 * H015)) (t006 : tT006 X Y W = 27 * c * (k0 * k0 + 18446744073709551616 * H006)) (bg : g1.natAbs ≤ 47933) (bn : n1.natAbs ≤ 47933) (bm : m.natAbs ≤ 19886933) (bh : h1.natAbs ≤ 29889426) (d1 : (2 * e1 * k0).natAbs ≤ 2 ^ 62) (d2 : (2 * e2 * k0).natAbs ≤ 2 ^ 62) : H204 = 0 ∧ H123 = 0 ∧ H114 = 0 ∧ H105 = 0 ∧ H033 = 0 ∧ H024 = 0 ∧ H015 = 0 ∧ H006 = 0 := by
  obtain ⟨g0, ga, gb, gc, gd, ge, gf⟩ := qG_V X Y W 1
  rw [z600, z510, t420, t330, t240, t150, t060, rvp0 c e1 g1 e2 m h1 n1 n2 k0 H204 H123 H114 H105 H033 H024 H015 H006] at g0
  rw [z501, t411, t321, t231, t141, t051, rvp1 c e1 g1 e2 m h1 n1 n2 k0 H204 H123 H114 H105 H033 H024 H015 H006] at ga
  rw [t402, t312, t222, t132, t042, rvp2 c e1 g1 e2 m h1 n1 n2 k0 H204 H123 H114 H105 H033 H024 H015 H006] at gb
  rw [t303, t213, t123, t033, rvp3 c e1 g1 e2 m h1 n1 n2 k0 H204 H123 H114 H105 H033 H024 H015 H006] at gc
  rw [t204, t114, t024, rvp4 c e1 g1 e2 m h1 n1 n2 k0 H204 H123 H114 H105 H033 H024 H015 H006] at gd
  rw [t105, t015, rvp5 c e1 g1 e2 m h1 n1 n2 k0 H204 H123 H114 H105 H033 H024 H015 H006] at ge
  rw [t006] at gf
  have hd : (2 * (1 * e1 + e2) * k0).natAbs ≤ 2 ^ 63 := by
    have e : 2 * (1 * e1 + e2) * k0 = 1 * (2 * e1 * k0) + 2 * e2 * k0 := by
      clear g0 ga gb gc gd ge gf d1 d2
      grind
    rw [e]
    have e63 : (2 : Nat) ^ 63 = 1 * 2 ^ 62 + 2 ^ 62 := by decide +kernel
    rw [e63]
    exact na_le (nmul_le (by decide) d1) d2
  obtain ⟨u3, u4, u5, u6⟩ := vK_true _ W hW hv c _ _ _ _ _ _ _ H006 g0 ga gb gc gd ge gf hd
  subst u6
  simp only [Int.mul_zero, Int.add_zero] at t006
  have bk : k0.natAbs ≤ 12377 := sq_P k0 (1 * 153174641) 12377 (fb1 c _ _ 1 hc t006 (tT006_le X Y W hX hY hW)) (by decide)
  rw [u4, Int.mul_zero, Int.add_zero] at gd
  have bd : (qG (fun k => X k + 1 * Y k) W 4).natAbs ≤ 60 * 4135715297 := by
    rw [(qG_V X Y W 1).2.2.2.2.1]
    refine Nat.le_trans (na_le (na_le (tT204_le X Y W hX hY hW) (nmul_le (show (1 : Int).natAbs ≤ 1 by decide) (tT114_le X Y W hX hY hW))) (nmul_le (show (1 * 1 : Int).natAbs ≤ 1 by decide) (tT024_le X Y W hX hY hW))) (by decide)
  have fd := fb1 c _ _ 60 hc gd bd
  have b1 : (g1 + 1 * m + n1).natAbs ≤ 19982799 := Nat.le_trans (na_le (na_le bg (nmul_le (show (1 : Int).natAbs ≤ 1 by decide) bm)) bn) (by decide)
  have b2 : (h1 + 1 * n2).natAbs ≤ 709900 := by
    refine sq_P _ (60 * 153174641 + 2 * 19982799 * 12377) 709900 ?_ (by decide)
    exact Nat.le_trans (q_abs2 _ _ _ fd) (Nat.add_le_add_left (nmul_le (nmul_le k2 b1) bk) _)
  have b3 : n2.natAbs ≤ 30599326 := by
    clear g0 ga gb gc gd ge gf fd bd b1 u3 u4 u5 hd d1 d2
    omega
  have z033 : H033 = 0 := by
    refine num_true _ _ H033 _ _ rfl (fb1 c _ _ 20 hc t033 (tT033_le X Y W hX hY hW)) (na_le ?_ (nmul_le (nmul_le k2 bn) b3)) (show 20 * 153174641 + (0 + 2 * 47933 * 30599326) < 18446744073709551616 by decide)
    rw [Int.mul_zero, Int.zero_mul]
    exact Nat.le_refl _
  have z123 : H123 = 0 := by
    rw [z033, Int.mul_zero, Int.add_zero] at u3
    exact u3
  have z204 : H204 = 0 := num_true _ _ H204 _ _ rfl (fb1 c _ _ 15 hc t204 (tT204_le X Y W hX hY hW)) (na_le (nmul_le (nmul_le k2 bg) bk) (nmul_le bh bh)) (by decide)
  have z024 : H024 = 0 := num_true _ _ H024 _ _ rfl (fb1 c _ _ 15 hc t024 (tT024_le X Y W hX hY hW)) (na_le (nmul_le b3 b3) (nmul_le (nmul_le k2 bk) bn)) (by decide)
  have z114 : H114 = 0 := num_true _ _ H114 _ _ rfl (fb1 c _ _ 30 hc t114 (tT114_le X Y W hX hY hW)) (na_le (nmul_le (nmul_le k2 bh) b3) (nmul_le (nmul_le k2 bm) bk)) (by decide)
  have z105 : H105 = 0 := num_true _ _ H105 _ _ rfl (fb1 c _ _ 6 hc t105 (tT105_le X Y W hX hY hW)) (nmul_le (nmul_le k2 bh) bk) (by decide)
  have z015 : H015 = 0 := num_true _ _ H015 _ _ rfl (fb1 c _ _ 6 hc t015 (tT015_le X Y W hX hY hW)) (nmul_le (nmul_le k2 bk) b3) (by decide)
  exact ⟨z204, z123, z114, z105, z033, z024, z015, rfl⟩
theorem qchVm (X Y W : Nat → Int) (hX : bx7 X) (hY : bx7 Y) (hW : bx7 W) (hv : vK (fun k => X k + (-1) * Y k) = true) (c e1 g1 e2 m h1 n1 n2 k0 H204 H123 H114 H105 H033 H024 H015 H006 : Int) (hc : c ≠ 0) (z600 : tT600 X Y W = 0) (z510 : tT510 X Y W = 0) (z501 : tT501 X Y W = 0) (t420 : tT420 X Y W = 27 * c * (e1 * e1)) (t411 : tT411 X Y W = 27 * c * (2 * e1 * g1)) (t402 : tT402 X Y W = 27 * c * (g1 * g1)) (t330 : tT330 X Y W = 27 * c * (2 * e1 * e2)) (t321 : tT321 X Y W = 27 * c * (2 * e1 * m + 2 * g1 * e2)) (t312 : tT312 X Y W = 27 * c * (2 * e1 * h1 + 2 * g1 * m)) (t303 : tT303 X Y W = 27 * c * (2 * g1 * h1)) (t240 : tT240 X Y W = 27 * c * (2 * e1 * 0 + e2 * e2)) (t231 : tT231 X Y W = 27 * c * (2 * e1 * n1 + (2 * g1 * 0 + 2 * e2 * m))) (t222 : tT222 X Y W = 27 * c * (2 * e1 * n2 + (2 * g1 * n1 + (m * m + 2 * e2 * h1)))) (t213 : tT213 X Y W = 27 * c * (2 * e1 * k0 + (2 * g1 * n2 + 2 * m * h1))) (t150 : tT150 X Y W = 27 * c * (2 * e2 * 0)) (t141 : tT141 X Y W = 27 * c * (2 * e2 * n1 + 2 * m * 0)) (t132 : tT132 X Y W = 27 * c * (2 * e2 * n2 + (2 * m * n1 + 2 * h1 * 0))) (t060 : tT060 X Y W = 27 * c * (0 * 0)) (t051 : tT051 X Y W = 27 * c * (2 * 0 * n1)) (t042 : tT042 X Y W = 27 * c * (n1 * n1 + 2 * 0 * n2)) (t204 : tT204 X Y W = 27 * c * (2 * g1 * k0 + h1 * h1 + 18446744073709551616 * H204)) (t123 : tT123 X Y W = 27 * c * (2 * h1 * n1 + (2 * m * n2 + 2 * e2 * k0) + 18446744073709551616 * H123)) (t114 : tT114 X Y W = 27 * c * (2 * h1 * n2 + 2 * m * k0 + 18446744073709551616 * H114)) (t105 : tT105 X Y W = 27 * c * (2 * h1 * k0 + 18446744073709551616 * H105)) (t033 : tT033 X Y W = 27 * c * (2 * 0 * k0 + 2 * n1 * n2 + 18446744073709551616 * H033)) (t024 : tT024 X Y W = 27 * c * (n2 * n2 + 2 * k0 * n1 + 18446744073709551616 * H024)) (t015 : tT015 X Y W = 27 * c * (2 * k0 * n2 + 18446744073709551616 * H015)) (t006 : tT006 X Y W = 27 * c * (k0 * k0 + 18446744073709551616 * H006)) (bg : g1.natAbs ≤ 47933) (bn : n1.natAbs ≤ 47933) (bm : m.natAbs ≤ 19886933) (bh : h1.natAbs ≤ 29889426) (d1 : (2 * e1 * k0).natAbs ≤ 2 ^ 62) (d2 : (2 * e2 * k0).natAbs ≤ 2 ^ 62) : H204 = 0 ∧ H123 = 0 ∧ H114 = 0 ∧ H105 = 0 ∧ H033 = 0 ∧ H024 = 0 ∧ H015 = 0 ∧ H006 = 0 := by
  obtain ⟨g0, ga, gb, gc, gd, ge, gf⟩ := qG_V X Y W (-1)
  rw [z600, z510, t420, t330, t240, t150, t060, rvm0 c e1 g1 e2 m h1 n1 n2 k0 H204 H123 H114 H105 H033 H024 H015 H006] at g0
  rw [z501, t411, t321, t231, t141, t051, rvm1 c e1 g1 e2 m h1 n1 n2 k0 H204 H123 H114 H105 H033 H024 H015 H006] at ga
  rw [t402, t312, t222, t132, t042, rvm2 c e1 g1 e2 m h1 n1 n2 k0 H204 H123 H114 H105 H033 H024 H015 H006] at gb
  rw [t303, t213, t123, t033, rvm3 c e1 g1 e2 m h1 n1 n2 k0 H204 H123 H114 H105 H033 H024 H015 H006] at gc
  rw [t204, t114, t024, rvm4 c e1 g1 e2 m h1 n1 n2 k0 H204 H123 H114 H105 H033 H024 H015 H006] at gd
  rw [t105, t015, rvm5 c e1 g1 e2 m h1 n1 n2 k0 H204 H123 H114 H105 H033 H024 H015 H006] at ge
  rw [t006] at gf
  have hd : (2 * ((-1) * e1 + e2) * k0).natAbs ≤ 2 ^ 63 := by
    have e : 2 * ((-1) * e1 + e2) * k0 = (-1) * (2 * e1 * k0) + 2 * e2 * k0 := by
      clear g0 ga gb gc gd ge gf d1 d2
      grind
    rw [e]
    have e63 : (2 : Nat) ^ 63 = 1 * 2 ^ 62 + 2 ^ 62 := by decide +kernel
    rw [e63]
    exact na_le (nmul_le (by decide) d1) d2
  obtain ⟨u3, u4, u5, u6⟩ := vK_true _ W hW hv c _ _ _ _ _ _ _ H006 g0 ga gb gc gd ge gf hd
  subst u6
  simp only [Int.mul_zero, Int.add_zero] at t006
  have bk : k0.natAbs ≤ 12377 := sq_P k0 (1 * 153174641) 12377 (fb1 c _ _ 1 hc t006 (tT006_le X Y W hX hY hW)) (by decide)
  rw [u4, Int.mul_zero, Int.add_zero] at gd
  have bd : (qG (fun k => X k + (-1) * Y k) W 4).natAbs ≤ 60 * 4135715297 := by
    rw [(qG_V X Y W (-1)).2.2.2.2.1]
    refine Nat.le_trans (na_le (na_le (tT204_le X Y W hX hY hW) (nmul_le (show ((-1) : Int).natAbs ≤ 1 by decide) (tT114_le X Y W hX hY hW))) (nmul_le (show ((-1) * (-1) : Int).natAbs ≤ 1 by decide) (tT024_le X Y W hX hY hW))) (by decide)
  have fd := fb1 c _ _ 60 hc gd bd
  have b1 : (g1 + (-1) * m + n1).natAbs ≤ 19982799 := Nat.le_trans (na_le (na_le bg (nmul_le (show ((-1) : Int).natAbs ≤ 1 by decide) bm)) bn) (by decide)
  have b2 : (h1 + (-1) * n2).natAbs ≤ 709900 := by
    refine sq_P _ (60 * 153174641 + 2 * 19982799 * 12377) 709900 ?_ (by decide)
    exact Nat.le_trans (q_abs2 _ _ _ fd) (Nat.add_le_add_left (nmul_le (nmul_le k2 b1) bk) _)
  have b3 : n2.natAbs ≤ 30599326 := by
    clear g0 ga gb gc gd ge gf fd bd b1 u3 u4 u5 hd d1 d2
    omega
  have z033 : H033 = 0 := by
    refine num_true _ _ H033 _ _ rfl (fb1 c _ _ 20 hc t033 (tT033_le X Y W hX hY hW)) (na_le ?_ (nmul_le (nmul_le k2 bn) b3)) (show 20 * 153174641 + (0 + 2 * 47933 * 30599326) < 18446744073709551616 by decide)
    rw [Int.mul_zero, Int.zero_mul]
    exact Nat.le_refl _
  have z123 : H123 = 0 := by
    rw [z033, Int.mul_zero, Int.add_zero] at u3
    exact u3
  have z204 : H204 = 0 := num_true _ _ H204 _ _ rfl (fb1 c _ _ 15 hc t204 (tT204_le X Y W hX hY hW)) (na_le (nmul_le (nmul_le k2 bg) bk) (nmul_le bh bh)) (by decide)
  have z024 : H024 = 0 := num_true _ _ H024 _ _ rfl (fb1 c _ _ 15 hc t024 (tT024_le X Y W hX hY hW)) (na_le (nmul_le b3 b3) (nmul_le (nmul_le k2 bk) bn)) (by decide)
  have z114 : H114 = 0 := num_true _ _ H114 _ _ rfl (fb1 c _ _ 30 hc t114 (tT114_le X Y W hX hY hW)) (na_le (nmul_le (nmul_le k2 bh) b3) (nmul_le (nmul_le k2 bm) bk)) (by decide)
  have z105 : H105 = 0 := num_true _ _ H105 _ _ rfl (fb1 c _ _ 6 hc t105 (tT105_le X Y W hX hY hW)) (nmul_le (nmul_le k2 bh) bk) (by decide)
  have z015 : H015 = 0 := num_true _ _ H015 _ _ rfl (fb1 c _ _ 6 hc t015 (tT015_le X Y W hX hY hW)) (nmul_le (nmul_le k2 bk) b3) (by decide)
  exact ⟨z204, z123, z114, z105, z033, z024, z015, rfl⟩
theorem rsq (c e1 e2 : Int) : 27 * c * (2 * e1 * e2) * (27 * c * (2 * e1 * e2)) = 4 * (27 * c * (e1 * e1) * (27 * c * (2 * e1 * 0 + e2 * e2))) := by grind
theorem qchP (X Y W : Nat → Int) (hX : bx7 X) (hY : bx7 Y) (hW : bx7 W) (x0 : 0 ≤ X 0) (x1 : 0 ≤ X 1) (x4 : (X 4).natAbs ≤ (X 0).natAbs) (zX : qz X) (zY : qz Y) (z600 : tT600 X Y W = 0) (z510 : tT510 X Y W = 0) (z501 : tT501 X Y W = 0) (c e1 g1 e2 m h1 e3 n1 n2 k0 H411 H402 H330 H321 H312 H303 H240 H231 H222 H213 H204 H150 H141 H132 H123 H114 H105 H060 H051 H042 H033 H024 H015 H006 : Int) (he : e1 ≠ 0) (hc : c ≠ 0) (h3 : e3 = 0) (t420 : tT420 X Y W = 27 * c * (e1 * e1)) (t411 : tT411 X Y W = 27 * c * (2 * e1 * g1 + 18446744073709551616 * H411)) (t402 : tT402 X Y W = 27 * c * (g1 * g1 + 18446744073709551616 * H402)) (t330 : tT330 X Y W = 27 * c * (2 * e1 * e2 + 18446744073709551616 * H330)) (t321 : tT321 X Y W = 27 * c * (2 * e1 * m + 2 * g1 * e2 + 18446744073709551616 * H321)) (t312 : tT312 X Y W = 27 * c * (2 * e1 * h1 + 2 * g1 * m + 18446744073709551616 * H312)) (t303 : tT303 X Y W = 27 * c * (2 * g1 * h1 + 18446744073709551616 * H303)) (t240 : tT240 X Y W = 27 * c * (2 * e1 * e3 + e2 * e2 + 18446744073709551616 * H240)) (t231 : tT231 X Y W = 27 * c * (2 * e1 * n1 + (2 * g1 * e3 + 2 * e2 * m) + 18446744073709551616 * H231)) (t222 : tT222 X Y W = 27 * c * (2 * e1 * n2 + (2 * g1 * n1 + (m * m + 2 * e2 * h1)) + 18446744073709551616 * H222)) (t213 : tT213 X Y W = 27 * c * (2 * e1 * k0 + (2 * g1 * n2 + 2 * m * h1) + 18446744073709551616 * H213)) (t204 : tT204 X Y W = 27 * c * (2 * g1 * k0 + h1 * h1 + 18446744073709551616 * H204)) (t150 : tT150 X Y W = 27 * c * (2 * e2 * e3 + 18446744073709551616 * H150)) (t141 : tT141 X Y W = 27 * c * (2 * e2 * n1 + 2 * m * e3 + 18446744073709551616 * H141)) (t132 : tT132 X Y W = 27 * c * (2 * e2 * n2 + (2 * m * n1 + 2 * h1 * e3) + 18446744073709551616 * H132)) (t123 : tT123 X Y W = 27 * c * (2 * h1 * n1 + (2 * m * n2 + 2 * e2 * k0) + 18446744073709551616 * H123)) (t114 : tT114 X Y W = 27 * c * (2 * h1 * n2 + 2 * m * k0 + 18446744073709551616 * H114)) (t105 : tT105 X Y W = 27 * c * (2 * h1 * k0 + 18446744073709551616 * H105)) (t060 : tT060 X Y W = 27 * c * (e3 * e3 + 18446744073709551616 * H060)) (t051 : tT051 X Y W = 27 * c * (2 * e3 * n1 + 18446744073709551616 * H051)) (t042 : tT042 X Y W = 27 * c * (n1 * n1 + 2 * e3 * n2 + 18446744073709551616 * H042)) (t033 : tT033 X Y W = 27 * c * (2 * e3 * k0 + 2 * n1 * n2 + 18446744073709551616 * H033)) (t024 : tT024 X Y W = 27 * c * (n2 * n2 + 2 * k0 * n1 + 18446744073709551616 * H024)) (t015 : tT015 X Y W = 27 * c * (2 * k0 * n2 + 18446744073709551616 * H015)) (t006 : tT006 X Y W = 27 * c * (k0 * k0 + 18446744073709551616 * H006)) (d411 : (2 * e1 * g1).natAbs ≤ 2 ^ 63) (d330 : (2 * e1 * e2).natAbs ≤ 2 ^ 63) (d321 : (2 * e1 * m).natAbs ≤ 2 ^ 63) (d312 : (2 * e1 * h1).natAbs ≤ 2 ^ 63) (d240 : (2 * e1 * e3).natAbs ≤ 2 ^ 63) (d231 : (2 * e1 * n1).natAbs ≤ 2 ^ 63) (d222 : (2 * e1 * n2).natAbs ≤ 2 ^ 63) (d213 : (2 * e1 * k0).natAbs ≤ 2 ^ 63) :
    H411 = 0 ∧ H402 = 0 ∧ H330 = 0 ∧ H321 = 0 ∧ H312 = 0 ∧ H303 = 0 ∧ H240 = 0 ∧ H231 = 0 ∧ H222 = 0 ∧ H213 = 0 ∧ H204 = 0 ∧ H150 = 0 ∧ H141 = 0 ∧ H132 = 0 ∧ H123 = 0 ∧ H114 = 0 ∧ H105 = 0 ∧ H060 = 0 ∧ H051 = 0 ∧ H042 = 0 ∧ H033 = 0 ∧ H024 = 0 ∧ H015 = 0 ∧ H006 = 0 := by
  have hz := zck_true X hX x0 x1 x4 zX
  obtain ⟨z411, z402, z330, z240, z150, z060, z321, z312, z303, z231, z141, z051, z222, z042, z132, z213, bg, b2, bn, bm, bh, k1, k2', -, -⟩ := qch0 X Y W hX hY hW hz c e1 g1 e2 m h1 e3 n1 n2 k0 H411 H402 H330 H321 H312 H303 H240 H231 H222 H213 H150 H141 H132 H060 H051 H042 he hc h3 t420 t411 t402 t330 t321 t312 t303 t240 t231 t222 t213 t150 t141 t132 t060 t051 t042 d411 d330 d321 d312 d240 d231 d222 d213
  subst h3 z411 z402 z330 z240 z150 z060 z321 z312 z303 z231 z141 z051 z222 z042 z132 z213
  have t411' : tT411 X Y W = 27 * c * (2 * e1 * g1) := t411.trans (by rw [Int.mul_zero (18446744073709551616), Int.add_zero])
  have t402' : tT402 X Y W = 27 * c * (g1 * g1) := t402.trans (by rw [Int.mul_zero (18446744073709551616), Int.add_zero])
  have t330' : tT330 X Y W = 27 * c * (2 * e1 * e2) := t330.trans (by rw [Int.mul_zero (18446744073709551616), Int.add_zero])
  have t321' : tT321 X Y W = 27 * c * (2 * e1 * m + 2 * g1 * e2) := t321.trans (by rw [Int.mul_zero (18446744073709551616), Int.add_zero])
  have t312' : tT312 X Y W = 27 * c * (2 * e1 * h1 + 2 * g1 * m) := t312.trans (by rw [Int.mul_zero (18446744073709551616), Int.add_zero])
  have t303' : tT303 X Y W = 27 * c * (2 * g1 * h1) := t303.trans (by rw [Int.mul_zero (18446744073709551616), Int.add_zero])
  have t240' : tT240 X Y W = 27 * c * (2 * e1 * 0 + e2 * e2) := t240.trans (by rw [Int.mul_zero (18446744073709551616), Int.add_zero])
  have t231' : tT231 X Y W = 27 * c * (2 * e1 * n1 + (2 * g1 * 0 + 2 * e2 * m)) := t231.trans (by rw [Int.mul_zero (18446744073709551616), Int.add_zero])
  have t222' : tT222 X Y W = 27 * c * (2 * e1 * n2 + (2 * g1 * n1 + (m * m + 2 * e2 * h1))) := t222.trans (by rw [Int.mul_zero (18446744073709551616), Int.add_zero])
  have t213' : tT213 X Y W = 27 * c * (2 * e1 * k0 + (2 * g1 * n2 + 2 * m * h1)) := t213.trans (by rw [Int.mul_zero (18446744073709551616), Int.add_zero])
  have t150' : tT150 X Y W = 27 * c * (2 * e2 * 0) := t150.trans (by rw [Int.mul_zero (18446744073709551616), Int.add_zero])
  have t141' : tT141 X Y W = 27 * c * (2 * e2 * n1 + 2 * m * 0) := t141.trans (by rw [Int.mul_zero (18446744073709551616), Int.add_zero])
  have t132' : tT132 X Y W = 27 * c * (2 * e2 * n2 + (2 * m * n1 + 2 * h1 * 0)) := t132.trans (by rw [Int.mul_zero (18446744073709551616), Int.add_zero])
  have t060' : tT060 X Y W = 27 * c * (0 * 0) := t060.trans (by rw [Int.mul_zero (18446744073709551616), Int.add_zero])
  have t051' : tT051 X Y W = 27 * c * (2 * 0 * n1) := t051.trans (by rw [Int.mul_zero (18446744073709551616), Int.add_zero])
  have t042' : tT042 X Y W = 27 * c * (n1 * n1 + 2 * 0 * n2) := t042.trans (by rw [Int.mul_zero (18446744073709551616), Int.add_zero])
  obtain ⟨y0, y1, y2, y3, y4, y5, y6⟩ := tT_xy X Y W
  have g2 : qG X Y 2 ≠ 0 := by
    rw [← y2, t420]
    exact Int.mul_ne_zero (Int.mul_ne_zero (by decide) hc) (Int.mul_ne_zero he he)
  have sq : qG X Y 3 * qG X Y 3 = 4 * (qG X Y 2 * qG X Y 4) := by
    rw [← y2, ← y3, ← y4, t420, t330', t240']
    exact rsq c e1 e2
  rcases pk_mean X Y hX hY (pk_any X Y hX x0 x1 x4 zX hY zY) g2 sq with v | v
  · obtain ⟨w204, w123, w114, w105, w033, w024, w015, w006⟩ := qchVp X Y W hX hY hW v c e1 g1 e2 m h1 n1 n2 k0 H204 H123 H114 H105 H033 H024 H015 H006 hc z600 z510 z501 t420 t411' t402' t330' t321' t312' t303' t240' t231' t222' t213' t150' t141' t132' t060' t051' t042' t204 t123 t114 t105 t033 t024 t015 t006 bg bn bm bh k1 k2'
    exact ⟨rfl, rfl, rfl, rfl, rfl, rfl, rfl, rfl, rfl, rfl, w204, rfl, rfl, rfl, w123, w114, w105, rfl, rfl, rfl, w033, w024, w015, w006⟩
  · obtain ⟨w204, w123, w114, w105, w033, w024, w015, w006⟩ := qchVm X Y W hX hY hW v c e1 g1 e2 m h1 n1 n2 k0 H204 H123 H114 H105 H033 H024 H015 H006 hc z600 z510 z501 t420 t411' t402' t330' t321' t312' t303' t240' t231' t222' t213' t150' t141' t132' t060' t051' t042' t204 t123 t114 t105 t033 t024 t015 t006 bg bn bm bh k1 k2'
    exact ⟨rfl, rfl, rfl, rfl, rfl, rfl, rfl, rfl, rfl, rfl, w204, rfl, rfl, rfl, w123, w114, w105, rfl, rfl, rfl, w033, w024, w015, w006⟩
