/-! lead x^4 y^2, the first quartic met twice, the second with a double root -/
theorem q_N2z (E G p n mm hh a2 : Nat) (bG : G ≤ 47933) (bn : n ≤ 47933) (bm : mm ≤ 19886933) (bh : hh ≤ 29889426) (ba : a2 ≤ 59026) (hN : 2 * E * p ≤ 13785717690 + (2 * G * n + (mm * mm + 2 * a2 * hh))) : 2 * E * p ≤ 399100000000000 := by
  have a1 : G * n ≤ 47933 * 47933 := Nat.mul_le_mul bG bn
  have a2' : mm * mm ≤ 19886933 * 19886933 := Nat.mul_le_mul bm bm
  have a3 : a2 * hh ≤ 59026 * 29889426 := Nat.mul_le_mul ba bh
  rw [Nat.mul_assoc 2 G n, Nat.mul_assoc 2 a2 hh] at hN
  omega
theorem q_abs2 (a b : Int) (n : Nat) (h : (a + b).natAbs ≤ n) : b.natAbs ≤ n + a.natAbs := by omega
theorem q_sum0 (a b d f z : Nat) (h : a ≤ b + (d + f)) (c1 : b ≤ 110138693864640 * z) (c2 : d ≤ 484672100000000 * z) (c3 : f ≤ 274700991214476876 * z) : a ≤ z * 275295802008341516 := by omega
theorem q_e2k0 (E G a2 p q n mm hh : Nat) (hE : 1 ≤ E) (h2 : a2 ≤ 11984 * E) (hG : G ≤ 253 * E) (bh : hh ≤ 29889426) (bn : n ≤ 47933) (hp : 2 * a2 * p ≤ 1915700000000) (hm : 2 * a2 * mm ≤ 9190478460 + 2 * E * n) (hK : 2 * E * q ≤ 9190478460 + (2 * G * p + 2 * mm * hh)) : 2 * a2 * q ≤ 275295802008341516 := by
  have k1 : E * (2 * a2 * q) ≤ a2 * (9190478460 + (2 * G * p + 2 * mm * hh)) := by
    have : E * (2 * a2 * q) = a2 * (2 * E * q) := by grind
    rw [this]
    exact Nat.mul_le_mul (Nat.le_refl a2) hK
  have k2' : a2 * (9190478460 + (2 * G * p + 2 * mm * hh)) = a2 * 9190478460 + (G * (2 * a2 * p) + 2 * a2 * mm * hh) := by
    clear k1 hK hm hp bn bh hG h2 hE
    grind
  rw [k2'] at k1
  have c1 : a2 * 9190478460 ≤ 110138693864640 * E := by omega
  have c2 : G * (2 * a2 * p) ≤ 484672100000000 * E := by
    exact Nat.le_trans (Nat.mul_le_mul hG hp) (Nat.le_of_eq (by grind))
  have c3 : 2 * a2 * mm * hh ≤ 274700991214476876 * E := by
    have u1 : 2 * E * n ≤ 2 * E * 47933 := Nat.mul_le_mul (Nat.le_refl _) bn
    have u2 : 2 * a2 * mm ≤ 9190574326 * E := by omega
    exact Nat.le_trans (Nat.mul_le_mul u2 bh) (Nat.le_of_eq (by grind))
  have := q_sum0 _ _ _ _ _ k1 c1 c2 c3
  exact Nat.le_of_mul_le_mul_left this hE
theorem qch0 (X Y W : Nat → Int) (hX : bx7 X) (hY : bx7 Y) (hW : bx7 W) (hz : zck X = true) (c e1 g1 e2 m h1 e3 n1 n2 k0 H411 H402 H330 H321 H312 H303 H240 H231 H222 H213 H150 H141 H132 H060 H051 H042 : Int) (he : e1 ≠ 0) (hc : c ≠ 0) (h3 : e3 = 0) (t420 : tT420 X Y W = 27 * c * (e1 * e1)) (t411 : tT411 X Y W = 27 * c * (2 * e1 * g1 + 18446744073709551616 * H411)) (t402 : tT402 X Y W = 27 * c * (g1 * g1 + 18446744073709551616 * H402)) (t330 : tT330 X Y W = 27 * c * (2 * e1 * e2 + 18446744073709551616 * H330)) (t321 : tT321 X Y W = 27 * c * (2 * e1 * m + 2 * g1 * e2 + 18446744073709551616 * H321)) (t312 : tT312 X Y W = 27 * c * (2 * e1 * h1 + 2 * g1 * m + 18446744073709551616 * H312)) (t303 : tT303 X Y W = 27 * c * (2 * g1 * h1 + 18446744073709551616 * H303)) (t240 : tT240 X Y W = 27 * c * (2 * e1 * e3 + e2 * e2 + 18446744073709551616 * H240)) (t231 : tT231 X Y W = 27 * c * (2 * e1 * n1 + (2 * g1 * e3 + 2 * e2 * m) + 18446744073709551616 * H231)) (t222 : tT222 X Y W = 27 * c * (2 * e1 * n2 + (2 * g1 * n1 + (m * m + 2 * e2 * h1)) + 18446744073709551616 * H222)) (t213 : tT213 X Y W = 27 * c * (2 * e1 * k0 + (2 * g1 * n2 + 2 * m * h1) + 18446744073709551616 * H213)) (t150 : tT150 X Y W = 27 * c * (2 * e2 * e3 + 18446744073709551616 * H150)) (t141 : tT141 X Y W = 27 * c * (2 * e2 * n1 + 2 * m * e3 + 18446744073709551616 * H141)) (t132 : tT132 X Y W = 27 * c * (2 * e2 * n2 + (2 * m * n1 + 2 * h1 * e3) + 18446744073709551616 * H132)) (t060 : tT060 X Y W = 27 * c * (e3 * e3 + 18446744073709551616 * H060)) (t051 : tT051 X Y W = 27 * c * (2 * e3 * n1 + 18446744073709551616 * H051)) (t042 : tT042 X Y W = 27 * c * (n1 * n1 + 2 * e3 * n2 + 18446744073709551616 * H042)) (d411 : (2 * e1 * g1).natAbs ≤ 2 ^ 63) (d330 : (2 * e1 * e2).natAbs ≤ 2 ^ 63) (d321 : (2 * e1 * m).natAbs ≤ 2 ^ 63) (d312 : (2 * e1 * h1).natAbs ≤ 2 ^ 63) (d240 : (2 * e1 * e3).natAbs ≤ 2 ^ 63) (d231 : (2 * e1 * n1).natAbs ≤ 2 ^ 63) (d222 : (2 * e1 * n2).natAbs ≤ 2 ^ 63) (d213 : (2 * e1 * k0).natAbs ≤ 2 ^ 63) :
    H411 = 0 ∧ H402 = 0 ∧ H330 = 0 ∧ H240 = 0 ∧ H150 = 0 ∧ H060 = 0 ∧ H321 = 0 ∧ H312 = 0 ∧ H303 = 0 ∧ H231 = 0 ∧ H141 = 0 ∧ H051 = 0 ∧ H222 = 0 ∧ H042 = 0 ∧ H132 = 0 ∧ H213 = 0 ∧ g1.natAbs ≤ 47933 ∧ e2.natAbs ≤ 59026 ∧ n1.natAbs ≤ 47933 ∧ m.natAbs ≤ 19886933 ∧ h1.natAbs ≤ 29889426 ∧ (2 * e1 * k0).natAbs ≤ 2 ^ 62 ∧ (2 * e2 * k0).natAbs ≤ 2 ^ 62 ∧ (2 * e2 * n2).natAbs ≤ 1915700000000 ∧ e1.natAbs ≤ 47933 := by
  obtain ⟨z411, z402, z330, z240, z150, z060, z321, z312, z303, z231, z141, z051, z222, l1, b1, bg, b2, b3, hg, hr3, bm, bh, bR, n0, n0', hA, A1⟩ := qch1 X Y W hX hY hW hz c e1 g1 e2 m h1 e3 n1 n2 H411 H402 H330 H321 H312 H303 H240 H231 H222 H150 H141 H060 H051 he hc t420 t411 t402 t330 t321 t312 t303 t240 t231 t222 t150 t141 t060 t051 d411 d330 d321 d312 d240 d231 d222
  subst h3 z411 z402 z330 z240 z150 z060 z321 z312 z303 z231 z141 z051 z222
  simp only [Int.mul_zero, Int.add_zero, Int.zero_mul, Int.zero_add] at t411 t402 t330 t240 t150 t060 t321 t312 t303 t231 t141 t051 t222 t132 t042
  have he1 : 1 ≤ e1.natAbs := Int.natAbs_pos.mpr he
  have bm' : m.natAbs ≤ 19886933 := by omega
  have bh' : h1.natAbs ≤ 29889426 := by omega
  have l4 : 4 ≤ c.natAbs * e1.natAbs := by
    rw [Int.natAbs_mul, show (27 : Int).natAbs = 27 from rfl, Nat.mul_assoc] at l1
    omega
  have f231 := fb1 c _ _ 60 hc t231 (tT231_le X Y W hX hY hW)
  have nn : n1.natAbs ≤ 2297619615 := by
    by_cases q : e2 = 0
    · rw [q] at t231
      simp only [Int.mul_zero, Int.add_zero, Int.zero_mul] at t231
      have h := fbc c _ _ 60 t231 (tT231_le X Y W hX hY hW)
      rw [Int.natAbs_mul, Int.natAbs_mul, show (2 : Int).natAbs = 2 from rfl] at h
      have a1 : c.natAbs * (2 * e1.natAbs * n1.natAbs) = c.natAbs * e1.natAbs * (2 * n1.natAbs) := by
        generalize c.natAbs = p
        generalize e1.natAbs = q
        generalize n1.natAbs = r
        grind
      rw [a1] at h
      have := Nat.mul_le_mul l4 (Nat.le_refl (2 * n1.natAbs))
      omega
    · have := q_two e2 n1 _ (Int.natAbs_pos.mpr q) (fb1 c _ _ 30 hc t141 (tT141_le X Y W hX hY hW))
      omega
  have f042 := fb1 c _ _ 15 hc t042 (tT042_le X Y W hX hY hW)
  have z042 : H042 = 0 := num_true _ _ H042 _ _ rfl f042 (nmul_le nn nn) (by decide)
  subst z042
  simp only [Int.mul_zero, Int.add_zero] at t042 f042
  have bn : n1.natAbs ≤ 47933 := sq_P n1 (15 * 153174641) 47933 f042 (by decide)
  have hN := q_hN e1 n2 g1 n1 m e2 h1 _ (fb1 c _ _ 90 hc t222 (tT222_le X Y W hX hY hW))
  have hN' : 2 * e1.natAbs * n2.natAbs ≤ 13785717690 + (2 * g1.natAbs * n1.natAbs + (m.natAbs * m.natAbs + 2 * e2.natAbs * h1.natAbs)) := hN
  have N2 := q_N2z _ _ _ _ _ _ _ bg bn bm' bh' b2 hN'
  have r2 : e2.natAbs ≤ 11984 * e1.natAbs := by
    refine q_ratio (27 * c).natAbs e1.natAbs e2.natAbs (s2 X) 62035729455 11984 ?_ hA ?_ (by omega)
    · rw [Int.natAbs_mul]
      exact Nat.mul_pos (by decide) (Int.natAbs_pos.mpr hc)
    · rw [← Int.natAbs_mul, ← Int.natAbs_mul, ← t240]
      exact tT240_le X Y W hX hY hW
  have up : ∀ (a r x : Nat), a ≤ r * e1.natAbs → 2 * a * x ≤ r * (2 * e1.natAbs * x) := by
    intro a r x h
    have a1 : 2 * a * x ≤ 2 * (r * e1.natAbs) * x := Nat.mul_le_mul (Nat.mul_le_mul (Nat.le_refl 2) h) (Nat.le_refl _)
    have a2 : 2 * (r * e1.natAbs) * x = r * (2 * e1.natAbs * x) := by
      generalize e1.natAbs = p
      clear a1
      grind
    rw [a2] at a1
    exact a1
  have f132 := fb1 c _ _ 60 hc t132 (tT132_le X Y W hX hY hW)
  have s1 : (2 * m * n1).natAbs ≤ 2 * 19886933 * 47933 := nmul_le (nmul_le k2 bm') bn
  have s132 : (2 * e2 * n2 + 2 * m * n1).natAbs ≤ 11984 * 399100000000000 + 2 * 19886933 * 47933 := by
    refine na_le ?_ s1
    rw [Int.natAbs_mul, Int.natAbs_mul, show (2 : Int).natAbs = 2 from rfl]
    exact Nat.le_trans (up _ _ _ r2) (Nat.mul_le_mul (Nat.le_refl _) N2)
  have z132 : H132 = 0 := num_true _ _ H132 _ _ rfl f132 s132 (by decide)
  subst z132
  simp only [Int.mul_zero, Int.add_zero] at t132 f132
  have e2n2 : (2 * e2 * n2).natAbs ≤ 1915700000000 := by
    exact Nat.le_trans (q_abs _ _ _ f132) (Nat.le_trans (Nat.add_le_add_left s1 _) (by decide))
  have f213 := fb1 c _ _ 60 hc t213 (tT213_le X Y W hX hY hW)
  have s213 : (2 * g1 * n2 + 2 * m * h1).natAbs ≤ 253 * 399100000000000 + 2 * 19886933 * 29889426 := by
    refine na_le ?_ (nmul_le (nmul_le k2 bm') bh')
    rw [Int.natAbs_mul, Int.natAbs_mul, show (2 : Int).natAbs = 2 from rfl]
    exact Nat.le_trans (up _ _ _ hg) (Nat.mul_le_mul (Nat.le_refl _) N2)
  obtain ⟨z213, k1⟩ := dig_true e1 k0 _ _ H213 _ _ rfl f213 s213 d213 (by decide)
  subst z213
  simp only [Int.mul_zero, Int.add_zero] at t213
  have hK := q_hK e1 k0 g1 n2 m h1 _ (fb1 c _ _ 60 hc t213 (tT213_le X Y W hX hY hW))
  have hK' : 2 * e1.natAbs * k0.natAbs ≤ 9190478460 + (2 * g1.natAbs * n2.natAbs + 2 * m.natAbs * h1.natAbs) := hK
  have hm : 2 * e2.natAbs * m.natAbs ≤ 9190478460 + 2 * e1.natAbs * n1.natAbs := by
    have a1 : (2 * e2 * m).natAbs ≤ 60 * 153174641 + (2 * e1 * n1).natAbs := by
      exact q_abs2 _ _ _ f231
    rw [Int.natAbs_mul, Int.natAbs_mul, Int.natAbs_mul (2 * e1), Int.natAbs_mul 2 e1, show (2 : Int).natAbs = 2 from rfl] at a1
    exact a1
  have e2n2' : 2 * e2.natAbs * n2.natAbs ≤ 1915700000000 := by
    rw [Int.natAbs_mul, Int.natAbs_mul] at e2n2
    exact e2n2
  have K2 := q_e2k0 _ _ _ _ _ _ _ _ he1 r2 hg bh' bn e2n2' hm hK'
  have e62 : (4611686018427387904 : Nat) = 2 ^ 62 := by decide +kernel
  refine ⟨rfl, rfl, rfl, rfl, rfl, rfl, rfl, rfl, rfl, rfl, rfl, rfl, rfl, rfl, rfl, rfl, bg, b2, bn, bm', bh', ?_, ?_, e2n2, b1⟩
  · rw [← e62]
    exact Nat.le_trans k1 (by decide)
  · rw [← e62, Int.natAbs_mul, Int.natAbs_mul]
    exact Nat.le_trans K2 (by decide)
