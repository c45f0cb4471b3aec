/-! THE CUBE OF THREE LETTERS: the first quartic without a double root -/
theorem cu_P (e : Int) (B P : Nat) (h : (e * e * e).natAbs ≤ B) (hP : B < (P + 1) * (P + 1) * (P + 1)) : e.natAbs ≤ P := by
  rw [Int.natAbs_mul, Int.natAbs_mul] at h
  rcases Nat.lt_or_ge P e.natAbs with r | r
  · exact absurd (Nat.mul_le_mul (Nat.mul_le_mul (show P + 1 ≤ e.natAbs from r) (show P + 1 ≤ e.natAbs from r)) (show P + 1 ≤ e.natAbs from r)) (by omega)
  · exact r
theorem cub_le (x K c E : Nat) (h : x * x * x ≤ K + c * x) (hE : K < ((E + 1) * (E + 1) - c) * (E + 1)) (hc : c ≤ (E + 1) * (E + 1)) : x ≤ E := by
  rcases Nat.lt_or_ge E x with r | r
  · exfalso
    have a1 : (E + 1) * (E + 1) * x ≤ x * x * x := Nat.mul_le_mul (Nat.mul_le_mul r r) (Nat.le_refl x)
    obtain ⟨d, hd⟩ := Nat.exists_eq_add_of_le hc
    rw [hd] at a1 hE
    have a2 : c + d - c = d := by omega
    rw [a2] at hE
    have a3 : (c + d) * x = c * x + d * x := Nat.add_mul _ _ _
    have a4 : d * (E + 1) ≤ d * x := Nat.mul_le_mul (Nat.le_refl _) r
    omega
  · exact r
theorem mid3 (e0 e1 e2 f : Int) (q : f = 6 * e0 * (e1 * e2) + e1 * e1 * e1) (h0 : e0.natAbs ≤ 535) (h2 : e2.natAbs ≤ 535) (hf : f.natAbs ≤ 20 * 153174641) : e1.natAbs ≤ 1850 := by
  refine cub_le e1.natAbs (20 * 153174641) (6 * 535 * 535) 1850 ?_ (by decide) (by decide)
  have : e1 * e1 * e1 = f - 6 * e0 * e2 * e1 := by
    have : 6 * e0 * (e1 * e2) = 6 * e0 * e2 * e1 := by grind
    omega
  rw [← Int.natAbs_mul, ← Int.natAbs_mul, this]
  exact ns_le hf (nmul_le (nmul_le (nmul_le k6 h0) h2) (Nat.le_refl _))
theorem numd (p f s H : Int) (q : f = p + s + 18446744073709551616 * H) (hf : f.natAbs ≤ 30 * 153174641) (hs : s.natAbs ≤ 6 * 535 * (1850 * 1850)) (hd : p.natAbs ≤ 9223372036854775808) : H = 0 := by omega
theorem tern3 (e0 e1 e2 g1 h m f411 f321 f312 f231 f222 f213 f141 f132 f123 f114 f051 f042 f033 f024 f015 H411 H321 H312 H231 H222 H213 H141 H132 H123 H114 H051 H042 H033 H024 H015 : Int) (a0 : e0.natAbs ≤ 535) (a1 : e1.natAbs ≤ 1850) (a2 : e2.natAbs ≤ 535) (b1 : g1.natAbs ≤ 1850) (b2 : h.natAbs ≤ 535) (he : 1 ≤ e0.natAbs) (q411 : f411 = 3 * (e0 * e0) * m + 6 * e0 * (e1 * g1) + 18446744073709551616 * H411) (q321 : f321 = 6 * (e0 * m) * e1 + (3 * (e1 * e1) * g1 + 6 * e0 * (e2 * g1)) + 18446744073709551616 * H321) (q312 : f312 = 6 * (e0 * m) * g1 + (3 * (g1 * g1) * e1 + 6 * e0 * (h * e1)) + 18446744073709551616 * H312) (q231 : f231 = 6 * (e0 * m) * e2 + (3 * (e1 * e1) * m + 6 * e1 * (e2 * g1)) + 18446744073709551616 * H231) (q222 : f222 = 3 * (e0 * m) * m + (6 * e0 * (e2 * h) + (6 * e1 * (g1 * m) + (3 * (e1 * e1) * h + 3 * (g1 * g1) * e2))) + 18446744073709551616 * H222) (q213 : f213 = 6 * (e0 * m) * h + (3 * (g1 * g1) * m + 6 * g1 * (h * e1)) + 18446744073709551616 * H213) (q141 : f141 = 6 * e1 * (e2 * m) + 3 * (e2 * e2) * g1 + 18446744073709551616 * H141) (q132 : f132 = 3 * e1 * (m * m) + (6 * e1 * (e2 * h) + 6 * g1 * (e2 * m)) + 18446744073709551616 * H132) (q123 : f123 = 3 * g1 * (m * m) + (6 * g1 * (h * e2) + 6 * e1 * (h * m)) + 18446744073709551616 * H123) (q114 : f114 = 6 * g1 * (h * m) + 3 * (h * h) * e1 + 18446744073709551616 * H114) (q051 : f051 = 3 * (e2 * e2) * m + 18446744073709551616 * H051) (q042 : f042 = 3 * e2 * (m * m) + 3 * (e2 * e2) * h + 18446744073709551616 * H042) (q033 : f033 = m * m * m + 6 * e2 * (h * m) + 18446744073709551616 * H033) (q024 : f024 = 3 * h * (m * m) + 3 * (h * h) * e2 + 18446744073709551616 * H024) (q015 : f015 = 3 * (h * h) * m + 18446744073709551616 * H015) (u411 : f411.natAbs ≤ 30 * 153174641) (u321 : f321.natAbs ≤ 60 * 153174641) (u312 : f312.natAbs ≤ 60 * 153174641) (u231 : f231.natAbs ≤ 60 * 153174641) (u222 : f222.natAbs ≤ 90 * 153174641) (u213 : f213.natAbs ≤ 60 * 153174641) (u141 : f141.natAbs ≤ 30 * 153174641) (u132 : f132.natAbs ≤ 60 * 153174641) (u123 : f123.natAbs ≤ 60 * 153174641) (u114 : f114.natAbs ≤ 30 * 153174641) (u051 : f051.natAbs ≤ 6 * 153174641) (u042 : f042.natAbs ≤ 15 * 153174641) (u033 : f033.natAbs ≤ 20 * 153174641) (u024 : f024.natAbs ≤ 15 * 153174641) (u015 : f015.natAbs ≤ 6 * 153174641) (d411 : (3 * (e0 * e0) * m).natAbs ≤ 2 ^ 63) :
    H411 = 0 ∧ H321 = 0 ∧ H312 = 0 ∧ H231 = 0 ∧ H222 = 0 ∧ H213 = 0 ∧ H141 = 0 ∧ H132 = 0 ∧ H123 = 0 ∧ H114 = 0 ∧ H051 = 0 ∧ H042 = 0 ∧ H033 = 0 ∧ H024 = 0 ∧ H015 = 0 := by
  have e63 : (2 : Nat) ^ 63 = 9223372036854775808 := by decide +kernel
  have s0 : (6 * e0 * (e1 * g1)).natAbs ≤ 6 * e0.natAbs * (1850 * 1850) := nmul_le (nmul_le k6 (Nat.le_refl _)) (nmul_le a1 b1)
  have z411 : H411 = 0 := by
    have s0' : (6 * e0 * (e1 * g1)).natAbs ≤ 6 * 535 * (1850 * 1850) := nmul_le (nmul_le k6 a0) (nmul_le a1 b1)
    rw [e63] at d411
    exact numd _ _ _ _ q411 u411 s0' d411
  rw [z411, Int.mul_zero, Int.add_zero] at q411
  have em : (e0 * m).natAbs ≤ 1538591410 := by
    have : 3 * (e0 * e0) * m = f411 - 6 * e0 * (e1 * g1) := by omega
    have w : (3 * (e0 * e0) * m).natAbs ≤ 30 * 153174641 + 6 * e0.natAbs * (1850 * 1850) := by
      rw [this]
      exact ns_le u411 s0
    rw [show 3 * (e0 * e0) * m = 3 * e0 * (e0 * m) by grind, Int.natAbs_mul, Int.natAbs_mul] at w
    have w1 : (3 : Int).natAbs = 3 := rfl
    rw [w1] at w
    generalize (e0 * m).natAbs = p at *
    generalize e0.natAbs = a at *
    have w2 : 30 * 153174641 + 6 * a * (1850 * 1850) ≤ a * (30 * 153174641 + 6 * (1850 * 1850)) := by
      have : 30 * 153174641 ≤ a * (30 * 153174641) := Nat.le_mul_of_pos_left _ he
      omega
    have w3 : a * (3 * p) ≤ a * (30 * 153174641 + 6 * (1850 * 1850)) := by
      have : 3 * a * p = a * (3 * p) := by grind
      omega
    have := Nat.le_of_mul_le_mul_left w3 he
    omega
  have vm : m.natAbs ≤ 1538591410 := by
    refine Nat.le_trans ?_ em
    rw [Int.natAbs_mul]
    exact Nat.le_mul_of_pos_left _ he
  have z321 := num_true f321 _ H321 _ _ q321 u321 (na_le (nmul_le (nmul_le k6 em) a1) (na_le (nmul_le (nmul_le k3 (nmul_le a1 a1)) b1) (nmul_le (nmul_le k6 a0) (nmul_le a2 b1)))) (by decide)
  have z312 := num_true f312 _ H312 _ _ q312 u312 (na_le (nmul_le (nmul_le k6 em) b1) (na_le (nmul_le (nmul_le k3 (nmul_le b1 b1)) a1) (nmul_le (nmul_le k6 a0) (nmul_le b2 a1)))) (by decide)
  have z231 := num_true f231 _ H231 _ _ q231 u231 (na_le (nmul_le (nmul_le k6 em) a2) (na_le (nmul_le (nmul_le k3 (nmul_le a1 a1)) vm) (nmul_le (nmul_le k6 a1) (nmul_le a2 b1)))) (by decide)
  have z213 := num_true f213 _ H213 _ _ q213 u213 (na_le (nmul_le (nmul_le k6 em) b2) (na_le (nmul_le (nmul_le k3 (nmul_le b1 b1)) vm) (nmul_le (nmul_le k6 b1) (nmul_le b2 a1)))) (by decide)
  have z141 := num_true f141 _ H141 _ _ q141 u141 (na_le (nmul_le (nmul_le k6 a1) (nmul_le a2 vm)) (nmul_le (nmul_le k3 (nmul_le a2 a2)) b1)) (by decide)
  have z114 := num_true f114 _ H114 _ _ q114 u114 (na_le (nmul_le (nmul_le k6 b1) (nmul_le b2 vm)) (nmul_le (nmul_le k3 (nmul_le b2 b2)) a1)) (by decide)
  have z051 := num_true f051 _ H051 _ _ q051 u051 (nmul_le (nmul_le k3 (nmul_le a2 a2)) vm) (by decide)
  have z015 := num_true f015 _ H015 _ _ q015 u015 (nmul_le (nmul_le k3 (nmul_le b2 b2)) vm) (by decide)
  have z222 := num_true f222 _ H222 _ _ q222 u222 (na_le (nmul_le (nmul_le k3 em) vm) (na_le (nmul_le (nmul_le k6 a0) (nmul_le a2 b2)) (na_le (nmul_le (nmul_le k6 a1) (nmul_le b1 vm)) (na_le (nmul_le (nmul_le k3 (nmul_le a1 a1)) b2) (nmul_le (nmul_le k3 (nmul_le b1 b1)) a2))))) (by decide)
  rw [z222, Int.mul_zero, Int.add_zero] at q222
  have c222 : 3 * (m.natAbs * m.natAbs) ≤ 90 * 153174641 + (6 * 535 * (535 * 535) + (6 * 1850 * (1850 * m.natAbs) + (3 * (1850 * 1850) * 535 + 3 * (1850 * 1850) * 535))) := by
    have : 3 * (e0 * m) * m = f222 - (6 * e0 * (e2 * h) + (6 * e1 * (g1 * m) + (3 * (e1 * e1) * h + 3 * (g1 * g1) * e2))) := by omega
    have w : (3 * (e0 * m) * m).natAbs ≤ 90 * 153174641 + (6 * 535 * (535 * 535) + (6 * 1850 * (1850 * m.natAbs) + (3 * (1850 * 1850) * 535 + 3 * (1850 * 1850) * 535))) := by
      rw [this]
      exact ns_le u222 (na_le (nmul_le (nmul_le k6 a0) (nmul_le a2 b2)) (na_le (nmul_le (nmul_le k6 a1) (nmul_le b1 (Nat.le_refl _))) (na_le (nmul_le (nmul_le k3 (nmul_le a1 a1)) b2) (nmul_le (nmul_le k3 (nmul_le b1 b1)) a2))))
    refine Nat.le_trans ?_ w
    rw [show 3 * (e0 * m) * m = e0 * (3 * (m * m)) by grind, Int.natAbs_mul, Int.natAbs_mul, Int.natAbs_mul]
    exact Nat.le_mul_of_pos_left _ he
  have m1 : m.natAbs ≤ 6850000 := by
    refine root_le m.natAbs 9000000000 6850000 6845000 ?_ (by decide) (by decide)
    generalize m.natAbs = p at *
    omega
  have z132 := num_true f132 _ H132 _ _ q132 u132 (na_le (nmul_le (nmul_le k3 a1) (nmul_le m1 m1)) (na_le (nmul_le (nmul_le k6 a1) (nmul_le a2 b2)) (nmul_le (nmul_le k6 b1) (nmul_le a2 m1)))) (by decide)
  have z123 := num_true f123 _ H123 _ _ q123 u123 (na_le (nmul_le (nmul_le k3 b1) (nmul_le m1 m1)) (na_le (nmul_le (nmul_le k6 b1) (nmul_le b2 a2)) (nmul_le (nmul_le k6 a1) (nmul_le b2 m1)))) (by decide)
  have z042 := num_true f042 _ H042 _ _ q042 u042 (na_le (nmul_le (nmul_le k3 a2) (nmul_le m1 m1)) (nmul_le (nmul_le k3 (nmul_le a2 a2)) b2)) (by decide)
  have z024 := num_true f024 _ H024 _ _ q024 u024 (na_le (nmul_le (nmul_le k3 b2) (nmul_le m1 m1)) (nmul_le (nmul_le k3 (nmul_le b2 b2)) a2)) (by decide)
  have m2 : m.natAbs ≤ 1990000 := by
    by_cases r : e1 = 0
    · subst r
      have : 3 * (e0 * m) * m = f222 - (6 * e0 * (e2 * h) + 3 * (g1 * g1) * e2) := by
        simp only [Int.mul_zero, Int.zero_mul, Int.zero_add] at q222
        omega
      have w : (3 * (e0 * m) * m).natAbs ≤ 90 * 153174641 + (6 * 535 * (535 * 535) + 3 * (1850 * 1850) * 535) := by
        rw [this]
        exact ns_le u222 (na_le (nmul_le (nmul_le k6 a0) (nmul_le a2 b2)) (nmul_le (nmul_le k3 (nmul_le b1 b1)) a2))
      have w2 : 3 * (m.natAbs * m.natAbs) ≤ (3 * (e0 * m) * m).natAbs := by
        rw [show 3 * (e0 * m) * m = e0 * (3 * (m * m)) by grind, Int.natAbs_mul, Int.natAbs_mul, Int.natAbs_mul]
        exact Nat.le_mul_of_pos_left _ he
      refine root_le m.natAbs 9000000000 1990000 0 ?_ (by decide) (by decide)
      generalize m.natAbs = p at *
      omega
    · have r1 : 1 ≤ e1.natAbs := Int.natAbs_pos.mpr r
      rw [z132, Int.mul_zero, Int.add_zero] at q132
      have : 3 * e1 * (m * m) = f132 - (6 * e1 * (e2 * h) + 6 * g1 * (e2 * m)) := by omega
      have w : (3 * e1 * (m * m)).natAbs ≤ 60 * 153174641 + (6 * 1850 * (535 * 535) + 6 * 1850 * (535 * m.natAbs)) := by
        rw [this]
        exact ns_le u132 (na_le (nmul_le (nmul_le k6 a1) (nmul_le a2 b2)) (nmul_le (nmul_le k6 b1) (nmul_le a2 (Nat.le_refl _))))
      have w2 : 3 * (m.natAbs * m.natAbs) ≤ (3 * e1 * (m * m)).natAbs := by
        rw [show 3 * e1 * (m * m) = e1 * (3 * (m * m)) by grind, Int.natAbs_mul, Int.natAbs_mul, Int.natAbs_mul]
        exact Nat.le_mul_of_pos_left _ r1
      refine root_le m.natAbs 4200000000 1990000 1979500 ?_ (by decide) (by decide)
      generalize m.natAbs = p at *
      omega
  have z033 := num_true f033 _ H033 _ _ q033 u033 (na_le (nmul_le (nmul_le m2 m2) m2) (nmul_le (nmul_le k6 a2) (nmul_le b2 m2))) (by decide)
  exact ⟨z411, z321, z312, z231, z222, z213, z141, z132, z123, z114, z051, z042, z033, z024, z015⟩
theorem cu3 (X Y W : Nat → Int) (hX : bx7 X) (hY : bx7 Y) (hW : bx7 W) (hD : qD X ≠ 0) (c e0 e1 g1 e2 m h H411 H330 H321 H312 H303 H240 H231 H222 H213 H204 H150 H141 H132 H123 H114 H105 H060 H051 H042 H033 H024 H015 H006 : Int) (t600 : tT600 X Y W = 27 * c * (e0 * e0 * e0)) (t510 : tT510 X Y W = 27 * c * (3 * (e0 * e0) * e1)) (t501 : tT501 X Y W = 27 * c * (3 * (e0 * e0) * g1)) (t420 : tT420 X Y W = 27 * c * (3 * (e0 * e0) * e2 + 3 * e0 * (e1 * e1))) (t411 : tT411 X Y W = 27 * c * (3 * (e0 * e0) * m + 6 * e0 * (e1 * g1) + 18446744073709551616 * H411)) (t402 : tT402 X Y W = 27 * c * (3 * (e0 * e0) * h + 3 * e0 * (g1 * g1))) (t330 : tT330 X Y W = 27 * c * (6 * e0 * (e1 * e2) + e1 * e1 * e1 + 18446744073709551616 * H330)) (t321 : tT321 X Y W = 27 * c * (6 * (e0 * m) * e1 + (3 * (e1 * e1) * g1 + 6 * e0 * (e2 * g1)) + 18446744073709551616 * H321)) (t312 : tT312 X Y W = 27 * c * (6 * (e0 * m) * g1 + (3 * (g1 * g1) * e1 + 6 * e0 * (h * e1)) + 18446744073709551616 * H312)) (t303 : tT303 X Y W = 27 * c * (6 * e0 * (g1 * h) + g1 * g1 * g1 + 18446744073709551616 * H303)) (t240 : tT240 X Y W = 27 * c * (3 * e0 * (e2 * e2) + 3 * (e1 * e1) * e2 + 18446744073709551616 * H240)) (t231 : tT231 X Y W = 27 * c * (6 * (e0 * m) * e2 + (3 * (e1 * e1) * m + 6 * e1 * (e2 * g1)) + 18446744073709551616 * H231)) (t222 : tT222 X Y W = 27 * c * (3 * (e0 * m) * m + (6 * e0 * (e2 * h) + (6 * e1 * (g1 * m) + (3 * (e1 * e1) * h + 3 * (g1 * g1) * e2))) + 18446744073709551616 * H222)) (t213 : tT213 X Y W = 27 * c * (6 * (e0 * m) * h + (3 * (g1 * g1) * m + 6 * g1 * (h * e1)) + 18446744073709551616 * H213)) (t204 : tT204 X Y W = 27 * c * (3 * e0 * (h * h) + 3 * (g1 * g1) * h + 18446744073709551616 * H204)) (t150 : tT150 X Y W = 27 * c * (3 * e1 * (e2 * e2) + 18446744073709551616 * H150)) (t141 : tT141 X Y W = 27 * c * (6 * e1 * (e2 * m) + 3 * (e2 * e2) * g1 + 18446744073709551616 * H141)) (t132 : tT132 X Y W = 27 * c * (3 * e1 * (m * m) + (6 * e1 * (e2 * h) + 6 * g1 * (e2 * m)) + 18446744073709551616 * H132)) (t123 : tT123 X Y W = 27 * c * (3 * g1 * (m * m) + (6 * g1 * (h * e2) + 6 * e1 * (h * m)) + 18446744073709551616 * H123)) (t114 : tT114 X Y W = 27 * c * (6 * g1 * (h * m) + 3 * (h * h) * e1 + 18446744073709551616 * H114)) (t105 : tT105 X Y W = 27 * c * (3 * g1 * (h * h) + 18446744073709551616 * H105)) (t060 : tT060 X Y W = 27 * c * (e2 * e2 * e2 + 18446744073709551616 * H060)) (t051 : tT051 X Y W = 27 * c * (3 * (e2 * e2) * m + 18446744073709551616 * H051)) (t042 : tT042 X Y W = 27 * c * (3 * e2 * (m * m) + 3 * (e2 * e2) * h + 18446744073709551616 * H042)) (t033 : tT033 X Y W = 27 * c * (m * m * m + 6 * e2 * (h * m) + 18446744073709551616 * H033)) (t024 : tT024 X Y W = 27 * c * (3 * h * (m * m) + 3 * (h * h) * e2 + 18446744073709551616 * H024)) (t015 : tT015 X Y W = 27 * c * (3 * (h * h) * m + 18446744073709551616 * H015)) (t006 : tT006 X Y W = 27 * c * (h * h * h + 18446744073709551616 * H006)) (d411 : (3 * (e0 * e0) * m).natAbs ≤ 2 ^ 63) :
    H411 = 0 ∧ H330 = 0 ∧ H321 = 0 ∧ H312 = 0 ∧ H303 = 0 ∧ H240 = 0 ∧ H231 = 0 ∧ H222 = 0 ∧ H213 = 0 ∧ H204 = 0 ∧ H150 = 0 ∧ H141 = 0 ∧ H132 = 0 ∧ H123 = 0 ∧ H114 = 0 ∧ H105 = 0 ∧ H060 = 0 ∧ H051 = 0 ∧ H042 = 0 ∧ H033 = 0 ∧ H024 = 0 ∧ H015 = 0 ∧ H006 = 0 := by
  obtain ⟨x0, x1, x2, x3, x4, x5, x6⟩ := tT_xy X Y W
  obtain ⟨y0, y1, y2, y3, y4, y5, y6⟩ := tT_xw X Y W
  obtain ⟨z330, z240, z150, z060⟩ := pencil_cu X Y hX hY hD c e0 e1 e2 H330 H240 H150 H060 (by rw [← x0]; exact t600) (by rw [← x1]; exact t510) (by rw [← x2]; exact t420) (by rw [← x3]; exact t330) (by rw [← x4]; exact t240) (by rw [← x5]; exact t150) (by rw [← x6]; exact t060)
  obtain ⟨z303, z204, z105, z006⟩ := pencil_cu X W hX hW hD c e0 g1 h H303 H204 H105 H006 (by rw [← y0]; exact t600) (by rw [← y1]; exact t501) (by rw [← y2]; exact t402) (by rw [← y3]; exact t303) (by rw [← y4]; exact t204) (by rw [← y5]; exact t105) (by rw [← y6]; exact t006)
  subst z330 z240 z150 z060 z303 z204 z105 z006
  simp only [Int.mul_zero, Int.add_zero] at t330 t240 t150 t060 t303 t204 t105 t006
  have q0 : qD X = 27 * c * (e0 * e0 * e0) := by
    have : qG X Y 0 = qD X := by
      unfold qG qD
      rfl
    rw [← this, ← x0]
    exact t600
  have he : e0 ≠ 0 := by
    intro q
    rw [q, Int.mul_zero, Int.mul_zero] at q0
    exact hD q0
  have hcn : c ≠ 0 := by
    intro q
    rw [q, Int.mul_zero, Int.zero_mul] at q0
    exact hD q0
  have he1 : 1 ≤ e0.natAbs := Int.natAbs_pos.mpr he
  have hc1 : 1 ≤ c.natAbs := Int.natAbs_pos.mpr hcn
  clear x0 x1 x2 x3 x4 x5 x6 y0 y1 y2 y3 y4 y5 y6 q0 hD
  have p0 : e0.natAbs ≤ 535 := cu_P e0 (1 * 153174641) 535 (fb_le c _ _ 1 153174641 1 t600 (tT600_le X Y W hX hY hW) hc1 (by decide) (by decide)) (by decide)
  have p2 : e2.natAbs ≤ 535 := cu_P e2 (1 * 153174641) 535 (fb_le c _ _ 1 153174641 1 t060 (tT060_le X Y W hX hY hW) hc1 (by decide) (by decide)) (by decide)
  have ph : h.natAbs ≤ 535 := cu_P h (1 * 153174641) 535 (fb_le c _ _ 1 153174641 1 t006 (tT006_le X Y W hX hY hW) hc1 (by decide) (by decide)) (by decide)
  have p1 : e1.natAbs ≤ 1850 := mid3 e0 e1 e2 _ rfl p0 p2 (fb_le c _ _ 20 153174641 1 t330 (tT330_le X Y W hX hY hW) hc1 (by decide) (by decide))
  have pg : g1.natAbs ≤ 1850 := mid3 e0 g1 h _ rfl p0 ph (fb_le c _ _ 20 153174641 1 t303 (tT303_le X Y W hX hY hW) hc1 (by decide) (by decide))
  obtain ⟨w411, w321, w312, w231, w222, w213, w141, w132, w123, w114, w051, w042, w033, w024, w015⟩ := tern3 e0 e1 e2 g1 h m _ _ _ _ _ _ _ _ _ _ _ _ _ _ _ H411 H321 H312 H231 H222 H213 H141 H132 H123 H114 H051 H042 H033 H024 H015 p0 p1 p2 pg ph he1 rfl rfl rfl rfl rfl rfl rfl rfl rfl rfl rfl rfl rfl rfl rfl (fb_le c _ _ 30 153174641 1 t411 (tT411_le X Y W hX hY hW) hc1 (by decide) (by decide)) (fb_le c _ _ 60 153174641 1 t321 (tT321_le X Y W hX hY hW) hc1 (by decide) (by decide)) (fb_le c _ _ 60 153174641 1 t312 (tT312_le X Y W hX hY hW) hc1 (by decide) (by decide)) (fb_le c _ _ 60 153174641 1 t231 (tT231_le X Y W hX hY hW) hc1 (by decide) (by decide)) (fb_le c _ _ 90 153174641 1 t222 (tT222_le X Y W hX hY hW) hc1 (by decide) (by decide)) (fb_le c _ _ 60 153174641 1 t213 (tT213_le X Y W hX hY hW) hc1 (by decide) (by decide)) (fb_le c _ _ 30 153174641 1 t141 (tT141_le X Y W hX hY hW) hc1 (by decide) (by decide)) (fb_le c _ _ 60 153174641 1 t132 (tT132_le X Y W hX hY hW) hc1 (by decide) (by decide)) (fb_le c _ _ 60 153174641 1 t123 (tT123_le X Y W hX hY hW) hc1 (by decide) (by decide)) (fb_le c _ _ 30 153174641 1 t114 (tT114_le X Y W hX hY hW) hc1 (by decide) (by decide)) (fb_le c _ _ 6 153174641 1 t051 (tT051_le X Y W hX hY hW) hc1 (by decide) (by decide)) (fb_le c _ _ 15 153174641 1 t042 (tT042_le X Y W hX hY hW) hc1 (by decide) (by decide)) (fb_le c _ _ 20 153174641 1 t033 (tT033_le X Y W hX hY hW) hc1 (by decide) (by decide)) (fb_le c _ _ 15 153174641 1 t024 (tT024_le X Y W hX hY hW) hc1 (by decide) (by decide)) (fb_le c _ _ 6 153174641 1 t015 (tT015_le X Y W hX hY hW) hc1 (by decide) (by decide)) d411
  exact ⟨w411, rfl, w321, w312, rfl, rfl, w231, w222, w213, rfl, rfl, w141, w132, w123, w114, rfl, rfl, w051, w042, w033, w024, w015, rfl⟩
