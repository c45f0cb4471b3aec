/-! THE CUBE, lead x^3 y^3, the second quartic with a double root -/
theorem p_1 (K a e g h A N : Int) (hp : a * g = A * e) (hN : K * (3 * (e * e) * h) = N) : 3 * (a * (K * (e * (g * h)))) = A * N := by
  have e1 : 3 * (a * (K * (e * (g * h)))) = 3 * (K * (e * ((a * g) * h))) := by clear hp hN; grind
  rw [e1, hp, ← hN]
  clear hp hN e1
  grind
theorem p_2 (K a e g m h A B N : Int) (hp : a * g = A * e) (hq : a * m = B * e) (hN : K * (3 * (e * e) * h) = N) : 3 * (a * a * (K * (g * (m * h)))) = A * (B * N) := by
  have e1 : 3 * (a * a * (K * (g * (m * h)))) = 3 * (K * ((a * g) * ((a * m) * h))) := by clear hp hq hN; grind
  rw [e1, hp, hq, ← hN]
  clear hp hq hN e1
  grind
theorem p_3 (K a e h N : Int) (hK : K * (e * (e * e)) = 4 * (a * (a * a))) (hN : K * (3 * (e * e) * h) = N) : 36 * (a * (a * a) * (K * (e * (h * h)))) = N * N := by
  have e1 : N * N = 9 * (K * (e * (e * e))) * (K * (e * (h * h))) := by
    rw [← hN]
    clear hN hK
    grind
  rw [e1, hK]
  clear hN hK e1
  grind
theorem p_4 (K a e g h A N : Int) (hp : a * g = A * e) (h3 : 36 * (a * (a * a) * (K * (e * (h * h)))) = N * N) : 36 * (a * (a * (a * a)) * (K * (g * (h * h)))) = A * (N * N) := by
  have e1 : 36 * (a * (a * (a * a)) * (K * (g * (h * h)))) = 36 * (a * (a * a) * (K * ((a * g) * (h * h)))) := by clear hp h3; grind
  rw [e1, hp, ← h3]
  clear hp h3 e1
  grind
theorem p_5 (K a e h N : Int) (hK : K * (e * (e * e)) = 4 * (a * (a * a))) (hN : K * (3 * (e * e) * h) = N) : 1728 * (a * (a * (a * (a * (a * a)))) * (K * (h * (h * h)))) = 4 * (N * (N * N)) := by
  have e1 : N * (N * N) = 27 * ((K * (e * (e * e))) * (K * (e * (e * e)))) * (K * (h * (h * h))) := by
    rw [← hN]
    clear hN hK
    grind
  rw [e1, hK]
  clear hN hK e1
  grind
theorem p_q (a j i b : Int) (hb : b.natAbs ≤ 46991) (hi : i.natAbs ≤ 784) (ha : a ≠ 0) (h : 24 * (a * (a * a)) * b - 24 * (a * a) * (i * j) + j * (j * j) = 0) : j.natAbs ≤ 163 * a.natAbs := by
  rcases Nat.lt_or_ge (163 * a.natAbs) j.natAbs with r | r
  · exfalso
    have e1 : j * (j * j) = 24 * (a * a) * (i * j - a * b) := by
      clear r
      grind
    have e2 := congrArg Int.natAbs e1
    rw [Int.natAbs_mul, Int.natAbs_mul, Int.natAbs_mul (24 * (a * a)), Int.natAbs_mul 24, Int.natAbs_mul a a] at e2
    have e3 : (i * j - a * b).natAbs ≤ 784 * j.natAbs + a.natAbs * 46991 := ns_le (nmul_le hi (Nat.le_refl _)) (nmul_le (Nat.le_refl _) hb)
    have ha1 : 1 ≤ a.natAbs := Int.natAbs_pos.mpr ha
    have e4 : (24 : Int).natAbs = 24 := rfl
    rw [e4] at e2
    generalize (i * j - a * b).natAbs = d at *
    generalize j.natAbs = x at *
    generalize a.natAbs = y at *
    have r1 : 163 * y ≤ x := by omega
    have e5 : d ≤ 1073 * x := by omega
    have e6 : x * (x * x) ≤ x * (25752 * (y * y)) := by
      rw [e2]
      have : 24 * (y * y) * d ≤ 24 * (y * y) * (1073 * x) := Nat.mul_le_mul (Nat.le_refl _) e5
      refine Nat.le_trans this (Nat.le_of_eq ?_)
      clear this e2
      grind
    have e7 : x * x ≤ 25752 * (y * y) := Nat.le_of_mul_le_mul_left e6 (by omega)
    have e8 : 163 * y * (163 * y) ≤ x * x := Nat.mul_le_mul r1 r1
    have e9 : 163 * y * (163 * y) = 26569 * (y * y) := by
      clear e2 e6 e7 e8
      grind
    have e10 : 0 < y * y := Nat.mul_pos ha1 ha1
    omega
  · exact r
theorem cuB2 (c e1 g1 m h a0 a1 j1 j2 ia ib b2 b1 b0 T213 T204 T132 T123 T114 T105 T042 T033 T024 T015 T006 H213 H204 H132 H123 H114 H105 H042 H033 H024 H015 H006 : Int) (hc : c ≠ 0) (ha : a0 ≠ 0) (ha3 : 3 ≤ a0.natAbs) (hK : 27 * c * (e1 * (e1 * e1)) = 4 * (a0 * (a0 * a0))) (pg : a0 * g1 = a1 * e1) (pm : a0 * m = ia * e1) (ph : 27 * c * (3 * (e1 * e1) * h) = 12 * (a0 * (a0 * ib)) - j1 * j1)
    (t213 : T213 = 27 * c * (3 * (g1 * (g1 * m)) + 6 * (e1 * (g1 * h)) + 18446744073709551616 * H213)) (t204 : T204 = 27 * c * (3 * (g1 * (g1 * h)) + 18446744073709551616 * H204)) (t132 : T132 = 27 * c * (3 * (e1 * (m * m)) + 18446744073709551616 * H132)) (t123 : T123 = 27 * c * (3 * (g1 * (m * m)) + 6 * (e1 * (m * h)) + 18446744073709551616 * H123)) (t114 : T114 = 27 * c * (6 * (g1 * (m * h)) + 3 * (e1 * (h * h)) + 18446744073709551616 * H114)) (t105 : T105 = 27 * c * (3 * (g1 * (h * h)) + 18446744073709551616 * H105)) (t042 : T042 = 27 * c * (0 + 18446744073709551616 * H042)) (t033 : T033 = 27 * c * (m * (m * m) + 18446744073709551616 * H033)) (t024 : T024 = 27 * c * (3 * (m * (m * h)) + 18446744073709551616 * H024)) (t015 : T015 = 27 * c * (3 * (m * (h * h)) + 18446744073709551616 * H015)) (t006 : T006 = 27 * c * (h * (h * h) + 18446744073709551616 * H006))
    (u213 : T213 = 24 * (a0 * (a1 * ib)) + 12 * (a1 * (a1 * ia)) - 2 * (j1 * j2)) (u204 : T204 = 12 * (a1 * (a1 * ib)) - j2 * j2) (u132 : T132 = 12 * (a0 * (ia * ia)) - 2 * (j1 * b2)) (u123 : T123 = 24 * (a0 * (ia * ib)) + 12 * (a1 * (ia * ia)) - 2 * (j2 * b2) - 2 * (j1 * b1)) (u114 : T114 = 12 * (a0 * (ib * ib)) + 24 * (a1 * (ia * ib)) - 2 * (j2 * b1) - 2 * (j1 * b0)) (u105 : T105 = 12 * (a1 * (ib * ib)) - 2 * (j2 * b0)) (u042 : T042 = -(b2 * b2)) (u033 : T033 = 4 * (ia * (ia * ia)) - 2 * (b2 * b1)) (u024 : T024 = 12 * (ia * (ia * ib)) - 2 * (b2 * b0) - b1 * b1) (u015 : T015 = 12 * (ia * (ib * ib)) - 2 * (b1 * b0)) (u006 : T006 = 4 * (ib * (ib * ib)) - b0 * b0)
    (Ba0 : a0.natAbs ≤ 1568) (Ba1 : a1.natAbs ≤ 1568) (Bia : ia.natAbs ≤ 1568) (Bib : ib.natAbs ≤ 784) (Bj1 : j1.natAbs ≤ 281946) (Bj2 : j2.natAbs ≤ 140973) (Bb2 : b2.natAbs ≤ 140973) (Bb1 : b1.natAbs ≤ 140973) (Bb0 : b0.natAbs ≤ 46991) :
    H213 = 0 ∧ H204 = 0 ∧ H132 = 0 ∧ H123 = 0 ∧ H114 = 0 ∧ H105 = 0 ∧ H042 = 0 ∧ H033 = 0 ∧ H024 = 0 ∧ H015 = 0 ∧ H006 = 0 := by
  have hK27 : 27 ≤ (27 * c).natAbs := by
    rw [Int.natAbs_mul]
    exact Nat.le_mul_of_pos_right 27 (Int.natAbs_pos.mpr hc)
  generalize 27 * c = K at *
  have p1 : a0 * e1 = a0 * e1 := rfl
  have cc := fun (u v w U V W : Int) => c_cc K e1 a0 u v w U V W ha hK
  have sqz : ∀ x : Int, -(x * x) = 0 → x = 0 := by
    intro x hx
    have : x * x = 0 := by omega
    rcases Int.mul_eq_zero.mp this with r | r
    · exact r
    · exact r
  have one : (498062089990157893632 : Nat) * (1 : Int).natAbs = 498062089990157893632 := rfl
  -- b2
  obtain ⟨w042, r042⟩ := d_mul K _ H042 T042 1 0 (-(b2 * b2)) (140973 * 140973) (by decide) hK27 t042 (by rw [Int.mul_zero, Int.mul_zero]) (by rw [u042]; omega) (by rw [Int.natAbs_neg]; exact nmul_le Bb2 Bb2) (by decide)
  have b20 := sqz b2 r042
  subst b20
  have w132 := (d_mul K _ H132 T132 1 _ 0 0 (by decide) hK27 t132 rfl (by
    have := cc e1 m m a0 ia ia p1 pm pm
    have e : K * (3 * (e1 * (m * m))) = 3 * (K * (e1 * (m * m))) := by clear t213 t204 t132 t123 t114 t105 t042 t033 t024 t015 t006 u213 u204 u132 u123 u114 u105 u042 u033 u024 u015 u006 hK pg pm ph this; grind
    rw [e, this, u132]
    clear t213 t204 t132 t123 t114 t105 t042 t033 t024 t015 t006 u213 u204 u132 u123 u114 u105 u042 u033 u024 u015 u006 hK pg pm ph this e
    grind) (by decide) (by decide)).1
  have w033 := (d_mul K _ H033 T033 1 _ 0 0 (by decide) hK27 t033 rfl (by
    have := cc m m m ia ia ia pm pm pm
    rw [this, u033]
    clear t213 t204 t132 t123 t114 t105 t042 t033 t024 t015 t006 u213 u204 u132 u123 u114 u105 u042 u033 u024 u015 u006 hK pg pm ph this
    grind) (by decide) (by decide)).1
  have na2 : (498062089990157893632 : Nat) ≤ 498062089990157893632 * (a0 * a0).natAbs := Nat.le_mul_of_pos_right _ (Int.natAbs_pos.mpr (Int.mul_ne_zero ha ha))
  have na1 : (498062089990157893632 : Nat) ≤ 498062089990157893632 * a0.natAbs := Nat.le_mul_of_pos_right _ (Int.natAbs_pos.mpr ha)
  -- j2, b1
  obtain ⟨w204, r204⟩ := d_mul K _ H204 T204 (a0 * a0) (a1 * (a1 * (12 * (a0 * (a0 * ib)) - j1 * j1))) (a1 * j1 * (a1 * j1) - a0 * j2 * (a0 * j2)) (1568 * 281946 * (1568 * 281946) + 1568 * 140973 * (1568 * 140973)) (Int.mul_ne_zero ha ha) hK27 t204 (by
      rw [← p_2 K a0 e1 g1 g1 h a1 a1 _ pg pg ph]
      clear t213 t204 t132 t123 t114 t105 t042 t033 t024 t015 t006 u213 u204 u132 u123 u114 u105 u042 u033 u024 u015 u006 hK pg pm ph
      grind) (by
      rw [u204]
      clear t213 t204 t132 t123 t114 t105 t042 t033 t024 t015 t006 u213 u204 u132 u123 u114 u105 u042 u033 u024 u015 u006 hK pg pm ph
      grind) (ns_le (nmul_le (nmul_le Ba1 Bj1) (nmul_le Ba1 Bj1)) (nmul_le (nmul_le Ba0 Bj2) (nmul_le Ba0 Bj2))) (Nat.lt_of_lt_of_le (by decide) na2)
  obtain ⟨w024, r024⟩ := d_mul K _ H024 T024 (a0 * a0) (ia * (ia * (12 * (a0 * (a0 * ib)) - j1 * j1))) (ia * j1 * (ia * j1) - a0 * b1 * (a0 * b1)) (1568 * 281946 * (1568 * 281946) + 1568 * 140973 * (1568 * 140973)) (Int.mul_ne_zero ha ha) hK27 t024 (by
      rw [← p_2 K a0 e1 m m h ia ia _ pm pm ph]
      clear t213 t204 t132 t123 t114 t105 t042 t033 t024 t015 t006 u213 u204 u132 u123 u114 u105 u042 u033 u024 u015 u006 hK pg pm ph
      grind) (by
      rw [u024]
      clear t213 t204 t132 t123 t114 t105 t042 t033 t024 t015 t006 u213 u204 u132 u123 u114 u105 u042 u033 u024 u015 u006 hK pg pm ph
      grind) (ns_le (nmul_le (nmul_le Bia Bj1) (nmul_le Bia Bj1)) (nmul_le (nmul_le Ba0 Bb1) (nmul_le Ba0 Bb1))) (Nat.lt_of_lt_of_le (by decide) na2)
  obtain ⟨w213, r213⟩ := d_mul K _ H213 T213 a0 (12 * (a0 * (a1 * (a1 * ia))) + 2 * (a1 * (12 * (a0 * (a0 * ib)) - j1 * j1))) (2 * (j1 * (a1 * j1 - a0 * j2))) (2 * (281946 * (1568 * 281946 + 1568 * 140973))) ha hK27 t213 (by
      rw [← p_1 K a0 e1 g1 h a1 _ pg ph]
      have q := cc g1 g1 m a1 a1 ia pg pg pm
      have e : a0 * (K * (3 * (g1 * (g1 * m)) + 6 * (e1 * (g1 * h)))) = 3 * (a0 * (K * (g1 * (g1 * m)))) + 2 * (3 * (a0 * (K * (e1 * (g1 * h))))) := by
        clear t213 t204 t132 t123 t114 t105 t042 t033 t024 t015 t006 u213 u204 u132 u123 u114 u105 u042 u033 u024 u015 u006 hK pg pm ph q
        grind
      rw [e, q]
      clear t213 t204 t132 t123 t114 t105 t042 t033 t024 t015 t006 u213 u204 u132 u123 u114 u105 u042 u033 u024 u015 u006 hK pg pm ph q e
      grind) (by
      rw [u213]
      clear t213 t204 t132 t123 t114 t105 t042 t033 t024 t015 t006 u213 u204 u132 u123 u114 u105 u042 u033 u024 u015 u006 hK pg pm ph
      grind) (nmul_le k2 (nmul_le Bj1 (ns_le (nmul_le Ba1 Bj1) (nmul_le Ba0 Bj2)))) (Nat.lt_of_lt_of_le (by decide) na1)
  obtain ⟨w123, r123⟩ := d_mul K _ H123 T123 a0 (12 * (a0 * (a1 * (ia * ia))) + 2 * (ia * (12 * (a0 * (a0 * ib)) - j1 * j1))) (2 * (j1 * (ia * j1 - a0 * b1))) (2 * (281946 * (1568 * 281946 + 1568 * 140973))) ha hK27 t123 (by
      rw [← p_1 K a0 e1 m h ia _ pm ph]
      have q := cc g1 m m a1 ia ia pg pm pm
      have e : a0 * (K * (3 * (g1 * (m * m)) + 6 * (e1 * (m * h)))) = 3 * (a0 * (K * (g1 * (m * m)))) + 2 * (3 * (a0 * (K * (e1 * (m * h))))) := by
        clear t213 t204 t132 t123 t114 t105 t042 t033 t024 t015 t006 u213 u204 u132 u123 u114 u105 u042 u033 u024 u015 u006 hK pg pm ph q
        grind
      rw [e, q]
      clear t213 t204 t132 t123 t114 t105 t042 t033 t024 t015 t006 u213 u204 u132 u123 u114 u105 u042 u033 u024 u015 u006 hK pg pm ph q e
      grind) (by
      rw [u123]
      clear t213 t204 t132 t123 t114 t105 t042 t033 t024 t015 t006 u213 u204 u132 u123 u114 u105 u042 u033 u024 u015 u006 hK pg pm ph
      grind) (nmul_le k2 (nmul_le Bj1 (ns_le (nmul_le Bia Bj1) (nmul_le Ba0 Bb1)))) (Nat.lt_of_lt_of_le (by decide) na1)
  refine ⟨w213, w204, w132, w123, ?_⟩
  clear t213 t204 t132 t123 t042 t033 t024 u213 u204 u132 u123 u042 u033 u024
  by_cases jz : j1 = 0
  · subst jz
    have q0 : ∀ x : Int, 0 - a0 * x * (a0 * x) = 0 → x = 0 := by
      intro x hx
      have : a0 * x = 0 := sqz _ (by omega)
      exact (Int.mul_eq_zero.mp this).resolve_left ha
    have j20 : j2 = 0 := q0 j2 (by rw [Int.mul_zero, Int.zero_mul] at r204; exact r204)
    have b10 : b1 = 0 := q0 b1 (by rw [Int.mul_zero, Int.zero_mul] at r024; exact r024)
    subst j20 b10
    have pH := c_dig K e1 a0 h ib ha hK (by rw [ph]; omega)
    have w114 := (d_mul K _ H114 T114 1 _ 0 0 (by decide) hK27 t114 rfl (by
      have q1 := cc g1 m h a1 ia ib pg pm pH
      have q2 := cc e1 h h a0 ib ib p1 pH pH
      have e : K * (6 * (g1 * (m * h)) + 3 * (e1 * (h * h))) = 6 * (K * (g1 * (m * h))) + 3 * (K * (e1 * (h * h))) := by
        clear t114 t105 t015 t006 u114 u105 u015 u006 hK pg pm ph pH q1 q2 r204 r024 r213 r123 q0
        grind
      rw [e, q1, q2, u114]
      clear t114 t105 t015 t006 u114 u105 u015 u006 hK pg pm ph pH q1 q2 e r204 r024 r213 r123 q0
      grind) (by decide) (by decide)).1
    have w105 := (d_mul K _ H105 T105 1 _ 0 0 (by decide) hK27 t105 rfl (by
      have q1 := cc g1 h h a1 ib ib pg pH pH
      have e : K * (3 * (g1 * (h * h))) = 3 * (K * (g1 * (h * h))) := by
        clear t114 t105 t015 t006 u114 u105 u015 u006 hK pg pm ph pH q1 r204 r024 r213 r123 q0
        grind
      rw [e, q1, u105]
      clear t114 t105 t015 t006 u114 u105 u015 u006 hK pg pm ph pH q1 e r204 r024 r213 r123 q0
      grind) (by decide) (by decide)).1
    have w015 := (d_mul K _ H015 T015 1 _ 0 0 (by decide) hK27 t015 rfl (by
      have q1 := cc m h h ia ib ib pm pH pH
      have e : K * (3 * (m * (h * h))) = 3 * (K * (m * (h * h))) := by
        clear t114 t105 t015 t006 u114 u105 u015 u006 hK pg pm ph pH q1 r204 r024 r213 r123 q0
        grind
      rw [e, q1, u015]
      clear t114 t105 t015 t006 u114 u105 u015 u006 hK pg pm ph pH q1 e r204 r024 r213 r123 q0
      grind) (by decide) (by decide)).1
    have w006 := (d_mul K _ H006 T006 1 _ (-(b0 * b0)) (46991 * 46991) (by decide) hK27 t006 rfl (by
      have q1 := cc h h h ib ib ib pH pH pH
      rw [q1, u006]
      omega) (by rw [Int.natAbs_neg]; exact nmul_le Bb0 Bb0) (by decide)).1
    exact ⟨w114, w105, w042, w033, w024, w015, w006⟩
  · have k2' : (2 : Int) ≠ 0 := by decide
    have y1 : a0 * j2 = a1 * j1 := by
      have t := (Int.mul_eq_zero.mp ((Int.mul_eq_zero.mp r213).resolve_left k2')).resolve_left jz
      omega
    have y2 : a0 * b1 = ia * j1 := by
      have t := (Int.mul_eq_zero.mp ((Int.mul_eq_zero.mp r123).resolve_left k2')).resolve_left jz
      omega
    clear r204 r024 r213 r123
    have q3 := p_3 K a0 e1 h _ hK ph
    have na3 : 484000000000000000000000 ≤ 498062089990157893632 * (36 * (a0 * (a0 * a0))).natAbs := by
      rw [Int.natAbs_mul, Int.natAbs_mul, Int.natAbs_mul]
      have : 27 ≤ a0.natAbs * (a0.natAbs * a0.natAbs) := Nat.mul_le_mul ha3 (Nat.mul_le_mul ha3 ha3)
      have t36 : (36 : Int).natAbs = 36 := rfl
      rw [t36]
      have : 498062089990157893632 * (36 * 27) ≤ 498062089990157893632 * (36 * (a0.natAbs * (a0.natAbs * a0.natAbs))) := Nat.mul_le_mul (Nat.le_refl _) (Nat.mul_le_mul (Nat.le_refl _) this)
      exact Nat.le_trans (by decide) this
    obtain ⟨w114, r114⟩ := d_mul K _ H114 T114 (36 * (a0 * (a0 * a0))) (72 * (a0 * (a1 * (ia * (12 * (a0 * (a0 * ib)) - j1 * j1)))) + 3 * ((12 * (a0 * (a0 * ib)) - j1 * j1) * (12 * (a0 * (a0 * ib)) - j1 * j1))) (-3 * (j1 * (24 * (a0 * (a0 * a0)) * b0 - 24 * (a0 * a0) * (ib * j1) + j1 * (j1 * j1)))) (3 * (281946 * (24 * (1568 * (1568 * 1568)) * 46991 + 24 * (1568 * 1568) * (784 * 281946) + 281946 * (281946 * 281946)))) (Int.mul_ne_zero (by decide) (Int.mul_ne_zero ha (Int.mul_ne_zero ha ha))) hK27 t114 (by
        have q2 := p_2 K a0 e1 g1 m h a1 ia _ pg pm ph
        rw [← q2, ← q3]
        clear t114 t105 t015 t006 u114 u105 u015 u006 hK pg pm ph q2 q3 y1 y2 na3
        grind) (by
        rw [u114]
        have e : 72 * (a0 * (a0 * a0)) * (j2 * b1) = 72 * (a0 * ((a0 * j2) * (a0 * b1))) := by
          clear t114 t105 t015 t006 u114 u105 u015 u006 hK pg pm ph q3 y1 y2 na3
          grind
        rw [y1, y2] at e
        clear t114 t105 t015 t006 u114 u105 u015 u006 hK pg pm ph q3 y1 y2 na3
        grind) (nmul_le (show (-3 : Int).natAbs ≤ 3 by decide) (nmul_le Bj1 (na_le (ns_le (nmul_le (nmul_le k24 (nmul_le Ba0 (nmul_le Ba0 Ba0))) Bb0) (nmul_le (nmul_le k24 (nmul_le Ba0 Ba0)) (nmul_le Bib Bj1))) (nmul_le Bj1 (nmul_le Bj1 Bj1))))) (Nat.lt_of_lt_of_le (by decide) na3)
    have z := (Int.mul_eq_zero.mp ((Int.mul_eq_zero.mp r114).resolve_left (by decide))).resolve_left jz
    have jq := p_q a0 j1 ib b0 Bb0 Bib ha z
    have a4 : a0 * (a0 * (a0 * a0)) ≠ 0 := Int.mul_ne_zero ha (Int.mul_ne_zero ha (Int.mul_ne_zero ha ha))
    have na4 : 0 < 498062089990157893632 * (36 * (a0 * (a0 * (a0 * a0)))).natAbs := Nat.mul_pos (by decide) (Int.natAbs_pos.mpr (Int.mul_ne_zero (by decide) a4))
    have zz : ∀ (A x : Int), a0 * x = A * j1 → 36 * (a0 * (a0 * (a0 * a0))) * (12 * (A * (ib * ib)) - 2 * (x * b0)) = 3 * (A * ((12 * (a0 * (a0 * ib)) - j1 * j1) * (12 * (a0 * (a0 * ib)) - j1 * j1))) + 0 := by
      intro A x hx
      have e : 72 * (a0 * (a0 * (a0 * a0))) * (x * b0) = 72 * (a0 * (a0 * a0)) * ((a0 * x) * b0) := by
        clear t114 t105 t015 t006 u114 u105 u015 u006 hK pg pm ph q3 y1 y2 na3 z r114 hx
        grind
      rw [hx] at e
      have f : A * (-3 * (j1 * (24 * (a0 * (a0 * a0)) * b0 - 24 * (a0 * a0) * (ib * j1) + j1 * (j1 * j1)))) = 0 := by
        rw [z, Int.mul_zero, Int.mul_zero, Int.mul_zero]
      clear t114 t105 t015 t006 u114 u105 u015 u006 hK pg pm ph q3 y1 y2 na3 z r114 hx
      grind
    have w105 := (d_mul K _ H105 T105 (36 * (a0 * (a0 * (a0 * a0)))) (3 * (a1 * ((12 * (a0 * (a0 * ib)) - j1 * j1) * (12 * (a0 * (a0 * ib)) - j1 * j1)))) 0 0 (Int.mul_ne_zero (by decide) a4) hK27 t105 (by
      rw [← p_4 K a0 e1 g1 h a1 _ pg q3]
      clear t114 t105 t015 t006 u114 u105 u015 u006 hK pg pm ph q3 y1 y2 na3 z r114 zz
      grind) (by rw [u105]; exact zz a1 j2 y1) (by decide) na4).1
    have w015 := (d_mul K _ H015 T015 (36 * (a0 * (a0 * (a0 * a0)))) (3 * (ia * ((12 * (a0 * (a0 * ib)) - j1 * j1) * (12 * (a0 * (a0 * ib)) - j1 * j1)))) 0 0 (Int.mul_ne_zero (by decide) a4) hK27 t015 (by
      rw [← p_4 K a0 e1 m h ia _ pm q3]
      clear t114 t105 t015 t006 u114 u105 u015 u006 hK pg pm ph q3 y1 y2 na3 z r114 zz
      grind) (by rw [u015]; exact zz ia b1 y2) (by decide) na4).1
    have a6 : a0 * (a0 * (a0 * (a0 * (a0 * a0)))) ≠ 0 := Int.mul_ne_zero ha (Int.mul_ne_zero ha a4)
    have w006 := (d_mul K _ H006 T006 (1728 * (a0 * (a0 * (a0 * (a0 * (a0 * a0)))))) (4 * ((12 * (a0 * (a0 * ib)) - j1 * j1) * ((12 * (a0 * (a0 * ib)) - j1 * j1) * (12 * (a0 * (a0 * ib)) - j1 * j1)))) (j1 * (j1 * (j1 * (j1 * (j1 * j1))))) (163 * a0.natAbs * (163 * a0.natAbs * (163 * a0.natAbs * (163 * a0.natAbs * (163 * a0.natAbs * (163 * a0.natAbs)))))) (Int.mul_ne_zero (by decide) a6) hK27 t006 (by
      rw [← p_5 K a0 e1 h _ hK ph]
      clear t114 t105 t015 t006 u114 u105 u015 u006 hK pg pm ph q3 y1 y2 na3 z r114 zz
      grind) (by
      rw [u006]
      have e : 24 * (a0 * (a0 * a0)) * b0 = 24 * (a0 * a0) * (ib * j1) - j1 * (j1 * j1) := by omega
      have e2 : 1728 * (a0 * (a0 * (a0 * (a0 * (a0 * a0))))) * (b0 * b0) = 3 * ((24 * (a0 * (a0 * a0)) * b0) * (24 * (a0 * (a0 * a0)) * b0)) := by
        clear t114 t105 t015 t006 u114 u105 u015 u006 hK pg pm ph q3 y1 y2 na3 z r114 zz e
        grind
      rw [e] at e2
      clear t114 t105 t015 t006 u114 u105 u015 u006 hK pg pm ph q3 y1 y2 na3 z r114 zz e
      grind) (nmul_le jq (nmul_le jq (nmul_le jq (nmul_le jq (nmul_le jq jq))))) (by
      have e : (1728 * (a0 * (a0 * (a0 * (a0 * (a0 * a0)))))).natAbs = 1728 * (a0.natAbs * (a0.natAbs * (a0.natAbs * (a0.natAbs * (a0.natAbs * a0.natAbs))))) := by
        simp only [Int.natAbs_mul]
        rfl
      rw [e]
      have hz : 0 < a0.natAbs * (a0.natAbs * (a0.natAbs * (a0.natAbs * (a0.natAbs * a0.natAbs)))) := by
        have := Int.natAbs_pos.mpr a6
        simp only [Int.natAbs_mul] at this
        exact this
      generalize a0.natAbs = y at *
      have e3 : 163 * y * (163 * y * (163 * y * (163 * y * (163 * y * (163 * y))))) = 18755369578009 * (y * (y * (y * (y * (y * y))))) := by
        clear hz
        grind
      rw [e3]
      have e4 : 498062089990157893632 * (1728 * (y * (y * (y * (y * (y * y)))))) = 860651291502992840196096 * (y * (y * (y * (y * (y * y))))) := by
        clear hz e3
        grind
      rw [e4]
      exact Nat.mul_lt_mul_of_pos_right (by decide) hz)).1
    exact ⟨w114, w105, w042, w033, w024, w015, w006⟩
