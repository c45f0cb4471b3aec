/-! THE LINES: sixth, fifth and fourth powers -/
theorem l_sq (p q b : Nat) (u v : Nat) (hu : 1 ≤ u) (h : v * q ≤ b) (hv : p * u = v * v) : p * (q * q) ≤ b * b := by
  have e : p * (q * q) * u = v * q * (v * q) := by
    have : p * (q * q) * u = (p * u) * (q * q) := by grind
    rw [this, hv]
    grind
  have h2 : v * q * (v * q) ≤ b * b := Nat.mul_le_mul h h
  rw [← e] at h2
  exact Nat.le_trans (Nat.le_mul_of_pos_right _ hu) h2
theorem l_root (x : Int) (p n P : Nat) (hp : 1 ≤ p) (h : p * (x.natAbs * x.natAbs) ≤ n) (hP : n < (P + 1) * (P + 1)) : x.natAbs ≤ P := by
  rcases Nat.lt_or_ge P x.natAbs with r | r
  · have r' : P + 1 ≤ x.natAbs := r
    exact absurd (Nat.mul_le_mul r' r') (by have := Nat.le_mul_of_pos_left (x.natAbs * x.natAbs) hp; omega)
  · exact r
theorem l_root3 (x : Int) (p n P : Nat) (hp : 1 ≤ p) (h : p * (x.natAbs * (x.natAbs * x.natAbs)) ≤ n) (hP : n < (P + 1) * ((P + 1) * (P + 1))) : x.natAbs ≤ P := by
  rcases Nat.lt_or_ge P x.natAbs with r | r
  · have r' : P + 1 ≤ x.natAbs := r
    exact absurd (Nat.mul_le_mul r' (Nat.mul_le_mul r' r')) (by have := Nat.le_mul_of_pos_left (x.natAbs * (x.natAbs * x.natAbs)) hp; omega)
  · exact r
theorem l_up (x : Int) (n P : Nat) (h : x.natAbs ≤ P ∨ n < n) : x.natAbs ≤ P := by
  rcases h with h | h
  · exact h
  · omega
theorem l_four (g H : Int) (f : (6 * (g * g) + 18446744073709551616 * H).natAbs ≤ 90 * 153174641) (gb : g.natAbs ≤ 2297619615) (ex : g = 1753413056 ∨ g = -1753413056 → False) : H = 0 := by
  have a1 : (g * g).natAbs ≤ 2297619615 * 2297619615 := nmul_le gb gb
  have a2 : 0 ≤ g * g := by
    rcases Int.le_total 0 g with r | r
    · exact Int.mul_nonneg r r
    · have := Int.mul_nonneg (Int.neg_nonneg_of_nonpos r) (Int.neg_nonneg_of_nonpos r)
      rw [Int.neg_mul_neg] at this
      exact this
  have hH : H = 0 ∨ H = -1 := by
    generalize g * g = q at *
    omega
  rcases hH with r | r
  · exact r
  · exfalso
    apply ex
    rw [r] at f
    have b1 : g * g ≤ 3074457347920000000 := by
      generalize g * g = q at *
      omega
    have b2 : 3074457343320000000 ≤ g * g := by
      generalize g * g = q at *
      omega
    have n1 : g.natAbs < 1753413057 := by
      rcases Nat.lt_or_ge g.natAbs 1753413057 with t | t
      · exact t
      · have c1 : 1753413057 * 1753413057 ≤ g.natAbs * g.natAbs := Nat.mul_le_mul t t
        rw [← Int.natAbs_mul] at c1
        generalize g * g = q at *
        omega
    have n2 : 1753413055 < g.natAbs := by
      rcases Nat.lt_or_ge 1753413055 g.natAbs with t | t
      · exact t
      · have c1 : g.natAbs * g.natAbs ≤ 1753413055 * 1753413055 := Nat.mul_le_mul t t
        rw [← Int.natAbs_mul] at c1
        generalize g * g = q at *
        omega
    omega
theorem ln6x (X Y W : Nat → Int) (hX : bx7 X) (hY : bx7 Y) (hW : bx7 W) (c e g h H600 H510 H501 H420 H411 H402 H330 H321 H312 H303 H240 H231 H222 H213 H204 H150 H141 H132 H123 H114 H105 H060 H051 H042 H033 H024 H015 H006 : Int) (hc : c ≠ 0) (he : e ≠ 0) (z600 : H600 = 0) (t600 : tT600 X Y W = 27 * c * (e * (e * (e * (e * (e * e)))) + 18446744073709551616 * H600)) (t510 : tT510 X Y W = 27 * c * (6 * (e * (e * (e * (e * (e * g))))) + 18446744073709551616 * H510)) (t501 : tT501 X Y W = 27 * c * (6 * (e * (e * (e * (e * (e * h))))) + 18446744073709551616 * H501)) (t420 : tT420 X Y W = 27 * c * (15 * (e * (e * (e * (e * (g * g))))) + 18446744073709551616 * H420)) (t411 : tT411 X Y W = 27 * c * (30 * (e * (e * (e * (e * (g * h))))) + 18446744073709551616 * H411)) (t402 : tT402 X Y W = 27 * c * (15 * (e * (e * (e * (e * (h * h))))) + 18446744073709551616 * H402)) (t330 : tT330 X Y W = 27 * c * (20 * (e * (e * (e * (g * (g * g))))) + 18446744073709551616 * H330)) (t321 : tT321 X Y W = 27 * c * (60 * (e * (e * (e * (g * (g * h))))) + 18446744073709551616 * H321)) (t312 : tT312 X Y W = 27 * c * (60 * (e * (e * (e * (g * (h * h))))) + 18446744073709551616 * H312)) (t303 : tT303 X Y W = 27 * c * (20 * (e * (e * (e * (h * (h * h))))) + 18446744073709551616 * H303)) (t240 : tT240 X Y W = 27 * c * (15 * (e * (e * (g * (g * (g * g))))) + 18446744073709551616 * H240)) (t231 : tT231 X Y W = 27 * c * (60 * (e * (e * (g * (g * (g * h))))) + 18446744073709551616 * H231)) (t222 : tT222 X Y W = 27 * c * (90 * (e * (e * (g * (g * (h * h))))) + 18446744073709551616 * H222)) (t213 : tT213 X Y W = 27 * c * (60 * (e * (e * (g * (h * (h * h))))) + 18446744073709551616 * H213)) (t204 : tT204 X Y W = 27 * c * (15 * (e * (e * (h * (h * (h * h))))) + 18446744073709551616 * H204)) (t150 : tT150 X Y W = 27 * c * (6 * (e * (g * (g * (g * (g * g))))) + 18446744073709551616 * H150)) (t141 : tT141 X Y W = 27 * c * (30 * (e * (g * (g * (g * (g * h))))) + 18446744073709551616 * H141)) (t132 : tT132 X Y W = 27 * c * (60 * (e * (g * (g * (g * (h * h))))) + 18446744073709551616 * H132)) (t123 : tT123 X Y W = 27 * c * (60 * (e * (g * (g * (h * (h * h))))) + 18446744073709551616 * H123)) (t114 : tT114 X Y W = 27 * c * (30 * (e * (g * (h * (h * (h * h))))) + 18446744073709551616 * H114)) (t105 : tT105 X Y W = 27 * c * (6 * (e * (h * (h * (h * (h * h))))) + 18446744073709551616 * H105)) (t060 : tT060 X Y W = 27 * c * (g * (g * (g * (g * (g * g)))) + 18446744073709551616 * H060)) (t051 : tT051 X Y W = 27 * c * (6 * (g * (g * (g * (g * (g * h))))) + 18446744073709551616 * H051)) (t042 : tT042 X Y W = 27 * c * (15 * (g * (g * (g * (g * (h * h))))) + 18446744073709551616 * H042)) (t033 : tT033 X Y W = 27 * c * (20 * (g * (g * (g * (h * (h * h))))) + 18446744073709551616 * H033)) (t024 : tT024 X Y W = 27 * c * (15 * (g * (g * (h * (h * (h * h))))) + 18446744073709551616 * H024)) (t015 : tT015 X Y W = 27 * c * (6 * (g * (h * (h * (h * (h * h))))) + 18446744073709551616 * H015)) (t006 : tT006 X Y W = 27 * c * (h * (h * (h * (h * (h * h)))) + 18446744073709551616 * H006)) (dg : (6 * (e * (e * (e * (e * (e * g)))))).natAbs ≤ 9223372036854775808) (dh : (6 * (e * (e * (e * (e * (e * h)))))).natAbs ≤ 9223372036854775808) : H600 = 0 ∧ H510 = 0 ∧ H501 = 0 ∧ H420 = 0 ∧ H411 = 0 ∧ H402 = 0 ∧ H330 = 0 ∧ H321 = 0 ∧ H312 = 0 ∧ H303 = 0 ∧ H240 = 0 ∧ H231 = 0 ∧ H222 = 0 ∧ H213 = 0 ∧ H204 = 0 ∧ H150 = 0 ∧ H141 = 0 ∧ H132 = 0 ∧ H123 = 0 ∧ H114 = 0 ∧ H105 = 0 ∧ H060 = 0 ∧ H051 = 0 ∧ H042 = 0 ∧ H033 = 0 ∧ H024 = 0 ∧ H015 = 0 ∧ H006 = 0 := by
  subst z600
  rw [Int.mul_zero, Int.add_zero] at t600
  have he1 : 1 ≤ e.natAbs := Int.natAbs_pos.mpr he
  have be : e.natAbs ≤ 23 := by
    have f := fb1 c _ _ 1 hc t600 (tT600_le X Y W hX hY hW)
    simp only [Int.natAbs_mul] at f
    rcases Nat.lt_or_ge 23 e.natAbs with q | q
    · exfalso
      have w := Nat.mul_le_mul q (Nat.mul_le_mul q (Nat.mul_le_mul q (Nat.mul_le_mul q (Nat.mul_le_mul q q))))
      have w2 := Nat.le_trans w f
      exact absurd w2 (by decide)
    · exact q
  obtain ⟨z510, qg⟩ := dig3 _ _ 0 H510 _ 0 (by rw [Int.add_zero]) (fb1 c _ _ 6 hc t510 (tT510_le X Y W hX hY hW)) (by decide) dg (by decide)
  have pg : e.natAbs * (e.natAbs * (e.natAbs * (e.natAbs * e.natAbs))) * g.natAbs ≤ 153174641 := by
    simp only [Int.natAbs_mul] at qg
    have t6 : ((6 : Int)).natAbs = 6 := rfl
    rw [t6] at qg
    have e : e.natAbs * (e.natAbs * (e.natAbs * (e.natAbs * (e.natAbs * g.natAbs)))) = e.natAbs * (e.natAbs * (e.natAbs * (e.natAbs * e.natAbs))) * g.natAbs := by
      generalize e.natAbs = p
      generalize g.natAbs = q
      grind
    rw [← e]
    omega
  have sg : e.natAbs * (e.natAbs * (e.natAbs * e.natAbs)) * (g.natAbs * g.natAbs) ≤ 153174641 * 153174641 := l_sq _ _ _ (e.natAbs * (e.natAbs * (e.natAbs * (e.natAbs * (e.natAbs * e.natAbs))))) _ (Nat.mul_pos he1 (Nat.mul_pos he1 (Nat.mul_pos he1 (Nat.mul_pos he1 (Nat.mul_pos he1 he1))))) pg (by generalize e.natAbs = p; grind)
  have z420 : H420 = 0 := by
    refine num_true _ _ H420 _ (15 * (153174641 * 153174641)) rfl (fb1 c _ _ 15 hc t420 (tT420_le X Y W hX hY hW)) ?_ (by decide)
    refine nmul_le (show (15 : Int).natAbs ≤ 15 by decide) ?_
    simp only [Int.natAbs_mul]
    have e : e.natAbs * (e.natAbs * (e.natAbs * (e.natAbs * (g.natAbs * g.natAbs)))) = e.natAbs * (e.natAbs * (e.natAbs * e.natAbs)) * (g.natAbs * g.natAbs) := by
      generalize e.natAbs = p
      generalize g.natAbs = q
      grind
    rw [e]
    exact sg
  have bg : g.natAbs ≤ 12376 := by
    have f := t420
    rw [z420, Int.mul_zero, Int.add_zero] at f
    have f2 := fb1 c _ _ 15 hc f (tT420_le X Y W hX hY hW)
    simp only [Int.natAbs_mul] at f2
    have t6 : ((15 : Int)).natAbs = 15 := rfl
    rw [t6] at f2
    have e : e.natAbs * (e.natAbs * (e.natAbs * (e.natAbs * (g.natAbs * g.natAbs)))) = e.natAbs * (e.natAbs * (e.natAbs * e.natAbs)) * (g.natAbs * g.natAbs) := by
      generalize e.natAbs = p
      generalize g.natAbs = q
      grind
    rw [e] at f2
    exact l_root g _ 153174641 12376 (Nat.mul_pos he1 (Nat.mul_pos he1 (Nat.mul_pos he1 he1))) (by omega) (by decide)
  obtain ⟨z501, qh⟩ := dig3 _ _ 0 H501 _ 0 (by rw [Int.add_zero]) (fb1 c _ _ 6 hc t501 (tT501_le X Y W hX hY hW)) (by decide) dh (by decide)
  have ph : e.natAbs * (e.natAbs * (e.natAbs * (e.natAbs * e.natAbs))) * h.natAbs ≤ 153174641 := by
    simp only [Int.natAbs_mul] at qh
    have t6 : ((6 : Int)).natAbs = 6 := rfl
    rw [t6] at qh
    have e : e.natAbs * (e.natAbs * (e.natAbs * (e.natAbs * (e.natAbs * h.natAbs)))) = e.natAbs * (e.natAbs * (e.natAbs * (e.natAbs * e.natAbs))) * h.natAbs := by
      generalize e.natAbs = p
      generalize h.natAbs = q
      grind
    rw [← e]
    omega
  have sh : e.natAbs * (e.natAbs * (e.natAbs * e.natAbs)) * (h.natAbs * h.natAbs) ≤ 153174641 * 153174641 := l_sq _ _ _ (e.natAbs * (e.natAbs * (e.natAbs * (e.natAbs * (e.natAbs * e.natAbs))))) _ (Nat.mul_pos he1 (Nat.mul_pos he1 (Nat.mul_pos he1 (Nat.mul_pos he1 (Nat.mul_pos he1 he1))))) ph (by generalize e.natAbs = p; grind)
  have z402 : H402 = 0 := by
    refine num_true _ _ H402 _ (15 * (153174641 * 153174641)) rfl (fb1 c _ _ 15 hc t402 (tT402_le X Y W hX hY hW)) ?_ (by decide)
    refine nmul_le (show (15 : Int).natAbs ≤ 15 by decide) ?_
    simp only [Int.natAbs_mul]
    have e : e.natAbs * (e.natAbs * (e.natAbs * (e.natAbs * (h.natAbs * h.natAbs)))) = e.natAbs * (e.natAbs * (e.natAbs * e.natAbs)) * (h.natAbs * h.natAbs) := by
      generalize e.natAbs = p
      generalize h.natAbs = q
      grind
    rw [e]
    exact sh
  have bh : h.natAbs ≤ 12376 := by
    have f := t402
    rw [z402, Int.mul_zero, Int.add_zero] at f
    have f2 := fb1 c _ _ 15 hc f (tT402_le X Y W hX hY hW)
    simp only [Int.natAbs_mul] at f2
    have t6 : ((15 : Int)).natAbs = 15 := rfl
    rw [t6] at f2
    have e : e.natAbs * (e.natAbs * (e.natAbs * (e.natAbs * (h.natAbs * h.natAbs)))) = e.natAbs * (e.natAbs * (e.natAbs * e.natAbs)) * (h.natAbs * h.natAbs) := by
      generalize e.natAbs = p
      generalize h.natAbs = q
      grind
    rw [e] at f2
    exact l_root h _ 153174641 12376 (Nat.mul_pos he1 (Nat.mul_pos he1 (Nat.mul_pos he1 he1))) (by omega) (by decide)
  have z330 : H330 = 0 := num_true _ _ H330 _ _ rfl (fb1 c _ _ 20 hc t330 (tT330_le X Y W hX hY hW)) (nmul_le (show (20 : Int).natAbs ≤ 20 by decide) (nmul_le be (nmul_le be (nmul_le be (nmul_le bg (nmul_le bg bg)))))) (by decide)
  have cg : g.natAbs ≤ 535 := by
    have f := t330
    rw [z330, Int.mul_zero, Int.add_zero] at f
    have f2 := fb1 c _ _ 20 hc f (tT330_le X Y W hX hY hW)
    simp only [Int.natAbs_mul] at f2
    have t6 : ((20 : Int)).natAbs = 20 := rfl
    rw [t6] at f2
    have e : e.natAbs * (e.natAbs * (e.natAbs * (g.natAbs * (g.natAbs * g.natAbs)))) = e.natAbs * (e.natAbs * e.natAbs) * (g.natAbs * (g.natAbs * g.natAbs)) := by
      generalize e.natAbs = p
      generalize g.natAbs = q
      grind
    rw [e] at f2
    exact l_root3 g _ 153174641 535 (Nat.mul_pos he1 (Nat.mul_pos he1 he1)) (by omega) (by decide)
  have z303 : H303 = 0 := num_true _ _ H303 _ _ rfl (fb1 c _ _ 20 hc t303 (tT303_le X Y W hX hY hW)) (nmul_le (show (20 : Int).natAbs ≤ 20 by decide) (nmul_le be (nmul_le be (nmul_le be (nmul_le bh (nmul_le bh bh)))))) (by decide)
  have ch : h.natAbs ≤ 535 := by
    have f := t303
    rw [z303, Int.mul_zero, Int.add_zero] at f
    have f2 := fb1 c _ _ 20 hc f (tT303_le X Y W hX hY hW)
    simp only [Int.natAbs_mul] at f2
    have t6 : ((20 : Int)).natAbs = 20 := rfl
    rw [t6] at f2
    have e : e.natAbs * (e.natAbs * (e.natAbs * (h.natAbs * (h.natAbs * h.natAbs)))) = e.natAbs * (e.natAbs * e.natAbs) * (h.natAbs * (h.natAbs * h.natAbs)) := by
      generalize e.natAbs = p
      generalize h.natAbs = q
      grind
    rw [e] at f2
    exact l_root3 h _ 153174641 535 (Nat.mul_pos he1 (Nat.mul_pos he1 he1)) (by omega) (by decide)
  have z411 : H411 = 0 := num_true _ _ H411 _ _ rfl (fb1 c _ _ 30 hc t411 (tT411_le X Y W hX hY hW)) (nmul_le (show (30 : Int).natAbs ≤ 30 by decide) (nmul_le be (nmul_le be (nmul_le be (nmul_le be (nmul_le cg ch)))))) (by decide)
  have z321 : H321 = 0 := num_true _ _ H321 _ _ rfl (fb1 c _ _ 60 hc t321 (tT321_le X Y W hX hY hW)) (nmul_le (show (60 : Int).natAbs ≤ 60 by decide) (nmul_le be (nmul_le be (nmul_le be (nmul_le cg (nmul_le cg ch)))))) (by decide)
  have z312 : H312 = 0 := num_true _ _ H312 _ _ rfl (fb1 c _ _ 60 hc t312 (tT312_le X Y W hX hY hW)) (nmul_le (show (60 : Int).natAbs ≤ 60 by decide) (nmul_le be (nmul_le be (nmul_le be (nmul_le cg (nmul_le ch ch)))))) (by decide)
  have z240 : H240 = 0 := num_true _ _ H240 _ _ rfl (fb1 c _ _ 15 hc t240 (tT240_le X Y W hX hY hW)) (nmul_le (show (15 : Int).natAbs ≤ 15 by decide) (nmul_le be (nmul_le be (nmul_le cg (nmul_le cg (nmul_le cg cg)))))) (by decide)
  have z231 : H231 = 0 := num_true _ _ H231 _ _ rfl (fb1 c _ _ 60 hc t231 (tT231_le X Y W hX hY hW)) (nmul_le (show (60 : Int).natAbs ≤ 60 by decide) (nmul_le be (nmul_le be (nmul_le cg (nmul_le cg (nmul_le cg ch)))))) (by decide)
  have z222 : H222 = 0 := num_true _ _ H222 _ _ rfl (fb1 c _ _ 90 hc t222 (tT222_le X Y W hX hY hW)) (nmul_le (show (90 : Int).natAbs ≤ 90 by decide) (nmul_le be (nmul_le be (nmul_le cg (nmul_le cg (nmul_le ch ch)))))) (by decide)
  have z213 : H213 = 0 := num_true _ _ H213 _ _ rfl (fb1 c _ _ 60 hc t213 (tT213_le X Y W hX hY hW)) (nmul_le (show (60 : Int).natAbs ≤ 60 by decide) (nmul_le be (nmul_le be (nmul_le cg (nmul_le ch (nmul_le ch ch)))))) (by decide)
  have z204 : H204 = 0 := num_true _ _ H204 _ _ rfl (fb1 c _ _ 15 hc t204 (tT204_le X Y W hX hY hW)) (nmul_le (show (15 : Int).natAbs ≤ 15 by decide) (nmul_le be (nmul_le be (nmul_le ch (nmul_le ch (nmul_le ch ch)))))) (by decide)
  have z150 : H150 = 0 := num_true _ _ H150 _ _ rfl (fb1 c _ _ 6 hc t150 (tT150_le X Y W hX hY hW)) (nmul_le (show (6 : Int).natAbs ≤ 6 by decide) (nmul_le be (nmul_le cg (nmul_le cg (nmul_le cg (nmul_le cg cg)))))) (by decide)
  have z141 : H141 = 0 := num_true _ _ H141 _ _ rfl (fb1 c _ _ 30 hc t141 (tT141_le X Y W hX hY hW)) (nmul_le (show (30 : Int).natAbs ≤ 30 by decide) (nmul_le be (nmul_le cg (nmul_le cg (nmul_le cg (nmul_le cg ch)))))) (by decide)
  have z132 : H132 = 0 := num_true _ _ H132 _ _ rfl (fb1 c _ _ 60 hc t132 (tT132_le X Y W hX hY hW)) (nmul_le (show (60 : Int).natAbs ≤ 60 by decide) (nmul_le be (nmul_le cg (nmul_le cg (nmul_le cg (nmul_le ch ch)))))) (by decide)
  have z123 : H123 = 0 := num_true _ _ H123 _ _ rfl (fb1 c _ _ 60 hc t123 (tT123_le X Y W hX hY hW)) (nmul_le (show (60 : Int).natAbs ≤ 60 by decide) (nmul_le be (nmul_le cg (nmul_le cg (nmul_le ch (nmul_le ch ch)))))) (by decide)
  have z114 : H114 = 0 := num_true _ _ H114 _ _ rfl (fb1 c _ _ 30 hc t114 (tT114_le X Y W hX hY hW)) (nmul_le (show (30 : Int).natAbs ≤ 30 by decide) (nmul_le be (nmul_le cg (nmul_le ch (nmul_le ch (nmul_le ch ch)))))) (by decide)
  have z105 : H105 = 0 := num_true _ _ H105 _ _ rfl (fb1 c _ _ 6 hc t105 (tT105_le X Y W hX hY hW)) (nmul_le (show (6 : Int).natAbs ≤ 6 by decide) (nmul_le be (nmul_le ch (nmul_le ch (nmul_le ch (nmul_le ch ch)))))) (by decide)
  have z060 : H060 = 0 := num_true _ _ H060 _ _ rfl (fb1 c _ _ 1 hc t060 (tT060_le X Y W hX hY hW)) (nmul_le cg (nmul_le cg (nmul_le cg (nmul_le cg (nmul_le cg cg))))) (by decide)
  have z051 : H051 = 0 := num_true _ _ H051 _ _ rfl (fb1 c _ _ 6 hc t051 (tT051_le X Y W hX hY hW)) (nmul_le (show (6 : Int).natAbs ≤ 6 by decide) (nmul_le cg (nmul_le cg (nmul_le cg (nmul_le cg (nmul_le cg ch)))))) (by decide)
  have z042 : H042 = 0 := num_true _ _ H042 _ _ rfl (fb1 c _ _ 15 hc t042 (tT042_le X Y W hX hY hW)) (nmul_le (show (15 : Int).natAbs ≤ 15 by decide) (nmul_le cg (nmul_le cg (nmul_le cg (nmul_le cg (nmul_le ch ch)))))) (by decide)
  have z033 : H033 = 0 := num_true _ _ H033 _ _ rfl (fb1 c _ _ 20 hc t033 (tT033_le X Y W hX hY hW)) (nmul_le (show (20 : Int).natAbs ≤ 20 by decide) (nmul_le cg (nmul_le cg (nmul_le cg (nmul_le ch (nmul_le ch ch)))))) (by decide)
  have z024 : H024 = 0 := num_true _ _ H024 _ _ rfl (fb1 c _ _ 15 hc t024 (tT024_le X Y W hX hY hW)) (nmul_le (show (15 : Int).natAbs ≤ 15 by decide) (nmul_le cg (nmul_le cg (nmul_le ch (nmul_le ch (nmul_le ch ch)))))) (by decide)
  have z015 : H015 = 0 := num_true _ _ H015 _ _ rfl (fb1 c _ _ 6 hc t015 (tT015_le X Y W hX hY hW)) (nmul_le (show (6 : Int).natAbs ≤ 6 by decide) (nmul_le cg (nmul_le ch (nmul_le ch (nmul_le ch (nmul_le ch ch)))))) (by decide)
  have z006 : H006 = 0 := num_true _ _ H006 _ _ rfl (fb1 c _ _ 1 hc t006 (tT006_le X Y W hX hY hW)) (nmul_le ch (nmul_le ch (nmul_le ch (nmul_le ch (nmul_le ch ch))))) (by decide)
  exact ⟨rfl, z510, z501, z420, z411, z402, z330, z321, z312, z303, z240, z231, z222, z213, z204, z150, z141, z132, z123, z114, z105, z060, z051, z042, z033, z024, z015, z006⟩
theorem ln6y (X Y W : Nat → Int) (hX : bx7 X) (hY : bx7 Y) (hW : bx7 W) (c g h H600 H510 H501 H420 H411 H402 H330 H321 H312 H303 H240 H231 H222 H213 H204 H150 H141 H132 H123 H114 H105 H060 H051 H042 H033 H024 H015 H006 : Int) (hc : c ≠ 0) (he : g ≠ 0) (z060 : H060 = 0) (t600 : tT600 X Y W = 27 * c * (0 + 18446744073709551616 * H600)) (t510 : tT510 X Y W = 27 * c * (0 + 18446744073709551616 * H510)) (t501 : tT501 X Y W = 27 * c * (0 + 18446744073709551616 * H501)) (t420 : tT420 X Y W = 27 * c * (0 + 18446744073709551616 * H420)) (t411 : tT411 X Y W = 27 * c * (0 + 18446744073709551616 * H411)) (t402 : tT402 X Y W = 27 * c * (0 + 18446744073709551616 * H402)) (t330 : tT330 X Y W = 27 * c * (0 + 18446744073709551616 * H330)) (t321 : tT321 X Y W = 27 * c * (0 + 18446744073709551616 * H321)) (t312 : tT312 X Y W = 27 * c * (0 + 18446744073709551616 * H312)) (t303 : tT303 X Y W = 27 * c * (0 + 18446744073709551616 * H303)) (t240 : tT240 X Y W = 27 * c * (0 + 18446744073709551616 * H240)) (t231 : tT231 X Y W = 27 * c * (0 + 18446744073709551616 * H231)) (t222 : tT222 X Y W = 27 * c * (0 + 18446744073709551616 * H222)) (t213 : tT213 X Y W = 27 * c * (0 + 18446744073709551616 * H213)) (t204 : tT204 X Y W = 27 * c * (0 + 18446744073709551616 * H204)) (t150 : tT150 X Y W = 27 * c * (0 + 18446744073709551616 * H150)) (t141 : tT141 X Y W = 27 * c * (0 + 18446744073709551616 * H141)) (t132 : tT132 X Y W = 27 * c * (0 + 18446744073709551616 * H132)) (t123 : tT123 X Y W = 27 * c * (0 + 18446744073709551616 * H123)) (t114 : tT114 X Y W = 27 * c * (0 + 18446744073709551616 * H114)) (t105 : tT105 X Y W = 27 * c * (0 + 18446744073709551616 * H105)) (t060 : tT060 X Y W = 27 * c * (g * (g * (g * (g * (g * g)))) + 18446744073709551616 * H060)) (t051 : tT051 X Y W = 27 * c * (6 * (g * (g * (g * (g * (g * h))))) + 18446744073709551616 * H051)) (t042 : tT042 X Y W = 27 * c * (15 * (g * (g * (g * (g * (h * h))))) + 18446744073709551616 * H042)) (t033 : tT033 X Y W = 27 * c * (20 * (g * (g * (g * (h * (h * h))))) + 18446744073709551616 * H033)) (t024 : tT024 X Y W = 27 * c * (15 * (g * (g * (h * (h * (h * h))))) + 18446744073709551616 * H024)) (t015 : tT015 X Y W = 27 * c * (6 * (g * (h * (h * (h * (h * h))))) + 18446744073709551616 * H015)) (t006 : tT006 X Y W = 27 * c * (h * (h * (h * (h * (h * h)))) + 18446744073709551616 * H006)) (dh : (6 * (g * (g * (g * (g * (g * h)))))).natAbs ≤ 9223372036854775808) : H600 = 0 ∧ H510 = 0 ∧ H501 = 0 ∧ H420 = 0 ∧ H411 = 0 ∧ H402 = 0 ∧ H330 = 0 ∧ H321 = 0 ∧ H312 = 0 ∧ H303 = 0 ∧ H240 = 0 ∧ H231 = 0 ∧ H222 = 0 ∧ H213 = 0 ∧ H204 = 0 ∧ H150 = 0 ∧ H141 = 0 ∧ H132 = 0 ∧ H123 = 0 ∧ H114 = 0 ∧ H105 = 0 ∧ H060 = 0 ∧ H051 = 0 ∧ H042 = 0 ∧ H033 = 0 ∧ H024 = 0 ∧ H015 = 0 ∧ H006 = 0 := by
  subst z060
  rw [Int.mul_zero, Int.add_zero] at t060
  have he1 : 1 ≤ g.natAbs := Int.natAbs_pos.mpr he
  have be : g.natAbs ≤ 23 := by
    have f := fb1 c _ _ 1 hc t060 (tT060_le X Y W hX hY hW)
    simp only [Int.natAbs_mul] at f
    rcases Nat.lt_or_ge 23 g.natAbs with q | q
    · exfalso
      have w := Nat.mul_le_mul q (Nat.mul_le_mul q (Nat.mul_le_mul q (Nat.mul_le_mul q (Nat.mul_le_mul q q))))
      have w2 := Nat.le_trans w f
      exact absurd w2 (by decide)
    · exact q
  obtain ⟨z051, qh⟩ := dig3 _ _ 0 H051 _ 0 (by rw [Int.add_zero]) (fb1 c _ _ 6 hc t051 (tT051_le X Y W hX hY hW)) (by decide) dh (by decide)
  have ph : g.natAbs * (g.natAbs * (g.natAbs * (g.natAbs * g.natAbs))) * h.natAbs ≤ 153174641 := by
    simp only [Int.natAbs_mul] at qh
    have t6 : ((6 : Int)).natAbs = 6 := rfl
    rw [t6] at qh
    have e : g.natAbs * (g.natAbs * (g.natAbs * (g.natAbs * (g.natAbs * h.natAbs)))) = g.natAbs * (g.natAbs * (g.natAbs * (g.natAbs * g.natAbs))) * h.natAbs := by
      generalize g.natAbs = p
      generalize h.natAbs = q
      grind
    rw [← e]
    omega
  have sh : g.natAbs * (g.natAbs * (g.natAbs * g.natAbs)) * (h.natAbs * h.natAbs) ≤ 153174641 * 153174641 := l_sq _ _ _ (g.natAbs * (g.natAbs * (g.natAbs * (g.natAbs * (g.natAbs * g.natAbs))))) _ (Nat.mul_pos he1 (Nat.mul_pos he1 (Nat.mul_pos he1 (Nat.mul_pos he1 (Nat.mul_pos he1 he1))))) ph (by generalize g.natAbs = p; grind)
  have z042 : H042 = 0 := by
    refine num_true _ _ H042 _ (15 * (153174641 * 153174641)) rfl (fb1 c _ _ 15 hc t042 (tT042_le X Y W hX hY hW)) ?_ (by decide)
    refine nmul_le (show (15 : Int).natAbs ≤ 15 by decide) ?_
    simp only [Int.natAbs_mul]
    have e : g.natAbs * (g.natAbs * (g.natAbs * (g.natAbs * (h.natAbs * h.natAbs)))) = g.natAbs * (g.natAbs * (g.natAbs * g.natAbs)) * (h.natAbs * h.natAbs) := by
      generalize g.natAbs = p
      generalize h.natAbs = q
      grind
    rw [e]
    exact sh
  have bh : h.natAbs ≤ 12376 := by
    have f := t042
    rw [z042, Int.mul_zero, Int.add_zero] at f
    have f2 := fb1 c _ _ 15 hc f (tT042_le X Y W hX hY hW)
    simp only [Int.natAbs_mul] at f2
    have t6 : ((15 : Int)).natAbs = 15 := rfl
    rw [t6] at f2
    have e : g.natAbs * (g.natAbs * (g.natAbs * (g.natAbs * (h.natAbs * h.natAbs)))) = g.natAbs * (g.natAbs * (g.natAbs * g.natAbs)) * (h.natAbs * h.natAbs) := by
      generalize g.natAbs = p
      generalize h.natAbs = q
      grind
    rw [e] at f2
    exact l_root h _ 153174641 12376 (Nat.mul_pos he1 (Nat.mul_pos he1 (Nat.mul_pos he1 he1))) (by omega) (by decide)
  have z033 : H033 = 0 := num_true _ _ H033 _ _ rfl (fb1 c _ _ 20 hc t033 (tT033_le X Y W hX hY hW)) (nmul_le (show (20 : Int).natAbs ≤ 20 by decide) (nmul_le be (nmul_le be (nmul_le be (nmul_le bh (nmul_le bh bh)))))) (by decide)
  have ch : h.natAbs ≤ 535 := by
    have f := t033
    rw [z033, Int.mul_zero, Int.add_zero] at f
    have f2 := fb1 c _ _ 20 hc f (tT033_le X Y W hX hY hW)
    simp only [Int.natAbs_mul] at f2
    have t6 : ((20 : Int)).natAbs = 20 := rfl
    rw [t6] at f2
    have e : g.natAbs * (g.natAbs * (g.natAbs * (h.natAbs * (h.natAbs * h.natAbs)))) = g.natAbs * (g.natAbs * g.natAbs) * (h.natAbs * (h.natAbs * h.natAbs)) := by
      generalize g.natAbs = p
      generalize h.natAbs = q
      grind
    rw [e] at f2
    exact l_root3 h _ 153174641 535 (Nat.mul_pos he1 (Nat.mul_pos he1 he1)) (by omega) (by decide)
  have z600 : H600 = 0 := num_true _ _ H600 _ 0 rfl (fb1 c _ _ 1 hc t600 (tT600_le X Y W hX hY hW)) (by decide) (by decide)
  have z510 : H510 = 0 := num_true _ _ H510 _ 0 rfl (fb1 c _ _ 6 hc t510 (tT510_le X Y W hX hY hW)) (by decide) (by decide)
  have z501 : H501 = 0 := num_true _ _ H501 _ 0 rfl (fb1 c _ _ 6 hc t501 (tT501_le X Y W hX hY hW)) (by decide) (by decide)
  have z420 : H420 = 0 := num_true _ _ H420 _ 0 rfl (fb1 c _ _ 15 hc t420 (tT420_le X Y W hX hY hW)) (by decide) (by decide)
  have z411 : H411 = 0 := num_true _ _ H411 _ 0 rfl (fb1 c _ _ 30 hc t411 (tT411_le X Y W hX hY hW)) (by decide) (by decide)
  have z402 : H402 = 0 := num_true _ _ H402 _ 0 rfl (fb1 c _ _ 15 hc t402 (tT402_le X Y W hX hY hW)) (by decide) (by decide)
  have z330 : H330 = 0 := num_true _ _ H330 _ 0 rfl (fb1 c _ _ 20 hc t330 (tT330_le X Y W hX hY hW)) (by decide) (by decide)
  have z321 : H321 = 0 := num_true _ _ H321 _ 0 rfl (fb1 c _ _ 60 hc t321 (tT321_le X Y W hX hY hW)) (by decide) (by decide)
  have z312 : H312 = 0 := num_true _ _ H312 _ 0 rfl (fb1 c _ _ 60 hc t312 (tT312_le X Y W hX hY hW)) (by decide) (by decide)
  have z303 : H303 = 0 := num_true _ _ H303 _ 0 rfl (fb1 c _ _ 20 hc t303 (tT303_le X Y W hX hY hW)) (by decide) (by decide)
  have z240 : H240 = 0 := num_true _ _ H240 _ 0 rfl (fb1 c _ _ 15 hc t240 (tT240_le X Y W hX hY hW)) (by decide) (by decide)
  have z231 : H231 = 0 := num_true _ _ H231 _ 0 rfl (fb1 c _ _ 60 hc t231 (tT231_le X Y W hX hY hW)) (by decide) (by decide)
  have z222 : H222 = 0 := num_true _ _ H222 _ 0 rfl (fb1 c _ _ 90 hc t222 (tT222_le X Y W hX hY hW)) (by decide) (by decide)
  have z213 : H213 = 0 := num_true _ _ H213 _ 0 rfl (fb1 c _ _ 60 hc t213 (tT213_le X Y W hX hY hW)) (by decide) (by decide)
  have z204 : H204 = 0 := num_true _ _ H204 _ 0 rfl (fb1 c _ _ 15 hc t204 (tT204_le X Y W hX hY hW)) (by decide) (by decide)
  have z150 : H150 = 0 := num_true _ _ H150 _ 0 rfl (fb1 c _ _ 6 hc t150 (tT150_le X Y W hX hY hW)) (by decide) (by decide)
  have z141 : H141 = 0 := num_true _ _ H141 _ 0 rfl (fb1 c _ _ 30 hc t141 (tT141_le X Y W hX hY hW)) (by decide) (by decide)
  have z132 : H132 = 0 := num_true _ _ H132 _ 0 rfl (fb1 c _ _ 60 hc t132 (tT132_le X Y W hX hY hW)) (by decide) (by decide)
  have z123 : H123 = 0 := num_true _ _ H123 _ 0 rfl (fb1 c _ _ 60 hc t123 (tT123_le X Y W hX hY hW)) (by decide) (by decide)
  have z114 : H114 = 0 := num_true _ _ H114 _ 0 rfl (fb1 c _ _ 30 hc t114 (tT114_le X Y W hX hY hW)) (by decide) (by decide)
  have z105 : H105 = 0 := num_true _ _ H105 _ 0 rfl (fb1 c _ _ 6 hc t105 (tT105_le X Y W hX hY hW)) (by decide) (by decide)
  have z024 : H024 = 0 := num_true _ _ H024 _ _ rfl (fb1 c _ _ 15 hc t024 (tT024_le X Y W hX hY hW)) (nmul_le (show (15 : Int).natAbs ≤ 15 by decide) (nmul_le be (nmul_le be (nmul_le ch (nmul_le ch (nmul_le ch ch)))))) (by decide)
  have z015 : H015 = 0 := num_true _ _ H015 _ _ rfl (fb1 c _ _ 6 hc t015 (tT015_le X Y W hX hY hW)) (nmul_le (show (6 : Int).natAbs ≤ 6 by decide) (nmul_le be (nmul_le ch (nmul_le ch (nmul_le ch (nmul_le ch ch)))))) (by decide)
  have z006 : H006 = 0 := num_true _ _ H006 _ _ rfl (fb1 c _ _ 1 hc t006 (tT006_le X Y W hX hY hW)) (nmul_le ch (nmul_le ch (nmul_le ch (nmul_le ch (nmul_le ch ch))))) (by decide)
  exact ⟨z600, z510, z501, z420, z411, z402, z330, z321, z312, z303, z240, z231, z222, z213, z204, z150, z141, z132, z123, z114, z105, rfl, z051, z042, z033, z024, z015, z006⟩
theorem ln5x (X Y W : Nat → Int) (hX : bx7 X) (hY : bx7 Y) (hW : bx7 W) (c e g h H600 H510 H501 H420 H411 H402 H330 H321 H312 H303 H240 H231 H222 H213 H204 H150 H141 H132 H123 H114 H105 H060 H051 H042 H033 H024 H015 H006 : Int) (hc : c ≠ 0) (he : e ≠ 0) (z501 : H501 = 0) (t600 : tT600 X Y W = 27 * c * (0 + 18446744073709551616 * H600)) (t510 : tT510 X Y W = 27 * c * (0 + 18446744073709551616 * H510)) (t501 : tT501 X Y W = 27 * c * (e * (e * (e * (e * e))) + 18446744073709551616 * H501)) (t420 : tT420 X Y W = 27 * c * (0 + 18446744073709551616 * H420)) (t411 : tT411 X Y W = 27 * c * (5 * (e * (e * (e * (e * g)))) + 18446744073709551616 * H411)) (t402 : tT402 X Y W = 27 * c * (5 * (e * (e * (e * (e * h)))) + 18446744073709551616 * H402)) (t330 : tT330 X Y W = 27 * c * (0 + 18446744073709551616 * H330)) (t321 : tT321 X Y W = 27 * c * (10 * (e * (e * (e * (g * g)))) + 18446744073709551616 * H321)) (t312 : tT312 X Y W = 27 * c * (20 * (e * (e * (e * (g * h)))) + 18446744073709551616 * H312)) (t303 : tT303 X Y W = 27 * c * (10 * (e * (e * (e * (h * h)))) + 18446744073709551616 * H303)) (t240 : tT240 X Y W = 27 * c * (0 + 18446744073709551616 * H240)) (t231 : tT231 X Y W = 27 * c * (10 * (e * (e * (g * (g * g)))) + 18446744073709551616 * H231)) (t222 : tT222 X Y W = 27 * c * (30 * (e * (e * (g * (g * h)))) + 18446744073709551616 * H222)) (t213 : tT213 X Y W = 27 * c * (30 * (e * (e * (g * (h * h)))) + 18446744073709551616 * H213)) (t204 : tT204 X Y W = 27 * c * (10 * (e * (e * (h * (h * h)))) + 18446744073709551616 * H204)) (t150 : tT150 X Y W = 27 * c * (0 + 18446744073709551616 * H150)) (t141 : tT141 X Y W = 27 * c * (5 * (e * (g * (g * (g * g)))) + 18446744073709551616 * H141)) (t132 : tT132 X Y W = 27 * c * (20 * (e * (g * (g * (g * h)))) + 18446744073709551616 * H132)) (t123 : tT123 X Y W = 27 * c * (30 * (e * (g * (g * (h * h)))) + 18446744073709551616 * H123)) (t114 : tT114 X Y W = 27 * c * (20 * (e * (g * (h * (h * h)))) + 18446744073709551616 * H114)) (t105 : tT105 X Y W = 27 * c * (5 * (e * (h * (h * (h * h)))) + 18446744073709551616 * H105)) (t060 : tT060 X Y W = 27 * c * (0 + 18446744073709551616 * H060)) (t051 : tT051 X Y W = 27 * c * (g * (g * (g * (g * g))) + 18446744073709551616 * H051)) (t042 : tT042 X Y W = 27 * c * (5 * (g * (g * (g * (g * h)))) + 18446744073709551616 * H042)) (t033 : tT033 X Y W = 27 * c * (10 * (g * (g * (g * (h * h)))) + 18446744073709551616 * H033)) (t024 : tT024 X Y W = 27 * c * (10 * (g * (g * (h * (h * h)))) + 18446744073709551616 * H024)) (t015 : tT015 X Y W = 27 * c * (5 * (g * (h * (h * (h * h)))) + 18446744073709551616 * H015)) (t006 : tT006 X Y W = 27 * c * (h * (h * (h * (h * h))) + 18446744073709551616 * H006)) (dg : (5 * (e * (e * (e * (e * g))))).natAbs ≤ 9223372036854775808) (dh : (5 * (e * (e * (e * (e * h))))).natAbs ≤ 9223372036854775808) : H600 = 0 ∧ H510 = 0 ∧ H501 = 0 ∧ H420 = 0 ∧ H411 = 0 ∧ H402 = 0 ∧ H330 = 0 ∧ H321 = 0 ∧ H312 = 0 ∧ H303 = 0 ∧ H240 = 0 ∧ H231 = 0 ∧ H222 = 0 ∧ H213 = 0 ∧ H204 = 0 ∧ H150 = 0 ∧ H141 = 0 ∧ H132 = 0 ∧ H123 = 0 ∧ H114 = 0 ∧ H105 = 0 ∧ H060 = 0 ∧ H051 = 0 ∧ H042 = 0 ∧ H033 = 0 ∧ H024 = 0 ∧ H015 = 0 ∧ H006 = 0 := by
  subst z501
  rw [Int.mul_zero, Int.add_zero] at t501
  have he1 : 1 ≤ e.natAbs := Int.natAbs_pos.mpr he
  have be : e.natAbs ≤ 62 := by
    have f := fb1 c _ _ 6 hc t501 (tT501_le X Y W hX hY hW)
    simp only [Int.natAbs_mul] at f
    rcases Nat.lt_or_ge 62 e.natAbs with q | q
    · exfalso
      have w := Nat.mul_le_mul q (Nat.mul_le_mul q (Nat.mul_le_mul q (Nat.mul_le_mul q q)))
      have w2 := Nat.le_trans w f
      exact absurd w2 (by decide)
    · exact q
  obtain ⟨z411, qg⟩ := dig3 _ _ 0 H411 _ 0 (by rw [Int.add_zero]) (fb1 c _ _ 30 hc t411 (tT411_le X Y W hX hY hW)) (by decide) dg (by decide)
  have pg : e.natAbs * (e.natAbs * (e.natAbs * e.natAbs)) * g.natAbs ≤ 919047846 := by
    simp only [Int.natAbs_mul] at qg
    have t6 : ((5 : Int)).natAbs = 5 := rfl
    rw [t6] at qg
    have e : e.natAbs * (e.natAbs * (e.natAbs * (e.natAbs * g.natAbs))) = e.natAbs * (e.natAbs * (e.natAbs * e.natAbs)) * g.natAbs := by
      generalize e.natAbs = p
      generalize g.natAbs = q
      grind
    rw [← e]
    omega
  have sg : e.natAbs * (e.natAbs * e.natAbs) * (g.natAbs * g.natAbs) ≤ 919047846 * 919047846 := l_sq _ _ _ (e.natAbs * (e.natAbs * (e.natAbs * (e.natAbs * e.natAbs)))) _ (Nat.mul_pos he1 (Nat.mul_pos he1 (Nat.mul_pos he1 (Nat.mul_pos he1 he1)))) pg (by generalize e.natAbs = p; grind)
  have z321 : H321 = 0 := by
    refine num_true _ _ H321 _ (10 * (919047846 * 919047846)) rfl (fb1 c _ _ 60 hc t321 (tT321_le X Y W hX hY hW)) ?_ (by decide)
    refine nmul_le (show (10 : Int).natAbs ≤ 10 by decide) ?_
    simp only [Int.natAbs_mul]
    have e : e.natAbs * (e.natAbs * (e.natAbs * (g.natAbs * g.natAbs))) = e.natAbs * (e.natAbs * e.natAbs) * (g.natAbs * g.natAbs) := by
      generalize e.natAbs = p
      generalize g.natAbs = q
      grind
    rw [e]
    exact sg
  have bg : g.natAbs ≤ 30315 := by
    have f := t321
    rw [z321, Int.mul_zero, Int.add_zero] at f
    have f2 := fb1 c _ _ 60 hc f (tT321_le X Y W hX hY hW)
    simp only [Int.natAbs_mul] at f2
    have t6 : ((10 : Int)).natAbs = 10 := rfl
    rw [t6] at f2
    have e : e.natAbs * (e.natAbs * (e.natAbs * (g.natAbs * g.natAbs))) = e.natAbs * (e.natAbs * e.natAbs) * (g.natAbs * g.natAbs) := by
      generalize e.natAbs = p
      generalize g.natAbs = q
      grind
    rw [e] at f2
    exact l_root g _ 919047846 30315 (Nat.mul_pos he1 (Nat.mul_pos he1 he1)) (by omega) (by decide)
  obtain ⟨z402, qh⟩ := dig3 _ _ 0 H402 _ 0 (by rw [Int.add_zero]) (fb1 c _ _ 15 hc t402 (tT402_le X Y W hX hY hW)) (by decide) dh (by decide)
  have ph : e.natAbs * (e.natAbs * (e.natAbs * e.natAbs)) * h.natAbs ≤ 459523923 := by
    simp only [Int.natAbs_mul] at qh
    have t6 : ((5 : Int)).natAbs = 5 := rfl
    rw [t6] at qh
    have e : e.natAbs * (e.natAbs * (e.natAbs * (e.natAbs * h.natAbs))) = e.natAbs * (e.natAbs * (e.natAbs * e.natAbs)) * h.natAbs := by
      generalize e.natAbs = p
      generalize h.natAbs = q
      grind
    rw [← e]
    omega
  have sh : e.natAbs * (e.natAbs * e.natAbs) * (h.natAbs * h.natAbs) ≤ 459523923 * 459523923 := l_sq _ _ _ (e.natAbs * (e.natAbs * (e.natAbs * (e.natAbs * e.natAbs)))) _ (Nat.mul_pos he1 (Nat.mul_pos he1 (Nat.mul_pos he1 (Nat.mul_pos he1 he1)))) ph (by generalize e.natAbs = p; grind)
  have z303 : H303 = 0 := by
    refine num_true _ _ H303 _ (10 * (459523923 * 459523923)) rfl (fb1 c _ _ 20 hc t303 (tT303_le X Y W hX hY hW)) ?_ (by decide)
    refine nmul_le (show (10 : Int).natAbs ≤ 10 by decide) ?_
    simp only [Int.natAbs_mul]
    have e : e.natAbs * (e.natAbs * (e.natAbs * (h.natAbs * h.natAbs))) = e.natAbs * (e.natAbs * e.natAbs) * (h.natAbs * h.natAbs) := by
      generalize e.natAbs = p
      generalize h.natAbs = q
      grind
    rw [e]
    exact sh
  have bh : h.natAbs ≤ 17502 := by
    have f := t303
    rw [z303, Int.mul_zero, Int.add_zero] at f
    have f2 := fb1 c _ _ 20 hc f (tT303_le X Y W hX hY hW)
    simp only [Int.natAbs_mul] at f2
    have t6 : ((10 : Int)).natAbs = 10 := rfl
    rw [t6] at f2
    have e : e.natAbs * (e.natAbs * (e.natAbs * (h.natAbs * h.natAbs))) = e.natAbs * (e.natAbs * e.natAbs) * (h.natAbs * h.natAbs) := by
      generalize e.natAbs = p
      generalize h.natAbs = q
      grind
    rw [e] at f2
    exact l_root h _ 306349282 17502 (Nat.mul_pos he1 (Nat.mul_pos he1 he1)) (by omega) (by decide)
  have z231 : H231 = 0 := num_true _ _ H231 _ _ rfl (fb1 c _ _ 60 hc t231 (tT231_le X Y W hX hY hW)) (nmul_le (show (10 : Int).natAbs ≤ 10 by decide) (nmul_le be (nmul_le be (nmul_le bg (nmul_le bg bg))))) (by decide)
  have cg : g.natAbs ≤ 972 := by
    have f := t231
    rw [z231, Int.mul_zero, Int.add_zero] at f
    have f2 := fb1 c _ _ 60 hc f (tT231_le X Y W hX hY hW)
    simp only [Int.natAbs_mul] at f2
    have t6 : ((10 : Int)).natAbs = 10 := rfl
    rw [t6] at f2
    have e : e.natAbs * (e.natAbs * (g.natAbs * (g.natAbs * g.natAbs))) = e.natAbs * e.natAbs * (g.natAbs * (g.natAbs * g.natAbs)) := by
      generalize e.natAbs = p
      generalize g.natAbs = q
      grind
    rw [e] at f2
    exact l_root3 g _ 919047846 972 (Nat.mul_pos he1 he1) (by omega) (by decide)
  have z204 : H204 = 0 := num_true _ _ H204 _ _ rfl (fb1 c _ _ 15 hc t204 (tT204_le X Y W hX hY hW)) (nmul_le (show (10 : Int).natAbs ≤ 10 by decide) (nmul_le be (nmul_le be (nmul_le bh (nmul_le bh bh))))) (by decide)
  have ch : h.natAbs ≤ 612 := by
    have f := t204
    rw [z204, Int.mul_zero, Int.add_zero] at f
    have f2 := fb1 c _ _ 15 hc f (tT204_le X Y W hX hY hW)
    simp only [Int.natAbs_mul] at f2
    have t6 : ((10 : Int)).natAbs = 10 := rfl
    rw [t6] at f2
    have e : e.natAbs * (e.natAbs * (h.natAbs * (h.natAbs * h.natAbs))) = e.natAbs * e.natAbs * (h.natAbs * (h.natAbs * h.natAbs)) := by
      generalize e.natAbs = p
      generalize h.natAbs = q
      grind
    rw [e] at f2
    exact l_root3 h _ 229761961 612 (Nat.mul_pos he1 he1) (by omega) (by decide)
  have z600 : H600 = 0 := num_true _ _ H600 _ 0 rfl (fb1 c _ _ 1 hc t600 (tT600_le X Y W hX hY hW)) (by decide) (by decide)
  have z510 : H510 = 0 := num_true _ _ H510 _ 0 rfl (fb1 c _ _ 6 hc t510 (tT510_le X Y W hX hY hW)) (by decide) (by decide)
  have z420 : H420 = 0 := num_true _ _ H420 _ 0 rfl (fb1 c _ _ 15 hc t420 (tT420_le X Y W hX hY hW)) (by decide) (by decide)
  have z330 : H330 = 0 := num_true _ _ H330 _ 0 rfl (fb1 c _ _ 20 hc t330 (tT330_le X Y W hX hY hW)) (by decide) (by decide)
  have z312 : H312 = 0 := num_true _ _ H312 _ _ rfl (fb1 c _ _ 60 hc t312 (tT312_le X Y W hX hY hW)) (nmul_le (show (20 : Int).natAbs ≤ 20 by decide) (nmul_le be (nmul_le be (nmul_le be (nmul_le cg ch))))) (by decide)
  have z240 : H240 = 0 := num_true _ _ H240 _ 0 rfl (fb1 c _ _ 15 hc t240 (tT240_le X Y W hX hY hW)) (by decide) (by decide)
  have z222 : H222 = 0 := num_true _ _ H222 _ _ rfl (fb1 c _ _ 90 hc t222 (tT222_le X Y W hX hY hW)) (nmul_le (show (30 : Int).natAbs ≤ 30 by decide) (nmul_le be (nmul_le be (nmul_le cg (nmul_le cg ch))))) (by decide)
  have z213 : H213 = 0 := num_true _ _ H213 _ _ rfl (fb1 c _ _ 60 hc t213 (tT213_le X Y W hX hY hW)) (nmul_le (show (30 : Int).natAbs ≤ 30 by decide) (nmul_le be (nmul_le be (nmul_le cg (nmul_le ch ch))))) (by decide)
  have z150 : H150 = 0 := num_true _ _ H150 _ 0 rfl (fb1 c _ _ 6 hc t150 (tT150_le X Y W hX hY hW)) (by decide) (by decide)
  have z141 : H141 = 0 := num_true _ _ H141 _ _ rfl (fb1 c _ _ 30 hc t141 (tT141_le X Y W hX hY hW)) (nmul_le (show (5 : Int).natAbs ≤ 5 by decide) (nmul_le be (nmul_le cg (nmul_le cg (nmul_le cg cg))))) (by decide)
  have z132 : H132 = 0 := num_true _ _ H132 _ _ rfl (fb1 c _ _ 60 hc t132 (tT132_le X Y W hX hY hW)) (nmul_le (show (20 : Int).natAbs ≤ 20 by decide) (nmul_le be (nmul_le cg (nmul_le cg (nmul_le cg ch))))) (by decide)
  have z123 : H123 = 0 := num_true _ _ H123 _ _ rfl (fb1 c _ _ 60 hc t123 (tT123_le X Y W hX hY hW)) (nmul_le (show (30 : Int).natAbs ≤ 30 by decide) (nmul_le be (nmul_le cg (nmul_le cg (nmul_le ch ch))))) (by decide)
  have z114 : H114 = 0 := num_true _ _ H114 _ _ rfl (fb1 c _ _ 30 hc t114 (tT114_le X Y W hX hY hW)) (nmul_le (show (20 : Int).natAbs ≤ 20 by decide) (nmul_le be (nmul_le cg (nmul_le ch (nmul_le ch ch))))) (by decide)
  have z105 : H105 = 0 := num_true _ _ H105 _ _ rfl (fb1 c _ _ 6 hc t105 (tT105_le X Y W hX hY hW)) (nmul_le (show (5 : Int).natAbs ≤ 5 by decide) (nmul_le be (nmul_le ch (nmul_le ch (nmul_le ch ch))))) (by decide)
  have z060 : H060 = 0 := num_true _ _ H060 _ 0 rfl (fb1 c _ _ 1 hc t060 (tT060_le X Y W hX hY hW)) (by decide) (by decide)
  have z051 : H051 = 0 := num_true _ _ H051 _ _ rfl (fb1 c _ _ 6 hc t051 (tT051_le X Y W hX hY hW)) (nmul_le cg (nmul_le cg (nmul_le cg (nmul_le cg cg)))) (by decide)
  have z042 : H042 = 0 := num_true _ _ H042 _ _ rfl (fb1 c _ _ 15 hc t042 (tT042_le X Y W hX hY hW)) (nmul_le (show (5 : Int).natAbs ≤ 5 by decide) (nmul_le cg (nmul_le cg (nmul_le cg (nmul_le cg ch))))) (by decide)
  have z033 : H033 = 0 := num_true _ _ H033 _ _ rfl (fb1 c _ _ 20 hc t033 (tT033_le X Y W hX hY hW)) (nmul_le (show (10 : Int).natAbs ≤ 10 by decide) (nmul_le cg (nmul_le cg (nmul_le cg (nmul_le ch ch))))) (by decide)
  have z024 : H024 = 0 := num_true _ _ H024 _ _ rfl (fb1 c _ _ 15 hc t024 (tT024_le X Y W hX hY hW)) (nmul_le (show (10 : Int).natAbs ≤ 10 by decide) (nmul_le cg (nmul_le cg (nmul_le ch (nmul_le ch ch))))) (by decide)
  have z015 : H015 = 0 := num_true _ _ H015 _ _ rfl (fb1 c _ _ 6 hc t015 (tT015_le X Y W hX hY hW)) (nmul_le (show (5 : Int).natAbs ≤ 5 by decide) (nmul_le cg (nmul_le ch (nmul_le ch (nmul_le ch ch))))) (by decide)
  have z006 : H006 = 0 := num_true _ _ H006 _ _ rfl (fb1 c _ _ 1 hc t006 (tT006_le X Y W hX hY hW)) (nmul_le ch (nmul_le ch (nmul_le ch (nmul_le ch ch)))) (by decide)
  exact ⟨z600, z510, rfl, z420, z411, z402, z330, z321, z312, z303, z240, z231, z222, z213, z204, z150, z141, z132, z123, z114, z105, z060, z051, z042, z033, z024, z015, z006⟩
theorem ln5y (X Y W : Nat → Int) (hX : bx7 X) (hY : bx7 Y) (hW : bx7 W) (c g h H600 H510 H501 H420 H411 H402 H330 H321 H312 H303 H240 H231 H222 H213 H204 H150 H141 H132 H123 H114 H105 H060 H051 H042 H033 H024 H015 H006 : Int) (hc : c ≠ 0) (he : g ≠ 0) (z051 : H051 = 0) (t600 : tT600 X Y W = 27 * c * (0 + 18446744073709551616 * H600)) (t510 : tT510 X Y W = 27 * c * (0 + 18446744073709551616 * H510)) (t501 : tT501 X Y W = 27 * c * (0 + 18446744073709551616 * H501)) (t420 : tT420 X Y W = 27 * c * (0 + 18446744073709551616 * H420)) (t411 : tT411 X Y W = 27 * c * (0 + 18446744073709551616 * H411)) (t402 : tT402 X Y W = 27 * c * (0 + 18446744073709551616 * H402)) (t330 : tT330 X Y W = 27 * c * (0 + 18446744073709551616 * H330)) (t321 : tT321 X Y W = 27 * c * (0 + 18446744073709551616 * H321)) (t312 : tT312 X Y W = 27 * c * (0 + 18446744073709551616 * H312)) (t303 : tT303 X Y W = 27 * c * (0 + 18446744073709551616 * H303)) (t240 : tT240 X Y W = 27 * c * (0 + 18446744073709551616 * H240)) (t231 : tT231 X Y W = 27 * c * (0 + 18446744073709551616 * H231)) (t222 : tT222 X Y W = 27 * c * (0 + 18446744073709551616 * H222)) (t213 : tT213 X Y W = 27 * c * (0 + 18446744073709551616 * H213)) (t204 : tT204 X Y W = 27 * c * (0 + 18446744073709551616 * H204)) (t150 : tT150 X Y W = 27 * c * (0 + 18446744073709551616 * H150)) (t141 : tT141 X Y W = 27 * c * (0 + 18446744073709551616 * H141)) (t132 : tT132 X Y W = 27 * c * (0 + 18446744073709551616 * H132)) (t123 : tT123 X Y W = 27 * c * (0 + 18446744073709551616 * H123)) (t114 : tT114 X Y W = 27 * c * (0 + 18446744073709551616 * H114)) (t105 : tT105 X Y W = 27 * c * (0 + 18446744073709551616 * H105)) (t060 : tT060 X Y W = 27 * c * (0 + 18446744073709551616 * H060)) (t051 : tT051 X Y W = 27 * c * (g * (g * (g * (g * g))) + 18446744073709551616 * H051)) (t042 : tT042 X Y W = 27 * c * (5 * (g * (g * (g * (g * h)))) + 18446744073709551616 * H042)) (t033 : tT033 X Y W = 27 * c * (10 * (g * (g * (g * (h * h)))) + 18446744073709551616 * H033)) (t024 : tT024 X Y W = 27 * c * (10 * (g * (g * (h * (h * h)))) + 18446744073709551616 * H024)) (t015 : tT015 X Y W = 27 * c * (5 * (g * (h * (h * (h * h)))) + 18446744073709551616 * H015)) (t006 : tT006 X Y W = 27 * c * (h * (h * (h * (h * h))) + 18446744073709551616 * H006)) (dh : (5 * (g * (g * (g * (g * h))))).natAbs ≤ 9223372036854775808) : H600 = 0 ∧ H510 = 0 ∧ H501 = 0 ∧ H420 = 0 ∧ H411 = 0 ∧ H402 = 0 ∧ H330 = 0 ∧ H321 = 0 ∧ H312 = 0 ∧ H303 = 0 ∧ H240 = 0 ∧ H231 = 0 ∧ H222 = 0 ∧ H213 = 0 ∧ H204 = 0 ∧ H150 = 0 ∧ H141 = 0 ∧ H132 = 0 ∧ H123 = 0 ∧ H114 = 0 ∧ H105 = 0 ∧ H060 = 0 ∧ H051 = 0 ∧ H042 = 0 ∧ H033 = 0 ∧ H024 = 0 ∧ H015 = 0 ∧ H006 = 0 := by
  subst z051
  rw [Int.mul_zero, Int.add_zero] at t051
  have he1 : 1 ≤ g.natAbs := Int.natAbs_pos.mpr he
  have be : g.natAbs ≤ 62 := by
    have f := fb1 c _ _ 6 hc t051 (tT051_le X Y W hX hY hW)
    simp only [Int.natAbs_mul] at f
    rcases Nat.lt_or_ge 62 g.natAbs with q | q
    · exfalso
      have w := Nat.mul_le_mul q (Nat.mul_le_mul q (Nat.mul_le_mul q (Nat.mul_le_mul q q)))
      have w2 := Nat.le_trans w f
      exact absurd w2 (by decide)
    · exact q
  obtain ⟨z042, qh⟩ := dig3 _ _ 0 H042 _ 0 (by rw [Int.add_zero]) (fb1 c _ _ 15 hc t042 (tT042_le X Y W hX hY hW)) (by decide) dh (by decide)
  have ph : g.natAbs * (g.natAbs * (g.natAbs * g.natAbs)) * h.natAbs ≤ 459523923 := by
    simp only [Int.natAbs_mul] at qh
    have t6 : ((5 : Int)).natAbs = 5 := rfl
    rw [t6] at qh
    have e : g.natAbs * (g.natAbs * (g.natAbs * (g.natAbs * h.natAbs))) = g.natAbs * (g.natAbs * (g.natAbs * g.natAbs)) * h.natAbs := by
      generalize g.natAbs = p
      generalize h.natAbs = q
      grind
    rw [← e]
    omega
  have sh : g.natAbs * (g.natAbs * g.natAbs) * (h.natAbs * h.natAbs) ≤ 459523923 * 459523923 := l_sq _ _ _ (g.natAbs * (g.natAbs * (g.natAbs * (g.natAbs * g.natAbs)))) _ (Nat.mul_pos he1 (Nat.mul_pos he1 (Nat.mul_pos he1 (Nat.mul_pos he1 he1)))) ph (by generalize g.natAbs = p; grind)
  have z033 : H033 = 0 := by
    refine num_true _ _ H033 _ (10 * (459523923 * 459523923)) rfl (fb1 c _ _ 20 hc t033 (tT033_le X Y W hX hY hW)) ?_ (by decide)
    refine nmul_le (show (10 : Int).natAbs ≤ 10 by decide) ?_
    simp only [Int.natAbs_mul]
    have e : g.natAbs * (g.natAbs * (g.natAbs * (h.natAbs * h.natAbs))) = g.natAbs * (g.natAbs * g.natAbs) * (h.natAbs * h.natAbs) := by
      generalize g.natAbs = p
      generalize h.natAbs = q
      grind
    rw [e]
    exact sh
  have bh : h.natAbs ≤ 17502 := by
    have f := t033
    rw [z033, Int.mul_zero, Int.add_zero] at f
    have f2 := fb1 c _ _ 20 hc f (tT033_le X Y W hX hY hW)
    simp only [Int.natAbs_mul] at f2
    have t6 : ((10 : Int)).natAbs = 10 := rfl
    rw [t6] at f2
    have e : g.natAbs * (g.natAbs * (g.natAbs * (h.natAbs * h.natAbs))) = g.natAbs * (g.natAbs * g.natAbs) * (h.natAbs * h.natAbs) := by
      generalize g.natAbs = p
      generalize h.natAbs = q
      grind
    rw [e] at f2
    exact l_root h _ 306349282 17502 (Nat.mul_pos he1 (Nat.mul_pos he1 he1)) (by omega) (by decide)
  have z024 : H024 = 0 := num_true _ _ H024 _ _ rfl (fb1 c _ _ 15 hc t024 (tT024_le X Y W hX hY hW)) (nmul_le (show (10 : Int).natAbs ≤ 10 by decide) (nmul_le be (nmul_le be (nmul_le bh (nmul_le bh bh))))) (by decide)
  have ch : h.natAbs ≤ 612 := by
    have f := t024
    rw [z024, Int.mul_zero, Int.add_zero] at f
    have f2 := fb1 c _ _ 15 hc f (tT024_le X Y W hX hY hW)
    simp only [Int.natAbs_mul] at f2
    have t6 : ((10 : Int)).natAbs = 10 := rfl
    rw [t6] at f2
    have e : g.natAbs * (g.natAbs * (h.natAbs * (h.natAbs * h.natAbs))) = g.natAbs * g.natAbs * (h.natAbs * (h.natAbs * h.natAbs)) := by
      generalize g.natAbs = p
      generalize h.natAbs = q
      grind
    rw [e] at f2
    exact l_root3 h _ 229761961 612 (Nat.mul_pos he1 he1) (by omega) (by decide)
  have z600 : H600 = 0 := num_true _ _ H600 _ 0 rfl (fb1 c _ _ 1 hc t600 (tT600_le X Y W hX hY hW)) (by decide) (by decide)
  have z510 : H510 = 0 := num_true _ _ H510 _ 0 rfl (fb1 c _ _ 6 hc t510 (tT510_le X Y W hX hY hW)) (by decide) (by decide)
  have z501 : H501 = 0 := num_true _ _ H501 _ 0 rfl (fb1 c _ _ 6 hc t501 (tT501_le X Y W hX hY hW)) (by decide) (by decide)
  have z420 : H420 = 0 := num_true _ _ H420 _ 0 rfl (fb1 c _ _ 15 hc t420 (tT420_le X Y W hX hY hW)) (by decide) (by decide)
  have z411 : H411 = 0 := num_true _ _ H411 _ 0 rfl (fb1 c _ _ 30 hc t411 (tT411_le X Y W hX hY hW)) (by decide) (by decide)
  have z402 : H402 = 0 := num_true _ _ H402 _ 0 rfl (fb1 c _ _ 15 hc t402 (tT402_le X Y W hX hY hW)) (by decide) (by decide)
  have z330 : H330 = 0 := num_true _ _ H330 _ 0 rfl (fb1 c _ _ 20 hc t330 (tT330_le X Y W hX hY hW)) (by decide) (by decide)
  have z321 : H321 = 0 := num_true _ _ H321 _ 0 rfl (fb1 c _ _ 60 hc t321 (tT321_le X Y W hX hY hW)) (by decide) (by decide)
  have z312 : H312 = 0 := num_true _ _ H312 _ 0 rfl (fb1 c _ _ 60 hc t312 (tT312_le X Y W hX hY hW)) (by decide) (by decide)
  have z303 : H303 = 0 := num_true _ _ H303 _ 0 rfl (fb1 c _ _ 20 hc t303 (tT303_le X Y W hX hY hW)) (by decide) (by decide)
  have z240 : H240 = 0 := num_true _ _ H240 _ 0 rfl (fb1 c _ _ 15 hc t240 (tT240_le X Y W hX hY hW)) (by decide) (by decide)
  have z231 : H231 = 0 := num_true _ _ H231 _ 0 rfl (fb1 c _ _ 60 hc t231 (tT231_le X Y W hX hY hW)) (by decide) (by decide)
  have z222 : H222 = 0 := num_true _ _ H222 _ 0 rfl (fb1 c _ _ 90 hc t222 (tT222_le X Y W hX hY hW)) (by decide) (by decide)
  have z213 : H213 = 0 := num_true _ _ H213 _ 0 rfl (fb1 c _ _ 60 hc t213 (tT213_le X Y W hX hY hW)) (by decide) (by decide)
  have z204 : H204 = 0 := num_true _ _ H204 _ 0 rfl (fb1 c _ _ 15 hc t204 (tT204_le X Y W hX hY hW)) (by decide) (by decide)
  have z150 : H150 = 0 := num_true _ _ H150 _ 0 rfl (fb1 c _ _ 6 hc t150 (tT150_le X Y W hX hY hW)) (by decide) (by decide)
  have z141 : H141 = 0 := num_true _ _ H141 _ 0 rfl (fb1 c _ _ 30 hc t141 (tT141_le X Y W hX hY hW)) (by decide) (by decide)
  have z132 : H132 = 0 := num_true _ _ H132 _ 0 rfl (fb1 c _ _ 60 hc t132 (tT132_le X Y W hX hY hW)) (by decide) (by decide)
  have z123 : H123 = 0 := num_true _ _ H123 _ 0 rfl (fb1 c _ _ 60 hc t123 (tT123_le X Y W hX hY hW)) (by decide) (by decide)
  have z114 : H114 = 0 := num_true _ _ H114 _ 0 rfl (fb1 c _ _ 30 hc t114 (tT114_le X Y W hX hY hW)) (by decide) (by decide)
  have z105 : H105 = 0 := num_true _ _ H105 _ 0 rfl (fb1 c _ _ 6 hc t105 (tT105_le X Y W hX hY hW)) (by decide) (by decide)
  have z060 : H060 = 0 := num_true _ _ H060 _ 0 rfl (fb1 c _ _ 1 hc t060 (tT060_le X Y W hX hY hW)) (by decide) (by decide)
  have z015 : H015 = 0 := num_true _ _ H015 _ _ rfl (fb1 c _ _ 6 hc t015 (tT015_le X Y W hX hY hW)) (nmul_le (show (5 : Int).natAbs ≤ 5 by decide) (nmul_le be (nmul_le ch (nmul_le ch (nmul_le ch ch))))) (by decide)
  have z006 : H006 = 0 := num_true _ _ H006 _ _ rfl (fb1 c _ _ 1 hc t006 (tT006_le X Y W hX hY hW)) (nmul_le ch (nmul_le ch (nmul_le ch (nmul_le ch ch)))) (by decide)
  exact ⟨z600, z510, z501, z420, z411, z402, z330, z321, z312, z303, z240, z231, z222, z213, z204, z150, z141, z132, z123, z114, z105, z060, rfl, z042, z033, z024, z015, z006⟩
theorem ln4x (X Y W : Nat → Int) (hX : bx7 X) (hY : bx7 Y) (hW : bx7 W) (c e g h H600 H510 H501 H420 H411 H402 H330 H321 H312 H303 H240 H231 H222 H213 H204 H150 H141 H132 H123 H114 H105 H060 H051 H042 H033 H024 H015 H006 : Int) (hc : c ≠ 0) (he : e ≠ 0) (z402 : H402 = 0) (t600 : tT600 X Y W = 27 * c * (0 + 18446744073709551616 * H600)) (t510 : tT510 X Y W = 27 * c * (0 + 18446744073709551616 * H510)) (t501 : tT501 X Y W = 27 * c * (0 + 18446744073709551616 * H501)) (t420 : tT420 X Y W = 27 * c * (0 + 18446744073709551616 * H420)) (t411 : tT411 X Y W = 27 * c * (0 + 18446744073709551616 * H411)) (t402 : tT402 X Y W = 27 * c * (e * (e * (e * e)) + 18446744073709551616 * H402)) (t330 : tT330 X Y W = 27 * c * (0 + 18446744073709551616 * H330)) (t321 : tT321 X Y W = 27 * c * (0 + 18446744073709551616 * H321)) (t312 : tT312 X Y W = 27 * c * (4 * (e * (e * (e * g))) + 18446744073709551616 * H312)) (t303 : tT303 X Y W = 27 * c * (4 * (e * (e * (e * h))) + 18446744073709551616 * H303)) (t240 : tT240 X Y W = 27 * c * (0 + 18446744073709551616 * H240)) (t231 : tT231 X Y W = 27 * c * (0 + 18446744073709551616 * H231)) (t222 : tT222 X Y W = 27 * c * (6 * (e * (e * (g * g))) + 18446744073709551616 * H222)) (t213 : tT213 X Y W = 27 * c * (12 * (e * (e * (g * h))) + 18446744073709551616 * H213)) (t204 : tT204 X Y W = 27 * c * (6 * (e * (e * (h * h))) + 18446744073709551616 * H204)) (t150 : tT150 X Y W = 27 * c * (0 + 18446744073709551616 * H150)) (t141 : tT141 X Y W = 27 * c * (0 + 18446744073709551616 * H141)) (t132 : tT132 X Y W = 27 * c * (4 * (e * (g * (g * g))) + 18446744073709551616 * H132)) (t123 : tT123 X Y W = 27 * c * (12 * (e * (g * (g * h))) + 18446744073709551616 * H123)) (t114 : tT114 X Y W = 27 * c * (12 * (e * (g * (h * h))) + 18446744073709551616 * H114)) (t105 : tT105 X Y W = 27 * c * (4 * (e * (h * (h * h))) + 18446744073709551616 * H105)) (t060 : tT060 X Y W = 27 * c * (0 + 18446744073709551616 * H060)) (t051 : tT051 X Y W = 27 * c * (0 + 18446744073709551616 * H051)) (t042 : tT042 X Y W = 27 * c * (g * (g * (g * g)) + 18446744073709551616 * H042)) (t033 : tT033 X Y W = 27 * c * (4 * (g * (g * (g * h))) + 18446744073709551616 * H033)) (t024 : tT024 X Y W = 27 * c * (6 * (g * (g * (h * h))) + 18446744073709551616 * H024)) (t015 : tT015 X Y W = 27 * c * (4 * (g * (h * (h * h))) + 18446744073709551616 * H015)) (t006 : tT006 X Y W = 27 * c * (h * (h * (h * h)) + 18446744073709551616 * H006)) (dg : (4 * (e * (e * (e * g)))).natAbs ≤ 9223372036854775808) (dh : (4 * (e * (e * (e * h)))).natAbs ≤ 9223372036854775808) : H600 = 0 ∧ H510 = 0 ∧ H501 = 0 ∧ H420 = 0 ∧ H411 = 0 ∧ H402 = 0 ∧ H330 = 0 ∧ H321 = 0 ∧ H312 = 0 ∧ H303 = 0 ∧ H240 = 0 ∧ H231 = 0 ∧ H222 = 0 ∧ H213 = 0 ∧ H204 = 0 ∧ H150 = 0 ∧ H141 = 0 ∧ H132 = 0 ∧ H123 = 0 ∧ H114 = 0 ∧ H105 = 0 ∧ H060 = 0 ∧ H051 = 0 ∧ H042 = 0 ∧ H033 = 0 ∧ H024 = 0 ∧ H015 = 0 ∧ H006 = 0 := by
  subst z402
  rw [Int.mul_zero, Int.add_zero] at t402
  have he1 : 1 ≤ e.natAbs := Int.natAbs_pos.mpr he
  have be : e.natAbs ≤ 218 := by
    have f := fb1 c _ _ 15 hc t402 (tT402_le X Y W hX hY hW)
    simp only [Int.natAbs_mul] at f
    rcases Nat.lt_or_ge 218 e.natAbs with q | q
    · exfalso
      have w := Nat.mul_le_mul q (Nat.mul_le_mul q (Nat.mul_le_mul q q))
      have w2 := Nat.le_trans w f
      exact absurd w2 (by decide)
    · exact q
  obtain ⟨z312, qg⟩ := dig3 _ _ 0 H312 _ 0 (by rw [Int.add_zero]) (fb1 c _ _ 60 hc t312 (tT312_le X Y W hX hY hW)) (by decide) dg (by decide)
  have pg : e.natAbs * (e.natAbs * e.natAbs) * g.natAbs ≤ 2297619615 := by
    simp only [Int.natAbs_mul] at qg
    have t6 : ((4 : Int)).natAbs = 4 := rfl
    rw [t6] at qg
    have e : e.natAbs * (e.natAbs * (e.natAbs * g.natAbs)) = e.natAbs * (e.natAbs * e.natAbs) * g.natAbs := by
      generalize e.natAbs = p
      generalize g.natAbs = q
      grind
    rw [← e]
    omega
  have sg : e.natAbs * e.natAbs * (g.natAbs * g.natAbs) ≤ 2297619615 * 2297619615 := l_sq _ _ _ (e.natAbs * (e.natAbs * (e.natAbs * e.natAbs))) _ (Nat.mul_pos he1 (Nat.mul_pos he1 (Nat.mul_pos he1 he1))) pg (by generalize e.natAbs = p; grind)
  have zb : H222 = 0 := by
    have f := fb1 c _ _ 90 hc t222 (tT222_le X Y W hX hY hW)
    rcases Nat.lt_or_ge 1 e.natAbs with q | q
    · have q4 : 16 * (e.natAbs * e.natAbs * (g.natAbs * g.natAbs)) ≤ 2297619615 * 2297619615 := by
        have a1 : 16 ≤ e.natAbs * (e.natAbs * (e.natAbs * e.natAbs)) := Nat.mul_le_mul q (Nat.mul_le_mul q (Nat.mul_le_mul q q))
        have a2 : e.natAbs * (e.natAbs * (e.natAbs * e.natAbs)) * (e.natAbs * e.natAbs * (g.natAbs * g.natAbs)) = e.natAbs * (e.natAbs * e.natAbs) * g.natAbs * (e.natAbs * (e.natAbs * e.natAbs) * g.natAbs) := by
          generalize e.natAbs = p
          generalize g.natAbs = q
          grind
        have a3 : e.natAbs * (e.natAbs * e.natAbs) * g.natAbs * (e.natAbs * (e.natAbs * e.natAbs) * g.natAbs) ≤ 2297619615 * 2297619615 := Nat.mul_le_mul pg pg
        rw [← a2] at a3
        exact Nat.le_trans (Nat.mul_le_mul a1 (Nat.le_refl _)) a3
      refine num_true _ _ H222 _ (6 * 400000000000000000) rfl f ?_ (by decide)
      refine nmul_le (show (6 : Int).natAbs ≤ 6 by decide) ?_
      simp only [Int.natAbs_mul]
      have e1 : e.natAbs * (e.natAbs * (g.natAbs * g.natAbs)) = e.natAbs * e.natAbs * (g.natAbs * g.natAbs) := (Nat.mul_assoc _ _ _).symm
      rw [e1]
      omega
    · have ee : e * e = 1 := by
        have : e = 1 ∨ e = -1 := by omega
        rcases this with r | r
        · rw [r]; decide
        · rw [r]; decide
      have en : e.natAbs = 1 := by omega
      rw [en] at pg
      have gb : g.natAbs ≤ 2297619615 := by omega
      have e2 : 6 * (e * (e * (g * g))) = 6 * (g * g) := by
        have : e * (e * (g * g)) = e * e * (g * g) := (Int.mul_assoc _ _ _).symm
        rw [this, ee, Int.one_mul]
      rw [e2] at f
      exact l_four g H222 f gb (by
        have f3 := fb1 c _ _ 60 hc t132 (tT132_le X Y W hX hY hW)
        have e3 : 4 * (e * (g * (g * g))) + 18446744073709551616 * H132 = 4 * (e * (g * (g * g))) + 18446744073709551616 * H132 := rfl
        intro hg
        have : e = 1 ∨ e = -1 := by omega
        rcases this with r | r <;> rcases hg with hg | hg <;> rw [r, hg] at f3 <;> omega)
  have z222 := zb
  have bg : g.natAbs ≤ 47933 := by
    have f := t222
    rw [z222, Int.mul_zero, Int.add_zero] at f
    have f2 := fb1 c _ _ 90 hc f (tT222_le X Y W hX hY hW)
    simp only [Int.natAbs_mul] at f2
    have t6 : ((6 : Int)).natAbs = 6 := rfl
    rw [t6] at f2
    have e : e.natAbs * (e.natAbs * (g.natAbs * g.natAbs)) = e.natAbs * e.natAbs * (g.natAbs * g.natAbs) := by
      generalize e.natAbs = p
      generalize g.natAbs = q
      grind
    rw [e] at f2
    exact l_root g _ 2297619615 47933 (Nat.mul_pos he1 he1) (by omega) (by decide)
  obtain ⟨z303, qh⟩ := dig3 _ _ 0 H303 _ 0 (by rw [Int.add_zero]) (fb1 c _ _ 20 hc t303 (tT303_le X Y W hX hY hW)) (by decide) dh (by decide)
  have ph : e.natAbs * (e.natAbs * e.natAbs) * h.natAbs ≤ 765873205 := by
    simp only [Int.natAbs_mul] at qh
    have t6 : ((4 : Int)).natAbs = 4 := rfl
    rw [t6] at qh
    have e : e.natAbs * (e.natAbs * (e.natAbs * h.natAbs)) = e.natAbs * (e.natAbs * e.natAbs) * h.natAbs := by
      generalize e.natAbs = p
      generalize h.natAbs = q
      grind
    rw [← e]
    omega
  have sh : e.natAbs * e.natAbs * (h.natAbs * h.natAbs) ≤ 765873205 * 765873205 := l_sq _ _ _ (e.natAbs * (e.natAbs * (e.natAbs * e.natAbs))) _ (Nat.mul_pos he1 (Nat.mul_pos he1 (Nat.mul_pos he1 he1))) ph (by generalize e.natAbs = p; grind)
  have z204 : H204 = 0 := by
    refine num_true _ _ H204 _ (6 * (765873205 * 765873205)) rfl (fb1 c _ _ 15 hc t204 (tT204_le X Y W hX hY hW)) ?_ (by decide)
    refine nmul_le (show (6 : Int).natAbs ≤ 6 by decide) ?_
    simp only [Int.natAbs_mul]
    have e : e.natAbs * (e.natAbs * (h.natAbs * h.natAbs)) = e.natAbs * e.natAbs * (h.natAbs * h.natAbs) := by
      generalize e.natAbs = p
      generalize h.natAbs = q
      grind
    rw [e]
    exact sh
  have bh : h.natAbs ≤ 19568 := by
    have f := t204
    rw [z204, Int.mul_zero, Int.add_zero] at f
    have f2 := fb1 c _ _ 15 hc f (tT204_le X Y W hX hY hW)
    simp only [Int.natAbs_mul] at f2
    have t6 : ((6 : Int)).natAbs = 6 := rfl
    rw [t6] at f2
    have e : e.natAbs * (e.natAbs * (h.natAbs * h.natAbs)) = e.natAbs * e.natAbs * (h.natAbs * h.natAbs) := by
      generalize e.natAbs = p
      generalize h.natAbs = q
      grind
    rw [e] at f2
    exact l_root h _ 382936602 19568 (Nat.mul_pos he1 he1) (by omega) (by decide)
  have z132 : H132 = 0 := num_true _ _ H132 _ _ rfl (fb1 c _ _ 60 hc t132 (tT132_le X Y W hX hY hW)) (nmul_le (show (4 : Int).natAbs ≤ 4 by decide) (nmul_le be (nmul_le bg (nmul_le bg bg)))) (by decide)
  have cg : g.natAbs ≤ 1319 := by
    have f := t132
    rw [z132, Int.mul_zero, Int.add_zero] at f
    have f2 := fb1 c _ _ 60 hc f (tT132_le X Y W hX hY hW)
    simp only [Int.natAbs_mul] at f2
    have t6 : ((4 : Int)).natAbs = 4 := rfl
    rw [t6] at f2
    have e : e.natAbs * (g.natAbs * (g.natAbs * g.natAbs)) = e.natAbs * (g.natAbs * (g.natAbs * g.natAbs)) := by
      generalize e.natAbs = p
      generalize g.natAbs = q
      grind
    rw [e] at f2
    exact l_root3 g _ 2297619615 1319 (he1) (by omega) (by decide)
  have z105 : H105 = 0 := num_true _ _ H105 _ _ rfl (fb1 c _ _ 6 hc t105 (tT105_le X Y W hX hY hW)) (nmul_le (show (4 : Int).natAbs ≤ 4 by decide) (nmul_le be (nmul_le bh (nmul_le bh bh)))) (by decide)
  have ch : h.natAbs ≤ 612 := by
    have f := t105
    rw [z105, Int.mul_zero, Int.add_zero] at f
    have f2 := fb1 c _ _ 6 hc f (tT105_le X Y W hX hY hW)
    simp only [Int.natAbs_mul] at f2
    have t6 : ((4 : Int)).natAbs = 4 := rfl
    rw [t6] at f2
    have e : e.natAbs * (h.natAbs * (h.natAbs * h.natAbs)) = e.natAbs * (h.natAbs * (h.natAbs * h.natAbs)) := by
      generalize e.natAbs = p
      generalize h.natAbs = q
      grind
    rw [e] at f2
    exact l_root3 h _ 229761961 612 (he1) (by omega) (by decide)
  have z600 : H600 = 0 := num_true _ _ H600 _ 0 rfl (fb1 c _ _ 1 hc t600 (tT600_le X Y W hX hY hW)) (by decide) (by decide)
  have z510 : H510 = 0 := num_true _ _ H510 _ 0 rfl (fb1 c _ _ 6 hc t510 (tT510_le X Y W hX hY hW)) (by decide) (by decide)
  have z501 : H501 = 0 := num_true _ _ H501 _ 0 rfl (fb1 c _ _ 6 hc t501 (tT501_le X Y W hX hY hW)) (by decide) (by decide)
  have z420 : H420 = 0 := num_true _ _ H420 _ 0 rfl (fb1 c _ _ 15 hc t420 (tT420_le X Y W hX hY hW)) (by decide) (by decide)
  have z411 : H411 = 0 := num_true _ _ H411 _ 0 rfl (fb1 c _ _ 30 hc t411 (tT411_le X Y W hX hY hW)) (by decide) (by decide)
  have z330 : H330 = 0 := num_true _ _ H330 _ 0 rfl (fb1 c _ _ 20 hc t330 (tT330_le X Y W hX hY hW)) (by decide) (by decide)
  have z321 : H321 = 0 := num_true _ _ H321 _ 0 rfl (fb1 c _ _ 60 hc t321 (tT321_le X Y W hX hY hW)) (by decide) (by decide)
  have z240 : H240 = 0 := num_true _ _ H240 _ 0 rfl (fb1 c _ _ 15 hc t240 (tT240_le X Y W hX hY hW)) (by decide) (by decide)
  have z231 : H231 = 0 := num_true _ _ H231 _ 0 rfl (fb1 c _ _ 60 hc t231 (tT231_le X Y W hX hY hW)) (by decide) (by decide)
  have z213 : H213 = 0 := num_true _ _ H213 _ _ rfl (fb1 c _ _ 60 hc t213 (tT213_le X Y W hX hY hW)) (nmul_le (show (12 : Int).natAbs ≤ 12 by decide) (nmul_le be (nmul_le be (nmul_le cg ch)))) (by decide)
  have z150 : H150 = 0 := num_true _ _ H150 _ 0 rfl (fb1 c _ _ 6 hc t150 (tT150_le X Y W hX hY hW)) (by decide) (by decide)
  have z141 : H141 = 0 := num_true _ _ H141 _ 0 rfl (fb1 c _ _ 30 hc t141 (tT141_le X Y W hX hY hW)) (by decide) (by decide)
  have z123 : H123 = 0 := num_true _ _ H123 _ _ rfl (fb1 c _ _ 60 hc t123 (tT123_le X Y W hX hY hW)) (nmul_le (show (12 : Int).natAbs ≤ 12 by decide) (nmul_le be (nmul_le cg (nmul_le cg ch)))) (by decide)
  have z114 : H114 = 0 := num_true _ _ H114 _ _ rfl (fb1 c _ _ 30 hc t114 (tT114_le X Y W hX hY hW)) (nmul_le (show (12 : Int).natAbs ≤ 12 by decide) (nmul_le be (nmul_le cg (nmul_le ch ch)))) (by decide)
  have z060 : H060 = 0 := num_true _ _ H060 _ 0 rfl (fb1 c _ _ 1 hc t060 (tT060_le X Y W hX hY hW)) (by decide) (by decide)
  have z051 : H051 = 0 := num_true _ _ H051 _ 0 rfl (fb1 c _ _ 6 hc t051 (tT051_le X Y W hX hY hW)) (by decide) (by decide)
  have z042 : H042 = 0 := num_true _ _ H042 _ _ rfl (fb1 c _ _ 15 hc t042 (tT042_le X Y W hX hY hW)) (nmul_le cg (nmul_le cg (nmul_le cg cg))) (by decide)
  have z033 : H033 = 0 := num_true _ _ H033 _ _ rfl (fb1 c _ _ 20 hc t033 (tT033_le X Y W hX hY hW)) (nmul_le (show (4 : Int).natAbs ≤ 4 by decide) (nmul_le cg (nmul_le cg (nmul_le cg ch)))) (by decide)
  have z024 : H024 = 0 := num_true _ _ H024 _ _ rfl (fb1 c _ _ 15 hc t024 (tT024_le X Y W hX hY hW)) (nmul_le (show (6 : Int).natAbs ≤ 6 by decide) (nmul_le cg (nmul_le cg (nmul_le ch ch)))) (by decide)
  have z015 : H015 = 0 := num_true _ _ H015 _ _ rfl (fb1 c _ _ 6 hc t015 (tT015_le X Y W hX hY hW)) (nmul_le (show (4 : Int).natAbs ≤ 4 by decide) (nmul_le cg (nmul_le ch (nmul_le ch ch)))) (by decide)
  have z006 : H006 = 0 := num_true _ _ H006 _ _ rfl (fb1 c _ _ 1 hc t006 (tT006_le X Y W hX hY hW)) (nmul_le ch (nmul_le ch (nmul_le ch ch))) (by decide)
  exact ⟨z600, z510, z501, z420, z411, rfl, z330, z321, z312, z303, z240, z231, z222, z213, z204, z150, z141, z132, z123, z114, z105, z060, z051, z042, z033, z024, z015, z006⟩
theorem ln4y (X Y W : Nat → Int) (hX : bx7 X) (hY : bx7 Y) (hW : bx7 W) (c g h H600 H510 H501 H420 H411 H402 H330 H321 H312 H303 H240 H231 H222 H213 H204 H150 H141 H132 H123 H114 H105 H060 H051 H042 H033 H024 H015 H006 : Int) (hc : c ≠ 0) (he : g ≠ 0) (z042 : H042 = 0) (t600 : tT600 X Y W = 27 * c * (0 + 18446744073709551616 * H600)) (t510 : tT510 X Y W = 27 * c * (0 + 18446744073709551616 * H510)) (t501 : tT501 X Y W = 27 * c * (0 + 18446744073709551616 * H501)) (t420 : tT420 X Y W = 27 * c * (0 + 18446744073709551616 * H420)) (t411 : tT411 X Y W = 27 * c * (0 + 18446744073709551616 * H411)) (t402 : tT402 X Y W = 27 * c * (0 + 18446744073709551616 * H402)) (t330 : tT330 X Y W = 27 * c * (0 + 18446744073709551616 * H330)) (t321 : tT321 X Y W = 27 * c * (0 + 18446744073709551616 * H321)) (t312 : tT312 X Y W = 27 * c * (0 + 18446744073709551616 * H312)) (t303 : tT303 X Y W = 27 * c * (0 + 18446744073709551616 * H303)) (t240 : tT240 X Y W = 27 * c * (0 + 18446744073709551616 * H240)) (t231 : tT231 X Y W = 27 * c * (0 + 18446744073709551616 * H231)) (t222 : tT222 X Y W = 27 * c * (0 + 18446744073709551616 * H222)) (t213 : tT213 X Y W = 27 * c * (0 + 18446744073709551616 * H213)) (t204 : tT204 X Y W = 27 * c * (0 + 18446744073709551616 * H204)) (t150 : tT150 X Y W = 27 * c * (0 + 18446744073709551616 * H150)) (t141 : tT141 X Y W = 27 * c * (0 + 18446744073709551616 * H141)) (t132 : tT132 X Y W = 27 * c * (0 + 18446744073709551616 * H132)) (t123 : tT123 X Y W = 27 * c * (0 + 18446744073709551616 * H123)) (t114 : tT114 X Y W = 27 * c * (0 + 18446744073709551616 * H114)) (t105 : tT105 X Y W = 27 * c * (0 + 18446744073709551616 * H105)) (t060 : tT060 X Y W = 27 * c * (0 + 18446744073709551616 * H060)) (t051 : tT051 X Y W = 27 * c * (0 + 18446744073709551616 * H051)) (t042 : tT042 X Y W = 27 * c * (g * (g * (g * g)) + 18446744073709551616 * H042)) (t033 : tT033 X Y W = 27 * c * (4 * (g * (g * (g * h))) + 18446744073709551616 * H033)) (t024 : tT024 X Y W = 27 * c * (6 * (g * (g * (h * h))) + 18446744073709551616 * H024)) (t015 : tT015 X Y W = 27 * c * (4 * (g * (h * (h * h))) + 18446744073709551616 * H015)) (t006 : tT006 X Y W = 27 * c * (h * (h * (h * h)) + 18446744073709551616 * H006)) (dh : (4 * (g * (g * (g * h)))).natAbs ≤ 9223372036854775808) : H600 = 0 ∧ H510 = 0 ∧ H501 = 0 ∧ H420 = 0 ∧ H411 = 0 ∧ H402 = 0 ∧ H330 = 0 ∧ H321 = 0 ∧ H312 = 0 ∧ H303 = 0 ∧ H240 = 0 ∧ H231 = 0 ∧ H222 = 0 ∧ H213 = 0 ∧ H204 = 0 ∧ H150 = 0 ∧ H141 = 0 ∧ H132 = 0 ∧ H123 = 0 ∧ H114 = 0 ∧ H105 = 0 ∧ H060 = 0 ∧ H051 = 0 ∧ H042 = 0 ∧ H033 = 0 ∧ H024 = 0 ∧ H015 = 0 ∧ H006 = 0 := by
  subst z042
  rw [Int.mul_zero, Int.add_zero] at t042
  have he1 : 1 ≤ g.natAbs := Int.natAbs_pos.mpr he
  have be : g.natAbs ≤ 218 := by
    have f := fb1 c _ _ 15 hc t042 (tT042_le X Y W hX hY hW)
    simp only [Int.natAbs_mul] at f
    rcases Nat.lt_or_ge 218 g.natAbs with q | q
    · exfalso
      have w := Nat.mul_le_mul q (Nat.mul_le_mul q (Nat.mul_le_mul q q))
      have w2 := Nat.le_trans w f
      exact absurd w2 (by decide)
    · exact q
  obtain ⟨z033, qh⟩ := dig3 _ _ 0 H033 _ 0 (by rw [Int.add_zero]) (fb1 c _ _ 20 hc t033 (tT033_le X Y W hX hY hW)) (by decide) dh (by decide)
  have ph : g.natAbs * (g.natAbs * g.natAbs) * h.natAbs ≤ 765873205 := by
    simp only [Int.natAbs_mul] at qh
    have t6 : ((4 : Int)).natAbs = 4 := rfl
    rw [t6] at qh
    have e : g.natAbs * (g.natAbs * (g.natAbs * h.natAbs)) = g.natAbs * (g.natAbs * g.natAbs) * h.natAbs := by
      generalize g.natAbs = p
      generalize h.natAbs = q
      grind
    rw [← e]
    omega
  have sh : g.natAbs * g.natAbs * (h.natAbs * h.natAbs) ≤ 765873205 * 765873205 := l_sq _ _ _ (g.natAbs * (g.natAbs * (g.natAbs * g.natAbs))) _ (Nat.mul_pos he1 (Nat.mul_pos he1 (Nat.mul_pos he1 he1))) ph (by generalize g.natAbs = p; grind)
  have z024 : H024 = 0 := by
    refine num_true _ _ H024 _ (6 * (765873205 * 765873205)) rfl (fb1 c _ _ 15 hc t024 (tT024_le X Y W hX hY hW)) ?_ (by decide)
    refine nmul_le (show (6 : Int).natAbs ≤ 6 by decide) ?_
    simp only [Int.natAbs_mul]
    have e : g.natAbs * (g.natAbs * (h.natAbs * h.natAbs)) = g.natAbs * g.natAbs * (h.natAbs * h.natAbs) := by
      generalize g.natAbs = p
      generalize h.natAbs = q
      grind
    rw [e]
    exact sh
  have bh : h.natAbs ≤ 19568 := by
    have f := t024
    rw [z024, Int.mul_zero, Int.add_zero] at f
    have f2 := fb1 c _ _ 15 hc f (tT024_le X Y W hX hY hW)
    simp only [Int.natAbs_mul] at f2
    have t6 : ((6 : Int)).natAbs = 6 := rfl
    rw [t6] at f2
    have e : g.natAbs * (g.natAbs * (h.natAbs * h.natAbs)) = g.natAbs * g.natAbs * (h.natAbs * h.natAbs) := by
      generalize g.natAbs = p
      generalize h.natAbs = q
      grind
    rw [e] at f2
    exact l_root h _ 382936602 19568 (Nat.mul_pos he1 he1) (by omega) (by decide)
  have z015 : H015 = 0 := num_true _ _ H015 _ _ rfl (fb1 c _ _ 6 hc t015 (tT015_le X Y W hX hY hW)) (nmul_le (show (4 : Int).natAbs ≤ 4 by decide) (nmul_le be (nmul_le bh (nmul_le bh bh)))) (by decide)
  have ch : h.natAbs ≤ 612 := by
    have f := t015
    rw [z015, Int.mul_zero, Int.add_zero] at f
    have f2 := fb1 c _ _ 6 hc f (tT015_le X Y W hX hY hW)
    simp only [Int.natAbs_mul] at f2
    have t6 : ((4 : Int)).natAbs = 4 := rfl
    rw [t6] at f2
    have e : g.natAbs * (h.natAbs * (h.natAbs * h.natAbs)) = g.natAbs * (h.natAbs * (h.natAbs * h.natAbs)) := by
      generalize g.natAbs = p
      generalize h.natAbs = q
      grind
    rw [e] at f2
    exact l_root3 h _ 229761961 612 (he1) (by omega) (by decide)
  have z600 : H600 = 0 := num_true _ _ H600 _ 0 rfl (fb1 c _ _ 1 hc t600 (tT600_le X Y W hX hY hW)) (by decide) (by decide)
  have z510 : H510 = 0 := num_true _ _ H510 _ 0 rfl (fb1 c _ _ 6 hc t510 (tT510_le X Y W hX hY hW)) (by decide) (by decide)
  have z501 : H501 = 0 := num_true _ _ H501 _ 0 rfl (fb1 c _ _ 6 hc t501 (tT501_le X Y W hX hY hW)) (by decide) (by decide)
  have z420 : H420 = 0 := num_true _ _ H420 _ 0 rfl (fb1 c _ _ 15 hc t420 (tT420_le X Y W hX hY hW)) (by decide) (by decide)
  have z411 : H411 = 0 := num_true _ _ H411 _ 0 rfl (fb1 c _ _ 30 hc t411 (tT411_le X Y W hX hY hW)) (by decide) (by decide)
  have z402 : H402 = 0 := num_true _ _ H402 _ 0 rfl (fb1 c _ _ 15 hc t402 (tT402_le X Y W hX hY hW)) (by decide) (by decide)
  have z330 : H330 = 0 := num_true _ _ H330 _ 0 rfl (fb1 c _ _ 20 hc t330 (tT330_le X Y W hX hY hW)) (by decide) (by decide)
  have z321 : H321 = 0 := num_true _ _ H321 _ 0 rfl (fb1 c _ _ 60 hc t321 (tT321_le X Y W hX hY hW)) (by decide) (by decide)
  have z312 : H312 = 0 := num_true _ _ H312 _ 0 rfl (fb1 c _ _ 60 hc t312 (tT312_le X Y W hX hY hW)) (by decide) (by decide)
  have z303 : H303 = 0 := num_true _ _ H303 _ 0 rfl (fb1 c _ _ 20 hc t303 (tT303_le X Y W hX hY hW)) (by decide) (by decide)
  have z240 : H240 = 0 := num_true _ _ H240 _ 0 rfl (fb1 c _ _ 15 hc t240 (tT240_le X Y W hX hY hW)) (by decide) (by decide)
  have z231 : H231 = 0 := num_true _ _ H231 _ 0 rfl (fb1 c _ _ 60 hc t231 (tT231_le X Y W hX hY hW)) (by decide) (by decide)
  have z222 : H222 = 0 := num_true _ _ H222 _ 0 rfl (fb1 c _ _ 90 hc t222 (tT222_le X Y W hX hY hW)) (by decide) (by decide)
  have z213 : H213 = 0 := num_true _ _ H213 _ 0 rfl (fb1 c _ _ 60 hc t213 (tT213_le X Y W hX hY hW)) (by decide) (by decide)
  have z204 : H204 = 0 := num_true _ _ H204 _ 0 rfl (fb1 c _ _ 15 hc t204 (tT204_le X Y W hX hY hW)) (by decide) (by decide)
  have z150 : H150 = 0 := num_true _ _ H150 _ 0 rfl (fb1 c _ _ 6 hc t150 (tT150_le X Y W hX hY hW)) (by decide) (by decide)
  have z141 : H141 = 0 := num_true _ _ H141 _ 0 rfl (fb1 c _ _ 30 hc t141 (tT141_le X Y W hX hY hW)) (by decide) (by decide)
  have z132 : H132 = 0 := num_true _ _ H132 _ 0 rfl (fb1 c _ _ 60 hc t132 (tT132_le X Y W hX hY hW)) (by decide) (by decide)
  have z123 : H123 = 0 := num_true _ _ H123 _ 0 rfl (fb1 c _ _ 60 hc t123 (tT123_le X Y W hX hY hW)) (by decide) (by decide)
  have z114 : H114 = 0 := num_true _ _ H114 _ 0 rfl (fb1 c _ _ 30 hc t114 (tT114_le X Y W hX hY hW)) (by decide) (by decide)
  have z105 : H105 = 0 := num_true _ _ H105 _ 0 rfl (fb1 c _ _ 6 hc t105 (tT105_le X Y W hX hY hW)) (by decide) (by decide)
  have z060 : H060 = 0 := num_true _ _ H060 _ 0 rfl (fb1 c _ _ 1 hc t060 (tT060_le X Y W hX hY hW)) (by decide) (by decide)
  have z051 : H051 = 0 := num_true _ _ H051 _ 0 rfl (fb1 c _ _ 6 hc t051 (tT051_le X Y W hX hY hW)) (by decide) (by decide)
  have z006 : H006 = 0 := num_true _ _ H006 _ _ rfl (fb1 c _ _ 1 hc t006 (tT006_le X Y W hX hY hW)) (nmul_le ch (nmul_le ch (nmul_le ch ch))) (by decide)
  exact ⟨z600, z510, z501, z420, z411, z402, z330, z321, z312, z303, z240, z231, z222, z213, z204, z150, z141, z132, z123, z114, z105, z060, z051, rfl, z033, z024, z015, z006⟩
