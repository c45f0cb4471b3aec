/-! rows of degree 3 and 2: the numbers are small -/
theorem fs (c f S : Int) (n : Nat) (hc : c ≠ 0) (h : S = c * f) (hS : S.natAbs ≤ n) : f.natAbs ≤ n := by
  rw [h, Int.natAbs_mul] at hS
  exact Nat.le_trans (Nat.le_mul_of_pos_left _ (Int.natAbs_pos.mpr hc)) hS
theorem half_le (e x f : Int) (he : e ≠ 0) (h : f = 2 * e * x) (hf : f.natAbs ≤ 5157348) : x.natAbs ≤ 2578674 := by
  rw [h] at hf
  have := q_two e x _ (Int.natAbs_pos.mpr he) hf
  omega
theorem conA (c e0 e1 e2 g h k S400 S310 S301 S220 S211 S202 S130 S121 S112 S103 S040 S031 S022 S013 S004 H400 H310 H301 H220 H211 H202 H130 H121 H112 H103 H040 H031 H022 H013 H004 : Int) (hc : c ≠ 0) (he : e0 ≠ 0) (z400 : H400 = 0) (b400 : S400.natAbs ≤ 5157348) (b310 : S310.natAbs ≤ 5157348) (b301 : S301.natAbs ≤ 5157348) (b220 : S220.natAbs ≤ 5157348) (b211 : S211.natAbs ≤ 5157348) (b202 : S202.natAbs ≤ 5157348) (b130 : S130.natAbs ≤ 5157348) (b121 : S121.natAbs ≤ 5157348) (b112 : S112.natAbs ≤ 5157348) (b103 : S103.natAbs ≤ 5157348) (b040 : S040.natAbs ≤ 5157348) (b031 : S031.natAbs ≤ 5157348) (b022 : S022.natAbs ≤ 5157348) (b013 : S013.natAbs ≤ 5157348) (b004 : S004.natAbs ≤ 5157348) (t400 : S400 = c * (e0 * e0 + 18446744073709551616 * H400)) (t310 : S310 = c * (2 * e0 * e1 + 18446744073709551616 * H310)) (t301 : S301 = c * (2 * e0 * g + 18446744073709551616 * H301)) (t220 : S220 = c * (2 * e0 * e2 + e1 * e1 + 18446744073709551616 * H220)) (t211 : S211 = c * (2 * e0 * h + 2 * e1 * g + 18446744073709551616 * H211)) (t202 : S202 = c * (2 * e0 * k + g * g + 18446744073709551616 * H202)) (t130 : S130 = c * (2 * e1 * e2 + 18446744073709551616 * H130)) (t121 : S121 = c * (2 * e1 * h + 2 * e2 * g + 18446744073709551616 * H121)) (t112 : S112 = c * (2 * e1 * k + 2 * g * h + 18446744073709551616 * H112)) (t103 : S103 = c * (2 * g * k + 18446744073709551616 * H103)) (t040 : S040 = c * (e2 * e2 + 18446744073709551616 * H040)) (t031 : S031 = c * (2 * e2 * h + 18446744073709551616 * H031)) (t022 : S022 = c * (2 * e2 * k + h * h + 18446744073709551616 * H022)) (t013 : S013 = c * (2 * h * k + 18446744073709551616 * H013)) (t004 : S004 = c * (k * k + 18446744073709551616 * H004)) (de1 : (2 * e0 * e1).natAbs ≤ 2 ^ 63) (de2 : (2 * e0 * e2).natAbs ≤ 2 ^ 63) (dg : (2 * e0 * g).natAbs ≤ 2 ^ 63) (dh : (2 * e0 * h).natAbs ≤ 2 ^ 63) (dk : (2 * e0 * k).natAbs ≤ 2 ^ 63) : H400 = 0 ∧ H310 = 0 ∧ H301 = 0 ∧ H220 = 0 ∧ H211 = 0 ∧ H202 = 0 ∧ H130 = 0 ∧ H121 = 0 ∧ H112 = 0 ∧ H103 = 0 ∧ H040 = 0 ∧ H031 = 0 ∧ H022 = 0 ∧ H013 = 0 ∧ H004 = 0 := by
  have f := fun (p S : Int) (t : S = c * p) (b : S.natAbs ≤ 5157348) => fs c p S _ hc t b
  have hl := half_le e0
  subst z400
  have r310 := f _ _ t310 b310
  obtain ⟨z310, -⟩ := dig_true e0 e1 _ 0 H310 _ 0 (by rw [Int.add_zero]) r310 (by decide) de1 (by decide)
  subst z310
  rw [Int.mul_zero, Int.add_zero] at r310
  have p1 := hl e1 _ he rfl r310
  have r220 := f _ _ t220 b220
  obtain ⟨z220, q220⟩ := dig_true e0 e2 _ _ H220 _ _ rfl r220 (nmul_le p1 p1) de2 (by decide)
  subst z220
  rw [Int.mul_zero, Int.add_zero] at r220
  have he1 : 1 ≤ e0.natAbs := Int.natAbs_pos.mpr he
  have p2 : e2.natAbs ≤ 3330000000000 := by
    have := q_two e0 e2 _ he1 q220
    omega
  have r130 := f _ _ t130 b130
  have z130 : H130 = 0 := num_true _ _ H130 _ _ rfl r130 (nmul_le (nmul_le k2 p1) p2) (by decide)
  subst z130
  rw [Int.mul_zero, Int.add_zero] at r130
  have p2' : e2.natAbs ≤ 2578674 := by
    by_cases q : e1 = 0
    · rw [q, Int.zero_mul, Int.add_zero] at r220
      exact hl e2 _ he rfl r220
    · exact half_le e1 e2 _ q rfl r130
  have r040 := f _ _ t040 b040
  have z040 : H040 = 0 := num_true _ _ H040 _ _ rfl r040 (nmul_le p2' p2') (by decide)
  subst z040
  rw [Int.mul_zero, Int.add_zero] at r040
  have c2 : e2.natAbs ≤ 2270 := sq_P e2 5157348 2270 r040 (by decide)
  have r400 := f _ _ t400 b400
  rw [Int.mul_zero, Int.add_zero] at r400
  have c0 : e0.natAbs ≤ 2270 := sq_P e0 5157348 2270 r400 (by decide)
  have c1 : e1.natAbs ≤ 3932 := by
    refine sq_P e1 (5157348 + 2 * 2270 * 2270) 3932 ?_ (by decide)
    exact Nat.le_trans (q_abs2 _ _ _ r220) (Nat.add_le_add_left (nmul_le (nmul_le k2 c0) c2) _)
  have r301 := f _ _ t301 b301
  obtain ⟨z301, -⟩ := dig_true e0 g _ 0 H301 _ 0 (by rw [Int.add_zero]) r301 (by decide) dg (by decide)
  subst z301
  rw [Int.mul_zero, Int.add_zero] at r301
  have pg := hl g _ he rfl r301
  have r211 := f _ _ t211 b211
  obtain ⟨z211, q211⟩ := dig_true e0 h _ _ H211 _ _ rfl r211 (nmul_le (nmul_le k2 c1) pg) dh (by decide)
  subst z211
  rw [Int.mul_zero, Int.add_zero] at r211
  have ph : h.natAbs ≤ 10200000000 := by
    have := q_two e0 h _ he1 q211
    omega
  have r121 := f _ _ t121 b121
  have z121 : H121 = 0 := num_true _ _ H121 _ _ rfl r121 (na_le (nmul_le (nmul_le k2 c1) ph) (nmul_le (nmul_le k2 c2) pg)) (by decide)
  subst z121
  rw [Int.mul_zero, Int.add_zero] at r121
  have r031 := f _ _ t031 b031
  have z031 : H031 = 0 := num_true _ _ H031 _ _ rfl r031 (nmul_le (nmul_le k2 c2) ph) (by decide)
  subst z031
  rw [Int.mul_zero, Int.add_zero] at r031
  have ph' : h.natAbs ≤ 2578674 := by
    by_cases q2 : e2 = 0
    · by_cases q1 : e1 = 0
      · rw [q1] at r211
        simp only [Int.mul_zero, Int.zero_mul, Int.add_zero] at r211
        exact hl h _ he rfl r211
      · rw [q2] at r121
        simp only [Int.mul_zero, Int.zero_mul, Int.add_zero] at r121
        exact half_le e1 h _ q1 rfl r121
    · exact half_le e2 h _ q2 rfl r031
  have r202 := f _ _ t202 b202
  obtain ⟨z202, q202⟩ := dig_true e0 k _ _ H202 _ _ rfl r202 (nmul_le pg pg) dk (by decide)
  subst z202
  rw [Int.mul_zero, Int.add_zero] at r202
  have pk : k.natAbs ≤ 3330000000000 := by
    have := q_two e0 k _ he1 q202
    omega
  have z112 : H112 = 0 := num_true _ _ H112 _ _ rfl (f _ _ t112 b112) (na_le (nmul_le (nmul_le k2 c1) pk) (nmul_le (nmul_le k2 pg) ph')) (by decide)
  have z022 : H022 = 0 := num_true _ _ H022 _ _ rfl (f _ _ t022 b022) (na_le (nmul_le (nmul_le k2 c2) pk) (nmul_le ph' ph')) (by decide)
  have r103 := f _ _ t103 b103
  have z103 : H103 = 0 := num_true _ _ H103 _ _ rfl r103 (nmul_le (nmul_le k2 pg) pk) (by decide)
  subst z103
  rw [Int.mul_zero, Int.add_zero] at r103
  have r013 := f _ _ t013 b013
  have z013 : H013 = 0 := num_true _ _ H013 _ _ rfl r013 (nmul_le (nmul_le k2 ph') pk) (by decide)
  subst z013
  rw [Int.mul_zero, Int.add_zero] at r013
  have pk' : k.natAbs ≤ 2578674 := by
    by_cases qg : g = 0
    · rw [qg, Int.zero_mul, Int.add_zero] at r202
      exact hl k _ he rfl r202
    · exact half_le g k _ qg rfl r103
  have z004 : H004 = 0 := num_true _ _ H004 _ _ rfl (f _ _ t004 b004) (nmul_le pk' pk') (by decide)
  exact ⟨rfl, rfl, rfl, rfl, rfl, rfl, rfl, rfl, z112, rfl, rfl, rfl, z022, rfl, z004⟩
theorem conB (c e1 e2 g h k S400 S310 S301 S220 S211 S202 S130 S121 S112 S103 S040 S031 S022 S013 S004 H400 H310 H301 H220 H211 H202 H130 H121 H112 H103 H040 H031 H022 H013 H004 : Int) (hc : c ≠ 0) (he : e1 ≠ 0) (z220 : H220 = 0) (b400 : S400.natAbs ≤ 5157348) (b310 : S310.natAbs ≤ 5157348) (b301 : S301.natAbs ≤ 5157348) (b220 : S220.natAbs ≤ 5157348) (b211 : S211.natAbs ≤ 5157348) (b202 : S202.natAbs ≤ 5157348) (b130 : S130.natAbs ≤ 5157348) (b121 : S121.natAbs ≤ 5157348) (b112 : S112.natAbs ≤ 5157348) (b103 : S103.natAbs ≤ 5157348) (b040 : S040.natAbs ≤ 5157348) (b031 : S031.natAbs ≤ 5157348) (b022 : S022.natAbs ≤ 5157348) (b013 : S013.natAbs ≤ 5157348) (b004 : S004.natAbs ≤ 5157348) (t400 : S400 = c * (0 * 0 + 18446744073709551616 * H400)) (t310 : S310 = c * (2 * 0 * e1 + 18446744073709551616 * H310)) (t301 : S301 = c * (2 * 0 * g + 18446744073709551616 * H301)) (t220 : S220 = c * (2 * 0 * e2 + e1 * e1 + 18446744073709551616 * H220)) (t211 : S211 = c * (2 * 0 * h + 2 * e1 * g + 18446744073709551616 * H211)) (t202 : S202 = c * (2 * 0 * k + g * g + 18446744073709551616 * H202)) (t130 : S130 = c * (2 * e1 * e2 + 18446744073709551616 * H130)) (t121 : S121 = c * (2 * e1 * h + 2 * e2 * g + 18446744073709551616 * H121)) (t112 : S112 = c * (2 * e1 * k + 2 * g * h + 18446744073709551616 * H112)) (t103 : S103 = c * (2 * g * k + 18446744073709551616 * H103)) (t040 : S040 = c * (e2 * e2 + 18446744073709551616 * H040)) (t031 : S031 = c * (2 * e2 * h + 18446744073709551616 * H031)) (t022 : S022 = c * (2 * e2 * k + h * h + 18446744073709551616 * H022)) (t013 : S013 = c * (2 * h * k + 18446744073709551616 * H013)) (t004 : S004 = c * (k * k + 18446744073709551616 * H004)) (de2 : (2 * e1 * e2).natAbs ≤ 2 ^ 63) (dg : (2 * e1 * g).natAbs ≤ 2 ^ 63) (dh : (2 * e1 * h).natAbs ≤ 2 ^ 63) (dk : (2 * e1 * k).natAbs ≤ 2 ^ 63) : H400 = 0 ∧ H310 = 0 ∧ H301 = 0 ∧ H220 = 0 ∧ H211 = 0 ∧ H202 = 0 ∧ H130 = 0 ∧ H121 = 0 ∧ H112 = 0 ∧ H103 = 0 ∧ H040 = 0 ∧ H031 = 0 ∧ H022 = 0 ∧ H013 = 0 ∧ H004 = 0 := by
  simp only [Int.mul_zero, Int.zero_mul, Int.zero_add] at t400 t310 t301 t220 t211 t202
  have f := fun (p S : Int) (t : S = c * p) (b : S.natAbs ≤ 5157348) => fs c p S _ hc t b
  have hl := half_le e1
  have he1 : 1 ≤ e1.natAbs := Int.natAbs_pos.mpr he
  subst z220
  have zz : ∀ (H S : Int), S = c * (18446744073709551616 * H) → S.natAbs ≤ 5157348 → H = 0 := by
    intro H S t b
    have := f _ _ t b
    omega
  have z400 := zz _ _ t400 b400
  have z310 := zz _ _ t310 b310
  have z301 := zz _ _ t301 b301
  have r130 := f _ _ t130 b130
  obtain ⟨z130, -⟩ := dig_true e1 e2 _ 0 H130 _ 0 (by rw [Int.add_zero]) r130 (by decide) de2 (by decide)
  subst z130
  rw [Int.mul_zero, Int.add_zero] at r130
  have p2 := hl e2 _ he rfl r130
  have r040 := f _ _ t040 b040
  have z040 : H040 = 0 := num_true _ _ H040 _ _ rfl r040 (nmul_le p2 p2) (by decide)
  subst z040
  rw [Int.mul_zero, Int.add_zero] at r040
  have c2 : e2.natAbs ≤ 2270 := sq_P e2 5157348 2270 r040 (by decide)
  have r211 := f _ _ t211 b211
  obtain ⟨z211, -⟩ := dig_true e1 g _ 0 H211 _ 0 (by rw [Int.add_zero]) r211 (by decide) dg (by decide)
  subst z211
  rw [Int.mul_zero, Int.add_zero] at r211
  have pg := hl g _ he rfl r211
  have r202 := f _ _ t202 b202
  have z202 : H202 = 0 := num_true _ _ H202 _ _ rfl r202 (nmul_le pg pg) (by decide)
  subst z202
  rw [Int.mul_zero, Int.add_zero] at r202
  have cg : g.natAbs ≤ 2270 := sq_P g 5157348 2270 r202 (by decide)
  have r121 := f _ _ t121 b121
  obtain ⟨z121, q121⟩ := dig_true e1 h _ _ H121 _ _ rfl r121 (nmul_le (nmul_le k2 c2) cg) dh (by decide)
  have ph : h.natAbs ≤ 8000000 := by
    have := q_two e1 h _ he1 q121
    omega
  have z031 : H031 = 0 := num_true _ _ H031 _ _ rfl (f _ _ t031 b031) (nmul_le (nmul_le k2 c2) ph) (by decide)
  have r112 := f _ _ t112 b112
  obtain ⟨z112, q112⟩ := dig_true e1 k _ _ H112 _ _ rfl r112 (nmul_le (nmul_le k2 cg) ph) dk (by decide)
  subst z112
  rw [Int.mul_zero, Int.add_zero] at r112
  have pk : k.natAbs ≤ 20000000000 := by
    have := q_two e1 k _ he1 q112
    omega
  have z022 : H022 = 0 := num_true _ _ H022 _ _ rfl (f _ _ t022 b022) (na_le (nmul_le (nmul_le k2 c2) pk) (nmul_le ph ph)) (by decide)
  have r103 := f _ _ t103 b103
  have z103 : H103 = 0 := num_true _ _ H103 _ _ rfl r103 (nmul_le (nmul_le k2 cg) pk) (by decide)
  subst z103
  rw [Int.mul_zero, Int.add_zero] at r103
  have z013 : H013 = 0 := num_true _ _ H013 _ _ rfl (f _ _ t013 b013) (nmul_le (nmul_le k2 ph) pk) (by decide)
  have pk' : k.natAbs ≤ 2578674 := by
    by_cases qg : g = 0
    · rw [qg] at r112
      simp only [Int.mul_zero, Int.zero_mul, Int.add_zero] at r112
      exact hl k _ he rfl r112
    · exact half_le g k _ qg rfl r103
  have z004 : H004 = 0 := num_true _ _ H004 _ _ rfl (f _ _ t004 b004) (nmul_le pk' pk') (by decide)
  exact ⟨z400, z310, z301, rfl, rfl, rfl, rfl, z121, rfl, rfl, rfl, z031, z022, z013, z004⟩
theorem conC (c e2 g h k S400 S310 S301 S220 S211 S202 S130 S121 S112 S103 S040 S031 S022 S013 S004 H400 H310 H301 H220 H211 H202 H130 H121 H112 H103 H040 H031 H022 H013 H004 : Int) (hc : c ≠ 0) (he : e2 ≠ 0) (z040 : H040 = 0) (b400 : S400.natAbs ≤ 5157348) (b310 : S310.natAbs ≤ 5157348) (b301 : S301.natAbs ≤ 5157348) (b220 : S220.natAbs ≤ 5157348) (b211 : S211.natAbs ≤ 5157348) (b202 : S202.natAbs ≤ 5157348) (b130 : S130.natAbs ≤ 5157348) (b121 : S121.natAbs ≤ 5157348) (b112 : S112.natAbs ≤ 5157348) (b103 : S103.natAbs ≤ 5157348) (b040 : S040.natAbs ≤ 5157348) (b031 : S031.natAbs ≤ 5157348) (b022 : S022.natAbs ≤ 5157348) (b013 : S013.natAbs ≤ 5157348) (b004 : S004.natAbs ≤ 5157348) (t400 : S400 = c * (0 * 0 + 18446744073709551616 * H400)) (t310 : S310 = c * (2 * 0 * 0 + 18446744073709551616 * H310)) (t301 : S301 = c * (2 * 0 * g + 18446744073709551616 * H301)) (t220 : S220 = c * (2 * 0 * e2 + 0 * 0 + 18446744073709551616 * H220)) (t211 : S211 = c * (2 * 0 * h + 2 * 0 * g + 18446744073709551616 * H211)) (t202 : S202 = c * (2 * 0 * k + g * g + 18446744073709551616 * H202)) (t130 : S130 = c * (2 * 0 * e2 + 18446744073709551616 * H130)) (t121 : S121 = c * (2 * 0 * h + 2 * e2 * g + 18446744073709551616 * H121)) (t112 : S112 = c * (2 * 0 * k + 2 * g * h + 18446744073709551616 * H112)) (t103 : S103 = c * (2 * g * k + 18446744073709551616 * H103)) (t040 : S040 = c * (e2 * e2 + 18446744073709551616 * H040)) (t031 : S031 = c * (2 * e2 * h + 18446744073709551616 * H031)) (t022 : S022 = c * (2 * e2 * k + h * h + 18446744073709551616 * H022)) (t013 : S013 = c * (2 * h * k + 18446744073709551616 * H013)) (t004 : S004 = c * (k * k + 18446744073709551616 * H004)) (dg : (2 * e2 * g).natAbs ≤ 2 ^ 63) (dh : (2 * e2 * h).natAbs ≤ 2 ^ 63) (dk : (2 * e2 * k).natAbs ≤ 2 ^ 63) : H400 = 0 ∧ H310 = 0 ∧ H301 = 0 ∧ H220 = 0 ∧ H211 = 0 ∧ H202 = 0 ∧ H130 = 0 ∧ H121 = 0 ∧ H112 = 0 ∧ H103 = 0 ∧ H040 = 0 ∧ H031 = 0 ∧ H022 = 0 ∧ H013 = 0 ∧ H004 = 0 := by
  simp only [Int.mul_zero, Int.zero_mul, Int.zero_add] at t400 t310 t301 t220 t211 t202 t130 t121 t112
  have f := fun (p S : Int) (t : S = c * p) (b : S.natAbs ≤ 5157348) => fs c p S _ hc t b
  have hl := half_le e2
  have he1 : 1 ≤ e2.natAbs := Int.natAbs_pos.mpr he
  subst z040
  have zz : ∀ (H S : Int), S = c * (18446744073709551616 * H) → S.natAbs ≤ 5157348 → H = 0 := by
    intro H S t b
    have := f _ _ t b
    omega
  have z400 := zz _ _ t400 b400
  have z310 := zz _ _ t310 b310
  have z301 := zz _ _ t301 b301
  have z220 := zz _ _ t220 b220
  have z211 := zz _ _ t211 b211
  have z130 := zz _ _ t130 b130
  have r121 := f _ _ t121 b121
  obtain ⟨z121, -⟩ := dig_true e2 g _ 0 H121 _ 0 (by rw [Int.add_zero]) r121 (by decide) dg (by decide)
  subst z121
  rw [Int.mul_zero, Int.add_zero] at r121
  have pg := hl g _ he rfl r121
  have r202 := f _ _ t202 b202
  have z202 : H202 = 0 := num_true _ _ H202 _ _ rfl r202 (nmul_le pg pg) (by decide)
  subst z202
  rw [Int.mul_zero, Int.add_zero] at r202
  have cg : g.natAbs ≤ 2270 := sq_P g 5157348 2270 r202 (by decide)
  have r031 := f _ _ t031 b031
  obtain ⟨z031, -⟩ := dig_true e2 h _ 0 H031 _ 0 (by rw [Int.add_zero]) r031 (by decide) dh (by decide)
  subst z031
  rw [Int.mul_zero, Int.add_zero] at r031
  have ph := hl h _ he rfl r031
  have z112 : H112 = 0 := num_true _ _ H112 _ _ rfl (f _ _ t112 b112) (nmul_le (nmul_le k2 cg) ph) (by decide)
  have r022 := f _ _ t022 b022
  obtain ⟨z022, q022⟩ := dig_true e2 k _ _ H022 _ _ rfl r022 (nmul_le ph ph) dk (by decide)
  subst z022
  rw [Int.mul_zero, Int.add_zero] at r022
  have pk : k.natAbs ≤ 3330000000000 := by
    have := q_two e2 k _ he1 q022
    omega
  have z103 : H103 = 0 := num_true _ _ H103 _ _ rfl (f _ _ t103 b103) (nmul_le (nmul_le k2 cg) pk) (by decide)
  have r013 := f _ _ t013 b013
  have z013 : H013 = 0 := num_true _ _ H013 _ _ rfl r013 (nmul_le (nmul_le k2 ph) pk) (by decide)
  subst z013
  rw [Int.mul_zero, Int.add_zero] at r013
  have pk' : k.natAbs ≤ 2578674 := by
    by_cases qh : h = 0
    · rw [qh, Int.zero_mul, Int.add_zero] at r022
      exact hl k _ he rfl r022
    · exact half_le h k _ qh rfl r013
  have z004 : H004 = 0 := num_true _ _ H004 _ _ rfl (f _ _ t004 b004) (nmul_le pk' pk') (by decide)
  exact ⟨z400, z310, z301, z220, z211, rfl, z130, rfl, z112, z103, rfl, rfl, rfl, rfl, z004⟩
theorem lns2x (c e g h S200 S110 S101 S020 S011 S002 H200 H110 H101 H020 H011 H002 : Int) (hc : c ≠ 0) (he : e ≠ 0) (z200 : H200 = 0) (b200 : S200.natAbs ≤ 5157348) (b110 : S110.natAbs ≤ 5157348) (b101 : S101.natAbs ≤ 5157348) (b020 : S020.natAbs ≤ 5157348) (b011 : S011.natAbs ≤ 5157348) (b002 : S002.natAbs ≤ 5157348) (t200 : S200 = c * (e * e + 18446744073709551616 * H200)) (t110 : S110 = c * (2 * (e * g) + 18446744073709551616 * H110)) (t101 : S101 = c * (2 * (e * h) + 18446744073709551616 * H101)) (t020 : S020 = c * (g * g + 18446744073709551616 * H020)) (t011 : S011 = c * (2 * (g * h) + 18446744073709551616 * H011)) (t002 : S002 = c * (h * h + 18446744073709551616 * H002)) (dg : (2 * (e * g)).natAbs ≤ 9223372036854775808) (dh : (2 * (e * h)).natAbs ≤ 9223372036854775808) : H200 = 0 ∧ H110 = 0 ∧ H101 = 0 ∧ H020 = 0 ∧ H011 = 0 ∧ H002 = 0 := by
  have f := fun (p S : Int) (t : S = c * p) (b : S.natAbs ≤ 5157348) => fs c p S _ hc t b
  have he1 : 1 ≤ e.natAbs := Int.natAbs_pos.mpr he
  subst z200
  have be : e.natAbs ≤ 2270 := by
    have r := f _ _ t200 b200
    rw [Int.mul_zero, Int.add_zero] at r
    simp only [Int.natAbs_mul] at r
    rcases Nat.lt_or_ge 2270 e.natAbs with q | q
    · exfalso
      have w := Nat.mul_le_mul q q
      have w2 := Nat.le_trans w r
      exact absurd w2 (by decide)
    · exact q
  obtain ⟨z110, qg⟩ := dig3 _ _ 0 H110 _ 0 (by rw [Int.add_zero]) (f _ _ t110 b110) (by decide) dg (by decide)
  have pg : g.natAbs ≤ 5157348 := by
    simp only [Int.natAbs_mul] at qg
    have t6 : ((2 : Int)).natAbs = 2 := rfl
    rw [t6] at qg
    have w : 1 * g.natAbs ≤ e.natAbs * g.natAbs := by
      have u := Nat.mul_le_mul he1 (Nat.le_refl g.natAbs)
      simpa only [Nat.one_mul] using u
    omega
  obtain ⟨z101, qh⟩ := dig3 _ _ 0 H101 _ 0 (by rw [Int.add_zero]) (f _ _ t101 b101) (by decide) dh (by decide)
  have ph : h.natAbs ≤ 5157348 := by
    simp only [Int.natAbs_mul] at qh
    have t6 : ((2 : Int)).natAbs = 2 := rfl
    rw [t6] at qh
    have w : 1 * h.natAbs ≤ e.natAbs * h.natAbs := by
      have u := Nat.mul_le_mul he1 (Nat.le_refl h.natAbs)
      simpa only [Nat.one_mul] using u
    omega
  have z020 : H020 = 0 := num_true _ _ H020 _ _ rfl (f _ _ t020 b020) (nmul_le pg pg) (by decide)
  have z011 : H011 = 0 := num_true _ _ H011 _ _ rfl (f _ _ t011 b011) (nmul_le (show (2 : Int).natAbs ≤ 2 by decide) (nmul_le pg ph)) (by decide)
  have z002 : H002 = 0 := num_true _ _ H002 _ _ rfl (f _ _ t002 b002) (nmul_le ph ph) (by decide)
  exact ⟨rfl, z110, z101, z020, z011, z002⟩
theorem lns2y (c g h S200 S110 S101 S020 S011 S002 H200 H110 H101 H020 H011 H002 : Int) (hc : c ≠ 0) (he : g ≠ 0) (z020 : H020 = 0) (b200 : S200.natAbs ≤ 5157348) (b110 : S110.natAbs ≤ 5157348) (b101 : S101.natAbs ≤ 5157348) (b020 : S020.natAbs ≤ 5157348) (b011 : S011.natAbs ≤ 5157348) (b002 : S002.natAbs ≤ 5157348) (t200 : S200 = c * (0 + 18446744073709551616 * H200)) (t110 : S110 = c * (0 + 18446744073709551616 * H110)) (t101 : S101 = c * (0 + 18446744073709551616 * H101)) (t020 : S020 = c * (g * g + 18446744073709551616 * H020)) (t011 : S011 = c * (2 * (g * h) + 18446744073709551616 * H011)) (t002 : S002 = c * (h * h + 18446744073709551616 * H002)) (dh : (2 * (g * h)).natAbs ≤ 9223372036854775808) : H200 = 0 ∧ H110 = 0 ∧ H101 = 0 ∧ H020 = 0 ∧ H011 = 0 ∧ H002 = 0 := by
  have f := fun (p S : Int) (t : S = c * p) (b : S.natAbs ≤ 5157348) => fs c p S _ hc t b
  have he1 : 1 ≤ g.natAbs := Int.natAbs_pos.mpr he
  subst z020
  have be : g.natAbs ≤ 2270 := by
    have r := f _ _ t020 b020
    rw [Int.mul_zero, Int.add_zero] at r
    simp only [Int.natAbs_mul] at r
    rcases Nat.lt_or_ge 2270 g.natAbs with q | q
    · exfalso
      have w := Nat.mul_le_mul q q
      have w2 := Nat.le_trans w r
      exact absurd w2 (by decide)
    · exact q
  obtain ⟨z011, qh⟩ := dig3 _ _ 0 H011 _ 0 (by rw [Int.add_zero]) (f _ _ t011 b011) (by decide) dh (by decide)
  have ph : h.natAbs ≤ 5157348 := by
    simp only [Int.natAbs_mul] at qh
    have t6 : ((2 : Int)).natAbs = 2 := rfl
    rw [t6] at qh
    have w : 1 * h.natAbs ≤ g.natAbs * h.natAbs := by
      have u := Nat.mul_le_mul he1 (Nat.le_refl h.natAbs)
      simpa only [Nat.one_mul] using u
    omega
  have z200 : H200 = 0 := num_true _ _ H200 _ 0 rfl (f _ _ t200 b200) (by decide) (by decide)
  have z110 : H110 = 0 := num_true _ _ H110 _ 0 rfl (f _ _ t110 b110) (by decide) (by decide)
  have z101 : H101 = 0 := num_true _ _ H101 _ 0 rfl (f _ _ t101 b101) (by decide) (by decide)
  have z002 : H002 = 0 := num_true _ _ H002 _ _ rfl (f _ _ t002 b002) (nmul_le ph ph) (by decide)
  exact ⟨z200, z110, z101, rfl, z011, z002⟩
theorem lns3x (c e g h S300 S210 S201 S120 S111 S102 S030 S021 S012 S003 H300 H210 H201 H120 H111 H102 H030 H021 H012 H003 : Int) (hc : c ≠ 0) (he : e ≠ 0) (z300 : H300 = 0) (b300 : S300.natAbs ≤ 5157348) (b210 : S210.natAbs ≤ 5157348) (b201 : S201.natAbs ≤ 5157348) (b120 : S120.natAbs ≤ 5157348) (b111 : S111.natAbs ≤ 5157348) (b102 : S102.natAbs ≤ 5157348) (b030 : S030.natAbs ≤ 5157348) (b021 : S021.natAbs ≤ 5157348) (b012 : S012.natAbs ≤ 5157348) (b003 : S003.natAbs ≤ 5157348) (t300 : S300 = c * (e * (e * e) + 18446744073709551616 * H300)) (t210 : S210 = c * (3 * (e * (e * g)) + 18446744073709551616 * H210)) (t201 : S201 = c * (3 * (e * (e * h)) + 18446744073709551616 * H201)) (t120 : S120 = c * (3 * (e * (g * g)) + 18446744073709551616 * H120)) (t111 : S111 = c * (6 * (e * (g * h)) + 18446744073709551616 * H111)) (t102 : S102 = c * (3 * (e * (h * h)) + 18446744073709551616 * H102)) (t030 : S030 = c * (g * (g * g) + 18446744073709551616 * H030)) (t021 : S021 = c * (3 * (g * (g * h)) + 18446744073709551616 * H021)) (t012 : S012 = c * (3 * (g * (h * h)) + 18446744073709551616 * H012)) (t003 : S003 = c * (h * (h * h) + 18446744073709551616 * H003)) (dg : (3 * (e * (e * g))).natAbs ≤ 9223372036854775808) (dh : (3 * (e * (e * h))).natAbs ≤ 9223372036854775808) : H300 = 0 ∧ H210 = 0 ∧ H201 = 0 ∧ H120 = 0 ∧ H111 = 0 ∧ H102 = 0 ∧ H030 = 0 ∧ H021 = 0 ∧ H012 = 0 ∧ H003 = 0 := by
  have f := fun (p S : Int) (t : S = c * p) (b : S.natAbs ≤ 5157348) => fs c p S _ hc t b
  have he1 : 1 ≤ e.natAbs := Int.natAbs_pos.mpr he
  subst z300
  have be : e.natAbs ≤ 172 := by
    have r := f _ _ t300 b300
    rw [Int.mul_zero, Int.add_zero] at r
    simp only [Int.natAbs_mul] at r
    rcases Nat.lt_or_ge 172 e.natAbs with q | q
    · exfalso
      have w := Nat.mul_le_mul q (Nat.mul_le_mul q q)
      have w2 := Nat.le_trans w r
      exact absurd w2 (by decide)
    · exact q
  obtain ⟨z210, qg⟩ := dig3 _ _ 0 H210 _ 0 (by rw [Int.add_zero]) (f _ _ t210 b210) (by decide) dg (by decide)
  have pg : g.natAbs ≤ 5157348 := by
    simp only [Int.natAbs_mul] at qg
    have t6 : ((3 : Int)).natAbs = 3 := rfl
    rw [t6] at qg
    have w : 1 * g.natAbs ≤ e.natAbs * (e.natAbs * g.natAbs) := by
      have u := Nat.mul_le_mul he1 (Nat.mul_le_mul he1 (Nat.le_refl g.natAbs))
      simpa only [Nat.one_mul] using u
    omega
  obtain ⟨z201, qh⟩ := dig3 _ _ 0 H201 _ 0 (by rw [Int.add_zero]) (f _ _ t201 b201) (by decide) dh (by decide)
  have ph : h.natAbs ≤ 5157348 := by
    simp only [Int.natAbs_mul] at qh
    have t6 : ((3 : Int)).natAbs = 3 := rfl
    rw [t6] at qh
    have w : 1 * h.natAbs ≤ e.natAbs * (e.natAbs * h.natAbs) := by
      have u := Nat.mul_le_mul he1 (Nat.mul_le_mul he1 (Nat.le_refl h.natAbs))
      simpa only [Nat.one_mul] using u
    omega
  have z120 : H120 = 0 := num_true _ _ H120 _ _ rfl (f _ _ t120 b120) (nmul_le (show (3 : Int).natAbs ≤ 3 by decide) (nmul_le be (nmul_le pg pg))) (by decide)
  have cg : g.natAbs ≤ 2270 := by
    have r := f _ _ t120 b120
    rw [z120, Int.mul_zero, Int.add_zero] at r
    refine sq_P g 5157348 2270 ?_ (by decide)
    simp only [Int.natAbs_mul] at r ⊢
    have t6 : ((3 : Int)).natAbs = 3 := rfl
    rw [t6] at r
    have w : 1 * ((g.natAbs * g.natAbs)) ≤ e.natAbs * (g.natAbs * g.natAbs) := by
      exact Nat.mul_le_mul he1 (Nat.le_refl _)
    simp only [Nat.one_mul] at w
    omega
  have z102 : H102 = 0 := num_true _ _ H102 _ _ rfl (f _ _ t102 b102) (nmul_le (show (3 : Int).natAbs ≤ 3 by decide) (nmul_le be (nmul_le ph ph))) (by decide)
  have ch : h.natAbs ≤ 2270 := by
    have r := f _ _ t102 b102
    rw [z102, Int.mul_zero, Int.add_zero] at r
    refine sq_P h 5157348 2270 ?_ (by decide)
    simp only [Int.natAbs_mul] at r ⊢
    have t6 : ((3 : Int)).natAbs = 3 := rfl
    rw [t6] at r
    have w : 1 * ((h.natAbs * h.natAbs)) ≤ e.natAbs * (h.natAbs * h.natAbs) := by
      exact Nat.mul_le_mul he1 (Nat.le_refl _)
    simp only [Nat.one_mul] at w
    omega
  have z111 : H111 = 0 := num_true _ _ H111 _ _ rfl (f _ _ t111 b111) (nmul_le (show (6 : Int).natAbs ≤ 6 by decide) (nmul_le be (nmul_le cg ch))) (by decide)
  have z030 : H030 = 0 := num_true _ _ H030 _ _ rfl (f _ _ t030 b030) (nmul_le cg (nmul_le cg cg)) (by decide)
  have z021 : H021 = 0 := num_true _ _ H021 _ _ rfl (f _ _ t021 b021) (nmul_le (show (3 : Int).natAbs ≤ 3 by decide) (nmul_le cg (nmul_le cg ch))) (by decide)
  have z012 : H012 = 0 := num_true _ _ H012 _ _ rfl (f _ _ t012 b012) (nmul_le (show (3 : Int).natAbs ≤ 3 by decide) (nmul_le cg (nmul_le ch ch))) (by decide)
  have z003 : H003 = 0 := num_true _ _ H003 _ _ rfl (f _ _ t003 b003) (nmul_le ch (nmul_le ch ch)) (by decide)
  exact ⟨rfl, z210, z201, z120, z111, z102, z030, z021, z012, z003⟩
theorem lns3y (c g h S300 S210 S201 S120 S111 S102 S030 S021 S012 S003 H300 H210 H201 H120 H111 H102 H030 H021 H012 H003 : Int) (hc : c ≠ 0) (he : g ≠ 0) (z030 : H030 = 0) (b300 : S300.natAbs ≤ 5157348) (b210 : S210.natAbs ≤ 5157348) (b201 : S201.natAbs ≤ 5157348) (b120 : S120.natAbs ≤ 5157348) (b111 : S111.natAbs ≤ 5157348) (b102 : S102.natAbs ≤ 5157348) (b030 : S030.natAbs ≤ 5157348) (b021 : S021.natAbs ≤ 5157348) (b012 : S012.natAbs ≤ 5157348) (b003 : S003.natAbs ≤ 5157348) (t300 : S300 = c * (0 + 18446744073709551616 * H300)) (t210 : S210 = c * (0 + 18446744073709551616 * H210)) (t201 : S201 = c * (0 + 18446744073709551616 * H201)) (t120 : S120 = c * (0 + 18446744073709551616 * H120)) (t111 : S111 = c * (0 + 18446744073709551616 * H111)) (t102 : S102 = c * (0 + 18446744073709551616 * H102)) (t030 : S030 = c * (g * (g * g) + 18446744073709551616 * H030)) (t021 : S021 = c * (3 * (g * (g * h)) + 18446744073709551616 * H021)) (t012 : S012 = c * (3 * (g * (h * h)) + 18446744073709551616 * H012)) (t003 : S003 = c * (h * (h * h) + 18446744073709551616 * H003)) (dh : (3 * (g * (g * h))).natAbs ≤ 9223372036854775808) : H300 = 0 ∧ H210 = 0 ∧ H201 = 0 ∧ H120 = 0 ∧ H111 = 0 ∧ H102 = 0 ∧ H030 = 0 ∧ H021 = 0 ∧ H012 = 0 ∧ H003 = 0 := by
  have f := fun (p S : Int) (t : S = c * p) (b : S.natAbs ≤ 5157348) => fs c p S _ hc t b
  have he1 : 1 ≤ g.natAbs := Int.natAbs_pos.mpr he
  subst z030
  have be : g.natAbs ≤ 172 := by
    have r := f _ _ t030 b030
    rw [Int.mul_zero, Int.add_zero] at r
    simp only [Int.natAbs_mul] at r
    rcases Nat.lt_or_ge 172 g.natAbs with q | q
    · exfalso
      have w := Nat.mul_le_mul q (Nat.mul_le_mul q q)
      have w2 := Nat.le_trans w r
      exact absurd w2 (by decide)
    · exact q
  obtain ⟨z021, qh⟩ := dig3 _ _ 0 H021 _ 0 (by rw [Int.add_zero]) (f _ _ t021 b021) (by decide) dh (by decide)
  have ph : h.natAbs ≤ 5157348 := by
    simp only [Int.natAbs_mul] at qh
    have t6 : ((3 : Int)).natAbs = 3 := rfl
    rw [t6] at qh
    have w : 1 * h.natAbs ≤ g.natAbs * (g.natAbs * h.natAbs) := by
      have u := Nat.mul_le_mul he1 (Nat.mul_le_mul he1 (Nat.le_refl h.natAbs))
      simpa only [Nat.one_mul] using u
    omega
  have z012 : H012 = 0 := num_true _ _ H012 _ _ rfl (f _ _ t012 b012) (nmul_le (show (3 : Int).natAbs ≤ 3 by decide) (nmul_le be (nmul_le ph ph))) (by decide)
  have ch : h.natAbs ≤ 2270 := by
    have r := f _ _ t012 b012
    rw [z012, Int.mul_zero, Int.add_zero] at r
    refine sq_P h 5157348 2270 ?_ (by decide)
    simp only [Int.natAbs_mul] at r ⊢
    have t6 : ((3 : Int)).natAbs = 3 := rfl
    rw [t6] at r
    have w : 1 * ((h.natAbs * h.natAbs)) ≤ g.natAbs * (h.natAbs * h.natAbs) := by
      exact Nat.mul_le_mul he1 (Nat.le_refl _)
    simp only [Nat.one_mul] at w
    omega
  have z300 : H300 = 0 := num_true _ _ H300 _ 0 rfl (f _ _ t300 b300) (by decide) (by decide)
  have z210 : H210 = 0 := num_true _ _ H210 _ 0 rfl (f _ _ t210 b210) (by decide) (by decide)
  have z201 : H201 = 0 := num_true _ _ H201 _ 0 rfl (f _ _ t201 b201) (by decide) (by decide)
  have z120 : H120 = 0 := num_true _ _ H120 _ 0 rfl (f _ _ t120 b120) (by decide) (by decide)
  have z111 : H111 = 0 := num_true _ _ H111 _ 0 rfl (f _ _ t111 b111) (by decide) (by decide)
  have z102 : H102 = 0 := num_true _ _ H102 _ 0 rfl (f _ _ t102 b102) (by decide) (by decide)
  have z003 : H003 = 0 := num_true _ _ H003 _ _ rfl (f _ _ t003 b003) (nmul_le ch (nmul_le ch ch)) (by decide)
  exact ⟨z300, z210, z201, z120, z111, z102, rfl, z021, z012, z003⟩
theorem lns4x (c e g h S400 S310 S301 S220 S211 S202 S130 S121 S112 S103 S040 S031 S022 S013 S004 H400 H310 H301 H220 H211 H202 H130 H121 H112 H103 H040 H031 H022 H013 H004 : Int) (hc : c ≠ 0) (he : e ≠ 0) (z400 : H400 = 0) (b400 : S400.natAbs ≤ 5157348) (b310 : S310.natAbs ≤ 5157348) (b301 : S301.natAbs ≤ 5157348) (b220 : S220.natAbs ≤ 5157348) (b211 : S211.natAbs ≤ 5157348) (b202 : S202.natAbs ≤ 5157348) (b130 : S130.natAbs ≤ 5157348) (b121 : S121.natAbs ≤ 5157348) (b112 : S112.natAbs ≤ 5157348) (b103 : S103.natAbs ≤ 5157348) (b040 : S040.natAbs ≤ 5157348) (b031 : S031.natAbs ≤ 5157348) (b022 : S022.natAbs ≤ 5157348) (b013 : S013.natAbs ≤ 5157348) (b004 : S004.natAbs ≤ 5157348) (t400 : S400 = c * (e * (e * (e * e)) + 18446744073709551616 * H400)) (t310 : S310 = c * (4 * (e * (e * (e * g))) + 18446744073709551616 * H310)) (t301 : S301 = c * (4 * (e * (e * (e * h))) + 18446744073709551616 * H301)) (t220 : S220 = c * (6 * (e * (e * (g * g))) + 18446744073709551616 * H220)) (t211 : S211 = c * (12 * (e * (e * (g * h))) + 18446744073709551616 * H211)) (t202 : S202 = c * (6 * (e * (e * (h * h))) + 18446744073709551616 * H202)) (t130 : S130 = c * (4 * (e * (g * (g * g))) + 18446744073709551616 * H130)) (t121 : S121 = c * (12 * (e * (g * (g * h))) + 18446744073709551616 * H121)) (t112 : S112 = c * (12 * (e * (g * (h * h))) + 18446744073709551616 * H112)) (t103 : S103 = c * (4 * (e * (h * (h * h))) + 18446744073709551616 * H103)) (t040 : S040 = c * (g * (g * (g * g)) + 18446744073709551616 * H040)) (t031 : S031 = c * (4 * (g * (g * (g * h))) + 18446744073709551616 * H031)) (t022 : S022 = c * (6 * (g * (g * (h * h))) + 18446744073709551616 * H022)) (t013 : S013 = c * (4 * (g * (h * (h * h))) + 18446744073709551616 * H013)) (t004 : S004 = c * (h * (h * (h * h)) + 18446744073709551616 * H004)) (dg : (4 * (e * (e * (e * g)))).natAbs ≤ 9223372036854775808) (dh : (4 * (e * (e * (e * h)))).natAbs ≤ 9223372036854775808) : H400 = 0 ∧ H310 = 0 ∧ H301 = 0 ∧ H220 = 0 ∧ H211 = 0 ∧ H202 = 0 ∧ H130 = 0 ∧ H121 = 0 ∧ H112 = 0 ∧ H103 = 0 ∧ H040 = 0 ∧ H031 = 0 ∧ H022 = 0 ∧ H013 = 0 ∧ H004 = 0 := by
  have f := fun (p S : Int) (t : S = c * p) (b : S.natAbs ≤ 5157348) => fs c p S _ hc t b
  have he1 : 1 ≤ e.natAbs := Int.natAbs_pos.mpr he
  subst z400
  have be : e.natAbs ≤ 47 := by
    have r := f _ _ t400 b400
    rw [Int.mul_zero, Int.add_zero] at r
    simp only [Int.natAbs_mul] at r
    rcases Nat.lt_or_ge 47 e.natAbs with q | q
    · exfalso
      have w := Nat.mul_le_mul q (Nat.mul_le_mul q (Nat.mul_le_mul q q))
      have w2 := Nat.le_trans w r
      exact absurd w2 (by decide)
    · exact q
  obtain ⟨z310, qg⟩ := dig3 _ _ 0 H310 _ 0 (by rw [Int.add_zero]) (f _ _ t310 b310) (by decide) dg (by decide)
  have pg : g.natAbs ≤ 5157348 := by
    simp only [Int.natAbs_mul] at qg
    have t6 : ((4 : Int)).natAbs = 4 := rfl
    rw [t6] at qg
    have w : 1 * g.natAbs ≤ e.natAbs * (e.natAbs * (e.natAbs * g.natAbs)) := by
      have u := Nat.mul_le_mul he1 (Nat.mul_le_mul he1 (Nat.mul_le_mul he1 (Nat.le_refl g.natAbs)))
      simpa only [Nat.one_mul] using u
    omega
  obtain ⟨z301, qh⟩ := dig3 _ _ 0 H301 _ 0 (by rw [Int.add_zero]) (f _ _ t301 b301) (by decide) dh (by decide)
  have ph : h.natAbs ≤ 5157348 := by
    simp only [Int.natAbs_mul] at qh
    have t6 : ((4 : Int)).natAbs = 4 := rfl
    rw [t6] at qh
    have w : 1 * h.natAbs ≤ e.natAbs * (e.natAbs * (e.natAbs * h.natAbs)) := by
      have u := Nat.mul_le_mul he1 (Nat.mul_le_mul he1 (Nat.mul_le_mul he1 (Nat.le_refl h.natAbs)))
      simpa only [Nat.one_mul] using u
    omega
  have z220 : H220 = 0 := num_true _ _ H220 _ _ rfl (f _ _ t220 b220) (nmul_le (show (6 : Int).natAbs ≤ 6 by decide) (nmul_le be (nmul_le be (nmul_le pg pg)))) (by decide)
  have cg : g.natAbs ≤ 2270 := by
    have r := f _ _ t220 b220
    rw [z220, Int.mul_zero, Int.add_zero] at r
    refine sq_P g 5157348 2270 ?_ (by decide)
    simp only [Int.natAbs_mul] at r ⊢
    have t6 : ((6 : Int)).natAbs = 6 := rfl
    rw [t6] at r
    have w : 1 * (1 * ((g.natAbs * g.natAbs))) ≤ e.natAbs * (e.natAbs * (g.natAbs * g.natAbs)) := by
      exact Nat.mul_le_mul he1 (Nat.mul_le_mul he1 (Nat.le_refl _))
    simp only [Nat.one_mul] at w
    omega
  have z202 : H202 = 0 := num_true _ _ H202 _ _ rfl (f _ _ t202 b202) (nmul_le (show (6 : Int).natAbs ≤ 6 by decide) (nmul_le be (nmul_le be (nmul_le ph ph)))) (by decide)
  have ch : h.natAbs ≤ 2270 := by
    have r := f _ _ t202 b202
    rw [z202, Int.mul_zero, Int.add_zero] at r
    refine sq_P h 5157348 2270 ?_ (by decide)
    simp only [Int.natAbs_mul] at r ⊢
    have t6 : ((6 : Int)).natAbs = 6 := rfl
    rw [t6] at r
    have w : 1 * (1 * ((h.natAbs * h.natAbs))) ≤ e.natAbs * (e.natAbs * (h.natAbs * h.natAbs)) := by
      exact Nat.mul_le_mul he1 (Nat.mul_le_mul he1 (Nat.le_refl _))
    simp only [Nat.one_mul] at w
    omega
  have z211 : H211 = 0 := num_true _ _ H211 _ _ rfl (f _ _ t211 b211) (nmul_le (show (12 : Int).natAbs ≤ 12 by decide) (nmul_le be (nmul_le be (nmul_le cg ch)))) (by decide)
  have z130 : H130 = 0 := num_true _ _ H130 _ _ rfl (f _ _ t130 b130) (nmul_le (show (4 : Int).natAbs ≤ 4 by decide) (nmul_le be (nmul_le cg (nmul_le cg cg)))) (by decide)
  have z121 : H121 = 0 := num_true _ _ H121 _ _ rfl (f _ _ t121 b121) (nmul_le (show (12 : Int).natAbs ≤ 12 by decide) (nmul_le be (nmul_le cg (nmul_le cg ch)))) (by decide)
  have z112 : H112 = 0 := num_true _ _ H112 _ _ rfl (f _ _ t112 b112) (nmul_le (show (12 : Int).natAbs ≤ 12 by decide) (nmul_le be (nmul_le cg (nmul_le ch ch)))) (by decide)
  have z103 : H103 = 0 := num_true _ _ H103 _ _ rfl (f _ _ t103 b103) (nmul_le (show (4 : Int).natAbs ≤ 4 by decide) (nmul_le be (nmul_le ch (nmul_le ch ch)))) (by decide)
  have z040 : H040 = 0 := num_true _ _ H040 _ _ rfl (f _ _ t040 b040) (nmul_le cg (nmul_le cg (nmul_le cg cg))) (by decide)
  have z031 : H031 = 0 := num_true _ _ H031 _ _ rfl (f _ _ t031 b031) (nmul_le (show (4 : Int).natAbs ≤ 4 by decide) (nmul_le cg (nmul_le cg (nmul_le cg ch)))) (by decide)
  have z022 : H022 = 0 := num_true _ _ H022 _ _ rfl (f _ _ t022 b022) (nmul_le (show (6 : Int).natAbs ≤ 6 by decide) (nmul_le cg (nmul_le cg (nmul_le ch ch)))) (by decide)
  have z013 : H013 = 0 := num_true _ _ H013 _ _ rfl (f _ _ t013 b013) (nmul_le (show (4 : Int).natAbs ≤ 4 by decide) (nmul_le cg (nmul_le ch (nmul_le ch ch)))) (by decide)
  have z004 : H004 = 0 := num_true _ _ H004 _ _ rfl (f _ _ t004 b004) (nmul_le ch (nmul_le ch (nmul_le ch ch))) (by decide)
  exact ⟨rfl, z310, z301, z220, z211, z202, z130, z121, z112, z103, z040, z031, z022, z013, z004⟩
theorem lns4y (c g h S400 S310 S301 S220 S211 S202 S130 S121 S112 S103 S040 S031 S022 S013 S004 H400 H310 H301 H220 H211 H202 H130 H121 H112 H103 H040 H031 H022 H013 H004 : Int) (hc : c ≠ 0) (he : g ≠ 0) (z040 : H040 = 0) (b400 : S400.natAbs ≤ 5157348) (b310 : S310.natAbs ≤ 5157348) (b301 : S301.natAbs ≤ 5157348) (b220 : S220.natAbs ≤ 5157348) (b211 : S211.natAbs ≤ 5157348) (b202 : S202.natAbs ≤ 5157348) (b130 : S130.natAbs ≤ 5157348) (b121 : S121.natAbs ≤ 5157348) (b112 : S112.natAbs ≤ 5157348) (b103 : S103.natAbs ≤ 5157348) (b040 : S040.natAbs ≤ 5157348) (b031 : S031.natAbs ≤ 5157348) (b022 : S022.natAbs ≤ 5157348) (b013 : S013.natAbs ≤ 5157348) (b004 : S004.natAbs ≤ 5157348) (t400 : S400 = c * (0 + 18446744073709551616 * H400)) (t310 : S310 = c * (0 + 18446744073709551616 * H310)) (t301 : S301 = c * (0 + 18446744073709551616 * H301)) (t220 : S220 = c * (0 + 18446744073709551616 * H220)) (t211 : S211 = c * (0 + 18446744073709551616 * H211)) (t202 : S202 = c * (0 + 18446744073709551616 * H202)) (t130 : S130 = c * (0 + 18446744073709551616 * H130)) (t121 : S121 = c * (0 + 18446744073709551616 * H121)) (t112 : S112 = c * (0 + 18446744073709551616 * H112)) (t103 : S103 = c * (0 + 18446744073709551616 * H103)) (t040 : S040 = c * (g * (g * (g * g)) + 18446744073709551616 * H040)) (t031 : S031 = c * (4 * (g * (g * (g * h))) + 18446744073709551616 * H031)) (t022 : S022 = c * (6 * (g * (g * (h * h))) + 18446744073709551616 * H022)) (t013 : S013 = c * (4 * (g * (h * (h * h))) + 18446744073709551616 * H013)) (t004 : S004 = c * (h * (h * (h * h)) + 18446744073709551616 * H004)) (dh : (4 * (g * (g * (g * h)))).natAbs ≤ 9223372036854775808) : H400 = 0 ∧ H310 = 0 ∧ H301 = 0 ∧ H220 = 0 ∧ H211 = 0 ∧ H202 = 0 ∧ H130 = 0 ∧ H121 = 0 ∧ H112 = 0 ∧ H103 = 0 ∧ H040 = 0 ∧ H031 = 0 ∧ H022 = 0 ∧ H013 = 0 ∧ H004 = 0 := by
  have f := fun (p S : Int) (t : S = c * p) (b : S.natAbs ≤ 5157348) => fs c p S _ hc t b
  have he1 : 1 ≤ g.natAbs := Int.natAbs_pos.mpr he
  subst z040
  have be : g.natAbs ≤ 47 := by
    have r := f _ _ t040 b040
    rw [Int.mul_zero, Int.add_zero] at r
    simp only [Int.natAbs_mul] at r
    rcases Nat.lt_or_ge 47 g.natAbs with q | q
    · exfalso
      have w := Nat.mul_le_mul q (Nat.mul_le_mul q (Nat.mul_le_mul q q))
      have w2 := Nat.le_trans w r
      exact absurd w2 (by decide)
    · exact q
  obtain ⟨z031, qh⟩ := dig3 _ _ 0 H031 _ 0 (by rw [Int.add_zero]) (f _ _ t031 b031) (by decide) dh (by decide)
  have ph : h.natAbs ≤ 5157348 := by
    simp only [Int.natAbs_mul] at qh
    have t6 : ((4 : Int)).natAbs = 4 := rfl
    rw [t6] at qh
    have w : 1 * h.natAbs ≤ g.natAbs * (g.natAbs * (g.natAbs * h.natAbs)) := by
      have u := Nat.mul_le_mul he1 (Nat.mul_le_mul he1 (Nat.mul_le_mul he1 (Nat.le_refl h.natAbs)))
      simpa only [Nat.one_mul] using u
    omega
  have z022 : H022 = 0 := num_true _ _ H022 _ _ rfl (f _ _ t022 b022) (nmul_le (show (6 : Int).natAbs ≤ 6 by decide) (nmul_le be (nmul_le be (nmul_le ph ph)))) (by decide)
  have ch : h.natAbs ≤ 2270 := by
    have r := f _ _ t022 b022
    rw [z022, Int.mul_zero, Int.add_zero] at r
    refine sq_P h 5157348 2270 ?_ (by decide)
    simp only [Int.natAbs_mul] at r ⊢
    have t6 : ((6 : Int)).natAbs = 6 := rfl
    rw [t6] at r
    have w : 1 * (1 * ((h.natAbs * h.natAbs))) ≤ g.natAbs * (g.natAbs * (h.natAbs * h.natAbs)) := by
      exact Nat.mul_le_mul he1 (Nat.mul_le_mul he1 (Nat.le_refl _))
    simp only [Nat.one_mul] at w
    omega
  have z400 : H400 = 0 := num_true _ _ H400 _ 0 rfl (f _ _ t400 b400) (by decide) (by decide)
  have z310 : H310 = 0 := num_true _ _ H310 _ 0 rfl (f _ _ t310 b310) (by decide) (by decide)
  have z301 : H301 = 0 := num_true _ _ H301 _ 0 rfl (f _ _ t301 b301) (by decide) (by decide)
  have z220 : H220 = 0 := num_true _ _ H220 _ 0 rfl (f _ _ t220 b220) (by decide) (by decide)
  have z211 : H211 = 0 := num_true _ _ H211 _ 0 rfl (f _ _ t211 b211) (by decide) (by decide)
  have z202 : H202 = 0 := num_true _ _ H202 _ 0 rfl (f _ _ t202 b202) (by decide) (by decide)
  have z130 : H130 = 0 := num_true _ _ H130 _ 0 rfl (f _ _ t130 b130) (by decide) (by decide)
  have z121 : H121 = 0 := num_true _ _ H121 _ 0 rfl (f _ _ t121 b121) (by decide) (by decide)
  have z112 : H112 = 0 := num_true _ _ H112 _ 0 rfl (f _ _ t112 b112) (by decide) (by decide)
  have z103 : H103 = 0 := num_true _ _ H103 _ 0 rfl (f _ _ t103 b103) (by decide) (by decide)
  have z013 : H013 = 0 := num_true _ _ H013 _ _ rfl (f _ _ t013 b013) (nmul_le (show (4 : Int).natAbs ≤ 4 by decide) (nmul_le be (nmul_le ch (nmul_le ch ch)))) (by decide)
  have z004 : H004 = 0 := num_true _ _ H004 _ _ rfl (f _ _ t004 b004) (nmul_le ch (nmul_le ch (nmul_le ch ch))) (by decide)
  exact ⟨z400, z310, z301, z220, z211, z202, z130, z121, z112, z103, rfl, z031, z022, z013, z004⟩
