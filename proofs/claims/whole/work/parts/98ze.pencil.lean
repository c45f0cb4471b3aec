/-! the four quartics, one by one; THE PENCIL'S SQUARE -/
theorem bx_v5 (a b c d e : Int) (ha : a.natAbs ≤ 7) (hb : b.natAbs ≤ 7) (hc : c.natAbs ≤ 7) (hd : d.natAbs ≤ 7) (he : e.natAbs ≤ 7) : bx7 (v5 a b c d e)
  | 0 => ha
  | 1 => hb
  | 2 => hc
  | 3 => hd
  | _ + 4 => he
theorem lt15 (P : Nat → Prop) (h0 : P 0) (h1 : P 1) (h2 : P 2) (h3 : P 3) (h4 : P 4) (h5 : P 5) (h6 : P 6) (h7 : P 7) (h8 : P 8) (h9 : P 9) (h10 : P 10) (h11 : P 11) (h12 : P 12) (h13 : P 13) (h14 : P 14) (k : Nat) (hk : k < 15) : P k := by
  have : k = 0 ∨ k = 1 ∨ k = 2 ∨ k = 3 ∨ k = 4 ∨ k = 5 ∨ k = 6 ∨ k = 7 ∨ k = 8 ∨ k = 9 ∨ k = 10 ∨ k = 11 ∨ k = 12 ∨ k = 13 ∨ k = 14 := by omega
  rcases this with r | r | r | r | r | r | r | r | r | r | r | r | r | r | r <;> subst r <;> assumption
theorem four1 (X Z : Nat → Int) (hx : X = v5 4 1 (-3) (-4) 3) (hZ : bx7 Z) (c e0 e1 e2 e3 h3 h4 h5 h6 : Int) (q0 : qG X Z 0 = 27 * c * (e0 * e0)) (q1 : qG X Z 1 = 27 * c * (2 * e0 * e1)) (q2 : qG X Z 2 = 27 * c * (2 * e0 * e2 + e1 * e1)) (q3 : qG X Z 3 = 27 * c * (2 * e0 * e3 + 2 * e1 * e2 + 18446744073709551616 * h3)) (q4 : qG X Z 4 = 27 * c * (2 * e1 * e3 + e2 * e2 + 18446744073709551616 * h4)) (q5 : qG X Z 5 = 27 * c * (2 * e2 * e3 + 18446744073709551616 * h5)) (q6 : qG X Z 6 = 27 * c * (e3 * e3 + 18446744073709551616 * h6)) (hd : (2 * e0 * e3).natAbs ≤ 2 ^ 63) : h3 = 0 ∧ h4 = 0 ∧ h5 = 0 ∧ h6 = 0 := by
  have hX : bx7 X := by
    rw [hx]
    exact bx_v5 _ _ _ _ _ (by decide) (by decide) (by decide) (by decide) (by decide)
  have hD : qD X = (-621) := by
    rw [hx]
    decide +kernel
  have w := xF_sound X Z hX hZ 4 1 18446744073709551613 18446744073709551612 3 8127702 6115986 4601772 3462588 2604960 74685240 42472836 18234720 76955101 1242 18446744073709549132 3085128 175576382669741495137727145836544 (-621) (by rw [hx]; decide +kernel) (by rw [hx]; decide +kernel) (by rw [hx]; decide +kernel) (by rw [hx]; decide +kernel) (by rw [hx]; decide +kernel) (by rw [hx]; decide +kernel) (by rw [hx]; decide +kernel) (by rw [hx]; decide +kernel) (by rw [hx]; decide +kernel) (by rw [hx]; decide +kernel) (by decide +kernel) (by rw [hx]; decide +kernel) (by rw [hx]; decide +kernel) (by rw [hx]; decide +kernel) (by rw [hx]; decide +kernel) (by rw [hx]; decide +kernel) (by rw [hx]; decide +kernel) (by
    rw [hx]
    exact lt15 _ xf1_0 xf1_1 xf1_2 xf1_3 xf1_4 xf1_5 xf1_6 xf1_7 xf1_8 xf1_9 xf1_10 xf1_11 xf1_12 xf1_13 xf1_14)
  refine fourX X Z hX hZ c e0 e1 e2 e3 h3 h4 h5 h6 q0 q1 q2 q3 q4 q5 q6 hd 621 1 76955101 (by rw [hD]; decide +kernel) (by rw [hD]; decide +kernel) (by decide) (by rw [hx]; decide +kernel) (by rw [hx]; decide +kernel) ?_
  rw [hD]
  exact w
theorem four2 (X Z : Nat → Int) (hx : X = v5 5 5 (-7) (-2) 2) (hZ : bx7 Z) (c e0 e1 e2 e3 h3 h4 h5 h6 : Int) (q0 : qG X Z 0 = 27 * c * (e0 * e0)) (q1 : qG X Z 1 = 27 * c * (2 * e0 * e1)) (q2 : qG X Z 2 = 27 * c * (2 * e0 * e2 + e1 * e1)) (q3 : qG X Z 3 = 27 * c * (2 * e0 * e3 + 2 * e1 * e2 + 18446744073709551616 * h3)) (q4 : qG X Z 4 = 27 * c * (2 * e1 * e3 + e2 * e2 + 18446744073709551616 * h4)) (q5 : qG X Z 5 = 27 * c * (2 * e2 * e3 + 18446744073709551616 * h5)) (q6 : qG X Z 6 = 27 * c * (e3 * e3 + 18446744073709551616 * h6)) (hd : (2 * e0 * e3).natAbs ≤ 2 ^ 63) : h3 = 0 ∧ h4 = 0 ∧ h5 = 0 ∧ h6 = 0 := by
  have hX : bx7 X := by
    rw [hx]
    exact bx_v5 _ _ _ _ _ (by decide) (by decide) (by decide) (by decide) (by decide)
  have hD : qD X = 5400 := by
    rw [hx]
    decide +kernel
  have w := xF_sound X Z hX hZ 5 5 18446744073709551609 18446744073709551614 2 18446744073702190876 18446744073704949736 18446744073706671256 18446744073707754496 18446744073708426256 40619880 20457360 7877520 118798125 1080 21600 23328000 1003863666409090848804726374400000 5400 (by rw [hx]; decide +kernel) (by rw [hx]; decide +kernel) (by rw [hx]; decide +kernel) (by rw [hx]; decide +kernel) (by rw [hx]; decide +kernel) (by rw [hx]; decide +kernel) (by rw [hx]; decide +kernel) (by rw [hx]; decide +kernel) (by rw [hx]; decide +kernel) (by rw [hx]; decide +kernel) (by decide +kernel) (by rw [hx]; decide +kernel) (by rw [hx]; decide +kernel) (by rw [hx]; decide +kernel) (by rw [hx]; decide +kernel) (by rw [hx]; decide +kernel) (by rw [hx]; decide +kernel) (by
    rw [hx]
    exact lt15 _ xf2_0 xf2_1 xf2_2 xf2_3 xf2_4 xf2_5 xf2_6 xf2_7 xf2_8 xf2_9 xf2_10 xf2_11 xf2_12 xf2_13 xf2_14)
  refine fourX X Z hX hZ c e0 e1 e2 e3 h3 h4 h5 h6 q0 q1 q2 q3 q4 q5 q6 hd 54 10 118798125 (by rw [hD]; decide +kernel) (by rw [hD]; decide +kernel) (by decide) (by rw [hx]; decide +kernel) (by rw [hx]; decide +kernel) ?_
  rw [hD]
  exact w
theorem four3 (X Z : Nat → Int) (hx : X = v5 6 3 6 7 2) (hZ : bx7 Z) (c e0 e1 e2 e3 h3 h4 h5 h6 : Int) (q0 : qG X Z 0 = 27 * c * (e0 * e0)) (q1 : qG X Z 1 = 27 * c * (2 * e0 * e1)) (q2 : qG X Z 2 = 27 * c * (2 * e0 * e2 + e1 * e1)) (q3 : qG X Z 3 = 27 * c * (2 * e0 * e3 + 2 * e1 * e2 + 18446744073709551616 * h3)) (q4 : qG X Z 4 = 27 * c * (2 * e1 * e3 + e2 * e2 + 18446744073709551616 * h4)) (q5 : qG X Z 5 = 27 * c * (2 * e2 * e3 + 18446744073709551616 * h5)) (q6 : qG X Z 6 = 27 * c * (e3 * e3 + 18446744073709551616 * h6)) (hd : (2 * e0 * e3).natAbs ≤ 2 ^ 63) : h3 = 0 ∧ h4 = 0 ∧ h5 = 0 ∧ h6 = 0 := by
  have hX : bx7 X := by
    rw [hx]
    exact bx_v5 _ _ _ _ _ (by decide) (by decide) (by decide) (by decide) (by decide)
  have hD : qD X = (-34992) := by
    rw [hx]
    decide +kernel
  have w := xF_sound X Z hX hZ 6 3 6 7 2 23750820 18446744073697383148 6219828 18446744073706376092 1612548 77055300 33516504 11287836 294628648 1944 18446744073709411648 272097792 37937373208185859539884984116445184 (-34992) (by rw [hx]; decide +kernel) (by rw [hx]; decide +kernel) (by rw [hx]; decide +kernel) (by rw [hx]; decide +kernel) (by rw [hx]; decide +kernel) (by rw [hx]; decide +kernel) (by rw [hx]; decide +kernel) (by rw [hx]; decide +kernel) (by rw [hx]; decide +kernel) (by rw [hx]; decide +kernel) (by decide +kernel) (by rw [hx]; decide +kernel) (by rw [hx]; decide +kernel) (by rw [hx]; decide +kernel) (by rw [hx]; decide +kernel) (by rw [hx]; decide +kernel) (by rw [hx]; decide +kernel) (by
    rw [hx]
    exact lt15 _ xf3_0 xf3_1 xf3_2 xf3_3 xf3_4 xf3_5 xf3_6 xf3_7 xf3_8 xf3_9 xf3_10 xf3_11 xf3_12 xf3_13 xf3_14)
  refine fourX X Z hX hZ c e0 e1 e2 e3 h3 h4 h5 h6 q0 q1 q2 q3 q4 q5 q6 hd 27 36 294628648 (by rw [hD]; decide +kernel) (by rw [hD]; decide +kernel) (by decide) (by rw [hx]; decide +kernel) (by rw [hx]; decide +kernel) ?_
  rw [hD]
  exact w
theorem four4 (X Z : Nat → Int) (hx : X = v5 6 5 (-6) (-6) 4) (hZ : bx7 Z) (c e0 e1 e2 e3 h3 h4 h5 h6 : Int) (q0 : qG X Z 0 = 27 * c * (e0 * e0)) (q1 : qG X Z 1 = 27 * c * (2 * e0 * e1)) (q2 : qG X Z 2 = 27 * c * (2 * e0 * e2 + e1 * e1)) (q3 : qG X Z 3 = 27 * c * (2 * e0 * e3 + 2 * e1 * e2 + 18446744073709551616 * h3)) (q4 : qG X Z 4 = 27 * c * (2 * e1 * e3 + e2 * e2 + 18446744073709551616 * h4)) (q5 : qG X Z 5 = 27 * c * (2 * e2 * e3 + 18446744073709551616 * h5)) (q6 : qG X Z 6 = 27 * c * (e3 * e3 + 18446744073709551616 * h6)) (hd : (2 * e0 * e3).natAbs ≤ 2 ^ 63) : h3 = 0 ∧ h4 = 0 ∧ h5 = 0 ∧ h6 = 0 := by
  have hX : bx7 X := by
    rw [hx]
    exact bx_v5 _ _ _ _ _ (by decide) (by decide) (by decide) (by decide) (by decide)
  have hD : qD X = (-23328) := by
    rw [hx]
    decide +kernel
  have w := xF_sound X Z hX hZ 6 5 18446744073709551610 18446744073709551610 4 38001312 25555824 17169408 11547360 7744896 255231648 135045792 54214272 447485989 3888 18446744073709458304 362797056 202332657110324584212719915287707648 (-23328) (by rw [hx]; decide +kernel) (by rw [hx]; decide +kernel) (by rw [hx]; decide +kernel) (by rw [hx]; decide +kernel) (by rw [hx]; decide +kernel) (by rw [hx]; decide +kernel) (by rw [hx]; decide +kernel) (by rw [hx]; decide +kernel) (by rw [hx]; decide +kernel) (by rw [hx]; decide +kernel) (by decide +kernel) (by rw [hx]; decide +kernel) (by rw [hx]; decide +kernel) (by rw [hx]; decide +kernel) (by rw [hx]; decide +kernel) (by rw [hx]; decide +kernel) (by rw [hx]; decide +kernel) (by
    rw [hx]
    exact lt15 _ xf4_0 xf4_1 xf4_2 xf4_3 xf4_4 xf4_5 xf4_6 xf4_7 xf4_8 xf4_9 xf4_10 xf4_11 xf4_12 xf4_13 xf4_14)
  refine fourX X Z hX hZ c e0 e1 e2 e3 h3 h4 h5 h6 q0 q1 q2 q3 q4 q5 q6 hd 162 12 447485989 (by rw [hD]; decide +kernel) (by rw [hD]; decide +kernel) (by decide) (by rw [hx]; decide +kernel) (by rw [hx]; decide +kernel) ?_
  rw [hD]
  exact w
theorem v5_eq (X : Nat → Int) (a b c d e : Int) (h : qX a b c d e X) (Z : Nat → Int) (j : Nat) : qG X Z j = qG (v5 a b c d e) Z j := by
  obtain ⟨h0, h1, h2, h3, h4⟩ := h
  rw [qG_v5, h0, h1, h2, h3, h4, qG_z5]
/-- THE PENCIL'S SQUARE: with true first digits, a square mod 2^64 is a true one -/
theorem pencil_sq (X Z : Nat → Int) (hX : bx7 X) (hZ : bx7 Z) (hD : qD X ≠ 0) (c e0 e1 e2 e3 h3 h4 h5 h6 : Int) (q0 : qG X Z 0 = 27 * c * (e0 * e0)) (q1 : qG X Z 1 = 27 * c * (2 * e0 * e1)) (q2 : qG X Z 2 = 27 * c * (2 * e0 * e2 + e1 * e1)) (q3 : qG X Z 3 = 27 * c * (2 * e0 * e3 + 2 * e1 * e2 + 18446744073709551616 * h3)) (q4 : qG X Z 4 = 27 * c * (2 * e1 * e3 + e2 * e2 + 18446744073709551616 * h4)) (q5 : qG X Z 5 = 27 * c * (2 * e2 * e3 + 18446744073709551616 * h5)) (q6 : qG X Z 6 = 27 * c * (e3 * e3 + 18446744073709551616 * h6)) (hd : (2 * e0 * e3).natAbs ≤ 2 ^ 63) : h3 = 0 ∧ h4 = 0 ∧ h5 = 0 ∧ h6 = 0 := by
  rcases pencil2 X Z hX hZ hD c e0 e1 e2 e3 h3 h4 h5 h6 q0 q1 q2 q3 q4 q5 q6 hd with r | ⟨Y, V, hY, hV, hG⟩
  · exact r
  · rw [← hG] at q0 q1 q2 q3 q4 q5 q6
    rcases hY with hY | hY | hY | hY
    all_goals rw [v5_eq Y _ _ _ _ _ hY V] at q0 q1 q2 q3 q4 q5 q6
    · exact four1 _ V rfl hV c e0 e1 e2 e3 h3 h4 h5 h6 q0 q1 q2 q3 q4 q5 q6 hd
    · exact four2 _ V rfl hV c e0 e1 e2 e3 h3 h4 h5 h6 q0 q1 q2 q3 q4 q5 q6 hd
    · exact four3 _ V rfl hV c e0 e1 e2 e3 h3 h4 h5 h6 q0 q1 q2 q3 q4 q5 q6 hd
    · exact four4 _ V rfl hV c e0 e1 e2 e3 h3 h4 h5 h6 q0 q1 q2 q3 q4 q5 q6 hd
/-- no quartic of the box has the discriminant 1 or -1 -/
theorem D_big (X : Nat → Int) (hX : bx7 X) (hD : qD X ≠ 0) : 27 < (qD X).natAbs := by
  have g0 : ∀ X Z : Nat → Int, qG X Z 0 = qD X := by
    intro X Z
    unfold qG qD
    rfl
  obtain ⟨Y, V, y1, y2, y3, y4, y5, y6⟩ := canonq X X hX hX
  have e : qD Y = qD X := by rw [← g0 Y V, y3, g0]
  rw [← e] at hD ⊢
  rcases (box_test Y y1 y4 y5 y6 hD).1 with t | t
  · exact t.2
  · rw [← g0 Y Y]
    rcases t with t | t | t | t
    all_goals rw [v5_eq Y _ _ _ _ _ t Y, g0]; decide +kernel
