/-! the linear factor -/
def agr (p q : Int) (Z c : Nat → Int) : Prop := Z 0 = -q * c 0 ∧ Z 1 = p * c 0 - q * c 1 ∧ Z 2 = p * c 1 - q * c 2 ∧ Z 3 = p * c 2 - q * c 3 ∧ Z 4 = p * c 3
def bcn (n : Nat) (c : Nat → Int) : Prop := (c 0).natAbs ≤ 7 ∧ (c 1).natAbs ≤ n ∧ (c 2).natAbs ≤ n ∧ (c 3).natAbs ≤ 7
theorem fac1 (Z : Nat → Int) (h : bx7 Z) (hw : 1 * Z 0 + 0 * Z 1 + 0 * Z 2 + 0 * Z 3 + 0 * Z 4 = 0) : ∃ c : Nat → Int, bcn 7 c ∧ agr 1 0 Z c := by
  have h0 := h 0
  have h1 := h 1
  have h2 := h 2
  have h3 := h 3
  have h4 := h 4
  refine ⟨v5 (Z 1) (Z 2) (Z 3) (Z 4) 0, ?_, ?_⟩
  · show (Z 1).natAbs ≤ 7 ∧ (Z 2).natAbs ≤ 7 ∧ (Z 3).natAbs ≤ 7 ∧ (Z 4).natAbs ≤ 7
    refine ⟨?_, ?_, ?_, ?_⟩ <;> omega
  · show Z 0 = -0 * (Z 1) ∧ Z 1 = 1 * (Z 1) - 0 * (Z 2) ∧ Z 2 = 1 * (Z 2) - 0 * (Z 3) ∧ Z 3 = 1 * (Z 3) - 0 * (Z 4) ∧ Z 4 = 1 * (Z 4)
    refine ⟨?_, ?_, ?_, ?_, ?_⟩ <;> omega
theorem dbl1 (X a : Nat → Int) (h : agr 1 0 X a) (hd : 1 * X 1 + 0 * X 2 + 0 * X 3 + 0 * X 4 = 0) : rc 1 0 a = 0 := by
  obtain ⟨h0, h1, h2, h3, h4⟩ := h
  unfold rc
  omega
theorem fac2 (Z : Nat → Int) (h : bx7 Z) (hw : 0 * Z 0 + 0 * Z 1 + 0 * Z 2 + 0 * Z 3 + 1 * Z 4 = 0) : ∃ c : Nat → Int, bcn 7 c ∧ agr 0 1 Z c := by
  have h0 := h 0
  have h1 := h 1
  have h2 := h 2
  have h3 := h 3
  have h4 := h 4
  refine ⟨v5 (-Z 0) (-Z 1) (-Z 2) (-Z 3) 0, ?_, ?_⟩
  · show (-Z 0).natAbs ≤ 7 ∧ (-Z 1).natAbs ≤ 7 ∧ (-Z 2).natAbs ≤ 7 ∧ (-Z 3).natAbs ≤ 7
    refine ⟨?_, ?_, ?_, ?_⟩ <;> omega
  · show Z 0 = -1 * (-Z 0) ∧ Z 1 = 0 * (-Z 0) - 1 * (-Z 1) ∧ Z 2 = 0 * (-Z 1) - 1 * (-Z 2) ∧ Z 3 = 0 * (-Z 2) - 1 * (-Z 3) ∧ Z 4 = 0 * (-Z 3)
    refine ⟨?_, ?_, ?_, ?_, ?_⟩ <;> omega
theorem dbl2 (X a : Nat → Int) (h : agr 0 1 X a) (hd : 0 * X 1 + 0 * X 2 + 1 * X 3 + 0 * X 4 = 0) : rc 0 1 a = 0 := by
  obtain ⟨h0, h1, h2, h3, h4⟩ := h
  unfold rc
  omega
theorem fac3 (Z : Nat → Int) (h : bx7 Z) (hw : 1 * Z 0 + 1 * Z 1 + 1 * Z 2 + 1 * Z 3 + 1 * Z 4 = 0) : ∃ c : Nat → Int, bcn 14 c ∧ agr 1 1 Z c := by
  have h0 := h 0
  have h1 := h 1
  have h2 := h 2
  have h3 := h 3
  have h4 := h 4
  refine ⟨v5 (-Z 0) (-Z 0 - Z 1) (Z 3 + Z 4) (Z 4) 0, ?_, ?_⟩
  · show (-Z 0).natAbs ≤ 7 ∧ (-Z 0 - Z 1).natAbs ≤ 14 ∧ (Z 3 + Z 4).natAbs ≤ 14 ∧ (Z 4).natAbs ≤ 7
    refine ⟨?_, ?_, ?_, ?_⟩ <;> omega
  · show Z 0 = -1 * (-Z 0) ∧ Z 1 = 1 * (-Z 0) - 1 * (-Z 0 - Z 1) ∧ Z 2 = 1 * (-Z 0 - Z 1) - 1 * (Z 3 + Z 4) ∧ Z 3 = 1 * (Z 3 + Z 4) - 1 * (Z 4) ∧ Z 4 = 1 * (Z 4)
    refine ⟨?_, ?_, ?_, ?_, ?_⟩ <;> omega
theorem dbl3 (X a : Nat → Int) (h : agr 1 1 X a) (hd : 1 * X 1 + 2 * X 2 + 3 * X 3 + 4 * X 4 = 0) : rc 1 1 a = 0 := by
  obtain ⟨h0, h1, h2, h3, h4⟩ := h
  unfold rc
  omega
theorem fac4 (Z : Nat → Int) (h : bx7 Z) (hw : 1 * Z 0 + (-1) * Z 1 + 1 * Z 2 + (-1) * Z 3 + 1 * Z 4 = 0) : ∃ c : Nat → Int, bcn 14 c ∧ agr 1 (-1) Z c := by
  have h0 := h 0
  have h1 := h 1
  have h2 := h 2
  have h3 := h 3
  have h4 := h 4
  refine ⟨v5 (Z 0) (Z 1 - Z 0) (Z 3 - Z 4) (Z 4) 0, ?_, ?_⟩
  · show (Z 0).natAbs ≤ 7 ∧ (Z 1 - Z 0).natAbs ≤ 14 ∧ (Z 3 - Z 4).natAbs ≤ 14 ∧ (Z 4).natAbs ≤ 7
    refine ⟨?_, ?_, ?_, ?_⟩ <;> omega
  · show Z 0 = -(-1) * (Z 0) ∧ Z 1 = 1 * (Z 0) - (-1) * (Z 1 - Z 0) ∧ Z 2 = 1 * (Z 1 - Z 0) - (-1) * (Z 3 - Z 4) ∧ Z 3 = 1 * (Z 3 - Z 4) - (-1) * (Z 4) ∧ Z 4 = 1 * (Z 4)
    refine ⟨?_, ?_, ?_, ?_, ?_⟩ <;> omega
theorem dbl4 (X a : Nat → Int) (h : agr 1 (-1) X a) (hd : 1 * X 1 + (-2) * X 2 + 3 * X 3 + (-4) * X 4 = 0) : rc 1 (-1) a = 0 := by
  obtain ⟨h0, h1, h2, h3, h4⟩ := h
  unfold rc
  omega
theorem fac5 (Z : Nat → Int) (h : bx7 Z) (hw : 1 * Z 0 + 2 * Z 1 + 4 * Z 2 + 8 * Z 3 + 16 * Z 4 = 0) : ∃ c : Nat → Int, bcn 7 c ∧ agr 1 2 Z c := by
  have h0 := h 0
  have h1 := h 1
  have h2 := h 2
  have h3 := h 3
  have h4 := h 4
  refine ⟨v5 (Z 1 + 2 * Z 2 + 4 * Z 3 + 8 * Z 4) (Z 2 + 2 * Z 3 + 4 * Z 4) (Z 3 + 2 * Z 4) (Z 4) 0, ?_, ?_⟩
  · show (Z 1 + 2 * Z 2 + 4 * Z 3 + 8 * Z 4).natAbs ≤ 7 ∧ (Z 2 + 2 * Z 3 + 4 * Z 4).natAbs ≤ 7 ∧ (Z 3 + 2 * Z 4).natAbs ≤ 7 ∧ (Z 4).natAbs ≤ 7
    refine ⟨?_, ?_, ?_, ?_⟩ <;> omega
  · show Z 0 = -2 * (Z 1 + 2 * Z 2 + 4 * Z 3 + 8 * Z 4) ∧ Z 1 = 1 * (Z 1 + 2 * Z 2 + 4 * Z 3 + 8 * Z 4) - 2 * (Z 2 + 2 * Z 3 + 4 * Z 4) ∧ Z 2 = 1 * (Z 2 + 2 * Z 3 + 4 * Z 4) - 2 * (Z 3 + 2 * Z 4) ∧ Z 3 = 1 * (Z 3 + 2 * Z 4) - 2 * (Z 4) ∧ Z 4 = 1 * (Z 4)
    refine ⟨?_, ?_, ?_, ?_, ?_⟩ <;> omega
theorem dbl5 (X a : Nat → Int) (h : agr 1 2 X a) (hd : 1 * X 1 + 4 * X 2 + 12 * X 3 + 32 * X 4 = 0) : rc 1 2 a = 0 := by
  obtain ⟨h0, h1, h2, h3, h4⟩ := h
  unfold rc
  omega
theorem fac6 (Z : Nat → Int) (h : bx7 Z) (hw : 1 * Z 0 + (-2) * Z 1 + 4 * Z 2 + (-8) * Z 3 + 16 * Z 4 = 0) : ∃ c : Nat → Int, bcn 7 c ∧ agr 1 (-2) Z c := by
  have h0 := h 0
  have h1 := h 1
  have h2 := h 2
  have h3 := h 3
  have h4 := h 4
  refine ⟨v5 (Z 1 - 2 * Z 2 + 4 * Z 3 - 8 * Z 4) (Z 2 - 2 * Z 3 + 4 * Z 4) (Z 3 - 2 * Z 4) (Z 4) 0, ?_, ?_⟩
  · show (Z 1 - 2 * Z 2 + 4 * Z 3 - 8 * Z 4).natAbs ≤ 7 ∧ (Z 2 - 2 * Z 3 + 4 * Z 4).natAbs ≤ 7 ∧ (Z 3 - 2 * Z 4).natAbs ≤ 7 ∧ (Z 4).natAbs ≤ 7
    refine ⟨?_, ?_, ?_, ?_⟩ <;> omega
  · show Z 0 = -(-2) * (Z 1 - 2 * Z 2 + 4 * Z 3 - 8 * Z 4) ∧ Z 1 = 1 * (Z 1 - 2 * Z 2 + 4 * Z 3 - 8 * Z 4) - (-2) * (Z 2 - 2 * Z 3 + 4 * Z 4) ∧ Z 2 = 1 * (Z 2 - 2 * Z 3 + 4 * Z 4) - (-2) * (Z 3 - 2 * Z 4) ∧ Z 3 = 1 * (Z 3 - 2 * Z 4) - (-2) * (Z 4) ∧ Z 4 = 1 * (Z 4)
    refine ⟨?_, ?_, ?_, ?_, ?_⟩ <;> omega
theorem dbl6 (X a : Nat → Int) (h : agr 1 (-2) X a) (hd : 1 * X 1 + (-4) * X 2 + 12 * X 3 + (-32) * X 4 = 0) : rc 1 (-2) a = 0 := by
  obtain ⟨h0, h1, h2, h3, h4⟩ := h
  unfold rc
  omega
theorem fac7 (Z : Nat → Int) (h : bx7 Z) (hw : 16 * Z 0 + 8 * Z 1 + 4 * Z 2 + 2 * Z 3 + 1 * Z 4 = 0) : ∃ c : Nat → Int, bcn 7 c ∧ agr 2 1 Z c := by
  have h0 := h 0
  have h1 := h 1
  have h2 := h 2
  have h3 := h 3
  have h4 := h 4
  refine ⟨v5 (-Z 0) (-2 * Z 0 - Z 1) (-4 * Z 0 - 2 * Z 1 - Z 2) (-8 * Z 0 - 4 * Z 1 - 2 * Z 2 - Z 3) 0, ?_, ?_⟩
  · show (-Z 0).natAbs ≤ 7 ∧ (-2 * Z 0 - Z 1).natAbs ≤ 7 ∧ (-4 * Z 0 - 2 * Z 1 - Z 2).natAbs ≤ 7 ∧ (-8 * Z 0 - 4 * Z 1 - 2 * Z 2 - Z 3).natAbs ≤ 7
    refine ⟨?_, ?_, ?_, ?_⟩ <;> omega
  · show Z 0 = -1 * (-Z 0) ∧ Z 1 = 2 * (-Z 0) - 1 * (-2 * Z 0 - Z 1) ∧ Z 2 = 2 * (-2 * Z 0 - Z 1) - 1 * (-4 * Z 0 - 2 * Z 1 - Z 2) ∧ Z 3 = 2 * (-4 * Z 0 - 2 * Z 1 - Z 2) - 1 * (-8 * Z 0 - 4 * Z 1 - 2 * Z 2 - Z 3) ∧ Z 4 = 2 * (-8 * Z 0 - 4 * Z 1 - 2 * Z 2 - Z 3)
    refine ⟨?_, ?_, ?_, ?_, ?_⟩ <;> omega
theorem dbl7 (X a : Nat → Int) (h : agr 2 1 X a) (hd : 8 * X 1 + 8 * X 2 + 6 * X 3 + 4 * X 4 = 0) : rc 2 1 a = 0 := by
  obtain ⟨h0, h1, h2, h3, h4⟩ := h
  unfold rc
  omega
theorem fac8 (Z : Nat → Int) (h : bx7 Z) (hw : 16 * Z 0 + (-8) * Z 1 + 4 * Z 2 + (-2) * Z 3 + 1 * Z 4 = 0) : ∃ c : Nat → Int, bcn 7 c ∧ agr 2 (-1) Z c := by
  have h0 := h 0
  have h1 := h 1
  have h2 := h 2
  have h3 := h 3
  have h4 := h 4
  refine ⟨v5 (Z 0) (Z 1 - 2 * Z 0) (Z 2 - 2 * Z 1 + 4 * Z 0) (Z 3 - 2 * Z 2 + 4 * Z 1 - 8 * Z 0) 0, ?_, ?_⟩
  · show (Z 0).natAbs ≤ 7 ∧ (Z 1 - 2 * Z 0).natAbs ≤ 7 ∧ (Z 2 - 2 * Z 1 + 4 * Z 0).natAbs ≤ 7 ∧ (Z 3 - 2 * Z 2 + 4 * Z 1 - 8 * Z 0).natAbs ≤ 7
    refine ⟨?_, ?_, ?_, ?_⟩ <;> omega
  · show Z 0 = -(-1) * (Z 0) ∧ Z 1 = 2 * (Z 0) - (-1) * (Z 1 - 2 * Z 0) ∧ Z 2 = 2 * (Z 1 - 2 * Z 0) - (-1) * (Z 2 - 2 * Z 1 + 4 * Z 0) ∧ Z 3 = 2 * (Z 2 - 2 * Z 1 + 4 * Z 0) - (-1) * (Z 3 - 2 * Z 2 + 4 * Z 1 - 8 * Z 0) ∧ Z 4 = 2 * (Z 3 - 2 * Z 2 + 4 * Z 1 - 8 * Z 0)
    refine ⟨?_, ?_, ?_, ?_, ?_⟩ <;> omega
theorem dbl8 (X a : Nat → Int) (h : agr 2 (-1) X a) (hd : 8 * X 1 + (-8) * X 2 + 6 * X 3 + (-4) * X 4 = 0) : rc 2 (-1) a = 0 := by
  obtain ⟨h0, h1, h2, h3, h4⟩ := h
  unfold rc
  omega
