/-! lead x^4 y^2, the first quartic met twice: the numbers behind the chain -/
theorem sq_le' {a b : Nat} (h : a * a ≤ b * b) : a ≤ b := by
  rcases Nat.lt_or_ge b a with r | r
  · exact absurd (Nat.mul_lt_mul'' r r) (by omega)
  · exact r
theorem q_lead (C e A : Nat) (hC : 27 ≤ C) (hA : A ≤ C * (e * e)) (h : 432 ≤ A) : 108 ≤ C * e := by
  apply sq_le'
  have a1 : 27 * 432 ≤ C * (C * (e * e)) := Nat.mul_le_mul hC (Nat.le_trans h hA)
  have a2 : C * (C * (e * e)) = C * e * (C * e) := by grind
  rw [← a2]
  exact a1
theorem q_k (C e A K : Nat) (hC : 27 ≤ C) (hA : A ≤ C * (e * e)) (h : 9 * (K * K) ≤ 24026024632320000 * A) : 3 * K ≤ 2 * 14915200 * (C * e) := by
  apply sq_le'
  have a1 : 27 * A ≤ C * (C * (e * e)) := Nat.mul_le_mul hC hA
  have a2 : C * (C * (e * e)) = C * e * (C * e) := by grind
  rw [a2] at a1
  have a3 : 3 * K * (3 * K) = 9 * (K * K) := by grind
  have a4 : 2 * 14915200 * (C * e) * (2 * 14915200 * (C * e)) = 889852764160000 * (C * e * (C * e)) := by grind
  rw [a3, a4]
  omega
theorem q_ratio (C e g A K r : Nat) (hC : 0 < C) (hA : A ≤ C * (e * e)) (hK : C * (g * g) ≤ K) (hr : K ≤ r * r * A) : g ≤ r * e := by
  apply sq_le'
  have a1 : r * r * A ≤ r * r * (C * (e * e)) := Nat.mul_le_mul (Nat.le_refl _) hA
  have a2 : r * r * (C * (e * e)) = C * (r * e * (r * e)) := by grind
  exact Nat.le_of_mul_le_mul_left (show C * (g * g) ≤ C * (r * e * (r * e)) by omega) hC
/-- a digit by the first quartic's own bound -/
theorem q_dig (C e x y T : Int) (K k : Nat) (hT : T = C * (2 * e * x + 2 * y)) (hK : T.natAbs ≤ K) (hk : K ≤ 2 * k * (C.natAbs * e.natAbs)) (hC : 0 < C.natAbs) : (e * x + y).natAbs ≤ k * e.natAbs := by
  have a1 : T.natAbs = C.natAbs * (2 * (e * x + y).natAbs) := by
    have : 2 * e * x + 2 * y = 2 * (e * x + y) := by grind
    rw [hT, this, Int.natAbs_mul, Int.natAbs_mul]
    rfl
  have a2 : 2 * k * (C.natAbs * e.natAbs) = C.natAbs * (2 * (k * e.natAbs)) := by
    generalize C.natAbs = p
    generalize e.natAbs = q
    grind
  have a3 : C.natAbs * (2 * (e * x + y).natAbs) ≤ C.natAbs * (2 * (k * e.natAbs)) := by omega
  have := Nat.le_of_mul_le_mul_left a3 hC
  omega
theorem q_abs (a y : Int) (n : Nat) (h : (a + y).natAbs ≤ n) : a.natAbs ≤ n + y.natAbs := by omega
theorem q_div (e x : Int) (n r : Nat) (he : 1 ≤ e.natAbs) (h : (e * x).natAbs ≤ (n + r) * e.natAbs) : x.natAbs ≤ n + r := by
  rw [Int.natAbs_mul, Nat.mul_comm] at h
  exact Nat.le_of_mul_le_mul_right h he
/-- the second row of digits: true, and small -/
theorem q_row3 (C e1 g1 e2 m h1 H321 H312 H303 T321 T312 T303 : Int) (K : Nat) (hC : 27 ≤ C.natAbs) (he : 1 ≤ e1.natAbs) (hk : 3 * K ≤ 2 * 14915200 * (C.natAbs * e1.natAbs)) (hg : g1.natAbs ≤ 253 * e1.natAbs) (bg : g1.natAbs ≤ 47933) (be : e2.natAbs ≤ 59026)
    (t321 : T321 = C * (2 * e1 * m + 2 * g1 * e2 + 18446744073709551616 * H321)) (t312 : T312 = C * (2 * e1 * h1 + 2 * g1 * m + 18446744073709551616 * H312)) (t303 : T303 = C * (2 * g1 * h1 + 18446744073709551616 * H303)) (b321 : T321.natAbs ≤ 3 * K) (b312 : T312.natAbs ≤ 3 * K) (b303 : T303.natAbs ≤ K)
    (f321 : (2 * e1 * m + 2 * g1 * e2 + 18446744073709551616 * H321).natAbs ≤ 60 * 153174641) (f312 : (2 * e1 * h1 + 2 * g1 * m + 18446744073709551616 * H312).natAbs ≤ 60 * 153174641) (f303 : (2 * g1 * h1 + 18446744073709551616 * H303).natAbs ≤ 20 * 153174641) (d321 : (2 * e1 * m).natAbs ≤ 2 ^ 63) (d312 : (2 * e1 * h1).natAbs ≤ 2 ^ 63) :
    H321 = 0 ∧ H312 = 0 ∧ H303 = 0 ∧ 3 * m.natAbs ≤ 4 * 14915200 ∧ h1.natAbs ≤ 2 * 14915200 + 59026 ∧ (g1.natAbs ≤ e1.natAbs ∨ (3 * (g1.natAbs * m.natAbs) ≤ 4 * 14915200 * e1.natAbs ∧ 3 * (g1.natAbs * h1.natAbs) ≤ 14915200 * e1.natAbs)) := by
  have hC0 : 0 < C.natAbs := by omega
  have s1 : (2 * g1 * e2).natAbs ≤ 2 * 47933 * 59026 := nmul_le (nmul_le k2 bg) be
  obtain ⟨z1, -⟩ := dig_true e1 m _ _ H321 _ _ rfl f321 s1 d321 (by decide)
  subst z1
  have r1 := q_dig C e1 m (g1 * e2) T321 (3 * K) 14915200 (by rw [t321]; clear t321 t312 t303; grind) b321 hk hC0
  have r2 := q_abs _ _ _ r1
  rw [Int.natAbs_mul g1 e2] at r2
  have m0 : m.natAbs ≤ 14915200 + 253 * 59026 := by
    apply q_div e1 m _ _ he
    refine Nat.le_trans r2 ?_
    have : g1.natAbs * e2.natAbs ≤ 253 * e1.natAbs * 59026 := Nat.mul_le_mul hg be
    omega
  have s2' : (2 * g1 * m).natAbs ≤ 2 * 47933 * (14915200 + 253 * 59026) := nmul_le (nmul_le k2 bg) m0
  obtain ⟨z2, -⟩ := dig_true e1 h1 _ _ H312 _ _ rfl f312 s2' d312 (by decide)
  subst z2
  have r3 := q_dig C e1 h1 (g1 * m) T312 (3 * K) 14915200 (by rw [t312]; clear t321 t312 t303; grind) b312 hk hC0
  have r4 := q_abs _ _ _ r3
  rw [Int.natAbs_mul g1 m] at r4
  have h0 : h1.natAbs ≤ 14915200 + 253 * (14915200 + 253 * 59026) := by
    apply q_div e1 h1 _ _ he
    refine Nat.le_trans r4 ?_
    have : g1.natAbs * m.natAbs ≤ 253 * e1.natAbs * (14915200 + 253 * 59026) := Nat.mul_le_mul hg m0
    omega
  have s3 : (2 * g1 * h1).natAbs ≤ 2 * 47933 * (14915200 + 253 * (14915200 + 253 * 59026)) := nmul_le (nmul_le k2 bg) h0
  have z3 : H303 = 0 := num_true _ _ H303 _ _ rfl f303 s3 (by decide)
  subst z3
  refine ⟨rfl, rfl, rfl, ?_⟩
  rcases Nat.le_total g1.natAbs e1.natAbs with r | r
  · have m1 : m.natAbs ≤ 14915200 + 59026 := by
      apply q_div e1 m _ _ he
      refine Nat.le_trans r2 ?_
      have : g1.natAbs * e2.natAbs ≤ e1.natAbs * 59026 := Nat.mul_le_mul r be
      omega
    have h2 : h1.natAbs ≤ 14915200 + (14915200 + 59026) := by
      apply q_div e1 h1 _ _ he
      refine Nat.le_trans r4 ?_
      have : g1.natAbs * m.natAbs ≤ e1.natAbs * (14915200 + 59026) := Nat.mul_le_mul r m1
      omega
    exact ⟨by omega, by omega, Or.inl r⟩
  · have hg1 : 1 ≤ g1.natAbs := Nat.le_trans he r
    have u1 : 3 * (g1.natAbs * h1.natAbs) ≤ 14915200 * e1.natAbs := by
      have a1 : T303.natAbs = C.natAbs * (2 * (g1.natAbs * h1.natAbs)) := by
        rw [t303, Int.mul_zero, Int.add_zero, Int.natAbs_mul, Int.natAbs_mul, Int.natAbs_mul]
        show C.natAbs * (2 * g1.natAbs * h1.natAbs) = _
        rw [Nat.mul_assoc 2]
      have a2 : C.natAbs * (2 * (3 * (g1.natAbs * h1.natAbs))) ≤ C.natAbs * (2 * (14915200 * e1.natAbs)) := by
        have b1 : C.natAbs * (2 * (3 * (g1.natAbs * h1.natAbs))) = 3 * (C.natAbs * (2 * (g1.natAbs * h1.natAbs))) := by
          generalize C.natAbs = p
          generalize g1.natAbs * h1.natAbs = q
          grind
        have b2 : C.natAbs * (2 * (14915200 * e1.natAbs)) = 2 * 14915200 * (C.natAbs * e1.natAbs) := by
          generalize C.natAbs = p
          generalize e1.natAbs = q
          grind
        rw [b1, b2]
        omega
      have := Nat.le_of_mul_le_mul_left a2 hC0
      omega
    have u2 : 3 * h1.natAbs ≤ 14915200 := by
      have : 3 * (e1.natAbs * h1.natAbs) ≤ 3 * (g1.natAbs * h1.natAbs) := Nat.mul_le_mul (Nat.le_refl _) (Nat.mul_le_mul r (Nat.le_refl _))
      have : e1.natAbs * (3 * h1.natAbs) ≤ e1.natAbs * 14915200 := by
        have b1 : e1.natAbs * (3 * h1.natAbs) = 3 * (e1.natAbs * h1.natAbs) := by
          generalize e1.natAbs = p
          generalize h1.natAbs = q
          grind
        rw [b1]
        omega
      exact Nat.le_of_mul_le_mul_left this he
    have u3 : 3 * (g1.natAbs * m.natAbs) ≤ 4 * 14915200 * e1.natAbs := by
      have b1 : (g1 * m).natAbs ≤ 14915200 * e1.natAbs + (e1 * h1).natAbs := by
        have := r3
        omega
      rw [Int.natAbs_mul, Int.natAbs_mul] at b1
      have b2 : e1.natAbs * (3 * h1.natAbs) ≤ e1.natAbs * 14915200 := Nat.mul_le_mul (Nat.le_refl _) u2
      have b3 : e1.natAbs * (3 * h1.natAbs) = 3 * (e1.natAbs * h1.natAbs) := by
        generalize e1.natAbs = p
        generalize h1.natAbs = q
        grind
      omega
    have u4 : 3 * m.natAbs ≤ 4 * 14915200 := by
      have b1 : e1.natAbs * (3 * m.natAbs) ≤ e1.natAbs * (4 * 14915200) := by
        have : 3 * (e1.natAbs * m.natAbs) ≤ 3 * (g1.natAbs * m.natAbs) := Nat.mul_le_mul (Nat.le_refl _) (Nat.mul_le_mul r (Nat.le_refl _))
        have b3 : e1.natAbs * (3 * m.natAbs) = 3 * (e1.natAbs * m.natAbs) := by
          generalize e1.natAbs = p
          generalize m.natAbs = q
          grind
        omega
      exact Nat.le_of_mul_le_mul_left b1 he
    exact ⟨u4, by omega, Or.inr ⟨u3, u1⟩⟩
/-- a bound of n e for n, where e divides the number -/
theorem q_two (e x : Int) (F : Nat) (he : 1 ≤ e.natAbs) (h : (2 * e * x).natAbs ≤ F) : 2 * x.natAbs ≤ F := by
  have := div_two e x 1 F h he
  omega
/-- the third row of digits, as far as n1 and n2 -/
theorem q_row4 (e1 g1 e2 m h1 e3 n1 n2 H231 H141 H051 H222 : Int) (he : 1 ≤ e1.natAbs) (bg : g1.natAbs ≤ 47933) (be : e2.natAbs ≤ 59026) (b3 : e3.natAbs ≤ 12377) (bm : 3 * m.natAbs ≤ 4 * 14915200) (bh : h1.natAbs ≤ 2 * 14915200 + 59026)
    (f231 : (2 * e1 * n1 + (2 * g1 * e3 + 2 * e2 * m) + 18446744073709551616 * H231).natAbs ≤ 60 * 153174641) (f141 : (2 * e2 * n1 + 2 * m * e3 + 18446744073709551616 * H141).natAbs ≤ 30 * 153174641) (f051 : (2 * e3 * n1 + 18446744073709551616 * H051).natAbs ≤ 6 * 153174641) (f222 : (2 * e1 * n2 + (2 * g1 * n1 + (m * m + 2 * e2 * h1)) + 18446744073709551616 * H222).natAbs ≤ 90 * 153174641) (d231 : (2 * e1 * n1).natAbs ≤ 2 ^ 63) (d222 : (2 * e1 * n2).natAbs ≤ 2 ^ 63) :
    H231 = 0 ∧ H141 = 0 ∧ H051 = 0 ∧ H222 = 0 ∧ (2 * e1 * n1).natAbs ≤ 2360000000000 ∧ 2 * n1.natAbs ≤ 2360000000000 := by
  have bm' : m.natAbs ≤ 19886933 := by omega
  have s1 : (2 * g1 * e3 + 2 * e2 * m).natAbs ≤ 2 * 47933 * 12377 + 2 * 59026 * 19886933 := na_le (nmul_le (nmul_le k2 bg) b3) (nmul_le (nmul_le k2 be) bm')
  obtain ⟨z1, z2⟩ := dig_true e1 n1 _ _ H231 _ _ rfl f231 s1 d231 (by decide)
  have z3 := q_two e1 n1 _ he z2
  have n0 : n1.natAbs ≤ 1180000000000 := by omega
  have s2' : (2 * e2 * n1 + 2 * m * e3).natAbs ≤ 2 * 59026 * 1180000000000 + 2 * 19886933 * 12377 := na_le (nmul_le (nmul_le k2 be) n0) (nmul_le (nmul_le k2 bm') b3)
  have z4 : H141 = 0 := num_true _ _ H141 _ _ rfl f141 s2' (by decide)
  have s3 : (2 * e3 * n1).natAbs ≤ 2 * 12377 * 1180000000000 := nmul_le (nmul_le k2 b3) n0
  have z5 : H051 = 0 := num_true _ _ H051 _ _ rfl f051 s3 (by decide)
  have s4 : (2 * g1 * n1 + (m * m + 2 * e2 * h1)).natAbs ≤ 2 * 47933 * 1180000000000 + (19886933 * 19886933 + 2 * 59026 * (2 * 14915200 + 59026)) := na_le (nmul_le (nmul_le k2 bg) n0) (na_le (nmul_le bm' bm') (nmul_le (nmul_le k2 be) bh))
  obtain ⟨z6, -⟩ := dig_true e1 n2 _ _ H222 _ _ rfl f222 s4 d222 (by decide)
  exact ⟨z1, z4, z5, z6, by omega, by omega⟩
