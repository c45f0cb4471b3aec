/-! cubes: the same -/
theorem r3_eq (C e0 e1 e2 h3 M G0 G1 G2 G3 : Int) (q0 : G0 = C * (e0 * e0 * e0)) (q1 : G1 = C * (3 * (e0 * e0) * e1)) (q2 : G2 = C * (3 * (e0 * e0) * e2 + 3 * e0 * (e1 * e1))) (q3 : G3 = C * (6 * e0 * (e1 * e2) + e1 * e1 * e1 + M * h3)) :
    27 * (G0 * G0) * G3 - 18 * G0 * (G1 * G2) + 5 * (G1 * G1 * G1) = 27 * (C * C * C * (e0 * e0 * e0 * (e0 * e0 * e0))) * (M * h3) := by
  rw [q0, q1, q2, q3]
  grind
theorem p3_eq (C e0 e1 e2 G0 G1 G2 : Int) (q0 : G0 = C * (e0 * e0 * e0)) (q1 : G1 = C * (3 * (e0 * e0) * e1)) (q2 : G2 = C * (3 * (e0 * e0) * e2 + 3 * e0 * (e1 * e1))) : 3 * G0 * G2 - G1 * G1 = 9 * (C * C) * (e0 * e0 * e0 * (e0 * e0)) * e2 := by
  rw [q0, q1, q2]
  grind
theorem r4_eq (C e0 e1 e2 h4 M G0 G1 G2 G4 : Int) (q0 : G0 = C * (e0 * e0 * e0)) (q1 : G1 = C * (3 * (e0 * e0) * e1)) (q2 : G2 = C * (3 * (e0 * e0) * e2 + 3 * e0 * (e1 * e1))) (q4 : G4 = C * (3 * e0 * (e2 * e2) + 3 * (e1 * e1) * e2 + M * h4)) :
    9 * (G0 * G0) * G4 - (3 * G0 * G2 - G1 * G1) * G2 = 9 * (C * C * C * (e0 * e0 * e0 * (e0 * e0 * e0))) * (M * h4) := by
  rw [p3_eq C e0 e1 e2 G0 G1 G2 q0 q1 q2, q0, q2, q4]
  grind
theorem r5_eq (C e0 e1 e2 h5 M G0 G1 G2 G5 : Int) (q0 : G0 = C * (e0 * e0 * e0)) (q1 : G1 = C * (3 * (e0 * e0) * e1)) (q2 : G2 = C * (3 * (e0 * e0) * e2 + 3 * e0 * (e1 * e1))) (q5 : G5 = C * (3 * e1 * (e2 * e2) + M * h5)) :
    81 * (G0 * G0 * (G0 * G0)) * G5 - G1 * ((3 * G0 * G2 - G1 * G1) * (3 * G0 * G2 - G1 * G1)) = 81 * (C * C * C * C * C * (e0 * e0 * e0 * (e0 * e0 * e0) * (e0 * e0 * e0 * (e0 * e0 * e0)))) * (M * h5) := by
  rw [p3_eq C e0 e1 e2 G0 G1 G2 q0 q1 q2, q0, q1, q5]
  grind
theorem big_zero (x h : Int) (T N : Nat) (q : x.natAbs = T * (18446744073709551616 * h.natAbs)) (hx : x.natAbs ≤ N) (hN : N < T * 18446744073709551616) : h = 0 := by
  by_cases r : h = 0
  · exact r
  · exfalso
    have r1 : 1 ≤ h.natAbs := Int.natAbs_pos.mpr r
    have : T * 18446744073709551616 ≤ T * (18446744073709551616 * h.natAbs) := Nat.mul_le_mul (Nat.le_refl T) (Nat.le_mul_of_pos_right _ r1)
    omega
theorem num_true3 (f s H : Int) (F T : Nat) (q : f = s + 18446744073709551616 * H) (hf : f.natAbs < 4611686018427387904) (hs : s.natAbs ≤ 4294967296 * 65536) : H = 0 := by omega
def cv3 (A b3 : Nat) : Nat := Nat.pow 2 (Nat.add (Nat.div (Nat.log2 (Nat.mul 11 (Nat.mul (Nat.mul A A) b3))) 3) 1)
theorem cv3_ge (A b3 : Nat) : 11 * (A * A * b3) ≤ cv3 A b3 * cv3 A b3 * cv3 A b3 := by
  unfold cv3
  generalize hR : Nat.mul 11 (Nat.mul (Nat.mul A A) b3) = R
  have hR' : 11 * (A * A * b3) = R := hR
  rw [hR']
  show R ≤ 2 ^ (Nat.log2 R / 3 + 1) * 2 ^ (Nat.log2 R / 3 + 1) * 2 ^ (Nat.log2 R / 3 + 1)
  rw [← Nat.pow_add, ← Nat.pow_add]
  by_cases h : R = 0
  · rw [h]
    exact Nat.zero_le _
  · have := (Nat.log2_lt h).mp (Nat.lt_succ_self (Nat.log2 R))
    refine Nat.le_of_lt (Nat.lt_of_lt_of_le this (Nat.pow_le_pow_right (by decide) ?_))
    omega
def cw3 (A b2 b4 u w : Nat) : Bool := Nat.blt (Nat.add (Nat.mul 9 (Nat.mul (Nat.mul A A) b4)) (Nat.mul w b2)) (Nat.mul 4482558809911421042688 (Nat.mul A A)) && Nat.blt (Nat.mul u (Nat.mul (Nat.mul w w) (Nat.mul w w))) (Nat.mul (Nat.mul 20171514644601394692096 (Nat.mul (Nat.mul A A) (Nat.mul A A))) (Nat.mul 20171514644601394692096 (Nat.mul (Nat.mul A A) (Nat.mul A A))))
def cx3 (A b2 b4 u : Nat) : Bool := cw3 A b2 b4 u (Nat.add (Nat.mul 3 (Nat.mul A b2)) u)
def full3 (A g b2 b3 b4 : Nat) : Bool := Nat.blt (Nat.add (Nat.add (Nat.mul 27 (Nat.mul (Nat.mul A A) b3)) (Nat.mul 18 (Nat.mul A (Nat.mul g b2)))) (Nat.mul 5 (Nat.mul (Nat.mul g g) g))) (Nat.mul 13447676429734263128064 (Nat.mul A A)) && (cx3 A b2 b4 (Nat.mul g g) || (cx3 A b2 b4 (Nat.succ (Nat.div (Nat.mul 36 (Nat.mul A b2)) 5)) && cx3 A b2 b4 (Nat.mul (cv3 A b3) (cv3 A b3))))
theorem full3_true (C e0 e1 e2 h3 h4 h5 h6 G0 G1 G2 G3 G4 G5 G6 : Int) (A g b2 b3 b4 : Nat) (q0 : G0 = C * (e0 * e0 * e0)) (q1 : G1 = C * (3 * (e0 * e0) * e1)) (q2 : G2 = C * (3 * (e0 * e0) * e2 + 3 * e0 * (e1 * e1))) (q3 : G3 = C * (6 * e0 * (e1 * e2) + e1 * e1 * e1 + 18446744073709551616 * h3)) (q4 : G4 = C * (3 * e0 * (e2 * e2) + 3 * (e1 * e1) * e2 + 18446744073709551616 * h4)) (q5 : G5 = C * (3 * e1 * (e2 * e2) + 18446744073709551616 * h5)) (q6 : G6 = C * (e2 * e2 * e2 + 18446744073709551616 * h6))
    (hA : G0.natAbs = A) (hg : G1.natAbs ≤ g) (h2 : G2.natAbs ≤ b2) (hb3 : G3.natAbs ≤ b3) (hb4 : G4.natAbs ≤ b4) (hb4' : G4.natAbs < 27 * 4294967296) (hb5 : G5.natAbs < 27 * 1073741824) (hb6 : G6.natAbs < 2 ^ 62)
    (he0 : e0 ≠ 0) (hC : 27 ≤ C.natAbs) (hf : full3 A g b2 b3 b4 = true) : h3 = 0 ∧ h4 = 0 ∧ h5 = 0 ∧ h6 = 0 := by
  have hA2 : C.natAbs * (e0.natAbs * e0.natAbs * e0.natAbs) = A := by rw [← hA, q0, Int.natAbs_mul, Int.natAbs_mul, Int.natAbs_mul]
  have he1 : 1 ≤ e0.natAbs := Int.natAbs_pos.mpr he0
  have hA0 : 0 < A := by
    rw [← hA2]
    exact Nat.mul_pos (by omega) (Nat.mul_pos (Nat.mul_pos he1 he1) he1)
  have t27 : 27 * (A * A) ≤ C.natAbs * (A * A) := Nat.mul_le_mul hC (Nat.le_refl _)
  have t27' : 27 * (A * A * (A * A)) ≤ C.natAbs * (A * A * (A * A)) := Nat.mul_le_mul hC (Nat.le_refl _)
  unfold full3 at hf
  rw [Bool.and_eq_true, Bool.or_eq_true] at hf
  obtain ⟨ca, hf⟩ := hf
  have ca' : 27 * (A * A * b3) + 18 * (A * (g * b2)) + 5 * (g * g * g) < 13447676429734263128064 * (A * A) := Nat.le_of_ble_eq_true ca
  have n0 : (27 * (G0 * G0) * G3 - 18 * G0 * (G1 * G2) + 5 * (G1 * G1 * G1)).natAbs ≤ 27 * (A * A) * b3 + 18 * A * (g * b2) + 5 * (g * g * g) :=
    na_le (ns_le (nmul_le (nmul_le k27 (nmul_le (Nat.le_of_eq hA) (Nat.le_of_eq hA))) hb3) (nmul_le (nmul_le (show (18 : Int).natAbs ≤ 18 by decide) (Nat.le_of_eq hA)) (nmul_le hg h2))) (nmul_le (show (5 : Int).natAbs ≤ 5 by decide) (nmul_le (nmul_le hg hg) hg))
  have R3 := r3_eq C e0 e1 e2 h3 18446744073709551616 G0 G1 G2 G3 q0 q1 q2 q3
  have z3 : h3 = 0 := by
    refine big_zero _ h3 (27 * (C.natAbs * (A * A))) _ ?_ n0 ?_
    · rw [R3]
      simp only [Int.natAbs_mul]
      rw [← hA2]
      have a1 : (27 : Int).natAbs = 27 := rfl
      have a2 : (18446744073709551616 : Int).natAbs = 18446744073709551616 := rfl
      rw [a1, a2]
      grind
    · have a1 : 27 * (A * A) * b3 = 27 * (A * A * b3) := Nat.mul_assoc _ _ _
      have a2 : 18 * A * (g * b2) = 18 * (A * (g * b2)) := Nat.mul_assoc _ _ _
      omega
  rw [z3, Int.mul_zero, Int.mul_zero] at R3
  -- the zone
  have zn : G1.natAbs * G1.natAbs ≤ Nat.succ (36 * (A * b2) / 5) ∨ G1.natAbs * G1.natAbs ≤ cv3 A b3 * cv3 A b3 := by
    have a1 : (5 * (G1 * G1 * G1)).natAbs ≤ 27 * (A * A) * b3 + 18 * A * (G1.natAbs * b2) := by
      have : 5 * (G1 * G1 * G1) = 18 * G0 * (G1 * G2) - 27 * (G0 * G0) * G3 := by omega
      rw [this]
      have := ns_le (nmul_le (nmul_le (show (18 : Int).natAbs ≤ 18 by decide) (Nat.le_of_eq hA)) (nmul_le (Nat.le_refl G1.natAbs) h2)) (nmul_le (nmul_le k27 (nmul_le (Nat.le_of_eq hA) (Nat.le_of_eq hA))) hb3)
      rw [Nat.add_comm]
      exact this
    rw [Int.natAbs_mul, Int.natAbs_mul, Int.natAbs_mul] at a1
    have a0 : (5 : Int).natAbs = 5 := rfl
    rw [a0] at a1
    generalize G1.natAbs = y at *
    rcases Nat.lt_or_ge (Nat.succ (36 * (A * b2) / 5)) (y * y) with r | r
    · right
      have r1 : 36 * (A * b2) ≤ 5 * (y * y) := by omega
      have r2 : 36 * (A * b2) * y ≤ 5 * (y * y) * y := Nat.mul_le_mul r1 (Nat.le_refl y)
      have r3 : 36 * (A * b2) * y = 2 * (18 * A * (y * b2)) := by grind
      have r4 : 5 * (y * y) * y = 5 * (y * y * y) := by grind
      have r5 : 27 * (A * A) * b3 = 27 * (A * A * b3) := Nat.mul_assoc _ _ _
      have r6 := cv3_ge A b3
      have r7 : y * y * y ≤ 11 * (A * A * b3) := by omega
      have r8 : y ≤ cv3 A b3 := by
        rcases Nat.lt_or_ge (cv3 A b3) y with s | s
        · exact absurd (Nat.mul_lt_mul'' (Nat.mul_lt_mul'' s s) s) (by omega)
        · exact s
      exact Nat.mul_le_mul r8 r8
    · exact Or.inl r
  have main : ∀ u : Nat, G1.natAbs * G1.natAbs ≤ u → cx3 A b2 b4 u = true → h4 = 0 ∧ h5 = 0 := by
    intro u hu hc
    unfold cx3 cw3 at hc
    rw [Bool.and_eq_true] at hc
    have c1 : 9 * (A * A * b4) + (3 * (A * b2) + u) * b2 < 4482558809911421042688 * (A * A) := Nat.le_of_ble_eq_true hc.1
    have c2 : u * ((3 * (A * b2) + u) * (3 * (A * b2) + u) * ((3 * (A * b2) + u) * (3 * (A * b2) + u))) < 20171514644601394692096 * (A * A * (A * A)) * (20171514644601394692096 * (A * A * (A * A))) := Nat.le_of_ble_eq_true hc.2
    have hw : (3 * G0 * G2 - G1 * G1).natAbs ≤ 3 * (A * b2) + u := by
      refine Nat.le_trans (nsub_le _ _) (Nat.add_le_add ?_ ?_)
      · rw [← Nat.mul_assoc]
        exact nmul_le (nmul_le k3 (Nat.le_of_eq hA)) h2
      · rw [Int.natAbs_mul]
        exact hu
    generalize hW : 3 * (A * b2) + u = w at *
    constructor
    · have R4 := r4_eq C e0 e1 e2 h4 18446744073709551616 G0 G1 G2 G4 q0 q1 q2 q4
      have n1 : (9 * (G0 * G0) * G4 - (3 * G0 * G2 - G1 * G1) * G2).natAbs ≤ 9 * (A * A) * b4 + w * b2 := ns_le (nmul_le (nmul_le k9 (nmul_le (Nat.le_of_eq hA) (Nat.le_of_eq hA))) hb4) (nmul_le hw h2)
      refine big_zero _ h4 (9 * (C.natAbs * (A * A))) _ ?_ n1 ?_
      · rw [R4]
        simp only [Int.natAbs_mul]
        rw [← hA2]
        have a1 : (9 : Int).natAbs = 9 := rfl
        have a2 : (18446744073709551616 : Int).natAbs = 18446744073709551616 := rfl
        rw [a1, a2]
        grind
      · have a1 : 9 * (A * A) * b4 = 9 * (A * A * b4) := Nat.mul_assoc _ _ _
        omega
    · have R5 := r5_eq C e0 e1 e2 h5 18446744073709551616 G0 G1 G2 G5 q0 q1 q2 q5
      have n1 : (81 * (G0 * G0 * (G0 * G0)) * G5 - G1 * ((3 * G0 * G2 - G1 * G1) * (3 * G0 * G2 - G1 * G1))).natAbs ≤ 81 * (A * A * (A * A)) * 28991029248 + G1.natAbs * (w * w) := ns_le (nmul_le (nmul_le (show (81 : Int).natAbs ≤ 81 by decide) (nmul_le (nmul_le (Nat.le_of_eq hA) (Nat.le_of_eq hA)) (nmul_le (Nat.le_of_eq hA) (Nat.le_of_eq hA)))) (Nat.le_of_lt hb5)) (nmul_le (Nat.le_refl _) (nmul_le hw hw))
      have n2 : G1.natAbs * (w * w) < 20171514644601394692096 * (A * A * (A * A)) := by
        apply sq_lt
        refine Nat.lt_of_le_of_lt (Nat.le_trans (Nat.le_of_eq ?_) (Nat.mul_le_mul hu (Nat.le_refl (w * w * (w * w))))) c2
        grind
      refine big_zero _ h5 (81 * (C.natAbs * (A * A * (A * A)))) _ ?_ n1 ?_
      · rw [R5]
        simp only [Int.natAbs_mul]
        rw [← hA2]
        have a1 : (81 : Int).natAbs = 81 := rfl
        have a2 : (18446744073709551616 : Int).natAbs = 18446744073709551616 := rfl
        rw [a1, a2]
        grind
      · have a1 : 81 * (A * A * (A * A)) * 28991029248 = 2348273369088 * (A * A * (A * A)) := by grind
        have a2 : 81 * (C.natAbs * (A * A * (A * A))) * 18446744073709551616 = 1494186269970473680896 * (C.natAbs * (A * A * (A * A))) := by grind
        rw [a1, a2]
        omega
  have z45 : h4 = 0 ∧ h5 = 0 := by
    rcases hf with hf | hf
    · exact main _ (Nat.mul_le_mul hg hg) hf
    · rw [Bool.and_eq_true] at hf
      rcases zn with r | r
      · exact main _ r hf.1
      · exact main _ r hf.2
  obtain ⟨z4, z5⟩ := z45
  have p5 : (3 * e1 * (e2 * e2) + 18446744073709551616 * h5).natAbs < 1073741824 := dv27 C _ _ _ hC q5 hb5
  have p4 : (3 * e0 * (e2 * e2) + 3 * (e1 * e1) * e2 + 18446744073709551616 * h4).natAbs < 4294967296 := dv27 C _ _ _ hC q4 hb4'
  have s2 : e2.natAbs * e2.natAbs < 4294967296 := by
    by_cases r : e1 = 0
    · rw [z4, r] at p4
      simp only [Int.mul_zero, Int.zero_mul, Int.add_zero] at p4
      rw [Int.natAbs_mul, Int.natAbs_mul, Int.natAbs_mul] at p4
      exact Nat.lt_of_le_of_lt (Nat.le_mul_of_pos_left _ (Nat.mul_pos (by decide) he1)) p4
    · have r1 : 1 ≤ e1.natAbs := Int.natAbs_pos.mpr r
      rw [z5, Int.mul_zero, Int.add_zero, Int.natAbs_mul, Int.natAbs_mul, Int.natAbs_mul] at p5
      exact Nat.lt_of_le_of_lt (Nat.le_mul_of_pos_left _ (Nat.mul_pos (by decide) r1)) (Nat.lt_trans p5 (by decide))
  have s3 : e2.natAbs < 65536 := by
    apply sq_lt
    exact s2
  have z6 : h6 = 0 := by
    have a1 : (e2 * e2 * e2 + 18446744073709551616 * h6).natAbs < 2 ^ 62 := by
      refine Nat.lt_of_le_of_lt ?_ hb6
      rw [q6, Int.natAbs_mul]
      exact Nat.le_mul_of_pos_left _ (by omega)
    have e62 : (2 : Nat) ^ 62 = 4611686018427387904 := by decide +kernel
    rw [e62] at a1
    have a2 : (e2 * e2 * e2).natAbs ≤ 4294967296 * 65536 := by
      rw [Int.natAbs_mul, Int.natAbs_mul]
      exact Nat.mul_le_mul (Nat.le_of_lt s2) (Nat.le_of_lt s3)
    exact num_true3 _ _ _ 0 0 rfl a1 a2
  exact ⟨z3, z4, z5, z6⟩
def cr3 (I J A g i1 j1 j2 : Nat) : Bool := full3 A (crG I J) (crB I J) 82714305940 62035729455 || full3 A g (crB2 I J i1 j1 j2) (crB3 I J i1 j1 j2) (crB4 I i1 j1 j2)
def cr3X (X : Nat → Int) : Bool := cr3 (qI X).natAbs (qJ X).natAbs (qD X).natAbs (gs X) (is1 X) (js1 X) (js2 X)
/-- THE PENCIL'S CUBE: where the test says yes, a root mod 2^64 with true digits is a true one -/
theorem cr3X_true (X Z : Nat → Int) (hX : bx7 X) (hZ : bx7 Z) (hD : qD X ≠ 0) (hc : cr3X X = true) (c e0 e1 e2 h3 h4 h5 h6 : Int) (q0 : qG X Z 0 = 27 * c * (e0 * e0 * e0)) (q1 : qG X Z 1 = 27 * c * (3 * (e0 * e0) * e1)) (q2 : qG X Z 2 = 27 * c * (3 * (e0 * e0) * e2 + 3 * e0 * (e1 * e1))) (q3 : qG X Z 3 = 27 * c * (6 * e0 * (e1 * e2) + e1 * e1 * e1 + 18446744073709551616 * h3)) (q4 : qG X Z 4 = 27 * c * (3 * e0 * (e2 * e2) + 3 * (e1 * e1) * e2 + 18446744073709551616 * h4)) (q5 : qG X Z 5 = 27 * c * (3 * e1 * (e2 * e2) + 18446744073709551616 * h5)) (q6 : qG X Z 6 = 27 * c * (e2 * e2 * e2 + 18446744073709551616 * h6)) : h3 = 0 ∧ h4 = 0 ∧ h5 = 0 ∧ h6 = 0 := by
  have h0 : qG X Z 0 = qD X := by
    unfold qG qD
    rfl
  have q0' : qD X = 27 * c * (e0 * e0 * e0) := by rw [← h0]; exact q0
  have he : e0 ≠ 0 := by
    intro q
    rw [q, Int.mul_zero, Int.mul_zero] at q0'
    exact hD q0'
  have hcn : c ≠ 0 := by
    intro q
    rw [q, Int.mul_zero, Int.zero_mul] at q0'
    exact hD q0'
  have hc1 : 1 ≤ c.natAbs := Int.natAbs_pos.mpr hcn
  have hc27 : 27 ≤ (27 * c).natAbs := by
    rw [Int.natAbs_mul]
    exact Nat.le_mul_of_pos_right 27 hc1
  have bi := bI X hX
  have bj := bJ X hX
  have bi1 := bI1x X Z hZ
  have bj1 := bJ1x X Z hZ
  have bj2 := bJ2x X Z hZ
  have B4g : (qG X Z 4).natAbs ≤ 62035729455 := bG4 X Z hZ 784 1568 140973 140973 bi (bI1 X Z hX hZ) (bJ1 X Z hX hZ) (bJ1 Z X hZ hX)
  have F : ∀ g b2 b3 b4 : Nat, (qG X Z 1).natAbs ≤ g → (qG X Z 2).natAbs ≤ b2 → (qG X Z 3).natAbs ≤ b3 → (qG X Z 4).natAbs ≤ b4 → full3 (qD X).natAbs g b2 b3 b4 = true → h3 = 0 ∧ h4 = 0 ∧ h5 = 0 ∧ h6 = 0 := by
    intro g b2 b3 b4 a1 a2 a3 a4 a7
    exact full3_true (27 * c) e0 e1 e2 h3 h4 h5 h6 (qD X) (qG X Z 1) (qG X Z 2) (qG X Z 3) (qG X Z 4) (qG X Z 5) (qG X Z 6) (qD X).natAbs g b2 b3 b4 q0' q1 q2 q3 q4 q5 q6 rfl a1 a2 a3 a4 (Nat.lt_of_le_of_lt B4g (by decide)) (bG5 X Z hX hZ) (bG6 X Z hZ) he hc27 a7
  have B3' : (qG X Z 3).natAbs ≤ crB3 (qI X).natAbs (qJ X).natAbs (is1 X) (js1 X) (js2 X) := bG3 X Z hZ _ _ _ _ _ (Nat.le_refl _) bi1 (Nat.le_refl _) bj1 bj2
  have L3 := crB3_le (qI X).natAbs (qJ X).natAbs (is1 X) (js1 X) (js2 X) bi bj (is1_le X hX) (js1_le X hX) (js2_le X hX)
  unfold cr3X cr3 at hc
  rw [Bool.or_eq_true] at hc
  rcases hc with hc | hc
  · refine F _ _ _ _ ?_ ?_ ?_ B4g hc
    · exact bG1 X Z _ 1568 _ 140973 (Nat.le_refl _) (bI1 X Z hX hZ) (Nat.le_refl _) (bJ1 X Z hX hZ)
    · exact bG2 X Z hZ _ 1568 _ 140973 140973 (Nat.le_refl _) (bI1 X Z hX hZ) (Nat.le_refl _) (bJ1 X Z hX hZ) (bJ1 Z X hZ hX)
    · exact Nat.le_trans B3' L3
  · have G1' : (qG X Z 1).natAbs ≤ gs X := bG1x X Z hZ
    have B2 : (qG X Z 2).natAbs ≤ crB2 (qI X).natAbs (qJ X).natAbs (is1 X) (js1 X) (js2 X) := bG2 X Z hZ _ _ _ _ _ (Nat.le_refl _) bi1 (Nat.le_refl _) bj1 bj2
    have B4 : (qG X Z 4).natAbs ≤ crB4 (qI X).natAbs (is1 X) (js1 X) (js2 X) := bG4 X Z hZ _ _ _ _ (Nat.le_refl _) bi1 bj1 bj2
    exact F _ _ _ _ G1' B2 B3' B4 hc
