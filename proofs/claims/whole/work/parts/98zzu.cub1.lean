/-! THE CUBE, lead x^3 y^3: tools -/
theorem c3_no (I J i1 i2 j1 j2 j3 G3 G4 G5 G6 : Int) (hI : I ≠ 0) (h0 : 4 * (I * (I * I)) - J * J = 0) (h1 : 12 * (I * (I * i1)) - 2 * (J * j1) = 0) (h2 : 12 * (I * (I * i2)) + 12 * (I * (i1 * i1)) - 2 * (J * j2) - j1 * j1 = 0) (h3 : 24 * (I * (i1 * i2)) + 4 * (i1 * (i1 * i1)) - 2 * (J * j3) - 2 * (j1 * j2) = G3)
    (h4 : 12 * (i2 * (i2 * I)) + 12 * (i2 * (i1 * i1)) - 2 * (j3 * j1) - j2 * j2 = G4) (h5 : 12 * (i2 * (i2 * i1)) - 2 * (j3 * j2) = G5) (h6 : 4 * (i2 * (i2 * i2)) - j3 * j3 = G6)
    (q1 : G4 * G4 = 3 * (G3 * G5)) (q2 : G4 * G5 = 9 * (G3 * G6)) : G3 = 0 := by
  have I2 : I * I ≠ 0 := Int.mul_ne_zero hI hI
  have I3 : I * (I * I) ≠ 0 := Int.mul_ne_zero hI I2
  have J2 : J * J = 4 * (I * (I * I)) := by omega
  have a1 : J * j1 = 6 * (I * (I * i1)) := by omega
  have a2 : j1 * j1 = 9 * (I * (i1 * i1)) := by
    apply cnl (Int.mul_ne_zero (show (4 : Int) ≠ 0 by decide) I3)
    have e1 : 4 * (I * (I * I)) * (j1 * j1) = (J * j1) * (J * j1) := by rw [← J2]; clear h0 h1 h2 h3 h4 h5 h6 q1 q2 a1 J2; grind
    rw [e1, a1]
    clear h0 h1 h2 h3 h4 h5 h6 q1 q2 a1 J2 e1
    grind
  have a3 : 2 * (J * j2) = 12 * (I * (I * i2)) + 3 * (I * (i1 * i1)) := by omega
  have a4 : 4 * (j1 * j2) = 36 * (I * (i1 * i2)) + 9 * (i1 * (i1 * i1)) := by
    apply cnl I3
    have e1 : I * (I * I) * (4 * (j1 * j2)) = (J * j1) * (J * j2) := by
      have : I * (I * I) * (4 * (j1 * j2)) = 4 * (I * (I * I)) * (j1 * j2) := by clear h0 h1 h2 h3 h4 h5 h6 q1 q2 a1 J2 a2 a3; grind
      rw [this, ← J2]
      clear h0 h1 h2 h3 h4 h5 h6 q1 q2 a1 J2 a2 a3 this
      grind
    have e2 : (J * j1) * (J * j2) = 3 * (I * (I * i1)) * (2 * (J * j2)) := by
      rw [a1]
      clear h0 h1 h2 h3 h4 h5 h6 q1 q2 a1 J2 a2 a3 e1
      grind
    rw [e1, e2, a3]
    clear h0 h1 h2 h3 h4 h5 h6 q1 q2 a1 J2 a2 a3 e1 e2
    grind
  have a5 : 4 * (J * j3) = 12 * (I * (i1 * i2)) - i1 * (i1 * i1) - 2 * G3 := by omega
  have g4 : 16 * I * G4 = 3 * ((4 * (I * i2) - i1 * i1) * (4 * (I * i2) - i1 * i1)) + 24 * (i1 * G3) := by
    apply cnl (Int.mul_ne_zero (show (4 : Int) ≠ 0 by decide) I2)
    have e1 : 4 * (I * I) * (16 * I * G4) = 64 * (I * (I * I)) * (12 * (i2 * (i2 * I)) + 12 * (i2 * (i1 * i1))) - 8 * (4 * (J * j3)) * (J * j1) - 4 * ((2 * (J * j2)) * (2 * (J * j2))) := by
      rw [← h4]
      have : 8 * (4 * (J * j3)) * (J * j1) + 4 * ((2 * (J * j2)) * (2 * (J * j2))) = J * J * (32 * (j3 * j1) + 16 * (j2 * j2)) := by clear h0 h1 h2 h3 h4 h5 h6 q1 q2 a1 J2 a2 a3 a4 a5; grind
      have e : 64 * (I * (I * I)) * (12 * (i2 * (i2 * I)) + 12 * (i2 * (i1 * i1))) - 8 * (4 * (J * j3)) * (J * j1) - 4 * ((2 * (J * j2)) * (2 * (J * j2))) = 64 * (I * (I * I)) * (12 * (i2 * (i2 * I)) + 12 * (i2 * (i1 * i1))) - (8 * (4 * (J * j3)) * (J * j1) + 4 * ((2 * (J * j2)) * (2 * (J * j2)))) := by omega
      rw [e, this, J2]
      clear h0 h1 h2 h3 h4 h5 h6 q1 q2 a1 J2 a2 a3 a4 a5 this e
      grind
    rw [e1, a5, a1, a3]
    clear h0 h1 h2 h3 h4 h5 h6 q1 q2 a1 J2 a2 a3 a4 a5 e1
    grind
  have g5 : 16 * (I * I) * G5 = 3 * (i1 * ((4 * (I * i2) - i1 * i1) * (4 * (I * i2) - i1 * i1))) + 6 * (G3 * ((4 * (I * i2) - i1 * i1) + 2 * (i1 * i1))) := by
    apply cnl (Int.mul_ne_zero (show (4 : Int) ≠ 0 by decide) hI)
    have e1 : 4 * I * (16 * (I * I) * G5) = 64 * (I * (I * I)) * (12 * (i2 * (i2 * i1))) - 4 * (4 * (J * j3)) * (2 * (J * j2)) := by
      rw [← h5]
      have : 4 * (4 * (J * j3)) * (2 * (J * j2)) = J * J * (32 * (j3 * j2)) := by clear h0 h1 h2 h3 h4 h5 h6 q1 q2 a1 J2 a2 a3 a4 a5 g4; grind
      rw [this, J2]
      clear h0 h1 h2 h3 h4 h5 h6 q1 q2 a1 J2 a2 a3 a4 a5 g4 this
      grind
    rw [e1, a5, a3]
    clear h0 h1 h2 h3 h4 h5 h6 q1 q2 a1 J2 a2 a3 a4 a5 g4 e1
    grind
  have g6 : 64 * (I * (I * I)) * G6 = (4 * (I * i2) - i1 * i1) * (4 * (I * i2) - i1 * i1) * (3 * (i1 * i1) + 4 * (4 * (I * i2) - i1 * i1)) + 4 * (G3 * (i1 * (3 * (4 * (I * i2) - i1 * i1) + 2 * (i1 * i1)))) - 4 * (G3 * G3) := by
    have e1 : 64 * (I * (I * I)) * G6 = 64 * (I * (I * I)) * (4 * (i2 * (i2 * i2))) - (4 * (J * j3)) * (4 * (J * j3)) := by
      rw [← h6]
      have : (4 * (J * j3)) * (4 * (J * j3)) = J * J * (16 * (j3 * j3)) := by clear h0 h1 h2 h3 h4 h5 h6 q1 q2 a1 J2 a2 a3 a4 a5 g4 g5; grind
      rw [this, J2]
      clear h0 h1 h2 h3 h4 h5 h6 q1 q2 a1 J2 a2 a3 a4 a5 g4 g5 this
      grind
    rw [e1, a5]
    clear h0 h1 h2 h3 h4 h5 h6 q1 q2 a1 J2 a2 a3 a4 a5 g4 g5 e1
    grind
  clear h0 h1 h2 h3 h4 h5 h6 J2 a1 a2 a3 a4 a5
  generalize 4 * (I * i2) - i1 * i1 = D at *
  have s1 : (16 * I * G4) * (16 * I * G4) = 48 * G3 * (16 * (I * I) * G5) := by
    have : (16 * I * G4) * (16 * I * G4) = 256 * (I * I) * (G4 * G4) := by clear g4 g5 g6 q1 q2; grind
    rw [this, q1]
    clear g4 g5 g6 q1 q2 this
    grind
  have s2' : (16 * I * G4) * (16 * (I * I) * G5) = 36 * G3 * (64 * (I * (I * I)) * G6) := by
    have : (16 * I * G4) * (16 * (I * I) * G5) = 256 * (I * (I * I)) * (G4 * G5) := by clear g4 g5 g6 q1 q2 s1; grind
    rw [this, q2]
    clear g4 g5 g6 q1 q2 this s1
    grind
  rw [g4, g5] at s1
  rw [g4, g5, g6] at s2'
  clear g4 g5 g6 q1 q2
  have r1 : D * (D * (D * D)) = 32 * (G3 * (G3 * D)) := by
    have : 9 * (D * (D * (D * D))) = 288 * (G3 * (G3 * D)) := by
      clear s2'
      grind
    omega
  have r2 : G3 * (7 * (D * (D * D)) - 8 * (G3 * G3)) = 0 := by
    have : 18 * (G3 * (7 * (D * (D * D)) - 8 * (G3 * G3))) = 9 * (i1 * (D * (D * (D * D)))) - 288 * (i1 * (G3 * (G3 * D))) := by
      clear s1 r1
      grind
    rw [r1] at this
    have e : 9 * (i1 * (32 * (G3 * (G3 * D)))) = 288 * (i1 * (G3 * (G3 * D))) := by
      clear s1 s2' r1 this
      grind
    rw [e] at this
    omega
  rcases Int.mul_eq_zero.mp r2 with r | r
  · exact r
  · by_cases d : D = 0
    · rw [d] at r
      have : G3 * G3 = 0 := by omega
      rcases Int.mul_eq_zero.mp this with t | t
      · exact t
      · exact t
    · have e : D * (D * D) = 32 * (G3 * G3) := by
        apply cnl d
        rw [r1]
        clear s1 s2' r1 r2 r
        grind
      rw [e] at r
      have : G3 * G3 = 0 := by omega
      rcases Int.mul_eq_zero.mp this with t | t
      · exact t
      · exact t
/-- three digits that go with the first -/
theorem c_cc (K e a u v w U V W : Int) (ha : a ≠ 0) (hK : K * (e * (e * e)) = 4 * (a * (a * a))) (hu : a * u = U * e) (hv : a * v = V * e) (hw : a * w = W * e) : K * (u * (v * w)) = 4 * (U * (V * W)) := by
  apply cnl (Int.mul_ne_zero ha (Int.mul_ne_zero ha ha))
  have e1 : a * (a * a) * (K * (u * (v * w))) = K * ((a * u) * ((a * v) * (a * w))) := by clear hu hv hw hK; grind
  have e2 : K * ((U * e) * ((V * e) * (W * e))) = K * (e * (e * e)) * (U * (V * W)) := by clear hu hv hw hK e1; grind
  rw [e1, hu, hv, hw, e2, hK]
  clear hu hv hw hK e1 e2
  grind
/-- the digit behind -/
theorem c_dig (K e a x U : Int) (ha : a ≠ 0) (hK : K * (e * (e * e)) = 4 * (a * (a * a))) (h : K * (3 * (e * e) * x) = 12 * (a * (a * U))) : a * x = U * e := by
  apply cnl (Int.mul_ne_zero (show (12 : Int) ≠ 0 by decide) (Int.mul_ne_zero ha ha))
  have e1 : K * (3 * (e * e) * x) * e = K * (e * (e * e)) * (3 * x) := by clear h hK; grind
  rw [h, hK] at e1
  clear h hK
  grind
/-- what is left, times a number -/
theorem d_mul (K s H T m0 S R : Int) (n : Nat) (hm : m0 ≠ 0) (hK : 27 ≤ K.natAbs) (hT : T = K * (s + 18446744073709551616 * H)) (hs : m0 * (K * s) = S) (hR : m0 * T = S + R) (bR : R.natAbs ≤ n) (hn : n < 498062089990157893632 * m0.natAbs) : H = 0 ∧ R = 0 := by
  have e1 : R = m0 * (K * (18446744073709551616 * H)) := by
    have : m0 * (K * (s + 18446744073709551616 * H)) = m0 * (K * s) + m0 * (K * (18446744073709551616 * H)) := by rw [Int.mul_add, Int.mul_add]
    rw [hT, this, hs] at hR
    omega
  have hH : H = 0 := by
    by_cases r : H = 0
    · exact r
    · exfalso
      have h1 : 1 ≤ H.natAbs := Int.natAbs_pos.mpr r
      rw [e1, Int.natAbs_mul, Int.natAbs_mul, Int.natAbs_mul] at bR
      have a1 : m0.natAbs * (27 * (18446744073709551616 * 1)) ≤ m0.natAbs * (K.natAbs * ((18446744073709551616 : Int).natAbs * H.natAbs)) := Nat.mul_le_mul (Nat.le_refl _) (Nat.mul_le_mul hK (Nat.mul_le_mul (Nat.le_refl _) h1))
      omega
  refine ⟨hH, ?_⟩
  rw [e1, hH, Int.mul_zero, Int.mul_zero, Int.mul_zero]
/-- the second quartic has both invariants as the cube wants them -/
theorem c_u (a0 e1 e2 i2 j0 b3 : Int) (ha : a0 ≠ 0) (he : e1 ≠ 0) (h1 : 12 * (a0 * (a0 * (i2 * e1 - a0 * e2))) = j0 * j0 * e1) (h2 : 6 * (a0 * ((i2 * e1 - a0 * e2) * (i2 * e1 + a0 * e2))) = j0 * b3 * (e1 * e1)) (h3 : 4 * ((i2 * e1 - a0 * e2) * (i2 * e1 * (i2 * e1) + i2 * e1 * (a0 * e2) + a0 * e2 * (a0 * e2))) = b3 * b3 * (e1 * (e1 * e1))) : a0 * e2 = i2 * e1 ∧ j0 = 0 ∧ b3 = 0 := by
  have hu : i2 * e1 - a0 * e2 = 0 := by
    generalize hP : i2 * e1 = P at *
    generalize hQ : a0 * e2 = Q at *
    have e : 12 * (a0 * (a0 * (P - Q))) * (4 * ((P - Q) * (P * P + P * Q + Q * Q))) = (6 * (a0 * ((P - Q) * (P + Q)))) * (6 * (a0 * ((P - Q) * (P + Q)))) := by
      rw [h1, h2, h3]
      clear h1 h2 h3 hP hQ
      grind
    have e2' : 12 * (a0 * a0 * ((P - Q) * ((P - Q) * ((P - Q) * (P - Q))))) = 0 := by
      clear h1 h2 h3 hP hQ
      grind
    have t := (Int.mul_eq_zero.mp e2').resolve_left (by decide)
    have t := (Int.mul_eq_zero.mp t).resolve_left (Int.mul_ne_zero ha ha)
    rcases Int.mul_eq_zero.mp t with r | t
    · exact r
    rcases Int.mul_eq_zero.mp t with r | t
    · exact r
    rcases Int.mul_eq_zero.mp t with r | r
    · exact r
    · exact r
  rw [hu] at h1 h3
  have h1' : j0 * j0 * e1 = 0 := by
    rw [← h1]
    simp only [Int.mul_zero]
  have h3' : b3 * b3 * (e1 * (e1 * e1)) = 0 := by
    rw [← h3]
    simp only [Int.mul_zero, Int.zero_mul]
  refine ⟨by omega, ?_, ?_⟩
  · have := (Int.mul_eq_zero.mp h1').resolve_right he
    rcases Int.mul_eq_zero.mp this with t | t
    · exact t
    · exact t
  · have := (Int.mul_eq_zero.mp h3').resolve_right (Int.mul_ne_zero he (Int.mul_ne_zero he he))
    rcases Int.mul_eq_zero.mp this with t | t
    · exact t
    · exact t
