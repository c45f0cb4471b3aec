/-! lead x^2 y^4 -/
theorem c2_no (I J i1 i2 j1 j2 j3 : Int) (hI : I ≠ 0) (h0 : 4 * (I * (I * I)) - J * J = 0) (h1 : 12 * (I * (I * i1)) - 2 * (J * j1) = 0) (h2 : 12 * (I * (I * i2)) + 12 * (I * (i1 * i1)) - 2 * (J * j2) - j1 * j1 = 0) (h3 : 24 * (I * (i1 * i2)) + 4 * (i1 * (i1 * i1)) - 2 * (J * j3) - 2 * (j1 * j2) = 0)
    (sq : (12 * (i2 * (i2 * i1)) - 2 * (j3 * j2)) * (12 * (i2 * (i2 * i1)) - 2 * (j3 * j2)) = 4 * ((12 * (i2 * (i2 * I)) + 12 * (i2 * (i1 * i1)) - 2 * (j3 * j1) - j2 * j2) * (4 * (i2 * (i2 * i2)) - j3 * j3))) :
    12 * (i2 * (i2 * I)) + 12 * (i2 * (i1 * i1)) - 2 * (j3 * j1) - j2 * j2 = 0 := by
  have I2 : I * I ≠ 0 := Int.mul_ne_zero hI hI
  have I3 : I * (I * I) ≠ 0 := Int.mul_ne_zero hI I2
  have J2 : J * J = 4 * (I * (I * I)) := by omega
  have a1 : J * j1 = 6 * (I * (I * i1)) := by omega
  have a2 : j1 * j1 = 9 * (I * (i1 * i1)) := by
    apply cnl (Int.mul_ne_zero (show (4 : Int) ≠ 0 by decide) I3)
    have e1 : 4 * (I * (I * I)) * (j1 * j1) = (J * j1) * (J * j1) := by rw [← J2]; clear h0 h1 h2 h3 sq a1 J2; grind
    rw [e1, a1]
    clear h0 h1 h2 h3 sq a1 J2 e1
    grind
  have a3 : 2 * (J * j2) = 12 * (I * (I * i2)) + 3 * (I * (i1 * i1)) := by omega
  have a4 : 4 * (j1 * j2) = 36 * (I * (i1 * i2)) + 9 * (i1 * (i1 * i1)) := by
    apply cnl I3
    have e1 : I * (I * I) * (4 * (j1 * j2)) = (J * j1) * (J * j2) := by
      have : I * (I * I) * (4 * (j1 * j2)) = 4 * (I * (I * I)) * (j1 * j2) := by clear h0 h1 h2 h3 sq a1 J2 a2 a3; grind
      rw [this, ← J2]
      clear h0 h1 h2 h3 sq a1 J2 a2 a3 this
      grind
    have e2 : (J * j1) * (J * j2) = 3 * (I * (I * i1)) * (2 * (J * j2)) := by
      rw [a1]
      clear h0 h1 h2 h3 sq a1 J2 a2 a3 e1
      grind
    rw [e1, e2, a3]
    clear h0 h1 h2 h3 sq a1 J2 a2 a3 e1 e2
    grind
  have a5 : 4 * (J * j3) = 12 * (I * (i1 * i2)) - i1 * (i1 * i1) := by omega
  have g4 : 16 * I * (12 * (i2 * (i2 * I)) + 12 * (i2 * (i1 * i1)) - 2 * (j3 * j1) - j2 * j2) = 3 * ((4 * (I * i2) - i1 * i1) * (4 * (I * i2) - i1 * i1)) := by
    apply cnl (Int.mul_ne_zero (show (4 : Int) ≠ 0 by decide) I2)
    have e1 : 4 * (I * I) * (16 * I * (12 * (i2 * (i2 * I)) + 12 * (i2 * (i1 * i1)) - 2 * (j3 * j1) - j2 * j2)) = 64 * (I * (I * I)) * (12 * (i2 * (i2 * I)) + 12 * (i2 * (i1 * i1))) - 8 * (4 * (J * j3)) * (J * j1) - 4 * ((2 * (J * j2)) * (2 * (J * j2))) := by
      have : 8 * (4 * (J * j3)) * (J * j1) + 4 * ((2 * (J * j2)) * (2 * (J * j2))) = J * J * (32 * (j3 * j1) + 16 * (j2 * j2)) := by clear h0 h1 h2 h3 sq a1 J2 a2 a3 a4 a5; grind
      have e : 64 * (I * (I * I)) * (12 * (i2 * (i2 * I)) + 12 * (i2 * (i1 * i1))) - 8 * (4 * (J * j3)) * (J * j1) - 4 * ((2 * (J * j2)) * (2 * (J * j2))) = 64 * (I * (I * I)) * (12 * (i2 * (i2 * I)) + 12 * (i2 * (i1 * i1))) - (8 * (4 * (J * j3)) * (J * j1) + 4 * ((2 * (J * j2)) * (2 * (J * j2)))) := by omega
      rw [e, this, J2]
      clear h0 h1 h2 h3 sq a1 J2 a2 a3 a4 a5 this e
      grind
    rw [e1, a5, a1, a3]
    clear h0 h1 h2 h3 sq a1 J2 a2 a3 a4 a5 e1
    grind
  have g5 : 16 * (I * I) * (12 * (i2 * (i2 * i1)) - 2 * (j3 * j2)) = 3 * (i1 * ((4 * (I * i2) - i1 * i1) * (4 * (I * i2) - i1 * i1))) := by
    apply cnl (Int.mul_ne_zero (show (4 : Int) ≠ 0 by decide) hI)
    have e1 : 4 * I * (16 * (I * I) * (12 * (i2 * (i2 * i1)) - 2 * (j3 * j2))) = 64 * (I * (I * I)) * (12 * (i2 * (i2 * i1))) - 4 * (4 * (J * j3)) * (2 * (J * j2)) := by
      have : 4 * (4 * (J * j3)) * (2 * (J * j2)) = J * J * (32 * (j3 * j2)) := by clear h0 h1 h2 h3 sq a1 J2 a2 a3 a4 a5 g4; grind
      rw [this, J2]
      clear h0 h1 h2 h3 sq a1 J2 a2 a3 a4 a5 g4 this
      grind
    rw [e1, a5, a3]
    clear h0 h1 h2 h3 sq a1 J2 a2 a3 a4 a5 g4 e1
    grind
  have g6 : 64 * (I * (I * I)) * (4 * (i2 * (i2 * i2)) - j3 * j3) = (4 * (I * i2) - i1 * i1) * (4 * (I * i2) - i1 * i1) * (3 * (i1 * i1) + 4 * (4 * (I * i2) - i1 * i1)) := by
    have e1 : 64 * (I * (I * I)) * (4 * (i2 * (i2 * i2)) - j3 * j3) = 64 * (I * (I * I)) * (4 * (i2 * (i2 * i2))) - (4 * (J * j3)) * (4 * (J * j3)) := by
      have : (4 * (J * j3)) * (4 * (J * j3)) = J * J * (16 * (j3 * j3)) := by clear h0 h1 h2 h3 sq a1 J2 a2 a3 a4 a5 g4 g5; grind
      rw [this, J2]
      clear h0 h1 h2 h3 sq a1 J2 a2 a3 a4 a5 g4 g5 this
      grind
    rw [e1, a5]
    clear h0 h1 h2 h3 sq a1 J2 a2 a3 a4 a5 g4 g5 e1
    grind
  generalize 12 * (i2 * (i2 * I)) + 12 * (i2 * (i1 * i1)) - 2 * (j3 * j1) - j2 * j2 = G4 at *
  generalize 12 * (i2 * (i2 * i1)) - 2 * (j3 * j2) = G5 at *
  generalize 4 * (i2 * (i2 * i2)) - j3 * j3 = G6 at *
  generalize 4 * (I * i2) - i1 * i1 = D at *
  clear h0 h1 h2 h3 J2 a1 a2 a3 a4 a5
  have s1 : 9 * (i1 * i1 * (D * D * (D * D))) = 256 * (I * I * (I * I)) * (G5 * G5) := by
    have : 256 * (I * I * (I * I)) * (G5 * G5) = (16 * (I * I) * G5) * (16 * (I * I) * G5) := by clear g4 g5 g6 sq; grind
    rw [this, g5]
    clear g4 g5 g6 sq this
    grind
  have s2' : 3 * (D * D * (D * D) * (3 * (i1 * i1) + 4 * D)) = 256 * (I * I * (I * I)) * (4 * (G4 * G6)) := by
    have : 256 * (I * I * (I * I)) * (4 * (G4 * G6)) = (16 * I * G4) * (64 * (I * (I * I)) * G6) := by clear g4 g5 g6 sq s1; grind
    rw [this, g4, g6]
    clear g4 g5 g6 sq this s1
    grind
  have s3 : 12 * (D * (D * (D * (D * D)))) = 0 := by
    rw [← sq, ← s1] at s2'
    clear g4 g5 g6 sq s1
    grind
  have D0 : D = 0 := by
    have t := (Int.mul_eq_zero.mp s3).resolve_left (by decide)
    rcases Int.mul_eq_zero.mp t with r | t
    · exact r
    rcases Int.mul_eq_zero.mp t with r | t
    · exact r
    rcases Int.mul_eq_zero.mp t with r | t
    · exact r
    rcases Int.mul_eq_zero.mp t with r | r
    · exact r
    · exact r
  rw [D0] at g4
  simp only [Int.zero_mul, Int.mul_zero] at g4
  exact (Int.mul_eq_zero.mp g4).resolve_left (Int.mul_ne_zero (by decide) hI)
/-- two digits that go with the first -/
theorem d_cc (C e a u v U V : Int) (ha : a ≠ 0) (hC : C * (e * e) = -(a * a)) (hu : a * u = U * e) (hv : a * v = V * e) : C * (u * v) = -(U * V) := by
  apply cnl (Int.mul_ne_zero ha ha)
  have e1 : a * a * (C * (u * v)) = C * ((a * u) * (a * v)) := by clear hu hv hC; grind
  have e2 : C * ((U * e) * (V * e)) = C * (e * e) * (U * V) := by clear hu hv hC e1; grind
  rw [e1, hu, hv, e2, hC]
  clear hu hv hC e1 e2
  grind
/-- the digit behind -/
theorem d_dig (C e a x U T s S : Int) (ha : a ≠ 0) (hC : C * (e * e) = -(a * a)) (hT : T = C * (2 * e * x + s)) (hs : C * s = -S) (hU : T = -(2 * (a * U)) - S) : a * x = U * e := by
  have e1 : C * (2 * e * x) = -(2 * (a * U)) := by
    have : C * (2 * e * x + s) = C * (2 * e * x) + C * s := Int.mul_add _ _ _
    omega
  apply cnl (Int.mul_ne_zero (show (2 : Int) ≠ 0 by decide) ha)
  have e2 : C * (2 * e * x) * e = C * (e * e) * (2 * x) := by clear e1 hC hT hs hU; grind
  rw [e1, hC] at e2
  clear e1 hC hT hs hU
  grind
theorem d_small (a x U e : Int) (n : Nat) (ha : a ≠ 0) (h : a * x = U * e) (he : e.natAbs ≤ a.natAbs) (hU : U.natAbs ≤ n) : x.natAbs ≤ n := by
  have e1 : a.natAbs * x.natAbs ≤ a.natAbs * n := by
    rw [← Int.natAbs_mul, h, Int.natAbs_mul, Nat.mul_comm a.natAbs n]
    exact Nat.mul_le_mul hU he
  exact Nat.le_of_mul_le_mul_left e1 (Int.natAbs_pos.mpr ha)
/-- what is left, where the numbers go together -/
theorem d_left (C s H T S R : Int) (n : Nat) (hC : 27 ≤ C.natAbs) (hT : T = C * (s + 18446744073709551616 * H)) (hs : C * s = -S) (hR : T = R - S) (bR : R.natAbs ≤ n) (hn : n < 498062089990157893632) : H = 0 ∧ R = 0 := by
  have e1 : R = C * (18446744073709551616 * H) := by
    have : C * (s + 18446744073709551616 * H) = C * s + C * (18446744073709551616 * H) := Int.mul_add _ _ _
    omega
  have hH : H = 0 := by
    by_cases r : H = 0
    · exact r
    · exfalso
      have h1 : 1 ≤ H.natAbs := Int.natAbs_pos.mpr r
      rw [e1, Int.natAbs_mul, Int.natAbs_mul] at bR
      have : 27 * (18446744073709551616 * 1) ≤ C.natAbs * ((18446744073709551616 : Int).natAbs * H.natAbs) := Nat.mul_le_mul hC (Nat.mul_le_mul (Nat.le_refl _) h1)
      omega
  refine ⟨hH, ?_⟩
  rw [e1, hH, Int.mul_zero, Int.mul_zero]
theorem cube_zero (x : Int) (h : 4 * (x * (x * x)) = 0) : x = 0 := by
  have t := (Int.mul_eq_zero.mp h).resolve_left (by decide)
  rcases Int.mul_eq_zero.mp t with r | t
  · exact r
  rcases Int.mul_eq_zero.mp t with r | r
  · exact r
  · exact r
