/-! lead x^2 y^2 w^2 -/
theorem c2_g (I J i1 i2 j1 j2 j3 : Int) (hI : I ≠ 0) (h0 : 4 * (I * (I * I)) - J * J = 0) (h1 : 12 * (I * (I * i1)) - 2 * (J * j1) = 0) (h2 : 12 * (I * (I * i2)) + 12 * (I * (i1 * i1)) - 2 * (J * j2) - j1 * j1 = 0) (h3 : 24 * (I * (i1 * i2)) + 4 * (i1 * (i1 * i1)) - 2 * (J * j3) - 2 * (j1 * j2) = 0) : 16 * I * (12 * (i2 * (i2 * I)) + 12 * (i2 * (i1 * i1)) - 2 * (j3 * j1) - j2 * j2) = 3 * ((4 * (I * i2) - i1 * i1) * (4 * (I * i2) - i1 * i1)) ∧ 16 * (I * I) * (12 * (i2 * (i2 * i1)) - 2 * (j3 * j2)) = 3 * (i1 * ((4 * (I * i2) - i1 * i1) * (4 * (I * i2) - i1 * i1))) ∧ 64 * (I * (I * I)) * (4 * (i2 * (i2 * i2)) - j3 * j3) = (4 * (I * i2) - i1 * i1) * (4 * (I * i2) - i1 * i1) * (3 * (i1 * i1) + 4 * (4 * (I * i2) - i1 * i1)) := by
  have I2 : I * I ≠ 0 := Int.mul_ne_zero hI hI
  have I3 : I * (I * I) ≠ 0 := Int.mul_ne_zero hI I2
  have J2 : J * J = 4 * (I * (I * I)) := by omega
  have a1 : J * j1 = 6 * (I * (I * i1)) := by omega
  have a2 : j1 * j1 = 9 * (I * (i1 * i1)) := by
    apply cnl (Int.mul_ne_zero (show (4 : Int) ≠ 0 by decide) I3)
    have e1 : 4 * (I * (I * I)) * (j1 * j1) = (J * j1) * (J * j1) := by rw [← J2]; clear h0 h1 h2 h3 a1 J2; grind
    rw [e1, a1]
    clear h0 h1 h2 h3 a1 J2 e1
    grind
  have a3 : 2 * (J * j2) = 12 * (I * (I * i2)) + 3 * (I * (i1 * i1)) := by omega
  have a4 : 4 * (j1 * j2) = 36 * (I * (i1 * i2)) + 9 * (i1 * (i1 * i1)) := by
    apply cnl I3
    have e1 : I * (I * I) * (4 * (j1 * j2)) = (J * j1) * (J * j2) := by
      have : I * (I * I) * (4 * (j1 * j2)) = 4 * (I * (I * I)) * (j1 * j2) := by clear h0 h1 h2 h3 a1 J2 a2 a3; grind
      rw [this, ← J2]
      clear h0 h1 h2 h3 a1 J2 a2 a3 this
      grind
    have e2 : (J * j1) * (J * j2) = 3 * (I * (I * i1)) * (2 * (J * j2)) := by
      rw [a1]
      clear h0 h1 h2 h3 a1 J2 a2 a3 e1
      grind
    rw [e1, e2, a3]
    clear h0 h1 h2 h3 a1 J2 a2 a3 e1 e2
    grind
  have a5 : 4 * (J * j3) = 12 * (I * (i1 * i2)) - i1 * (i1 * i1) := by omega
  have g4 : 16 * I * (12 * (i2 * (i2 * I)) + 12 * (i2 * (i1 * i1)) - 2 * (j3 * j1) - j2 * j2) = 3 * ((4 * (I * i2) - i1 * i1) * (4 * (I * i2) - i1 * i1)) := by
    apply cnl (Int.mul_ne_zero (show (4 : Int) ≠ 0 by decide) I2)
    have e1 : 4 * (I * I) * (16 * I * (12 * (i2 * (i2 * I)) + 12 * (i2 * (i1 * i1)) - 2 * (j3 * j1) - j2 * j2)) = 64 * (I * (I * I)) * (12 * (i2 * (i2 * I)) + 12 * (i2 * (i1 * i1))) - 8 * (4 * (J * j3)) * (J * j1) - 4 * ((2 * (J * j2)) * (2 * (J * j2))) := by
      have : 8 * (4 * (J * j3)) * (J * j1) + 4 * ((2 * (J * j2)) * (2 * (J * j2))) = J * J * (32 * (j3 * j1) + 16 * (j2 * j2)) := by clear h0 h1 h2 h3 a1 J2 a2 a3 a4 a5; grind
      have e : 64 * (I * (I * I)) * (12 * (i2 * (i2 * I)) + 12 * (i2 * (i1 * i1))) - 8 * (4 * (J * j3)) * (J * j1) - 4 * ((2 * (J * j2)) * (2 * (J * j2))) = 64 * (I * (I * I)) * (12 * (i2 * (i2 * I)) + 12 * (i2 * (i1 * i1))) - (8 * (4 * (J * j3)) * (J * j1) + 4 * ((2 * (J * j2)) * (2 * (J * j2)))) := by omega
      rw [e, this, J2]
      clear h0 h1 h2 h3 a1 J2 a2 a3 a4 a5 this e
      grind
    rw [e1, a5, a1, a3]
    clear h0 h1 h2 h3 a1 J2 a2 a3 a4 a5 e1
    grind
  have g5 : 16 * (I * I) * (12 * (i2 * (i2 * i1)) - 2 * (j3 * j2)) = 3 * (i1 * ((4 * (I * i2) - i1 * i1) * (4 * (I * i2) - i1 * i1))) := by
    apply cnl (Int.mul_ne_zero (show (4 : Int) ≠ 0 by decide) hI)
    have e1 : 4 * I * (16 * (I * I) * (12 * (i2 * (i2 * i1)) - 2 * (j3 * j2))) = 64 * (I * (I * I)) * (12 * (i2 * (i2 * i1))) - 4 * (4 * (J * j3)) * (2 * (J * j2)) := by
      have : 4 * (4 * (J * j3)) * (2 * (J * j2)) = J * J * (32 * (j3 * j2)) := by clear h0 h1 h2 h3 a1 J2 a2 a3 a4 a5 g4; grind
      rw [this, J2]
      clear h0 h1 h2 h3 a1 J2 a2 a3 a4 a5 g4 this
      grind
    rw [e1, a5, a3]
    clear h0 h1 h2 h3 a1 J2 a2 a3 a4 a5 g4 e1
    grind
  have g6 : 64 * (I * (I * I)) * (4 * (i2 * (i2 * i2)) - j3 * j3) = (4 * (I * i2) - i1 * i1) * (4 * (I * i2) - i1 * i1) * (3 * (i1 * i1) + 4 * (4 * (I * i2) - i1 * i1)) := by
    have e1 : 64 * (I * (I * I)) * (4 * (i2 * (i2 * i2)) - j3 * j3) = 64 * (I * (I * I)) * (4 * (i2 * (i2 * i2))) - (4 * (J * j3)) * (4 * (J * j3)) := by
      have : (4 * (J * j3)) * (4 * (J * j3)) = J * J * (16 * (j3 * j3)) := by clear h0 h1 h2 h3 a1 J2 a2 a3 a4 a5 g4 g5; grind
      rw [this, J2]
      clear h0 h1 h2 h3 a1 J2 a2 a3 a4 a5 g4 g5 this
      grind
    rw [e1, a5]
    clear h0 h1 h2 h3 a1 J2 a2 a3 a4 a5 g4 g5 e1
    grind
  exact ⟨g4, g5, g6⟩
theorem qG_Z (X Y W : Nat → Int) (s : Int) :
    qG X (fun k => Y k + s * W k) 0 = tT600 X Y W ∧
    qG X (fun k => Y k + s * W k) 1 = tT510 X Y W + s * tT501 X Y W ∧
    qG X (fun k => Y k + s * W k) 2 = tT420 X Y W + s * tT411 X Y W + s * s * tT402 X Y W ∧
    qG X (fun k => Y k + s * W k) 3 = tT330 X Y W + s * tT321 X Y W + s * s * tT312 X Y W + s * s * s * tT303 X Y W ∧
    qG X (fun k => Y k + s * W k) 4 = tT240 X Y W + s * tT231 X Y W + s * s * tT222 X Y W + s * s * s * tT213 X Y W + s * s * s * s * tT204 X Y W ∧
    qG X (fun k => Y k + s * W k) 5 = tT150 X Y W + s * tT141 X Y W + s * s * tT132 X Y W + s * s * s * tT123 X Y W + s * s * s * s * tT114 X Y W + s * s * s * s * s * tT105 X Y W ∧
    qG X (fun k => Y k + s * W k) 6 = tT060 X Y W + s * tT051 X Y W + s * s * tT042 X Y W + s * s * s * tT033 X Y W + s * s * s * s * tT024 X Y W + s * s * s * s * s * tT015 X Y W + s * s * s * s * s * s * tT006 X Y W := by
  have E : ∀ x : Int, _ := fun x => (qD_pencil (fun k => Y k + s * W k) X 1 x).symm.trans ((congrArg qD (show (fun k => 1 * (Y k + s * W k) + x * X k) = (fun k => x * X k + 1 * Y k + s * W k) by funext k; simp only [Int.one_mul]; omega)).trans (qD_net X Y W x 1 s))
  have rv : ∀ (A B : Nat → Int), qG A B 0 = qG B A 6 ∧ qG A B 1 = qG B A 5 ∧ qG A B 2 = qG B A 4 ∧ qG A B 3 = qG B A 3 ∧ qG A B 4 = qG B A 2 ∧ qG A B 5 = qG B A 1 ∧ qG A B 6 = qG B A 0 := by
    intro A B
    have i := qI1_sym A B
    unfold qG
    simp only [if_true, if_false, Nat.reduceEqDiff]
    rw [i]
    refine ⟨?_, ?_, ?_, ?_, ?_, ?_, ?_⟩ <;> grind
  obtain ⟨r0, r1, r2, r3, r4, r5, r6⟩ := rv (fun k => Y k + s * W k) X
  rw [r0, r1, r2, r3, r4, r5, r6] at E
  generalize qG X (fun k => Y k + s * W k) 0 = g0 at *
  generalize qG X (fun k => Y k + s * W k) 1 = g1 at *
  generalize qG X (fun k => Y k + s * W k) 2 = g2 at *
  generalize qG X (fun k => Y k + s * W k) 3 = g3 at *
  generalize qG X (fun k => Y k + s * W k) 4 = g4 at *
  generalize qG X (fun k => Y k + s * W k) 5 = g5 at *
  generalize qG X (fun k => Y k + s * W k) 6 = g6 at *
  generalize tT600 X Y W = t600 at *
  generalize tT510 X Y W = t510 at *
  generalize tT501 X Y W = t501 at *
  generalize tT420 X Y W = t420 at *
  generalize tT411 X Y W = t411 at *
  generalize tT402 X Y W = t402 at *
  generalize tT330 X Y W = t330 at *
  generalize tT321 X Y W = t321 at *
  generalize tT312 X Y W = t312 at *
  generalize tT303 X Y W = t303 at *
  generalize tT240 X Y W = t240 at *
  generalize tT231 X Y W = t231 at *
  generalize tT222 X Y W = t222 at *
  generalize tT213 X Y W = t213 at *
  generalize tT204 X Y W = t204 at *
  generalize tT150 X Y W = t150 at *
  generalize tT141 X Y W = t141 at *
  generalize tT132 X Y W = t132 at *
  generalize tT123 X Y W = t123 at *
  generalize tT114 X Y W = t114 at *
  generalize tT105 X Y W = t105 at *
  generalize tT060 X Y W = t060 at *
  generalize tT051 X Y W = t051 at *
  generalize tT042 X Y W = t042 at *
  generalize tT033 X Y W = t033 at *
  generalize tT024 X Y W = t024 at *
  generalize tT015 X Y W = t015 at *
  generalize tT006 X Y W = t006 at *
  have U := u7 (g6 - (t060 + s * t051 + s * s * t042 + s * s * s * t033 + s * s * s * s * t024 + s * s * s * s * s * t015 + s * s * s * s * s * s * t006)) (g5 - (t150 + s * t141 + s * s * t132 + s * s * s * t123 + s * s * s * s * t114 + s * s * s * s * s * t105)) (g4 - (t240 + s * t231 + s * s * t222 + s * s * s * t213 + s * s * s * s * t204)) (g3 - (t330 + s * t321 + s * s * t312 + s * s * s * t303)) (g2 - (t420 + s * t411 + s * s * t402)) (g1 - (t510 + s * t501)) (g0 - (t600)) (by
    intro x
    have e := E x
    clear E
    simp only [Int.one_mul, Int.mul_one] at e
    grind)
  obtain ⟨a6, a5, a4, a3, a2, a1, a0⟩ := U
  exact ⟨Int.eq_of_sub_eq_zero a0, Int.eq_of_sub_eq_zero a1, Int.eq_of_sub_eq_zero a2, Int.eq_of_sub_eq_zero a3, Int.eq_of_sub_eq_zero a4, Int.eq_of_sub_eq_zero a5, Int.eq_of_sub_eq_zero a6⟩
