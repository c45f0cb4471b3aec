/-! backwards, negated, at -t: the pencil's form stays -/
def rvq (X : Nat → Int) : Nat → Int := fun k => X (4 - k)
def ngq (X : Nat → Int) : Nat → Int := fun k => -X k
def alq (X : Nat → Int) : Nat → Int := fun k => if k % 2 = 1 then -X k else X k
theorem qG_of (X Z Y V : Nat → Int) (a : qI Y = qI X) (b : qI V = qI Z) (c : qI1 Y V = qI1 X Z) (e : Int) (he : e * e = 1) (d : qJ Y = e * qJ X) (f : qJ V = e * qJ Z) (g : qJ1 Y V = e * qJ1 X Z) (h : qJ1 V Y = e * qJ1 Z X) (j : Nat) : qG Y V j = qG X Z j := by
  have k : ∀ p q : Int, e * p * (e * q) = p * q := by
    intro p q
    have : e * p * (e * q) = (e * e) * (p * q) := by grind
    rw [this, he, Int.one_mul]
  unfold qG
  rw [a, b, c, d, f, g, h]
  simp only [k]
theorem qG_rv (X Z : Nat → Int) (j : Nat) : qG (rvq X) (rvq Z) j = qG X Z j := by
  have i : ∀ X : Nat → Int, qI (rvq X) = qI X := by
    intro X
    show 12 * (X 4 * X 0) - 3 * (X 3 * X 1) + X 2 * X 2 = 12 * (X 0 * X 4) - 3 * (X 1 * X 3) + X 2 * X 2
    grind
  have i1 : ∀ X Z : Nat → Int, qI1 (rvq X) (rvq Z) = qI1 X Z := by
    intro X Z
    show 12 * (X 4 * Z 0 + Z 4 * X 0) - 3 * (X 3 * Z 1 + Z 3 * X 1) + 2 * (X 2 * Z 2) = 12 * (X 0 * Z 4 + Z 0 * X 4) - 3 * (X 1 * Z 3 + Z 1 * X 3) + 2 * (X 2 * Z 2)
    grind
  have jj : ∀ X : Nat → Int, qJ (rvq X) = 1 * qJ X := by
    intro X
    show 72 * (X 4 * (X 2 * X 0)) + 9 * (X 3 * (X 2 * X 1)) - 27 * (X 4 * (X 1 * X 1)) - 27 * (X 0 * (X 3 * X 3)) - 2 * (X 2 * (X 2 * X 2)) = 1 * (72 * (X 0 * (X 2 * X 4)) + 9 * (X 1 * (X 2 * X 3)) - 27 * (X 0 * (X 3 * X 3)) - 27 * (X 4 * (X 1 * X 1)) - 2 * (X 2 * (X 2 * X 2)))
    grind
  have j1 : ∀ X Z : Nat → Int, qJ1 (rvq X) (rvq Z) = 1 * qJ1 X Z := by
    intro X Z
    unfold qJ1 qJd rvq
    simp only [if_true, if_false, Nat.reduceEqDiff, Nat.reduceSub]
    grind
  exact qG_of X Z _ _ (i X) (i Z) (i1 X Z) 1 rfl (jj X) (jj Z) (j1 X Z) (j1 Z X) j
theorem qG_ng (X Z : Nat → Int) (j : Nat) : qG (ngq X) (ngq Z) j = qG X Z j := by
  have i : ∀ X : Nat → Int, qI (ngq X) = qI X := by
    intro X
    unfold qI ngq
    grind
  have i1 : ∀ X Z : Nat → Int, qI1 (ngq X) (ngq Z) = qI1 X Z := by
    intro X Z
    unfold qI1 ngq
    grind
  have jj : ∀ X : Nat → Int, qJ (ngq X) = (-1) * qJ X := by
    intro X
    unfold qJ ngq
    grind
  have j1 : ∀ X Z : Nat → Int, qJ1 (ngq X) (ngq Z) = (-1) * qJ1 X Z := by
    intro X Z
    unfold qJ1 qJd ngq
    simp only [if_true, if_false, Nat.reduceEqDiff]
    grind
  exact qG_of X Z _ _ (i X) (i Z) (i1 X Z) (-1) rfl (jj X) (jj Z) (j1 X Z) (j1 Z X) j
theorem qG_al (X Z : Nat → Int) (j : Nat) : qG (alq X) (alq Z) j = qG X Z j := by
  have i : ∀ X : Nat → Int, qI (alq X) = qI X := by
    intro X
    show 12 * (X 0 * X 4) - 3 * (-X 1 * -X 3) + X 2 * X 2 = 12 * (X 0 * X 4) - 3 * (X 1 * X 3) + X 2 * X 2
    grind
  have i1 : ∀ X Z : Nat → Int, qI1 (alq X) (alq Z) = qI1 X Z := by
    intro X Z
    show 12 * (X 0 * Z 4 + Z 0 * X 4) - 3 * (-X 1 * -Z 3 + -Z 1 * -X 3) + 2 * (X 2 * Z 2) = 12 * (X 0 * Z 4 + Z 0 * X 4) - 3 * (X 1 * Z 3 + Z 1 * X 3) + 2 * (X 2 * Z 2)
    grind
  have jj : ∀ X : Nat → Int, qJ (alq X) = 1 * qJ X := by
    intro X
    show 72 * (X 0 * (X 2 * X 4)) + 9 * (-X 1 * (X 2 * -X 3)) - 27 * (X 0 * (-X 3 * -X 3)) - 27 * (X 4 * (-X 1 * -X 1)) - 2 * (X 2 * (X 2 * X 2)) = 1 * (72 * (X 0 * (X 2 * X 4)) + 9 * (X 1 * (X 2 * X 3)) - 27 * (X 0 * (X 3 * X 3)) - 27 * (X 4 * (X 1 * X 1)) - 2 * (X 2 * (X 2 * X 2)))
    grind
  have j1 : ∀ X Z : Nat → Int, qJ1 (alq X) (alq Z) = 1 * qJ1 X Z := by
    intro X Z
    unfold qJ1 qJd alq
    simp only [if_true, if_false, Nat.reduceEqDiff, Nat.reduceMod]
    grind
  exact qG_of X Z _ _ (i X) (i Z) (i1 X Z) 1 rfl (jj X) (jj Z) (j1 X Z) (j1 Z X) j
theorem bx_rv {X : Nat → Int} (h : bx7 X) : bx7 (rvq X) := fun k => h (4 - k)
theorem bx_ng {X : Nat → Int} (h : bx7 X) : bx7 (ngq X) := fun k => by
  have := h k
  show (-X k).natAbs ≤ 7
  omega
theorem bx_al {X : Nat → Int} (h : bx7 X) : bx7 (alq X) := fun k => by
  have := h k
  show (if k % 2 = 1 then -X k else X k).natAbs ≤ 7
  split <;> omega
theorem canonq (X Z : Nat → Int) (hX : bx7 X) (hZ : bx7 Z) : ∃ Y V : Nat → Int, bx7 Y ∧ bx7 V ∧ (∀ j, qG Y V j = qG X Z j) ∧ 0 ≤ Y 0 ∧ 0 ≤ Y 1 ∧ (Y 4).natAbs ≤ (Y 0).natAbs := by
  have s1 : ∃ Y V : Nat → Int, bx7 Y ∧ bx7 V ∧ (∀ j, qG Y V j = qG X Z j) ∧ (Y 4).natAbs ≤ (Y 0).natAbs := by
    rcases Nat.le_total (X 4).natAbs (X 0).natAbs with r | r
    · exact ⟨X, Z, hX, hZ, fun _ => rfl, r⟩
    · exact ⟨rvq X, rvq Z, bx_rv hX, bx_rv hZ, qG_rv X Z, r⟩
  obtain ⟨X1, Z1, a1, a2, a3, a4⟩ := s1
  have s2 : ∃ Y V : Nat → Int, bx7 Y ∧ bx7 V ∧ (∀ j, qG Y V j = qG X Z j) ∧ (Y 4).natAbs ≤ (Y 0).natAbs ∧ 0 ≤ Y 0 := by
    rcases Int.le_total 0 (X1 0) with r | r
    · exact ⟨X1, Z1, a1, a2, a3, a4, r⟩
    · refine ⟨ngq X1, ngq Z1, bx_ng a1, bx_ng a2, fun j => by rw [qG_ng, a3], ?_, ?_⟩
      · show (-X1 4).natAbs ≤ (-X1 0).natAbs
        omega
      · show 0 ≤ -X1 0
        omega
  obtain ⟨X2, Z2, b1, b2, b3, b4, b5⟩ := s2
  rcases Int.le_total 0 (X2 1) with r | r
  · exact ⟨X2, Z2, b1, b2, b3, b5, r, b4⟩
  · refine ⟨alq X2, alq Z2, bx_al b1, bx_al b2, fun j => by rw [qG_al, b3], b5, ?_, b4⟩
    show 0 ≤ -X2 1
    omega
def qX (a b c d e : Int) (X : Nat → Int) : Prop := X 0 = a ∧ X 1 = b ∧ X 2 = c ∧ X 3 = d ∧ X 4 = e
def exq (X : Nat → Int) : Prop := qX 4 1 (-3) (-4) 3 X ∨ qX 5 5 (-7) (-2) 2 X ∨ qX 6 3 6 7 2 X ∨ qX 6 5 (-6) (-6) 4 X
theorem cd_small (z : Int) (n : Nat) (h : (n : Int) = z) (hn : n < 18446744073709551616) : cd z = n := by
  have := cd_int z
  omega
theorem cd_beq (z : Int) (hz : z.natAbs ≤ 7) (n : Nat) (m : Int) (hm : cd m = n) (hm7 : m.natAbs ≤ 7) (h : Nat.beq (cd z) n = true) : z = m := by
  have h1 := Nat.eq_of_beq_eq_true h
  rw [← hm] at h1
  have a := cd_int z
  have b := cd_int m
  omega
theorem box_test (Y : Nat → Int) (h : bx7 Y) (h0 : 0 ≤ Y 0) (h1 : 0 ≤ Y 1) (h4 : (Y 4).natAbs ≤ (Y 0).natAbs) (hD : qD Y ≠ 0) : ((crX Y = true ∧ 27 < (qD Y).natAbs) ∨ exq Y) ∧ cr3X Y = true := by
  have a0 := h 0
  have a1 := h 1
  have a2 := h 2
  have a3 := h 3
  have a4 := h 4
  have t := eB_all (Y 0).toNat (Y 1).toNat (by omega) (by omega)
  unfold eB at t
  have t1 := crL_at _ _ t (Y 2 + 7).toNat (by omega)
  have t2 := crL_at _ _ t1 (Y 3 + 7).toNat (by omega)
  have t3 := crL_at _ _ t2 (Y 4 + Y 0).toNat (show (Y 4 + Y 0).toNat < 2 * (Y 0).toNat + 1 by omega)
  have c0 : (Y 0).toNat = cd (Y 0) := (cd_small _ _ (by omega) (by omega)).symm
  have c1 : (Y 1).toNat = cd (Y 1) := (cd_small _ _ (by omega) (by omega)).symm
  have c2 : nS (Y 2 + 7).toNat 7 = cd (Y 2) := by
    rw [← cd_small (Y 2 + 7) (Y 2 + 7).toNat (by omega) (by omega), show (7 : Nat) = cd 7 from by decide, nS_cd, show Y 2 + 7 - 7 = Y 2 by omega]
  have c3 : nS (Y 3 + 7).toNat 7 = cd (Y 3) := by
    rw [← cd_small (Y 3 + 7) (Y 3 + 7).toNat (by omega) (by omega), show (7 : Nat) = cd 7 from by decide, nS_cd, show Y 3 + 7 - 7 = Y 3 by omega]
  have c4 : nS (Y 4 + Y 0).toNat (Y 0).toNat = cd (Y 4) := by
    rw [← cd_small (Y 4 + Y 0) (Y 4 + Y 0).toNat (by omega) (by omega), c0, nS_cd, show Y 4 + Y 0 - Y 0 = Y 4 by omega]
  simp only [c2, c3, c4] at t3
  rw [c0, c1, eN_cd Y h, e3N_cd Y h, Bool.and_eq_true] at t3
  obtain ⟨t3, t4⟩ := t3
  have k3 : cr3X Y = true := by
    rw [Bool.or_eq_true] at t4
    rcases t4 with q | q
    · exfalso
      have := Nat.eq_of_beq_eq_true q
      exact hD (Int.natAbs_eq_zero.mp this)
    · exact q
  refine ⟨?_, k3⟩
  rw [Bool.or_eq_true, Bool.or_eq_true, Bool.and_eq_true, Bool.and_eq_true] at t3
  rcases t3 with (q | q) | q
  · exfalso
    have := Nat.eq_of_beq_eq_true q.1
    exact hD (Int.natAbs_eq_zero.mp this)
  · exact Or.inl ⟨q.2, Nat.le_of_ble_eq_true q.1⟩
  · right
    unfold ex6 at q
    simp only [Bool.or_eq_true, Bool.and_eq_true] at q
    unfold exq qX
    have f0 := cd_beq (Y 0) a0
    have f1 := cd_beq (Y 1) a1
    have f2 := cd_beq (Y 2) a2
    have f3 := cd_beq (Y 3) a3
    have f4 := cd_beq (Y 4) a4
    rcases q with q | q | q | q
    · exact Or.inl ⟨f0 _ 4 (by decide) (by decide) q.1, f1 _ 1 (by decide) (by decide) q.2.1, f2 _ (-3) (by decide) (by decide) q.2.2.1, f3 _ (-4) (by decide) (by decide) q.2.2.2.1, f4 _ 3 (by decide) (by decide) q.2.2.2.2⟩
    · exact Or.inr (Or.inl ⟨f0 _ 5 (by decide) (by decide) q.1, f1 _ 5 (by decide) (by decide) q.2.1, f2 _ (-7) (by decide) (by decide) q.2.2.1, f3 _ (-2) (by decide) (by decide) q.2.2.2.1, f4 _ 2 (by decide) (by decide) q.2.2.2.2⟩)
    · exact Or.inr (Or.inr (Or.inl ⟨f0 _ 6 (by decide) (by decide) q.1, f1 _ 3 (by decide) (by decide) q.2.1, f2 _ 6 (by decide) (by decide) q.2.2.1, f3 _ 7 (by decide) (by decide) q.2.2.2.1, f4 _ 2 (by decide) (by decide) q.2.2.2.2⟩))
    · exact Or.inr (Or.inr (Or.inr ⟨f0 _ 6 (by decide) (by decide) q.1, f1 _ 5 (by decide) (by decide) q.2.1, f2 _ (-6) (by decide) (by decide) q.2.2.1, f3 _ (-6) (by decide) (by decide) q.2.2.2.1, f4 _ 4 (by decide) (by decide) q.2.2.2.2⟩))
theorem box_zero (Y : Nat → Int) (h : bx7 Y) (h0 : 0 ≤ Y 0) (h1 : 0 ≤ Y 1) (h4 : (Y 4).natAbs ≤ (Y 0).natAbs) (hD : qD Y = 0) : wX Y = true := by
  have a0 := h 0
  have a1 := h 1
  have a2 := h 2
  have a3 := h 3
  have a4 := h 4
  have t := eB_all (Y 0).toNat (Y 1).toNat (by omega) (by omega)
  unfold eB at t
  have t1 := crL_at _ _ t (Y 2 + 7).toNat (by omega)
  have t2 := crL_at _ _ t1 (Y 3 + 7).toNat (by omega)
  have t3 := crL_at _ _ t2 (Y 4 + Y 0).toNat (show (Y 4 + Y 0).toNat < 2 * (Y 0).toNat + 1 by omega)
  have c0 : (Y 0).toNat = cd (Y 0) := (cd_small _ _ (by omega) (by omega)).symm
  have c1 : (Y 1).toNat = cd (Y 1) := (cd_small _ _ (by omega) (by omega)).symm
  have c2 : nS (Y 2 + 7).toNat 7 = cd (Y 2) := by
    rw [← cd_small (Y 2 + 7) (Y 2 + 7).toNat (by omega) (by omega), show (7 : Nat) = cd 7 from by decide, nS_cd, show Y 2 + 7 - 7 = Y 2 by omega]
  have c3 : nS (Y 3 + 7).toNat 7 = cd (Y 3) := by
    rw [← cd_small (Y 3 + 7) (Y 3 + 7).toNat (by omega) (by omega), show (7 : Nat) = cd 7 from by decide, nS_cd, show Y 3 + 7 - 7 = Y 3 by omega]
  have c4 : nS (Y 4 + Y 0).toNat (Y 0).toNat = cd (Y 4) := by
    rw [← cd_small (Y 4 + Y 0) (Y 4 + Y 0).toNat (by omega) (by omega), c0, nS_cd, show Y 4 + Y 0 - Y 0 = Y 4 by omega]
  simp only [c2, c3, c4] at t3
  rw [c0, c1, eN_cd Y h, Bool.and_eq_true, Bool.or_eq_true, Bool.or_eq_true, Bool.and_eq_true, Bool.and_eq_true] at t3
  rcases t3.1 with (q | q) | q
  · exact q.2
  · exfalso
    have := Nat.le_of_ble_eq_true q.1
    rw [hD] at this
    exact absurd this (by decide)
  · exfalso
    unfold ex6 at q
    simp only [Bool.or_eq_true, Bool.and_eq_true] at q
    have f0 := cd_beq (Y 0) a0
    have f1 := cd_beq (Y 1) a1
    have f2 := cd_beq (Y 2) a2
    have f3 := cd_beq (Y 3) a3
    have f4 := cd_beq (Y 4) a4
    rcases q with q | q | q | q
    · have g0 := f0 _ 4 (by decide) (by decide) q.1
      have g1 := f1 _ 1 (by decide) (by decide) q.2.1
      have g2 := f2 _ (-3) (by decide) (by decide) q.2.2.1
      have g3 := f3 _ (-4) (by decide) (by decide) q.2.2.2.1
      have g4 := f4 _ 3 (by decide) (by decide) q.2.2.2.2
      unfold qD qI qJ at hD
      rw [g0, g1, g2, g3, g4] at hD
      exact absurd hD (by decide)
    · have g0 := f0 _ 5 (by decide) (by decide) q.1
      have g1 := f1 _ 5 (by decide) (by decide) q.2.1
      have g2 := f2 _ (-7) (by decide) (by decide) q.2.2.1
      have g3 := f3 _ (-2) (by decide) (by decide) q.2.2.2.1
      have g4 := f4 _ 2 (by decide) (by decide) q.2.2.2.2
      unfold qD qI qJ at hD
      rw [g0, g1, g2, g3, g4] at hD
      exact absurd hD (by decide)
    · have g0 := f0 _ 6 (by decide) (by decide) q.1
      have g1 := f1 _ 3 (by decide) (by decide) q.2.1
      have g2 := f2 _ 6 (by decide) (by decide) q.2.2.1
      have g3 := f3 _ 7 (by decide) (by decide) q.2.2.2.1
      have g4 := f4 _ 2 (by decide) (by decide) q.2.2.2.2
      unfold qD qI qJ at hD
      rw [g0, g1, g2, g3, g4] at hD
      exact absurd hD (by decide)
    · have g0 := f0 _ 6 (by decide) (by decide) q.1
      have g1 := f1 _ 5 (by decide) (by decide) q.2.1
      have g2 := f2 _ (-6) (by decide) (by decide) q.2.2.1
      have g3 := f3 _ (-6) (by decide) (by decide) q.2.2.2.1
      have g4 := f4 _ 4 (by decide) (by decide) q.2.2.2.2
      unfold qD qI qJ at hD
      rw [g0, g1, g2, g3, g4] at hD
      exact absurd hD (by decide)
/-- THE PENCIL'S SQUARE over the box: true, or the first quartic is one of four (up to the moves) -/
theorem pencil2 (X Z : Nat → Int) (hX : bx7 X) (hZ : bx7 Z) (hD : qD X ≠ 0) (c e0 e1 e2 e3 h3 h4 h5 h6 : Int) (q0 : qG X Z 0 = 27 * c * (e0 * e0)) (q1 : qG X Z 1 = 27 * c * (2 * e0 * e1)) (q2 : qG X Z 2 = 27 * c * (2 * e0 * e2 + e1 * e1)) (q3 : qG X Z 3 = 27 * c * (2 * e0 * e3 + 2 * e1 * e2 + 18446744073709551616 * h3)) (q4 : qG X Z 4 = 27 * c * (2 * e1 * e3 + e2 * e2 + 18446744073709551616 * h4)) (q5 : qG X Z 5 = 27 * c * (2 * e2 * e3 + 18446744073709551616 * h5)) (q6 : qG X Z 6 = 27 * c * (e3 * e3 + 18446744073709551616 * h6)) (hd : (2 * e0 * e3).natAbs ≤ 2 ^ 63) : (h3 = 0 ∧ h4 = 0 ∧ h5 = 0 ∧ h6 = 0) ∨ ∃ Y V : Nat → Int, exq Y ∧ bx7 V ∧ ∀ j, qG Y V j = qG X Z j := by
  obtain ⟨Y, V, y1, y2, y3, y4, y5, y6⟩ := canonq X Z hX hZ
  have hD' : qD Y ≠ 0 := by
    have e1 : qG Y V 0 = qD Y := by
      unfold qG qD
      rfl
    have e2 : qG X Z 0 = qD X := by
      unfold qG qD
      rfl
    rw [← e1, y3, e2]
    exact hD
  rcases (box_test Y y1 y4 y5 y6 hD').1 with t | t
  · left
    exact crX_true Y V y1 y2 hD' t.1 c e0 e1 e2 e3 h3 h4 h5 h6 (by rw [y3]; exact q0) (by rw [y3]; exact q1) (by rw [y3]; exact q2) (by rw [y3]; exact q3) (by rw [y3]; exact q4) (by rw [y3]; exact q5) (by rw [y3]; exact q6) hd
  · exact Or.inr ⟨Y, V, t, y2, y3⟩
/-- THE PENCIL'S CUBE: with true digits, a cube mod 2^64 is a true one -/
theorem pencil_cu (X Z : Nat → Int) (hX : bx7 X) (hZ : bx7 Z) (hD : qD X ≠ 0) (c e0 e1 e2 h3 h4 h5 h6 : Int) (q0 : qG X Z 0 = 27 * c * (e0 * e0 * e0)) (q1 : qG X Z 1 = 27 * c * (3 * (e0 * e0) * e1)) (q2 : qG X Z 2 = 27 * c * (3 * (e0 * e0) * e2 + 3 * e0 * (e1 * e1))) (q3 : qG X Z 3 = 27 * c * (6 * e0 * (e1 * e2) + e1 * e1 * e1 + 18446744073709551616 * h3)) (q4 : qG X Z 4 = 27 * c * (3 * e0 * (e2 * e2) + 3 * (e1 * e1) * e2 + 18446744073709551616 * h4)) (q5 : qG X Z 5 = 27 * c * (3 * e1 * (e2 * e2) + 18446744073709551616 * h5)) (q6 : qG X Z 6 = 27 * c * (e2 * e2 * e2 + 18446744073709551616 * h6)) : h3 = 0 ∧ h4 = 0 ∧ h5 = 0 ∧ h6 = 0 := by
  obtain ⟨Y, V, y1, y2, y3, y4, y5, y6⟩ := canonq X Z hX hZ
  have hD' : qD Y ≠ 0 := by
    have e1 : qG Y V 0 = qD Y := by
      unfold qG qD
      rfl
    have e2 : qG X Z 0 = qD X := by
      unfold qG qD
      rfl
    rw [← e1, y3, e2]
    exact hD
  have t := (box_test Y y1 y4 y5 y6 hD').2
  exact cr3X_true Y V y1 y2 hD' t c e0 e1 e2 h3 h4 h5 h6 (by rw [y3]; exact q0) (by rw [y3]; exact q1) (by rw [y3]; exact q2) (by rw [y3]; exact q3) (by rw [y3]; exact q4) (by rw [y3]; exact q5) (by rw [y3]; exact q6)
