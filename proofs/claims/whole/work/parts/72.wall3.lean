theorem dl {n x : Int} (c : Int) (h : n ∣ x) : n ∣ c * x := Int.dvd_trans h (Int.dvd_mul_left _ _)
def cmb (n : Int) (X Y W : Nat → Int) (l : Nat) (x1 x2 x3 : Int) : Prop := n ∣ X l - (x1 * X 0 + x2 * X 1 + x3 * X 2) ∧ n ∣ Y l - (x1 * Y 0 + x2 * Y 1 + x3 * Y 2) ∧ n ∣ W l - (x1 * W 0 + x2 * W 1 + x3 * W 2)
theorem sP_mod {n : Int} {X Y W : Nat → Int} {l : Nat} {x1 x2 x3 : Int} (h : cmb n X Y W l x1 x2 x3) (e : Nat → Int) (j : Nat) : n ∣ sP e X Y W j l - (x1 * sP e X Y W j 0 + x2 * sP e X Y W j 1 + x3 * sP e X Y W j 2) := by
  obtain ⟨⟨r1, h1⟩, ⟨r2, h2⟩, ⟨r3, h3⟩⟩ := h
  refine ⟨2 * e 0 * X j * r1 + e 1 * (X j * r2 + Y j * r1) + 2 * e 2 * Y j * r2 + e 3 * (X j * r3 + W j * r1) + e 4 * (Y j * r3 + W j * r2) + 2 * e 5 * W j * r3, ?_⟩
  unfold sP
  generalize X l = x at *
  generalize Y l = y at *
  generalize W l = w at *
  grind
theorem sE_mod {n : Int} {X Y W : Nat → Int} {l : Nat} {x1 x2 x3 : Int} (h : cmb n X Y W l x1 x2 x3) (e : Nat → Int) : n ∣ sE e X Y W l - (x1 * x1 * sE e X Y W 0 + x2 * x2 * sE e X Y W 1 + x3 * x3 * sE e X Y W 2 + x1 * x2 * sP e X Y W 0 1 + x1 * x3 * sP e X Y W 0 2 + x2 * x3 * sP e X Y W 1 2) := by
  obtain ⟨⟨r1, h1⟩, ⟨r2, h2⟩, ⟨r3, h3⟩⟩ := h
  have e1 : X l = x1 * X 0 + x2 * X 1 + x3 * X 2 + n * r1 := by omega
  have e2 : Y l = x1 * Y 0 + x2 * Y 1 + x3 * Y 2 + n * r2 := by omega
  have e3 : W l = x1 * W 0 + x2 * W 1 + x3 * W 2 + n * r3 := by omega
  refine ⟨e 0 * (X l * r1 + r1 * (x1 * X 0 + x2 * X 1 + x3 * X 2)) + e 1 * (X l * r2 + r1 * (x1 * Y 0 + x2 * Y 1 + x3 * Y 2)) + e 2 * (Y l * r2 + r2 * (x1 * Y 0 + x2 * Y 1 + x3 * Y 2)) + e 3 * (X l * r3 + r1 * (x1 * W 0 + x2 * W 1 + x3 * W 2)) + e 4 * (Y l * r3 + r2 * (x1 * W 0 + x2 * W 1 + x3 * W 2)) + e 5 * (W l * r3 + r3 * (x1 * W 0 + x2 * W 1 + x3 * W 2)), ?_⟩
  unfold sE sP
  rw [e1, e2, e3]
  grind
def CK (n : Int) (e X Y W : Nat → Int) : Prop := n ∣ sE e X Y W 0 ∧ n ∣ sP e X Y W 0 1 ∧ n ∣ sP e X Y W 0 2 + sE e X Y W 1 ∧ n ∣ sP e X Y W 0 3 + sP e X Y W 1 2 ∧ n ∣ sP e X Y W 0 4 + sP e X Y W 1 3 + sE e X Y W 2 ∧ n ∣ sP e X Y W 1 4 + sP e X Y W 2 3 ∧ n ∣ sP e X Y W 2 4 + sE e X Y W 3 ∧ n ∣ sP e X Y W 3 4 ∧ n ∣ sE e X Y W 4
def a5 (x1 x2 x3 y2 y3 : Int) : Int := x1 - 2 * y2 - 3 * x3 * y3 + 3 * x2 * x3 + 2 * x3 * x3 * x3
def a6 (x1 x2 x3 y1 y2 y3 : Int) : Int := y1 - x3 * y2 - 2 * y3 * y3 + 4 * x2 * y3 + x3 * x3 * y3 - x2 * x2 + x1 * x3 + x2 * x3 * x3 + x3 * x3 * x3 * x3
def vv (x2 x3 y3 : Int) : Int := x2 + x3 * x3 - y3
def z5 (x2 x3 y2 y3 : Int) : Int := x3 * x3 * x3 + x2 * x3 - 3 * x3 * y3 - 2 * y2
def uu4 (x3 y3 : Int) : Int := 4 * y3 - x3 * x3
/-- the nine conditions, in the coordinates of the first three vectors -/
theorem chart {n : Int} {e X Y W : Nat → Int} {x1 x2 x3 y1 y2 y3 : Int} (hC : CK n e X Y W) (h3 : cmb n X Y W 3 x1 x2 x3) (h4 : cmb n X Y W 4 y1 y2 y3) : n ∣ a5 x1 x2 x3 y2 y3 * sP e X Y W 0 2 ∧ n ∣ a6 x1 x2 x3 y1 y2 y3 * sP e X Y W 0 2 ∧ n ∣ vv x2 x3 y3 * z5 x2 x3 y2 y3 * sP e X Y W 0 2 ∧ n ∣ (y3 * vv x2 x3 y3 * vv x2 x3 y3 - (y2 + x3 * y3) * (y2 + x3 * y3)) * sP e X Y W 0 2 := by
  obtain ⟨c0, c1, c2, c3, c4, c5, c6, c7, c8⟩ := hC
  have g03 := sP_mod h3 e 0
  have g13 := sP_mod h3 e 1
  have g23 := sP_mod h3 e 2
  have g04 := sP_mod h4 e 0
  have g14 := sP_mod h4 e 1
  have g24 := sP_mod h4 e 2
  have g34 := sP_mod h4 e 3
  have k3 := sE_mod h3 e
  have k4 := sE_mod h4 e
  rw [sP_sym e X Y W 3 0, sP_sym e X Y W 3 1, sP_sym e X Y W 3 2] at g34
  rw [sP_self] at g03 g04 g13 g14 g23 g24
  rw [sP_sym e X Y W 1 0] at g13 g14
  rw [sP_sym e X Y W 2 0, sP_sym e X Y W 2 1] at g23 g24
  generalize sE e X Y W 0 = E0 at *
  generalize sE e X Y W 1 = E1 at *
  generalize sE e X Y W 2 = E2 at *
  generalize sE e X Y W 3 = E3 at *
  generalize sE e X Y W 4 = E4 at *
  generalize sP e X Y W 0 1 = S01 at *
  generalize sP e X Y W 0 2 = S02 at *
  generalize sP e X Y W 0 3 = S03 at *
  generalize sP e X Y W 0 4 = S04 at *
  generalize sP e X Y W 1 2 = S12 at *
  generalize sP e X Y W 1 3 = S13 at *
  generalize sP e X Y W 1 4 = S14 at *
  generalize sP e X Y W 2 3 = S23 at *
  generalize sP e X Y W 2 4 = S24 at *
  generalize sP e X Y W 3 4 = S34 at *
  have f03 : n ∣ S03 - x3 * S02 := by
    have q : S03 - x3 * S02 = (S03 - (x1 * (2 * E0) + x2 * S01 + x3 * S02)) + 2 * x1 * E0 + x2 * S01 := by grind
    rw [q]
    exact Int.dvd_add (Int.dvd_add g03 (dl _ c0)) (dl _ c1)
  have f04 : n ∣ S04 - y3 * S02 := by
    have q : S04 - y3 * S02 = (S04 - (y1 * (2 * E0) + y2 * S01 + y3 * S02)) + 2 * y1 * E0 + y2 * S01 := by grind
    rw [q]
    exact Int.dvd_add (Int.dvd_add g04 (dl _ c0)) (dl _ c1)
  have f12 : n ∣ S12 + x3 * S02 := by
    have q : S12 + x3 * S02 = (S03 + S12) - (S03 - x3 * S02) := by grind
    rw [q]
    exact Int.dvd_sub c3 f03
  have f13 : n ∣ S13 + (2 * x2 + x3 * x3) * S02 := by
    have q : S13 + (2 * x2 + x3 * x3) * S02 = (S13 - (x1 * S01 + x2 * (2 * E1) + x3 * S12)) + x1 * S01 + 2 * x2 * (S02 + E1) + x3 * (S12 + x3 * S02) := by grind
    rw [q]
    exact Int.dvd_add (Int.dvd_add (Int.dvd_add g13 (dl _ c1)) (dl _ c2)) (dl _ f12)
  have f14 : n ∣ S14 + (2 * y2 + x3 * y3) * S02 := by
    have q : S14 + (2 * y2 + x3 * y3) * S02 = (S14 - (y1 * S01 + y2 * (2 * E1) + y3 * S12)) + y1 * S01 + 2 * y2 * (S02 + E1) + y3 * (S12 + x3 * S02) := by grind
    rw [q]
    exact Int.dvd_add (Int.dvd_add (Int.dvd_add g14 (dl _ c1)) (dl _ c2)) (dl _ f12)
  have f2 : n ∣ E2 - (2 * x2 + x3 * x3 - y3) * S02 := by
    have q : E2 - (2 * x2 + x3 * x3 - y3) * S02 = (S04 + S13 + E2) - (S04 - y3 * S02) - (S13 + (2 * x2 + x3 * x3) * S02) := by grind
    rw [q]
    exact Int.dvd_sub (Int.dvd_sub c4 f04) f13
  have f23 : n ∣ S23 - (x1 - x2 * x3 + 2 * x3 * (2 * x2 + x3 * x3 - y3)) * S02 := by
    have q : S23 - (x1 - x2 * x3 + 2 * x3 * (2 * x2 + x3 * x3 - y3)) * S02 = (S23 - (x1 * S02 + x2 * S12 + x3 * (2 * E2))) + x2 * (S12 + x3 * S02) + 2 * x3 * (E2 - (2 * x2 + x3 * x3 - y3) * S02) := by grind
    rw [q]
    exact Int.dvd_add (Int.dvd_add g23 (dl _ f12)) (dl _ f2)
  have f24 : n ∣ S24 - (y1 - x3 * y2 + 2 * y3 * (2 * x2 + x3 * x3 - y3)) * S02 := by
    have q : S24 - (y1 - x3 * y2 + 2 * y3 * (2 * x2 + x3 * x3 - y3)) * S02 = (S24 - (y1 * S02 + y2 * S12 + y3 * (2 * E2))) + y2 * (S12 + x3 * S02) + 2 * y3 * (E2 - (2 * x2 + x3 * x3 - y3) * S02) := by grind
    rw [q]
    exact Int.dvd_add (Int.dvd_add g24 (dl _ f12)) (dl _ f2)
  have r5 : n ∣ a5 x1 x2 x3 y2 y3 * S02 := by
    have q : a5 x1 x2 x3 y2 y3 * S02 = (S14 + S23) - (S14 + (2 * y2 + x3 * y3) * S02) - (S23 - (x1 - x2 * x3 + 2 * x3 * (2 * x2 + x3 * x3 - y3)) * S02) := by unfold a5; grind
    rw [q]
    exact Int.dvd_sub (Int.dvd_sub c5 f14) f23
  have f3 : n ∣ E3 - (x1 * x3 - x2 * x2 - x2 * x3 * x3 + x3 * x3 * (2 * x2 + x3 * x3 - y3)) * S02 := by
    have q : E3 - (x1 * x3 - x2 * x2 - x2 * x3 * x3 + x3 * x3 * (2 * x2 + x3 * x3 - y3)) * S02 = (E3 - (x1 * x1 * E0 + x2 * x2 * E1 + x3 * x3 * E2 + x1 * x2 * S01 + x1 * x3 * S02 + x2 * x3 * S12)) + x1 * x1 * E0 + x2 * x2 * (S02 + E1) + x3 * x3 * (E2 - (2 * x2 + x3 * x3 - y3) * S02) + x1 * x2 * S01 + x2 * x3 * (S12 + x3 * S02) := by grind
    rw [q]
    exact Int.dvd_add (Int.dvd_add (Int.dvd_add (Int.dvd_add (Int.dvd_add k3 (dl _ c0)) (dl _ c2)) (dl _ f2)) (dl _ c1)) (dl _ f12)
  have r6 : n ∣ a6 x1 x2 x3 y1 y2 y3 * S02 := by
    have q : a6 x1 x2 x3 y1 y2 y3 * S02 = (S24 + E3) - (S24 - (y1 - x3 * y2 + 2 * y3 * (2 * x2 + x3 * x3 - y3)) * S02) - (E3 - (x1 * x3 - x2 * x2 - x2 * x3 * x3 + x3 * x3 * (2 * x2 + x3 * x3 - y3)) * S02) := by unfold a6; grind
    rw [q]
    exact Int.dvd_sub (Int.dvd_sub c6 f24) f3
  refine ⟨r5, r6, ?_, ?_⟩
  · have q : vv x2 x3 y3 * z5 x2 x3 y2 y3 * S02 = S34 - (S34 - (y1 * S03 + y2 * S13 + y3 * S23)) - y1 * (S03 - x3 * S02) - y2 * (S13 + (2 * x2 + x3 * x3) * S02) - y3 * (S23 - (x1 - x2 * x3 + 2 * x3 * (2 * x2 + x3 * x3 - y3)) * S02) - (y3 - x3 * x3) * (a5 x1 x2 x3 y2 y3 * S02) - x3 * (a6 x1 x2 x3 y1 y2 y3 * S02) := by
      unfold vv z5 a5 a6
      grind
    rw [q]
    exact Int.dvd_sub (Int.dvd_sub (Int.dvd_sub (Int.dvd_sub (Int.dvd_sub (Int.dvd_sub c7 g34) (dl _ f03)) (dl _ f13)) (dl _ f23)) (dl _ r5)) (dl _ r6)
  · have q : (y3 * vv x2 x3 y3 * vv x2 x3 y3 - (y2 + x3 * y3) * (y2 + x3 * y3)) * S02 = E4 - (E4 - (y1 * y1 * E0 + y2 * y2 * E1 + y3 * y3 * E2 + y1 * y2 * S01 + y1 * y3 * S02 + y2 * y3 * S12)) - y1 * y1 * E0 - y2 * y2 * (S02 + E1) - y3 * y3 * (E2 - (2 * x2 + x3 * x3 - y3) * S02) - y1 * y2 * S01 - y2 * y3 * (S12 + x3 * S02) - y3 * (a6 x1 x2 x3 y1 y2 y3 * S02) + x3 * y3 * (a5 x1 x2 x3 y2 y3 * S02) := by
      unfold vv a5 a6
      grind
    rw [q]
    exact Int.dvd_add (Int.dvd_sub (Int.dvd_sub (Int.dvd_sub (Int.dvd_sub (Int.dvd_sub (Int.dvd_sub (Int.dvd_sub c8 k4) (dl _ c0)) (dl _ c2)) (dl _ f2)) (dl _ c1)) (dl _ f12)) (dl _ r6)) (dl _ r5)
