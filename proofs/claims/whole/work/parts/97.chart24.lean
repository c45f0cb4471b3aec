theorem chart24 {n : Int} {e X Y W : Nat → Int} {x1 x2 x3 y1 y2 y3 p q r : Int} (c0 : n ∣ sE e X Y W 0) (c1 : n ∣ sP e X Y W 0 3) (c2 : n ∣ sP e X Y W 0 1 + sE e X Y W 3) (c3 : n ∣ sP e X Y W 0 4 + sP e X Y W 1 3) (c4 : n ∣ sP e X Y W 0 2 + sP e X Y W 3 4 + sE e X Y W 1) (c5 : n ∣ sP e X Y W 2 3 + sP e X Y W 1 4) (c6 : n ∣ sP e X Y W 1 2 + sE e X Y W 4) (c7 : n ∣ sP e X Y W 2 4) (c8 : n ∣ sE e X Y W 2) (h3 : cmb n X Y W 3 x1 x2 x3) (h4 : cmb n X Y W 4 y1 y2 y3) (hp : n ∣ sP e X Y W 0 1 - p * sP e X Y W 0 2) (hq : n ∣ sP e X Y W 1 2 - q * sP e X Y W 0 2) (hr : n ∣ sE e X Y W 1 - r * sP e X Y W 0 2) : n ∣ (x3 + x2 * p) * sP e X Y W 0 2 ∧ n ∣ (y1 + y2 * q) * sP e X Y W 0 2 ∧ n ∣ ((y3 + y2 * p) + x1 * p + 2 * x2 * r + x3 * q) * sP e X Y W 0 2 ∧ n ∣ ((x1 + x2 * q) + y1 * p + 2 * y2 * r + y3 * q) * sP e X Y W 0 2 ∧ n ∣ (p + x2 * x2 * r + x1 * x2 * p + x1 * x3 + x2 * x3 * q) * sP e X Y W 0 2 ∧ n ∣ (q + y2 * y2 * r + y1 * y2 * p + y1 * y3 + y2 * y3 * q) * sP e X Y W 0 2 ∧ n ∣ (1 + 2 * x2 * y2 * r + (x1 * y2 + x2 * y1) * p + (x1 * y3 + x3 * y1) + (x2 * y3 + x3 * y2) * q + r) * sP e X Y W 0 2 := by
  have g03 := sP_mod h3 e 0
  have g13 := sP_mod h3 e 1
  have g23 := sP_mod h3 e 2
  have g04 := sP_mod h4 e 0
  have g14 := sP_mod h4 e 1
  have g24 := sP_mod h4 e 2
  have g34 := sP_mod h4 e 3
  have k3 := sE_mod h3 e
  have k4 := sE_mod h4 e
  rw [sP_sym e X Y W 3 0, sP_sym e X Y W 3 1, sP_sym e X Y W 3 2] at g34
  rw [sP_self] at g03 g04 g13 g14 g23 g24
  rw [sP_sym e X Y W 1 0] at g13 g14
  rw [sP_sym e X Y W 2 0, sP_sym e X Y W 2 1] at g23 g24
  clear h3 h4
  generalize sE e X Y W 0 = E0 at *
  generalize sE e X Y W 1 = R at *
  generalize sE e X Y W 2 = E2 at *
  generalize sE e X Y W 3 = E3 at *
  generalize sE e X Y W 4 = E4 at *
  generalize sP e X Y W 0 1 = P at *
  generalize sP e X Y W 0 2 = G at *
  generalize sP e X Y W 0 3 = S03 at *
  generalize sP e X Y W 0 4 = S04 at *
  generalize sP e X Y W 1 2 = Q at *
  generalize sP e X Y W 1 3 = S13 at *
  generalize sP e X Y W 1 4 = S14 at *
  generalize sP e X Y W 2 3 = S23 at *
  generalize sP e X Y W 2 4 = S24 at *
  generalize sP e X Y W 3 4 = S34 at *
  refine ⟨?_, ?_, ?_, ?_, ?_, ?_, ?_⟩
  · have z : (x3 + x2 * p) * G = S03 - (S03 - (x1 * (2 * E0) + x2 * P + x3 * G)) - (2 * x1) * E0 - x2 * (P - p * G) := by grind
    rw [z]
    exact Int.dvd_sub (Int.dvd_sub (Int.dvd_sub c1 g03) (dl _ c0)) (dl _ hp)
  · have z : (y1 + y2 * q) * G = S24 - (S24 - (y1 * G + y2 * Q + y3 * (2 * E2))) - (2 * y3) * E2 - y2 * (Q - q * G) := by grind
    rw [z]
    exact Int.dvd_sub (Int.dvd_sub (Int.dvd_sub c7 g24) (dl _ c8)) (dl _ hq)
  · have z : ((y3 + y2 * p) + x1 * p + 2 * x2 * r + x3 * q) * G = (S04 + S13) - (S04 - (y1 * (2 * E0) + y2 * P + y3 * G)) - (S13 - (x1 * P + x2 * (2 * R) + x3 * Q)) - (2 * y1) * E0 - y2 * (P - p * G) - x1 * (P - p * G) - (2 * x2) * (R - r * G) - x3 * (Q - q * G) := by grind
    rw [z]
    exact Int.dvd_sub (Int.dvd_sub (Int.dvd_sub (Int.dvd_sub (Int.dvd_sub (Int.dvd_sub (Int.dvd_sub c3 g04) g13) (dl _ c0)) (dl _ hp)) (dl _ hp)) (dl _ hr)) (dl _ hq)
  · have z : ((x1 + x2 * q) + y1 * p + 2 * y2 * r + y3 * q) * G = (S23 + S14) - (S23 - (x1 * G + x2 * Q + x3 * (2 * E2))) - (S14 - (y1 * P + y2 * (2 * R) + y3 * Q)) - (2 * x3) * E2 - x2 * (Q - q * G) - y1 * (P - p * G) - (2 * y2) * (R - r * G) - y3 * (Q - q * G) := by grind
    rw [z]
    exact Int.dvd_sub (Int.dvd_sub (Int.dvd_sub (Int.dvd_sub (Int.dvd_sub (Int.dvd_sub (Int.dvd_sub c5 g23) g14) (dl _ c8)) (dl _ hq)) (dl _ hp)) (dl _ hr)) (dl _ hq)
  · have z : (p + x2 * x2 * r + x1 * x2 * p + x1 * x3 + x2 * x3 * q) * G = (P + E3) - (E3 - (x1 * x1 * E0 + x2 * x2 * R + x3 * x3 * E2 + x1 * x2 * P + x1 * x3 * G + x2 * x3 * Q)) - (P - p * G) - (x1 * x1) * E0 - (x2 * x2) * (R - r * G) - (x3 * x3) * E2 - (x1 * x2) * (P - p * G) - (x2 * x3) * (Q - q * G) := by grind
    rw [z]
    exact Int.dvd_sub (Int.dvd_sub (Int.dvd_sub (Int.dvd_sub (Int.dvd_sub (Int.dvd_sub (Int.dvd_sub c2 k3) hp) (dl _ c0)) (dl _ hr)) (dl _ c8)) (dl _ hp)) (dl _ hq)
  · have z : (q + y2 * y2 * r + y1 * y2 * p + y1 * y3 + y2 * y3 * q) * G = (Q + E4) - (E4 - (y1 * y1 * E0 + y2 * y2 * R + y3 * y3 * E2 + y1 * y2 * P + y1 * y3 * G + y2 * y3 * Q)) - (Q - q * G) - (y1 * y1) * E0 - (y2 * y2) * (R - r * G) - (y3 * y3) * E2 - (y1 * y2) * (P - p * G) - (y2 * y3) * (Q - q * G) := by grind
    rw [z]
    exact Int.dvd_sub (Int.dvd_sub (Int.dvd_sub (Int.dvd_sub (Int.dvd_sub (Int.dvd_sub (Int.dvd_sub c6 k4) hq) (dl _ c0)) (dl _ hr)) (dl _ c8)) (dl _ hp)) (dl _ hq)
  · have z : (1 + 2 * x2 * y2 * r + (x1 * y2 + x2 * y1) * p + (x1 * y3 + x3 * y1) + (x2 * y3 + x3 * y2) * q + r) * G = (G + S34 + R) - (S34 - (y1 * S03 + y2 * S13 + y3 * S23)) - y1 * (S03 - (x1 * (2 * E0) + x2 * P + x3 * G)) - y2 * (S13 - (x1 * P + x2 * (2 * R) + x3 * Q)) - y3 * (S23 - (x1 * G + x2 * Q + x3 * (2 * E2))) - (2 * x1 * y1) * E0 - (2 * x3 * y3) * E2 - (x2 * y1 + x1 * y2) * (P - p * G) - (2 * x2 * y2) * (R - r * G) - (x3 * y2 + x2 * y3) * (Q - q * G) - (R - r * G) := by grind
    rw [z]
    exact Int.dvd_sub (Int.dvd_sub (Int.dvd_sub (Int.dvd_sub (Int.dvd_sub (Int.dvd_sub (Int.dvd_sub (Int.dvd_sub (Int.dvd_sub (Int.dvd_sub c4 g34) (dl _ g03)) (dl _ g13)) (dl _ g23)) (dl _ c0)) (dl _ c8)) (dl _ hp)) (dl _ hr)) (dl _ hq)) hr
theorem cube_dvd {c : Nat} {x : Int} (h : (2 ^ (3 * c + 1) : Int) ∣ x * x * x) : (2 ^ (c + 1) : Int) ∣ x := by
  by_cases z : x = 0
  · exact ⟨0, by rw [z, Int.mul_zero]⟩
  · obtain ⟨i, o, h1, h2⟩ := two_split x.natAbs x (Nat.le_refl _) z
    by_cases q : c + 1 ≤ i
    · exact pw_le_dvd q ⟨o, h1⟩
    · exfalso
      have e : x * x * x = 2 ^ (3 * i) * (o * o * o) * 1 := by
        rw [h1, show 3 * i = i + i + i by omega, Int.pow_add, Int.pow_add]
        grind
      rw [e] at h
      have oo : (o * o * o) % 2 = 1 := by
        have : (o * o) % 2 = 1 := by rw [Int.mul_emod, h2]; rfl
        rw [Int.mul_emod, this, h2]
        rfl
      have h3 : (2 ^ (1 + 3 * i) : Int) ∣ 2 ^ (3 * i) * (o * o * o) * 1 := pw_le_dvd (by omega) h
      have h4 := odd_cancel2 oo h3
      omega
/-- two vectors on one line -/
theorem par_sq {e X Y W : Nat → Int} {i j : Nat} (h1 : Y i * W j - Y j * W i = 0) (h2 : X i * W j - X j * W i = 0) (h3 : X i * Y j - X j * Y i = 0) : sP e X Y W i j * sP e X Y W i j = 4 * sE e X Y W i * sE e X Y W j := by
  have z : sP e X Y W i j * sP e X Y W i j - 4 * sE e X Y W i * sE e X Y W j = (e 4 * e 4 - 4 * e 2 * e 5) * ((Y i * W j - Y j * W i) * (Y i * W j - Y j * W i)) + (e 3 * e 3 - 4 * e 0 * e 5) * ((X i * W j - X j * W i) * (X i * W j - X j * W i)) + (e 1 * e 1 - 4 * e 0 * e 2) * ((X i * Y j - X j * Y i) * (X i * Y j - X j * Y i)) + (2 * e 3 * e 4 - 4 * e 1 * e 5) * ((Y i * W j - Y j * W i) * (X i * W j - X j * W i)) + (4 * e 2 * e 3 - 2 * e 1 * e 4) * ((Y i * W j - Y j * W i) * (X i * Y j - X j * Y i)) + (2 * e 1 * e 3 - 4 * e 0 * e 4) * ((X i * W j - X j * W i) * (X i * Y j - X j * Y i)) := by
    clear h1 h2 h3
    unfold sP sE
    grind
  rw [h1, h2, h3] at z
  omega
/-- all in one plane -/
theorem plane0 {X Y W : Nat → Int} {a b c : Int} (hne : ¬ (a = 0 ∧ b = 0 ∧ c = 0)) (h : ∀ i, i < 5 → a * X i + b * Y i + c * W i = 0) {i j k : Nat} (hi : i < 5) (hj : j < 5) (hk : k < 5) : d3 X Y W i j k = 0 := by
  have q1 := h i hi
  have q2 := h j hj
  have q3 := h k hk
  have e1 : a * d3 X Y W i j k = (a * X i + b * Y i + c * W i) * (Y j * W k - Y k * W j) - (a * X j + b * Y j + c * W j) * (Y i * W k - Y k * W i) + (a * X k + b * Y k + c * W k) * (Y i * W j - Y j * W i) := by
    clear q1 q2 q3
    unfold d3
    grind
  have e2 : b * d3 X Y W i j k = -((a * X i + b * Y i + c * W i) * (X j * W k - X k * W j)) + (a * X j + b * Y j + c * W j) * (X i * W k - X k * W i) - (a * X k + b * Y k + c * W k) * (X i * W j - X j * W i) := by
    clear q1 q2 q3 e1
    unfold d3
    grind
  have e3 : c * d3 X Y W i j k = (a * X i + b * Y i + c * W i) * (X j * Y k - X k * Y j) - (a * X j + b * Y j + c * W j) * (X i * Y k - X k * Y i) + (a * X k + b * Y k + c * W k) * (X i * Y j - X j * Y i) := by
    clear q1 q2 q3 e1 e2
    unfold d3
    grind
  rw [q1, q2, q3] at e1 e2 e3
  by_cases z : d3 X Y W i j k = 0
  · exact z
  · exfalso
    apply hne
    refine ⟨?_, ?_, ?_⟩
    · rcases Int.mul_eq_zero.mp (show a * d3 X Y W i j k = 0 by omega) with y | y
      · exact y
      · exact absurd y z
    · rcases Int.mul_eq_zero.mp (show b * d3 X Y W i j k = 0 by omega) with y | y
      · exact y
      · exact absurd y z
    · rcases Int.mul_eq_zero.mp (show c * d3 X Y W i j k = 0 by omega) with y | y
      · exact y
      · exact absurd y z
