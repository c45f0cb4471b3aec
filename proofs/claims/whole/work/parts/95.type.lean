/-! where the fourth pair alone has the lowest power -/
def pm (X : Nat → Int) (i : Nat) : Int := match i with
  | 0 => X 0
  | 1 => X 2
  | 2 => X 4
  | 3 => X 1
  | _ => X 3
theorem t24_l {e X Y W : Nat → Int} {m b a l : Nat} {k k2 : Int} (h0 : (2 ^ 32 : Int) ∣ sE e X Y W 0) (h2 : (2 ^ 32 : Int) ∣ sE e X Y W 2) (hS0 : (2 ^ b : Int) ∣ sP e X Y W 0 l) (hS2 : (2 ^ b : Int) ∣ sP e X Y W 2 l) (hEl : (2 ^ b : Int) ∣ sE e X Y W l) (hS01 : (2 ^ (b + 1) : Int) ∣ sP e X Y W 0 1) (hS12 : (2 ^ (b + 1) : Int) ∣ sP e X Y W 1 2) (hk : sP e X Y W 0 2 = 2 ^ b * k) (ok : k % 2 = 1) (hE1 : sE e X Y W 1 = 2 ^ b * k2) (ok2 : k2 % 2 = 1) (da : (2 ^ a : Int) ∣ d3 X Y W 0 1 2) (ma : (2 ^ m : Int) ∣ d3 X Y W 1 2 l) (mc : (2 ^ m : Int) ∣ d3 X Y W 0 1 l) (q1 : a + b ≤ 32 + m) (q2 : 2 * a + b ≤ 32 + 2 * m) : (2 ^ a : Int) ∣ d3 X Y W 0 1 l ∧ (2 ^ a : Int) ∣ d3 X Y W 0 2 l ∧ (2 ^ a : Int) ∣ d3 X Y W 1 2 l := by
  have I1 := sP_cmb e X Y W 0 0 1 2 l _ _ _ _ (cramX X Y W 0 1 2 l) (cramY X Y W 0 1 2 l) (cramW X Y W 0 1 2 l)
  have I3 := sP_cmb e X Y W 2 0 1 2 l _ _ _ _ (cramX X Y W 0 1 2 l) (cramY X Y W 0 1 2 l) (cramW X Y W 0 1 2 l)
  have I4 := sE_cmb e X Y W 0 1 2 l _ _ _ _ (cramX X Y W 0 1 2 l) (cramY X Y W 0 1 2 l) (cramW X Y W 0 1 2 l)
  rw [sP_self] at I1 I3
  rw [sP_sym e X Y W 2 0, sP_sym e X Y W 2 1] at I3
  generalize d3 X Y W 0 1 2 = d at *
  generalize d3 X Y W 1 2 l = A at *
  generalize d3 X Y W 0 2 l = B at *
  generalize d3 X Y W 0 1 l = C at *
  generalize sE e X Y W 0 = E0 at *
  generalize sE e X Y W 1 = E1 at *
  generalize sE e X Y W 2 = E2 at *
  generalize sE e X Y W l = El at *
  generalize sP e X Y W 0 1 = S01 at *
  generalize sP e X Y W 0 2 = S02 at *
  generalize sP e X Y W 1 2 = S12 at *
  generalize sP e X Y W 0 l = S0 at *
  generalize sP e X Y W 2 l = S2 at *
  have eC : 2 ^ b * k * C = d * S0 - A * E0 * 2 + B * S01 := by rw [← hk]; grind
  have eA : 2 ^ b * k * A = d * S2 + B * S12 - C * E2 * 2 := by rw [← hk]; grind
  have eB : 2 ^ b * k2 * (B * B) = d * d * El - A * A * E0 - C * C * E2 + A * B * S01 - A * C * S02 + B * C * S12 := by rw [← hE1]; grind
  have AC : ∀ j : Nat, j ≤ a → (2 ^ (j + b) : Int) ∣ B * S01 → (2 ^ (j + b) : Int) ∣ B * S12 → (2 ^ j : Int) ∣ A ∧ (2 ^ j : Int) ∣ C := fun j hj hB1 hB2 => by
    constructor
    · apply odd_cancel2 (b := b) ok
      rw [eA]
      refine Int.dvd_sub (Int.dvd_add (pw_le_dvd (by omega) (dvd_mul2 da hS2)) hB2) ?_
      exact Int.dvd_trans (pw_le_dvd (by omega) (dvd_mul2 mc h2)) (Int.dvd_mul_right _ _)
    · apply odd_cancel2 (b := b) ok
      rw [eC]
      refine Int.dvd_add (Int.dvd_sub (pw_le_dvd (by omega) (dvd_mul2 da hS0)) ?_) hB1
      exact Int.dvd_trans (pw_le_dvd (by omega) (dvd_mul2 ma h0)) (Int.dvd_mul_right _ _)
  have st : ∀ i : Nat, i ≤ a → (2 ^ i : Int) ∣ B := fun i => by
    induction i with
    | zero => exact fun _ => ⟨_, by rw [Int.pow_zero, Int.one_mul]⟩
    | succ i ih =>
      intro hi
      have hB := ih (by omega)
      obtain ⟨hA, hC⟩ := AC (i + 1) hi (pw_le_dvd (by omega) (dvd_mul2 hB hS01)) (pw_le_dvd (by omega) (dvd_mul2 hB hS12))
      apply sq_dvd
      apply odd_cancel2 (b := b) ok2
      rw [eB]
      refine Int.dvd_add (Int.dvd_sub (Int.dvd_add (Int.dvd_sub (Int.dvd_sub ?_ ?_) ?_) ?_) ?_) ?_
      · exact pw_le_dvd (by omega) (dvd_mul2 (dvd_mul2 da da) hEl)
      · exact pw_le_dvd (by omega) (dvd_mul2 (dvd_mul2 ma ma) h0)
      · exact pw_le_dvd (by omega) (dvd_mul2 (dvd_mul2 mc mc) h2)
      · exact pw_le_dvd (by omega) (dvd_mul2 (dvd_mul2 hA hB) hS01)
      · exact pw_le_dvd (by omega) (dvd_mul2 (dvd_mul2 hA hC) ⟨k, hk⟩)
      · exact pw_le_dvd (by omega) (dvd_mul2 (dvd_mul2 hB hC) hS12)
  have hB := st a (Nat.le_refl _)
  obtain ⟨hA, hC⟩ := AC a (Nat.le_refl _) (pw_le_dvd (by omega) (dvd_mul2 hB hS01)) (pw_le_dvd (by omega) (dvd_mul2 hB hS12))
  exact ⟨hC, hB, hA⟩
/-- the system in its coordinates -/
theorem t24_sys {R : Type} [Lean.Grind.CommRing R] {x1 x2 x3 y1 y2 y3 p q r u v : R} (h1 : x3 + x2 * p = 0) (h2 : y1 + y2 * q = 0) (h3 : (y3 + y2 * p) + x1 * p + 2 * x2 * r + x3 * q = 0) (h5 : (x1 + x2 * q) + y1 * p + 2 * y2 * r + y3 * q = 0) (h4 : p + x2 * x2 * r + x1 * x2 * p + x1 * x3 + x2 * x3 * q = 0) (h6 : q + y2 * y2 * r + y1 * y2 * p + y1 * y3 + y2 * y3 * q = 0) (h7 : 1 + 2 * x2 * y2 * r + (x1 * y2 + x2 * y1) * p + (x1 * y3 + x3 * y1) + (x2 * y3 + x3 * y2) * q + r = 0) (hu : u * (1 + x2 * y2 * (r - p * q)) = 1) (hv : v * (1 - x2 * y2 * (r - p * q)) = 1) : ∃ T : R, T = x2 * y2 * (r - p * q) ∧ T = -(x2 * y2 * ((1 - T) * (1 - T))) ∧ x3 = -(x2 * x2 * x2 * ((1 - T) * (1 - T))) ∧ y3 = x2 * (2 - T) ∧ x1 = y2 * (2 - T) ∧ y1 = -(y2 * y2 * y2 * ((1 - T) * (1 - T))) := by
  have e3 : x3 = -(x2 * p) := by clear h2 h3 h5 h4 h6 h7 hu hv; grind
  have e1 : y1 = -(y2 * q) := by clear h1 h3 h5 h4 h6 h7 hu hv e3; grind
  subst e3
  subst e1
  clear h1 h2
  obtain ⟨ρ, hρ⟩ : ∃ ρ, ρ = r - p * q := ⟨_, rfl⟩
  rw [← hρ] at hu hv
  have hr : r = ρ + p * q := by rw [hρ]; clear hu hv h3 h5 h4 h6 h7 hρ; grind
  subst hr
  clear hρ
  have kp : p = -(x2 * x2 * ρ) := by clear hu hv h3 h5 h6 h7; grind
  have kq : q = -(y2 * y2 * ρ) := by clear hu hv h3 h5 h4 h7 kp; grind
  obtain ⟨c, hc⟩ : ∃ c, c = y3 + y2 * p := ⟨_, rfl⟩
  obtain ⟨a, ha⟩ : ∃ a, a = x1 + x2 * q := ⟨_, rfl⟩
  obtain ⟨T, hT⟩ : ∃ T, T = x2 * y2 * ρ := ⟨_, rfl⟩
  have k3 : c + a * p + 2 * x2 * ρ = 0 := by rw [hc, ha]; clear hu hv h5 h4 h6 h7 kp kq hc ha hT; grind
  have k5 : a + c * q + 2 * y2 * ρ = 0 := by rw [hc, ha]; clear hu hv h3 h4 h6 h7 kp kq hc ha hT k3; grind
  have k7 : 1 + ρ + p * q + a * c + 2 * (x2 * y2 * ρ) = 0 := by rw [hc, ha]; clear hu hv h3 h5 h4 h6 kp kq hc ha hT k3 k5; grind
  have hx1 : x1 = a - x2 * q := by rw [ha]; clear hu hv h3 h5 h4 h6 h7 kp kq hc ha hT k3 k5 k7; grind
  have hy3 : y3 = c - y2 * p := by rw [hc]; clear hu hv h3 h5 h4 h6 h7 kp kq hc ha hT k3 k5 k7 hx1; grind
  clear ha hc h3 h5 h4 h6 h7
  rw [← hT] at hu hv
  have g1 : a * x2 = T * (c * y2 - 2) := by rw [hT]; clear hu hv k3 k7 hx1 hy3 kp hT; grind
  have g2 : c * y2 = T * (a * x2 - 2) := by rw [hT]; clear hu hv k5 k7 hx1 hy3 kq hT g1; grind
  have g3 : (a * x2 - c * y2) * (1 + T) = 0 := by clear hu hv k3 k5 k7 hx1 hy3 kp kq hT; grind
  have g4 : a * x2 = c * y2 := by clear hv k3 k5 k7 hx1 hy3 kp kq hT g1 g2; grind
  have g5 : a * x2 * (1 - T) = -(2 * T) := by rw [← g4] at g1; clear hu hv k3 k5 k7 hx1 hy3 kp kq hT g2 g3 g4; grind
  have g6 : a * c = ρ * (a * x2) * (a * x2 - 2) := by
    have : c = x2 * ρ * (a * x2 - 2) := by clear hu hv k5 k7 hx1 hy3 kq hT g1 g2 g3 g4 g5; grind
    rw [this]
    clear hu hv k5 k7 hx1 hy3 kq hT g1 g2 g3 g4 g5 k3 this
    grind
  have g7 : p * q = T * T := by rw [kp, kq, hT]; clear hu hv k5 k7 hx1 hy3 kq kp hT g1 g2 g3 g4 g5 g6 k3; grind
  have g8 : (1 + T) * (1 + T) + ρ + a * c = 0 := by rw [g7, ← hT] at k7; clear hu hv k5 hx1 hy3 kq kp hT g1 g2 g3 g4 g5 g6 k3 g7; grind
  have g9 : a * c * ((1 - T) * (1 - T)) = 4 * T * ρ := by
    rw [g6]
    generalize a * x2 = A at *
    clear hu hv k5 hx1 hy3 kq kp hT g1 g2 g3 g4 g6 k3 g7 g8 k7
    have : (A - 2) * (1 - T) = -2 := by grind
    have e : ρ * A * (A - 2) * ((1 - T) * (1 - T)) = ρ * (A * (1 - T)) * ((A - 2) * (1 - T)) := by clear g5 this; grind
    rw [e, g5, this]
    grind
  have g10 : (1 + T) * (1 + T) * ((1 - T) * (1 - T) + ρ) = 0 := by clear hu hv k5 hx1 hy3 kq kp hT g1 g2 g3 g4 g5 g6 k3 g7 k7; grind
  have g11 : ρ = -((1 - T) * (1 - T)) := by
    have e : u * u * ((1 + T) * (1 + T) * ((1 - T) * (1 - T) + ρ)) = (u * (1 + T)) * (u * (1 + T)) * ((1 - T) * (1 - T) + ρ) := by clear hu hv k5 hx1 hy3 kq kp hT g1 g2 g3 g4 g5 g6 k3 g7 k7 g8 g9 g10; grind
    rw [g10, hu] at e
    clear hu hv k5 hx1 hy3 kq kp hT g1 g2 g3 g4 g5 g6 k3 g7 k7 g8 g9 g10
    grind
  have hc2 : c = 2 * x2 * (1 - T) := by
    have s1 : c = x2 * ρ * (a * x2 - 2) := by clear hu hv k5 k7 hx1 hy3 kq hT g1 g2 g3 g4 g5 g6 g7 g8 g9 g10 g11; grind
    have s2 : c * (1 - T) = 2 * x2 * ((1 - T) * (1 - T)) := by
      have : (a * x2 - 2) * (1 - T) = -2 := by clear hu hv k5 k7 hx1 hy3 kq hT g1 g2 g3 g4 g6 g7 g8 g9 g10 g11 s1 k3 kp; grind
      have e : c * (1 - T) = x2 * ρ * ((a * x2 - 2) * (1 - T)) := by rw [s1]; clear hu hv k5 k7 hx1 hy3 kq hT g1 g2 g3 g4 g5 g6 g7 g8 g9 g10 g11 s1 k3 kp this; grind
      rw [e, this, g11]
      clear hu hv k5 k7 hx1 hy3 kq hT g1 g2 g3 g4 g5 g6 g7 g8 g9 g10 g11 s1 k3 kp this e
      grind
    have e : v * (c * (1 - T)) = c * (v * (1 - T)) := by clear hu hv k5 k7 hx1 hy3 kq hT g1 g2 g3 g4 g5 g6 g7 g8 g9 g10 g11 s1 k3 kp s2; grind
    have e2 : v * (2 * x2 * ((1 - T) * (1 - T))) = 2 * x2 * (1 - T) * (v * (1 - T)) := by clear hu hv k5 k7 hx1 hy3 kq hT g1 g2 g3 g4 g5 g6 g7 g8 g9 g10 g11 s1 k3 kp s2 e; grind
    rw [s2, e2, hv] at e
    clear hu hv k5 k7 hx1 hy3 kq hT g1 g2 g3 g4 g5 g6 g7 g8 g9 g10 g11 s1 k3 kp s2 e2
    grind
  have ha2 : a = 2 * y2 * (1 - T) := by
    have s1 : a = y2 * ρ * (a * x2 - 2) := by rw [g4]; clear hu hv k3 k7 hx1 hy3 kp hT g1 g2 g3 g4 g5 g6 g7 g8 g9 g10 g11 hc2; grind
    have s2 : a * (1 - T) = 2 * y2 * ((1 - T) * (1 - T)) := by
      have : (a * x2 - 2) * (1 - T) = -2 := by clear hu hv k5 k7 hx1 hy3 kq hT g1 g2 g3 g4 g6 g7 g8 g9 g10 g11 s1 k3 kp hc2; grind
      have e : a * (1 - T) = y2 * ρ * ((a * x2 - 2) * (1 - T)) := by
        have z : a * (1 - T) = y2 * ρ * (a * x2 - 2) * (1 - T) := by rw [← s1]
        rw [z]
        clear hu hv k5 k7 hx1 hy3 kq hT g1 g2 g3 g4 g5 g6 g7 g8 g9 g10 g11 s1 k3 kp this z hc2
        grind
      rw [e, this, g11]
      clear hu hv k5 k7 hx1 hy3 kq hT g1 g2 g3 g4 g5 g6 g7 g8 g9 g10 g11 s1 k3 kp this e hc2
      grind
    have e : v * (a * (1 - T)) = a * (v * (1 - T)) := by clear hu hv k5 k7 hx1 hy3 kq hT g1 g2 g3 g4 g5 g6 g7 g8 g9 g10 g11 s1 k3 kp s2 hc2; grind
    have e2 : v * (2 * y2 * ((1 - T) * (1 - T))) = 2 * y2 * (1 - T) * (v * (1 - T)) := by clear hu hv k5 k7 hx1 hy3 kq hT g1 g2 g3 g4 g5 g6 g7 g8 g9 g10 g11 s1 k3 kp s2 e hc2; grind
    rw [s2, e2, hv] at e
    clear hu hv k5 k7 hx1 hy3 kq hT g1 g2 g3 g4 g5 g6 g7 g8 g9 g10 g11 s1 k3 kp s2 e2 hc2
    grind
  have hT2 : T = -(x2 * y2 * ((1 - T) * (1 - T))) := by
    have e : x2 * y2 * ρ = -(x2 * y2 * ((1 - T) * (1 - T))) := by rw [g11]; clear hu hv k5 k7 hx1 hy3 kq hT g1 g2 g3 g4 g5 g6 g7 g8 g9 g10 g11 k3 kp hc2 ha2; grind
    rw [← hT] at e
    exact e
  clear hu hv k5 k7 g1 g2 g3 g4 g5 g6 g7 g8 g9 g10 k3
  refine ⟨T, ?_, hT2, ?_, ?_, ?_, ?_⟩
  · rw [hT]; clear hT2 hT hc2 ha2 kp kq hx1 hy3 g11; grind
  · rw [kp, g11]; clear hT2 hT hc2 ha2 kp kq hx1 hy3 g11; grind
  · rw [hy3, hc2, kp, g11]; clear hT hc2 ha2 kp kq hx1 hy3 g11; grind
  · rw [hx1, ha2, kq, g11]; clear hT hc2 ha2 kp kq hx1 hy3 g11; grind
  · rw [kq, g11]; clear hT2 hT hc2 ha2 kp kq hx1 hy3 g11; grind
/-- the four quadrics there -/
theorem t24_quad {R : Type} [Lean.Grind.CommRing R] {x1 x2 x3 y1 y2 y3 T : R} (hT : T = -(x2 * y2 * ((1 - T) * (1 - T)))) (hx3 : x3 = -(x2 * x2 * x2 * ((1 - T) * (1 - T)))) (hy3 : y3 = x2 * (2 - T)) (hx1 : x1 = y2 * (2 - T)) (hy1 : y1 = -(y2 * y2 * y2 * ((1 - T) * (1 - T)))) : 4 * (-x3) * x2 - (x2 * y3 - x3 * y2) * (x2 * y3 - x3 * y2) = 0 ∧ (x2 * y3 - x3 * y2) * x2 - (x2 * y3 - x3 * y2) * y3 + 2 * (-x3) = 0 ∧ (-x3) * (x1 * y3 - x3 * y1) + 4 * (x2 * y3 - x3 * y2) * x2 - 2 * (x2 * y3 - x3 * y2) * y3 = 0 ∧ (-x3) * x1 - y3 * y3 + 2 * y3 * x2 = 0 := by
  have k : x2 * y3 - x3 * y2 = 2 * x2 * x2 * (1 - T) := by rw [hx3, hy3]; clear hx3 hy3 hx1 hy1; grind
  rw [k]
  refine ⟨?_, ?_, ?_, ?_⟩
  · rw [hx3]; clear k hx3 hy3 hx1 hy1 hT; grind
  · rw [hx3, hy3]; clear k hx3 hy3 hx1 hy1 hT; grind
  · have k2 : (-x3) * (x1 * y3 - x3 * y1) = -(4 * T * (x2 * x2 * x2 * (1 - T))) := by
      rw [hx3, hy3, hx1, hy1]
      clear k hx3 hy3 hx1 hy1
      grind
    rw [k2, hy3]
    clear k hx3 hy3 hx1 hy1 hT k2
    grind
  · rw [hx3, hy3, hx1]; clear k hx3 hy3 hx1 hy1; grind
