theorem mind_l {e X Y W : Nat → Int} {m b a l : Nat} {k o : Int} (h0 : (2 ^ 32 : Int) ∣ sE e X Y W 0) (h1 : (2 ^ 32 : Int) ∣ sP e X Y W 0 1) (h2 : (2 ^ 32 : Int) ∣ sP e X Y W 0 2 + sE e X Y W 1) (hS0 : (2 ^ b : Int) ∣ sP e X Y W 0 l) (hS2 : (2 ^ b : Int) ∣ sP e X Y W 2 l) (hEl : (2 ^ b : Int) ∣ sE e X Y W l) (hS12 : (2 ^ b : Int) ∣ sP e X Y W 1 2) (hE2 : (2 ^ b : Int) ∣ sE e X Y W 2) (hk : sP e X Y W 0 2 = 2 ^ b * k) (ok : k % 2 = 1) (hd : d3 X Y W 0 1 2 = 2 ^ a * o) (oo : o % 2 = 1) (ma : (2 ^ m : Int) ∣ d3 X Y W 1 2 l) (mb : (2 ^ m : Int) ∣ d3 X Y W 0 2 l) (q1 : a + b ≤ 32 + m) (q2 : 2 * a + b ≤ 32 + 2 * m) (q3 : b < 32) : (2 ^ a : Int) ∣ d3 X Y W 0 1 l ∧ (2 ^ a : Int) ∣ d3 X Y W 0 2 l ∧ (2 ^ a : Int) ∣ d3 X Y W 1 2 l := by
  have I1 := sP_cmb e X Y W 0 0 1 2 l _ _ _ _ (cramX X Y W 0 1 2 l) (cramY X Y W 0 1 2 l) (cramW X Y W 0 1 2 l)
  have I3 := sP_cmb e X Y W 2 0 1 2 l _ _ _ _ (cramX X Y W 0 1 2 l) (cramY X Y W 0 1 2 l) (cramW X Y W 0 1 2 l)
  have I4 := sE_cmb e X Y W 0 1 2 l _ _ _ _ (cramX X Y W 0 1 2 l) (cramY X Y W 0 1 2 l) (cramW X Y W 0 1 2 l)
  rw [sP_self] at I1 I3
  rw [sP_sym e X Y W 2 0, sP_sym e X Y W 2 1] at I3
  have da : (2 ^ a : Int) ∣ d3 X Y W 0 1 2 := ⟨o, hd⟩
  generalize d3 X Y W 0 1 2 = d at *
  generalize d3 X Y W 1 2 l = A at *
  generalize d3 X Y W 0 2 l = B at *
  generalize d3 X Y W 0 1 l = C at *
  generalize sE e X Y W 0 = E0 at *
  generalize sE e X Y W 1 = E1 at *
  generalize sE e X Y W 2 = E2 at *
  generalize sE e X Y W l = El at *
  generalize sP e X Y W 0 1 = S01 at *
  generalize sP e X Y W 0 2 = S02 at *
  generalize sP e X Y W 1 2 = S12 at *
  generalize sP e X Y W 0 l = S0 at *
  generalize sP e X Y W 2 l = S2 at *
  have hC : (2 ^ a : Int) ∣ C := by
    have e1 : 2 ^ b * k * C = d * S0 - A * E0 * 2 + B * S01 := by rw [← hk]; grind
    apply odd_cancel2 (b := b) ok
    rw [e1]
    refine Int.dvd_add (Int.dvd_sub (dvd_mul2 da hS0) ?_) ?_
    · exact Int.dvd_trans (pw_le_dvd (by omega) (dvd_mul2 ma h0)) (Int.dvd_mul_right _ _)
    · exact pw_le_dvd (by omega) (dvd_mul2 mb h1)
  have hB : (2 ^ a : Int) ∣ B := by
    obtain ⟨t, ht⟩ := h2
    have ek : E1 = 2 ^ b * (2 ^ (32 - b) * t - k) := by
      have e2 : (2 ^ 32 : Int) = 2 ^ b * 2 ^ (32 - b) := by rw [← Int.pow_add]; congr 1; omega
      rw [e2] at ht
      grind
    have ok1 : (2 ^ (32 - b) * t - k) % 2 = 1 := by
      obtain ⟨c, hc⟩ : ∃ c, 32 - b = c + 1 := ⟨31 - b, by omega⟩
      rw [hc, Int.pow_succ]
      have : (2 : Int) ^ c * 2 * t = 2 * (2 ^ c * t) := by grind
      omega
    have e1 : 2 ^ b * (2 ^ (32 - b) * t - k) * (B * B) = d * d * El - C * d * S2 + C * C * E2 - A * A * E0 + A * B * S01 := by
      rw [← ek]
      grind
    apply sq_dvd
    apply odd_cancel2 (b := b) ok1
    rw [e1]
    refine Int.dvd_add (Int.dvd_sub (Int.dvd_add (Int.dvd_sub ?_ ?_) ?_) ?_) ?_
    · exact pw_le_dvd (by omega) (dvd_mul2 (dvd_mul2 da da) hEl)
    · exact pw_le_dvd (by omega) (dvd_mul2 (dvd_mul2 hC da) hS2)
    · exact pw_le_dvd (by omega) (dvd_mul2 (dvd_mul2 hC hC) hE2)
    · exact pw_le_dvd (by omega) (dvd_mul2 (dvd_mul2 ma ma) h0)
    · exact pw_le_dvd (by omega) (dvd_mul2 (dvd_mul2 ma mb) h1)
  refine ⟨hC, hB, ?_⟩
  have e1 : 2 ^ b * k * A = d * S2 + B * S12 - C * E2 * 2 := by rw [← hk]; grind
  apply odd_cancel2 (b := b) ok
  rw [e1]
  refine Int.dvd_sub (Int.dvd_add (dvd_mul2 da hS2) (dvd_mul2 hB hS12)) ?_
  exact Int.dvd_trans (dvd_mul2 hC hE2) (Int.dvd_mul_right _ _)
/-- what the content of the conic on three vectors says of their minor -/
theorem cont_d {e X Y W : Nat → Int} {b i j k : Nat} (hi : (2 ^ b : Int) ∣ sE e X Y W i) (hj : (2 ^ b : Int) ∣ sE e X Y W j) (hk : (2 ^ b : Int) ∣ sE e X Y W k) (hij : (2 ^ b : Int) ∣ sP e X Y W i j) (hik : (2 ^ b : Int) ∣ sP e X Y W i k) (hjk : (2 ^ b : Int) ∣ sP e X Y W j k) (l : Nat) : (2 ^ b : Int) ∣ d3 X Y W i j k * d3 X Y W i j k * sE e X Y W l := by
  rw [sE_cmb e X Y W i j k l _ _ _ _ (cramX X Y W i j k l) (cramY X Y W i j k l) (cramW X Y W i j k l)]
  refine Int.dvd_sub (Int.dvd_add (Int.dvd_sub (Int.dvd_add (Int.dvd_add ?_ ?_) ?_) ?_) ?_) ?_ <;> exact Int.dvd_trans (by assumption) (Int.dvd_mul_left _ _)
/-- a square over an odd number -/
theorem cont_sq {b : Nat} {d : Int} {e : Nat → Int} (he : ∃ i, i < 6 ∧ e i % 2 = 1) (h : ∀ i, i < 6 → (2 ^ b : Int) ∣ d * d * e i) : (2 ^ b : Int) ∣ d * d := by
  obtain ⟨i, hi, ho⟩ := he
  apply odd_cancel ho
  rw [Int.mul_comm]
  exact h i hi
