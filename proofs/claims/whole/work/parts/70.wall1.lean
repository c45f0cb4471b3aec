/-! a conic over three polynomials: values, polars, 3x3 minors -/
def sP (e X Y W : Nat → Int) (i j : Nat) : Int := 2 * e 0 * (X i * X j) + e 1 * (X i * Y j + X j * Y i) + 2 * e 2 * (Y i * Y j) + e 3 * (X i * W j + X j * W i) + e 4 * (Y i * W j + Y j * W i) + 2 * e 5 * (W i * W j)
def sE (e X Y W : Nat → Int) (i : Nat) : Int := e 0 * (X i * X i) + e 1 * (X i * Y i) + e 2 * (Y i * Y i) + e 3 * (X i * W i) + e 4 * (Y i * W i) + e 5 * (W i * W i)
def d3 (X Y W : Nat → Int) (i j k : Nat) : Int := X i * (Y j * W k - Y k * W j) - Y i * (X j * W k - X k * W j) + W i * (X j * Y k - X k * Y j)
theorem cramX (X Y W : Nat → Int) (i j k l : Nat) : d3 X Y W i j k * X l = d3 X Y W j k l * X i - d3 X Y W i k l * X j + d3 X Y W i j l * X k := by
  unfold d3
  grind
theorem cramY (X Y W : Nat → Int) (i j k l : Nat) : d3 X Y W i j k * Y l = d3 X Y W j k l * Y i - d3 X Y W i k l * Y j + d3 X Y W i j l * Y k := by
  unfold d3
  grind
theorem cramW (X Y W : Nat → Int) (i j k l : Nat) : d3 X Y W i j k * W l = d3 X Y W j k l * W i - d3 X Y W i k l * W j + d3 X Y W i j l * W k := by
  unfold d3
  grind
/-- the polar of a combination -/
theorem sP_cmb (e X Y W : Nat → Int) (h i j k l : Nat) (d a b c : Int) (h1 : d * X l = a * X i - b * X j + c * X k) (h2 : d * Y l = a * Y i - b * Y j + c * Y k) (h3 : d * W l = a * W i - b * W j + c * W k) : d * sP e X Y W h l = a * sP e X Y W h i - b * sP e X Y W h j + c * sP e X Y W h k := by
  unfold sP
  generalize X l = x at *
  generalize Y l = y at *
  generalize W l = w at *
  grind
theorem sP_self (e X Y W : Nat → Int) (i : Nat) : sP e X Y W i i = 2 * sE e X Y W i := by
  unfold sP sE
  grind
theorem sP_sym (e X Y W : Nat → Int) (i j : Nat) : sP e X Y W i j = sP e X Y W j i := by
  unfold sP
  grind
theorem sE_cmb (e X Y W : Nat → Int) (i j k l : Nat) (d a b c : Int) (h1 : d * X l = a * X i - b * X j + c * X k) (h2 : d * Y l = a * Y i - b * Y j + c * Y k) (h3 : d * W l = a * W i - b * W j + c * W k) : d * d * sE e X Y W l = a * a * sE e X Y W i + b * b * sE e X Y W j + c * c * sE e X Y W k - a * b * sP e X Y W i j + a * c * sP e X Y W i k - b * c * sP e X Y W j k := by
  have e1 : d * d * sE e X Y W l = e 0 * ((d * X l) * (d * X l)) + e 1 * ((d * X l) * (d * Y l)) + e 2 * ((d * Y l) * (d * Y l)) + e 3 * ((d * X l) * (d * W l)) + e 4 * ((d * Y l) * (d * W l)) + e 5 * ((d * W l) * (d * W l)) := by
    unfold sE
    grind
  rw [e1, h1, h2, h3]
  unfold sE sP
  grind
/-! powers of two -/
theorem two_split : ∀ (n : Nat) (d : Int), d.natAbs ≤ n → d ≠ 0 → ∃ (a : Nat) (o : Int), d = 2 ^ a * o ∧ o % 2 = 1
  | 0, d, h, h0 => absurd (Int.natAbs_eq_zero.mp (by omega)) h0
  | n + 1, d, h, h0 => by
    by_cases q : d % 2 = 1
    · exact ⟨0, d, by rw [Int.pow_zero, Int.one_mul], q⟩
    · obtain ⟨a, o, h1, h2⟩ := two_split n (d / 2) (by omega) (by omega)
      refine ⟨a + 1, o, ?_, h2⟩
      rw [Int.pow_succ]
      have : d = 2 * (d / 2) := by omega
      rw [this, h1]
      grind
theorem two_dvd_mul {o x : Int} (ho : o % 2 = 1) (h : (2 : Int) ∣ o * x) : (2 : Int) ∣ x := by
  have h1 := Int.emod_eq_zero_of_dvd h
  rw [Int.mul_emod, ho] at h1
  have h2 := Int.emod_two_eq x
  rcases h2 with q | q
  · exact Int.dvd_of_emod_eq_zero q
  · rw [q] at h1
    exact absurd h1 (by decide)
theorem odd_cancel {o : Int} (ho : o % 2 = 1) : ∀ (k : Nat) (x : Int), (2 ^ k : Int) ∣ o * x → (2 ^ k : Int) ∣ x
  | 0, x, _ => ⟨x, by rw [Int.pow_zero, Int.one_mul]⟩
  | k + 1, x, h => by
    obtain ⟨t, ht⟩ := h
    rw [Int.pow_succ] at ht
    obtain ⟨y, hy⟩ := two_dvd_mul ho ⟨2 ^ k * t, by rw [ht]; grind⟩
    have h2 : (2 ^ k : Int) ∣ o * y := ⟨t, by
      have : 2 * (o * y) = 2 * (2 ^ k * t) := by rw [hy] at ht; grind
      omega⟩
    obtain ⟨z, hz⟩ := odd_cancel ho k y h2
    exact ⟨z, by rw [hy, hz, Int.pow_succ]; grind⟩
theorem odd_cancel2 {o x : Int} {k b : Nat} (ho : o % 2 = 1) (h : (2 ^ (k + b) : Int) ∣ 2 ^ b * o * x) : (2 ^ k : Int) ∣ x := by
  apply odd_cancel ho
  obtain ⟨t, ht⟩ := h
  refine ⟨t, ?_⟩
  rw [Int.pow_add] at ht
  have hp : (2 ^ b : Int) ≠ 0 := Int.ne_of_gt (Int.pow_pos (by decide))
  apply Int.eq_of_mul_eq_mul_left hp
  grind
theorem sq_even {x : Int} (h : (2 : Int) ∣ x * x) : (2 : Int) ∣ x := by
  rcases Int.emod_two_eq x with q | q
  · exact Int.dvd_of_emod_eq_zero q
  · exact two_dvd_mul q h
theorem sq_dvd : ∀ (k : Nat) (x : Int), (2 ^ (2 * k) : Int) ∣ x * x → (2 ^ k : Int) ∣ x
  | 0, x, _ => ⟨x, by rw [Int.pow_zero, Int.one_mul]⟩
  | k + 1, x, h => by
    obtain ⟨t, ht⟩ := h
    rw [show 2 * (k + 1) = 2 * k + 1 + 1 by omega, Int.pow_succ, Int.pow_succ] at ht
    obtain ⟨y, hy⟩ := sq_even (x := x) ⟨2 ^ (2 * k) * 2 * t, by rw [ht]; grind⟩
    have h2 : (2 ^ (2 * k) : Int) ∣ y * y := ⟨t, by
      have : 4 * (y * y) = 4 * (2 ^ (2 * k) * t) := by rw [hy] at ht; grind
      omega⟩
    obtain ⟨z, hz⟩ := sq_dvd k y h2
    exact ⟨z, by rw [hy, hz, Int.pow_succ]; grind⟩
theorem inv_ex {o : Int} (ho : o % 2 = 1) : ∀ k : Nat, ∃ q : Int, (2 ^ k : Int) ∣ o * q - 1
  | 0 => ⟨0, ⟨o * 0 - 1, by rw [Int.pow_zero, Int.one_mul]⟩⟩
  | k + 1 => by
    obtain ⟨q, t, ht⟩ := inv_ex ho k
    obtain ⟨r, hr⟩ : ∃ r, o = 2 * r + 1 := ⟨o / 2, by omega⟩
    refine ⟨q + 2 ^ k * t, ⟨t + r * t, ?_⟩⟩
    rw [Int.pow_succ]
    have : o * q = 2 ^ k * t + 1 := by omega
    grind
theorem pw_le_dvd {i j : Nat} {x : Int} (h : i ≤ j) (hx : (2 ^ j : Int) ∣ x) : (2 ^ i : Int) ∣ x := by
  obtain ⟨t, ht⟩ := hx
  obtain ⟨c, rfl⟩ := Nat.exists_eq_add_of_le h
  exact ⟨2 ^ c * t, by rw [ht, Int.pow_add]; grind⟩
theorem dvd_mul2 {i j : Nat} {x y : Int} (hx : (2 ^ i : Int) ∣ x) (hy : (2 ^ j : Int) ∣ y) : (2 ^ (i + j) : Int) ∣ x * y := by
  obtain ⟨s, hs⟩ := hx
  obtain ⟨t, ht⟩ := hy
  exact ⟨s * t, by rw [hs, ht, Int.pow_add]; grind⟩
theorem small_zero {k : Nat} {x : Int} (h : (2 ^ k : Int) ∣ x) (hb : x.natAbs < 2 ^ k) : x = 0 := by
  obtain ⟨t, ht⟩ := h
  by_cases q : t = 0
  · rw [ht, q, Int.mul_zero]
  · exfalso
    rw [ht, Int.natAbs_mul] at hb
    have e : (2 ^ k : Int).natAbs = 2 ^ k := by rw [Int.natAbs_pow]; rfl
    rw [e] at hb
    have h1 : 1 ≤ t.natAbs := Nat.one_le_iff_ne_zero.mpr (fun z => q (Int.natAbs_eq_zero.mp z))
    have := Nat.mul_le_mul_left (2 ^ k) h1
    omega
