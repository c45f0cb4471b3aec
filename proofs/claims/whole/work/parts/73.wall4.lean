def EA (X Y W : Nat → Int) : Prop := 4 * d3 X Y W 0 1 2 * d3 X Y W 0 1 4 - d3 X Y W 0 1 3 * d3 X Y W 0 1 3 = 0 ∧ d3 X Y W 0 1 3 * d3 X Y W 0 1 4 - d3 X Y W 0 1 3 * d3 X Y W 0 2 3 + 2 * d3 X Y W 0 1 2 * d3 X Y W 0 2 4 = 0 ∧ d3 X Y W 0 1 2 * d3 X Y W 1 2 3 + 4 * d3 X Y W 0 1 3 * d3 X Y W 0 1 4 - 2 * d3 X Y W 0 1 3 * d3 X Y W 0 2 3 = 0 ∧ d3 X Y W 0 1 2 * d3 X Y W 1 2 4 - d3 X Y W 0 2 3 * d3 X Y W 0 2 3 + 2 * d3 X Y W 0 2 3 * d3 X Y W 0 1 4 = 0
theorem rest_dvd {n : Nat} {i j k : Nat} {x y : Int} (h : x * y = 2 ^ k * (2 ^ n * i * j)) : (2 ^ n : Int) ∣ x * y := ⟨2 ^ k * (i * j), by rw [h]; grind⟩
/-- a combination of the three vectors, by the minors over their own -/
theorem cmb_of {X Y W : Nat → Int} {l a N : Nat} {o q sa sb sc : Int} (hd : d3 X Y W 0 1 2 = 2 ^ a * o) (ha : d3 X Y W 1 2 l = 2 ^ a * sa) (hb : d3 X Y W 0 2 l = 2 ^ a * sb) (hc : d3 X Y W 0 1 l = 2 ^ a * sc) (hq : (2 ^ N : Int) ∣ o * q - 1) : cmb (2 ^ N) X Y W l (q * sa) (-(q * sb)) (q * sc) := by
  have hp : (2 ^ a : Int) ≠ 0 := Int.ne_of_gt (Int.pow_pos (by decide))
  obtain ⟨t, ht⟩ := hq
  have key : ∀ (Z : Nat → Int), d3 X Y W 0 1 2 * Z l = d3 X Y W 1 2 l * Z 0 - d3 X Y W 0 2 l * Z 1 + d3 X Y W 0 1 l * Z 2 → (2 ^ N : Int) ∣ Z l - (q * sa * Z 0 + -(q * sb) * Z 1 + q * sc * Z 2) := fun Z h => by
    rw [hd, ha, hb, hc] at h
    have h2 : o * Z l = sa * Z 0 - sb * Z 1 + sc * Z 2 := by
      apply Int.eq_of_mul_eq_mul_left hp
      grind
    refine ⟨-(t * Z l), ?_⟩
    generalize (2 ^ N : Int) = n at *
    have h3 : q * (o * Z l) = q * (sa * Z 0 - sb * Z 1 + sc * Z 2) := by rw [h2]
    grind
  exact ⟨key X (cramX X Y W 0 1 2 l), key Y (cramY X Y W 0 1 2 l), key W (cramW X Y W 0 1 2 l)⟩
theorem drop_b {b : Nat} {k x : Int} (hb : b ≤ 32) (ok : k % 2 = 1) (h : (2 ^ 32 : Int) ∣ x * (2 ^ b * k)) : (2 ^ (32 - b) : Int) ∣ x := by
  apply odd_cancel2 (b := b) ok
  rw [show 32 - b + b = 32 by omega]
  rw [Int.mul_comm]
  exact h
/-- near the double conic: the square that the two leading minors make -/
theorem near_u {M ν : Nat} {x2 x3 y2 y3 v' : Int} (hv : vv x2 x3 y3 = 2 ^ ν * v') (ov : v' % 2 = 1) (h7 : (2 ^ M : Int) ∣ vv x2 x3 y3 * z5 x2 x3 y2 y3) (h8 : (2 ^ M : Int) ∣ y3 * vv x2 x3 y3 * vv x2 x3 y3 - (y2 + x3 * y3) * (y2 + x3 * y3)) (hM : 2 * ν + 1 ≤ M) : (2 ^ (M - ν) : Int) ∣ z5 x2 x3 y2 y3 ∧ (2 ^ (M + 1 - 2 * ν) : Int) ∣ uu4 x3 y3 := by
  have hz : (2 ^ (M - ν) : Int) ∣ z5 x2 x3 y2 y3 := by
    apply odd_cancel2 (b := ν) ov
    rw [← hv, show M - ν + ν = M by omega]
    exact h7
  refine ⟨hz, ?_⟩
  have ov2 : (v' * v') % 2 = 1 := by rw [Int.mul_emod, ov]; rfl
  apply odd_cancel2 (b := 2 * ν) ov2
  have e1 : 2 ^ (2 * ν) * (v' * v') * uu4 x3 y3 = 4 * (y3 * vv x2 x3 y3 * vv x2 x3 y3 - (y2 + x3 * y3) * (y2 + x3 * y3)) + z5 x2 x3 y2 y3 * z5 x2 x3 y2 y3 - 2 * (x3 * (vv x2 x3 y3 * z5 x2 x3 y2 y3)) := by
    have e2 : 2 ^ (2 * ν) * (v' * v') = vv x2 x3 y3 * vv x2 x3 y3 := by
      rw [hv, show 2 * ν = ν + ν by omega, Int.pow_add]
      grind
    rw [e2]
    unfold vv z5 uu4
    grind
  rw [e1, show M + 1 - 2 * ν + 2 * ν = M + 1 by omega]
  refine Int.dvd_sub (Int.dvd_add ?_ ?_) ?_
  · obtain ⟨t, ht⟩ := h8
    exact ⟨2 * t, by rw [ht, Int.pow_succ]; grind⟩
  · exact pw_le_dvd (by omega) (dvd_mul2 hz hz)
  · obtain ⟨t, ht⟩ := h7
    exact ⟨x3 * t, by rw [ht, Int.pow_succ]; grind⟩
/-- a quadric over the minors, by its value in the coordinates -/
theorem quad_zero {a j : Nat} {o q G g : Int} (oo : o % 2 = 1) (hq : (2 ^ 64 : Int) ∣ o * q - 1) (hG : G.natAbs < 2 ^ 24) (hj : 24 ≤ 2 * a + j) (hj64 : j ≤ 64) (hg : (2 ^ j : Int) ∣ g) (h : ∃ r : Int, G = 2 ^ (2 * a) * r ∧ (2 ^ 64 : Int) ∣ q * q * r - g) : G = 0 := by
  obtain ⟨r, hr, hm⟩ := h
  have h1 : (2 ^ j : Int) ∣ q * q * r := by
    have e : q * q * r = (q * q * r - g) + g := by grind
    rw [e]
    exact Int.dvd_add (pw_le_dvd hj64 hm) hg
  have oq : q % 2 = 1 := by
    obtain ⟨t, ht⟩ := hq
    rcases Int.emod_two_eq q with z | z
    · exfalso
      have e3 : o * q = 2 ^ 64 * t + 1 := by omega
      have e4 : (o * q) % 2 = 0 := by rw [Int.mul_emod, z, Int.mul_zero]; rfl
      rw [e3] at e4
      omega
    · exact z
  have oq2 : (q * q) % 2 = 1 := by rw [Int.mul_emod, oq]; rfl
  have h2 := odd_cancel oq2 j r h1
  apply small_zero (k := 24) _ hG
  rw [hr]
  exact pw_le_dvd hj (dvd_mul2 ⟨1, by rw [Int.mul_one]⟩ h2)
