theorem nb3 {x y z : Int} {A B C : Nat} (hx : x.natAbs ≤ A) (hy : y.natAbs ≤ B) (hz : z.natAbs ≤ C) : (x * y * z).natAbs ≤ A * B * C := by
  rw [Int.natAbs_mul, Int.natAbs_mul]
  exact Nat.mul_le_mul (Nat.mul_le_mul hx hy) hz
theorem nbk2 {x : Int} {A : Nat} (hx : x.natAbs ≤ A) : (2 * x).natAbs ≤ 2 * A := by omega
theorem nbk3 {x : Int} {A : Nat} (hx : x.natAbs ≤ A) : (3 * x).natAbs ≤ 3 * A := by omega
theorem nadd {x y : Int} {A B : Nat} (hx : x.natAbs ≤ A) (hy : y.natAbs ≤ B) : (x + y).natAbs ≤ A + B := by omega
theorem nsub {x y : Int} {A B : Nat} (hx : x.natAbs ≤ A) (hy : y.natAbs ≤ B) : (x - y).natAbs ≤ A + B := by omega
theorem hz0_b {a000 a100 a200 a110 a210 a220 a111 a211 a221 a222 : Int} (ha000 : a000.natAbs ≤ 1372) (ha100 : a100.natAbs ≤ 1372) (ha200 : a200.natAbs ≤ 1372) (ha110 : a110.natAbs ≤ 2744) (ha210 : a210.natAbs ≤ 1372) (ha220 : a220.natAbs ≤ 1372) (ha111 : a111.natAbs ≤ 4116) (ha211 : a211.natAbs ≤ 2744) (ha221 : a221.natAbs ≤ 1372) (ha222 : a222.natAbs ≤ 1372) : (hz0 a000 a100 a200 a110 a210 a220 a111 a211 a221 a222).natAbs < 2 ^ 42 := by
  unfold hz0
  exact Nat.lt_of_le_of_lt (nsub (nadd (nsub (nsub (nb3 ha000 ha110 ha220) (nb3 ha000 ha210 ha210)) (nb3 ha100 ha100 ha220)) (nb3 (nbk2 ha100) ha200 ha210)) (nb3 ha110 ha200 ha200)) (by decide)
theorem hz1_b {a000 a100 a200 a110 a210 a220 a111 a211 a221 a222 : Int} (ha000 : a000.natAbs ≤ 1372) (ha100 : a100.natAbs ≤ 1372) (ha200 : a200.natAbs ≤ 1372) (ha110 : a110.natAbs ≤ 2744) (ha210 : a210.natAbs ≤ 1372) (ha220 : a220.natAbs ≤ 1372) (ha111 : a111.natAbs ≤ 4116) (ha211 : a211.natAbs ≤ 2744) (ha221 : a221.natAbs ≤ 1372) (ha222 : a222.natAbs ≤ 1372) : (hz1 a000 a100 a200 a110 a210 a220 a111 a211 a221 a222).natAbs < 2 ^ 42 := by
  unfold hz1
  exact Nat.lt_of_le_of_lt (nsub (nadd (nadd (nsub (nsub (nsub (nadd (nb3 ha000 ha110 ha221) (nb3 ha000 ha111 ha220)) (nb3 (nbk2 ha000) ha210 ha211)) (nb3 ha100 ha100 ha221)) (nb3 ha100 ha110 ha220)) (nb3 (nbk2 ha100) ha200 ha211)) (nb3 ha100 ha210 ha210)) (nb3 ha111 ha200 ha200)) (by decide)
theorem hz2_b {a000 a100 a200 a110 a210 a220 a111 a211 a221 a222 : Int} (ha000 : a000.natAbs ≤ 1372) (ha100 : a100.natAbs ≤ 1372) (ha200 : a200.natAbs ≤ 1372) (ha110 : a110.natAbs ≤ 2744) (ha210 : a210.natAbs ≤ 1372) (ha220 : a220.natAbs ≤ 1372) (ha111 : a111.natAbs ≤ 4116) (ha211 : a211.natAbs ≤ 2744) (ha221 : a221.natAbs ≤ 1372) (ha222 : a222.natAbs ≤ 1372) : (hz2 a000 a100 a200 a110 a210 a220 a111 a211 a221 a222).natAbs < 2 ^ 42 := by
  unfold hz2
  exact Nat.lt_of_le_of_lt (nadd (nsub (nsub (nadd (nsub (nadd (nsub (nadd (nadd (nsub (nsub (nadd (nsub (nsub (nadd (nb3 ha000 ha110 ha222) (nb3 ha000 ha111 ha221)) (nb3 (nbk2 ha000) ha210 ha221)) (nb3 ha000 ha211 ha211)) (nb3 ha000 ha211 ha220)) (nb3 ha100 ha100 ha222)) (nb3 ha100 ha110 ha221)) (nb3 ha100 ha111 ha220)) (nb3 (nbk2 ha100) ha200 ha221)) (nb3 ha110 ha110 ha220)) (nb3 (nbk2 ha110) ha200 ha211)) (nb3 ha110 ha200 ha220)) (nb3 ha110 ha210 ha210)) (nb3 (nbk2 ha111) ha200 ha210)) (nb3 ha200 ha200 ha211)) (nb3 ha200 ha210 ha210)) (by decide)
theorem hz3_b {a000 a100 a200 a110 a210 a220 a111 a211 a221 a222 : Int} (ha000 : a000.natAbs ≤ 1372) (ha100 : a100.natAbs ≤ 1372) (ha200 : a200.natAbs ≤ 1372) (ha110 : a110.natAbs ≤ 2744) (ha210 : a210.natAbs ≤ 1372) (ha220 : a220.natAbs ≤ 1372) (ha111 : a111.natAbs ≤ 4116) (ha211 : a211.natAbs ≤ 2744) (ha221 : a221.natAbs ≤ 1372) (ha222 : a222.natAbs ≤ 1372) : (hz3 a000 a100 a200 a110 a210 a220 a111 a211 a221 a222).natAbs < 2 ^ 42 := by
  unfold hz3
  exact Nat.lt_of_le_of_lt (nadd (nsub (nsub (nsub (nsub (nadd (nadd (nsub (nadd (nsub (nsub (nadd (nsub (nsub (nb3 ha000 ha111 ha222) (nb3 ha000 ha211 ha221)) (nb3 ha100 ha110 ha222)) (nb3 ha100 ha111 ha221)) (nb3 (nbk2 ha100) ha210 ha221)) (nb3 ha100 ha211 ha211)) (nb3 (nbk3 ha100) ha211 ha220)) (nb3 ha110 ha110 ha221)) (nb3 (nbk3 ha110) ha200 ha221)) (nb3 (nbk2 ha110) ha210 ha211)) (nb3 (nbk2 ha110) ha210 ha220)) (nb3 ha111 ha200 ha220)) (nb3 ha111 ha210 ha210)) (nb3 (nbk2 ha200) ha210 ha211)) (nb3 (nbk2 ha210) ha210 ha210)) (by decide)
theorem hP_b {X Y W : Nat → Int} (h : bP X Y W) (k : Nat) (hk : k < 4) : (hP k X Y W).natAbs < 2 ^ 42 := by
  have b012 := h 0 1 2 (by decide) (by decide) (by decide)
  have b013 := h 0 1 3 (by decide) (by decide) (by decide)
  have b014 := h 0 1 4 (by decide) (by decide) (by decide)
  have b023 := h 0 2 3 (by decide) (by decide) (by decide)
  have b024 := h 0 2 4 (by decide) (by decide) (by decide)
  have b034 := h 0 3 4 (by decide) (by decide) (by decide)
  have b123 := h 1 2 3 (by decide) (by decide) (by decide)
  have b124 := h 1 2 4 (by decide) (by decide) (by decide)
  have b134 := h 1 3 4 (by decide) (by decide) (by decide)
  have b234 := h 2 3 4 (by decide) (by decide) (by decide)
  have c1 : (d3 X Y W 0 1 4 + d3 X Y W 0 2 3).natAbs ≤ 2744 := by omega
  have c2 : (2 * d3 X Y W 0 2 4 + d3 X Y W 1 2 3).natAbs ≤ 4116 := by omega
  have c3 : (d3 X Y W 0 3 4 + d3 X Y W 1 2 4).natAbs ≤ 2744 := by omega
  match k, hk with
  | 0, _ => exact hz0_b b012 b013 b014 c1 b024 b034 c2 c3 b134 b234
  | 1, _ => exact hz1_b b012 b013 b014 c1 b024 b034 c2 c3 b134 b234
  | 2, _ => exact hz2_b b012 b013 b014 c1 b024 b034 c2 c3 b134 b234
  | 3, _ => exact hz3_b b012 b013 b014 c1 b024 b034 c2 c3 b134 b234
theorem cE_odd {e : Nat → Int} (he : ∃ i, i < 6 ∧ e i % 2 = 1) : ∃ x y w : Int, cE e x y w % 2 = 1 := by
  have v1 : cE e 1 0 0 = e 0 := by unfold cE; grind
  have v2 : cE e 0 1 0 = e 2 := by unfold cE; grind
  have v3 : cE e 0 0 1 = e 5 := by unfold cE; grind
  have v4 : cE e 1 1 0 = e 0 + e 1 + e 2 := by unfold cE; grind
  have v5 : cE e 1 0 1 = e 0 + e 3 + e 5 := by unfold cE; grind
  have v6 : cE e 0 1 1 = e 2 + e 4 + e 5 := by unfold cE; grind
  by_cases q1 : e 0 % 2 = 1
  · exact ⟨1, 0, 0, by rw [v1]; exact q1⟩
  by_cases q2 : e 2 % 2 = 1
  · exact ⟨0, 1, 0, by rw [v2]; exact q2⟩
  by_cases q3 : e 5 % 2 = 1
  · exact ⟨0, 0, 1, by rw [v3]; exact q3⟩
  obtain ⟨i, hi, ho⟩ := he
  match i, hi, ho with
  | 0, _, ho => exact absurd ho q1
  | 1, _, ho => exact ⟨1, 1, 0, by rw [v4]; omega⟩
  | 2, _, ho => exact absurd ho q2
  | 3, _, ho => exact ⟨1, 0, 1, by rw [v5]; omega⟩
  | 4, _, ho => exact ⟨0, 1, 1, by rw [v6]; omega⟩
  | 5, _, ho => exact absurd ho q3
theorem SQ_cont {X Y W e G : Nat → Int} {c : Int} {N : Nat} (h : SQ X Y W e G c) (he : ∃ i, i < 6 ∧ e i % 2 = 1) (hF : ∀ x y w : Int, (2 ^ N : Int) ∣ FF X Y W x y w) : (2 ^ N : Int) ∣ c := by
  obtain ⟨x, y, w, ho⟩ := cE_odd he
  have h1 := hF x y w
  rw [h x y w, Int.mul_comm] at h1
  refine odd_cancel ?_ N c h1
  have h2 : (cE e x y w * cE e x y w) % 2 = 1 := by rw [Int.mul_emod, ho]; rfl
  have h3 : (2 : Int) ^ 64 * qg G x y w = 2 * (2 ^ 63 * qg G x y w) := by grind
  rw [h3]
  omega
/-- a content of the eliminant that is larger than the curve's own: it meets itself everywhere -/
theorem near_h {X Y W e G : Nat → Int} {c : Int} {κ : Nat} (h : SQ X Y W e G c) (hc : c ≠ 0) (he : ∃ i, i < 6 ∧ e i % 2 = 1) (hF : ∀ x y w : Int, (2 ^ (4 * κ + 10) : Int) ∣ FF X Y W x y w) (hd : ∃ v1 v2 v3 : Int, ¬ ∀ j, (2 ^ (κ + 2) : Int) ∣ gd (dL X Y W v1 v2 v3) j) (i : Nat) : (2 ^ 42 : Int) ∣ gd (hL X Y W) i := by
  obtain ⟨v1, v2, v3, hv⟩ := hd
  have hcc := SQ_cont h he hF
  refine pw_le_dvd (j := 43 + 4 * κ - (κ + 1)) (by omega) (gauss3 (A := 43 + 4 * κ) (B := κ + 1) (by omega) hv (fun i => ?_) i)
  refine Int.dvd_trans ?_ (star h hc v1 v2 v3 i)
  rw [show 43 + 4 * κ = 33 + (4 * κ + 10) by omega]
  exact dvd_mul2 ⟨1, by rw [Int.mul_one]⟩ hcc
