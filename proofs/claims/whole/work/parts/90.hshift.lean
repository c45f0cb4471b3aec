theorem hz0_sf (a000 a100 a200 a110 a210 a220 a111 a211 a221 a222 : Int) : hz0 (a000 + 3 * a100 + 3 * a200 + 3 * a110 + 6 * a210 + 3 * a220 + a111 + 3 * a211 + 3 * a221 + a222) (a100 + 2 * a110 + 6 * a210 + a111 + 4 * a211 + 5 * a221 + 2 * a200 + 4 * a220 + 2 * a222) (a200 + 2 * a210 + 2 * a220 + a211 + 2 * a221 + a222) (a110 + a111 + 5 * a211 + 4 * a210 + 8 * a221 + 4 * a220 + 4 * a222) (a210 + a211 + 3 * a221 + 2 * a220 + 2 * a222) (a220 + a221 + a222) (a111 + 6 * a211 + 12 * a221 + 8 * a222) (a211 + 4 * a221 + 4 * a222) (a221 + 2 * a222) (a222) = hz0 a000 a100 a200 a110 a210 a220 a111 a211 a221 a222 + hz1 a000 a100 a200 a110 a210 a220 a111 a211 a221 a222 + hz2 a000 a100 a200 a110 a210 a220 a111 a211 a221 a222 + hz3 a000 a100 a200 a110 a210 a220 a111 a211 a221 a222 + hz4 a000 a100 a200 a110 a210 a220 a111 a211 a221 a222 + hz5 a000 a100 a200 a110 a210 a220 a111 a211 a221 a222 + hz6 a000 a100 a200 a110 a210 a220 a111 a211 a221 a222 := by
  unfold hz0 hz1 hz2 hz3 hz4 hz5 hz6
  grind
theorem hz1_sf (a000 a100 a200 a110 a210 a220 a111 a211 a221 a222 : Int) : hz1 (a000 + 3 * a100 + 3 * a200 + 3 * a110 + 6 * a210 + 3 * a220 + a111 + 3 * a211 + 3 * a221 + a222) (a100 + 2 * a110 + 6 * a210 + a111 + 4 * a211 + 5 * a221 + 2 * a200 + 4 * a220 + 2 * a222) (a200 + 2 * a210 + 2 * a220 + a211 + 2 * a221 + a222) (a110 + a111 + 5 * a211 + 4 * a210 + 8 * a221 + 4 * a220 + 4 * a222) (a210 + a211 + 3 * a221 + 2 * a220 + 2 * a222) (a220 + a221 + a222) (a111 + 6 * a211 + 12 * a221 + 8 * a222) (a211 + 4 * a221 + 4 * a222) (a221 + 2 * a222) (a222) = hz1 a000 a100 a200 a110 a210 a220 a111 a211 a221 a222 + 2 * hz2 a000 a100 a200 a110 a210 a220 a111 a211 a221 a222 + 3 * hz3 a000 a100 a200 a110 a210 a220 a111 a211 a221 a222 + 4 * hz4 a000 a100 a200 a110 a210 a220 a111 a211 a221 a222 + 5 * hz5 a000 a100 a200 a110 a210 a220 a111 a211 a221 a222 + 6 * hz6 a000 a100 a200 a110 a210 a220 a111 a211 a221 a222 := by
  unfold hz1 hz2 hz3 hz4 hz5 hz6
  grind
theorem hz2_sf (a000 a100 a200 a110 a210 a220 a111 a211 a221 a222 : Int) : hz2 (a000 + 3 * a100 + 3 * a200 + 3 * a110 + 6 * a210 + 3 * a220 + a111 + 3 * a211 + 3 * a221 + a222) (a100 + 2 * a110 + 6 * a210 + a111 + 4 * a211 + 5 * a221 + 2 * a200 + 4 * a220 + 2 * a222) (a200 + 2 * a210 + 2 * a220 + a211 + 2 * a221 + a222) (a110 + a111 + 5 * a211 + 4 * a210 + 8 * a221 + 4 * a220 + 4 * a222) (a210 + a211 + 3 * a221 + 2 * a220 + 2 * a222) (a220 + a221 + a222) (a111 + 6 * a211 + 12 * a221 + 8 * a222) (a211 + 4 * a221 + 4 * a222) (a221 + 2 * a222) (a222) = hz2 a000 a100 a200 a110 a210 a220 a111 a211 a221 a222 + 3 * hz3 a000 a100 a200 a110 a210 a220 a111 a211 a221 a222 + 6 * hz4 a000 a100 a200 a110 a210 a220 a111 a211 a221 a222 + 10 * hz5 a000 a100 a200 a110 a210 a220 a111 a211 a221 a222 + 15 * hz6 a000 a100 a200 a110 a210 a220 a111 a211 a221 a222 := by
  unfold hz2 hz3 hz4 hz5 hz6
  grind
theorem hz3_sf (a000 a100 a200 a110 a210 a220 a111 a211 a221 a222 : Int) : hz3 (a000 + 3 * a100 + 3 * a200 + 3 * a110 + 6 * a210 + 3 * a220 + a111 + 3 * a211 + 3 * a221 + a222) (a100 + 2 * a110 + 6 * a210 + a111 + 4 * a211 + 5 * a221 + 2 * a200 + 4 * a220 + 2 * a222) (a200 + 2 * a210 + 2 * a220 + a211 + 2 * a221 + a222) (a110 + a111 + 5 * a211 + 4 * a210 + 8 * a221 + 4 * a220 + 4 * a222) (a210 + a211 + 3 * a221 + 2 * a220 + 2 * a222) (a220 + a221 + a222) (a111 + 6 * a211 + 12 * a221 + 8 * a222) (a211 + 4 * a221 + 4 * a222) (a221 + 2 * a222) (a222) = hz3 a000 a100 a200 a110 a210 a220 a111 a211 a221 a222 + 4 * hz4 a000 a100 a200 a110 a210 a220 a111 a211 a221 a222 + 10 * hz5 a000 a100 a200 a110 a210 a220 a111 a211 a221 a222 + 20 * hz6 a000 a100 a200 a110 a210 a220 a111 a211 a221 a222 := by
  unfold hz3 hz4 hz5 hz6
  grind
theorem d3_sf012 (X Y W : Nat → Int) : d3 (sf X) (sf Y) (sf W) 0 1 2 = d3 X Y W 0 1 2 + 3 * d3 X Y W 0 1 3 + 6 * d3 X Y W 0 1 4 + 3 * d3 X Y W 0 2 3 + 8 * d3 X Y W 0 2 4 + 6 * d3 X Y W 0 3 4 + d3 X Y W 1 2 3 + 3 * d3 X Y W 1 2 4 + 3 * d3 X Y W 1 3 4 + d3 X Y W 2 3 4 := by
  simp only [d3, sf]
  grind
theorem d3_sf013 (X Y W : Nat → Int) : d3 (sf X) (sf Y) (sf W) 0 1 3 = d3 X Y W 0 1 3 + 4 * d3 X Y W 0 1 4 + 2 * d3 X Y W 0 2 3 + 8 * d3 X Y W 0 2 4 + 8 * d3 X Y W 0 3 4 + d3 X Y W 1 2 3 + 4 * d3 X Y W 1 2 4 + 5 * d3 X Y W 1 3 4 + 2 * d3 X Y W 2 3 4 := by
  simp only [d3, sf]
  grind
theorem d3_sf014 (X Y W : Nat → Int) : d3 (sf X) (sf Y) (sf W) 0 1 4 = d3 X Y W 0 1 4 + 2 * d3 X Y W 0 2 4 + 3 * d3 X Y W 0 3 4 + d3 X Y W 1 2 4 + 2 * d3 X Y W 1 3 4 + d3 X Y W 2 3 4 := by
  simp only [d3, sf]
  grind
theorem d3_sf023 (X Y W : Nat → Int) : d3 (sf X) (sf Y) (sf W) 0 2 3 = d3 X Y W 0 2 3 + 4 * d3 X Y W 0 2 4 + 6 * d3 X Y W 0 3 4 + d3 X Y W 1 2 3 + 4 * d3 X Y W 1 2 4 + 6 * d3 X Y W 1 3 4 + 3 * d3 X Y W 2 3 4 := by
  simp only [d3, sf]
  grind
theorem d3_sf024 (X Y W : Nat → Int) : d3 (sf X) (sf Y) (sf W) 0 2 4 = d3 X Y W 0 2 4 + 3 * d3 X Y W 0 3 4 + d3 X Y W 1 2 4 + 3 * d3 X Y W 1 3 4 + 2 * d3 X Y W 2 3 4 := by
  simp only [d3, sf]
  grind
theorem d3_sf034 (X Y W : Nat → Int) : d3 (sf X) (sf Y) (sf W) 0 3 4 = d3 X Y W 0 3 4 + d3 X Y W 1 3 4 + d3 X Y W 2 3 4 := by
  simp only [d3, sf]
  grind
theorem d3_sf123 (X Y W : Nat → Int) : d3 (sf X) (sf Y) (sf W) 1 2 3 = d3 X Y W 1 2 3 + 4 * d3 X Y W 1 2 4 + 6 * d3 X Y W 1 3 4 + 4 * d3 X Y W 2 3 4 := by
  simp only [d3, sf]
  grind
theorem d3_sf124 (X Y W : Nat → Int) : d3 (sf X) (sf Y) (sf W) 1 2 4 = d3 X Y W 1 2 4 + 3 * d3 X Y W 1 3 4 + 3 * d3 X Y W 2 3 4 := by
  simp only [d3, sf]
  grind
theorem d3_sf134 (X Y W : Nat → Int) : d3 (sf X) (sf Y) (sf W) 1 3 4 = d3 X Y W 1 3 4 + 2 * d3 X Y W 2 3 4 := by
  simp only [d3, sf]
  grind
theorem d3_sf234 (X Y W : Nat → Int) : d3 (sf X) (sf Y) (sf W) 2 3 4 = d3 X Y W 2 3 4 := by
  simp only [d3, sf]
  grind
theorem hP0_sf {X Y W : Nat → Int} (h : ∀ k, k < 7 → hP k X Y W = 0) : hP 0 (sf X) (sf Y) (sf W) = 0 := by
  show hz0 (d3 (sf X) (sf Y) (sf W) 0 1 2) (d3 (sf X) (sf Y) (sf W) 0 1 3) (d3 (sf X) (sf Y) (sf W) 0 1 4) (d3 (sf X) (sf Y) (sf W) 0 1 4 + d3 (sf X) (sf Y) (sf W) 0 2 3) (d3 (sf X) (sf Y) (sf W) 0 2 4) (d3 (sf X) (sf Y) (sf W) 0 3 4) (2 * d3 (sf X) (sf Y) (sf W) 0 2 4 + d3 (sf X) (sf Y) (sf W) 1 2 3) (d3 (sf X) (sf Y) (sf W) 0 3 4 + d3 (sf X) (sf Y) (sf W) 1 2 4) (d3 (sf X) (sf Y) (sf W) 1 3 4) (d3 (sf X) (sf Y) (sf W) 2 3 4) = 0
  have q := hz0_sf (d3 X Y W 0 1 2) (d3 X Y W 0 1 3) (d3 X Y W 0 1 4) (d3 X Y W 0 1 4 + d3 X Y W 0 2 3) (d3 X Y W 0 2 4) (d3 X Y W 0 3 4) (2 * d3 X Y W 0 2 4 + d3 X Y W 1 2 3) (d3 X Y W 0 3 4 + d3 X Y W 1 2 4) (d3 X Y W 1 3 4) (d3 X Y W 2 3 4)
  have h0 : hz0 (d3 X Y W 0 1 2) (d3 X Y W 0 1 3) (d3 X Y W 0 1 4) (d3 X Y W 0 1 4 + d3 X Y W 0 2 3) (d3 X Y W 0 2 4) (d3 X Y W 0 3 4) (2 * d3 X Y W 0 2 4 + d3 X Y W 1 2 3) (d3 X Y W 0 3 4 + d3 X Y W 1 2 4) (d3 X Y W 1 3 4) (d3 X Y W 2 3 4) = 0 := h 0 (by decide)
  have h1 : hz1 (d3 X Y W 0 1 2) (d3 X Y W 0 1 3) (d3 X Y W 0 1 4) (d3 X Y W 0 1 4 + d3 X Y W 0 2 3) (d3 X Y W 0 2 4) (d3 X Y W 0 3 4) (2 * d3 X Y W 0 2 4 + d3 X Y W 1 2 3) (d3 X Y W 0 3 4 + d3 X Y W 1 2 4) (d3 X Y W 1 3 4) (d3 X Y W 2 3 4) = 0 := h 1 (by decide)
  have h2 : hz2 (d3 X Y W 0 1 2) (d3 X Y W 0 1 3) (d3 X Y W 0 1 4) (d3 X Y W 0 1 4 + d3 X Y W 0 2 3) (d3 X Y W 0 2 4) (d3 X Y W 0 3 4) (2 * d3 X Y W 0 2 4 + d3 X Y W 1 2 3) (d3 X Y W 0 3 4 + d3 X Y W 1 2 4) (d3 X Y W 1 3 4) (d3 X Y W 2 3 4) = 0 := h 2 (by decide)
  have h3 : hz3 (d3 X Y W 0 1 2) (d3 X Y W 0 1 3) (d3 X Y W 0 1 4) (d3 X Y W 0 1 4 + d3 X Y W 0 2 3) (d3 X Y W 0 2 4) (d3 X Y W 0 3 4) (2 * d3 X Y W 0 2 4 + d3 X Y W 1 2 3) (d3 X Y W 0 3 4 + d3 X Y W 1 2 4) (d3 X Y W 1 3 4) (d3 X Y W 2 3 4) = 0 := h 3 (by decide)
  have h4 : hz4 (d3 X Y W 0 1 2) (d3 X Y W 0 1 3) (d3 X Y W 0 1 4) (d3 X Y W 0 1 4 + d3 X Y W 0 2 3) (d3 X Y W 0 2 4) (d3 X Y W 0 3 4) (2 * d3 X Y W 0 2 4 + d3 X Y W 1 2 3) (d3 X Y W 0 3 4 + d3 X Y W 1 2 4) (d3 X Y W 1 3 4) (d3 X Y W 2 3 4) = 0 := h 4 (by decide)
  have h5 : hz5 (d3 X Y W 0 1 2) (d3 X Y W 0 1 3) (d3 X Y W 0 1 4) (d3 X Y W 0 1 4 + d3 X Y W 0 2 3) (d3 X Y W 0 2 4) (d3 X Y W 0 3 4) (2 * d3 X Y W 0 2 4 + d3 X Y W 1 2 3) (d3 X Y W 0 3 4 + d3 X Y W 1 2 4) (d3 X Y W 1 3 4) (d3 X Y W 2 3 4) = 0 := h 5 (by decide)
  have h6 : hz6 (d3 X Y W 0 1 2) (d3 X Y W 0 1 3) (d3 X Y W 0 1 4) (d3 X Y W 0 1 4 + d3 X Y W 0 2 3) (d3 X Y W 0 2 4) (d3 X Y W 0 3 4) (2 * d3 X Y W 0 2 4 + d3 X Y W 1 2 3) (d3 X Y W 0 3 4 + d3 X Y W 1 2 4) (d3 X Y W 1 3 4) (d3 X Y W 2 3 4) = 0 := h 6 (by decide)
  rw [h0, h1, h2, h3, h4, h5, h6] at q
  rw [d3_sf012, d3_sf013, d3_sf014, d3_sf023, d3_sf024, d3_sf034, d3_sf123, d3_sf124, d3_sf134, d3_sf234]
  refine Eq.trans ?_ (q.trans (by decide))
  congr 1 <;> omega
theorem hP1_sf {X Y W : Nat → Int} (h : ∀ k, k < 7 → hP k X Y W = 0) : hP 1 (sf X) (sf Y) (sf W) = 0 := by
  show hz1 (d3 (sf X) (sf Y) (sf W) 0 1 2) (d3 (sf X) (sf Y) (sf W) 0 1 3) (d3 (sf X) (sf Y) (sf W) 0 1 4) (d3 (sf X) (sf Y) (sf W) 0 1 4 + d3 (sf X) (sf Y) (sf W) 0 2 3) (d3 (sf X) (sf Y) (sf W) 0 2 4) (d3 (sf X) (sf Y) (sf W) 0 3 4) (2 * d3 (sf X) (sf Y) (sf W) 0 2 4 + d3 (sf X) (sf Y) (sf W) 1 2 3) (d3 (sf X) (sf Y) (sf W) 0 3 4 + d3 (sf X) (sf Y) (sf W) 1 2 4) (d3 (sf X) (sf Y) (sf W) 1 3 4) (d3 (sf X) (sf Y) (sf W) 2 3 4) = 0
  have q := hz1_sf (d3 X Y W 0 1 2) (d3 X Y W 0 1 3) (d3 X Y W 0 1 4) (d3 X Y W 0 1 4 + d3 X Y W 0 2 3) (d3 X Y W 0 2 4) (d3 X Y W 0 3 4) (2 * d3 X Y W 0 2 4 + d3 X Y W 1 2 3) (d3 X Y W 0 3 4 + d3 X Y W 1 2 4) (d3 X Y W 1 3 4) (d3 X Y W 2 3 4)
  have h0 : hz0 (d3 X Y W 0 1 2) (d3 X Y W 0 1 3) (d3 X Y W 0 1 4) (d3 X Y W 0 1 4 + d3 X Y W 0 2 3) (d3 X Y W 0 2 4) (d3 X Y W 0 3 4) (2 * d3 X Y W 0 2 4 + d3 X Y W 1 2 3) (d3 X Y W 0 3 4 + d3 X Y W 1 2 4) (d3 X Y W 1 3 4) (d3 X Y W 2 3 4) = 0 := h 0 (by decide)
  have h1 : hz1 (d3 X Y W 0 1 2) (d3 X Y W 0 1 3) (d3 X Y W 0 1 4) (d3 X Y W 0 1 4 + d3 X Y W 0 2 3) (d3 X Y W 0 2 4) (d3 X Y W 0 3 4) (2 * d3 X Y W 0 2 4 + d3 X Y W 1 2 3) (d3 X Y W 0 3 4 + d3 X Y W 1 2 4) (d3 X Y W 1 3 4) (d3 X Y W 2 3 4) = 0 := h 1 (by decide)
  have h2 : hz2 (d3 X Y W 0 1 2) (d3 X Y W 0 1 3) (d3 X Y W 0 1 4) (d3 X Y W 0 1 4 + d3 X Y W 0 2 3) (d3 X Y W 0 2 4) (d3 X Y W 0 3 4) (2 * d3 X Y W 0 2 4 + d3 X Y W 1 2 3) (d3 X Y W 0 3 4 + d3 X Y W 1 2 4) (d3 X Y W 1 3 4) (d3 X Y W 2 3 4) = 0 := h 2 (by decide)
  have h3 : hz3 (d3 X Y W 0 1 2) (d3 X Y W 0 1 3) (d3 X Y W 0 1 4) (d3 X Y W 0 1 4 + d3 X Y W 0 2 3) (d3 X Y W 0 2 4) (d3 X Y W 0 3 4) (2 * d3 X Y W 0 2 4 + d3 X Y W 1 2 3) (d3 X Y W 0 3 4 + d3 X Y W 1 2 4) (d3 X Y W 1 3 4) (d3 X Y W 2 3 4) = 0 := h 3 (by decide)
  have h4 : hz4 (d3 X Y W 0 1 2) (d3 X Y W 0 1 3) (d3 X Y W 0 1 4) (d3 X Y W 0 1 4 + d3 X Y W 0 2 3) (d3 X Y W 0 2 4) (d3 X Y W 0 3 4) (2 * d3 X Y W 0 2 4 + d3 X Y W 1 2 3) (d3 X Y W 0 3 4 + d3 X Y W 1 2 4) (d3 X Y W 1 3 4) (d3 X Y W 2 3 4) = 0 := h 4 (by decide)
  have h5 : hz5 (d3 X Y W 0 1 2) (d3 X Y W 0 1 3) (d3 X Y W 0 1 4) (d3 X Y W 0 1 4 + d3 X Y W 0 2 3) (d3 X Y W 0 2 4) (d3 X Y W 0 3 4) (2 * d3 X Y W 0 2 4 + d3 X Y W 1 2 3) (d3 X Y W 0 3 4 + d3 X Y W 1 2 4) (d3 X Y W 1 3 4) (d3 X Y W 2 3 4) = 0 := h 5 (by decide)
  have h6 : hz6 (d3 X Y W 0 1 2) (d3 X Y W 0 1 3) (d3 X Y W 0 1 4) (d3 X Y W 0 1 4 + d3 X Y W 0 2 3) (d3 X Y W 0 2 4) (d3 X Y W 0 3 4) (2 * d3 X Y W 0 2 4 + d3 X Y W 1 2 3) (d3 X Y W 0 3 4 + d3 X Y W 1 2 4) (d3 X Y W 1 3 4) (d3 X Y W 2 3 4) = 0 := h 6 (by decide)
  rw [h1, h2, h3, h4, h5, h6] at q
  rw [d3_sf012, d3_sf013, d3_sf014, d3_sf023, d3_sf024, d3_sf034, d3_sf123, d3_sf124, d3_sf134, d3_sf234]
  refine Eq.trans ?_ (q.trans (by decide))
  congr 1 <;> omega
theorem hP2_sf {X Y W : Nat → Int} (h : ∀ k, k < 7 → hP k X Y W = 0) : hP 2 (sf X) (sf Y) (sf W) = 0 := by
  show hz2 (d3 (sf X) (sf Y) (sf W) 0 1 2) (d3 (sf X) (sf Y) (sf W) 0 1 3) (d3 (sf X) (sf Y) (sf W) 0 1 4) (d3 (sf X) (sf Y) (sf W) 0 1 4 + d3 (sf X) (sf Y) (sf W) 0 2 3) (d3 (sf X) (sf Y) (sf W) 0 2 4) (d3 (sf X) (sf Y) (sf W) 0 3 4) (2 * d3 (sf X) (sf Y) (sf W) 0 2 4 + d3 (sf X) (sf Y) (sf W) 1 2 3) (d3 (sf X) (sf Y) (sf W) 0 3 4 + d3 (sf X) (sf Y) (sf W) 1 2 4) (d3 (sf X) (sf Y) (sf W) 1 3 4) (d3 (sf X) (sf Y) (sf W) 2 3 4) = 0
  have q := hz2_sf (d3 X Y W 0 1 2) (d3 X Y W 0 1 3) (d3 X Y W 0 1 4) (d3 X Y W 0 1 4 + d3 X Y W 0 2 3) (d3 X Y W 0 2 4) (d3 X Y W 0 3 4) (2 * d3 X Y W 0 2 4 + d3 X Y W 1 2 3) (d3 X Y W 0 3 4 + d3 X Y W 1 2 4) (d3 X Y W 1 3 4) (d3 X Y W 2 3 4)
  have h0 : hz0 (d3 X Y W 0 1 2) (d3 X Y W 0 1 3) (d3 X Y W 0 1 4) (d3 X Y W 0 1 4 + d3 X Y W 0 2 3) (d3 X Y W 0 2 4) (d3 X Y W 0 3 4) (2 * d3 X Y W 0 2 4 + d3 X Y W 1 2 3) (d3 X Y W 0 3 4 + d3 X Y W 1 2 4) (d3 X Y W 1 3 4) (d3 X Y W 2 3 4) = 0 := h 0 (by decide)
  have h1 : hz1 (d3 X Y W 0 1 2) (d3 X Y W 0 1 3) (d3 X Y W 0 1 4) (d3 X Y W 0 1 4 + d3 X Y W 0 2 3) (d3 X Y W 0 2 4) (d3 X Y W 0 3 4) (2 * d3 X Y W 0 2 4 + d3 X Y W 1 2 3) (d3 X Y W 0 3 4 + d3 X Y W 1 2 4) (d3 X Y W 1 3 4) (d3 X Y W 2 3 4) = 0 := h 1 (by decide)
  have h2 : hz2 (d3 X Y W 0 1 2) (d3 X Y W 0 1 3) (d3 X Y W 0 1 4) (d3 X Y W 0 1 4 + d3 X Y W 0 2 3) (d3 X Y W 0 2 4) (d3 X Y W 0 3 4) (2 * d3 X Y W 0 2 4 + d3 X Y W 1 2 3) (d3 X Y W 0 3 4 + d3 X Y W 1 2 4) (d3 X Y W 1 3 4) (d3 X Y W 2 3 4) = 0 := h 2 (by decide)
  have h3 : hz3 (d3 X Y W 0 1 2) (d3 X Y W 0 1 3) (d3 X Y W 0 1 4) (d3 X Y W 0 1 4 + d3 X Y W 0 2 3) (d3 X Y W 0 2 4) (d3 X Y W 0 3 4) (2 * d3 X Y W 0 2 4 + d3 X Y W 1 2 3) (d3 X Y W 0 3 4 + d3 X Y W 1 2 4) (d3 X Y W 1 3 4) (d3 X Y W 2 3 4) = 0 := h 3 (by decide)
  have h4 : hz4 (d3 X Y W 0 1 2) (d3 X Y W 0 1 3) (d3 X Y W 0 1 4) (d3 X Y W 0 1 4 + d3 X Y W 0 2 3) (d3 X Y W 0 2 4) (d3 X Y W 0 3 4) (2 * d3 X Y W 0 2 4 + d3 X Y W 1 2 3) (d3 X Y W 0 3 4 + d3 X Y W 1 2 4) (d3 X Y W 1 3 4) (d3 X Y W 2 3 4) = 0 := h 4 (by decide)
  have h5 : hz5 (d3 X Y W 0 1 2) (d3 X Y W 0 1 3) (d3 X Y W 0 1 4) (d3 X Y W 0 1 4 + d3 X Y W 0 2 3) (d3 X Y W 0 2 4) (d3 X Y W 0 3 4) (2 * d3 X Y W 0 2 4 + d3 X Y W 1 2 3) (d3 X Y W 0 3 4 + d3 X Y W 1 2 4) (d3 X Y W 1 3 4) (d3 X Y W 2 3 4) = 0 := h 5 (by decide)
  have h6 : hz6 (d3 X Y W 0 1 2) (d3 X Y W 0 1 3) (d3 X Y W 0 1 4) (d3 X Y W 0 1 4 + d3 X Y W 0 2 3) (d3 X Y W 0 2 4) (d3 X Y W 0 3 4) (2 * d3 X Y W 0 2 4 + d3 X Y W 1 2 3) (d3 X Y W 0 3 4 + d3 X Y W 1 2 4) (d3 X Y W 1 3 4) (d3 X Y W 2 3 4) = 0 := h 6 (by decide)
  rw [h2, h3, h4, h5, h6] at q
  rw [d3_sf012, d3_sf013, d3_sf014, d3_sf023, d3_sf024, d3_sf034, d3_sf123, d3_sf124, d3_sf134, d3_sf234]
  refine Eq.trans ?_ (q.trans (by decide))
  congr 1 <;> omega
theorem hP3_sf {X Y W : Nat → Int} (h : ∀ k, k < 7 → hP k X Y W = 0) : hP 3 (sf X) (sf Y) (sf W) = 0 := by
  show hz3 (d3 (sf X) (sf Y) (sf W) 0 1 2) (d3 (sf X) (sf Y) (sf W) 0 1 3) (d3 (sf X) (sf Y) (sf W) 0 1 4) (d3 (sf X) (sf Y) (sf W) 0 1 4 + d3 (sf X) (sf Y) (sf W) 0 2 3) (d3 (sf X) (sf Y) (sf W) 0 2 4) (d3 (sf X) (sf Y) (sf W) 0 3 4) (2 * d3 (sf X) (sf Y) (sf W) 0 2 4 + d3 (sf X) (sf Y) (sf W) 1 2 3) (d3 (sf X) (sf Y) (sf W) 0 3 4 + d3 (sf X) (sf Y) (sf W) 1 2 4) (d3 (sf X) (sf Y) (sf W) 1 3 4) (d3 (sf X) (sf Y) (sf W) 2 3 4) = 0
  have q := hz3_sf (d3 X Y W 0 1 2) (d3 X Y W 0 1 3) (d3 X Y W 0 1 4) (d3 X Y W 0 1 4 + d3 X Y W 0 2 3) (d3 X Y W 0 2 4) (d3 X Y W 0 3 4) (2 * d3 X Y W 0 2 4 + d3 X Y W 1 2 3) (d3 X Y W 0 3 4 + d3 X Y W 1 2 4) (d3 X Y W 1 3 4) (d3 X Y W 2 3 4)
  have h0 : hz0 (d3 X Y W 0 1 2) (d3 X Y W 0 1 3) (d3 X Y W 0 1 4) (d3 X Y W 0 1 4 + d3 X Y W 0 2 3) (d3 X Y W 0 2 4) (d3 X Y W 0 3 4) (2 * d3 X Y W 0 2 4 + d3 X Y W 1 2 3) (d3 X Y W 0 3 4 + d3 X Y W 1 2 4) (d3 X Y W 1 3 4) (d3 X Y W 2 3 4) = 0 := h 0 (by decide)
  have h1 : hz1 (d3 X Y W 0 1 2) (d3 X Y W 0 1 3) (d3 X Y W 0 1 4) (d3 X Y W 0 1 4 + d3 X Y W 0 2 3) (d3 X Y W 0 2 4) (d3 X Y W 0 3 4) (2 * d3 X Y W 0 2 4 + d3 X Y W 1 2 3) (d3 X Y W 0 3 4 + d3 X Y W 1 2 4) (d3 X Y W 1 3 4) (d3 X Y W 2 3 4) = 0 := h 1 (by decide)
  have h2 : hz2 (d3 X Y W 0 1 2) (d3 X Y W 0 1 3) (d3 X Y W 0 1 4) (d3 X Y W 0 1 4 + d3 X Y W 0 2 3) (d3 X Y W 0 2 4) (d3 X Y W 0 3 4) (2 * d3 X Y W 0 2 4 + d3 X Y W 1 2 3) (d3 X Y W 0 3 4 + d3 X Y W 1 2 4) (d3 X Y W 1 3 4) (d3 X Y W 2 3 4) = 0 := h 2 (by decide)
  have h3 : hz3 (d3 X Y W 0 1 2) (d3 X Y W 0 1 3) (d3 X Y W 0 1 4) (d3 X Y W 0 1 4 + d3 X Y W 0 2 3) (d3 X Y W 0 2 4) (d3 X Y W 0 3 4) (2 * d3 X Y W 0 2 4 + d3 X Y W 1 2 3) (d3 X Y W 0 3 4 + d3 X Y W 1 2 4) (d3 X Y W 1 3 4) (d3 X Y W 2 3 4) = 0 := h 3 (by decide)
  have h4 : hz4 (d3 X Y W 0 1 2) (d3 X Y W 0 1 3) (d3 X Y W 0 1 4) (d3 X Y W 0 1 4 + d3 X Y W 0 2 3) (d3 X Y W 0 2 4) (d3 X Y W 0 3 4) (2 * d3 X Y W 0 2 4 + d3 X Y W 1 2 3) (d3 X Y W 0 3 4 + d3 X Y W 1 2 4) (d3 X Y W 1 3 4) (d3 X Y W 2 3 4) = 0 := h 4 (by decide)
  have h5 : hz5 (d3 X Y W 0 1 2) (d3 X Y W 0 1 3) (d3 X Y W 0 1 4) (d3 X Y W 0 1 4 + d3 X Y W 0 2 3) (d3 X Y W 0 2 4) (d3 X Y W 0 3 4) (2 * d3 X Y W 0 2 4 + d3 X Y W 1 2 3) (d3 X Y W 0 3 4 + d3 X Y W 1 2 4) (d3 X Y W 1 3 4) (d3 X Y W 2 3 4) = 0 := h 5 (by decide)
  have h6 : hz6 (d3 X Y W 0 1 2) (d3 X Y W 0 1 3) (d3 X Y W 0 1 4) (d3 X Y W 0 1 4 + d3 X Y W 0 2 3) (d3 X Y W 0 2 4) (d3 X Y W 0 3 4) (2 * d3 X Y W 0 2 4 + d3 X Y W 1 2 3) (d3 X Y W 0 3 4 + d3 X Y W 1 2 4) (d3 X Y W 1 3 4) (d3 X Y W 2 3 4) = 0 := h 6 (by decide)
  rw [h3, h4, h5, h6] at q
  rw [d3_sf012, d3_sf013, d3_sf014, d3_sf023, d3_sf024, d3_sf034, d3_sf123, d3_sf124, d3_sf134, d3_sf234]
  refine Eq.trans ?_ (q.trans (by decide))
  congr 1 <;> omega
theorem hz4_b {a000 a100 a200 a110 a210 a220 a111 a211 a221 a222 : Int} (ha000 : a000.natAbs ≤ 1372) (ha100 : a100.natAbs ≤ 1372) (ha200 : a200.natAbs ≤ 1372) (ha110 : a110.natAbs ≤ 2744) (ha210 : a210.natAbs ≤ 1372) (ha220 : a220.natAbs ≤ 1372) (ha111 : a111.natAbs ≤ 4116) (ha211 : a211.natAbs ≤ 2744) (ha221 : a221.natAbs ≤ 1372) (ha222 : a222.natAbs ≤ 1372) : (hz4 a000 a100 a200 a110 a210 a220 a111 a211 a221 a222).natAbs < 2 ^ 42 := by
  unfold hz4
  exact Nat.lt_of_le_of_lt (nadd (nadd (nsub (nsub (nsub (nadd (nsub (nadd (nadd (nsub (nadd (nsub (nsub (nadd (nsub (nb3 ha000 ha211 ha222) (nb3 ha000 ha221 ha221)) (nb3 ha100 ha111 ha222)) (nb3 (nbk2 ha100) ha210 ha222)) (nb3 ha100 ha211 ha221)) (nb3 (nbk2 ha100) ha220 ha221)) (nb3 ha110 ha110 ha222)) (nb3 ha110 ha200 ha222)) (nb3 (nbk2 ha110) ha211 ha220)) (nb3 ha110 ha220 ha220)) (nb3 ha111 ha200 ha221)) (nb3 (nbk2 ha111) ha210 ha220)) (nb3 ha200 ha211 ha211)) (nb3 ha200 ha211 ha220)) (nb3 ha210 ha210 ha211)) (nb3 ha210 ha210 ha220)) (by decide)
theorem hz5_b {a000 a100 a200 a110 a210 a220 a111 a211 a221 a222 : Int} (ha000 : a000.natAbs ≤ 1372) (ha100 : a100.natAbs ≤ 1372) (ha200 : a200.natAbs ≤ 1372) (ha110 : a110.natAbs ≤ 2744) (ha210 : a210.natAbs ≤ 1372) (ha220 : a220.natAbs ≤ 1372) (ha111 : a111.natAbs ≤ 4116) (ha211 : a211.natAbs ≤ 2744) (ha221 : a221.natAbs ≤ 1372) (ha222 : a222.natAbs ≤ 1372) : (hz5 a000 a100 a200 a110 a210 a220 a111 a211 a221 a222).natAbs < 2 ^ 42 := by
  unfold hz5
  exact Nat.lt_of_le_of_lt (nadd (nsub (nsub (nadd (nadd (nsub (nsub (nb3 ha100 ha211 ha222) (nb3 ha100 ha221 ha221)) (nb3 (nbk2 ha110) ha210 ha222)) (nb3 (nbk2 ha110) ha220 ha221)) (nb3 ha111 ha200 ha222)) (nb3 ha111 ha220 ha220)) (nb3 ha200 ha211 ha221)) (nb3 ha210 ha210 ha221)) (by decide)
theorem hz6_b {a000 a100 a200 a110 a210 a220 a111 a211 a221 a222 : Int} (ha000 : a000.natAbs ≤ 1372) (ha100 : a100.natAbs ≤ 1372) (ha200 : a200.natAbs ≤ 1372) (ha110 : a110.natAbs ≤ 2744) (ha210 : a210.natAbs ≤ 1372) (ha220 : a220.natAbs ≤ 1372) (ha111 : a111.natAbs ≤ 4116) (ha211 : a211.natAbs ≤ 2744) (ha221 : a221.natAbs ≤ 1372) (ha222 : a222.natAbs ≤ 1372) : (hz6 a000 a100 a200 a110 a210 a220 a111 a211 a221 a222).natAbs < 2 ^ 42 := by
  unfold hz6
  exact Nat.lt_of_le_of_lt (nsub (nadd (nsub (nsub (nb3 ha200 ha211 ha222) (nb3 ha200 ha221 ha221)) (nb3 ha210 ha210 ha222)) (nb3 (nbk2 ha210) ha220 ha221)) (nb3 ha211 ha220 ha220)) (by decide)
theorem hP_b7 {X Y W : Nat → Int} (h : bP X Y W) (k : Nat) (hk : k < 7) : (hP k X Y W).natAbs < 2 ^ 42 := by
  have b012 := h 0 1 2 (by decide) (by decide) (by decide)
  have b013 := h 0 1 3 (by decide) (by decide) (by decide)
  have b014 := h 0 1 4 (by decide) (by decide) (by decide)
  have b023 := h 0 2 3 (by decide) (by decide) (by decide)
  have b024 := h 0 2 4 (by decide) (by decide) (by decide)
  have b034 := h 0 3 4 (by decide) (by decide) (by decide)
  have b123 := h 1 2 3 (by decide) (by decide) (by decide)
  have b124 := h 1 2 4 (by decide) (by decide) (by decide)
  have b134 := h 1 3 4 (by decide) (by decide) (by decide)
  have b234 := h 2 3 4 (by decide) (by decide) (by decide)
  have c1 : (d3 X Y W 0 1 4 + d3 X Y W 0 2 3).natAbs ≤ 2744 := by omega
  have c2 : (2 * d3 X Y W 0 2 4 + d3 X Y W 1 2 3).natAbs ≤ 4116 := by omega
  have c3 : (d3 X Y W 0 3 4 + d3 X Y W 1 2 4).natAbs ≤ 2744 := by omega
  match k, hk with
  | 0, _ => exact hz0_b b012 b013 b014 c1 b024 b034 c2 c3 b134 b234
  | 1, _ => exact hz1_b b012 b013 b014 c1 b024 b034 c2 c3 b134 b234
  | 2, _ => exact hz2_b b012 b013 b014 c1 b024 b034 c2 c3 b134 b234
  | 3, _ => exact hz3_b b012 b013 b014 c1 b024 b034 c2 c3 b134 b234
  | 4, _ => exact hz4_b b012 b013 b014 c1 b024 b034 c2 c3 b134 b234
  | 5, _ => exact hz5_b b012 b013 b014 c1 b024 b034 c2 c3 b134 b234
  | 6, _ => exact hz6_b b012 b013 b014 c1 b024 b034 c2 c3 b134 b234
theorem dL_sf {X Y W : Nat → Int} {n v1 v2 v3 : Int} (h : ∀ j, n ∣ gd (dL X Y W v1 v2 v3) j) (j : Nat) : n ∣ gd (dL (sf X) (sf Y) (sf W) v1 v2 v3) j := by
  have e : ∀ t, evl (dL (sf X) (sf Y) (sf W) v1 v2 v3) t = evl (dL X Y W v1 v2 v3) (t + 1) := fun t => by
    show m3 (sf X) (sf Y) (sf W) v1 v2 v3 0 1 + t * (2 * m3 (sf X) (sf Y) (sf W) v1 v2 v3 0 2 + t * ((3 * m3 (sf X) (sf Y) (sf W) v1 v2 v3 0 3 + m3 (sf X) (sf Y) (sf W) v1 v2 v3 1 2) + t * ((4 * m3 (sf X) (sf Y) (sf W) v1 v2 v3 0 4 + 2 * m3 (sf X) (sf Y) (sf W) v1 v2 v3 1 3) + t * ((3 * m3 (sf X) (sf Y) (sf W) v1 v2 v3 1 4 + m3 (sf X) (sf Y) (sf W) v1 v2 v3 2 3) + t * (2 * m3 (sf X) (sf Y) (sf W) v1 v2 v3 2 4 + t * (m3 (sf X) (sf Y) (sf W) v1 v2 v3 3 4 + t * 0)))))) = m3 X Y W v1 v2 v3 0 1 + (t + 1) * (2 * m3 X Y W v1 v2 v3 0 2 + (t + 1) * ((3 * m3 X Y W v1 v2 v3 0 3 + m3 X Y W v1 v2 v3 1 2) + (t + 1) * ((4 * m3 X Y W v1 v2 v3 0 4 + 2 * m3 X Y W v1 v2 v3 1 3) + (t + 1) * ((3 * m3 X Y W v1 v2 v3 1 4 + m3 X Y W v1 v2 v3 2 3) + (t + 1) * (2 * m3 X Y W v1 v2 v3 2 4 + (t + 1) * (m3 X Y W v1 v2 v3 3 4 + (t + 1) * 0))))))
    simp only [m3, sf]
    grind
  obtain ⟨a0, h0⟩ := h 0
  obtain ⟨a1, h1⟩ := h 1
  obtain ⟨a2, h2⟩ := h 2
  obtain ⟨a3, h3⟩ := h 3
  obtain ⟨a4, h4⟩ := h 4
  obtain ⟨a5, h5⟩ := h 5
  obtain ⟨a6, h6⟩ := h 6
  have e2 : ∀ t, evl (dL (sf X) (sf Y) (sf W) v1 v2 v3) t = n * evl [a0, a1, a2, a3, a4, a5, a6] (t + 1) := fun t => by
    rw [e t]
    have e1 : dL X Y W v1 v2 v3 = [gd (dL X Y W v1 v2 v3) 0, gd (dL X Y W v1 v2 v3) 1, gd (dL X Y W v1 v2 v3) 2, gd (dL X Y W v1 v2 v3) 3, gd (dL X Y W v1 v2 v3) 4, gd (dL X Y W v1 v2 v3) 5, gd (dL X Y W v1 v2 v3) 6] := rfl
    rw [e1, h0, h1, h2, h3, h4, h5, h6]
    exact evl_map n [a0, a1, a2, a3, a4, a5, a6] (t + 1)
  have hPf : Pf (fun t => evl [a0, a1, a2, a3, a4, a5, a6] (t + 1)) := by
    have e3 : (fun t => evl [a0, a1, a2, a3, a4, a5, a6] (t + 1)) = fun t => a0 + (t + 1) * (a1 + (t + 1) * (a2 + (t + 1) * (a3 + (t + 1) * (a4 + (t + 1) * (a5 + (t + 1) * (a6 + (t + 1) * 0)))))) := rfl
    rw [e3]
    repeat (first | exact Pf.con _ | exact Pf.var | apply Pf.add | apply Pf.mul)
  obtain ⟨r, hr⟩ := hPf
  have h9 := evl_uq (l := dL (sf X) (sf Y) (sf W) v1 v2 v3) (m := r.map (fun x => n * x)) (fun t => by rw [e2 t, evl_map, ← hr]) j
  rw [gd_map] at h9
  exact ⟨_, h9⟩
