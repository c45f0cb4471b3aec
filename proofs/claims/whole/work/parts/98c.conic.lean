theorem t24_EA {b : Nat} {k : Int} {e X Y W : Nat → Int} (hC : CK (2 ^ 32) e X Y W) (he : ∃ i, i < 6 ∧ e i % 2 = 1) (hb : b ≤ 20) (hT : T24 b k e X Y W) (hP : bP X Y W) (hp : ∃ i j k, i < 5 ∧ j < 5 ∧ k < 5 ∧ d3 X Y W i j k ≠ 0) : EA X Y W ∧ (d3 X Y W 0 1 2 = 0 → d3 X Y W 0 1 4 = 0 ∧ d3 X Y W 0 2 3 = 0) := by
  obtain ⟨a, o, q, s012, s014, s124, s023, s034, s234, hd, oo, hba, hq, e012, e014, e124, e023, e034, e234, pt⟩ := t24_co hC he hb hT hP hp
  have hp2 : (2 ^ a : Int) ≠ 0 := Int.ne_of_gt (Int.pow_pos (by decide))
  have oq : q % 2 = 1 := by
    obtain ⟨t, ht⟩ := hq
    rcases Int.emod_two_eq q with z | z
    · exfalso
      have e3 : o * q = 2 ^ 64 * t + 1 := by omega
      have e4 : (o * q) % 2 = 0 := by rw [Int.mul_emod, z, Int.mul_zero]; rfl
      rw [e3] at e4
      omega
    · exact z
  have b012 := hP 0 1 2 (by decide) (by decide) (by decide)
  have b013 := hP 0 1 3 (by decide) (by decide) (by decide)
  have b014 := hP 0 1 4 (by decide) (by decide) (by decide)
  have b023 := hP 0 2 3 (by decide) (by decide) (by decide)
  have b024 := hP 0 2 4 (by decide) (by decide) (by decide)
  have b123 := hP 1 2 3 (by decide) (by decide) (by decide)
  have b124 := hP 1 2 4 (by decide) (by decide) (by decide)
  constructor
  · have k13 := plk013 X Y W
    have k123 := plk123 X Y W
    rw [hd, e012, e014, e023, e034] at k13
    rw [hd, e012, e124, e023, e234] at k123
    have l13 : o * d3 X Y W 0 1 3 = 2 ^ a * (s014 * s023 + s012 * s034) := by
      apply Int.eq_of_mul_eq_mul_left hp2
      rw [← Int.mul_assoc, k13]
      clear k13 k123 pt
      grind
    have l123 : o * d3 X Y W 1 2 3 = 2 ^ a * (s124 * s023 - s012 * s234) := by
      apply Int.eq_of_mul_eq_mul_left hp2
      rw [← Int.mul_assoc, k123]
      clear k13 k123 pt l13
      grind
    obtain ⟨s013, e013⟩ := odd_cancel oo a _ ⟨_, l13⟩
    obtain ⟨s123, e123⟩ := odd_cancel oo a _ ⟨_, l123⟩
    have m13 : o * s013 = s014 * s023 + s012 * s034 := by
      apply Int.eq_of_mul_eq_mul_left hp2
      rw [← l13, e013]
      clear k13 k123 pt l13 l123
      grind
    have m123 : o * s123 = s124 * s023 - s012 * s234 := by
      apply Int.eq_of_mul_eq_mul_left hp2
      rw [← l123, e123]
      clear k13 k123 pt l13 l123
      grind
    clear k13 k123 l13 l123
    have up : ∀ {z : Int}, (2 ^ 64 : Int) ∣ z → (2 ^ (32 - b) : Int) ∣ z := fun h => pw_le_dvd (by omega) h
    obtain ⟨F1, F2, F3, F4⟩ := pt_quad (z013 := q * s013) (z123 := q * s123) (z024 := o * q) pt (up (by
      obtain ⟨t, ht⟩ := hq
      refine ⟨-(t * (q * s013)), ?_⟩
      have z : q * s014 * (q * s023) + q * s012 * (q * s034) = q * q * (o * s013) := by rw [m13]; clear m13 m123 ht pt; grind
      rw [z]
      have z2 : q * q * (o * s013) = (o * q - 1) * (q * s013) + q * s013 := by clear m13 m123 ht z pt; grind
      rw [z2, ht]
      clear m13 m123 ht z z2 pt
      generalize (2 ^ 64 : Int) = n
      grind)) (up (by
      obtain ⟨t, ht⟩ := hq
      refine ⟨-(t * (q * s123)), ?_⟩
      have z : q * s124 * (q * s023) - q * s012 * (q * s234) = q * q * (o * s123) := by rw [m123]; clear m13 m123 ht pt; grind
      rw [z]
      have z2 : q * q * (o * s123) = (o * q - 1) * (q * s123) + q * s123 := by clear m13 m123 ht z pt; grind
      rw [z2, ht]
      clear m13 m123 ht z z2 pt
      generalize (2 ^ 64 : Int) = n
      grind)) (up hq)
    have pa : (2 ^ (2 * a) : Int) = 2 ^ a * 2 ^ a := by rw [← Int.pow_add]; congr 1; omega
    have fin : ∀ {G g r : Int}, G.natAbs < 2 ^ 24 → (2 ^ (32 - b) : Int) ∣ g → G = 2 ^ (2 * a) * r → q * q * r = g → G = 0 := fun {G g r} hG hg hr hqr => quad_zero (a := a) (j := 32 - b) oo hq hG (by omega) (by omega) hg ⟨r, hr, by rw [hqr, Int.sub_self]; exact ⟨0, rfl⟩⟩
    clear pt m13 m123
    refine ⟨fin ?_ F1 (r := 4 * s012 * s014 - s013 * s013) ?_ ?_, fin ?_ F2 (r := s013 * s014 - s013 * s023 + 2 * s012 * o) ?_ ?_, fin ?_ F3 (r := s012 * s123 + 4 * s013 * s014 - 2 * s013 * s023) ?_ ?_, fin ?_ F4 (r := s012 * s124 - s023 * s023 + 2 * s023 * s014) ?_ ?_⟩
    · have := nb2 b012 b014
      have := nb2 b013 b013
      simp only [Int.mul_assoc]
      omega
    · rw [e012, e013, e014, pa]
      clear F1 F2 F3 F4
      grind
    · clear F1 F2 F3 F4
      grind
    · have := nb2 b013 b014
      have := nb2 b013 b023
      have := nb2 b012 b024
      simp only [Int.mul_assoc]
      omega
    · rw [hd, e012, e013, e014, e023, pa]
      clear F1 F2 F3 F4
      grind
    · clear F1 F2 F3 F4
      grind
    · have := nb2 b012 b123
      have := nb2 b013 b014
      have := nb2 b013 b023
      simp only [Int.mul_assoc]
      omega
    · rw [e012, e013, e014, e023, e123, pa]
      clear F1 F2 F3 F4
      grind
    · clear F1 F2 F3 F4
      grind
    · have := nb2 b012 b124
      have := nb2 b023 b023
      have := nb2 b023 b014
      simp only [Int.mul_assoc]
      omega
    · rw [e012, e014, e023, e124, pa]
      clear F1 F2 F3 F4
      grind
    · clear F1 F2 F3 F4
      grind
  · intro z
    have s0 : s012 = 0 := by
      rw [z] at e012
      rcases Int.mul_eq_zero.mp e012.symm with y | y
      · exact absurd y hp2
      · exact y
    subst s0
    rw [Int.mul_zero, Int.neg_zero] at pt
    have h1 := pt_zero pt
    have oq3 : (q * q * q) % 2 = 1 := by
      have : (q * q) % 2 = 1 := by rw [Int.mul_emod, oq]; rfl
      rw [Int.mul_emod, this, oq]
      rfl
    have h2 : (2 ^ (32 - b) : Int) ∣ s014 * s014 * s014 := by
      apply odd_cancel oq3
      have e : q * q * q * (s014 * s014 * s014) = q * s014 * (q * s014) * (q * s014) := by grind
      rw [e]
      exact h1
    have h3 : (2 ^ ((31 - b) / 3 + 1) : Int) ∣ s014 := cube_dvd (pw_le_dvd (by omega) h2)
    have z14 : d3 X Y W 0 1 4 = 0 := by
      apply small_zero (k := 11) _ (Nat.lt_of_le_of_lt b014 (by decide))
      rw [e014]
      exact pw_le_dvd (j := a + ((31 - b) / 3 + 1)) (by omega) (dvd_mul2 ⟨1, by rw [Int.mul_one]⟩ h3)
    refine ⟨z14, ?_⟩
    have s4 : s014 = 0 := by
      rw [z14] at e014
      rcases Int.mul_eq_zero.mp e014.symm with y | y
      · exact absurd y hp2
      · exact y
    subst s4
    rw [Int.mul_zero] at pt
    have h4 := odd_cancel oq _ _ (pt_zero2 pt)
    apply small_zero (k := 11) _ (Nat.lt_of_le_of_lt b023 (by decide))
    rw [e023]
    exact pw_le_dvd (j := a + (32 - b)) (by omega) (dvd_mul2 ⟨1, by rw [Int.mul_one]⟩ h4)
theorem T24_rv {b : Nat} {k : Int} {e X Y W : Nat → Int} (h : T24 b k e X Y W) : T24 b k e (rv X) (rv Y) (rv W) := by
  obtain ⟨hA, hk, ok, q02, q13, q24⟩ := h
  refine ⟨dvA_rv hA, ?_, ok, ?_, ?_, ?_⟩
  · show sP e X Y W 4 0 = _
    rw [sP_sym]
    exact hk
  · show (2 ^ (b + 1) : Int) ∣ sP e X Y W 4 2
    rw [sP_sym]
    exact q24
  · show (2 ^ (b + 1) : Int) ∣ sP e X Y W 3 1
    rw [sP_sym]
    exact q13
  · show (2 ^ (b + 1) : Int) ∣ sP e X Y W 2 0
    rw [sP_sym]
    exact q02
/-- the conic: a root mod 2 ^ 64 stands on the double conic, or on a row of even powers alone, or the eliminant is nothing -/
theorem conic_all {X Y W e G : Nat → Int} {c : Int} (hS : SQ X Y W e G c) (hc : c ≠ 0) (he : ∃ i, i < 6 ∧ e i % 2 = 1) (h7 : b7 X Y W) (hp : ∃ i j k, i < 5 ∧ j < 5 ∧ k < 5 ∧ d3 X Y W i j k ≠ 0) : (d3 X Y W 0 1 2 ≠ 0 ∧ EA X Y W) ∨ (d3 (rv X) (rv Y) (rv W) 0 1 2 ≠ 0 ∧ EA (rv X) (rv Y) (rv W)) ∨ (∀ x y w : Int, FF X Y W x y w = 0) ∨ (X 1 = 0 ∧ Y 1 = 0 ∧ W 1 = 0 ∧ X 3 = 0 ∧ Y 3 = 0 ∧ W 3 = 0) := by
  rcases conic_main hS hc he h7 hp with z | z | z | ⟨b, k, hb, hA, hk, ok, q02, q03, q13, q14, q24⟩
  · exact Or.inl z
  · exact Or.inr (Or.inl z)
  · exact Or.inr (Or.inr (Or.inl z))
  · have hT : T24 b k e X Y W := ⟨hA, hk, ok, q02, q13, q24⟩
    have hC := SQ_CK hS hc
    have hCr := SQ_CK (SQ_rv hS) hc
    have hpr : ∃ i j k, i < 5 ∧ j < 5 ∧ k < 5 ∧ d3 (rv X) (rv Y) (rv W) i j k ≠ 0 := by
      refine ⟨0, 2, 4, by decide, by decide, by decide, ?_⟩
      have h := t24_ne hC he hb hT (b7_P h7) hp
      intro y
      have y2 : d3 X Y W 4 2 0 = 0 := y
      rw [d3_cy X Y W 4 2 0, d3_sw X Y W 0 2 4] at y2
      omega
    obtain ⟨E1, Z1⟩ := t24_EA hC he hb hT (b7_P h7) hp
    obtain ⟨E2, Z2⟩ := t24_EA hCr he hb (T24_rv hT) (b7_P (b7_rv h7)) hpr
    by_cases p1 : d3 X Y W 0 1 2 = 0
    · by_cases p2 : d3 (rv X) (rv Y) (rv W) 0 1 2 = 0
      · right
        right
        right
        have hne := t24_ne hC he hb hT (b7_P h7) hp
        obtain ⟨u1, u2⟩ := Z1 p1
        obtain ⟨v1, v2⟩ := Z2 p2
        have p2' : d3 X Y W 4 3 2 = 0 := p2
        have v1' : d3 X Y W 4 3 0 = 0 := v1
        have v2' : d3 X Y W 4 2 1 = 0 := v2
        have w1 : d3 X Y W 2 4 1 = 0 := by rw [d3_cy, d3_sw X Y W 1 4 2, ← d3_cy X Y W 4 2 1] <;> omega
        have w3 : d3 X Y W 2 4 3 = 0 := by
          have : d3 X Y W 2 4 3 = d3 X Y W 4 3 2 := (d3_cy X Y W 4 3 2).symm
          omega
        have w4 : d3 X Y W 0 4 3 = 0 := by
          have : d3 X Y W 0 4 3 = d3 X Y W 4 3 0 := (d3_cy X Y W 4 3 0).symm
          omega
        have w5 : d3 X Y W 0 4 1 = 0 := by rw [d3_sw X Y W 0 1 4]; omega
        have w6 : d3 X Y W 0 2 1 = 0 := by rw [d3_sw X Y W 0 1 2]; omega
        have f : ∀ {z : Int}, d3 X Y W 0 2 4 * z = 0 → z = 0 := fun h => by
          rcases Int.mul_eq_zero.mp h with y | y
          · exact absurd y hne
          · exact y
        refine ⟨f ?_, f ?_, f ?_, f ?_, f ?_, f ?_⟩
        · rw [cramX X Y W 0 2 4 1, w1, w5, w6]; omega
        · rw [cramY X Y W 0 2 4 1, w1, w5, w6]; omega
        · rw [cramW X Y W 0 2 4 1, w1, w5, w6]; omega
        · rw [cramX X Y W 0 2 4 3, w3, w4, u2]; omega
        · rw [cramY X Y W 0 2 4 3, w3, w4, u2]; omega
        · rw [cramW X Y W 0 2 4 3, w3, w4, u2]; omega
      · exact Or.inr (Or.inl ⟨p2, E2⟩)
    · exact Or.inl ⟨p1, E1⟩
