theorem hc1 {V g x1 y1 x3 y3 : Int} (h0 : V * x3 * g - V * V * y3 - g * g = 0) : V * V * V * V * hz1 1 x3 y3 (y3 - (V - x3 * x3 + y3)) (-(g - x3 * y3)) ((V - x3 * x3 + y3) * y3 - x3 * (g - x3 * y3)) (x1 - 2 * (g - x3 * y3)) ((V - x3 * x3 + y3) * y3 - x3 * (g - x3 * y3) + y1) (x3 * y1 - x1 * y3) (x1 * (g - x3 * y3) - (V - x3 * x3 + y3) * y1) = (2 * g - x3 * V) * (g * g * g * g - x1 * g * V * V * V + y1 * V * V * V * V) := by
  unfold hz1
  grind
theorem hrow0 (V g x1 y1 x3 y3 m01 m02 m12 : Int) : (V * V * V * V * V * V) * ((g - x3 * y3) * m01 + y3 * m02) = (g * g * g * (V * V * V)) * m01 + (-(g * g * (V * V * V * V))) * m02 + (g * (V * V * V * V * V)) * ((V - x3 * x3 + y3) * m01 + x3 * m02) + (((0) * (g * g * g * g - x1 * g * V * V * V + y1 * V * V * V * V) + (V * V * V * V * x3 + V * V * V * g) * (V * x3 * g - V * V * y3 - g * g)) * m01 + ((0) * (g * g * g * g - x1 * g * V * V * V + y1 * V * V * V * V) + (-(V * V * V * V)) * (V * x3 * g - V * V * y3 - g * g)) * m02 + ((0) * (g * g * g * g - x1 * g * V * V * V + y1 * V * V * V * V) + (0) * (V * x3 * g - V * V * y3 - g * g)) * m12) := by grind
theorem hrow1 (V g x1 y1 x3 y3 m01 m02 m12 : Int) : (V * V * V * V * V * V) * (y3 * m12 - y1 * m01) = (g * g * g * (V * V * V)) * m02 + (-(g * g * (V * V * V * V))) * ((V - x3 * x3 + y3) * m01 + x3 * m02 + m12) + (g * (V * V * V * V * V)) * ((g - x3 * y3) * m01 + y3 * m02 + (x3 * m12 - x1 * m01)) + (((-(V * V)) * (g * g * g * g - x1 * g * V * V * V + y1 * V * V * V * V) + (-(V * V * V * g * x3) - V * V * g * g) * (V * x3 * g - V * V * y3 - g * g)) * m01 + ((0) * (g * g * g * g - x1 * g * V * V * V + y1 * V * V * V * V) + (V * V * V * g) * (V * x3 * g - V * V * y3 - g * g)) * m02 + ((0) * (g * g * g * g - x1 * g * V * V * V + y1 * V * V * V * V) + (-(V * V * V * V)) * (V * x3 * g - V * V * y3 - g * g)) * m12) := by grind
theorem hrow2 (V g x1 y1 x3 y3 m01 m02 m12 : Int) : (V * V * V * V * V * V) * (-(y1 * m02) - (g - x3 * y3) * m12) = (g * g * g * (V * V * V)) * ((V - x3 * x3 + y3) * m01 + x3 * m02) + (-(g * g * (V * V * V * V))) * ((g - x3 * y3) * m01 + y3 * m02 + (x3 * m12 - x1 * m01)) + (g * (V * V * V * V * V)) * (y3 * m12 - y1 * m01 + (-(x1 * m02) - (V - x3 * x3 + y3) * m12)) + (((V * g) * (g * g * g * g - x1 * g * V * V * V + y1 * V * V * V * V) + (V * V * g * g * x3 + V * g * g * g) * (V * x3 * g - V * V * y3 - g * g)) * m01 + ((-(V * V)) * (g * g * g * g - x1 * g * V * V * V + y1 * V * V * V * V) + (-(V * V * g * g)) * (V * x3 * g - V * V * y3 - g * g)) * m02 + ((0) * (g * g * g * g - x1 * g * V * V * V + y1 * V * V * V * V) + (-(V * V * V * V * x3)) * (V * x3 * g - V * V * y3 - g * g)) * m12) := by grind
theorem hrow3 (V g x1 y1 x3 y3 m01 m02 m12 : Int) : (V * V * V * V * V * V) * ((x1 * (g - x3 * y3) - (V - x3 * x3 + y3) * y1) * m01 + (x1 * y3 - x3 * y1) * m02 + ((V - x3 * x3 + y3) * y3 - x3 * (g - x3 * y3)) * m12) = (g * g * g * (V * V * V)) * ((g - x3 * y3) * m01 + y3 * m02) + (-(g * g * (V * V * V * V))) * (y3 * m12 - y1 * m01) + (g * (V * V * V * V * V)) * (-(y1 * m02) - (g - x3 * y3) * m12) + (((-(V * V * V) + V * V * x3 * x3 - V * V * y3 - g * g) * (g * g * g * g - x1 * g * V * V * V + y1 * V * V * V * V) + (V * V * V * V * x1 * x3 + V * V * V * g * x1 - V * g * g * g * x3 - g * g * g * g) * (V * x3 * g - V * V * y3 - g * g)) * m01 + ((-(V * V * x3) + V * g) * (g * g * g * g - x1 * g * V * V * V + y1 * V * V * V * V) + (-(V * V * V * V * x1) + V * g * g * g) * (V * x3 * g - V * V * y3 - g * g)) * m02 + ((0) * (g * g * g * g - x1 * g * V * V * V + y1 * V * V * V * V) + (-(V * V * V * V * V) - V * V * V * V * y3) * (V * x3 * g - V * V * y3 - g * g)) * m12) := by grind
theorem hc1k {V g x1 y1 x3 y3 : Int} (h0 : V * x3 * g - V * V * y3 - g * g = 0) (hp : g * g * g * g - x1 * g * V * V * V + y1 * V * V * V * V = 0) (hV : V ≠ 0) (m01 m02 m12 : Int) : dS m01 m02 ((V - x3 * x3 + y3) * m01 + x3 * m02) ((g - x3 * y3) * m01 + y3 * m02) ((V - x3 * x3 + y3) * m01 + x3 * m02 + m12) ((g - x3 * y3) * m01 + y3 * m02 + (x3 * m12 - x1 * m01)) (y3 * m12 - y1 * m01) (y3 * m12 - y1 * m01 + (-(x1 * m02) - (V - x3 * x3 + y3) * m12)) (-(y1 * m02) - (g - x3 * y3) * m12) ((x1 * (g - x3 * y3) - (V - x3 * x3 + y3) * y1) * m01 + (x1 * y3 - x3 * y1) * m02 + ((V - x3 * x3 + y3) * y3 - x3 * (g - x3 * y3)) * m12) = 0 := by
  have hs : V * V * V * V * V * V ≠ 0 := Int.mul_ne_zero (Int.mul_ne_zero (Int.mul_ne_zero (Int.mul_ne_zero (Int.mul_ne_zero hV hV) hV) hV) hV) hV
  refine k_zero (s := (V * V * V * V * V * V)) (p := (g * g * g * (V * V * V))) (q := (-(g * g * (V * V * V * V)))) (r := (g * (V * V * V * V * V))) hs ?_ ?_ ?_ ?_
  · rw [hrow0 V g x1 y1 x3 y3 m01 m02 m12, h0, hp]
    simp only [Int.mul_zero, Int.add_zero, Int.zero_mul]
  · rw [hrow1 V g x1 y1 x3 y3 m01 m02 m12, h0, hp]
    simp only [Int.mul_zero, Int.add_zero, Int.zero_mul]
  · rw [hrow2 V g x1 y1 x3 y3 m01 m02 m12, h0, hp]
    simp only [Int.mul_zero, Int.add_zero, Int.zero_mul]
  · rw [hrow3 V g x1 y1 x3 y3 m01 m02 m12, h0, hp]
    simp only [Int.mul_zero, Int.add_zero, Int.zero_mul]
theorem hc2l (V t x1 y1 : Int) : hz2 1 (2 * t) (t * t) ((t * t) - (V - (2 * t) * (2 * t) + (t * t))) (-((t * V) - (2 * t) * (t * t))) ((V - (2 * t) * (2 * t) + (t * t)) * (t * t) - (2 * t) * ((t * V) - (2 * t) * (t * t))) (x1 - 2 * ((t * V) - (2 * t) * (t * t))) ((V - (2 * t) * (2 * t) + (t * t)) * (t * t) - (2 * t) * ((t * V) - (2 * t) * (t * t)) + y1) ((2 * t) * y1 - x1 * (t * t)) (x1 * ((t * V) - (2 * t) * (t * t)) - (V - (2 * t) * (2 * t) + (t * t)) * y1) = (t * t * t * t - x1 * t + y1) * (V * V - (t * t * t * t - x1 * t + y1)) := by
  unfold hz2
  grind
theorem hc3l (V t x1 : Int) : hz3 1 (2 * t) (t * t) ((t * t) - (V - (2 * t) * (2 * t) + (t * t))) (-((t * V) - (2 * t) * (t * t))) ((V - (2 * t) * (2 * t) + (t * t)) * (t * t) - (2 * t) * ((t * V) - (2 * t) * (t * t))) (x1 - 2 * ((t * V) - (2 * t) * (t * t))) ((V - (2 * t) * (2 * t) + (t * t)) * (t * t) - (2 * t) * ((t * V) - (2 * t) * (t * t)) + (V * V - t * t * t * t + x1 * t)) ((2 * t) * (V * V - t * t * t * t + x1 * t) - x1 * (t * t)) (x1 * ((t * V) - (2 * t) * (t * t)) - (V - (2 * t) * (2 * t) + (t * t)) * (V * V - t * t * t * t + x1 * t)) = -(V * V * V) * (x1 + 4 * (2 * t) * (t * t) + 2 * (2 * t) * (V - 2 * t * (2 * t) + t * t)) := by
  unfold hz3
  grind
theorem chart_zero {x1 x2 x3 y1 y2 y3 : Int} (h0 : hz0 1 x3 y3 (y3 - x2) (-y2) (x2 * y3 - x3 * y2) (x1 - 2 * y2) (x2 * y3 - x3 * y2 + y1) (x3 * y1 - x1 * y3) (x1 * y2 - x2 * y1) = 0) (h1 : hz1 1 x3 y3 (y3 - x2) (-y2) (x2 * y3 - x3 * y2) (x1 - 2 * y2) (x2 * y3 - x3 * y2 + y1) (x3 * y1 - x1 * y3) (x1 * y2 - x2 * y1) = 0) (h2 : hz2 1 x3 y3 (y3 - x2) (-y2) (x2 * y3 - x3 * y2) (x1 - 2 * y2) (x2 * y3 - x3 * y2 + y1) (x3 * y1 - x1 * y3) (x1 * y2 - x2 * y1) = 0) (h3 : hz3 1 x3 y3 (y3 - x2) (-y2) (x2 * y3 - x3 * y2) (x1 - 2 * y2) (x2 * y3 - x3 * y2 + y1) (x3 * y1 - x1 * y3) (x1 * y2 - x2 * y1) = 0) : (uu4 x3 y3 = 0 ∧ x3 * (x2 + y3) = 2 * y2 ∧ x1 + 4 * x3 * y3 + 2 * x3 * x2 = 0 ∧ y1 = x2 * x2 + 2 * x2 * y3) ∨ ∀ m01 m02 m12 : Int, dS m01 m02 (x2 * m01 + x3 * m02) (y2 * m01 + y3 * m02) (x2 * m01 + x3 * m02 + m12) (y2 * m01 + y3 * m02 + (x3 * m12 - x1 * m01)) (y3 * m12 - y1 * m01) (y3 * m12 - y1 * m01 + (-(x1 * m02) - x2 * m12)) (-(y1 * m02) - y2 * m12) ((x1 * y2 - x2 * y1) * m01 + (x1 * y3 - x3 * y1) * m02 + (x2 * y3 - x3 * y2) * m12) = 0 := by
  rw [hc0] at h0
  by_cases hv : vv x2 x3 y3 = 0
  · right
    intro m01 m02 m12
    rw [hv] at h0
    have hg : y2 + x3 * y3 = 0 := by
      have : (y2 + x3 * y3) * (y2 + x3 * y3) = 0 := by simp only [Int.zero_mul] at h0; omega
      rcases Int.mul_eq_zero.mp this with z | z <;> exact z
    have e1 : x2 = y3 - x3 * x3 := by unfold vv at hv; omega
    have e2 : y2 = -(x3 * y3) := by omega
    subst e1
    subst e2
    obtain ⟨Q, hQ⟩ := hc2 x1 x3 y1 y3 m01 m02 m12
    rw [hQ, h2, Int.zero_mul]
  · obtain ⟨V, eV⟩ : ∃ V, V = vv x2 x3 y3 := ⟨_, rfl⟩
    obtain ⟨g, eg⟩ : ∃ g, g = y2 + x3 * y3 := ⟨_, rfl⟩
    rw [← eV, ← eg] at h0
    rw [← eV] at hv
    have e1 : x2 = V - x3 * x3 + y3 := by rw [eV]; unfold vv; omega
    have e2 : y2 = g - x3 * y3 := by omega
    subst e1
    subst e2
    have k1 := hc1 (x1 := x1) (y1 := y1) h0
    rw [h1, Int.mul_zero] at k1
    rcases Int.mul_eq_zero.mp k1.symm with z | z
    · by_cases hp : g * g * g * g - x1 * g * V * V * V + y1 * V * V * V * V = 0
      · exact Or.inr (hc1k h0 hp hv)
      · left
        have hu : (4 * y3 - x3 * x3) * (V * V) = 0 := by
          have z2 : 2 * g = x3 * V := by omega
          have q : (4 * y3 - x3 * x3) * (V * V) = -4 * (V * x3 * g - V * V * y3 - g * g) + 2 * V * x3 * (2 * g) - (2 * g) * (2 * g) - x3 * x3 * V * V := by grind
          rw [q, h0, z2]
          grind
        have hu2 : 4 * y3 - x3 * x3 = 0 := by
          rcases Int.mul_eq_zero.mp hu with w | w
          · exact w
          · rcases Int.mul_eq_zero.mp w with w | w <;> exact absurd w hv
        obtain ⟨t, ht⟩ := sq_even (x := x3) ⟨2 * y3, by omega⟩
        have ey : y3 = t * t := by
          have : 4 * y3 = 4 * (t * t) := by rw [ht] at hu2; grind
          omega
        have egt : g = t * V := by
          have : 2 * g = 2 * (t * V) := by rw [ht] at z; grind
          omega
        subst ht
        subst ey
        subst egt
        rw [hc2l] at h2
        have hph : t * t * t * t - x1 * t + y1 ≠ 0 := fun w => hp (by
          have q : t * V * (t * V) * (t * V) * (t * V) - x1 * (t * V) * V * V * V + y1 * V * V * V * V = (t * t * t * t - x1 * t + y1) * (V * V * V * V) := by grind
          rw [q, w, Int.zero_mul])
        rcases Int.mul_eq_zero.mp h2 with w | w
        · exact absurd w hph
        · have ey1 : y1 = V * V - t * t * t * t + x1 * t := by omega
          subst ey1
          rw [hc3l] at h3
          have q5 : x1 + 4 * (2 * t) * (t * t) + 2 * (2 * t) * (V - 2 * t * (2 * t) + t * t) = 0 := by
            rcases Int.mul_eq_zero.mp h3 with w | w
            · exfalso
              have w1 : V * V * V = 0 := by omega
              rcases Int.mul_eq_zero.mp w1 with w2 | w2
              · rcases Int.mul_eq_zero.mp w2 with w2 | w2 <;> exact hv w2
              · exact hv w2
            · exact w
          refine ⟨hu2, by grind, q5, ?_⟩
          have ex : x1 = -(4 * (2 * t) * (t * t) + 2 * (2 * t) * (V - 2 * t * (2 * t) + t * t)) := by omega
          rw [ex]
          grind
    · exact Or.inr (hc1k h0 z hv)
