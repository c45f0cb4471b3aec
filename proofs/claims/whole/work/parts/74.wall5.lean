theorem cmb_le {i j : Nat} {X Y W : Nat → Int} {l : Nat} {x1 x2 x3 : Int} (h : i ≤ j) (hc : cmb (2 ^ j) X Y W l x1 x2 x3) : cmb (2 ^ i) X Y W l x1 x2 x3 := ⟨pw_le_dvd h hc.1, pw_le_dvd h hc.2.1, pw_le_dvd h hc.2.2⟩
theorem chartM {e X Y W : Nat → Int} {a b : Nat} {o k s013 s014 s023 s024 s123 s124 : Int} (hC : CK (2 ^ 32) e X Y W) (hd : d3 X Y W 0 1 2 = 2 ^ a * o) (oo : o % 2 = 1) (h013 : d3 X Y W 0 1 3 = 2 ^ a * s013) (h014 : d3 X Y W 0 1 4 = 2 ^ a * s014) (h023 : d3 X Y W 0 2 3 = 2 ^ a * s023) (h024 : d3 X Y W 0 2 4 = 2 ^ a * s024) (h123 : d3 X Y W 1 2 3 = 2 ^ a * s123) (h124 : d3 X Y W 1 2 4 = 2 ^ a * s124) (hk : sP e X Y W 0 2 = 2 ^ b * k) (ok : k % 2 = 1) (hb : b ≤ 32) : ∃ q : Int, (2 ^ 64 : Int) ∣ o * q - 1 ∧ cmb (2 ^ 64) X Y W 3 (q * s123) (-(q * s023)) (q * s013) ∧ cmb (2 ^ 64) X Y W 4 (q * s124) (-(q * s024)) (q * s014) ∧ (2 ^ (32 - b) : Int) ∣ a5 (q * s123) (-(q * s023)) (q * s013) (-(q * s024)) (q * s014) ∧ (2 ^ (32 - b) : Int) ∣ a6 (q * s123) (-(q * s023)) (q * s013) (q * s124) (-(q * s024)) (q * s014) ∧ (2 ^ (32 - b) : Int) ∣ vv (-(q * s023)) (q * s013) (q * s014) * z5 (-(q * s023)) (q * s013) (-(q * s024)) (q * s014) ∧ (2 ^ (32 - b) : Int) ∣ q * s014 * vv (-(q * s023)) (q * s013) (q * s014) * vv (-(q * s023)) (q * s013) (q * s014) - (-(q * s024) + q * s013 * (q * s014)) * (-(q * s024) + q * s013 * (q * s014)) := by
  obtain ⟨q, hq⟩ := inv_ex oo 64
  have c3 := cmb_of hd h123 h023 h013 hq
  have c4 := cmb_of hd h124 h024 h014 hq
  obtain ⟨r5, r6, r7, r8⟩ := chart hC (cmb_le (i := 32) (by decide) c3) (cmb_le (i := 32) (by decide) c4)
  rw [hk] at r5 r6 r7 r8
  exact ⟨q, hq, c3, c4, drop_b hb ok r5, drop_b hb ok r6, drop_b hb ok r7, drop_b hb ok r8⟩
/-- near the common factor -/
theorem near_b {M : Nat} {x2 x3 y2 y3 : Int} (hM : 10 ≤ M) (hv : (2 ^ 5 : Int) ∣ vv x2 x3 y3) (h8 : (2 ^ M : Int) ∣ y3 * vv x2 x3 y3 * vv x2 x3 y3 - (y2 + x3 * y3) * (y2 + x3 * y3)) : (2 ^ 5 : Int) ∣ z5 x2 x3 y2 y3 := by
  have e1 : z5 x2 x3 y2 y3 * z5 x2 x3 y2 y3 = uu4 x3 y3 * (vv x2 x3 y3 * vv x2 x3 y3) + 2 * x3 * (vv x2 x3 y3 * z5 x2 x3 y2 y3) - 4 * (y3 * vv x2 x3 y3 * vv x2 x3 y3 - (y2 + x3 * y3) * (y2 + x3 * y3)) := by
    unfold vv z5 uu4
    grind
  have step : ∀ i : Nat, i ≤ 4 → (2 ^ i : Int) ∣ z5 x2 x3 y2 y3 → (2 ^ (i + 1) : Int) ∣ z5 x2 x3 y2 y3 := fun i hi h => by
    apply sq_dvd
    rw [e1]
    refine Int.dvd_sub (Int.dvd_add (dl _ (pw_le_dvd (by omega) (dvd_mul2 hv hv))) ?_) (dl _ (pw_le_dvd (by omega) h8))
    have h2 : (2 ^ (1 + (5 + i)) : Int) ∣ 2 * (vv x2 x3 y3 * z5 x2 x3 y2 y3) := dvd_mul2 (i := 1) ⟨1, rfl⟩ (dvd_mul2 hv h)
    have e2 : 2 * x3 * (vv x2 x3 y3 * z5 x2 x3 y2 y3) = x3 * (2 * (vv x2 x3 y3 * z5 x2 x3 y2 y3)) := by grind
    rw [e2]
    exact dl _ (pw_le_dvd (by omega) h2)
  exact step 4 (by decide) (step 3 (by decide) (step 2 (by decide) (step 1 (by decide) (step 0 (by decide) ⟨_, by rw [Int.pow_zero, Int.one_mul]⟩))))
theorem nb2 {x y : Int} (hx : x.natAbs ≤ 1372) (hy : y.natAbs ≤ 1372) : (x * y).natAbs ≤ 1882384 := by
  rw [Int.natAbs_mul]
  exact Nat.mul_le_mul hx hy
theorem small_nu {M : Nat} {v : Int} (h : ¬ (2 ^ 5 : Int) ∣ v) : ∃ (ν : Nat) (v' : Int), v = 2 ^ ν * v' ∧ v' % 2 = 1 ∧ ν ≤ 4 := by
  by_cases q : v = 0
  · exact absurd ⟨0, by rw [q, Int.mul_zero]⟩ h
  · obtain ⟨ν, v', h1, h2⟩ := two_split v.natAbs v (Nat.le_refl _) q
    refine ⟨ν, v', h1, h2, Nat.le_of_not_lt fun z => h ?_⟩
    exact pw_le_dvd (i := 5) (j := ν) z ⟨v', h1⟩
def bP (X Y W : Nat → Int) : Prop := ∀ i j k, i < 5 → j < 5 → k < 5 → (d3 X Y W i j k).natAbs ≤ 1372
/-- where the second factor is no multiple of 32: exactly on the double conic -/
theorem caseA {X Y W : Nat → Int} {a b : Nat} {o q s013 s014 s023 s024 s123 s124 : Int} (hd : d3 X Y W 0 1 2 = 2 ^ a * o) (oo : o % 2 = 1) (h013 : d3 X Y W 0 1 3 = 2 ^ a * s013) (h014 : d3 X Y W 0 1 4 = 2 ^ a * s014) (h023 : d3 X Y W 0 2 3 = 2 ^ a * s023) (h024 : d3 X Y W 0 2 4 = 2 ^ a * s024) (h123 : d3 X Y W 1 2 3 = 2 ^ a * s123) (h124 : d3 X Y W 1 2 4 = 2 ^ a * s124) (hb : b ≤ 20) (hba : b ≤ 2 * a) (hP : bP X Y W) (hq : (2 ^ 64 : Int) ∣ o * q - 1) (r5 : (2 ^ (32 - b) : Int) ∣ a5 (q * s123) (-(q * s023)) (q * s013) (-(q * s024)) (q * s014)) (r6 : (2 ^ (32 - b) : Int) ∣ a6 (q * s123) (-(q * s023)) (q * s013) (q * s124) (-(q * s024)) (q * s014)) (r7 : (2 ^ (32 - b) : Int) ∣ vv (-(q * s023)) (q * s013) (q * s014) * z5 (-(q * s023)) (q * s013) (-(q * s024)) (q * s014)) (r8 : (2 ^ (32 - b) : Int) ∣ q * s014 * vv (-(q * s023)) (q * s013) (q * s014) * vv (-(q * s023)) (q * s013) (q * s014) - (-(q * s024) + q * s013 * (q * s014)) * (-(q * s024) + q * s013 * (q * s014))) (hv : ¬ (2 ^ 5 : Int) ∣ vv (-(q * s023)) (q * s013) (q * s014)) : EA X Y W := by
  obtain ⟨ν, v', hv1, hv2, hv3⟩ := small_nu (M := 0) hv
  obtain ⟨hz, hu⟩ := near_u hv1 hv2 r7 r8 (by omega)
  have hz : (2 ^ (25 - b) : Int) ∣ z5 (-(q * s023)) (q * s013) (-(q * s024)) (q * s014) := pw_le_dvd (by omega) hz
  have hu : (2 ^ (25 - b) : Int) ∣ uu4 (q * s013) (q * s014) := pw_le_dvd (by omega) hu
  have r5 : (2 ^ (25 - b) : Int) ∣ _ := pw_le_dvd (by omega) r5
  have r6 : (2 ^ (25 - b) : Int) ∣ _ := pw_le_dvd (by omega) r6
  obtain ⟨tq, htq⟩ := hq
  have b012 := hP 0 1 2 (by decide) (by decide) (by decide)
  have b013 := hP 0 1 3 (by decide) (by decide) (by decide)
  have b014 := hP 0 1 4 (by decide) (by decide) (by decide)
  have b023 := hP 0 2 3 (by decide) (by decide) (by decide)
  have b024 := hP 0 2 4 (by decide) (by decide) (by decide)
  have b123 := hP 1 2 3 (by decide) (by decide) (by decide)
  have b124 := hP 1 2 4 (by decide) (by decide) (by decide)
  have pa : (2 ^ (2 * a) : Int) = 2 ^ a * 2 ^ a := by rw [← Int.pow_add]; congr 1; omega
  have oq1 : o * q = 2 ^ 64 * tq + 1 := by omega
  have hqz : (2 ^ (25 - b) : Int) ∣ q * s013 * -(q * s023) + q * s013 * (q * s014) - 2 * -(q * s024) := by
    have e : q * s013 * -(q * s023) + q * s013 * (q * s014) - 2 * -(q * s024) = z5 (-(q * s023)) (q * s013) (-(q * s024)) (q * s014) + q * s013 * uu4 (q * s013) (q * s014) := by
      unfold z5 uu4
      grind
    rw [e]
    exact Int.dvd_add hz (dl _ hu)
  refine ⟨?_, ?_, ?_, ?_⟩
  · refine quad_zero (a := a) (j := 25 - b) oo ⟨tq, htq⟩ ?_ (by omega) (by omega) hu ⟨4 * o * s014 - s013 * s013, ?_, ?_⟩
    · have := nb2 b012 b014
      have := nb2 b013 b013
      simp only [Int.mul_assoc]
      omega
    · rw [hd, h013, h014, pa]
      grind
    · refine ⟨4 * q * s014 * tq, ?_⟩
      unfold uu4
      generalize (2 ^ 64 : Int) = n at *
      grind
  · refine quad_zero (a := a) (j := 25 - b) oo ⟨tq, htq⟩ ?_ (by omega) (by omega) hqz ⟨s013 * s014 - s013 * s023 + 2 * o * s024, ?_, ?_⟩
    · have := nb2 b013 b014
      have := nb2 b013 b023
      have := nb2 b012 b024
      simp only [Int.mul_assoc]
      omega
    · rw [hd, h013, h014, h023, h024, pa]
      grind
    · refine ⟨2 * q * s024 * tq, ?_⟩
      generalize (2 ^ 64 : Int) = n at *
      grind
  · have h5 : (2 ^ (25 - b) : Int) ∣ q * s123 + 4 * (q * s013) * (q * s014) + 2 * (q * s013) * -(q * s023) := by
      have e : q * s123 + 4 * (q * s013) * (q * s014) + 2 * (q * s013) * -(q * s023) = a5 (q * s123) (-(q * s023)) (q * s013) (-(q * s024)) (q * s014) - (q * s013 * -(q * s023) + q * s013 * (q * s014) - 2 * -(q * s024)) + 2 * (q * s013) * uu4 (q * s013) (q * s014) := by
        unfold a5 uu4
        grind
      rw [e]
      exact Int.dvd_add (Int.dvd_sub r5 hqz) (dl _ hu)
    refine quad_zero (a := a) (j := 25 - b) oo ⟨tq, htq⟩ ?_ (by omega) (by omega) h5 ⟨o * s123 + 4 * s013 * s014 - 2 * s013 * s023, ?_, ?_⟩
    · have := nb2 b012 b123
      have := nb2 b013 b014
      have := nb2 b013 b023
      simp only [Int.mul_assoc]
      omega
    · rw [hd, h013, h014, h023, h123, pa]
      grind
    · refine ⟨q * s123 * tq, ?_⟩
      generalize (2 ^ 64 : Int) = n at *
      grind
  · have h6 : (2 ^ (24 - b) : Int) ∣ q * s124 - -(q * s023) * -(q * s023) - 2 * -(q * s023) * (q * s014) := by
      have e : 2 * (q * s124 - -(q * s023) * -(q * s023) - 2 * -(q * s023) * (q * s014)) = 2 * a6 (q * s123) (-(q * s023)) (q * s013) (q * s124) (-(q * s024)) (q * s014) - 2 * (q * s013) * a5 (q * s123) (-(q * s023)) (q * s013) (-(q * s024)) (q * s014) + q * s013 * (q * s013 * -(q * s023) + q * s013 * (q * s014) - 2 * -(q * s024)) + (q * s014 - 2 * (q * s013) * (q * s013) - 3 * -(q * s023)) * uu4 (q * s013) (q * s014) := by
        unfold a5 a6 uu4
        grind
      have h7 : (2 ^ (25 - b) : Int) ∣ 2 * (q * s124 - -(q * s023) * -(q * s023) - 2 * -(q * s023) * (q * s014)) := by
        rw [e]
        exact Int.dvd_add (Int.dvd_add (Int.dvd_sub (dl _ r6) (dl _ r5)) (dl _ hqz)) (dl _ hu)
      obtain ⟨t, ht⟩ := h7
      refine ⟨t, ?_⟩
      rw [show 25 - b = (24 - b) + 1 by omega, Int.pow_succ] at ht
      have : 2 * (q * s124 - -(q * s023) * -(q * s023) - 2 * -(q * s023) * (q * s014)) = 2 * (2 ^ (24 - b) * t) := by rw [ht]; grind
      omega
    refine quad_zero (a := a) (j := 24 - b) oo ⟨tq, htq⟩ ?_ (by omega) (by omega) h6 ⟨o * s124 - s023 * s023 + 2 * s023 * s014, ?_, ?_⟩
    · have := nb2 b012 b124
      have := nb2 b023 b023
      have := nb2 b023 b014
      simp only [Int.mul_assoc]
      omega
    · rw [hd, h014, h023, h124, pa]
      grind
    · refine ⟨q * s124 * tq, ?_⟩
      generalize (2 ^ 64 : Int) = n at *
      grind
