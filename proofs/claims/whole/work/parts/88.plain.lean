def CH (X Y W : Nat → Int) (a b : Nat) (o q s013 s014 s023 s024 s123 s124 : Int) : Prop := d3 X Y W 0 1 2 = 2 ^ a * o ∧ o % 2 = 1 ∧ d3 X Y W 0 1 3 = 2 ^ a * s013 ∧ d3 X Y W 0 1 4 = 2 ^ a * s014 ∧ d3 X Y W 0 2 3 = 2 ^ a * s023 ∧ d3 X Y W 0 2 4 = 2 ^ a * s024 ∧ d3 X Y W 1 2 3 = 2 ^ a * s123 ∧ d3 X Y W 1 2 4 = 2 ^ a * s124 ∧ b ≤ 2 * a ∧ (2 ^ 64 : Int) ∣ o * q - 1 ∧ (2 ^ (32 - b) : Int) ∣ a5 (q * s123) (-(q * s023)) (q * s013) (-(q * s024)) (q * s014) ∧ (2 ^ (32 - b) : Int) ∣ a6 (q * s123) (-(q * s023)) (q * s013) (q * s124) (-(q * s024)) (q * s014) ∧ (2 ^ (32 - b) : Int) ∣ vv (-(q * s023)) (q * s013) (q * s014) * z5 (-(q * s023)) (q * s013) (-(q * s024)) (q * s014) ∧ (2 ^ (32 - b) : Int) ∣ q * s014 * vv (-(q * s023)) (q * s013) (q * s014) * vv (-(q * s023)) (q * s013) (q * s014) - (-(q * s024) + q * s013 * (q * s014)) * (-(q * s024) + q * s013 * (q * s014))
def NB (X Y W : Nat → Int) : Prop := ∃ κ : Nat, (∀ x y w : Int, (2 ^ (4 * κ + 10) : Int) ∣ FF X Y W x y w) ∧ ∃ v1 v2 v3 : Int, ¬ ∀ j, (2 ^ (κ + 2) : Int) ∣ gd (dL X Y W v1 v2 v3) j
theorem NB_h {X Y W e G : Nat → Int} {c : Int} (h : SQ X Y W e G c) (hc : c ≠ 0) (he : ∃ i, i < 6 ∧ e i % 2 = 1) (hn : NB X Y W) : ∀ i, (2 ^ 42 : Int) ∣ gd (hL X Y W) i := by
  obtain ⟨κ, h1, h2⟩ := hn
  exact near_h h hc he h1 h2
theorem chart_main {X Y W e G : Nat → Int} {c k : Int} {b : Nat} (hS : SQ X Y W e G c) (hc : c ≠ 0) (he : ∃ i, i < 6 ∧ e i % 2 = 1) (hA : dvA b e X Y W) (hk : sP e X Y W 0 2 = 2 ^ b * k) (ok : k % 2 = 1) (hb : b ≤ 20) (hx : (X 0).natAbs < 64 ∧ (Y 0).natAbs < 64 ∧ (W 0).natAbs < 64) (hm : (m3 X Y W 1 0 0 0 1).natAbs < 4096 ∧ (m3 X Y W 0 1 0 0 1).natAbs < 4096 ∧ (m3 X Y W 0 0 1 0 1).natAbs < 4096) (hD : (d3 X Y W 0 1 2).natAbs < 2 ^ 16) : d3 X Y W 0 1 2 ≠ 0 ∧ ∃ (a : Nat) (o q s013 s014 s023 s024 s123 s124 : Int), CH X Y W a b o q s013 s014 s023 s024 s123 s124 ∧ ((2 ^ 5 : Int) ∣ vv (-(q * s023)) (q * s013) (q * s014) → NB X Y W) := by
  have hC := SQ_CK hS hc
  have hd := d_ne hC hk ok hb hx hm
  refine ⟨hd, ?_⟩
  obtain ⟨a, o, h1, oo⟩ := two_split _ _ (Nat.le_refl _) hd
  have ha : a < 16 := pw_bd h1 hd hD
  have hmd : ∀ i j k, i < 5 → j < 5 → k < 5 → (2 ^ ((b + 1) / 2) : Int) ∣ d3 X Y W i j k := fun i j k hi hj hk => half_dvd (cont_p hA he hi hj hk)
  have hba : b ≤ 2 * a := by
    have h2 := cont_p hA he (i := 0) (j := 1) (k := 2) (by decide) (by decide) (by decide)
    apply Nat.le_of_not_lt
    intro w
    have o2 : (o * o) % 2 = 1 := by rw [Int.mul_emod, oo]; rfl
    have h4 : (2 ^ (2 * a + 1) : Int) ∣ d3 X Y W 0 1 2 * d3 X Y W 0 1 2 := pw_le_dvd (by omega) h2
    have e : d3 X Y W 0 1 2 * d3 X Y W 0 1 2 = (o * o) * 2 ^ (2 * a) := by rw [h1, show 2 * a = a + a by omega, Int.pow_add]; grind
    rw [e] at h4
    obtain ⟨t, ht⟩ := odd_cancel o2 _ _ h4
    rw [Int.pow_succ] at ht
    have hp : (2 ^ (2 * a) : Int) ≠ 0 := Int.ne_of_gt (Int.pow_pos (by decide))
    have : (1 : Int) = 2 * t := by
      apply Int.eq_of_mul_eq_mul_left hp
      grind
    omega
  have ml : ∀ l, l < 5 → (2 ^ a : Int) ∣ d3 X Y W 0 1 l ∧ (2 ^ a : Int) ∣ d3 X Y W 0 2 l ∧ (2 ^ a : Int) ∣ d3 X Y W 1 2 l := fun l hl => mind_l (m := (b + 1) / 2) hC.1 hC.2.1 hC.2.2.1 (hA.2 0 l (by decide) hl) (hA.2 2 l (by decide) hl) (hA.1 l hl) (hA.2 1 2 (by decide) (by decide)) (hA.1 2 (by decide)) hk ok h1 oo (hmd 1 2 l (by decide) (by decide) hl) (hmd 0 2 l (by decide) (by decide) hl) (by omega) (by omega) (by omega)
  obtain ⟨⟨s013, h013⟩, ⟨s023, h023⟩, ⟨s123, h123⟩⟩ := ml 3 (by decide)
  obtain ⟨⟨s014, h014⟩, ⟨s024, h024⟩, ⟨s124, h124⟩⟩ := ml 4 (by decide)
  obtain ⟨q, hq, c3, c4, r5, r6, r7, r8⟩ := chartM hC h1 oo h013 h014 h023 h024 h123 h124 hk ok (by omega)
  refine ⟨a, o, q, s013, s014, s023, s024, s123, s124, ⟨h1, oo, h013, h014, h023, h024, h123, h124, hba, hq, r5, r6, r7, r8⟩, fun hv => ?_⟩
  obtain ⟨κ, k1, k2⟩ := kap hd
  have hκ : κ ≤ 50 := by
    have h3 := (k1 (X 2) (Y 2) (W 2)).1
    have e : m3 X Y W (X 2) (Y 2) (W 2) 0 1 = d3 X Y W 0 1 2 := by unfold m3 d3; grind
    rw [e] at h3
    apply Nat.le_of_not_lt
    intro w
    exact hd (small_zero (k := 16) (pw_le_dvd (by omega) h3) hD)
  have hg : (2 ^ 5 : Int) ∣ -(q * s024) + q * s013 * (q * s014) := by
    apply sq_dvd
    have e : (-(q * s024) + q * s013 * (q * s014)) * (-(q * s024) + q * s013 * (q * s014)) = q * s014 * (vv (-(q * s023)) (q * s013) (q * s014) * vv (-(q * s023)) (q * s013) (q * s014)) - (q * s014 * vv (-(q * s023)) (q * s013) (q * s014) * vv (-(q * s023)) (q * s013) (q * s014) - (-(q * s024) + q * s013 * (q * s014)) * (-(q * s024) + q * s013 * (q * s014))) := by grind
    rw [e]
    exact Int.dvd_sub (dl _ (pw_le_dvd (i := 2 * 5) (j := 5 + 5) (by decide) (dvd_mul2 hv hv))) (pw_le_dvd (by omega) r8)
  exact ⟨κ, fun x y w => near_F c3 c4 hv hg (pw_le_dvd (by omega) r5) (pw_le_dvd (by omega) r6) x y w (k1 x y w).1 (k1 x y w).2.1 (k1 x y w).2.2 hκ, gcross c3 hκ k1 k2⟩
theorem hL_zero {X Y W : Nat → Int} (hP0 : bP X Y W) (h : ∀ i, (2 ^ 42 : Int) ∣ gd (hL X Y W) i) : hP 0 X Y W = 0 ∧ hP 1 X Y W = 0 ∧ hP 2 X Y W = 0 ∧ hP 3 X Y W = 0 := ⟨small_zero (h 0) (hP_b hP0 0 (by decide)), small_zero (h 1) (hP_b hP0 1 (by decide)), small_zero (h 2) (hP_b hP0 2 (by decide)), small_zero (h 3) (hP_b hP0 3 (by decide))⟩
/-- a chart at the row itself: on the double conic, or nothing -/
theorem plain0 {X Y W e G : Nat → Int} {c k : Int} {b : Nat} (hS : SQ X Y W e G c) (hc : c ≠ 0) (he : ∃ i, i < 6 ∧ e i % 2 = 1) (hA : dvA b e X Y W) (hk : sP e X Y W 0 2 = 2 ^ b * k) (ok : k % 2 = 1) (hb : b ≤ 20) (hx : (X 0).natAbs < 64 ∧ (Y 0).natAbs < 64 ∧ (W 0).natAbs < 64) (hm : (m3 X Y W 1 0 0 0 1).natAbs < 4096 ∧ (m3 X Y W 0 1 0 0 1).natAbs < 4096 ∧ (m3 X Y W 0 0 1 0 1).natAbs < 4096) (hP0 : bP X Y W) : (d3 X Y W 0 1 2 ≠ 0 ∧ EA X Y W) ∨ ∀ x y w : Int, FF X Y W x y w = 0 := by
  obtain ⟨hd, a, o, q, s013, s014, s023, s024, s123, s124, ⟨h1, oo, h013, h014, h023, h024, h123, h124, hba, hq, r5, r6, r7, r8⟩, hn⟩ := chart_main hS hc he hA hk ok hb hx hm (Nat.lt_of_le_of_lt (hP0 0 1 2 (by decide) (by decide) (by decide)) (by decide))
  by_cases hv : (2 ^ 5 : Int) ∣ vv (-(q * s023)) (q * s013) (q * s014)
  · obtain ⟨g0, g1, g2, g3⟩ := hL_zero hP0 (NB_h hS hc he (hn hv))
    rcases row_exact hd g0 g1 g2 g3 with z | z
    · exact Or.inl ⟨hd, z⟩
    · exact Or.inr z
  · exact Or.inl ⟨hd, caseA h1 oo h013 h014 h023 h024 h123 h124 hb hba hP0 hq r5 r6 r7 r8 hv⟩
/-- with an odd middle: no double conic -/
theorem plain1 {X Y W e G : Nat → Int} {c k k3 : Int} {b : Nat} (hS : SQ X Y W e G c) (hc : c ≠ 0) (he : ∃ i, i < 6 ∧ e i % 2 = 1) (hA : dvA b e X Y W) (hk : sP e X Y W 0 2 = 2 ^ b * k) (ok : k % 2 = 1) (hk3 : sP e X Y W 0 3 = 2 ^ b * k3) (ok3 : k3 % 2 = 1) (hb : b ≤ 20) (hx : (X 0).natAbs < 64 ∧ (Y 0).natAbs < 64 ∧ (W 0).natAbs < 64) (hm : (m3 X Y W 1 0 0 0 1).natAbs < 4096 ∧ (m3 X Y W 0 1 0 0 1).natAbs < 4096 ∧ (m3 X Y W 0 0 1 0 1).natAbs < 4096) (hD : (d3 X Y W 0 1 2).natAbs < 2 ^ 16) : d3 X Y W 0 1 2 ≠ 0 ∧ NB X Y W ∧ ¬ EA X Y W := by
  obtain ⟨hd, a, o, q, s013, s014, s023, s024, s123, s124, ⟨h1, oo, h013, h014, h023, h024, h123, h124, hba, hq, r5, r6, r7, r8⟩, hn⟩ := chart_main hS hc he hA hk ok hb hx hm hD
  have hC := SQ_CK hS hc
  have o3 : s013 % 2 = 1 := by
    have I1 := sP_cmb e X Y W 0 0 1 2 3 _ _ _ _ (cramX X Y W 0 1 2 3) (cramY X Y W 0 1 2 3) (cramW X Y W 0 1 2 3)
    rw [sP_self, h1, h023, h013, h123, hk, hk3] at I1
    obtain ⟨t0, ht0⟩ := hC.1
    obtain ⟨t1, ht1⟩ := hC.2.1
    have hp : (2 ^ a : Int) ≠ 0 := Int.ne_of_gt (Int.pow_pos (by decide))
    have hp2 : (2 ^ b : Int) ≠ 0 := Int.ne_of_gt (Int.pow_pos (by decide))
    rw [ht0, ht1, show (2 ^ 32 : Int) = 2 ^ b * 2 ^ (32 - b) by rw [← Int.pow_add]; congr 1; omega] at I1
    obtain ⟨cc, hcc⟩ : ∃ cc, 32 - b = cc + 1 := ⟨31 - b, by omega⟩
    rw [hcc, Int.pow_succ] at I1
    have e1 : o * k3 = 2 * (2 * s123 * (2 ^ cc * t0)) - 2 * (s023 * (2 ^ cc * t1)) + s013 * k := by
      apply Int.eq_of_mul_eq_mul_left hp
      apply Int.eq_of_mul_eq_mul_left hp2
      grind
    have e2 : (o * k3) % 2 = 1 := by rw [Int.mul_emod, oo, ok3]; rfl
    rcases Int.emod_two_eq s013 with z | z
    · exfalso
      have e3 : (s013 * k) % 2 = 0 := by rw [Int.mul_emod, z, Int.zero_mul]; rfl
      omega
    · exact z
  have oq : q % 2 = 1 := by
    obtain ⟨t, ht⟩ := hq
    rcases Int.emod_two_eq q with z | z
    · exfalso
      have e3 : o * q = 2 * (2 ^ 63 * t) + 1 := by omega
      have e4 : (o * q) % 2 = 0 := by rw [Int.mul_emod, z, Int.mul_zero]; rfl
      omega
    · exact z
  have ox : (q * s013) % 2 = 1 := by rw [Int.mul_emod, oq, o3]; rfl
  have ou : ¬ (2 : Int) ∣ uu4 (q * s013) (q * s014) := fun h => by
    have h2 : (q * s013 * (q * s013)) % 2 = 1 := by rw [Int.mul_emod, ox]; rfl
    unfold uu4 at h
    omega
  refine ⟨hd, hn (Classical.byContradiction fun hv => ou ?_), fun hE => ?_⟩
  · obtain ⟨ν, v', hv1, hv2, hv3⟩ := small_nu (M := 0) hv
    exact pw_le_dvd (i := 1) (j := 32 - b + 1 - 2 * ν) (by omega) (near_u hv1 hv2 r7 r8 (by omega)).2
  · have h2 := hE.1
    rw [h1, h014, h013] at h2
    have hp : (2 ^ a : Int) ≠ 0 := Int.ne_of_gt (Int.pow_pos (by decide))
    have e1 : s013 * s013 = 4 * (o * s014) := by
      apply Int.eq_of_mul_eq_mul_left (Int.mul_ne_zero hp hp)
      grind
    have e2 : (s013 * s013) % 2 = 1 := by rw [Int.mul_emod, o3]; rfl
    omega
