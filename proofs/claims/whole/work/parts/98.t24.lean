def PT (M : Nat) (x1 x2 x3 y1 y2 y3 : Int) : Prop := ∃ T v : BitVec M, v * (1 - T) = 1 ∧ T = -(BitVec.ofInt M x2 * BitVec.ofInt M y2 * ((1 - T) * (1 - T))) ∧ BitVec.ofInt M x3 = -(BitVec.ofInt M x2 * BitVec.ofInt M x2 * BitVec.ofInt M x2 * ((1 - T) * (1 - T))) ∧ BitVec.ofInt M y3 = BitVec.ofInt M x2 * (2 - T) ∧ BitVec.ofInt M x1 = BitVec.ofInt M y2 * (2 - T) ∧ BitVec.ofInt M y1 = -(BitVec.ofInt M y2 * BitVec.ofInt M y2 * BitVec.ofInt M y2 * ((1 - T) * (1 - T)))
theorem t24_even {M : Nat} {x1 x2 x3 p q r : Int} (hM : 1 ≤ M) (h1 : (2 ^ M : Int) ∣ x3 + x2 * (2 * p)) (h4 : (2 ^ M : Int) ∣ 2 * p + x2 * x2 * r + x1 * x2 * (2 * p) + x1 * x3 + x2 * x3 * q) (or : r % 2 = 1) : (2 : Int) ∣ x2 := by
  have h1 : (2 ^ 1 : Int) ∣ _ := pw_le_dvd hM h1
  have h4 : (2 ^ 1 : Int) ∣ _ := pw_le_dvd hM h4
  obtain ⟨s, hs⟩ := h1
  obtain ⟨t, ht⟩ := h4
  apply sq_even
  apply two_dvd_mul or
  have e3 : x3 = 2 * (s - x2 * p) := by
    have : x2 * (2 * p) = 2 * (x2 * p) := by grind
    omega
  subst e3
  refine ⟨t - p - x1 * x2 * p - x1 * (s - x2 * p) - x2 * (s - x2 * p) * q, ?_⟩
  clear hs or hM
  grind
theorem t24_pt {M : Nat} {x1 x2 x3 y1 y2 y3 p q r : Int} (hM : 1 ≤ M) (or : r % 2 = 1) (h1 : (2 ^ M : Int) ∣ x3 + x2 * (2 * p)) (h2 : (2 ^ M : Int) ∣ y1 + y2 * q) (h3 : (2 ^ M : Int) ∣ (y3 + y2 * (2 * p)) + x1 * (2 * p) + 2 * x2 * r + x3 * q) (h5 : (2 ^ M : Int) ∣ (x1 + x2 * q) + y1 * (2 * p) + 2 * y2 * r + y3 * q) (h4 : (2 ^ M : Int) ∣ 2 * p + x2 * x2 * r + x1 * x2 * (2 * p) + x1 * x3 + x2 * x3 * q) (h6 : (2 ^ M : Int) ∣ q + y2 * y2 * r + y1 * y2 * (2 * p) + y1 * y3 + y2 * y3 * q) (h7 : (2 ^ M : Int) ∣ 1 + 2 * x2 * y2 * r + (x1 * y2 + x2 * y1) * (2 * p) + (x1 * y3 + x3 * y1) + (x2 * y3 + x3 * y2) * q + r) : PT M x1 x2 x3 y1 y2 y3 := by
  obtain ⟨t, ht⟩ := t24_even hM h1 h4 or
  have ev : ∃ w : Int, x2 * y2 * (r - 2 * p * q) = 2 * w := ⟨t * y2 * (r - 2 * p * q), by rw [ht]; grind⟩
  obtain ⟨w, hw⟩ := ev
  obtain ⟨u, hu⟩ := inv_ex (o := 1 + x2 * y2 * (r - 2 * p * q)) (by omega) M
  obtain ⟨v, hv⟩ := inv_ex (o := 1 - x2 * y2 * (r - 2 * p * q)) (by omega) M
  have b1' := bz h1
  have b2' := bz h2
  have b3' := bz h3
  have b4' := bz h4
  have b5' := bz h5
  have b6' := bz h6
  have b7' := bz h7
  have bu := bz hu
  have bv := bz hv
  simp only [badd, bmul, bsub, bneg, b1, b2] at b1' b2' b3' b4' b5' b6' b7' bu bv
  have bu : BitVec.ofInt M u * (1 + BitVec.ofInt M x2 * BitVec.ofInt M y2 * (BitVec.ofInt M r - 2 * BitVec.ofInt M p * BitVec.ofInt M q)) = 1 := by
    clear b1' b2' b3' b4' b5' b6' b7' bv
    grind
  have bv : BitVec.ofInt M v * (1 - BitVec.ofInt M x2 * BitVec.ofInt M y2 * (BitVec.ofInt M r - 2 * BitVec.ofInt M p * BitVec.ofInt M q)) = 1 := by
    clear b1' b2' b3' b4' b5' b6' b7' bu
    grind
  obtain ⟨T, h0, k1, k2, k3, k4, k5⟩ := t24_sys b1' b2' b3' b5' b4' b6' b7' bu bv
  rw [← h0] at bv
  exact ⟨T, _, bv, k1, k2, k3, k4, k5⟩
def T24 (b : Nat) (k : Int) (e X Y W : Nat → Int) : Prop := dvA b e X Y W ∧ sP e X Y W 0 4 = 2 ^ b * k ∧ k % 2 = 1 ∧ (2 ^ (b + 1) : Int) ∣ sP e X Y W 0 2 ∧ (2 ^ (b + 1) : Int) ∣ sP e X Y W 1 3 ∧ (2 ^ (b + 1) : Int) ∣ sP e X Y W 2 4
theorem t24_E2 {b : Nat} {k : Int} {e X Y W : Nat → Int} (hC : CK (2 ^ 32) e X Y W) (hb : b ≤ 20) (hT : T24 b k e X Y W) : ∃ k2, sE e X Y W 2 = 2 ^ b * k2 ∧ k2 % 2 = 1 := by
  obtain ⟨_, hk, ok, _, ⟨s, hs⟩, _⟩ := hT
  obtain ⟨t, ht⟩ := hC.2.2.2.2.1
  rw [hk, hs] at ht
  refine ⟨2 ^ (32 - b) * t - k - 2 * s, ?_, ?_⟩
  · have e2 : (2 ^ 32 : Int) = 2 ^ b * 2 ^ (32 - b) := by rw [← Int.pow_add]; congr 1; omega
    rw [e2, Int.pow_succ] at ht
    generalize sE e X Y W 2 = E at *
    clear hs ok hC hk e2
    grind
  · obtain ⟨c, hc⟩ : ∃ c, 32 - b = c + 1 := ⟨31 - b, by omega⟩
    rw [hc, Int.pow_succ]
    have : (2 : Int) ^ c * 2 * t = 2 * (2 ^ c * t) := by grind
    omega
theorem d3_sw (X Y W : Nat → Int) (i j k : Nat) : d3 X Y W i k j = -d3 X Y W i j k := by
  unfold d3
  grind
theorem d3_cy (X Y W : Nat → Int) (i j k : Nat) : d3 X Y W i j k = d3 X Y W k i j := by
  unfold d3
  grind
theorem t24_low {b a : Nat} {k : Int} {e X Y W : Nat → Int} (hC : CK (2 ^ 32) e X Y W) (he : ∃ i, i < 6 ∧ e i % 2 = 1) (hb : b ≤ 20) (hT : T24 b k e X Y W) (ha : a ≤ 11) (hd : (2 ^ a : Int) ∣ d3 X Y W 0 2 4) : (2 ^ a : Int) ∣ d3 X Y W 0 1 2 ∧ (2 ^ a : Int) ∣ d3 X Y W 0 1 4 ∧ (2 ^ a : Int) ∣ d3 X Y W 1 2 4 ∧ (2 ^ a : Int) ∣ d3 X Y W 0 2 3 ∧ (2 ^ a : Int) ∣ d3 X Y W 0 3 4 ∧ (2 ^ a : Int) ∣ d3 X Y W 2 3 4 := by
  obtain ⟨k2, hk2, ok2⟩ := t24_E2 hC hb hT
  obtain ⟨hA, hk, ok, q02, q13, q24⟩ := hT
  have mm : ∀ i j l, i < 5 → j < 5 → l < 5 → (2 ^ ((b + 1) / 2) : Int) ∣ d3 X Y W i j l := fun i j l hi hj hl => half_dvd (cont_p hA he hi hj hl)
  have r1 := t24_l (X := pm X) (Y := pm Y) (W := pm W) (e := e) (l := 3) (m := (b + 1) / 2) (a := a) hC.1 hC.2.2.2.2.2.2.2.2 (hA.2 0 1 (by decide) (by decide)) (hA.2 4 1 (by decide) (by decide)) (hA.1 1 (by decide)) q02 q24 hk ok hk2 ok2 hd (mm 2 4 1 (by decide) (by decide) (by decide)) (mm 0 2 1 (by decide) (by decide) (by decide)) (by omega) (by omega)
  have r3 := t24_l (X := pm X) (Y := pm Y) (W := pm W) (e := e) (l := 4) (m := (b + 1) / 2) (a := a) hC.1 hC.2.2.2.2.2.2.2.2 (hA.2 0 3 (by decide) (by decide)) (hA.2 4 3 (by decide) (by decide)) (hA.1 3 (by decide)) q02 q24 hk ok hk2 ok2 hd (mm 2 4 3 (by decide) (by decide) (by decide)) (mm 0 2 3 (by decide) (by decide) (by decide)) (by omega) (by omega)
  have r1 : (2 ^ a : Int) ∣ d3 X Y W 0 2 1 ∧ (2 ^ a : Int) ∣ d3 X Y W 0 4 1 ∧ (2 ^ a : Int) ∣ d3 X Y W 2 4 1 := r1
  have r3 : (2 ^ a : Int) ∣ d3 X Y W 0 2 3 ∧ (2 ^ a : Int) ∣ d3 X Y W 0 4 3 ∧ (2 ^ a : Int) ∣ d3 X Y W 2 4 3 := r3
  rw [d3_sw X Y W 0 1 2, d3_sw X Y W 0 1 4, d3_cy X Y W 2 4 1, Int.dvd_neg, Int.dvd_neg] at r1
  rw [d3_sw X Y W 0 3 4, d3_sw X Y W 2 3 4, Int.dvd_neg, Int.dvd_neg] at r3
  exact ⟨r1.1, r1.2.1, r1.2.2, r3.1, r3.2.1, r3.2.2⟩
theorem t24_ne {b : Nat} {k : Int} {e X Y W : Nat → Int} (hC : CK (2 ^ 32) e X Y W) (he : ∃ i, i < 6 ∧ e i % 2 = 1) (hb : b ≤ 20) (hT : T24 b k e X Y W) (hP : bP X Y W) (hp : ∃ i j k, i < 5 ∧ j < 5 ∧ k < 5 ∧ d3 X Y W i j k ≠ 0) : d3 X Y W 0 2 4 ≠ 0 := by
  intro h0
  obtain ⟨z1, z2, z3, z4, z5, z6⟩ := t24_low (a := 11) hC he hb hT (by decide) (by rw [h0]; exact ⟨0, rfl⟩)
  have s : ∀ {i j l}, i < 5 → j < 5 → l < 5 → (2 ^ 11 : Int) ∣ d3 X Y W i j l → d3 X Y W i j l = 0 := fun hi hj hl h => small_zero h (Nat.lt_of_le_of_lt (hP _ _ _ hi hj hl) (by decide))
  have z2 := s (by decide) (by decide) (by decide) z2
  have z5 := s (by decide) (by decide) (by decide) z5
  by_cases q : Y 0 * W 4 - Y 4 * W 0 = 0 ∧ -(X 0 * W 4 - X 4 * W 0) = 0 ∧ X 0 * Y 4 - X 4 * Y 0 = 0
  · have h1 := par_sq (e := e) q.1 (by omega) q.2.2
    have h2 : (2 ^ (2 * 32) : Int) ∣ sP e X Y W 0 4 * sP e X Y W 0 4 := by
      rw [h1, Int.mul_assoc]
      have h64 : (2 ^ (32 + 32) : Int) ∣ sE e X Y W 0 * sE e X Y W 4 := dvd_mul2 hC.1 hC.2.2.2.2.2.2.2.2
      rw [show (2 * 32 : Nat) = 32 + 32 by decide]
      exact dl _ h64
    have h3 := sq_dvd 32 _ h2
    obtain ⟨_, hk, ok, _⟩ := hT
    rw [hk] at h3
    have h4 : (2 ^ (1 + b) : Int) ∣ 2 ^ b * k * 1 := by
      rw [Int.mul_one]
      exact pw_le_dvd (by omega) h3
    have h5 := odd_cancel2 ok h4
    omega
  · obtain ⟨i, j, l, hi, hj, hl, hne⟩ := hp
    refine hne (plane0 q (five ?_ ?_ ?_ ?_ ?_) hi hj hl)
    · grind
    · unfold d3 at z2
      clear h0 z5 q hne
      grind
    · unfold d3 at h0
      clear z2 z5 q hne
      grind
    · unfold d3 at z5
      clear z2 h0 q hne
      grind
    · grind
