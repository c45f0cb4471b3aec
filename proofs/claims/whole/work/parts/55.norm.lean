/-! rows of longs and the whole numbers that they stand for -/
def ti (f : Nat → Int64) : Nat → Int := fun i => if i < 5 then (f i).toInt else 0
def bd (f : Nat → Int64) : Prop := ∀ i, i < 5 → (f i).toInt ≠ -9223372036854775808
theorem ti_hi (f : Nat → Int64) : ∀ i, 5 ≤ i → ti f i = 0 := fun i hi => if_neg (by omega)
theorem ti_lo (f : Nat → Int64) {i : Nat} (hi : i < 5) : ti f i = (f i).toInt := if_pos hi
theorem ti_0 {f : Nat → Int64} {i : Nat} (hi : i < 5) : ti f i = 0 ↔ f i = 0 := by
  rw [ti_lo f hi]
  exact ⟨fun h => Int64.toInt_inj.mp h, fun h => by rw [h]; rfl⟩
theorem ti_dg {f : Nat → Int64} {z : Int} (h1 : -1 ≤ z ∧ z ≤ 4) (h2 : ∀ k : Int, z < k → k ≤ 4 → f k.toNat = 0) (h3 : 0 ≤ z → f z.toNat ≠ 0) : dgp (ti f) (z + 1).toNat := by
  refine ⟨fun i hi => ?_, fun h => ?_⟩
  · by_cases q : i < 5
    · rw [ti_0 q]
      have := h2 (i : Int) (by omega) (by omega)
      rw [Int.toNat_natCast] at this
      exact this
    · exact ti_hi f i (by omega)
  · have e : (z + 1).toNat - 1 = z.toNat := by omega
    rw [e]
    intro q
    exact h3 (by omega) ((ti_0 (by omega)).mp q)
theorem l_wrap {r : Int} (h : r.natAbs < 18446744073709551616) (h0 : r ≠ 0) : zL r ≠ 0 := fun q => by
  have h1 := congrArg Int64.toInt q
  unfold zL at h1
  rw [Int64.toInt_ofInt] at h1
  have h2 : (r.bmod Int64.size) = 0 := h1
  have h3 : ((Int64.size : Nat) : Int) ∣ r := Int.dvd_of_bmod_eq_zero h2
  obtain ⟨k, hk⟩ := h3
  have h4 : ((Int64.size : Nat) : Int) = 18446744073709551616 := rfl
  rw [h4] at hk
  omega
/-- the greatest common divisor as it is computed, also of the least long -/
def cgX (a b r : Int64) : Prop := cgE a b r ∧ (a = 0 → r = lab b) ∧ (b = 0 → r = lab a)
def CGr (f : Nat → Int64) : Nat → Int64 → Prop
  | 0, x => x = 0
  | k + 1, x => ∃ y, CGr f k y ∧ cgX y (f k) x
theorem CGr_e {f : Nat → Int64} : ∀ (n : Nat) (x : Int64), (∀ i, i < n → (f i).toInt ≠ -9223372036854775808) → CGr f n x → 0 ≤ x.toInt ∧ (∀ i, i < n → x.toInt ∣ (f i).toInt) ∧ ∀ m : Nat, (∀ i, i < n → (m : Int) ∣ (f i).toInt) → (m : Int) ∣ x.toInt
  | 0, x, _, h => by
    have h : x = 0 := h
    subst h
    exact ⟨by decide, fun i hi => by omega, fun m _ => Int.dvd_zero _⟩
  | k + 1, x, hb, h => by
    obtain ⟨y, h1, h2⟩ := h
    obtain ⟨i1, i2, i3⟩ := CGr_e k y (fun i hi => hb i (by omega)) h1
    have e := h2.1.2 (by omega) (hb k (by omega))
    refine ⟨by omega, fun i hi => ?_, fun m hm => ?_⟩
    · rw [e]
      by_cases q : i = k
      · rw [q]; exact Int.gcd_dvd_right _ _
      · exact Int.dvd_trans (Int.gcd_dvd_left _ _) (i2 i (by omega))
    · rw [e]
      exact Int.dvd_coe_gcd (i3 m (fun i hi => hm i (by omega))) (hm k (by omega))
theorem lab_lab (x : Int64) : lab (lab x) = lab x := by
  unfold lab
  by_cases h : x < 0
  · rw [if_pos h]
    by_cases q : -x < 0
    · rw [if_pos q]
      by_cases m : x.toInt = -9223372036854775808
      · have e : x = Int64.minValue := Int64.toInt_inj.mp m
        subst e
        rfl
      · exfalso
        have h1 := Int64.le_toInt x
        have h2 := Int64.toInt_lt x
        rw [Int64.lt_iff_toInt_lt, l0] at h q
        rw [Int64.toInt_neg, Int.bmod_eq_of_le (by omega) (by omega)] at q
        omega
    · rw [if_neg q]
  · rw [if_neg h, if_neg h]
theorem CGr_c {f : Nat → Int64} : ∀ (n : Nat) (x : Int64), (∀ i, 1 ≤ i → i < n + 1 → f i = 0) → CGr f (n + 1) x → x = lab (f 0)
  | 0, x, _, h => by
    obtain ⟨y, h1, h2⟩ := h
    exact h2.2.1 h1
  | n + 1, x, hz, h => by
    obtain ⟨y, h1, h2⟩ := h
    have e := CGr_c n y (fun i a b => hz i a (by omega)) h1
    rw [h2.2.2 (hz (n + 1) (by omega) (by omega)), e, lab_lab]
/-- f2 is f, freed of its numbers' common divisor, its leading number made positive -/
def NPm (f f2 : Nat → Int64) : Prop := ∃ (n : Nat) (x y : Int64), n ≤ 5 ∧ (∀ i, n ≤ i → i < 5 → f i = 0) ∧ CGr f n x ∧ (y = x ∨ y = -x) ∧ (∀ d, dgp (ti f) (d + 1) → (f d < 0 → y = -x) ∧ (¬ f d < 0 → y = x)) ∧ (y = 0 → ∀ i, i < 5 → f2 i = f i) ∧ (y ≠ 0 → ∀ i, i < 5 → f2 i = f i / y)
theorem norm {f f2 : Nat → Int64} {R : Nat → Int} (hr : ∀ i, i < 5 → f i = zL (R i)) (hz : ∀ i, 5 ≤ i → R i = 0) (h64 : ∀ i, (R i).natAbs < 18446744073709551616) (h63 : (∃ i, 1 ≤ i ∧ R i ≠ 0) → ∀ i, (R i).natAbs < 9223372036854775808) (h : NPm f f2) : NZ R (ti f2) ∧ bd f2 ∧ ∀ d, dgp (ti f2) (d + 1) → 0 < ti f2 d := by
  obtain ⟨n, x, y, hn, hn0, hx, hy, hs, e0, e1⟩ := h
  by_cases hA : ∃ i, 1 ≤ i ∧ R i ≠ 0
  · have h63 := h63 hA
    have hex : ∀ i, i < 5 → (f i).toInt = R i := fun i hi => by
      have := h63 i
      rw [hr i hi, zL_toInt (by omega) (by omega)]
    have hRt : ∀ i, ti f i = R i := fun i => by
      by_cases q : i < 5
      · rw [ti_lo f q, hex i q]
      · rw [ti_hi f i (by omega), hz i (by omega)]
    obtain ⟨x0, xd, xg⟩ := CGr_e n x (fun i hi => by have := h63 i; rw [hex i (by omega)]; omega) hx
    have xd5 : ∀ i, x.toInt ∣ R i := fun i => by
      by_cases q : i < n
      · rw [← hex i (by omega)]; exact xd i q
      · by_cases q5 : i < 5
        · rw [← hex i q5, hn0 i (by omega) q5]; exact Int.dvd_zero _
        · rw [hz i (by omega)]; exact Int.dvd_zero _
    have xpos : 0 < x.toInt := by
      obtain ⟨i, -, hi⟩ := hA
      rcases Int.lt_or_eq_of_le x0 with q | q
      · exact q
      · exfalso
        apply hi
        have := xd5 i
        rw [← q] at this
        exact Int.zero_dvd.mp this
    have hx2 := Int64.toInt_lt x
    have yI : y.toInt = x.toInt ∨ y.toInt = -x.toInt := by
      rcases hy with q | q
      · rw [q]; exact Or.inl rfl
      · right
        rw [q, Int64.toInt_neg, Int.bmod_eq_of_le (by omega) (by omega)]
    have y0 : y.toInt ≠ 0 := by omega
    have hy0 : y ≠ 0 := fun q => y0 (by rw [q]; rfl)
    have hq : ∀ i, R i = y.toInt * ti f2 i := fun i => by
      by_cases q : i < 5
      · have h1 := h63 i
        rw [ti_lo f2 q, e1 hy0 i q, Int64.toInt_div_of_ne_left _ _ (fun z => by
          have h2 := hex i q
          rw [z, Int64.toInt_minValue] at h2
          omega), hex i q]
        have hd : y.toInt ∣ R i := by
          rcases yI with z | z
          · rw [z]; exact xd5 i
          · rw [z]; exact Int.neg_dvd.mpr (xd5 i)
        obtain ⟨k, hk⟩ := hd
        rw [hk, Int.mul_tdiv_cancel_left _ y0]
      · rw [hz i (by omega), ti_hi f2 i (by omega), Int.mul_zero]
    have hpr : Pr (ti f2) := fun m hm => by
      have h1 : ((m * x.toInt.toNat : Nat) : Int) ∣ x.toInt := xg _ (fun i hi => by
        obtain ⟨k, hk⟩ := hm i
        rw [hex i (by omega), hq i, hk]
        have e : ((m * x.toInt.toNat : Nat) : Int) = (m : Int) * x.toInt := by rw [Int.natCast_mul, Int.toNat_of_nonneg x0]
        rw [e]
        rcases yI with z | z
        · exact ⟨k, by rw [z]; grind⟩
        · exact ⟨-k, by rw [z]; grind⟩)
      have h2 : m * x.toInt.toNat ∣ x.toInt.toNat := by
        have := Int.ofNat_dvd_left.mp h1
        rw [show x.toInt.natAbs = x.toInt.toNat by omega] at this
        exact this
      have h3 : 0 < x.toInt.toNat := by omega
      have h4 := Nat.le_of_dvd h3 h2
      have h5 : m ≤ 1 := Nat.le_of_not_lt fun q => by
        have : 2 * x.toInt.toNat ≤ m * x.toInt.toNat := Nat.mul_le_mul_right _ q
        omega
      have h6 : m ≠ 0 := fun q => by
        rw [q, Nat.zero_mul] at h2
        have := Nat.eq_zero_of_zero_dvd h2
        omega
      omega
    refine ⟨Or.inr ⟨hpr, y.toInt, y0, hq⟩, fun i hi q => ?_, fun d hd => ?_⟩
    · have h1 := h63 i
      have h2 := hq i
      rw [ti_lo f2 hi, q] at h2
      have h3 : (y.toInt * -9223372036854775808).natAbs = y.toInt.natAbs * 9223372036854775808 := by rw [Int.natAbs_mul]; rfl
      have h4 := Int.natAbs_pos.mpr y0
      rw [h2, h3] at h1
      omega
    · have hfd : dgp (ti f) (d + 1) := ⟨fun i hi => by rw [hRt i, hq i, hd.1 i hi, Int.mul_zero], fun _ => by
        have h1 := hd.2 (Nat.succ_pos d)
        rw [hRt, hq]
        exact Int.mul_ne_zero y0 h1⟩
      have hd5 : d < 5 := Nat.lt_of_not_le fun q => hd.2 (Nat.succ_pos d) (ti_hi f2 d q)
      obtain ⟨s1, s2⟩ := hs d hfd
      have h1 := hq d
      have h2 : ti f2 d ≠ 0 := hd.2 (Nat.succ_pos d)
      by_cases q : f d < 0
      · have h3 := s1 q
        have h4 : y.toInt = -x.toInt := by rw [h3, Int64.toInt_neg, Int.bmod_eq_of_le (by omega) (by omega)]
        rw [Int64.lt_iff_toInt_lt, l0, hex d hd5] at q
        rcases Int.lt_or_gt_of_ne h2 with z | z
        · have : 0 < (-y.toInt) * (-(ti f2 d)) := Int.mul_pos (by omega) (by omega)
          rw [Int.neg_mul_neg] at this
          omega
        · exact z
      · have h3 := s2 q
        rw [Int64.lt_iff_toInt_lt, l0, hex d hd5] at q
        rw [h3] at h1
        rcases Int.lt_or_gt_of_ne h2 with z | z
        · have : 0 < x.toInt * (-(ti f2 d)) := Int.mul_pos xpos (by omega)
          rw [Int.mul_neg] at this
          omega
        · exact z
  · have hR1 : ∀ i, 1 ≤ i → R i = 0 := fun i hi => Classical.byContradiction fun q => hA ⟨i, hi, q⟩
    have hf1 : ∀ i, 1 ≤ i → i < 5 → f i = 0 := fun i a b => by rw [hr i b, hR1 i a]; rfl
    have f2z : ∀ i, i < 5 → f i = 0 → f2 i = 0 := fun i hi q => by
      by_cases z : y = 0
      · rw [e0 z i hi, q]
      · rw [e1 z i hi, q, Int64.zero_div]
    by_cases h0 : R 0 = 0
    · have z2 : ∀ i, ti f2 i = 0 := fun i => by
        by_cases q : i < 5
        · rw [ti_0 q]
          refine f2z i q ?_
          cases i with
          | zero => rw [hr 0 q, h0]; rfl
          | succ i => exact hf1 (i + 1) (by omega) q
        · exact ti_hi f2 i (by omega)
      refine ⟨Or.inl ⟨fun i => ?_, z2⟩, fun i hi q => ?_, fun d hd => absurd (z2 d) (hd.2 (Nat.succ_pos d))⟩
      · cases i with
        | zero => exact h0
        | succ i => exact hR1 (i + 1) (by omega)
      · have := z2 i
        rw [ti_lo f2 hi, q] at this
        exact absurd this (by decide)
    · have hf0 : f 0 ≠ 0 := by rw [hr 0 (by decide)]; exact l_wrap (h64 0) h0
      have hn1 : n ≠ 0 := fun q => hf0 (hn0 0 (by omega) (by decide))
      obtain ⟨m, rfl⟩ : ∃ m, n = m + 1 := ⟨n - 1, by omega⟩
      have ex := CGr_c m x (fun i a b => hf1 i a (by omega)) hx
      have hd1 : dgp (ti f) (0 + 1) := ⟨fun i hi => by
          by_cases q : i < 5
          · rw [ti_0 q]; exact hf1 i hi q
          · exact ti_hi f i (by omega), fun _ q => hf0 ((ti_0 (by decide)).mp q)⟩
      have ey : y = f 0 := by
        obtain ⟨s1, s2⟩ := hs 0 hd1
        by_cases q : f 0 < 0
        · rw [s1 q, ex]
          unfold lab
          rw [if_pos q, Int64.neg_neg]
        · rw [s2 q, ex]
          unfold lab
          rw [if_neg q]
      have e20 : f2 0 = 1 := by
        rw [e1 (by rw [ey]; exact hf0) 0 (by decide), ey, Int64.div_self, if_neg hf0]
      have t0 : ti f2 0 = 1 := by rw [ti_lo f2 (by decide), e20]; rfl
      have t1 : ∀ i, 1 ≤ i → ti f2 i = 0 := fun i hi => by
        by_cases q : i < 5
        · rw [ti_0 q]; exact f2z i q (hf1 i hi q)
        · exact ti_hi f2 i (by omega)
      refine ⟨Or.inr ⟨fun m hm => ?_, R 0, h0, fun i => ?_⟩, fun i hi q => ?_, fun d hd => ?_⟩
      · have := hm 0
        rw [t0] at this
        have h1 := Int.ofNat_dvd_left.mp this
        exact Nat.dvd_one.mp h1
      · cases i with
        | zero => rw [t0, Int.mul_one]
        | succ i => rw [t1 (i + 1) (by omega), Int.mul_zero]; exact hR1 (i + 1) (by omega)
      · cases i with
        | zero => rw [e20] at q; exact absurd q (by decide)
        | succ i =>
          have := t1 (i + 1) (by omega)
          rw [ti_lo f2 hi, q] at this
          exact absurd this (by decide)
      · cases d with
        | zero => rw [t0]; decide
        | succ d => exact absurd (t1 (d + 1) (by omega)) (hd.2 (Nat.succ_pos _))
