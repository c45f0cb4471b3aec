/-! tell's end -/
def TE (w tr : Nat → Int64) (dg : Int32) : Prop := ∃ (f : Nat → Int64) (c d k : Int), c ≠ 0 ∧ (∀ i, i < 49 → (w i).toInt = c * (f i).toInt) ∧ lprim (lsf f 49) ∧ 1 ≤ d ∧ SU f d ∧ (∃ q : Int, 0 ≤ q ∧ q < 49 ∧ q / 7 + q % 7 = d ∧ f q.toNat ≠ 0) ∧ 1 ≤ k ∧ dg = zI (d / k) ∧ ((k = 1 ∧ ∀ i, i < 49 → tr i = f i) ∨ (2 ≤ k ∧ PWy tr f k d))
def sz60 (f : Nat → Int64) : Prop := ∀ q : Int, 0 ≤ q → q < 49 → (f q.toNat).toInt.natAbs < 1152921504606846976
theorem CGr_k {f g : Nat → Int64} : ∀ (n : Nat) (x : Int64), (∀ i, i < n → f i = g i) → CGr f n x → CGr g n x
  | 0, _, _, h => h
  | n + 1, x, h, ⟨y, h1, h2⟩ => ⟨y, CGr_k n y (fun i hi => h i (by omega)) h1, by rw [← h n (by omega)]; exact h2⟩
theorem cgr_u {m m' : Nat → Int64} {i : Int} {x r y : Int64} (hi : 0 ≤ i) (e : m' = vp_updL m i.toNat y) (h : CGr m i.toNat x) (hr : cgX x (m' i.toNat) r) : CGr m' (i + 1).toNat r := CGr_s hi (CGr_k _ _ (fun j hj => by rw [e]; exact (if_neg (by omega)).symm) h) hr
theorem wc_s {m m' M : Nat → Int64} {i fr : Int} (hi : 0 ≤ i) (e : m' = vp_updL m i.toNat (M (fr + i).toNat)) (h : ∀ q : Int, 0 ≤ q → q < i → m q.toNat = M (fr + q).toNat) : ∀ q : Int, 0 ≤ q → q < i + 1 → m' q.toNat = M (fr + q).toNat := fun q a b => by
  rw [e, up_at hi a]
  by_cases z : q = i
  · rw [if_pos z, z]
  · rw [if_neg z]
    exact h q a (by omega)
theorem fo_y {f : Nat → Int64} {z d : Int} (h : (0 ≤ z ∧ z < 49 ∧ f z.toNat ≠ 0 ∧ ∀ a b : Int, 0 ≤ a → a < 7 → 0 ≤ b → b < 7 → f (7 * a + b).toNat ≠ 0 → a + b ≤ z / 7 + z % 7) ∨ (z = -1 ∧ ∀ a b : Int, 0 ≤ a → a < 7 → 0 ≤ b → b < 7 → f (7 * a + b).toNat = 0)) (hd : d2x f d) (h0 : 0 ≤ d) (hv : ∀ a b : Int, 0 ≤ a → a < 7 → 0 ≤ b → b < 7 → f (7 * a + b).toNat ≠ 0 → a + b ≤ d) : 0 ≤ z ∧ z < 49 ∧ f z.toNat ≠ 0 ∧ z / 7 + z % 7 = d := by
  rcases h with ⟨h1, h2, h3, h4⟩ | ⟨_, h⟩
  · exact ⟨h1, h2, h3, d2_uq hd h0 hv ⟨h1, h2⟩ h3 h4⟩
  · obtain ⟨a, b, g1, g2, g3, g4, _, g6⟩ := hd h0
    exact absurd (h a b g1 g2 g3 g4) g6
theorem sz_x {f : Nat → Int64} {x : Int64} {z : Int} (hs : sz60 f) (h : CGr f 49 x) (hz : 0 ≤ z ∧ z < 49) (hne : f z.toNat ≠ 0) : ¬ x = 0 := fun e => by
  obtain ⟨_, h2, _⟩ := CGr_e 49 x (fun i hi => by
    have := hs (i : Int) (by omega) (by omega)
    rw [Int.toNat_natCast] at this
    omega) h
  have := h2 z.toNat (by omega)
  rw [e, show (0 : Int64).toInt = 0 from rfl] at this
  exact hne (i64_z (Int.zero_dvd.mp this))
theorem d2_6 {f : Nat → Int64} {d : Int} (hd : d2x f d) (h0 : 0 ≤ d) (h : SU f 6) : d ≤ 6 := by
  obtain ⟨a, b, g1, g2, g3, g4, g5, g6⟩ := hd h0
  have := SU_le h (q := 7 * a + b) (by omega) (by omega) g6
  omega
theorem te_div {w : Nat → Int64} {x y : Int64} (hs : sz60 w) (h : CGr w 49 x) (hy0 : ¬ y = 0) (hy : y = x ∨ y = -x) {f : Nat → Int64} (hf : ∀ q : Int, 0 ≤ q → q < 49 → f q.toNat = w q.toNat / y) : y.toInt ≠ 0 ∧ (∀ i, i < 49 → (w i).toInt = y.toInt * (f i).toInt) ∧ lprim (lsf f 49) := by
  have hb : ∀ i, i < 49 → (w i).toInt.natAbs < 1152921504606846976 := fun i hi => by
    have := hs (i : Int) (by omega) (by omega)
    rw [Int.toNat_natCast] at this
    exact this
  obtain ⟨h1, h2, h3⟩ := CGr_e 49 x (fun i hi => by have := hb i hi; omega) h
  have hxb := i64_b x
  have ey : y.toInt = x.toInt ∨ y.toInt = -x.toInt := by
    rcases hy with e | e
    · exact Or.inl (by rw [e])
    · right
      rw [e, Int64.toInt_neg, Int.bmod_eq_of_le (by omega) (by omega)]
  have y0 : y.toInt ≠ 0 := fun z => hy0 (i64_z z)
  have dv : ∀ i, i < 49 → y.toInt ∣ (w i).toInt := fun i hi => by
    rcases ey with e | e
    · rw [e]
      exact h2 i hi
    · rw [e]
      exact Int.neg_dvd.mpr (h2 i hi)
  have hw : ∀ i, i < 49 → (w i).toInt = y.toInt * (f i).toInt := fun i hi => by
    obtain ⟨q, hq⟩ := dv i hi
    have e := hf (i : Int) (by omega) (by omega)
    rw [Int.toNat_natCast] at e
    have b := hb i hi
    have hqb : q.natAbs < 1152921504606846976 := by
      rw [hq, Int.natAbs_mul] at b
      have h5 : 1 ≤ y.toInt.natAbs := by omega
      have := Nat.mul_le_mul h5 (Nat.le_refl q.natAbs)
      omega
    have : (f i).toInt = q := by
      rw [e, Int64.toInt_div, hq, Int.mul_tdiv_cancel_left _ y0]
      exact Int.bmod_eq_of_le (by omega) (by omega)
    rw [this, hq]
  refine ⟨y0, hw, fun p hp => Classical.byContradiction fun z => ?_⟩
  have hall : ∀ j, j < 49 → (p : Int) ∣ (f j).toInt := fun j hj => by
    have : (p : Int) ∣ gd (lsf f 49) j := Classical.byContradiction fun q => z ⟨j, q⟩
    rw [gd_lsf, if_pos hj] at this
    exact this
  have hx : ((p * x.toInt.natAbs : Nat) : Int) ∣ x.toInt := h3 _ (fun i hi => by
    obtain ⟨q, hq⟩ := hall i hi
    rw [hw i hi, hq]
    have e2 : ((p * x.toInt.natAbs : Nat) : Int) = p * x.toInt := by
      rw [Int.natCast_mul]
      congr 1
      omega
    rw [e2]
    rcases ey with e | e
    · exact ⟨q, by rw [e]; grind⟩
    · exact ⟨-q, by rw [e]; grind⟩)
  have hp2 := hp.1
  have x1 : 1 ≤ x.toInt.natAbs := by omega
  have hx2 : p * x.toInt.natAbs ∣ x.toInt.natAbs := Int.ofNat_dvd_left.mp hx
  have h6 := Nat.le_of_dvd (by omega) hx2
  have h7 := Nat.mul_le_mul hp2 (Nat.le_refl x.toInt.natAbs)
  omega
theorem te_end {w f tr r : Nat → Int64} {x y : Int64} {d k : Int} {dg : Int32} (hs : sz60 w) (h : CGr w 49 x) (hy0 : ¬ y = 0) (hy : y = x ∨ y = -x) (hf : ∀ q : Int, 0 ≤ q → q < 49 → f q.toNat = w q.toNat / y) (hd : 1 ≤ d) (h2 : d2x w d) (h3 : ∀ a b : Int, 0 ≤ a → a < 7 → 0 ≤ b → b < 7 → w (7 * a + b).toNat ≠ 0 → a + b ≤ d) (hk : 1 ≤ k) (hdg : dg = zI (d / k)) (hr : k = 1 ∨ (2 ≤ k ∧ PWy r f k d)) (htr : ∀ q : Int, 0 ≤ q → q < 49 → tr q.toNat = if 1 < k then r q.toNat else f q.toNat) {w' : Nat → Int64} (hw' : ∀ q : Int, 0 ≤ q → q < 49 → w q.toNat = w' q.toNat) : TE w' tr dg := by
  obtain ⟨y0, hw, hp⟩ := te_div hs h hy0 hy hf
  have n : ∀ i, i < 49 → w i = w' i := fun i hi => by
    have := hw' (i : Int) (by omega) (by omega)
    rw [Int.toNat_natCast] at this
    exact this
  have z0 : ∀ i, i < 49 → (w i = 0 ↔ f i = 0) := fun i hi => by
    have e := hw i hi
    constructor
    · intro z
      rw [z, show (0 : Int64).toInt = 0 from rfl] at e
      rcases Int.mul_eq_zero.mp e.symm with q | q
      · exact absurd q y0
      · exact i64_z q
    · intro z
      rw [z, show (0 : Int64).toInt = 0 from rfl, Int.mul_zero] at e
      exact i64_z e
  refine ⟨f, y.toInt, d, k, y0, fun i hi => by rw [← n i hi]; exact hw i hi, hp, hd, fun q a b c => ?_, ?_, hk, hdg, ?_⟩
  · exact (z0 q.toNat (by omega)).mp (d2_su h3 q a b c)
  · obtain ⟨a, b, g1, g2, g3, g4, g5, g6⟩ := h2 (by omega)
    exact ⟨7 * a + b, by omega, by omega, by omega, fun z => g6 ((z0 _ (by omega)).mpr z)⟩
  · have nt : ∀ i, i < 49 → tr i = if 1 < k then r i else f i := fun i hi => by
      have := htr (i : Int) (by omega) (by omega)
      rw [Int.toNat_natCast] at this
      exact this
    rcases hr with e | ⟨e, D, p1, p2, p3, p4, p5⟩
    · exact Or.inl ⟨e, fun i hi => by rw [nt i hi, if_neg (by omega)]⟩
    · have ntq : ∀ q : Int, 0 ≤ q → q < 49 → tr q.toNat = r q.toNat := fun q a b => by rw [htr q a b, if_pos (by omega)]
      refine Or.inr ⟨e, D, p1, p2, SU_c rfl ntq p3, fun q a b => ?_, ?_⟩
      · rw [ntq q a b]
        exact p4 q a b
      · exact (CG.ex (fun t => by rw [pw_eq ntq t])).tr p5
theorem te_0 {w : Nat → Int64} {d : Int} (hd : d < 1) (h3 : ∀ a b : Int, 0 ≤ a → a < 7 → 0 ≤ b → b < 7 → w (7 * a + b).toNat ≠ 0 → a + b ≤ d) (q : Int) (h1 : 1 ≤ q) (h2 : q < 49) : w q.toNat = 0 := d2_su h3 q (by omega) h2 (by omega)
theorem te_1 {w : Nat → Int64} {d : Int} (hd : 1 ≤ d) (h2 : d2x w d) : ∃ q : Int, 1 ≤ q ∧ q < 49 ∧ w q.toNat ≠ 0 := by
  obtain ⟨a, b, g1, g2, g3, g4, g5, g6⟩ := h2 (by omega)
  exact ⟨7 * a + b, by omega, by omega, g6⟩
theorem tr_s {m m' r f : Nat → Int64} {i k : Int} {x : Int64} (hi : 0 ≤ i) (e : m' = vp_updL m i.toNat x) (hx : x = if 1 < k then r i.toNat else f i.toNat) (h : ∀ q : Int, 0 ≤ q → q < i → m q.toNat = if 1 < k then r q.toNat else f q.toNat) : ∀ q : Int, 0 ≤ q → q < i + 1 → m' q.toNat = if 1 < k then r q.toNat else f q.toNat := fun q a b => by
  rw [e, up_at hi a]
  by_cases z : q = i
  · rw [if_pos z, z]
    exact hx
  · rw [if_neg z]
    exact h q a (by omega)
theorem t1_s {m m' m0 : Nat → Int64} {i : Int} {x : Int64} (hi : 0 ≤ i) (e : m' = vp_updL m (49 * 1 + i).toNat x) (h : ∀ q : Int, 0 ≤ q → q < 49 → m q.toNat = m0 q.toNat) : ∀ q : Int, 0 ≤ q → q < 49 → m' q.toNat = m0 q.toNat := fun q a b => by
  rw [e, up_at (by omega) a, if_neg (by omega)]
  exact h q a b
