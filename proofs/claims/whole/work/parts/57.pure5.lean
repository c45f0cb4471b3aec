/-! what the loops keep, for the exact contracts -/
def cgJ (a b x y : Int64) : Prop := (a = 0 → (x = 0 ∧ y = lab b) ∨ (x = lab b ∧ y = 0)) ∧ (b = 0 → x = lab a ∧ y = 0)
theorem lab_z : lab 0 = 0 := rfl
theorem cgJ_0 (a b : Int64) : cgJ a b (lab a) (lab b) := ⟨fun h => Or.inl ⟨by rw [h]; rfl, rfl⟩, fun h => ⟨rfl, by rw [h]; rfl⟩⟩
theorem cgJ_s {a b x y : Int64} (hy : ¬ y = 0) (h : cgJ a b x y) : cgJ a b y (x - x / y * y) := by
  refine ⟨fun ha => ?_, fun hb => absurd (h.2 hb).2 hy⟩
  rcases h.1 ha with ⟨q1, q2⟩ | ⟨-, q2⟩
  · exact Or.inr ⟨q2, by rw [q1, Int64.zero_div, Int64.zero_mul]; rfl⟩
  · exact absurd q2 hy
theorem cgJ_e {a b x y : Int64} (hy : y = 0) (hc : cgE a b x) (h : cgJ a b x y) : cgX a b x := by
  refine ⟨hc, fun ha => ?_, fun hb => (h.2 hb).1⟩
  rcases h.1 ha with ⟨q1, q2⟩ | ⟨q1, -⟩
  · rw [q1, ← q2, hy]
  · exact q1
theorem CGr_s {f : Nat → Int64} {i : Int} {x r : Int64} (hi : 0 ≤ i) (h : CGr f i.toNat x) (hr : cgX x (f i.toNat) r) : CGr f (i + 1).toNat r := by
  have e : (i + 1).toNat = i.toNat + 1 := by omega
  rw [e]
  exact ⟨x, h, hr⟩
theorem np_zero {f : Nat → Int64} {z : Int} (h1 : z < 0) (h2 : ∀ k : Int, z < k → k ≤ 4 → f k.toNat = 0) : NPm f f := by
  have hz : ∀ i, i < 5 → f i = 0 := fun i hi => by
    have := h2 (i : Int) (by omega) (by omega)
    rw [Int.toNat_natCast] at this
    exact this
  exact ⟨0, 0, 0, by omega, fun i _ hi => hz i hi, rfl, Or.inl rfl, fun d hd => ⟨fun _ => rfl, fun _ => rfl⟩, fun _ _ _ => rfl, fun q => absurd rfl q⟩
/-- the sign of the common divisor -/
def sgn (t x y : Int64) : Prop := (t < 0 → y = -x) ∧ (¬ t < 0 → y = x)
theorem sgn_n {t x : Int64} (h : ¬ (0 : Int64) ≤ t) : sgn t x (-x) := ⟨fun _ => rfl, fun q => absurd (Int64.not_le.mp h) q⟩
theorem sgn_p {t x : Int64} (h : (0 : Int64) ≤ t) : sgn t x x := ⟨fun q => absurd h (Int64.not_le.mpr q), fun _ => rfl⟩
theorem np_end {f f2 : Nat → Int64} {z : Int} {x y : Int64} (h1 : -1 ≤ z ∧ z ≤ 4) (h2 : ∀ k : Int, z < k → k ≤ 4 → f k.toNat = 0) (h3 : 0 ≤ z → f z.toNat ≠ 0) (h4 : 0 ≤ z) (hx : CGr f (z + 1).toNat x) (hs : sgn (f z.toNat) x y) (e0 : y = 0 → ∀ i, i < 5 → f2 i = f i) (e1 : y ≠ 0 → ∀ j : Int, 0 ≤ j → j ≤ z → f2 j.toNat = f j.toNat / y) (e2 : ∀ j : Int, z < j → j ≤ 4 → f2 j.toNat = f j.toNat) : NPm f f2 := by
  refine ⟨(z + 1).toNat, x, y, by omega, fun i hi h5 => ?_, hx, ?_, fun d hd => ?_, e0, fun hy i hi => ?_⟩
  · have := h2 (i : Int) (by omega) (by omega)
    rw [Int.toNat_natCast] at this
    exact this
  · by_cases q : f z.toNat < 0
    · exact Or.inr (hs.1 q)
    · exact Or.inl (hs.2 q)
  · have e : d + 1 = (z + 1).toNat := dgp_uq hd (ti_dg h1 h2 h3)
    have e3 : d = z.toNat := by omega
    rw [e3]
    exact hs
  · by_cases q : (i : Int) ≤ z
    · have := e1 hy (i : Int) (by omega) q
      rw [Int.toNat_natCast] at this
      exact this
    · have a1 := e2 (i : Int) (by omega) (by omega)
      have a2 := h2 (i : Int) (by omega) (by omega)
      rw [Int.toNat_natCast] at a1 a2
      rw [a1, a2, Int64.zero_div]
theorem ti_ext {f g : Nat → Int64} (h : ∀ j : Int, 0 ≤ j → j ≤ 4 → f j.toNat = g j.toNat) : ti f = ti g := funext fun i => by
  by_cases q : i < 5
  · have := h (i : Int) (by omega) (by omega)
    rw [Int.toNat_natCast] at this
    rw [ti_lo f q, ti_lo g q, this]
  · rw [ti_hi f i (by omega), ti_hi g i (by omega)]
theorem bd_ext {f g : Nat → Int64} (h : ∀ j : Int, 0 ≤ j → j ≤ 4 → f j.toNat = g j.toNat) (hg : bd g) : bd f := fun i hi => by
  have := h (i : Int) (by omega) (by omega)
  rw [Int.toNat_natCast] at this
  rw [this]
  exact hg i hi
theorem np_c0 {f : Nat → Int64} {z : Int} {x : Int64} (h1 : -1 ≤ z ∧ z ≤ 4) (h2 : ∀ k : Int, z < k → k ≤ 4 → f k.toNat = 0) (h3 : 0 ≤ z → f z.toNat ≠ 0) (h4 : 0 ≤ z) (hx : CGr f (z + 1).toNat x) (h0 : x = 0) : NPm f f := np_end (y := 0) h1 h2 h3 h4 hx ⟨fun _ => by rw [h0]; rfl, fun _ => h0.symm⟩ (fun _ _ _ => rfl) (fun q => absurd rfl q) (fun _ _ _ => rfl)
theorem updL_at {f : Nat → Int64} {k j : Int} {x : Int64} (hk : 0 ≤ k) (hj : 0 ≤ j) : vp_updL f k.toNat x j.toNat = if j = k then x else f j.toNat := by
  unfold vp_updL
  by_cases e : j = k
  · rw [if_pos e, if_pos (by omega)]
  · rw [if_neg e, if_neg (by omega)]
theorem dv_s {f m m1 : Nat → Int64} {i n : Int} {y : Int64} (hi : 0 ≤ i) (hn : i < n) (g : m1 = vp_updL m i.toNat (m i.toNat / y)) (hq : ∀ j : Int, 0 ≤ j → j < n → m j.toNat = if j < i then f j.toNat / y else f j.toNat) : ∀ j : Int, 0 ≤ j → j < n → m1 j.toNat = if j < i + 1 then f j.toNat / y else f j.toNat := fun j a b => by
  rw [g, updL_at hi a]
  by_cases e : j = i
  · rw [if_pos e, if_pos (by omega), e, hq i hi hn, if_neg (by omega)]
  · rw [if_neg e, hq j a b]
    by_cases q : j < i
    · rw [if_pos q, if_pos (by omega)]
    · rw [if_neg q, if_neg (by omega)]
def lowV (f g : Nat → Int64) (st ot : Int) (sf of_ : Int64) (j : Int) : Int64 := sf * f j.toNat - (if j < st - ot then 0 else of_ * g (j - (st - ot)).toNat)
def lowP (f g f1 : Nat → Int64) (st ot : Int) (cm : Int64) : Prop := cm ≠ 0 ∧ ∀ j : Int, 0 ≤ j → j < 5 → f1 j.toNat = if j < st + 1 then lowV f g st ot (g ot.toNat / cm) (f st.toNat / cm) j else f j.toNat
theorem low_s {f g m m1 : Nat → Int64} {st ot i : Int} {sf of_ w : Int64} (hi : 0 ≤ i) (hn : i < 5) (g1 : m1 = vp_updL m i.toNat (sf * m i.toNat - w)) (hw : w = if i < st - ot then 0 else of_ * g (i - (st - ot)).toNat) (hq : ∀ j : Int, 0 ≤ j → j < 5 → m j.toNat = if j < i then lowV f g st ot sf of_ j else f j.toNat) : ∀ j : Int, 0 ≤ j → j < 5 → m1 j.toNat = if j < i + 1 then lowV f g st ot sf of_ j else f j.toNat := fun j a b => by
  rw [g1, updL_at hi a]
  by_cases e : j = i
  · rw [if_pos e, if_pos (by omega), e, hq i hi hn, if_neg (by omega), hw]
    rfl
  · rw [if_neg e, hq j a b]
    by_cases q : j < i
    · rw [if_pos q, if_pos (by omega)]
    · rw [if_neg q, if_neg (by omega)]
theorem cpy_at {f g : Nat → Int64} {j : Int} (h1 : 0 ≤ j) (h2 : j < 5) : va_cpy f g 0 0 5 j.toNat = f j.toNat := by
  unfold va_cpy
  rw [if_pos (by omega), show 0 + (j.toNat - 0) = j.toNat by omega]
