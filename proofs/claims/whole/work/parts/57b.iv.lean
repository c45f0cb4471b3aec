def stn (f g : Nat → Int64) (i : Int) : Prop := ∃ a b : Nat, dgp (ti f) a ∧ dgp (ti g) b ∧ i + 2 * ((a : Int) + b) + (if a < b then 1 else 0) ≤ 20
theorem stn_le {f g : Nat → Int64} {i : Int} (h : stn f g i) : i ≤ 20 := by
  obtain ⟨a, b, -, -, h⟩ := h
  split at h <;> omega
theorem stn_0 (f g : Nat → Int64) : stn f g 0 := by
  obtain ⟨a, ha, da⟩ := dgp_ex 5 (ti_hi f)
  obtain ⟨b, hb, db⟩ := dgp_ex 5 (ti_hi g)
  refine ⟨a, b, da, db, ?_⟩
  split <;> omega
theorem z5_ti {g : Nat → Int64} {z : Int} (h1 : z < 0) (h2 : ∀ k : Int, z < k → k ≤ 4 → g k.toNat = 0) : ti g = p0 := funext fun i => by
  by_cases q : i < 5
  · have := h2 (i : Int) (by omega) (by omega)
    rw [Int.toNat_natCast] at this
    show ti g i = 0
    rw [ti_lo g q, this]
    rfl
  · exact ti_hi g i (by omega)
theorem iv_end {X Y f g : Nat → Int64} {z : Int} (h : IV X Y f g) (h1 : z < 0) (h2 : ∀ k : Int, z < k → k ≤ 4 → g k.toNat = 0) : EQ2 (ti X) (ti Y) (ti f) p0 := by
  have := h.1
  rw [z5_ti h1 h2] at this
  exact this
theorem ext5 {f g : Nat → Int64} (h : ∀ j : Int, 0 ≤ j → j < 5 → f j.toNat = g j.toNat) : ti f = ti g ∧ (bd g → bd f) := ⟨ti_ext fun j a b => h j a (by omega), bd_ext fun j a b => h j a (by omega)⟩
theorem iv_sw {X Y f g f1 g1 : Nat → Int64} {ta tb i : Int} (h : IV X Y f g) (a1 : -1 ≤ ta ∧ ta ≤ 4) (a2 : ∀ k : Int, ta < k → k ≤ 4 → f k.toNat = 0) (a3 : 0 ≤ ta → f ta.toNat ≠ 0) (b1 : -1 ≤ tb ∧ tb ≤ 4) (b2 : ∀ k : Int, tb < k → k ≤ 4 → g k.toNat = 0) (b3 : 0 ≤ tb → g tb.toNat ≠ 0) (hlt : ta < tb) (hs : ∀ j : Int, 0 ≤ j → j < 5 → f1 j.toNat = g j.toNat ∧ g1 j.toNat = f j.toNat) (hst : stn f g i) : IV X Y f1 g1 ∧ stn f1 g1 (i + 1) ∧ ti f1 = ti g ∧ ti g1 = ti f := by
  obtain ⟨e1, e2⟩ := ext5 (fun j a b => (hs j a b).1)
  obtain ⟨e3, e4⟩ := ext5 (fun j a b => (hs j a b).2)
  have da := ti_dg a1 a2 a3
  have db := ti_dg b1 b2 b3
  have h2 := h.swp da db (by omega)
  refine ⟨⟨by rw [e1, e3]; exact h2.1, by rw [e1, e3]; exact h2.2.1, e2 h2.2.2.1, e4 h2.2.2.2⟩, ?_, e1, e3⟩
  obtain ⟨a, b, d1, d2, hle⟩ := hst
  have q1 := dgp_uq d1 da
  have q2 := dgp_uq d2 db
  refine ⟨b, a, by rw [e1]; exact d2, by rw [e3]; exact d1, ?_⟩
  rw [if_pos (by omega)] at hle
  rw [if_neg (by omega)]
  omega
theorem tdiv_z {x c : Int64} (hx : x.toInt ≠ -9223372036854775808) (hd : c.toInt ∣ x.toInt) (h0 : c.toInt ≠ 0) : c.toInt * (x / c).toInt = x.toInt := by
  rw [Int64.toInt_div_of_ne_left _ _ (fun z => hx (by rw [z]; rfl))]
  obtain ⟨k, hk⟩ := hd
  rw [hk, Int.mul_tdiv_cancel_left _ h0]
theorem iv_low {X Y f g f1 f2 : Nat → Int64} {ta tb i : Int} {cm : Int64} (h : IV X Y f g) (a1 : -1 ≤ ta ∧ ta ≤ 4) (a2 : ∀ k : Int, ta < k → k ≤ 4 → f k.toNat = 0) (a3 : 0 ≤ ta → f ta.toNat ≠ 0) (b1 : -1 ≤ tb ∧ tb ≤ 4) (b2 : ∀ k : Int, tb < k → k ≤ 4 → g k.toNat = 0) (b3 : 0 ≤ tb → g tb.toNat ≠ 0) (h0 : 0 ≤ tb) (hle : tb ≤ ta) (hcm : cgX (f ta.toNat) (g tb.toNat) cm) (hl : lowP f g f1 ta tb cm) (hn : NPm f1 f2) (hst : stn f g i) : IV X Y f2 g ∧ Nm (ti f2) ∧ stn f2 g (i + 1) := by
  have da := ti_dg a1 a2 a3
  have db := ti_dg b1 b2 b3
  have mf := h.2.2.1 ta.toNat (by omega)
  have mg := h.2.2.2 tb.toNat (by omega)
  have eg := hcm.1.2 mf mg
  have c0 : cm.toInt ≠ 0 := fun q => hl.1 (Int64.toInt_inj.mp q)
  have e1 := tdiv_z mg (by rw [eg]; exact Int.gcd_dvd_right _ _) c0
  have e2 := tdiv_z mf (by rw [eg]; exact Int.gcd_dvd_left _ _) c0
  have hx := stepX h da db (by omega) (by omega) c0 (sf := (g tb.toNat / cm).toInt) (ot := (f ta.toNat / cm).toInt) (by
      rw [show (tb + 1).toNat - 1 = tb.toNat by omega, ti_lo g (by omega)]; exact e1) (by
      rw [show (ta + 1).toNat - 1 = ta.toNat by omega, ti_lo f (by omega)]; exact e2) (f1 := f1) (fun i hi => by
      have hj := hl.2 (i : Int) (by omega) (by omega)
      rw [Int.toNat_natCast] at hj
      rw [hj, shN_at]
      by_cases q : (i : Int) < ta + 1
      · rw [if_pos q]
        unfold lowV
        rw [Int.toNat_natCast, ← zL_sub, ← zL_mul, ← zL_of, ← ti_zL f hi]
        congr 1
        by_cases q2 : (i : Int) < ta - tb
        · rw [if_pos q2, if_pos (by omega), Int.mul_zero]
          rfl
        · rw [if_neg q2, if_neg (by omega), ← zL_mul, ← zL_of, show (i : Int) - (ta - tb) = ((i - ((ta + 1).toNat - (tb + 1).toNat) : Nat) : Int) by omega, Int.toNat_natCast, ← ti_zL g (by omega)]
      · rw [if_neg q]
        have z1 := a2 (i : Int) (by omega) (by omega)
        rw [Int.toNat_natCast] at z1
        rw [z1, (ti_0 hi).mpr z1, if_neg (by omega), db.1 (i - ((ta + 1).toNat - (tb + 1).toNat)) (by omega), Int.mul_zero, Int.mul_zero]
        rfl) hn
  refine ⟨hx.1, hx.2.1, ?_⟩
  obtain ⟨c1, d1, hlt⟩ := hx.2.2
  obtain ⟨a, b, k1, k2, hle2⟩ := hst
  have q1 := dgp_uq k1 da
  have q2 := dgp_uq k2 db
  refine ⟨c1, b, d1, k2, ?_⟩
  rw [if_neg (by omega)] at hle2
  split <;> omega
/-! the reference's side -/
def sgd (f : Nat → Int64) (x y : Int64) (d : Int) : Prop := (0 ≤ d → sgn (f d.toNat) x y) ∧ (d < 0 → y = x)
theorem np_ref {f f2 : Nat → Int64} {x y : Int64} {d k : Int} (d1 : -1 ≤ d ∧ d ≤ 4) (d2 : ∀ j : Int, d < j → j ≤ 4 → f j.toNat = 0) (d3 : 0 ≤ d → f d.toNat ≠ 0) (hx : CGr f 5 x) (hs : sgd f x y d) (hq : ∀ j : Int, 0 ≤ j → j < 5 → f2 j.toNat = if j < k then f j.toNat / y else f j.toNat) (hy : y = 0 → k = 0) (he : 5 ≤ k ∨ y = 0) : NPm f f2 := by
  refine ⟨5, x, y, Nat.le_refl 5, fun i a b => by omega, hx, ?_, fun e hd => ?_, fun q i hi => ?_, fun q i hi => ?_⟩
  · by_cases q : 0 ≤ d
    · by_cases q2 : f d.toNat < 0
      · exact Or.inr ((hs.1 q).1 q2)
      · exact Or.inl ((hs.1 q).2 q2)
    · exact Or.inl (hs.2 (by omega))
  · have h1 : e + 1 = (d + 1).toNat := dgp_uq hd (ti_dg d1 d2 d3)
    have h2 : e = d.toNat := by omega
    rw [h2]
    exact hs.1 (by omega)
  · have := hq (i : Int) (by omega) (by omega)
    rw [Int.toNat_natCast, hy q, if_neg (by omega)] at this
    exact this
  · have := hq (i : Int) (by omega) (by omega)
    have hk5 : 5 ≤ k := he.resolve_right q
    rw [Int.toNat_natCast, if_pos (by omega)] at this
    exact this
theorem iv_red {X Y j2 j3 f g : Nat → Int64} (hX : bx 7 (ti X)) (hY : bx 7 (ti Y)) (hE : EQ2 (ti X) (ti Y) (ti j2) p0) (b2 : bd j2) (h7 : bx 7 (ti j3)) (b3 : bd j3) (r1 : NPm j2 f) (r2 : NPm j3 g) : IV j2 j3 f g ∧ Nm (ti f) ∧ Nm (ti g) := by
  obtain ⟨e1, n1, q1, -⟩ := normX hE b2 r1
  obtain ⟨e2, -, -, -⟩ := normX (EQ2.rf (ti j2) (ti j3)) b2 r1
  obtain ⟨e3, n3, q3, w3⟩ := normX e2.sw b3 r2
  exact ⟨⟨e3.sw, RP.ini hX hY e1 (Or.inr n1) (w3 7 h7), q1, q3⟩, n1, n3⟩
theorem iv_sw2 {X Y f g f1 g1 : Nat → Int64} {ta tb : Int} (h : IV X Y f g) (a1 : -1 ≤ ta ∧ ta ≤ 4) (a2 : ∀ k : Int, ta < k → k ≤ 4 → f k.toNat = 0) (a3 : 0 ≤ ta → f ta.toNat ≠ 0) (b1 : -1 ≤ tb ∧ tb ≤ 4) (b2 : ∀ k : Int, tb < k → k ≤ 4 → g k.toNat = 0) (b3 : 0 ≤ tb → g tb.toNat ≠ 0) (hlt : ta < tb) (hs : ∀ j : Int, 0 ≤ j → j < 5 → f1 j.toNat = g j.toNat ∧ g1 j.toNat = f j.toNat) : IV X Y f1 g1 ∧ ti f1 = ti g ∧ ti g1 = ti f := by
  obtain ⟨e1, e2⟩ := ext5 (fun j a b => (hs j a b).1)
  obtain ⟨e3, e4⟩ := ext5 (fun j a b => (hs j a b).2)
  have h2 := h.swp (ti_dg a1 a2 a3) (ti_dg b1 b2 b3) (by omega)
  exact ⟨⟨by rw [e1, e3]; exact h2.1, by rw [e1, e3]; exact h2.2.1, e2 h2.2.2.1, e4 h2.2.2.2⟩, e1, e3⟩
def rfV (f g : Nat → Int64) (e d k j : Int) : Int64 := f j.toNat * g d.toNat - (if e - d ≤ j ∧ j < e - d + k then f e.toNat * g (j - (e - d)).toNat else 0)
theorem rsub_0 {f g m : Nat → Int64} {e d : Int} (hp : ∀ j : Int, 0 ≤ j → j ≤ 4 → m j.toNat = if j < 5 then f j.toNat * g d.toNat else f j.toNat) : ∀ j : Int, 0 ≤ j → j < 5 → m j.toNat = rfV f g e d 0 j := fun j a b => by
  rw [hp j a (by omega), if_pos b]
  unfold rfV
  rw [if_neg (by omega), Int64.sub_zero]
theorem rsub_s {f g m m1 : Nat → Int64} {e d k : Int} (hd : 0 ≤ d) (he : d ≤ e) (he4 : e ≤ 4) (hk : 0 ≤ k) (hkd : k ≤ d) (g1 : m1 = vp_updL m (e - d + k).toNat (m (e - d + k).toNat - f e.toNat * g k.toNat)) (hq : ∀ j : Int, 0 ≤ j → j < 5 → m j.toNat = rfV f g e d k j) : ∀ j : Int, 0 ≤ j → j < 5 → m1 j.toNat = rfV f g e d (k + 1) j := fun j a b => by
  rw [g1, updL_at (by omega) a]
  by_cases q : j = e - d + k
  · rw [if_pos q, hq (e - d + k) (by omega) (by omega), q]
    unfold rfV
    rw [if_neg (by omega), if_pos (by omega), Int64.sub_zero, show e - d + k - (e - d) = k by omega]
  · rw [if_neg q, hq j a b]
    unfold rfV
    by_cases q2 : e - d ≤ j ∧ j < e - d + k
    · rw [if_pos q2, if_pos (by omega)]
    · rw [if_neg q2, if_neg (by omega)]
theorem iv_ref {X Y f g f1 f2 : Nat → Int64} {e d : Int} (h : IV X Y f g) (a1 : -1 ≤ e ∧ e ≤ 4) (a2 : ∀ k : Int, e < k → k ≤ 4 → f k.toNat = 0) (a3 : 0 ≤ e → f e.toNat ≠ 0) (b1 : -1 ≤ d ∧ d ≤ 4) (b2 : ∀ k : Int, d < k → k ≤ 4 → g k.toNat = 0) (b3 : 0 ≤ d → g d.toNat ≠ 0) (h0 : 0 ≤ d) (hle : d ≤ e) (hf : ∀ j : Int, 0 ≤ j → j < 5 → f1 j.toNat = rfV f g e d (d + 1) j) (hn : NPm f1 f2) : IV X Y f2 g ∧ Nm (ti f2) ∧ ∀ j : Int, e - 1 < j → j ≤ 4 → f2 j.toNat = 0 := by
  have da := ti_dg a1 a2 a3
  have db := ti_dg b1 b2 b3
  have hx := stepX h da db (by omega) (by omega) (c := 1) (by decide) (sf := ti g d.toNat) (ot := ti f e.toNat) (by
      rw [show (d + 1).toNat - 1 = d.toNat by omega, Int.one_mul]) (by
      rw [show (e + 1).toNat - 1 = e.toNat by omega, Int.one_mul]) (f1 := f1) (fun i hi => by
      have hj := hf (i : Int) (by omega) (by omega)
      rw [Int.toNat_natCast] at hj
      rw [hj, shN_at]
      unfold rfV
      rw [Int.toNat_natCast, ← zL_sub, ← zL_mul, ← ti_zL g (by omega), ← ti_zL f hi, Int64.mul_comm]
      congr 1
      by_cases q2 : (i : Int) < e - d
      · rw [if_neg (by omega), if_pos (by omega), Int.mul_zero]
        rfl
      · by_cases q3 : (i : Int) < e - d + (d + 1)
        · rw [if_pos (by omega), if_neg (by omega), ← zL_mul, ← ti_zL f (by omega), show (i : Int) - (e - d) = ((i - ((e + 1).toNat - (d + 1).toNat) : Nat) : Int) by omega, Int.toNat_natCast, ← ti_zL g (by omega)]
        · rw [if_neg (by omega), if_neg (by omega), db.1 (i - ((e + 1).toNat - (d + 1).toNat)) (by omega), Int.mul_zero]
          rfl) hn
  refine ⟨hx.1, hx.2.1, fun j q1 q2 => ?_⟩
  obtain ⟨c1, d1, hlt⟩ := hx.2.2
  have := d1.1 j.toNat (by omega)
  exact (ti_0 (by omega)).mp this
