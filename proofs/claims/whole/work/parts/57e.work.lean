/-! the reference's row and freed row -/
def rP (r : Nat → Int32) (a : Nat) : Nat → Int64 := fun j => (r (5 * a + j)).toInt64
def fP (f : Nat → Int64) (a : Nat) : Nat → Int64 := fun j => f (5 * a + j)
def bR (r : Nat → Int32) : Prop := ∀ k, k < 15 → -7 ≤ (r k).toInt ∧ (r k).toInt ≤ 7
def foK (f : Nat → Int64) : Nat → Int
  | 0 => 0
  | k + 1 => if f k ≠ 0 ∨ f (5 + k) ≠ 0 ∨ f (10 + k) ≠ 0 then (k : Int) else foK f k
def FQ (r : Nat → Int32) (F : Nat → Int) (f : Nat → Int64) : Prop := FRs (rP r) (fP f) ∧ F 1 = foK f 5
def RI (F : Nat → Int) (r : Nat → Int32) (f : Nat → Int64) : Prop := F 2 = 1 → FQ r F f
theorem rp_bx {r : Nat → Int32} (h : bR r) {a : Nat} (ha : a < 3) : bx 7 (ti (rP r a)) := fun i => by
  unfold ti
  by_cases q : i < 5
  · rw [if_pos q]
    show ((r (5 * a + i)).toInt64.toInt).natAbs ≤ 7
    rw [Int32.toInt_toInt64]
    have := h (5 * a + i) (by omega)
    omega
  · rw [if_neg q]
    decide
theorem zz_ti : ti (fun _ => (0 : Int64)) = p0 := ti_zero (fun _ _ _ => rfl)
theorem zz_bx : bx 7 (ti (fun _ => (0 : Int64))) := fun i => by
  rw [zz_ti]
  exact Nat.zero_le 7
theorem zz_eq (A : Nat → Int) : EQ2 A (ti (fun _ => (0 : Int64))) A p0 := by
  rw [zz_ti]
  exact EQ2.rf A p0
theorem rp_z {r : Nat → Int32} {a j n : Nat} {z : Int} (e : r n = zI z) (hz : zR z) (hn : 5 * a + j = n) : zL z = rP r a j := by
  unfold rP
  rw [hn, e, zL_i2l hz]
theorem fw_s {m m1 t : Nat → Int64} {k : Int} {x : Int64} (hk : 0 ≤ k) (g : m1 = vp_updL m k.toNat x) (hx : x = t k.toNat) (hq : ∀ j : Int, 0 ≤ j → j < k → m j.toNat = t j.toNat) : ∀ j : Int, 0 ≤ j → j < k + 1 → m1 j.toNat = t j.toNat := fun j a b => by
  rw [g, updL_at hk a]
  by_cases q : j = k
  · rw [if_pos q, hx, q]
  · rw [if_neg q]
    exact hq j a (by omega)
theorem fP_s {m m1 : Nat → Int64} {w i : Int} {x : Int64} (hw : 0 ≤ w) (hi : 0 ≤ i) (g : m1 = vp_updL m (5 * w + i).toNat x) : fP m1 w.toNat = vp_updL (fP m w.toNat) i.toNat x := funext fun j => by
  have e1 := updL_at (f := m) (k := 5 * w + i) (j := 5 * w + (j : Int)) (x := x) (by omega) (by omega)
  have e2 := updL_at (f := fP m w.toNat) (k := i) (j := (j : Int)) (x := x) hi (by omega)
  rw [show (5 * w + (j : Int)).toNat = 5 * w.toNat + j by omega] at e1
  rw [Int.toNat_natCast] at e2
  rw [e2]
  show m1 (5 * w.toNat + j) = if (j : Int) = i then x else m (5 * w.toNat + j)
  rw [g, e1]
  by_cases q : (j : Int) = i
  · rw [if_pos (by omega), if_pos q]
  · rw [if_neg (by omega), if_neg q]
theorem fP_o {m m1 : Nat → Int64} {w i a j : Int} {x : Int64} (hi : 0 ≤ i ∧ i < 5) (ha : 0 ≤ a) (hne : a < w) (hj : 0 ≤ j ∧ j < 5) (g : m1 = vp_updL m (5 * w + i).toNat x) : fP m1 a.toNat j.toNat = fP m a.toNat j.toNat := by
  have e1 := updL_at (f := m) (k := 5 * w + i) (j := 5 * a + j) (x := x) (by omega) (by omega)
  rw [show (5 * a + j).toNat = 5 * a.toNat + j.toNat by omega, if_neg (by omega)] at e1
  show m1 (5 * a.toNat + j.toNat) = m (5 * a.toNat + j.toNat)
  rw [g, e1]
def DFq (r : Nat → Int32) (g : Nat → Int64) (d : Int) (f : Nat → Int64) (w : Int) : Prop := ∀ a : Int, 0 ≤ a → a < w → ∀ j : Int, 0 ≤ j → j < 5 → fP f a.toNat j.toNat = if 1 ≤ d then rq (rP r a.toNat) g d j else rP r a.toNat j.toNat
theorem DFq_0 (r : Nat → Int32) (g : Nat → Int64) (d : Int) (f : Nat → Int64) : DFq r g d f 0 := fun a ha hb => by omega
theorem DFq_o {r : Nat → Int32} {g m m1 : Nat → Int64} {d w i : Int} {x : Int64} (h : DFq r g d m w) (hi : 0 ≤ i ∧ i < 5) (g1 : m1 = vp_updL m (5 * w + i).toNat x) : DFq r g d m1 w := fun a ha hb j hj hk => by
  rw [fP_o hi ha hb ⟨hj, hk⟩ g1]
  exact h a ha hb j hj hk
def tzq (r : Nat → Int32) (d : Int) (w : Nat) : Nat → Int64 := fun j => if 1 ≤ d then 0 else rP r w j
theorem tz_0 {r : Nat → Int32} {d : Int} {w j : Nat} (h : 1 ≤ d) : (0 : Int64) = tzq r d w j := (if_pos h).symm
theorem tz_1 {r : Nat → Int32} {d : Int} {w j : Nat} {x : Int64} (h : ¬ 1 ≤ d) (e : x = rP r w j) : x = tzq r d w j := e.trans (if_neg h).symm
def rzq (r : Nat → Int32) (g : Nat → Int64) (d : Int) (w : Nat) (e j : Int) : Int64 := if 1 ≤ d then (if e < j then rq (rP r w) g d j else 0) else rP r w j.toNat
theorem rz_0 {r : Nat → Int32} {g m : Nat → Int64} {d : Int} {w : Nat} (h : ∀ j : Int, 0 ≤ j → j < 5 → m j.toNat = tzq r d w j.toNat) : ∀ j : Int, 0 ≤ j → j < 5 → m j.toNat = rzq r g d w (4 - d) j := fun j a b => by
  by_cases q : 1 ≤ d
  · have h0 : ∀ j : Int, 0 ≤ j → j < 5 → m j.toNat = 0 := fun j a b => (h j a b).trans (if_pos q)
    exact (rq_0 (f := rP r w) (g := g) (d := d) h0 j a b).trans (if_pos q).symm
  · exact ((h j a b).trans (if_neg q)).trans (if_neg q).symm
theorem rz_w {r : Nat → Int32} {g s m m1 : Nat → Int64} {d i : Int} {w : Nat} {x : Int64} (hd : 1 ≤ d) (hi : 0 ≤ i) (hi4 : i ≤ 4 - d) (hs : ∀ j : Int, 0 ≤ j → j < 5 → s j.toNat = spq (rP r w) g d (4 - d - i).toNat j.toNat) (ex : x = s (i + d).toNat / g d.toNat) (g1 : m1 = vp_updL m i.toNat x) (hr : ∀ j : Int, 0 ≤ j → j < 5 → m j.toNat = rzq r g d w i j) : ∀ j : Int, 0 ≤ j → j < 5 → m1 j.toNat = rzq r g d w (i - 1) j := fun j a b => by
  have h0 : ∀ j : Int, 0 ≤ j → j < 5 → m j.toNat = if i < j then rq (rP r w) g d j else 0 := fun j a b => (hr j a b).trans (if_pos hd)
  exact (rq_w (by omega) hi hi4 hs ex g1 h0 j a b).trans (if_pos hd).symm
theorem DFq_e {r : Nat → Int32} {g m : Nat → Int64} {d w e : Int} (h : DFq r g d m w) (hr : ∀ j : Int, 0 ≤ j → j < 5 → fP m w.toNat j.toNat = rzq r g d w.toNat e j) (he : e < 0 ∨ ¬ 1 ≤ d) : DFq r g d m (w + 1) := fun a ha hb j hj hk => by
  by_cases q : a = w
  · rw [q, hr j hj hk]
    unfold rzq
    by_cases q1 : 1 ≤ d
    · rw [if_pos q1, if_pos q1, if_pos (by omega)]
    · rw [if_neg q1, if_neg q1]
  · exact h a ha (by omega) j hj hk
theorem fr_of {r : Nat → Int32} {g f : Nat → Int64} {d w : Int} (hg : GG (rP r 0) (rP r 1) (rP r 2) g) (ht : topz g d) (hw : w = 3) (h : DFq r g d f w) : FRs (rP r) (fP f) := ⟨g, d, hg, ht, fun a ha j x y => by
  have := h (a : Int) (by omega) (by omega) j x y
  rw [Int.toNat_natCast] at this
  exact this⟩
theorem foK_s {f : Nat → Int64} {k : Int} (hk : 0 ≤ k) : foK f (k + 1).toNat = if f k.toNat ≠ 0 ∨ f (5 + k).toNat ≠ 0 ∨ f (10 + k).toNat ≠ 0 then k else foK f k.toNat := by
  obtain ⟨n, rfl⟩ := Int.eq_ofNat_of_zero_le hk
  rw [show ((n : Int) + 1).toNat = n + 1 by omega, show (5 + (n : Int)).toNat = 5 + n by omega, show (10 + (n : Int)).toNat = 10 + n by omega]
  rfl
theorem fo_1 {f : Nat → Int64} {k : Int} (hk : 0 ≤ k) (h : ¬ f k.toNat = 0) : k = foK f (k + 1).toNat := by
  rw [foK_s hk, if_pos (Or.inl h)]
theorem fo_2 {f : Nat → Int64} {k : Int} (hk : 0 ≤ k) (h : ¬ f (5 + k).toNat = 0) : k = foK f (k + 1).toNat := by
  rw [foK_s hk, if_pos (Or.inr (Or.inl h))]
theorem fo_3 {f : Nat → Int64} {k : Int} (hk : 0 ≤ k) (h : ¬ f (10 + k).toNat = 0) : k = foK f (k + 1).toNat := by
  rw [foK_s hk, if_pos (Or.inr (Or.inr h))]
theorem fo_0 {f : Nat → Int64} {k x : Int} (hk : 0 ≤ k) (h1 : f k.toNat = 0) (h2 : f (5 + k).toNat = 0) (h3 : f (10 + k).toNat = 0) (hx : x = foK f k.toNat) : x = foK f (k + 1).toNat := by
  rw [foK_s hk, if_neg (fun q => by rcases q with q | q | q <;> exact absurd (by assumption) q), hx]
