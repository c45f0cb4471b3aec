/-! the row of zeros -/
def z5 (f : Nat → Int64) : Prop := ∀ j : Int, 0 ≤ j → j < 5 → f j.toNat = 0
def z15 (f : Nat → Int64) : Prop := ∀ j : Int, 0 ≤ j → j < 15 → f j.toNat = 0
def zi15 (r : Nat → Int32) : Prop := ∀ j : Int, 0 ≤ j → j < 15 → r j.toNat = 0
def zi2 (r : Nat → Int32) : Prop := ∀ j : Int, 0 ≤ j → j < 2 → r j.toNat = 0
def zst (M : Nat → Nat → Int64) : Prop := z15 (M 0) ∧ z5 (M 2) ∧ z5 (M 3)
def zc (L : Nat → Nat → Int64) : Prop := ∀ a, a < 3 → z5 (L a)
def zf (L : Nat → Nat → Int64) : Prop := ∀ a, a < 3 → z5 (L (3 + a))
theorem z5_up {f : Nat → Int64} {k : Nat} {x : Int64} (h : z5 f) (hx : x = 0) : z5 (vp_updL f k x) := fun j a b => by
  unfold vp_updL
  by_cases e : j.toNat = k
  · rw [if_pos e, hx]
  · rw [if_neg e]; exact h j a b
theorem z15_up {f : Nat → Int64} {k : Nat} {x : Int64} (h : z15 f) (hx : x = 0) : z15 (vp_updL f k x) := fun j a b => by
  unfold vp_updL
  by_cases e : j.toNat = k
  · rw [if_pos e, hx]
  · rw [if_neg e]; exact h j a b
theorem zst_0 {M M1 : Nat → Nat → Int64} {k : Nat} {x : Int64} (h : zst M) (g : M1 0 = vp_updL (M 0) k x) (f : ∀ j, j ≠ 0 → M1 j = M j) (hx : x = 0) : zst M1 := ⟨by rw [g]; exact z15_up h.1 hx, by rw [f 2 (by decide)]; exact h.2.1, by rw [f 3 (by decide)]; exact h.2.2⟩
theorem zst_2 {M M1 : Nat → Nat → Int64} {k : Nat} {x : Int64} (h : zst M) (g : M1 2 = vp_updL (M 2) k x) (f : ∀ j, j ≠ 2 → M1 j = M j) (hx : x = 0) : zst M1 := ⟨by rw [f 0 (by decide)]; exact h.1, by rw [g]; exact z5_up h.2.1 hx, by rw [f 3 (by decide)]; exact h.2.2⟩
theorem zst_3 {M M1 : Nat → Nat → Int64} {k : Nat} {x : Int64} (h : zst M) (g : M1 3 = vp_updL (M 3) k x) (f : ∀ j, j ≠ 3 → M1 j = M j) (hx : x = 0) : zst M1 := ⟨by rw [f 0 (by decide)]; exact h.1, by rw [f 2 (by decide)]; exact h.2.1, by rw [g]; exact z5_up h.2.2 hx⟩
theorem zL_z {z : Int} (h : z = 0) : zL z = 0 := by rw [h]; rfl
theorem zi_0 {z : Int} (e : (0 : Int32) = zI z) (ra : -2147483648 ≤ z) (rb : z < 2147483648) : z = 0 := ((zI_eq (a := 0) (b := z) zR_0 ⟨ra, rb⟩).mp e).symm
theorem zi_no {r : Nat → Int32} (h : zi15 r) {j z : Int} (h1 : 0 ≤ j) (h2 : j < 15) (e : r j.toNat = zI z) (ra : -2147483648 ≤ z) (rb : z < 2147483648) : z = 0 := zi_0 ((h j h1 h2).symm.trans e) ra rb
theorem zi2_no {r : Nat → Int32} (h : zi2 r) {j z : Int} (h1 : 0 ≤ j) (h2 : j < 2) (e : r j.toNat = zI z) (ra : -2147483648 ≤ z) (rb : z < 2147483648) : z = 0 := zi_0 ((h j h1 h2).symm.trans e) ra rb
theorem l2i_0 {x : Int64} {z : Int} (h : x = 0) (e : x.toInt32 = zI z) (ra : -2147483648 ≤ z) (rb : z < 2147483648) : z = 0 := zi_0 (by rw [h] at e; exact e) ra rb
theorem dg_m1 {f : Nat → Int64} {z : Int} (h : z5 f) (h1 : -1 ≤ z ∧ z ≤ 4) (h3 : 0 ≤ z → f z.toNat ≠ 0) : z = -1 := by
  by_cases q : 0 ≤ z
  · exact absurd (h z q (by omega)) (h3 q)
  · omega
theorem zi2_of {r f : Nat → Int32} {x y : Int32} (h : r = upd (upd f (0 : Int).toNat x) (1 : Int).toNat y) (hx : x = 0) (hy : y = 0) : zi2 r := fun j a b => by
  rw [h]
  rcases (show j = 0 ∨ j = 1 by omega) with rfl | rfl
  · exact hx
  · exact hy
theorem cpy_z {f g : Nat → Int64} (h : z5 f) : z5 (va_cpy f g 0 0 5) := fun j a b => by
  unfold va_cpy
  rw [if_pos (by omega)]
  have := h j a b
  rw [show 0 + (j.toNat - 0) = j.toNat by omega]
  exact this
theorem hp_zr {L : Nat → Nat → Int64} {z : Int} (h : zc L) (n1 : 0 ≤ z ∧ z ≤ 4) (n3 : 0 < z → ¬ (L 0 z.toNat = 0 ∧ L 1 z.toNat = 0 ∧ L 2 z.toNat = 0)) : z = 0 := by
  by_cases q : 0 < z
  · exact absurd ⟨h 0 (by decide) z (by omega) (by omega), h 1 (by decide) z (by omega) (by omega), h 2 (by decide) z (by omega) (by omega)⟩ (n3 q)
  · omega
theorem hp_zf {L : Nat → Nat → Int64} {z : Int} (h : zf L) (n1 : 0 ≤ z ∧ z ≤ 4) (n3 : 0 < z → ¬ (L (3 + 0) z.toNat = 0 ∧ L (3 + 1) z.toNat = 0 ∧ L (3 + 2) z.toNat = 0)) : z = 0 := by
  by_cases q : 0 < z
  · exact absurd ⟨h 0 (by decide) z (by omega) (by omega), h 1 (by decide) z (by omega) (by omega), h 2 (by decide) z (by omega) (by omega)⟩ (n3 q)
  · omega
theorem zc_same {L L2 : Nat → Nat → Int64} (h : zc L) (e : ∀ k, k < 3 → L2 k = L k) : zc L2 := fun a ha => by rw [e a ha]; exact h a ha
