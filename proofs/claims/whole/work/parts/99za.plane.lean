/-! the class's planes as polynomials of one letter -/
def ixs (n : Nat) : Nat := ([0, 7, 1, 14, 8, 2, 21, 15, 9, 3, 28, 22, 16, 10, 4, 35, 29, 23, 17, 11, 5, 42, 36, 30, 24, 18, 12, 6] : List Nat).getD n 0
theorem ixs_t : ∀ d : Fin 7, ∀ j : Fin 7, j.val ≤ d.val → ixs (sl (d.val : Int) + (j.val : Int)).toNat = 7 * (d.val - j.val) + j.val := by decide +kernel
theorem ixs_at {d j : Int} (hd : 0 ≤ d ∧ d ≤ 6) (hj : 0 ≤ j ∧ j ≤ d) : (ixs (sl d + j).toNat : Int) = 7 * (d - j) + j := by
  obtain ⟨n, rfl⟩ := Int.eq_ofNat_of_zero_le hd.1
  obtain ⟨m, rfl⟩ := Int.eq_ofNat_of_zero_le hj.1
  have := ixs_t ⟨n, by omega⟩ ⟨m, by omega⟩ (by simp only; omega)
  simp only at this
  rw [this]
  omega
theorem sl_s (d : Int) : sl (d + 1) = sl d + (d + 1) := by
  unfold sl
  have : (d + 1) * (d + 1 + 1) = d * (d + 1) + 2 * (d + 1) := by grind
  rw [this]
  omega
theorem sl_7 : sl 7 = 28 := rfl
theorem sl_mono {a b : Int} (h0 : 0 ≤ a) (h : a ≤ b) (h6 : b ≤ 7) : sl a ≤ sl b := by
  have h1 : a = 0 ∨ a = 1 ∨ a = 2 ∨ a = 3 ∨ a = 4 ∨ a = 5 ∨ a = 6 ∨ a = 7 := by omega
  have h2 : b = 0 ∨ b = 1 ∨ b = 2 ∨ b = 3 ∨ b = 4 ∨ b = 5 ∨ b = 6 ∨ b = 7 := by omega
  rcases h1 with rfl | rfl | rfl | rfl | rfl | rfl | rfl | rfl <;> rcases h2 with rfl | rfl | rfl | rfl | rfl | rfl | rfl | rfl <;> first | decide | omega
/-- nothing above the bound -/
def PZ (f : Nat → Int64) (b : Int) : Prop := ∀ q : Int, sl (b + 1) ≤ q → q < 28 → f q.toNat = 0
theorem PZ_m {f : Nat → Int64} {a b : Int} (ha : 0 ≤ a) (h : a ≤ b) (h6 : b ≤ 6) (hz : PZ f a) : PZ f b := fun q h1 h2 => hz q (Int.le_trans (sl_mono (by omega) (by omega) (by omega)) h1) h2
theorem PZ_u {f f' : Nat → Int64} {b d j q : Int} {x : Int64} (hd : 0 ≤ d ∧ d ≤ b) (hb : b ≤ 6) (hj : 0 ≤ j ∧ j ≤ d) (hq : q = sl d + j) (e : f' = vp_updL f q.toNat x) (h : PZ f b) : PZ f' b := fun p h1 h2 => by
  have s1 := sl_s d
  have s2 := sl_mono (a := d + 1) (b := b + 1) (by omega) (by omega) (by omega)
  have s3 := sl_mono (a := 0) (b := d) (by omega) (by omega) (by omega)
  have s4 : sl 0 = 0 := rfl
  rw [e, up_at (by omega) (by omega), if_neg (by omega)]
  exact h p h1 h2
theorem PZ_cut {f : Nat → Int64} {b : Int} (hb : 0 ≤ b ∧ b ≤ 6) (h : PZ f b) (t : Int) : pw ixs f 28 t = pw ixs f (sl (b + 1)).toNat t := by
  have s1 := sl_mono (a := b + 1) (b := 7) (by omega) (by omega) (by omega)
  have s2 := sl_mono (a := 0) (b := b + 1) (by omega) (by omega) (by omega)
  have s3 : sl 0 = 0 := rfl
  rw [sl_7] at s1
  have e := pw_cut (ix := ixs) (f := f) (N := (sl (b + 1)).toNat) (28 - (sl (b + 1)).toNat) (fun i h1 h2 => by
    have := h (i : Int) (by omega) (by omega)
    rw [Int.toNat_natCast] at this
    exact this) t
  rw [show (sl (b + 1)).toNat + (28 - (sl (b + 1)).toNat) = 28 by omega] at e
  exact e
/-- the sum under way in addProduct -/
def ApF (A : Int → Int) (fac : Int) (a : Nat → Int64) (N : Int) (P : Int → Int) (t : Int) : Int := A t + fac * pw ixs a N.toNat t * P t
theorem ap_0 {f a : Nat → Int64} {fac : Int} {P : Int → Int} : CG (pw ixs f 28) (ApF (pw ixs f 28) fac a (sl 0) P) := CG.ex (fun t => by
  show _ = _ + fac * 0 * P t
  rw [Int.mul_zero, Int.zero_mul, Int.add_zero])
theorem ap_j {m a : Nat → Int64} {A P : Int → Int} {fac mu : Int64} {n : Int} (hn : 0 ≤ n) (hP : Pf P) (hmu : mu = fac * a n.toNat) (h : CG (pw ixs m 28) (fun t => ApF A fac.toInt a n P t + mu.toInt * t ^ (ixs n.toNat) * P t)) : CG (pw ixs m 28) (ApF A fac.toInt a (n + 1) P) := by
  obtain ⟨q, hq⟩ : cq mu (fac.toInt * (a n.toNat).toInt) := by rw [hmu]; exact cq_mul (cq_rf _) (cq_rf _)
  refine h.tr ⟨fun t => q * t ^ (ixs n.toNat) * P t, ((Pf.con q).mul (Pf_pow _)).mul hP, fun t => ?_⟩
  unfold ApF
  rw [show (n + 1).toNat = n.toNat + 1 by omega, pw_s, hq]
  dsimp only
  generalize t ^ ixs n.toNat = x
  generalize P t = y
  generalize pw ixs a n.toNat t = z
  generalize A t = w
  clear h hmu hq hP
  grind
theorem ap_e0 {m b : Nat → Int64} {F : Int → Int} {mu x : Int} (h : CG (pw ixs m 28) F) : CG (pw ixs m 28) (fun t => F t + mu * t ^ x.toNat * pw ixs b (sl 0).toNat t) := h.tr (CG.ex (fun t => by
  show _ = F t + _ * 0
  rw [Int.mul_zero, Int.add_zero]))
theorem ap_q {m m' b : Nat → Int64} {F : Int → Int} {mu : Int64} {d j ev q p : Int} (hd : 0 ≤ d) (hj : 0 ≤ j ∧ j ≤ d) (he : 0 ≤ ev ∧ d + ev ≤ 6) (hq : 0 ≤ q ∧ q ≤ ev) (hp : p = sl (d + ev) + j + q) (e : m' = vp_updL m p.toNat (m p.toNat + mu * b (sl ev + q).toNat)) (h : CG (pw ixs m 28) (fun t => F t + mu.toInt * t ^ (ixs (sl d + j).toNat) * pw ixs b (sl ev + q).toNat t)) : CG (pw ixs m' 28) (fun t => F t + mu.toInt * t ^ (ixs (sl d + j).toNat) * pw ixs b (sl ev + (q + 1)).toNat t) := by
  subst hp
  have s1 := sl_b (d := d + ev) (by omega)
  have s2 := sl_b (d := ev) (by omega)
  rw [e]
  refine (CG_up (ix := ixs) (m := mu.toInt * (b (sl ev + q).toNat).toInt) (by omega) (cq_add (cq_rf _) (cq_mul (cq_rf _) (cq_rf _))) h).tr (CG.ex (fun t => ?_))
  have i1 := ixs_at (d := d + ev) (j := j + q) (by omega) (by omega)
  have i2 := ixs_at (d := d) (j := j) (by omega) hj
  have i3 := ixs_at (d := ev) (j := q) (by omega) hq
  rw [show (sl ev + (q + 1)).toNat = (sl ev + q).toNat + 1 by omega, pw_s, show sl (d + ev) + j + q = sl (d + ev) + (j + q) by omega, show ixs (sl (d + ev) + (j + q)).toNat = ixs (sl d + j).toNat + ixs (sl ev + q).toNat by omega, Int.pow_add]
  generalize t ^ ixs (sl d + j).toNat = x
  generalize t ^ ixs (sl ev + q).toNat = y
  grind
theorem ap_el {m b : Nat → Int64} {F : Int → Int} {mu : Int64} {x : Nat} {ev la bb : Int} (hb : 0 ≤ bb ∧ bb ≤ 6) (hz : PZ b bb) (he : ev = la + 1) (hl : mu = 0 ∨ la = bb) (h : CG (pw ixs m 28) (fun t => F t + mu.toInt * t ^ x * pw ixs b (sl ev).toNat t)) : CG (pw ixs m 28) (fun t => F t + mu.toInt * t ^ x * pw ixs b 28 t) := h.tr (CG.ex (fun t => by
  rcases hl with e | e
  · rw [e, show (0 : Int64).toInt = 0 from rfl, Int.zero_mul, Int.zero_mul, Int.zero_mul]
  · rw [PZ_cut hb hz, he, e]))
theorem ap_end {m a : Nat → Int64} {A P : Int → Int} {fac ba : Int} (hb : 0 ≤ ba ∧ ba ≤ 6) (hz : PZ a ba) (h : CG (pw ixs m 28) (ApF A fac a (sl (ba + 1)) P)) : CG (pw ixs m 28) (fun t => A t + fac * pw ixs a 28 t * P t) := h.tr (CG.ex (fun t => by
  rw [PZ_cut hb hz]
  rfl))
/-- the numbers by the polynomial -/
def inv28 (k : Nat) : Nat := ([0, 2, 5, 9, 14, 20, 27, 1, 4, 8, 13, 19, 26, 28, 3, 7, 12, 18, 25, 28, 28, 6, 11, 17, 24, 28, 28, 28, 10, 16, 23, 28, 28, 28, 28, 15, 22, 28, 28, 28, 28, 28, 21] : List Nat).getD k 28
theorem pw_inv (f : Nat → Int64) (t : Int) : pw ixs f 28 t = pw id (fun k => if inv28 k < 28 then f (inv28 k) else 0) 49 t := by
  have z : (0 : Int64).toInt = 0 := rfl
  simp [pw, ixs, inv28, z]
  omega
theorem inv_ixs : ∀ s : Fin 28, inv28 (ixs s.val) = s.val ∧ ixs s.val < 49 := by decide +kernel
theorem CG_pl {f : Nat → Int64} {l : List Int} (h : CG (pw ixs f 28) (evl l)) (s : Nat) (hs : s < 28) : cq (f s) (gd l (ixs s)) := by
  have h1 := inv_ixs ⟨s, hs⟩
  simp only at h1
  have h2 := CG_at ((CG.ex (fun t => (pw_inv f t).symm)).tr h) (ixs s) h1.2
  rw [h1.1, if_pos hs] at h2
  exact h2
theorem cq_0' {a : Int64} (h : cq a 0) : a = 0 := by
  obtain ⟨q, hq⟩ := h
  exact cq_0 ⟨q, by omega⟩
theorem nc_pl {X Y W : Nat → Int} {n : Nat} {w : Nat → Int64} {s : Int} (hs : s = 1 ∨ s = -1) (h : CG (pw ixs w 28) (fun t => s * Fz n X Y W (t7 t) t 1)) : (∃ q : Int, 1 ≤ q ∧ q < 28 ∧ w q.toNat ≠ 0) ↔ NC X Y W n := by
  constructor
  · rintro ⟨q, q1, q2, q3⟩ ⟨a, ha⟩
    have h2 : CG (pw ixs w 28) (evl [s * a]) := h.tr ((CG.ml (Pf.con s) ha).tr (CG.ex (fun t => by
      show s * a = s * a + t * 0
      omega)))
    have h3 := CG_pl h2 q.toNat (by omega)
    have h1 := inv_ixs ⟨q.toNat, by omega⟩
    simp only at h1
    have i0 : ixs q.toNat ≠ 0 := fun z => by
      rw [z] at h1
      have : (0 : Nat) = q.toNat := h1.1
      omega
    obtain ⟨m, hm⟩ : ∃ m, ixs q.toNat = m + 1 := ⟨ixs q.toNat - 1, by omega⟩
    rw [hm] at h3
    exact q3 (cq_0' h3)
  · intro hn
    apply Classical.byContradiction
    intro hq
    apply hn
    have hsq : s * s = 1 := by rcases hs with e | e <;> rw [e] <;> rfl
    refine ⟨s * (w 0).toInt, (CG.ex (fun t => ?_)).tr ((CG.ml (Pf.con s) h.sy).tr (CG.ex (fun t => ?_)))⟩
    · rw [← Int.mul_assoc, hsq, Int.one_mul]
    · have e : pw ixs w 28 t = pw ixs w 1 t := pw_cut (N := 1) 27 (fun i a b => Classical.byContradiction fun z => hq ⟨i, by omega, by omega, by rw [Int.toNat_natCast]; exact z⟩) t
      rw [e]
      show s * (0 + (w 0).toInt * t ^ 0) = _
      rw [Int.pow_zero, Int.mul_one, Int.zero_add]
/-- no term of the bound's degree -/
def deg0 (f : Nat → Int64) (b : Int) : Prop := ∀ j : Int, 0 ≤ j → j ≤ b → f (sl b + j).toNat = 0
theorem PZ_down {f : Nat → Int64} {b : Int} (hz : PZ f b) (h : deg0 f b) : PZ f (b - 1) := fun q h1 h2 => by
  rw [show b - 1 + 1 = b by omega] at h1
  have s1 := sl_s b
  by_cases e : sl (b + 1) ≤ q
  · exact hz q e h2
  · have := h (q - sl b) (by omega) (by omega)
    rw [show sl b + (q - sl b) = q by omega] at this
    exact this
theorem PZ_z {f : Nat → Int64} (h : ∀ q : Int, 0 ≤ q → q < 28 → f q.toNat = 0) : PZ f 0 := fun q h1 h2 => h q (by have : sl (0 + 1) = 1 := rfl; omega) h2
theorem pl_z {f : Nat → Int64} (h : ∀ q : Int, 0 ≤ q → q < 28 → f q.toNat = 0) (t : Int) : pw ixs f 28 t = 0 := pw_0 28 (fun i hi => by
  have := h (i : Int) (by omega) (by omega)
  rw [Int.toNat_natCast] at this
  exact this) t
/-- a line -/
def LNp (f : Nat → Int64) (a b c : Int64) : Prop := f 0 = c ∧ f 1 = a ∧ f 2 = b ∧ ∀ q : Int, 3 ≤ q → q < 28 → f q.toNat = 0
theorem LN_e {f : Nat → Int64} {a b c : Int64} (h : LNp f a b c) (t : Int) : pw ixs f 28 t = c.toInt + a.toInt * t7 t + b.toInt * t := by
  have e : pw ixs f 28 t = pw ixs f 3 t := pw_cut (N := 3) 25 (fun i h1 h2 => by
    have := h.2.2.2 (i : Int) (by omega) (by omega)
    rw [Int.toNat_natCast] at this
    exact this) t
  rw [e]
  show 0 + (f 0).toInt * t ^ 0 + (f 1).toInt * t ^ 7 + (f 2).toInt * t ^ 1 = _
  rw [h.1, h.2.1, h.2.2.1, t7_e, Int.pow_zero, show t ^ 1 = t by grind]
  omega
theorem LN_z {f : Nat → Int64} {a b c : Int64} (h : LNp f a b c) : PZ f 1 := fun q h1 h2 => h.2.2.2 q (by have : sl (1 + 1) = 3 := rfl; omega) h2
