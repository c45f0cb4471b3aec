/-! the class's search for a root -/
def GX (w : Nat → Int64) (x : Int64) : Prop := 0 ≤ x.toInt ∧ (∀ i, i < 49 → x.toInt ∣ (w i).toInt) ∧ ∀ m : Nat, (∀ i, i < 49 → (m : Int) ∣ (w i).toInt) → (m : Int) ∣ x.toInt
theorem te_divg {w : Nat → Int64} {x y : Int64} (hs : sz60 w) (h : GX w x) (hy0 : ¬ y = 0) (hy : y = x ∨ y = -x) {f : Nat → Int64} (hf : ∀ q : Int, 0 ≤ q → q < 49 → f q.toNat = w q.toNat / y) : y.toInt ≠ 0 ∧ (∀ i, i < 49 → (w i).toInt = y.toInt * (f i).toInt) ∧ lprim (lsf f 49) := by
  have hb : ∀ i, i < 49 → (w i).toInt.natAbs < 1152921504606846976 := fun i hi => by
    have := hs (i : Int) (by omega) (by omega)
    rw [Int.toNat_natCast] at this
    exact this
  obtain ⟨h1, h2, h3⟩ := h
  have hxb := i64_b x
  have ey : y.toInt = x.toInt ∨ y.toInt = -x.toInt := by
    rcases hy with e | e
    · exact Or.inl (by rw [e])
    · right
      rw [e, Int64.toInt_neg, Int.bmod_eq_of_le (by omega) (by omega)]
  have y0 : y.toInt ≠ 0 := fun z => hy0 (i64_z z)
  have dv : ∀ i, i < 49 → y.toInt ∣ (w i).toInt := fun i hi => by
    rcases ey with e | e
    · rw [e]
      exact h2 i hi
    · rw [e]
      exact Int.neg_dvd.mpr (h2 i hi)
  have hw : ∀ i, i < 49 → (w i).toInt = y.toInt * (f i).toInt := fun i hi => by
    obtain ⟨q, hq⟩ := dv i hi
    have e := hf (i : Int) (by omega) (by omega)
    rw [Int.toNat_natCast] at e
    have b := hb i hi
    have hqb : q.natAbs < 1152921504606846976 := by
      rw [hq, Int.natAbs_mul] at b
      have h5 : 1 ≤ y.toInt.natAbs := by omega
      have := Nat.mul_le_mul h5 (Nat.le_refl q.natAbs)
      omega
    have : (f i).toInt = q := by
      rw [e, Int64.toInt_div, hq, Int.mul_tdiv_cancel_left _ y0]
      exact Int.bmod_eq_of_le (by omega) (by omega)
    rw [this, hq]
  refine ⟨y0, hw, fun p hp => Classical.byContradiction fun z => ?_⟩
  have hall : ∀ j, j < 49 → (p : Int) ∣ (f j).toInt := fun j hj => by
    have : (p : Int) ∣ gd (lsf f 49) j := Classical.byContradiction fun q => z ⟨j, q⟩
    rw [gd_lsf, if_pos hj] at this
    exact this
  have hx : ((p * x.toInt.natAbs : Nat) : Int) ∣ x.toInt := h3 _ (fun i hi => by
    obtain ⟨q, hq⟩ := hall i hi
    rw [hw i hi, hq]
    have e2 : ((p * x.toInt.natAbs : Nat) : Int) = p * x.toInt := by
      rw [Int.natCast_mul]
      congr 1
      omega
    rw [e2]
    rcases ey with e | e
    · exact ⟨q, by rw [e]; grind⟩
    · exact ⟨-q, by rw [e]; grind⟩)
  have hp2 := hp.1
  have x1 : 1 ≤ x.toInt.natAbs := by omega
  have hx2 : p * x.toInt.natAbs ∣ x.toInt.natAbs := Int.ofNat_dvd_left.mp hx
  have h6 := Nat.le_of_dvd (by omega) hx2
  have h7 := Nat.mul_le_mul hp2 (Nat.le_refl x.toInt.natAbs)
  omega
theorem GX_p {w : Nat → Int64} {x : Int64} (hs : ∀ i, i < 28 → (w i).toInt ≠ -9223372036854775808) (h : CGr w 28 x) : GX (pcl w) x := by
  obtain ⟨h1, h2, h3⟩ := CGr_e 28 x hs h
  refine ⟨h1, fun i _ => ?_, fun m hm => h3 m (fun i hi => ?_)⟩
  · unfold pcl
    by_cases q : inv28 i < 28
    · rw [if_pos q]
      exact h2 _ q
    · rw [if_neg q]
      exact Int.dvd_zero _
  · have tt := inv_ixs ⟨i, hi⟩
    simp only at tt
    have := hm (ixs i) tt.2
    unfold pcl at this
    rw [tt.1, if_pos hi] at this
    exact this
/-- the first number of the highest degree -/
def FB (w : Nat → Int64) (b fb : Int) : Prop := (0 ≤ fb ∧ fb ≤ b) ∧ w (sl b + fb).toNat ≠ 0 ∧ ∀ j : Int, 0 ≤ j → j < fb → w (sl b + j).toNat = 0
theorem FB_uq {w : Nat → Int64} {b x y : Int} (h1 : FB w b x) (h2 : FB w b y) : x = y := by
  obtain ⟨a1, a2, a3⟩ := h1
  obtain ⟨b1, b2, b3⟩ := h2
  rcases Int.lt_trichotomy x y with q | q | q
  · exact absurd (b3 x a1.1 q) a2
  · exact q
  · exact absurd (a3 y b1.1 q) b2
theorem FB_c {w v : Nat → Int64} {b x : Int} (hb : 0 ≤ b ∧ b ≤ 6) (h : ∀ q : Int, 0 ≤ q → q < 28 → v q.toNat = w q.toNat) (hf : FB w b x) : FB v b x := by
  obtain ⟨a1, a2, a3⟩ := hf
  have sb := sl_b hb
  exact ⟨a1, by rw [h _ (by omega) (by omega)]; exact a2, fun j x y => by rw [h _ (by omega) (by omega)]; exact a3 j x y⟩
def fiO (b fb : Int) : Int := 7 * (b - fb) + fb
theorem fiO_at {b fb : Int} (hb : 0 ≤ b ∧ b ≤ 6) (hf : 0 ≤ fb ∧ fb ≤ b) : fiO b fb / 7 = b - fb ∧ fiO b fb % 7 = fb ∧ 0 ≤ fiO b fb ∧ fiO b fb < 49 := by
  unfold fiO
  omega
theorem pcl_fi (f : Nat → Int64) {b fb : Int} (hb : 0 ≤ b ∧ b ≤ 6) (hf : 0 ≤ fb ∧ fb ≤ b) : pcl f (fiO b fb).toNat = f (sl b + fb).toNat := by
  rw [← pcl_d f hb hf]
  congr 1
  unfold fiO
  omega
/-- the primitive multiple -/
def DVP (w f : Nat → Int64) (b : Int) : Prop := ∃ (x y : Int64) (fb : Int), CGr w 28 x ∧ ¬ x = 0 ∧ ¬ y = 0 ∧ FB w b fb ∧ ((y = x ∧ ¬ (w (sl b + fb).toNat).toInt < 0) ∨ (y = -x ∧ (w (sl b + fb).toNat).toInt < 0)) ∧ ∀ q : Int, 0 ≤ q → q < 28 → f q.toNat = w q.toNat / y
def PMc (w f : Nat → Int64) (b fb : Int) : Prop := (∃ c : Int, c ≠ 0 ∧ ∀ i, i < 49 → (pcl w i).toInt = c * (pcl f i).toInt) ∧ lprim (lsf (pcl f) 49) ∧ SU (pcl f) b ∧ FB f b fb ∧ 0 < (f (sl b + fb).toNat).toInt
theorem DVP_pm {w f : Nat → Int64} {b : Int} (hb : 0 ≤ b ∧ b ≤ 6) (hs : sz60 (pcl w)) (hz : PZ w b) (h : DVP w f b) : ∃ fb, PMc w f b fb := by
  obtain ⟨x, y, fb, hc, hx0, hy0, ⟨a1, a2, a3⟩, hy, hf⟩ := h
  have sb := sl_b hb
  have hs28 : ∀ i, i < 28 → (w i).toInt ≠ -9223372036854775808 := fun i hi => by
    have tt := inv_ixs ⟨i, hi⟩
    simp only at tt
    have := hs (ixs i : Nat) (by omega) (by omega)
    rw [Int.toNat_natCast] at this
    unfold pcl at this
    rw [tt.1, if_pos hi] at this
    omega
  have gx := GX_p hs28 hc
  have hf49 : ∀ q : Int, 0 ≤ q → q < 49 → pcl f q.toNat = pcl w q.toNat / y := fun q _ _ => by
    unfold pcl
    by_cases z : inv28 q.toNat < 28
    · rw [if_pos z, if_pos z]
      have := hf (inv28 q.toNat : Nat) (by omega) (by omega)
      rw [Int.toNat_natCast] at this
      exact this
    · rw [if_neg z, if_neg z]
      exact Int64.zero_div.symm
  obtain ⟨y0, hw, hp⟩ := te_divg hs gx hy0 (by rcases hy with q | q; exact Or.inl q.1; exact Or.inr q.1) hf49
  have hxb := i64_b x
  have x0 : x.toInt ≠ 0 := fun z => hx0 (i64_z z)
  have e := hw (fiO b fb).toNat (by have := fiO_at hb a1; omega)
  rw [pcl_fi w hb a1, pcl_fi f hb a1] at e
  have w0 : (w (sl b + fb).toNat).toInt ≠ 0 := fun z => a2 (i64_z z)
  have pos : 0 < (f (sl b + fb).toNat).toInt := by
    rcases hy with ⟨q1, q2⟩ | ⟨q1, q2⟩
    · have py : 0 < y.toInt := by rw [q1]; have := gx.1; omega
      rcases Int.lt_or_le 0 (f (sl b + fb).toNat).toInt with r | r
      · exact r
      · exfalso
        have := Int.mul_nonneg (Int.le_of_lt py) (show 0 ≤ -(f (sl b + fb).toNat).toInt by omega)
        rw [Int.mul_neg, ← e] at this
        omega
    · have py : y.toInt < 0 := by
        have := gx.1
        rw [q1, Int64.toInt_neg, Int.bmod_eq_of_le (by omega) (by omega)]
        omega
      rcases Int.lt_or_le 0 (f (sl b + fb).toNat).toInt with r | r
      · exact r
      · exfalso
        have := Int.mul_nonneg (show 0 ≤ -y.toInt by omega) (show 0 ≤ -(f (sl b + fb).toNat).toInt by omega)
        rw [Int.neg_mul_neg, ← e] at this
        omega
  refine ⟨fb, ⟨y.toInt, y0, hw⟩, hp, fun q a b_ c => ?_, ⟨a1, fun z => ?_, fun j j0 j1 => ?_⟩, pos⟩
  · rw [hf49 q a b_, pcl_su hb hz q a b_ c]
    exact Int64.zero_div
  · rw [z] at pos
    exact absurd pos (by decide)
  · rw [hf _ (by omega) (by omega), a3 j j0 j1]
    exact Int64.zero_div
theorem PMc_fst {w f : Nat → Int64} {b fb : Int} (hb : 0 ≤ b ∧ b ≤ 6) (h : PMc w f b fb) : fst (ci (pcl f)) (fiO b fb / 7).toNat (fiO b fb % 7).toNat := by
  obtain ⟨_, _, su, ⟨a1, a2, a3⟩, pos⟩ := h
  obtain ⟨e1, e2, e3, e4⟩ := fiO_at hb a1
  refine TW_fst (d := b) su ⟨e3, e4, by omega, by rw [pcl_fi f hb a1]; exact pos, fun a b_ g1 g2 g3 g4 g5 g6 => ?_⟩ hb.2
  rw [e1]
  apply Classical.byContradiction
  intro z
  apply g5
  have := pcl_d f (d := b) (j := b_) hb (by omega)
  rw [show (7 * a + b_).toNat = 7 * (b - b_).toNat + b_.toNat by omega, this]
  exact a3 b_ g3 (by omega)
theorem PMc_sS {w f : Nat → Int64} {b fb : Int} {S : Nat} (h : PMc w f b fb) (hS : sS (fun a b => ci (pcl w) (7 * a + b)) ≤ S) : sS (fun a b => ci (pcl f) (7 * a + b)) ≤ S := by
  obtain ⟨⟨c, c0, hw⟩, _⟩ := h
  refine Nat.le_trans (sS_mono (fun a b hab => ?_)) hS
  show (pcl f (7 * a + b)).toInt.natAbs ≤ (pcl w (7 * a + b)).toInt.natAbs
  rw [hw _ (by omega), Int.natAbs_mul]
  have := Nat.mul_le_mul (show 1 ≤ c.natAbs by omega) (Nat.le_refl (pcl f (7 * a + b)).toInt.natAbs)
  omega
/-- what is above the limit is no digit -/
theorem lim_ok {e : Int} {k S : Nat} {L : Int} (hk : 1 ≤ k) (h : e.natAbs ^ k ≤ S) (hL : 0 ≤ L) (h2 : (S : Int) < (L + 1) ^ k) : e ≤ L ∧ -L ≤ e := by
  obtain ⟨n, rfl⟩ := Int.eq_ofNat_of_zero_le hL
  have h3 : S < (n + 1) ^ k := by exact_mod_cast h2
  have h4 : e.natAbs < n + 1 := pow_lt_of (Nat.lt_of_le_of_lt h h3)
  omega
/-- powers by lists -/
def lpw (l : List Int) : Nat → List Int
  | 0 => [1]
  | k + 1 => lmul (lpw l k) l
theorem evl_lpw (l : List Int) (t : Int) : ∀ k, evl (lpw l k) t = evl l t ^ k
  | 0 => by
    rw [Int.pow_zero]
    show 1 + t * 0 = 1
    omega
  | k + 1 => by
    show evl (lmul (lpw l k) l) t = _
    rw [evl_mul, evl_lpw l t k, Int.pow_succ]
theorem l1_lpw (l : List Int) : ∀ k, l1 (lpw l k) ≤ l1 l ^ k
  | 0 => by
    show (1 : Int).natAbs + 0 ≤ 1
    decide
  | k + 1 => by
    rw [Nat.pow_succ]
    exact Nat.le_trans (l1_mul l _) (Nat.mul_le_mul (l1_lpw l k) (Nat.le_refl _))
theorem sS_pow {k : Nat} {T R : Nat → Int} (h : tru k T R) : sS (fun a b => T (7 * a + b)) ≤ sS (fun a b => R (7 * a + b)) ^ k := by
  rw [sS_l1, sS_l1]
  have e : ∀ i, gd (l6 (fun a b => T (7 * a + b))) i = gd (lpw (l6 (fun a b => R (7 * a + b))) k) i := evl_uq (fun t => by rw [evl_lpw, evl_l6, evl_l6, h])
  rw [l1_gd _ _ e]
  exact l1_lpw _ k
theorem cell_sS (T : Nat → Nat → Int) {a b : Nat} (h : a + b ≤ 6) : (T a b).natAbs ≤ sS T := by
  rw [sS_l1, ← gd_l6 T a b h]
  exact gd_l1 _ _
theorem sS_D {D L : Nat} {R : Nat → Int} (hD : D ≤ 3) (su : SUi R D) (h : ∀ a b, a + b ≤ 6 → (R (7 * a + b)).natAbs ≤ L) : sS (fun a b => R (7 * a + b)) ≤ (D + 1) * (D + 2) / 2 * L := by
  refine Nat.le_trans (sS_mono (t := fun a b => if a + b ≤ D then (L : Int) else 0) (fun a b hab => ?_)) ?_
  · show (R (7 * a + b)).natAbs ≤ (if a + b ≤ D then (L : Int) else 0).natAbs
    by_cases q : a + b ≤ D
    · rw [if_pos q]
      have := h a b hab
      omega
    · rw [if_neg q, su a b (by omega) (by omega) (by omega)]
      decide
  · have : D = 0 ∨ D = 1 ∨ D = 2 ∨ D = 3 := by omega
    have z : (0 : Int).natAbs = 0 := rfl
    rcases this with r | r | r | r <;> subst r <;> simp [sS, pr0, ns, nr] <;> omega
theorem kD_b {k D L S : Nat} (hk : 2 ≤ k) (hD : k * D ≤ 6) (h : L ^ k ≤ S) : ((D + 1) * (D + 2) / 2 * L) ^ k ≤ 729 * S := by
  have hD3 : D ≤ 3 := by
    have := Nat.mul_le_mul hk (Nat.le_refl D)
    omega
  rw [Nat.mul_pow]
  refine Nat.mul_le_mul ?_ h
  have : D = 0 ∨ D = 1 ∨ D = 2 ∨ D = 3 := by omega
  rcases this with r | r | r | r <;> subst r
  · show 1 ^ k ≤ 729
    rw [Nat.one_pow]
    decide
  · show 3 ^ k ≤ 729
    exact Nat.le_trans (Nat.pow_le_pow_right (by decide) (show k ≤ 6 by omega)) (by decide)
  · show 6 ^ k ≤ 729
    exact Nat.le_trans (Nat.pow_le_pow_right (by decide) (show k ≤ 3 by omega)) (by decide)
  · show 10 ^ k ≤ 729
    exact Nat.le_trans (Nat.pow_le_pow_right (by decide) (show k ≤ 2 by omega)) (by decide)
/-- the class's root is a true one -/
theorem cr_true {k D L S : Nat} {f p r : Nat → Int64} (hk : 2 ≤ k) (hD : k * D ≤ 6) (su : SUi (ci r) D) (sf : SUi (ci f) 6) (hL : ∀ a b, a + b ≤ 6 → (ci r (7 * a + b)).natAbs ≤ L) (hLS : L ^ k ≤ S) (hS : S ≤ 18014398509481984) (hSf : sS (fun a b => ci f (7 * a + b)) ≤ S) (hp : CG (pw id p 49) (fun z => pw id r 49 z ^ k)) (he : ∀ i, i < 49 → p i = f i) : tru k (ci f) (ci r) := by
  obtain ⟨T, hT⟩ := hom_pow hk hD su
  have hD3 : D ≤ 3 := by
    have := Nat.mul_le_mul hk (Nat.le_refl D)
    omega
  have b1 := sS_pow hT
  have b2 := Nat.pow_le_pow_left (sS_D hD3 su hL) k
  have b3 := kD_b hk hD hLS
  have hc := pw_cell hk hD su hT hp
  intro x y
  rw [hT x y]
  refine hom6_eq (fun a b hab => ?_) x y 1
  have c := hc a b hab
  rw [he _ (by omega)] at c
  have t1 := cell_sS (fun a b => T (7 * a + b)) hab
  have t2 := cell_sS (fun a b => ci f (7 * a + b)) hab
  have : 729 * S ≤ 729 * 18014398509481984 := Nat.mul_le_mul (Nat.le_refl _) hS
  obtain ⟨q, hq⟩ := c
  show T (7 * a + b) = (f (7 * a + b)).toInt
  have t3 : (f (7 * a + b)).toInt.natAbs ≤ S := Nat.le_trans t2 hSf
  have t4 : (T (7 * a + b)).natAbs ≤ 729 * 18014398509481984 := by
    have : (T (7 * a + b)).natAbs ≤ sS (fun a b => T (7 * a + b)) := t1
    omega
  omega
