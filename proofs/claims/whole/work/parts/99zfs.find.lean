/-! the search finds every true root -/
theorem ipow_le {b : Int} (hb : 1 ≤ b) {m n : Nat} (h : m ≤ n) : b ^ m ≤ b ^ n := by
  obtain ⟨q, rfl⟩ : ∃ q, n = m + q := ⟨n - m, by omega⟩
  rw [Int.pow_add]
  have h1 : 1 ≤ b ^ q := Int.pow_pos (by omega)
  have h2 : 0 < b ^ m := Int.pow_pos (by omega)
  have := Int.mul_le_mul_of_nonneg_left h1 (Int.le_of_lt h2)
  omega
theorem ab_gt {b v p : Int64} {i k : Int} (hb : 1 ≤ b.toInt) (hi : 0 ≤ i ∧ i < k) (h : abI b v p i) (hc : ¬ p ≤ v / b) (hv : 0 ≤ v.toInt) : v.toInt < b.toInt ^ k.toNat := by
  obtain ⟨h1, h2, -⟩ := h
  have b0 : b ≠ -1 := by intro q; rw [q] at hb; exact absurd hb (by decide)
  rw [Int64.le_iff_toInt_le, Int64.toInt_div_of_ne_right v b b0, Int.tdiv_eq_ediv_of_nonneg hv] at hc
  have h3 : v.toInt < p.toInt * b.toInt := by
    apply Classical.byContradiction
    intro z
    exact hc ((Int.le_ediv_iff_mul_le (by omega)).mpr (by omega))
  have h4 : p.toInt * b.toInt = b.toInt ^ (i.toNat + 1) := by rw [h1, Int.pow_succ]
  have h5 := ipow_le hb (show i.toNat + 1 ≤ k.toNat by omega)
  omega
theorem ab_gt2 {b v p : Int64} {i k : Int} (h : abI b v p i) (e : i = k) (hc : ¬ p ≤ v) : v.toInt < b.toInt ^ k.toNat := by
  rw [Int64.le_iff_toInt_le, h.1, e] at hc
  omega
theorem rt_hi {a b k z : Int} {v : Int64} (h : 1 ≤ a ∧ a ≤ b ∧ b ≤ 2000000000) (hq : v.toInt < (zL ((a + b + 1) / 2)).toInt ^ k.toNat) : (a + b + 1) / 2 - 1 = 2000000000 ∨ v.toInt < ((a + b + 1) / 2 - 1 + 1) ^ k.toNat := by
  rw [zL_toInt (by omega) (by omega)] at hq
  rw [show (a + b + 1) / 2 - 1 + 1 = (a + b + 1) / 2 by omega]
  exact Or.inr hq
theorem zL_ne0 {a : Int} (h : 1 ≤ a ∧ a ≤ 2000000000) : ¬ zL a = 0 := fun e => by
  have := zL_toInt (z := a) (by omega) (by omega)
  rw [e] at this
  have : (0 : Int64).toInt = a := this
  have z : (0 : Int64).toInt = 0 := rfl
  omega
theorem ipow_lt {a b : Int} {k : Nat} (ha : 0 ≤ a) (hb : 0 ≤ b) (h : a ^ k < b ^ k) : a < b := by
  rcases Int.lt_or_le a b with q | q
  · exact q
  · exfalso
    obtain ⟨m, rfl⟩ := Int.eq_ofNat_of_zero_le ha
    obtain ⟨n, rfl⟩ := Int.eq_ofNat_of_zero_le hb
    have q1 : n ≤ m := by omega
    have q2 : n ^ k ≤ m ^ k := Nat.pow_le_pow_left q1 k
    have q3 : m ^ k < n ^ k := by exact_mod_cast h
    omega
theorem rt_no {a b k i : Int} {v q : Int64} (h : 1 ≤ a ∧ a ≤ b ∧ b ≤ 2000000000) (hba : b ≤ a) (hk : 1 ≤ k) (hv : a = 1 ∨ a ^ k.toNat ≤ v.toInt) (hw : 0 ≤ v.toInt → b = 2000000000 ∨ v.toInt < (b + 1) ^ k.toNat) (hq : q = lpow (zL a) i.toNat) (hi : i = k) (hne : ¬ q = v) (h0 : 0 ≤ v.toInt) (L : Int) (h1 : 1 ≤ L) (h2 : L ≤ 2000000000) : ¬ L ^ k.toNat = v.toInt := fun e => by
  have e1 : L ≤ a := by
    rcases hw h0 with r | r
    · omega
    · rw [← e] at r
      have := ipow_lt (by omega) (by omega) r
      omega
  have e2 : a ≤ L := by
    rcases hv with r | r
    · omega
    · rcases Int.lt_or_le L a with s | s
      · exfalso
        rw [← e] at r
        obtain ⟨m, rfl⟩ := Int.eq_ofNat_of_zero_le (show 0 ≤ L by omega)
        obtain ⟨n, rfl⟩ := Int.eq_ofNat_of_zero_le (show 0 ≤ a by omega)
        have q1 : m < n := by omega
        have q2 := Nat.pow_lt_pow_left q1 (show k.toNat ≠ 0 by omega)
        have q3 : n ^ k.toNat ≤ m ^ k.toNat := by exact_mod_cast r
        omega
      · exact s
  have el : a = L := by omega
  apply hne
  apply Int64.toInt_inj.mp
  rw [hq, lpow_z, hi, el, e]
  exact zL_toInt (Int64.le_toInt v) (Int64.toInt_lt v)
/-- the root that is sought -/
def RT0 (f : Nat → Int64) (k first : Int) (E : Nat → Int) : Prop := ROT k.toNat (ci f) (first / 7).toNat (first % 7).toNat E
def PRc (ri rj ev i : Int) (a b : Nat) : Prop := ev < (a : Int) + b ∨ ((a : Int) + b = ev ∧ i < a) ∨ ((a : Int) = ri ∧ (b : Int) = rj)
/-- what is known of it -/
def PRt (R : Nat → Int64) (E : Nat → Int) (ri rj ev i : Int) : Prop := ∀ a b : Nat, a + b ≤ 6 → (PRc ri rj ev i a b → (R (7 * a + b)).toInt = E (7 * a + b)) ∧ (¬ PRc ri rj ev i a b → R (7 * a + b) = 0)
theorem fi_div {k first ri rj : Int} (hk : 2 ≤ k) (hf : 0 ≤ first ∧ first < 49) (h1 : k * ri = first / 7) (h2 : k * rj = first % 7) (a1 : 0 ≤ ri) (a2 : 0 ≤ rj) : (first / 7).toNat / k.toNat = ri.toNat ∧ (first % 7).toNat / k.toNat = rj.toNat ∧ (k - 1) * ri = first / 7 - ri ∧ (k - 1) * rj = first % 7 - rj := by
  have ei : (first / 7).toNat = k.toNat * ri.toNat := by
    have : ((k.toNat * ri.toNat : Nat) : Int) = first / 7 := by rw [Int.natCast_mul, Int.toNat_of_nonneg (by omega), Int.toNat_of_nonneg a1, h1]
    omega
  have ej : (first % 7).toNat = k.toNat * rj.toNat := by
    have : ((k.toNat * rj.toNat : Nat) : Int) = first % 7 := by rw [Int.natCast_mul, Int.toNat_of_nonneg (by omega), Int.toNat_of_nonneg a2, h2]
    omega
  refine ⟨?_, ?_, ?_, ?_⟩
  · rw [ei]
    exact Nat.mul_div_cancel_left _ (by omega)
  · rw [ej]
    exact Nat.mul_div_cancel_left _ (by omega)
  · rw [Int.sub_mul, h1, Int.one_mul]
  · rw [Int.sub_mul, h2, Int.one_mul]
theorem rt_mod {f : Nat → Int64} {k first : Int} (hk : 2 ≤ k) (hf : 0 ≤ first ∧ first < 49) (h : ∃ E, RT0 f k first E) : first / 7 % k = 0 ∧ first % 7 % k = 0 := by
  obtain ⟨E, _, ⟨h1, h2⟩, _⟩ := h
  have c : ∀ z : Int, 0 ≤ z → z.toNat % k.toNat = 0 → z % k = 0 := fun z hz e => by
    have : ((z.toNat % k.toNat : Nat) : Int) = z % k := by rw [Int.natCast_emod, Int.toNat_of_nonneg hz, Int.toNat_of_nonneg (by omega)]
    omega
  exact ⟨c _ (by omega) h1, c _ (by omega) h2⟩
theorem rt_lead {f : Nat → Int64} {k first : Int} {S : Nat} (hk : 2 ≤ k) (hf : 0 ≤ first ∧ first < 49) (hd6 : first / 7 + first % 7 ≤ 6) (hS : sS (fun a b => ci f (7 * a + b)) ≤ S) (hS2 : S ≤ 1152921504606846976) {E : Nat → Int} (h : RT0 f k first E) : ∃ L : Int, 1 ≤ L ∧ L ≤ 2000000000 ∧ L ^ k.toNat = (f first.toNat).toInt ∧ L = E (7 * ((first / 7).toNat / k.toNat) + (first % 7).toNat / k.toNat) := by
  have e := ROT_ld (by omega) h
  have z := ROT_sz (by omega) h hS ((first / 7).toNat / k.toNat) ((first % 7).toNat / k.toNat) (by
    have := Nat.div_le_self (first / 7).toNat k.toNat
    have := Nat.div_le_self (first % 7).toNat k.toNat
    omega)
  have l0 := h.2.2.2.1
  have ef : 7 * (first / 7).toNat + (first % 7).toNat = first.toNat := by omega
  rw [ef] at e
  refine ⟨_, by omega, ?_, e, rfl⟩
  have z2 := z.2
  generalize E (7 * ((first / 7).toNat / k.toNat) + (first % 7).toNat / k.toNat) = L at *
  rcases Int.lt_or_le 2000000000 L with q | q
  · exfalso
    have q1 : 2000000000 ≤ L.natAbs := by omega
    have q2 : 2000000000 ^ 2 ≤ L.natAbs ^ k.toNat := Nat.le_trans (Nat.pow_le_pow_left q1 2) (Nat.pow_le_pow_right (by omega) (by omega))
    have q3 : (2000000000 : Nat) ^ 2 = 4000000000000000000 := by decide
    omega
  · exact q
theorem PRt_c {R R' : Nat → Int64} {E : Nat → Int} {ri rj ev i ev' i' : Int} (hR : ∀ q : Int, 0 ≤ q → q < 49 → R' q.toNat = R q.toNat) (h : PRt R E ri rj ev i) (hc : ∀ a b : Nat, a + b ≤ 6 → (PRc ri rj ev i a b ↔ PRc ri rj ev' i' a b)) : PRt R' E ri rj ev' i' := fun a b hab => by
  have e := hR (7 * a + b : Nat) (by omega) (by omega)
  rw [Int.toNat_natCast] at e
  rw [e]
  obtain ⟨h1, h2⟩ := h a b hab
  exact ⟨fun q => h1 ((hc a b hab).mpr q), fun q => h2 (fun z => q ((hc a b hab).mp z))⟩
theorem PRt_0 {f R R' : Nat → Int64} {E : Nat → Int} {k first ri rj : Int} {L : Int64} {S : Nat} (hk : 2 ≤ k) (hf : 0 ≤ first ∧ first < 49) (hd6 : first / 7 + first % 7 ≤ 6) (h1 : k * ri = first / 7) (h2 : k * rj = first % 7) (hr : 0 ≤ ri ∧ 0 ≤ rj ∧ ri + rj ≤ 6) (hS : sS (fun a b => ci f (7 * a + b)) ≤ S) (hS2 : S ≤ 1152921504606846976) (e : R' = vp_updL R (7 * ri + rj).toNat L) (hz : ∀ q : Int, 0 ≤ q → q < 49 → R q.toNat = 0) (l1 : 1 ≤ L.toInt) (l3 : L.toInt ^ k.toNat = (f first.toNat).toInt) (h : RT0 f k first E) : PRt R' E ri rj (ri + rj) (ri + rj) := by
  obtain ⟨di, dj, _, _⟩ := fi_div hk hf h1 h2 hr.1 hr.2.1
  obtain ⟨L', m1, m2, m3, m4⟩ := rt_lead hk hf hd6 hS hS2 h
  have el : L.toInt = L' := pow_uq (show 1 ≤ k.toNat by omega) (by omega) (by omega) (l3.trans m3.symm)
  rw [di, dj] at m4
  obtain ⟨_, _, su, _, _, _⟩ := h
  rw [di, dj] at su
  intro a b hab
  have ea : R' (7 * a + b) = if ((7 * a + b : Nat) : Int) = 7 * ri + rj then L else R (7 * a + b) := by
    have := up_at (f := R) (k := 7 * ri + rj) (j := ((7 * a + b : Nat) : Int)) (x := L) (by omega) (by omega)
    rw [← e, Int.toNat_natCast] at this
    exact this
  have rz : R (7 * a + b) = 0 := by
    have := hz (7 * a + b : Nat) (by omega) (by omega)
    rw [Int.toNat_natCast] at this
    exact this
  by_cases q : (a : Int) = ri ∧ (b : Int) = rj
  · refine ⟨fun _ => ?_, fun z => absurd (Or.inr (Or.inr q)) z⟩
    rw [ea, if_pos (by omega), el, m4, show 7 * ri.toNat + rj.toNat = 7 * a + b by omega]
  · rw [ea, if_neg (by omega), rz]
    refine ⟨fun z => ?_, fun _ => rfl⟩
    rcases z with z | z | z
    · rw [su a b (by omega) (by omega) (by omega)]
      rfl
    · omega
    · exact absurd z q
theorem PRt_k {R : Nat → Int64} {f : Nat → Int64} {E : Nat → Int} {k first ri rj ev i : Int} (hk : 2 ≤ k) (hf : 0 ≤ first ∧ first < 49) (h1 : k * ri = first / 7) (h2 : k * rj = first % 7) (hr : 0 ≤ ri ∧ 0 ≤ rj ∧ ri + rj ≤ 6) (hi : 0 ≤ i ∧ i ≤ ev ∧ ev ≤ ri + rj) (hb : ¬ (ev < ri + rj ∨ i < ri)) (hE : RT0 f k first E) (h : PRt R E ri rj ev i) : PRt R E ri rj ev (i + -1) := by
  obtain ⟨di, dj, _, _⟩ := fi_div hk hf h1 h2 hr.1 hr.2.1
  obtain ⟨_, _, _, _, hz, _⟩ := hE
  rw [di, dj] at hz
  intro a b hab
  obtain ⟨g1, g2⟩ := h a b hab
  by_cases q : PRc ri rj ev i a b
  · refine ⟨fun _ => g1 q, fun z => absurd ?_ z⟩
    unfold PRc at *
    omega
  · refine ⟨fun z => ?_, fun _ => g2 q⟩
    rw [g2 q, hz a b hab (by unfold PRc wt at *; omega)]
    rfl
theorem PRt_d {R R' : Nat → Int64} {E : Nat → Int} {ri rj ev i : Int} {x : Int64} (hr : 0 ≤ ri ∧ 0 ≤ rj ∧ ri + rj ≤ 6) (hi : 0 ≤ i ∧ i ≤ ev ∧ ev ≤ ri + rj) (hb : ev < ri + rj ∨ i < ri) {p : Int} (hp : p = 7 * i + (ev - i)) (e : R' = vp_updL R p.toNat x) (hx : x.toInt = E (7 * i.toNat + (ev - i).toNat)) (h : PRt R E ri rj ev i) : PRt R' E ri rj ev (i + -1) := by
  intro a b hab
  have ea : R' (7 * a + b) = if ((7 * a + b : Nat) : Int) = p then x else R (7 * a + b) := by
    have := up_at (f := R) (k := p) (j := ((7 * a + b : Nat) : Int)) (x := x) (by omega) (by omega)
    rw [← e, Int.toNat_natCast] at this
    exact this
  obtain ⟨g1, g2⟩ := h a b hab
  by_cases q : (a : Int) = i ∧ (b : Int) = ev - i
  · refine ⟨fun _ => ?_, fun z => absurd ?_ z⟩
    · rw [ea, if_pos (by omega), hx, show 7 * i.toNat + (ev - i).toNat = 7 * a + b by omega]
    · unfold PRc
      omega
  · rw [ea, if_neg (by omega)]
    refine ⟨fun z => g1 ?_, fun z => g2 (fun y => z ?_)⟩
    · unfold PRc at *
      omega
    · unfold PRc at *
      omega
/-- the digit that the division gives -/
theorem ip_dig {f6 f8 r : Nat → Int64} {k first ri rj ev i : Int} {u L lf : Int64} {E : Nat → Int} {S : Nat} (hk : 2 ≤ k ∧ k ≤ 12) (hf : 0 ≤ first ∧ first < 49) (hd6 : first / 7 + first % 7 ≤ 6) (h1 : k * ri = first / 7) (h2 : k * rj = first % 7) (hkD : k * (ri + rj) = first / 7 + first % 7) (hr : 0 ≤ ri ∧ 0 ≤ rj ∧ ri + rj ≤ 6) (hi : 0 ≤ i ∧ i ≤ ev ∧ ev ≤ ri + rj) (hb : ev < ri + rj ∨ i < ri) (hS : sS (fun a b => ci f6 (7 * a + b)) ≤ S) (hS2 : S ≤ 1152921504606846976) (hsu : SU r (ri + rj)) (hrl : r (7 * ri + rj).toNat = L) (hp : CG (pw id f8 49) (fun z => pw id r 49 z ^ k.toNat)) (hu : u.toInt = k * L.toInt ^ (k - 1).toNat) (hu1 : k ≤ u.toInt) (elf : lf = f6 ((((7 * (i + ((k - 1) * ri))) + ev) - i) + ((k - 1) * rj) : Int).toNat - f8 ((((7 * (i + ((k - 1) * ri))) + ev) - i) + ((k - 1) * rj) : Int).toNat) (hE : RT0 f6 k first E) (hpt : PRt r E ri rj ev i) : (lf / u).toInt = E (7 * i.toNat + (ev - i).toNat) ∧ lf - lf / u * u = 0 := by
  obtain ⟨di, dj, k1, k2⟩ := fi_div hk.1 hf h1 h2 hr.1 hr.2.1
  have hz := ROT_sz (by omega) hE hS i.toNat (ev - i).toNat (by omega)
  have hE2 := hE
  obtain ⟨_, ⟨mi, mj⟩, su, l0, hz0, ht⟩ := hE2
  rw [di, dj] at su l0 hz0 hz
  have hkk : k.toNat * (ri + rj).toNat ≤ 6 := by
    have : ((k.toNat * (ri + rj).toNat : Nat) : Int) = first / 7 + first % 7 := by rw [Int.natCast_mul, Int.toNat_of_nonneg (by omega), Int.toNat_of_nonneg (by omega), hkD]
    omega
  have suR := SU_ci (by omega) hsu
  obtain ⟨T, hT⟩ := hom_pow (k := k.toNat) (by omega) hkk suR
  have hcell := pw_cell (by omega) hkk suR hT hp
  have nx := root_next (k := k.toNat) (D := (ri + rj).toNat) (f := ci f6) (E := E) (P := ci r) (T := T) (ri := ri.toNat) (rj := rj.toNat) (i := i.toNat) (j := (ev - i).toNat) (by omega) hkk (by omega) (by omega) (by unfold wt; omega) hz0 (fun a b hab hw => (hpt a b hab).1 (by unfold wt at hw; unfold PRc; omega)) (fun a b hab hw => by
    have := (hpt a b hab).2 (by unfold wt at hw; unfold PRc; omega)
    show (r (7 * a + b)).toInt = 0
    rw [this]
    rfl) ht hT
  have m1 : ((k.toNat - 1 : Nat) : Int) * (ri.toNat : Int) = (k - 1) * ri := by rw [show ((k.toNat - 1 : Nat) : Int) = k - 1 by omega, Int.toNat_of_nonneg hr.1]
  have m2 : ((k.toNat - 1 : Nat) : Int) * (rj.toNat : Int) = (k - 1) * rj := by rw [show ((k.toNat - 1 : Nat) : Int) = k - 1 by omega, Int.toNat_of_nonneg hr.2.1]
  have n1 : (((k.toNat - 1) * ri.toNat : Nat) : Int) = (k - 1) * ri := by rw [Int.natCast_mul, m1]
  have n2 : (((k.toNat - 1) * rj.toNat : Nat) : Int) = (k - 1) * rj := by rw [Int.natCast_mul, m2]
  have eat : ((((7 * (i + ((k - 1) * ri))) + ev) - i) + ((k - 1) * rj) : Int).toNat = 7 * (i.toNat + (k.toNat - 1) * ri.toNat) + ((ev - i).toNat + (k.toNat - 1) * rj.toNat) := by omega
  have ec := hcell (i.toNat + (k.toNat - 1) * ri.toNat) ((ev - i).toNat + (k.toNat - 1) * rj.toNat) (by omega)
  rw [eat] at elf
  have el : E (7 * ri.toNat + rj.toNat) = L.toInt := by
    have := (hpt ri.toNat rj.toNat (by omega)).1 (Or.inr (Or.inr ⟨by omega, by omega⟩))
    rw [← this, show 7 * ri.toNat + rj.toNat = (7 * ri + rj).toNat by omega, hrl]
  have cl : cq lf (E (7 * i.toNat + (ev - i).toNat) * u.toInt) := by
    rw [elf, hu]
    refine cq_e ?_ (cq_sub (cq_rf _) ec)
    have ek : k.toNat - 1 = (k - 1).toNat := by omega
    rw [el, show ((k.toNat : Nat) : Int) = k by omega, ek] at nx
    rw [ek]
    exact nx
  have hsz : (E (7 * i.toNat + (ev - i).toNat) * u.toInt).natAbs ≤ 12 * 1152921504606846976 := by
    rw [hu]
    have h3 := hz.1
    rw [el, show ((k.toNat : Nat) : Int) = k by omega, show k.toNat - 1 = (k - 1).toNat by omega] at h3
    refine Nat.le_trans h3 (Nat.mul_le_mul (by omega) hS2)
  have hk6 : k ≤ 6 := by
    have l1 : 1 ≤ ri + rj := by
      rcases hb with q | q
      · omega
      · omega
    have : k * 1 ≤ k * (ri + rj) := Int.mul_le_mul_of_nonneg_left l1 (by omega)
    omega
  have hsz2 : (E (7 * i.toNat + (ev - i).toNat) * u.toInt).natAbs ≤ 6 * 1152921504606846976 := by
    rw [hu]
    have h3 := hz.1
    rw [el, show ((k.toNat : Nat) : Int) = k by omega, show k.toNat - 1 = (k - 1).toNat by omega] at h3
    refine Nat.le_trans h3 (Nat.mul_le_mul (by omega) hS2)
  have ex := cq_small cl (by omega) (by omega)
  have u0 : u ≠ 0 := fun z => by
    rw [z] at hu1
    have : (0 : Int64).toInt = 0 := rfl
    omega
  have eq : (lf / u).toInt = E (7 * i.toNat + (ev - i).toNat) := by
    have bE := i64_b (lf / u)
    have e1 : (lf / u).toInt = (lf.toInt.tdiv u.toInt).bmod (2 ^ 64) := Int64.toInt_div lf u
    rw [ex, Int.mul_tdiv_cancel _ (show u.toInt ≠ 0 by omega)] at e1
    rw [e1]
    have b1 : (E (7 * i.toNat + (ev - i).toNat)).natAbs ≤ 6 * 1152921504606846976 := by
      have h4 : (E (7 * i.toNat + (ev - i).toNat)).natAbs * 1 ≤ (E (7 * i.toNat + (ev - i).toNat)).natAbs * u.toInt.natAbs := Nat.mul_le_mul (Nat.le_refl _) (by omega)
      rw [← Int.natAbs_mul] at h4
      omega
    exact Int.bmod_eq_of_le (by omega) (by omega)
  refine ⟨eq, ?_⟩
  have e2 : lf / u * u = lf := by
    apply Int64.toInt_inj.mp
    have c := cq_mul (cq_rf (lf / u)) (cq_rf u)
    rw [eq] at c
    rw [cq_small c (by omega) (by omega), ex]
  rw [e2]
  exact Int64.sub_self lf
theorem PRt_all {R : Nat → Int64} {E : Nat → Int} {ri rj ev i : Int} (h : PRt R E ri rj ev i) (he : ev < 0) : ∀ a b, a + b ≤ 6 → ci R (7 * a + b) = E (7 * a + b) := fun a b hab => (h a b hab).1 (Or.inl (by omega))
theorem ip_end {f6 f8 r : Nat → Int64} {k first ri rj ev i : Int} {E : Nat → Int} (hk : 2 ≤ k) (hkD : k * (ri + rj) = first / 7 + first % 7) (hd6 : first / 7 + first % 7 ≤ 6) (hr : 0 ≤ ri ∧ 0 ≤ rj ∧ ri + rj ≤ 6) (hs6 : SU f6 6) (hsu : SU r (ri + rj)) (hp : CG (pw id f8 49) (fun z => pw id r 49 z ^ k.toNat)) (hE : RT0 f6 k first E) (hpt : PRt r E ri rj ev i) (he : ev < 0) : ∀ q : Int, 0 ≤ q → q < 49 → f8 q.toNat = f6 q.toNat := fun q a b => by
  have hkk : k.toNat * (ri + rj).toNat ≤ 6 := by
    have : ((k.toNat * (ri + rj).toNat : Nat) : Int) = first / 7 + first % 7 := by rw [Int.natCast_mul, Int.toNat_of_nonneg (by omega), Int.toNat_of_nonneg (by omega), hkD]
    omega
  have ht : tru k.toNat (ci f6) (ci r) := fun x y => by
    rw [← hE.2.2.2.2.2 x y, hom6_eq (fun a b hab => PRt_all hpt he a b hab) x y 1]
  exact pw_true (by omega) hkk (SU_ci (by omega) hsu) (SU_ci (by decide) hs6) ht hp q.toNat (by omega)
