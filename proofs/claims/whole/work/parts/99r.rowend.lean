/-! the freed row: what the eliminant wants of it -/
def RowOK (X Y W : Nat → Int) (n : Nat) : Prop := (∀ i, n < i → X i = 0 ∧ Y i = 0 ∧ W i = 0) ∧ (∀ i, (X i).natAbs ≤ 105 ∧ (Y i).natAbs ≤ 105 ∧ (W i).natAbs ≤ 105) ∧ (n = 4 → ∀ i, (X i).natAbs ≤ 7 ∧ (Y i).natAbs ≤ 7 ∧ (W i).natAbs ≤ 7) ∧ ∀ i j l, i < 5 → j < 5 → l < 5 → (d3 X Y W i j l).natAbs < 2 ^ 21
theorem d3_b {X Y W : Nat → Int} {i j l A B C : Nat} (hi : (X i).natAbs ≤ A ∧ (Y i).natAbs ≤ A ∧ (W i).natAbs ≤ A) (hj : (X j).natAbs ≤ B ∧ (Y j).natAbs ≤ B ∧ (W j).natAbs ≤ B) (hl : (X l).natAbs ≤ C ∧ (Y l).natAbs ≤ C ∧ (W l).natAbs ≤ C) : (d3 X Y W i j l).natAbs ≤ 6 * (A * (B * C)) := by
  have e : ∀ {x a b c d : Int}, x.natAbs ≤ A → a.natAbs ≤ B → b.natAbs ≤ C → c.natAbs ≤ C → d.natAbs ≤ B → (x * (a * b - c * d)).natAbs ≤ 2 * (A * (B * C)) := fun {x a b c d} h1 h2 h3 h4 h5 => by
    have k1 := nm_b h2 h3
    have k2 := nm_b h4 h5
    rw [Nat.mul_comm C B] at k2
    have k3 : (a * b - c * d).natAbs ≤ 2 * (B * C) := by omega
    have k4 := nm_b h1 k3
    rw [Nat.mul_left_comm] at k4
    exact k4
  have t1 := e hi.1 hj.2.1 hl.2.2 hl.2.1 hj.2.2
  have t2 := e hi.2.1 hj.1 hl.2.2 hl.1 hj.2.2
  have t3 := e hi.2.2 hj.1 hl.2.1 hl.1 hj.2.1
  have ex : d3 X Y W i j l = X i * (Y j * W l - Y l * W j) - Y i * (X j * W l - X l * W j) + W i * (X j * Y l - X l * Y j) := rfl
  rw [ex]
  omega
theorem d3_ij (X Y W : Nat → Int) (i l : Nat) : d3 X Y W i i l = 0 := by
  unfold d3
  grind
theorem d3_jl (X Y W : Nat → Int) (i j : Nat) : d3 X Y W i j j = 0 := by
  unfold d3
  grind
theorem d3_il (X Y W : Nat → Int) (i j : Nat) : d3 X Y W i j i = 0 := by
  unfold d3
  grind
theorem RowOK_q {F : Nat → Nat → Int64} {d n : Nat} (hd : d ≤ 4) (h : ∀ a, a < 3 → qsm d (ti (F a)) ∧ (d = 0 → ∀ i, (ti (F a) i).natAbs ≤ 7)) (hn : n ≤ 4) (hz : ∀ a, a < 3 → ∀ i, n < i → ti (F a) i = 0) (ht : 0 < n → ∃ a, a < 3 ∧ ti (F a) n ≠ 0) : RowOK (ti (F 0)) (ti (F 1)) (ti (F 2)) n := by
  have h0 := h 0 (by decide)
  have h1 := h 1 (by decide)
  have h2 := h 2 (by decide)
  have B : ∀ M : Nat, (∀ a, a < 3 → ∀ i, (ti (F a) i).natAbs ≤ M) → ∀ i, (ti (F 0) i).natAbs ≤ M ∧ (ti (F 1) i).natAbs ≤ M ∧ (ti (F 2) i).natAbs ≤ M := fun M hM i => ⟨hM 0 (by decide) i, hM 1 (by decide) i, hM 2 (by decide) i⟩
  have dd : ∀ M : Nat, M ≤ 56 → (∀ a, a < 3 → ∀ i, (ti (F a) i).natAbs ≤ M) → ∀ i j l, (d3 (ti (F 0)) (ti (F 1)) (ti (F 2)) i j l).natAbs < 2 ^ 21 := fun M hM hb i j l => by
    have k := d3_b (B M hb i) (B M hb j) (B M hb l)
    have k2 := Nat.mul_le_mul hM (Nat.mul_le_mul hM hM)
    omega
  refine ⟨fun i hi => ⟨hz 0 (by decide) i hi, hz 1 (by decide) i hi, hz 2 (by decide) i hi⟩, B 105 (fun a ha => (h a ha).1.1), fun e => ?_, fun i j l hi hj hl => ?_⟩
  · obtain ⟨a, ha, hne⟩ := ht (by omega)
    have d0 : d = 0 := Classical.byContradiction fun z => hne ((h a ha).1.2.2.2.2 n (by omega))
    exact B 7 (fun a ha => (h a ha).2 d0)
  · have : d = 0 ∨ d = 1 ∨ d = 2 ∨ 3 ≤ d := by omega
    rcases this with e | e | e | e
    · exact dd 7 (by decide) (fun a ha => (h a ha).2 e) i j l
    · exact dd 56 (by decide) (fun a ha => (h a ha).1.2.1 (by omega)) i j l
    · have z7 : ∀ a, a < 3 → ∀ j, j ≠ 1 → (ti (F a) j).natAbs ≤ 7 := fun a ha => (h a ha).1.2.2.1 (by omega)
      have b7' : ∀ j, j ≠ 1 → (ti (F 0) j).natAbs ≤ 7 ∧ (ti (F 1) j).natAbs ≤ 7 ∧ (ti (F 2) j).natAbs ≤ 7 := fun j hj => ⟨z7 0 (by decide) j hj, z7 1 (by decide) j hj, z7 2 (by decide) j hj⟩
      have b105 := B 105 (fun a ha => (h a ha).1.1)
      by_cases i1 : i = 1
      · by_cases j1 : j = 1
        · subst i1
          subst j1
          rw [d3_ij]
          decide
        · by_cases l1_ : l = 1
          · subst i1
            subst l1_
            rw [d3_il]
            decide
          · have := d3_b (b105 i) (b7' j j1) (b7' l l1_)
            omega
      · by_cases j1 : j = 1
        · by_cases l1_ : l = 1
          · subst j1
            subst l1_
            rw [d3_jl]
            decide
          · have := d3_b (b7' i i1) (b105 j) (b7' l l1_)
            omega
        · have := d3_b (b7' i i1) (b7' j j1) (b105 l)
          omega
    · exact dd 7 (by decide) (fun a ha => (h a ha).1.2.2.2.1 (by omega)) i j l
/-- the value at u, v: the freed row's times the divisor's -/
theorem hv_mul {X g q : Nat → Int} {m d n : Nat} (hm : m ≤ 4) (hd : d ≤ 4) (hn : n ≤ 4) (e : m = d + n) (zX : ∀ i, m < i → i < 5 → X i = 0) (zg : ∀ i, d < i → i < 5 → g i = 0) (zq : ∀ i, n < i → i < 5 → q i = 0) (h : ∀ t, pv X t = pv g t * pv q t) (u v : Int) : hv X m u v = hv g d u v * hv q n u v := by
  have k : ∀ v, v ≠ 0 → ∀ u, hv X m u v - hv g d u v * hv q n u v = 0 := fun v h0 u => by
    refine van (Q := fun s => hv X m s v - hv g d s v * hv q n s v) ((Pf_hu X m v).sub ((Pf_hu g d v).mul (Pf_hu q n v))) h0 (fun s => ?_) u
    rw [hv_t hm zX, hv_t hd zg, hv_t hn zq, h, e, Int.pow_add]
    grind
  have k2 := van1 (Q := fun s => hv X m u s - hv g d u s * hv q n u s) ((Pf_hv X m u).sub ((Pf_hv g d u).mul (Pf_hv q n u))) (fun s hs => k s (by omega) u) v
  omega
/-- all of a slice that is the eliminant mod 2 ^ 64 -/
def NC (X Y W : Nat → Int) (n : Nat) : Prop := ¬ ∃ a : Int, CG (fun t => Fz n X Y W (t7 t) t 1) (fun _ => a)
def TR (X Y W : Nat → Int) (n : Nat) (tr : Nat → Int64) (dg : Int32) : Prop := ∃ D : Int, 0 ≤ D ∧ D ≤ 4 ∧ dg = zI D ∧ SU tr D ∧ ∀ u v : Int, qg (c15 (fun i => (tr i).toInt)) (hv X n u v) (hv Y n u v) (hv W n u v) = 0
theorem sl_ex {X Y W : Nat → Int} {n : Nat} {w : Nat → Int64} {s : Int} (h1 : 1 ≤ n) (hn : n ≤ 4) (hr : RowOK X Y W n) (hs : s = 1 ∨ s = -1) (h : CG (pw id w 49) (fun t => s * Fz n X Y W (t7 t) t 1)) : (∀ t, evl (lsf w 49) t = s * Fz n X Y W (t7 t) t 1) ∧ sz60 w ∧ SU w n := by
  obtain ⟨φ, hφ, zφ⟩ := Qd_Fz h1 hn X Y W
  dsimp only at hφ
  obtain ⟨l, hl, bl_⟩ := Nb_Fz h1 hn hr.2.1 hr.2.2.1
  have el : ∀ i, gd l i = gd (lr φ) i := evl_uq (fun t => by rw [← hl t, evl_lr, ← hφ])
  have h2 : CG (pw id w 49) (evl ((lr φ).map (fun x => s * x))) := h.tr (CG.ex (fun t => by rw [evl_map, evl_lr, ← hφ]))
  have hb : ∀ i, (s * gd (lr φ) i).natAbs < 1152921504606846976 := fun i => by
    have h3 := gd_l1 l i
    rw [el i] at h3
    rcases hs with e | e <;> rw [e] <;> omega
  have ex : ∀ i, i < 49 → (w i).toInt = s * gd (lr φ) i := fun i hi => by
    have h3 := CG_at h2 i hi
    rw [gd_map] at h3
    have := hb i
    exact cq_small h3 (by omega) (by omega)
  refine ⟨fun t => ?_, fun q a b => ?_, fun q a b c => ?_⟩
  · have : evl (lsf w 49) t = evl ((lr φ).map (fun x => s * x)) t := evl_gd (fun i => by
      rw [gd_lsf, gd_map]
      by_cases hi : i < 49
      · rw [if_pos hi, ex i hi]
      · rw [if_neg hi, show gd (lr φ) i = 0 from gd_fin _ _ (by show 29 ≤ i; omega), Int.mul_zero]) t
    rw [this, evl_map, evl_lr, ← hφ]
  · rw [ex q.toNat (by omega)]
    exact hb _
  · apply i64_z
    rw [ex q.toNat (by omega), lr_su zφ q.toNat (by omega), Int.mul_zero]
theorem pv_ne {W : Nat → Int} (h : ∃ i, i < 5 ∧ W i ≠ 0) : ∃ t, pv W t ≠ 0 := by
  obtain ⟨i, hi, hne⟩ := h
  apply Classical.byContradiction
  intro z
  apply hne
  have e : ∀ t, evl [W 0, W 1, W 2, W 3, W 4] t = evl [] t := fun t => by
    have : pv W t = 0 := Classical.byContradiction fun y => z ⟨t, y⟩
    unfold pv at this
    simp only [evl]
    grind
  have u := evl_uq e i
  match i, hi with
  | 0, _ => exact u
  | 1, _ => exact u
  | 2, _ => exact u
  | 3, _ => exact u
  | 4, _ => exact u
theorem te_tr {X Y W : Nat → Int} {n : Nat} {w tr : Nat → Int64} {dg : Int32} {s : Int} (h1 : 1 ≤ n) (hn : n ≤ 4) (hr : RowOK X Y W n) (hW : ∃ i, i < 5 ∧ W i ≠ 0) (hs : s = 1 ∨ s = -1) (h : CG (pw id w 49) (fun t => s * Fz n X Y W (t7 t) t 1)) (ht : TE w tr dg) : TR X Y W n tr dg := by
  obtain ⟨ev, sz, su⟩ := sl_ex h1 hn hr hs h
  obtain ⟨f, c, d, k, c0, hw, hp, hd1, hsu, ⟨q, q0, q1, q2, q3⟩, hk1, hdg, hkk⟩ := ht
  have wne : w q.toNat ≠ 0 := fun z => by
    have e := hw q.toNat (by omega)
    rw [z, show (0 : Int64).toInt = 0 from rfl] at e
    rcases Int.mul_eq_zero.mp e.symm with y | y
    · exact c0 y
    · exact q3 (i64_z y)
  have hdn : d ≤ n := by
    have := SU_le su (q := q) q0 q1 wne
    omega
  have hsq : s * s = 1 := by rcases hs with e | e <;> rw [e] <;> rfl
  have hf : ∀ t, s * c * evl (lfi (fun i => (f i).toInt) 49) t = Fz n X Y W (t7 t) t 1 := fun t => by
    have e1 : evl (lsf w 49) t = c * evl (lfi (fun i => (f i).toInt) 49) t := by
      rw [← evl_map]
      exact evl_gd (fun i => by
        rw [gd_map, gd_lsf, gd_lfi]
        by_cases hi : i < 49
        · rw [if_pos hi, if_pos hi]
          exact hw i hi
        · rw [if_neg hi, if_neg hi, Int.mul_zero]) t
    rw [Int.mul_assoc, ← e1, ev t, ← Int.mul_assoc, hsq, Int.one_mul]
  have sc0 : s * c ≠ 0 := fun z => by
    rcases Int.mul_eq_zero.mp z with y | y
    · rcases hs with e | e <;> omega
    · exact c0 y
  have bf : ∀ i, (gd (lfi (fun i => (f i).toInt) 49) i).natAbs < 2 ^ 60 := fun i => by
    rw [gd_lfi]
    by_cases hi : i < 49
    · rw [if_pos hi]
      have e := hw i hi
      have b := sz (i : Int) (by omega) (by omega)
      rw [Int.toNat_natCast, e, Int.natAbs_mul] at b
      have := Nat.mul_le_mul (show 1 ≤ c.natAbs by omega) (Nat.le_refl (f i).toInt.natAbs)
      omega
    · rw [if_neg hi]
      decide
  have sui : SUi (fun i => (f i).toInt) d.toNat := fun a b ha hb hab => by
    have := hsu (7 * a + b : Nat) (by omega) (by omega) (by omega)
    rw [Int.toNat_natCast] at this
    show (f (7 * a + b)).toInt = 0
    rw [this]
    rfl
  have hne : ∃ i, 1 ≤ i ∧ i < 49 ∧ (fun i => (f i).toInt) i ≠ 0 := ⟨q.toNat, by omega, by omega, fun z => q3 (i64_z z)⟩
  have kr : kroot k.toNat d.toNat (fun i => (f i).toInt) (fun i => (tr i).toInt) := by
    rcases hkk with ⟨e, htr⟩ | ⟨e, D, p1, p2, p3, p4, H, pH, hH⟩
    · exact Or.inl ⟨by omega, fun i hi => by dsimp only; rw [htr i hi]⟩
    · have ed : d.toNat = k.toNat * D.toNat := by
        have : ((k.toNat * D.toNat : Nat) : Int) = d := by
          rw [Int.natCast_mul, Int.toNat_of_nonneg (by omega), Int.toNat_of_nonneg p1, p2]
        omega
      have edk : d.toNat / k.toNat = D.toNat := by
        rw [ed]
        exact Nat.mul_div_cancel_left _ (by omega)
      refine Or.inr ⟨by omega, ⟨D.toNat, ed⟩, ?_, fun i hi => ?_, fun t => H t, pH, fun t => ?_⟩
      · rw [edk]
        intro a b ha hb hab
        have := p3 (7 * a + b : Nat) (by omega) (by omega) (by omega)
        rw [Int.toNat_natCast] at this
        show (tr (7 * a + b)).toInt = 0
        rw [this]
        rfl
      · have := p4 (i : Int) (by omega) (by omega)
        rw [Int.toNat_natCast] at this
        exact this
      · have e1 : evl (lfi (fun i => (tr i).toInt) 49) t = pw id tr 49 t := (pw_evl tr 49 t).symm
        have e2 : evl (lfi (fun i => (f i).toInt) 49) t = pw id f 49 t := (pw_evl f 49 t).symm
        rw [e1, e2]
        exact hH t
  have tc := fun t => trace_curve h1 hn (fun i a _ => hr.1 i a) (pv_ne hW) sc0 hf hp bf (show 1 ≤ d.toNat by omega) (show d.toNat ≤ n by omega) sui hne (fun e i _ => hr.2.2.1 e i) hr.2.2.2 kr t
  have fin := trace_uv hn (fun i a _ => hr.1 i a) tc
  rcases hkk with ⟨e, htr⟩ | ⟨e, D, p1, p2, p3, p4, _⟩
  · refine ⟨d, by omega, by omega, by rw [hdg, e, Int.ediv_one], fun x a b c => ?_, fin⟩
    rw [htr x.toNat (by omega)]
    exact hsu x a b c
  · have eD : d / k = D := by
      rw [← p2]
      exact Int.mul_ediv_cancel_left _ (by omega)
    have hle : D * 1 ≤ D * k := Int.mul_le_mul_of_nonneg_left (by omega) p1
    rw [Int.mul_comm D k] at hle
    exact ⟨D, p1, by omega, by rw [hdg, eD], p3, fin⟩
theorem nc_w {X Y W : Nat → Int} {n : Nat} {w : Nat → Int64} {s : Int} (hs : s = 1 ∨ s = -1) (h : CG (pw id w 49) (fun t => s * Fz n X Y W (t7 t) t 1)) : (∃ q : Int, 1 ≤ q ∧ q < 49 ∧ w q.toNat ≠ 0) ↔ NC X Y W n := by
  constructor
  · rintro ⟨q, q1, q2, q3⟩ ⟨a, ha⟩
    have h2 : CG (pw id w 49) (evl [s * a]) := h.tr ((CG.ml (Pf.con s) ha).tr (CG.ex (fun t => by
      show s * a = s * a + t * 0
      omega)))
    have h3 := CG_at h2 q.toNat (by omega)
    obtain ⟨m, hm⟩ : ∃ m, q.toNat = m + 1 := ⟨q.toNat - 1, by omega⟩
    have e : gd [s * a] q.toNat = 0 := by rw [hm]; rfl
    rw [e] at h3
    obtain ⟨z, hz⟩ := h3
    exact q3 (cq_0 ⟨z, by omega⟩)
  · intro hn
    apply Classical.byContradiction
    intro hq
    apply hn
    have hsq : s * s = 1 := by rcases hs with e | e <;> rw [e] <;> rfl
    refine ⟨s * (w 0).toInt, (CG.ex (fun t => ?_)).tr ((CG.ml (Pf.con s) h.sy).tr (CG.ex (fun t => ?_)))⟩
    · rw [← Int.mul_assoc, hsq, Int.one_mul]
    · have e : pw id w 49 t = pw id w 1 t := pw_cut (N := 1) 48 (fun i a b => Classical.byContradiction fun z => hq ⟨i, by omega, by omega, by rw [Int.toNat_natCast]; exact z⟩) t
      rw [e]
      show s * (0 + (w 0).toInt * t ^ 0) = _
      rw [Int.pow_zero, Int.mul_one, Int.zero_add]
