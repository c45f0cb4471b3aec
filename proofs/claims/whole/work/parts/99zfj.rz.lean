/-! the envelope in the reference: its cells, its end -/
def NCe (N : Nat) (X Y W : Nat → Int) : Prop := ¬ ∃ a : Int, CG (fun t => Fe N X Y W (t7 t) t 1) (fun _ => a)
def TRz (N : Nat) (X Y W : Nat → Int) (tr : Nat → Int64) (dg : Int32) : Prop := ∃ D : Int, 0 ≤ D ∧ D ≤ 6 ∧ dg = zI D ∧ SU tr D ∧ ∀ x y w : Int, Fe N X Y W x y w = 0 → hom6 (fun a b => (tr (7 * a + b)).toInt) x y w = 0
theorem nc_g {F : Int → Int} {w : Nat → Int64} {s : Int} (hs : s = 1 ∨ s = -1) (h : CG (pw id w 49) (fun t => s * F t)) : (∃ q : Int, 1 ≤ q ∧ q < 49 ∧ w q.toNat ≠ 0) ↔ ¬ ∃ a : Int, CG F (fun _ => a) := by
  constructor
  · rintro ⟨q, q1, q2, q3⟩ ⟨a, ha⟩
    have h2 : CG (pw id w 49) (evl [s * a]) := h.tr ((CG.ml (Pf.con s) ha).tr (CG.ex (fun t => by
      show s * a = s * a + t * 0
      omega)))
    have h3 := CG_at h2 q.toNat (by omega)
    obtain ⟨m, hm⟩ : ∃ m, q.toNat = m + 1 := ⟨q.toNat - 1, by omega⟩
    have e : gd [s * a] q.toNat = 0 := by rw [hm]; rfl
    rw [e] at h3
    obtain ⟨z, hz⟩ := h3
    exact q3 (cq_0 ⟨z, by omega⟩)
  · intro hn
    apply Classical.byContradiction
    intro hq
    apply hn
    have hsq : s * s = 1 := by rcases hs with e | e <;> rw [e] <;> rfl
    refine ⟨s * (w 0).toInt, (CG.ex (fun t => ?_)).tr ((CG.ml (Pf.con s) h.sy).tr (CG.ex (fun t => ?_)))⟩
    · rw [← Int.mul_assoc, hsq, Int.one_mul]
    · have e : pw id w 49 t = pw id w 1 t := pw_cut (N := 1) 48 (fun i a b => Classical.byContradiction fun z => hq ⟨i, by omega, by omega, by rw [Int.toNat_natCast]; exact z⟩) t
      rw [e]
      show s * (0 + (w 0).toInt * t ^ 0) = _
      rw [Int.pow_zero, Int.mul_one, Int.zero_add]
theorem nc_gp {F : Int → Int} {w : Nat → Int64} {s : Int} (hs : s = 1 ∨ s = -1) (h : CG (pw ixs w 28) (fun t => s * F t)) : BIG w ↔ ¬ ∃ a : Int, CG F (fun _ => a) := by
  constructor
  · rintro ⟨q, q1, q2, q3⟩ ⟨a, ha⟩
    have h2 : CG (pw ixs w 28) (evl [s * a]) := h.tr ((CG.ml (Pf.con s) ha).tr (CG.ex (fun t => by
      show s * a = s * a + t * 0
      omega)))
    have h3 := CG_pl h2 q.toNat (by omega)
    have h1 := inv_ixs ⟨q.toNat, by omega⟩
    simp only at h1
    have i0 : ixs q.toNat ≠ 0 := fun z => by
      rw [z] at h1
      have : (0 : Nat) = q.toNat := h1.1
      omega
    obtain ⟨m, hm⟩ : ∃ m, ixs q.toNat = m + 1 := ⟨ixs q.toNat - 1, by omega⟩
    rw [hm] at h3
    exact q3 (cq_0' h3)
  · intro hn
    apply Classical.byContradiction
    intro hq
    apply hn
    have hsq : s * s = 1 := by rcases hs with e | e <;> rw [e] <;> rfl
    refine ⟨s * (w 0).toInt, (CG.ex (fun t => ?_)).tr ((CG.ml (Pf.con s) h.sy).tr (CG.ex (fun t => ?_)))⟩
    · rw [← Int.mul_assoc, hsq, Int.one_mul]
    · have e : pw ixs w 28 t = pw ixs w 1 t := pw_cut (N := 1) 27 (fun i a b => Classical.byContradiction fun z => hq ⟨i, by omega, by omega, by rw [Int.toNat_natCast]; exact z⟩) t
      rw [e]
      show s * (0 + (w 0).toInt * t ^ 0) = _
      rw [Int.pow_zero, Int.mul_one, Int.zero_add]
theorem sl_ez {N : Nat} {X Y W : Nat → Int} {T : Nat → Nat → Int} (hT : TN N X Y W T) {w : Nat → Int64} {s : Int} (hs : s = 1 ∨ s = -1) (h : CG (pw id w 49) (fun t => s * Fe N X Y W (t7 t) t 1)) : (∀ i, i < 49 → (w i).toInt = s * gd (l6 T) i) ∧ sz60 w ∧ SU w 6 := by
  have h2 : CG (pw id w 49) (evl ((l6 T).map (fun x => s * x))) := h.tr (CG.ex (fun t => by rw [evl_map, evl_l6, hT.2.1]))
  have hb : ∀ i, (s * gd (l6 T) i).natAbs ≤ 1000000000000 := fun i => by
    have : (gd (l6 T) i).natAbs ≤ 1000000000000 := by
      rcases gd_l6c T i with e | ⟨_, e⟩
      · rw [e]
        decide
      · rw [e]
        exact hT.2.2.1 _ _
    rcases hs with e | e <;> rw [e] <;> omega
  have ex : ∀ i, i < 49 → (w i).toInt = s * gd (l6 T) i := fun i hi => by
    have h3 := CG_at h2 i hi
    rw [gd_map] at h3
    have := hb i
    exact cq_small h3 (by omega) (by omega)
  refine ⟨ex, fun q a b => ?_, fun q a b c => ?_⟩
  · rw [ex q.toNat (by omega)]
    have := hb q.toNat
    omega
  · apply i64_z
    rw [ex q.toNat (by omega), gd_l6z T q.toNat (by omega), Int.mul_zero]
theorem ipw_pow (x : Int) : ∀ n, ipw x n = x ^ n
  | 0 => by
    rw [Int.pow_zero]
    rfl
  | n + 1 => by
    show x * ipw x n = x ^ (n + 1)
    rw [ipw_pow x n, Int.pow_succ, Int.mul_comm]
theorem PW_zr {tr f : Nat → Int64} {k fi d : Int} (hk : 2 ≤ k) (hfi : 0 ≤ fi ∧ fi < 49) (hd : fi / 7 + fi % 7 = d) (hsu : SU f d) (hmx : ∀ a b : Int, 0 ≤ a → a < 7 → 0 ≤ b → b < 7 → f (7 * a + b).toNat ≠ 0 → a + b = d → a ≤ fi / 7) (h : PWz tr f k fi) : ((fi / 7).toNat % k.toNat = 0 ∧ (fi % 7).toNat % k.toNat = 0) ∧ zr k.toNat (fi / 7).toNat (fi % 7).toNat (fun i => (f i).toInt) (fun i => (tr i).toInt) := by
  obtain ⟨ri, rj, L, a1, a2, a3, a4, su, ⟨b1, b2, b3⟩, l1, l2, H, pH, hH⟩ := h
  have c1 : 2 * ri ≤ k * ri := Int.mul_le_mul_of_nonneg_right hk a1
  have c2 : 2 * rj ≤ k * rj := Int.mul_le_mul_of_nonneg_right hk a2
  have ei : (fi / 7).toNat = k.toNat * ri.toNat := by
    have : ((k.toNat * ri.toNat : Nat) : Int) = fi / 7 := by rw [Int.natCast_mul, Int.toNat_of_nonneg (by omega), Int.toNat_of_nonneg a1, a3]
    omega
  have ej : (fi % 7).toNat = k.toNat * rj.toNat := by
    have : ((k.toNat * rj.toNat : Nat) : Int) = fi % 7 := by rw [Int.natCast_mul, Int.toNat_of_nonneg (by omega), Int.toNat_of_nonneg a2, a4]
    omega
  have di : (fi / 7).toNat / k.toNat = ri.toNat := by
    rw [ei]
    exact Nat.mul_div_cancel_left _ (by omega)
  have dj : (fi % 7).toNat / k.toNat = rj.toNat := by
    rw [ej]
    exact Nat.mul_div_cancel_left _ (by omega)
  refine ⟨⟨by rw [ei]; exact Nat.mul_mod_right _ _, by rw [ej]; exact Nat.mul_mod_right _ _⟩, ?_⟩
  have el : 7 * ri.toNat + rj.toNat = (7 * ri + rj).toNat := by omega
  have ef : 7 * (fi / 7).toNat + (fi % 7).toNat = fi.toNat := by omega
  unfold zr
  rw [di, dj, el, ef]
  refine ⟨fun a b ha hb hab => ?_, ?_, ?_, fun a b hab hlt => ?_, fun i hi hne => ?_, fun a b hab hc => ?_, H, pH, fun t => ?_⟩
  · have := su (7 * a + b : Nat) (by omega) (by omega) (by omega)
    rw [Int.toNat_natCast] at this
    show (tr (7 * a + b)).toInt = 0
    rw [this]
    rfl
  · rw [ipw_pow]
    show (tr (7 * ri + rj).toNat).toInt ^ k.toNat = (f fi.toNat).toInt
    rw [b1]
    exact l2
  · show (tr (7 * ri + rj).toNat).toInt ≠ 0
    rw [b1]
    omega
  · have := b3 (7 * a + b : Nat) (by omega) (by omega) (by omega) (by omega)
    rw [Int.toNat_natCast] at this
    show (tr (7 * a + b)).toInt = 0
    rw [this]
    rfl
  · have b := b2 (i : Int) (by omega) (by omega) (by omega)
    rw [Int.toNat_natCast] at b
    show ((k.toNat : Int) * (ipw (tr (7 * ri + rj).toNat).toInt (k.toNat - 1) * (tr i).toInt)).natAbs ≤ _
    rw [b1, ipw_pow, Int.toNat_of_nonneg (show 0 ≤ k by omega), show k.toNat - 1 = (k - 1).toNat by omega]
    have hp : 1 ≤ L.toInt ^ (k - 1).toNat := Int.pow_pos (by omega)
    have hkp : 0 ≤ k * L.toInt ^ (k - 1).toNat := Int.mul_nonneg (by omega) (by omega)
    rw [← Int.mul_assoc, Int.natAbs_mul, Nat.mul_comm]
    have e : (k * L.toInt ^ (k - 1).toNat).natAbs = (k * L.toInt ^ (k - 1).toNat).toNat := by omega
    rw [e]
    exact b
  · show (f (7 * a + b)).toInt = 0
    have z : f (7 * a + b) = 0 := by
      rcases hc with q | ⟨q1, q2⟩
      · have := hsu (7 * a + b : Nat) (by omega) (by omega) (by omega)
        rw [Int.toNat_natCast] at this
        exact this
      · apply Classical.byContradiction
        intro y
        have := hmx (a : Int) (b : Int) (by omega) (by omega) (by omega) (by omega) (by rw [show (7 * (a : Int) + (b : Int)).toNat = 7 * a + b by omega]; exact y) (by omega)
        omega
    rw [z]
    rfl
  · have e1 : evl (lfi (fun i => (tr i).toInt) 49) t = pw id tr 49 t := (pw_evl tr 49 t).symm
    have e2 : evl (lfi (fun i => (f i).toInt) 49) t = pw id f 49 t := (pw_evl f 49 t).symm
    rw [e1, e2]
    exact hH t
theorem te_trz {N : Nat} {X Y W : Nat → Int} {T : Nat → Nat → Int} (hT : TN N X Y W T) {w tr : Nat → Int64} {dg : Int32} {s : Int} (hs : s = 1 ∨ s = -1) (h : CG (pw id w 49) (fun t => s * Fe N X Y W (t7 t) t 1)) (ht : TZ w tr dg) : TRz N X Y W tr dg := by
  obtain ⟨ex, sz, su⟩ := sl_ez hT hs h
  obtain ⟨f, c, d, k, fi, c0, hw, hp, hd1, hsu, ⟨f1, f2, f3, f4, f5⟩, hk1, hdg, hkk⟩ := ht
  have wne : w fi.toNat ≠ 0 := fun z => by
    have e := hw fi.toNat (by omega)
    rw [z, show (0 : Int64).toInt = 0 from rfl] at e
    rcases Int.mul_eq_zero.mp e.symm with y | y
    · exact c0 y
    · exact f4 (i64_z y)
  have hd6 : d ≤ 6 := by
    have := SU_le su (q := fi) f1 f2 wne
    omega
  have hsq : s * s = 1 := by rcases hs with e | e <;> rw [e] <;> rfl
  have sc0 : s * c ≠ 0 := fun z => by
    rcases Int.mul_eq_zero.mp z with y | y
    · rcases hs with e | e <;> omega
    · exact c0 y
  have sui : SUi (fun i => (f i).toInt) 6 := fun a b ha hb hab => by
    have := hsu (7 * a + b : Nat) (by omega) (by omega) (by omega)
    rw [Int.toNat_natCast] at this
    show (f (7 * a + b)).toInt = 0
    rw [this]
    rfl
  have hT' : ∀ a b, a + b ≤ 6 → T a b = s * c * (fun i => (f i).toInt) (7 * a + b) := fun a b hab => by
    have e := ex (7 * a + b) (by omega)
    rw [hw _ (by omega), gd_l6 T a b hab] at e
    show T a b = s * c * (f (7 * a + b)).toInt
    rw [Int.mul_assoc, e, ← Int.mul_assoc, hsq, Int.one_mul]
  have f0 : ∀ x y z : Int, Fe N X Y W x y z = 0 → hom6 (fun a b => (f (7 * a + b)).toInt) x y z = 0 := fun x y z hz => by
    have e := hT.1 x y z hz
    rw [hom6_mul (s := fun a b => (f (7 * a + b)).toInt) (k := s * c) hT'] at e
    exact (Int.mul_eq_zero.mp e).resolve_left sc0
  rcases hkk with ⟨e, htr⟩ | ⟨e, p⟩
  · refine ⟨d, by omega, hd6, by rw [hdg, e, Int.ediv_one], fun x a b c => by rw [htr _ (by omega)]; exact hsu x a b c, fun x y z hz => ?_⟩
    have e2 : hom6 (fun a b => (tr (7 * a + b)).toInt) x y z = hom6 (fun a b => (f (7 * a + b)).toInt) x y z := hom6_eq (fun a b hab => by rw [htr _ (by omega)]) x y z
    rw [e2]
    exact f0 x y z hz
  · obtain ⟨⟨m1, m2⟩, z⟩ := PW_zr e ⟨f1, f2⟩ f3 hsu f5 p
    have tp := hT.2.2.2 (s * c) (fun i => (f i).toInt) sc0 hp sui hT' (fun i => (tr i).toInt) k.toNat (fi / 7).toNat (fi % 7).toNat (by omega) m1 m2 (by omega) (by omega) z
    obtain ⟨ri, rj, L, a1, a2, a3, a4, su2, _⟩ := p
    have ed : d = k * (ri + rj) := by
      rw [Int.mul_add]
      omega
    have eD : d / k = ri + rj := by
      rw [ed]
      exact Int.mul_ediv_cancel_left _ (by omega)
    have hle : 1 * (ri + rj) ≤ k * (ri + rj) := Int.mul_le_mul_of_nonneg_right (by omega) (by omega)
    exact ⟨ri + rj, by omega, by omega, by rw [hdg, eD], su2, fun x y z hz => tp.1 x y z (f0 x y z hz)⟩
theorem en_fin {N : Nat} {X Y W : Nat → Int} {T : Nat → Nat → Int} (hT : TN N X Y W T) {m tr : Nat → Int64} {dg : Int32} {fr s : Int} {P Q : Prop} (hs : s = 1 ∨ s = -1) (hf : 0 ≤ fr) (h : CG (pw id (fun i => m (fr.toNat + i)) 49) (fun t => s * Fe N X Y W (t7 t) t 1)) (h4 : (∀ q : Int, 1 ≤ q → q < 49 → m (fr + q).toNat = 0) → P) (h5 : (∃ q : Int, 1 ≤ q ∧ q < 49 ∧ m (fr + q).toNat ≠ 0) → Q ∧ TZ (fun i => m (fr.toNat + i)) tr dg) : (NCe N X Y W → Q ∧ TRz N X Y W tr dg) ∧ (¬ NCe N X Y W → P) := by
  have e : ∀ q : Int, 1 ≤ q → m (fr + q).toNat = (fun i => m (fr.toNat + i)) q.toNat := fun q hq => by
    show _ = m (fr.toNat + q.toNat)
    congr 1
    omega
  have nc := nc_g hs h
  constructor
  · intro hh
    obtain ⟨q, q1, q2, q3⟩ := nc.mpr hh
    obtain ⟨a, b⟩ := h5 ⟨q, q1, q2, by rw [e q q1]; exact q3⟩
    exact ⟨a, te_trz hT hs h b⟩
  · intro hh
    refine h4 (fun q q1 q2 => Classical.byContradiction fun z => hh (nc.mp ⟨q, q1, q2, ?_⟩))
    have e1 := e q q1
    dsimp only at e1
    rw [← e1]
    exact z
theorem ts_h6 {f : Nat → Int64} {D : Nat} (hD : D ≤ 6) (hs : SU f D) (x y w : Int) : w ^ (6 - D) * ts f D x y w 49 = hom6 (fun a b => (f (7 * a + b)).toInt) x y w := by
  have k : ∀ i, i < 49 → D < i / 7 + i % 7 → (f i).toInt = 0 := fun i hi hd => by
    have := hs (i : Int) (by omega) (by omega) (by omega)
    rw [Int.toNat_natCast] at this
    rw [this]
    rfl
  have : D = 0 ∨ D = 1 ∨ D = 2 ∨ D = 3 ∨ D = 4 ∨ D = 5 ∨ D = 6 := by omega
  unfold hom6
  simp only [Nat.reduceMul, Nat.reduceAdd]
  rcases this with rfl | rfl | rfl | rfl | rfl | rfl | rfl
  · rw [k 42 (by decide) (by decide), k 36 (by decide) (by decide), k 35 (by decide) (by decide), k 30 (by decide) (by decide), k 29 (by decide) (by decide), k 28 (by decide) (by decide), k 24 (by decide) (by decide), k 23 (by decide) (by decide), k 22 (by decide) (by decide), k 21 (by decide) (by decide), k 18 (by decide) (by decide), k 17 (by decide) (by decide), k 16 (by decide) (by decide), k 15 (by decide) (by decide), k 14 (by decide) (by decide), k 12 (by decide) (by decide), k 11 (by decide) (by decide), k 10 (by decide) (by decide), k 9 (by decide) (by decide), k 8 (by decide) (by decide), k 7 (by decide) (by decide), k 6 (by decide) (by decide), k 5 (by decide) (by decide), k 4 (by decide) (by decide), k 3 (by decide) (by decide), k 2 (by decide) (by decide), k 1 (by decide) (by decide)]
    simp [ts, pf]
    clear k hs
    grind
  · rw [k 42 (by decide) (by decide), k 36 (by decide) (by decide), k 35 (by decide) (by decide), k 30 (by decide) (by decide), k 29 (by decide) (by decide), k 28 (by decide) (by decide), k 24 (by decide) (by decide), k 23 (by decide) (by decide), k 22 (by decide) (by decide), k 21 (by decide) (by decide), k 18 (by decide) (by decide), k 17 (by decide) (by decide), k 16 (by decide) (by decide), k 15 (by decide) (by decide), k 14 (by decide) (by decide), k 12 (by decide) (by decide), k 11 (by decide) (by decide), k 10 (by decide) (by decide), k 9 (by decide) (by decide), k 8 (by decide) (by decide), k 6 (by decide) (by decide), k 5 (by decide) (by decide), k 4 (by decide) (by decide), k 3 (by decide) (by decide), k 2 (by decide) (by decide)]
    simp [ts, pf]
    clear k hs
    grind
  · rw [k 42 (by decide) (by decide), k 36 (by decide) (by decide), k 35 (by decide) (by decide), k 30 (by decide) (by decide), k 29 (by decide) (by decide), k 28 (by decide) (by decide), k 24 (by decide) (by decide), k 23 (by decide) (by decide), k 22 (by decide) (by decide), k 21 (by decide) (by decide), k 18 (by decide) (by decide), k 17 (by decide) (by decide), k 16 (by decide) (by decide), k 15 (by decide) (by decide), k 12 (by decide) (by decide), k 11 (by decide) (by decide), k 10 (by decide) (by decide), k 9 (by decide) (by decide), k 6 (by decide) (by decide), k 5 (by decide) (by decide), k 4 (by decide) (by decide), k 3 (by decide) (by decide)]
    simp [ts, pf]
    clear k hs
    grind
  · rw [k 42 (by decide) (by decide), k 36 (by decide) (by decide), k 35 (by decide) (by decide), k 30 (by decide) (by decide), k 29 (by decide) (by decide), k 28 (by decide) (by decide), k 24 (by decide) (by decide), k 23 (by decide) (by decide), k 22 (by decide) (by decide), k 18 (by decide) (by decide), k 17 (by decide) (by decide), k 16 (by decide) (by decide), k 12 (by decide) (by decide), k 11 (by decide) (by decide), k 10 (by decide) (by decide), k 6 (by decide) (by decide), k 5 (by decide) (by decide), k 4 (by decide) (by decide)]
    simp [ts, pf]
    clear k hs
    grind
  · rw [k 42 (by decide) (by decide), k 36 (by decide) (by decide), k 35 (by decide) (by decide), k 30 (by decide) (by decide), k 29 (by decide) (by decide), k 24 (by decide) (by decide), k 23 (by decide) (by decide), k 18 (by decide) (by decide), k 17 (by decide) (by decide), k 12 (by decide) (by decide), k 11 (by decide) (by decide), k 6 (by decide) (by decide), k 5 (by decide) (by decide)]
    simp [ts, pf]
    clear k hs
    grind
  · rw [k 42 (by decide) (by decide), k 36 (by decide) (by decide), k 30 (by decide) (by decide), k 24 (by decide) (by decide), k 18 (by decide) (by decide), k 12 (by decide) (by decide), k 6 (by decide) (by decide)]
    simp [ts, pf]
    clear k hs
    grind
  · simp [ts, pf]
    clear k hs
    grind
/-- the entries' numbers -/
def eP (r : Nat → Int32) (a : Nat) (k : Int) : Int64 := zL (k + 1) * rP r a (k + 1).toNat
def eR (r : Nat → Int32) (N : Int) (a : Nat) (k : Int) : Int64 := zL (N - k) * rP r a k.toNat
theorem eP_z {r : Nat → Int32} {a : Nat} {k j z : Int} (hk : 0 ≤ k) (e : r j.toNat = zI z) (h1 : -2147483648 ≤ z) (h2 : z < 2147483648) (hj : j = 5 * (a : Int) + (k + 1)) : zL (k + 1) * zL z = eP r a k := by
  unfold eP rP
  rw [show 5 * a + (k + 1).toNat = j.toNat by omega, e, zL_i2l ⟨h1, h2⟩]
theorem eR_z {r : Nat → Int32} {N : Int} {a : Nat} {k j z : Int} (hk : 0 ≤ k) (e : r j.toNat = zI z) (h1 : -2147483648 ≤ z) (h2 : z < 2147483648) (hj : j = 5 * (a : Int) + k) : zL (N - k) * zL z = eR r N a k := by
  unfold eR rP
  rw [show 5 * a + k.toNat = j.toNat by omega, e, zL_i2l ⟨h1, h2⟩]
theorem sm_mul {a b : Int} (ha : 0 ≤ a ∧ a ≤ 4) (hb : b.natAbs ≤ 7) : -28 ≤ a * b ∧ a * b ≤ 28 := by
  have : a = 0 ∨ a = 1 ∨ a = 2 ∨ a = 3 ∨ a = 4 := by omega
  rcases this with e | e | e | e | e <;> rw [e] <;> omega
theorem eP_t {r : Nat → Int32} (hb : bR r) {a : Nat} (ha : a < 3) {k : Nat} (hk : k ≤ 3) : (eP r a k).toInt = ((k : Int) + 1) * ti (rP r a) (k + 1) := by
  have b := rp_bx hb ha (k + 1)
  have e : ti (rP r a) (k + 1) = (rP r a (k + 1)).toInt := ti_lo _ (by omega)
  have s := sm_mul (a := (k : Int) + 1) (b := ti (rP r a) (k + 1)) ⟨by omega, by omega⟩ b
  unfold eP
  refine cq_small (cq_mul (cq_zL _) ?_) (by omega) (by omega)
  rw [e, show ((k : Int) + 1).toNat = k + 1 by omega]
  exact cq_rf _
theorem eR_t {r : Nat → Int32} (hb : bR r) {N : Nat} (hN : N ≤ 4) {a : Nat} (ha : a < 3) {k : Nat} (hk : k ≤ N) : (eR r N a k).toInt = ((N : Int) - (k : Int)) * ti (rP r a) k := by
  have b := rp_bx hb ha k
  have e : ti (rP r a) k = (rP r a k).toInt := ti_lo _ (by omega)
  have s := sm_mul (a := (N : Int) - (k : Int)) (b := ti (rP r a) k) ⟨by omega, by omega⟩ b
  unfold eR
  refine cq_small (cq_mul (cq_zL _) ?_) (by omega) (by omega)
  rw [e, Int.toNat_natCast]
  exact cq_rf _
theorem en_cg {E m : Nat → Int64} {r : Nat → Int32} {N rr : Int} (hN : 2 ≤ N ∧ N ≤ 4) (hb : bR r) (hr : rr = N - 1) (h : LG E (eP r 2) (eP r 0) (eP r 1) (eR r N 2) (eR r N 0) (eR r N 1) (N - 1) rr 0) (hS : SS m (Ey E) (2 * (N - 1)).toNat ((2 ^ (2 * (N - 1)).toNat : Nat) : Int)) {fr : Int} (hfr : fr = 49 * (((2 ^ (2 * (N - 1)).toNat : Nat) : Int) - 1)) : CG (pw id (fun i => m (fr.toNat + i)) 49) (fun t => sg1 (N - 1).toNat * Fe N.toNat (ti (rP r 0)) (ti (rP r 1)) (ti (rP r 2)) (t7 t) t 1) := by
  have k := lg_cg (by omega) hr h (fun t => dva (zf (ti (rP r 0)) (ti (rP r 1)) (ti (rP r 2)) (t7 t) t 1)) (fun t => dvn N.toNat (zf (ti (rP r 0)) (ti (rP r 1)) (ti (rP r 2)) (t7 t) t 1)) (fun t k hk => by
    rw [eP_t hb (by decide) (by omega), eP_t hb (by decide) (by omega), eP_t hb (by decide) (by omega)]
    show ((k : Int) + 1) * (t7 t * ti (rP r 0) (k + 1) + t * ti (rP r 1) (k + 1) + 1 * ti (rP r 2) (k + 1)) = _
    grind) (fun t k hk => by
    have eN : N = (N.toNat : Int) := by omega
    rw [eN, eR_t hb (by omega) (by decide) (by omega), eR_t hb (by omega) (by decide) (by omega), eR_t hb (by omega) (by decide) (by omega)]
    rw [← eN]
    show ((N.toNat : Int) - (k : Int)) * (t7 t * ti (rP r 0) k + t * ti (rP r 1) k + 1 * ti (rP r 2) k) = _
    grind) hS hfr
  refine k.tr (CG.ex (fun t => ?_))
  unfold Fe
  rw [show N.toNat - 1 = (N - 1).toNat by omega]
/-- the place where both lines meet -/
theorem hv_l {f p q r : Nat → Int} {x y w : Int} (h : ∀ k, f k = x * p k + y * q k + w * r k) {n : Nat} (hn : n ≤ 4) (u v : Int) : hv f n u v = x * hv p n u v + y * hv q n u v + w * hv r n u v := by
  have : n = 0 ∨ n = 1 ∨ n = 2 ∨ n = 3 ∨ n = 4 := by omega
  have e0 := h 0
  have e1 := h 1
  have e2 := h 2
  have e3 := h 3
  have e4 := h 4
  clear h
  rcases this with rfl | rfl | rfl | rfl | rfl
  · simp only [hv]
    exact e0
  · simp only [hv, e0, e1]
    grind
  · simp only [hv, e0, e1, e2]
    grind
  · simp only [hv, e0, e1, e2, e3]
    grind
  · simp only [hv, e0, e1, e2, e3, e4]
    grind
theorem tch {N : Nat} (hN : 2 ≤ N ∧ N ≤ 4) (X Y W : Nat → Int) {u v : Int} (huv : ¬ (u = 0 ∧ v = 0)) {a b c d e f : Int} (ha : a = hv (dva X) (N - 1) u v) (hb : b = hv (dva Y) (N - 1) u v) (hc : c = hv (dva W) (N - 1) u v) (hd : d = hv (dvn N X) (N - 1) u v) (he : e = hv (dvn N Y) (N - 1) u v) (hf : f = hv (dvn N W) (N - 1) u v) : Fe N X Y W (b * f - c * e) (c * d - a * f) (a * e - b * d) = 0 := by
  refine Fq_0 (by omega) (by omega) huv ?_ ?_
  · rw [hv_l (f := dva (zf X Y W (b * f - c * e) (c * d - a * f) (a * e - b * d))) (p := dva X) (q := dva Y) (r := dva W) (x := b * f - c * e) (y := c * d - a * f) (w := a * e - b * d) (fun k => by unfold dva zf; grind) (by omega), ← ha, ← hb, ← hc]
    clear ha hb hc hd he hf
    grind
  · rw [hv_l (f := dvn N (zf X Y W (b * f - c * e) (c * d - a * f) (a * e - b * d))) (p := dvn N X) (q := dvn N Y) (r := dvn N W) (x := b * f - c * e) (y := c * d - a * f) (w := a * e - b * d) (fun k => by unfold dvn zf; grind) (by omega), ← hd, ← he, ← hf]
    clear ha hb hc hd he hf
    grind
/-- slopes: sums mod 2 ^ 64, and small -/
def pdv (by_ : Int) (N : Nat) (X : Nat → Int) : Nat → Int := if by_ = 0 then dva X else dvn N X
theorem sp_n {P : Nat → Int} {al cc ra rb : Int64} {u v n k : Int} (hk : 0 ≤ k ∧ k ≤ n) (ha : cq al (hsm P n.toNat u v k.toNat)) (hc : cq cc (P k.toNat)) (hra : ra = lpow (zL u) k.toNat) (hrb : rb = lpow (zL v) (n - k).toNat) : cq (al + ((cc * ra) * rb)) (hsm P n.toNat u v (k + 1).toNat) := by
  rw [show (k + 1).toNat = k.toNat + 1 by omega]
  refine cq_add ha (cq_mul (cq_mul hc ?_) ?_)
  · rw [hra, lpow_z]
    exact cq_zL _
  · rw [hrb, lpow_z, show (n - k).toNat = n.toNat - k.toNat by omega]
    exact cq_zL _
theorem dv_b {P : Nat → Int} {u v : Int} {n : Nat} (hP : ∀ i, (P i).natAbs ≤ 35) (hu : -9 ≤ u ∧ u ≤ 9) (hv_ : -9 ≤ v ∧ v ≤ 9) (hn : n ≤ 4) : ∀ K : Nat, K ≤ n + 1 → (hsm P n u v K).natAbs ≤ K * 229635
  | 0, _ => Nat.zero_le _
  | K + 1, hK => by
    have ih := dv_b hP hu hv_ hn K (by omega)
    have a1 := hP K
    have pu : ∀ m, m ≤ 4 → ∀ z : Int, -9 ≤ z → z ≤ 9 → (z ^ m).natAbs ≤ 9 ^ m := fun m _ z z1 z2 => by
      rw [Int.natAbs_pow]
      exact Nat.pow_le_pow_left (by omega) m
    have a2 := pu K (by omega) u hu.1 hu.2
    have a3 := pu (n - K) (by omega) v hv_.1 hv_.2
    have e : 9 ^ K * 9 ^ (n - K) ≤ 9 ^ 4 := by
      rw [← Nat.pow_add]
      exact Nat.pow_le_pow_right (by decide) (by omega)
    show (hsm P n u v K + P K * u ^ K * v ^ (n - K)).natAbs ≤ _
    have m1 : (P K * u ^ K * v ^ (n - K)).natAbs ≤ 35 * 9 ^ K * 9 ^ (n - K) := by
      rw [Int.natAbs_mul, Int.natAbs_mul]
      exact Nat.mul_le_mul (Nat.mul_le_mul a1 a2) a3
    rw [Nat.mul_assoc] at m1
    have m2 : 35 * (9 ^ K * 9 ^ (n - K)) ≤ 35 * 9 ^ 4 := Nat.mul_le_mul (Nat.le_refl _) e
    omega
theorem sp_e {P : Nat → Int} {x : Int64} {u v : Int} {n : Nat} (hP : ∀ i, (P i).natAbs ≤ 35) (hu : -9 ≤ u ∧ u ≤ 9) (hv_ : -9 ≤ v ∧ v ≤ 9) (hn : n ≤ 4) (h : cq x (hsm P n u v (n + 1))) : x.toInt = hv P n u v ∧ x.toInt.natAbs ≤ 1148175 := by
  have b := dv_b hP hu hv_ hn (n + 1) (Nat.le_refl _)
  have b2 : (n + 1) * 229635 ≤ 5 * 229635 := Nat.mul_le_mul (by omega) (Nat.le_refl _)
  have e := cq_small h (by omega) (by omega)
  refine ⟨by rw [e]; exact hsm_hv hn u v, by rw [e]; omega⟩
theorem pdv_b {X : Nat → Int} {by_ : Int} {N : Nat} (hX : bx 7 X) (hz : ∀ i, 5 ≤ i → X i = 0) (hN : N ≤ 4) : ∀ i, (pdv by_ N X i).natAbs ≤ 35 := fun i => by
  unfold pdv
  by_cases h : by_ = 0
  · rw [if_pos h]
    unfold dva
    rcases Nat.lt_or_ge i 4 with q | q
    · have := sm_mul (a := (i : Int) + 1) (b := X (i + 1)) ⟨by omega, by omega⟩ (hX (i + 1))
      omega
    · rw [hz (i + 1) (by omega), Int.mul_zero]
      decide
  · rw [if_neg h]
    unfold dvn
    rcases Nat.lt_or_ge i 5 with q | q
    · have b := hX i
      have : (N : Int) - (i : Int) = 0 ∨ (N : Int) - (i : Int) = 1 ∨ (N : Int) - (i : Int) = 2 ∨ (N : Int) - (i : Int) = 3 ∨ (N : Int) - (i : Int) = 4 ∨ (N : Int) - (i : Int) = -1 ∨ (N : Int) - (i : Int) = -2 ∨ (N : Int) - (i : Int) = -3 ∨ (N : Int) - (i : Int) = -4 := by omega
      rcases this with e | e | e | e | e | e | e | e | e <;> rw [e] <;> omega
    · rw [hz i q, Int.mul_zero]
      decide
theorem sc_0 {r : Nat → Int32} {wh k z j : Int} (hw : 0 ≤ wh ∧ wh ≤ 2) (hk : 0 ≤ k ∧ k < 4) {by_ : Int} {N : Nat} (hb : by_ = 0) (e : r j.toNat = zI z) (h1 : -2147483648 ≤ z) (h2 : z < 2147483648) (hj : j = 5 * wh + k + 1) : cq ((zL k + 1) * zL z) (pdv by_ N (ti (rP r wh.toNat)) k.toNat) := by
  unfold pdv
  rw [if_pos hb]
  unfold dva
  have et : ti (rP r wh.toNat) (k.toNat + 1) = ((r (5 * wh.toNat + (k.toNat + 1))).toInt64).toInt := ti_lo _ (by omega)
  rw [et, show 5 * wh.toNat + (k.toNat + 1) = j.toNat by omega, e, zL_i2l ⟨h1, h2⟩, show ((k.toNat : Int) + 1) = k + (1 : Int64).toInt by rw [show (1 : Int64).toInt = 1 from rfl]; omega]
  exact cq_mul (cq_add (cq_zL k) (cq_rf 1)) (cq_rf _)
theorem sc_1 {r : Nat → Int32} {wh k z j : Int} (hw : 0 ≤ wh ∧ wh ≤ 2) (hk : 0 ≤ k ∧ k < 5) {by_ N : Int} (hN : 0 ≤ N) (hb : ¬ by_ = 0) (e : r j.toNat = zI z) (h1 : -2147483648 ≤ z) (h2 : z < 2147483648) (hj : j = 5 * wh + k) : cq (zL (N - k) * zL z) (pdv by_ N.toNat (ti (rP r wh.toNat)) k.toNat) := by
  unfold pdv
  rw [if_neg hb]
  unfold dvn
  have et : ti (rP r wh.toNat) k.toNat = ((r (5 * wh.toNat + k.toNat)).toInt64).toInt := ti_lo _ (by omega)
  rw [et, show 5 * wh.toNat + k.toNat = j.toNat by omega, e, zL_i2l ⟨h1, h2⟩, show ((N.toNat : Int) - (k.toNat : Int)) = N - k by omega]
  exact cq_mul (cq_zL _) (cq_rf _)
/-- what the reference knows of the envelope -/
def HE (r : Nat → Int32) : Prop := 2 ≤ moK r 5 ∧ NCe (moK r 5).toNat (ti (rP r 0)) (ti (rP r 1)) (ti (rP r 2))
def HTe (I : Nat → Nat → Int32) (J : Nat → Nat → Int64) : Prop := (HE (I 0) → I 1 1 = 1 ∧ TRz (moK (I 0) 5).toNat (ti (rP (I 0) 0)) (ti (rP (I 0) 1)) (ti (rP (I 0) 2)) (fun i => J 1 (49 + i)) (I 2 1)) ∧ (¬ HE (I 0) → I 1 1 = 0)
def TIe (F : Nat → Int) (I : Nat → Nat → Int32) (J : Nat → Nat → Int64) : Prop := F 2 = 1 → HTe I J
theorem hte_no {I : Nat → Nat → Int32} {J : Nat → Nat → Int64} {r : Nat → Int32} (h0 : I 0 = r) (hn : moK r 5 ≤ 1) (hI : I 1 1 = 0) : HTe I J := ⟨fun h => by have := h.1; rw [h0] at this; omega, fun _ => hI⟩
theorem hte_y {I K : Nat → Nat → Int32} {J : Nat → Nat → Int64} {r : Nat → Int32} {n : Int} (h0 : I 0 = r) (hn : n = moK r 5) (h2 : 2 ≤ n) (hI : K 1 1 = 0) (h : (NCe n.toNat (ti (rP r 0)) (ti (rP r 1)) (ti (rP r 2)) → I 1 1 = 1 ∧ TRz n.toNat (ti (rP r 0)) (ti (rP r 1)) (ti (rP r 2)) (fun i => J 1 (49 + i)) (I 2 1)) ∧ (¬ NCe n.toNat (ti (rP r 0)) (ti (rP r 1)) (ti (rP r 2)) → I 1 = K 1)) : HTe I J := by
  subst hn
  unfold HTe HE
  rw [h0]
  exact ⟨fun hh => h.1 hh.2, fun hh => by rw [h.2 (fun z => hh ⟨h2, z⟩)]; exact hI⟩
/-- touches' answer -/
def TCH (P : Prop) (w : Int) (z : Int) : Prop := (P ∧ w ≠ 0 → z = 1) ∧ (¬ (P ∧ w ≠ 0) → z = -2)
def crs2 (X Y : Nat → Int) (N : Nat) (u v : Int) : Int := hv (dva X) (N - 1) u v * hv (dvn N Y) (N - 1) u v - hv (dva Y) (N - 1) u v * hv (dvn N X) (N - 1) u v
theorem he_has {I : Nat → Nat → Int32} {J : Nat → Nat → Int64} {z : Int} (h : HTe I J) (e : I 1 (1 : Int).toNat = zI z) (b1 : -2147483648 ≤ z) (b2 : z < 2147483648) : (z = 0 → ¬ HE (I 0)) ∧ (¬ z = 0 → HE (I 0)) := by
  constructor
  · intro z0 hs
    have h1 := (h.1 hs).1
    have e : I 1 1 = zI z := e
    rw [h1, z0] at e
    exact absurd e (by decide)
  · intro z0
    apply Classical.byContradiction
    intro hs
    have h1 := h.2 hs
    have e : I 1 1 = zI z := e
    rw [h1] at e
    exact z0 ((zI_eq ⟨by decide, by decide⟩ ⟨b1, b2⟩).mp (show zI 0 = zI z from e)).symm
theorem cr_s {a b c d : Int64} (ha : a.toInt.natAbs ≤ 1148175) (hb : b.toInt.natAbs ≤ 1148175) (hc : c.toInt.natAbs ≤ 1148175) (hd : d.toInt.natAbs ≤ 1148175) : (a * b - c * d).toInt = a.toInt * b.toInt - c.toInt * d.toInt := by
  have k1 : (a.toInt * b.toInt).natAbs ≤ 1148175 * 1148175 := by
    rw [Int.natAbs_mul]
    exact Nat.mul_le_mul ha hb
  have k2 : (c.toInt * d.toInt).natAbs ≤ 1148175 * 1148175 := by
    rw [Int.natAbs_mul]
    exact Nat.mul_le_mul hc hd
  exact cq_small (cq_sub (cq_mul (cq_rf a) (cq_rf b)) (cq_mul (cq_rf c) (cq_rf d))) (by omega) (by omega)
theorem tz_ts {N : Nat} {X Y W : Nat → Int} {tr : Nat → Int64} {D x y w : Int} (hD : 0 ≤ D ∧ D ≤ 6) (hs : SU tr D) (ht : ∀ x y w : Int, Fe N X Y W x y w = 0 → hom6 (fun a b => (tr (7 * a + b)).toInt) x y w = 0) (hf : Fe N X Y W x y w = 0) (hw : w ≠ 0) : ts tr D.toNat x y w 49 = 0 := by
  have e := ts_h6 (f := tr) (D := D.toNat) (by omega) (by rw [Int.toNat_of_nonneg hD.1]; exact hs) x y w
  rw [ht x y w hf] at e
  rcases Int.mul_eq_zero.mp e with z | z
  · exact absurd z (Int.pow_ne_zero hw)
  · exact z
