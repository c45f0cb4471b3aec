/-! what tell leaves: the equation -/
def TW (w tr : Nat → Int64) (dg pw_ : Int32) : Prop := ∃ (f : Nat → Int64) (c d k fi : Int), c ≠ 0 ∧ (∀ i, i < 49 → (w i).toInt = c * (f i).toInt) ∧ lprim (lsf f 49) ∧ 1 ≤ d ∧ SU f d ∧ (0 ≤ fi ∧ fi < 49 ∧ fi / 7 + fi % 7 = d ∧ 0 < (f fi.toNat).toInt ∧ ∀ a b : Int, 0 ≤ a → a < 7 → 0 ≤ b → b < 7 → f (7 * a + b).toNat ≠ 0 → a + b = d → a ≤ fi / 7) ∧ (1 ≤ k ∧ k ≤ d) ∧ dg = zI (d / k) ∧ pw_ = zI k ∧ ((k = 1 ∧ ∀ i, i < 49 → tr i = f i) ∨ (2 ≤ k ∧ PWz tr f k fi)) ∧ ∀ kk : Int, k < kk → kk ≤ d → ¬ ∃ E, RT0 f kk fi E
theorem RT0_c {f g : Nat → Int64} (h : ∀ q : Int, 0 ≤ q → q < 49 → f q.toNat = g q.toNat) {k fi : Int} {E : Nat → Int} (hr : RT0 f k fi E) : RT0 g k fi E := by
  obtain ⟨a1, a2, a3, a4, a5, a6⟩ := hr
  refine ⟨a1, a2, a3, a4, a5, fun x y => ?_⟩
  rw [a6 x y]
  exact hom6_eq (fun a b hab => by
    have := h (7 * a + b : Nat) (by omega) (by omega)
    rw [Int.toNat_natCast] at this
    show (f (7 * a + b)).toInt = (g (7 * a + b)).toInt
    rw [this]) x y 1
theorem te_pos {w f : Nat → Int64} {x y : Int64} {fi : Int} (hs : sz60 w) (h : CGr w 49 x) (hx0 : ¬ x = 0) (hy0 : ¬ y = 0) (hy : (y = x ∧ ¬ (w fi.toNat).toInt < 0) ∨ (y = -x ∧ (w fi.toNat).toInt < 0)) (hfi : 0 ≤ fi ∧ fi < 49) (hne : w fi.toNat ≠ 0) (hf : ∀ q : Int, 0 ≤ q → q < 49 → f q.toNat = w q.toNat / y) : 0 < (f fi.toNat).toInt := by
  obtain ⟨h1, _, _⟩ := CGr_e 49 x (fun i hi => by
    have := hs (i : Int) (by omega) (by omega)
    rw [Int.toNat_natCast] at this
    omega) h
  have x0 : x.toInt ≠ 0 := fun z => hx0 (i64_z z)
  have hxb := i64_b x
  have w0 : (w fi.toNat).toInt ≠ 0 := fun z => hne (i64_z z)
  obtain ⟨y0, hw, _⟩ := te_div hs h hy0 (by rcases hy with q | q; exact Or.inl q.1; exact Or.inr q.1) hf
  have e := hw fi.toNat (by omega)
  rcases hy with ⟨q1, q2⟩ | ⟨q1, q2⟩
  · have py : 0 < y.toInt := by rw [q1]; omega
    rcases Int.lt_or_le 0 (f fi.toNat).toInt with r | r
    · exact r
    · exfalso
      have := Int.mul_nonneg (Int.le_of_lt py) (show 0 ≤ -(f fi.toNat).toInt by omega)
      rw [Int.mul_neg, ← e] at this
      omega
  · have py : y.toInt < 0 := by
      rw [q1, Int64.toInt_neg, Int.bmod_eq_of_le (by omega) (by omega)]
      omega
    rcases Int.lt_or_le 0 (f fi.toNat).toInt with r | r
    · exact r
    · exfalso
      have := Int.mul_nonneg (show 0 ≤ -y.toInt by omega) (show 0 ≤ -(f fi.toNat).toInt by omega)
      rw [Int.neg_mul_neg, ← e] at this
      omega
theorem SU_dv {w f : Nat → Int64} {y : Int64} {D : Int} (hf : ∀ q : Int, 0 ≤ q → q < 49 → f q.toNat = w q.toNat / y) (h : SU w D) : SU f D := fun q a b c => by
  rw [hf q a b, h q a b c]
  exact Int64.zero_div
theorem ns_mono : ∀ (l m : List Int), l.length = m.length → (∀ i, (gd l i).natAbs ≤ (gd m i).natAbs) → ns (pr0 l) ≤ ns (pr0 m)
  | [], m, _, _ => Nat.zero_le _
  | a :: l, b :: m, e, h => by
    have h0 : a.natAbs ≤ b.natAbs := h 0
    have ih := ns_mono l m (Nat.succ.inj e) (fun i => h (i + 1))
    show (a.natAbs + (0 : Int).natAbs) + ns (pr0 l) ≤ (b.natAbs + (0 : Int).natAbs) + ns (pr0 m)
    omega
theorem sS_mono {s t : Nat → Nat → Int} (h : ∀ a b, a + b ≤ 6 → (s a b).natAbs ≤ (t a b).natAbs) : sS s ≤ sS t := by
  have z : ∀ i : Nat, (gd ([] : List Int) i).natAbs ≤ (gd ([] : List Int) i).natAbs := fun i => Nat.le_refl _
  unfold sS
  refine Nat.add_le_add (ns_mono _ _ rfl ?_) (Nat.add_le_add (ns_mono _ _ rfl ?_) (Nat.add_le_add (ns_mono _ _ rfl ?_) (Nat.add_le_add (ns_mono _ _ rfl ?_) (Nat.add_le_add (ns_mono _ _ rfl ?_) (Nat.add_le_add (ns_mono _ _ rfl ?_) (Nat.add_le_add (ns_mono _ _ rfl ?_) (Nat.le_refl 0)))))))
  · intro i
    match i with
    | 0 => exact h 0 0 (by decide)
    | 1 => exact h 0 1 (by decide)
    | 2 => exact h 0 2 (by decide)
    | 3 => exact h 0 3 (by decide)
    | 4 => exact h 0 4 (by decide)
    | 5 => exact h 0 5 (by decide)
    | 6 => exact h 0 6 (by decide)
    | i + 7 => exact Nat.le_refl _
  · intro i
    match i with
    | 0 => exact h 1 0 (by decide)
    | 1 => exact h 1 1 (by decide)
    | 2 => exact h 1 2 (by decide)
    | 3 => exact h 1 3 (by decide)
    | 4 => exact h 1 4 (by decide)
    | 5 => exact h 1 5 (by decide)
    | i + 6 => exact Nat.le_refl _
  · intro i
    match i with
    | 0 => exact h 2 0 (by decide)
    | 1 => exact h 2 1 (by decide)
    | 2 => exact h 2 2 (by decide)
    | 3 => exact h 2 3 (by decide)
    | 4 => exact h 2 4 (by decide)
    | i + 5 => exact Nat.le_refl _
  · intro i
    match i with
    | 0 => exact h 3 0 (by decide)
    | 1 => exact h 3 1 (by decide)
    | 2 => exact h 3 2 (by decide)
    | 3 => exact h 3 3 (by decide)
    | i + 4 => exact Nat.le_refl _
  · intro i
    match i with
    | 0 => exact h 4 0 (by decide)
    | 1 => exact h 4 1 (by decide)
    | 2 => exact h 4 2 (by decide)
    | i + 3 => exact Nat.le_refl _
  · intro i
    match i with
    | 0 => exact h 5 0 (by decide)
    | 1 => exact h 5 1 (by decide)
    | i + 2 => exact Nat.le_refl _
  · intro i
    match i with
    | 0 => exact h 6 0 (by decide)
    | i + 1 => exact Nat.le_refl _
theorem sS_dv {w f : Nat → Int64} {x y : Int64} {S : Nat} (hs : sz60 w) (h : CGr w 49 x) (hy0 : ¬ y = 0) (hy : y = x ∨ y = -x) (hf : ∀ q : Int, 0 ≤ q → q < 49 → f q.toNat = w q.toNat / y) (hS : sS (fun a b => ci w (7 * a + b)) ≤ S) : sS (fun a b => ci f (7 * a + b)) ≤ S := by
  obtain ⟨y0, hw, _⟩ := te_div hs h hy0 hy hf
  refine Nat.le_trans (sS_mono (fun a b hab => ?_)) hS
  show (f (7 * a + b)).toInt.natAbs ≤ (w (7 * a + b)).toInt.natAbs
  rw [hw _ (by omega), Int.natAbs_mul]
  have := Nat.mul_le_mul (show 1 ≤ y.toInt.natAbs by omega) (Nat.le_refl (f (7 * a + b)).toInt.natAbs)
  omega
theorem no_s {f : Nat → Int64} {k d fi : Int} (h : ∀ kk : Int, k < kk → kk ≤ d → ¬ ∃ E, RT0 f kk fi E) (h0 : ¬ ∃ E, RT0 f k fi E) : ∀ kk : Int, k + -1 < kk → kk ≤ d → ¬ ∃ E, RT0 f kk fi E := fun kk a b => by
  by_cases e : kk = k
  · rw [e]
    exact h0
  · exact h kk (by omega) b
theorem te_endw {w f tr r : Nat → Int64} {x y : Int64} {d k fi : Int} {dg pw_ : Int32} (hs : sz60 w) (h : CGr w 49 x) (hx0 : ¬ x = 0) (hy0 : ¬ y = 0) (hy : (y = x ∧ ¬ (w fi.toNat).toInt < 0) ∨ (y = -x ∧ (w fi.toNat).toInt < 0)) (hf : ∀ q : Int, 0 ≤ q → q < 49 → f q.toNat = w q.toNat / y) (hd : 1 ≤ d) (h3 : ∀ a b : Int, 0 ≤ a → a < 7 → 0 ≤ b → b < 7 → w (7 * a + b).toNat ≠ 0 → a + b ≤ d) (hk : 1 ≤ k ∧ k ≤ d) (hdg : dg = zI (d / k)) (hpw : pw_ = zI k) (hfi : 0 ≤ fi ∧ fi < 49 ∧ w fi.toNat ≠ 0 ∧ fi / 7 + fi % 7 = d ∧ ∀ a b : Int, 0 ≤ a → a < 7 → 0 ≤ b → b < 7 → w (7 * a + b).toNat ≠ 0 → a + b = fi / 7 + fi % 7 → a ≤ fi / 7) (hr : k = 1 ∨ (2 ≤ k ∧ PWz r f k fi)) (hno : ∀ kk : Int, k < kk → kk ≤ d → ¬ ∃ E, RT0 f kk fi E) (htr : ∀ q : Int, 0 ≤ q → q < 49 → tr q.toNat = if 1 < k then r q.toNat else f q.toNat) {w' : Nat → Int64} (hw' : ∀ q : Int, 0 ≤ q → q < 49 → w q.toNat = w' q.toNat) : TW w' tr dg pw_ := by
  have hp0 := te_pos hs h hx0 hy0 hy ⟨hfi.1, hfi.2.1⟩ hfi.2.2.1 hf
  obtain ⟨y0, hw, hp⟩ := te_div hs h hy0 (by rcases hy with q | q; exact Or.inl q.1; exact Or.inr q.1) hf
  have n : ∀ i, i < 49 → w i = w' i := fun i hi => by
    have := hw' (i : Int) (by omega) (by omega)
    rw [Int.toNat_natCast] at this
    exact this
  have z0 : ∀ i, i < 49 → (w i = 0 ↔ f i = 0) := fun i hi => by
    have e := hw i hi
    constructor
    · intro z
      rw [z, show (0 : Int64).toInt = 0 from rfl] at e
      rcases Int.mul_eq_zero.mp e.symm with q | q
      · exact absurd q y0
      · exact i64_z q
    · intro z
      rw [z, show (0 : Int64).toInt = 0 from rfl, Int.mul_zero] at e
      exact i64_z e
  obtain ⟨f1, f2, f3, f4, f5⟩ := hfi
  refine ⟨f, y.toInt, d, k, fi, y0, fun i hi => by rw [← n i hi]; exact hw i hi, hp, hd, fun q a b c => ?_, ⟨f1, f2, f4, hp0, fun a b g1 g2 g3 g4 g5 g6 => f5 a b g1 g2 g3 g4 (fun z => g5 ((z0 _ (by omega)).mp z)) (by omega)⟩, hk, hdg, hpw, ?_, hno⟩
  · exact (z0 q.toNat (by omega)).mp (d2_su h3 q a b c)
  · have nt : ∀ i, i < 49 → tr i = if 1 < k then r i else f i := fun i hi => by
      have := htr (i : Int) (by omega) (by omega)
      rw [Int.toNat_natCast] at this
      exact this
    rcases hr with e | ⟨e, p⟩
    · exact Or.inl ⟨e, fun i hi => by rw [nt i hi, if_neg (by omega)]⟩
    · exact Or.inr ⟨e, PWz_c e ⟨f1, f2⟩ p (fun q a b => by rw [htr q a b, if_pos (by omega)])⟩
theorem tr_w {m m' r f : Nat → Int64} {o i k : Int} {x : Int64} (ho : 0 ≤ o) (hi : 0 ≤ i) (e : m' = vp_updL m (49 * o + i).toNat x) (hx : x = if 1 < k then r i.toNat else f i.toNat) (h : ∀ q : Int, 0 ≤ q → q < i → m (49 * o + q).toNat = if 1 < k then r q.toNat else f q.toNat) : ∀ q : Int, 0 ≤ q → q < i + 1 → m' (49 * o + q).toNat = if 1 < k then r q.toNat else f q.toNat := fun q a b => by
  rw [e, up_at (by omega) (by omega)]
  by_cases z : q = i
  · rw [if_pos (by omega), z]
    exact hx
  · rw [if_neg (by omega)]
    exact h q a (by omega)
theorem t1_w {m m' m0 : Nat → Int64} {o o2 i : Int} {x : Int64} (ho : o = 0 ∨ o = 1) (ho2 : o2 = 1 - o) (hi : 0 ≤ i ∧ i < 49) (e : m' = vp_updL m (49 * o + i).toNat x) (h : ∀ q : Int, 0 ≤ q → q < 49 → m (49 * o2 + q).toNat = m0 (49 * o2 + q).toNat) : ∀ q : Int, 0 ≤ q → q < 49 → m' (49 * o2 + q).toNat = m0 (49 * o2 + q).toNat := fun q a b => by
  rw [e, up_at (by omega) (by omega), if_neg (by omega)]
  exact h q a b
def tof (m : Nat → Int64) (o : Nat) : Nat → Int64 := fun i => m (49 * o + i)
theorem tw_t {m : Nat → Int64} {T : Nat → Int64} {o : Int} (ho : 0 ≤ o) (h : ∀ q : Int, 0 ≤ q → q < 49 → m (49 * o + q).toNat = T q.toNat) : ∀ q : Int, 0 ≤ q → q < 49 → tof m o.toNat q.toNat = T q.toNat := fun q a b => by
  rw [← h q a b]
  show m (49 * o.toNat + q.toNat) = _
  congr 1
  omega
theorem i64_l0 {a : Int64} (h : ¬ (0 : Int64) ≤ a) : a.toInt < 0 := by
  rw [Int64.le_iff_toInt_le] at h
  have : (0 : Int64).toInt = 0 := rfl
  omega
theorem i64_g0 {a : Int64} (h : (0 : Int64) ≤ a) : ¬ a.toInt < 0 := by
  rw [Int64.le_iff_toInt_le] at h
  have : (0 : Int64).toInt = 0 := rfl
  omega
/-- the equation, in cells -/
def RESm (Φ : Int → Int → Int) (tr : Nat → Int64) (dg pw_ : Int32) : Prop := ∃ k D : Nat, k ≤ 6 ∧ D ≤ 6 ∧ dg = zI D ∧ pw_ = zI k ∧ SUi (ci tr) D ∧ RES Φ k (ci tr) D
theorem TW_fst {f : Nat → Int64} {d fi : Int} (hsu : SU f d) (h : 0 ≤ fi ∧ fi < 49 ∧ fi / 7 + fi % 7 = d ∧ 0 < (f fi.toNat).toInt ∧ ∀ a b : Int, 0 ≤ a → a < 7 → 0 ≤ b → b < 7 → f (7 * a + b).toNat ≠ 0 → a + b = d → a ≤ fi / 7) (hd : d ≤ 6) : fst (ci f) (fi / 7).toNat (fi % 7).toNat := by
  obtain ⟨f1, f2, f3, f4, f5⟩ := h
  refine ⟨by omega, ?_, fun a b hab hw => ?_⟩
  · show 0 < (f (7 * (fi / 7).toNat + (fi % 7).toNat)).toInt
    rw [show 7 * (fi / 7).toNat + (fi % 7).toNat = fi.toNat by omega]
    exact f4
  · show (f (7 * a + b)).toInt = 0
    have z : f (7 * a + b) = 0 := by
      apply Classical.byContradiction
      intro y
      have y2 : f (7 * (a : Int) + (b : Int)).toNat ≠ 0 := by
        rw [show (7 * (a : Int) + (b : Int)).toNat = 7 * a + b by omega]
        exact y
      have s1 : (a : Int) + b ≤ d := by
        apply Classical.byContradiction
        intro q
        apply y
        have := hsu (7 * a + b : Nat) (by omega) (by omega) (by omega)
        rw [Int.toNat_natCast] at this
        exact this
      unfold wt at hw
      have s2 := f5 a b (by omega) (by omega) (by omega) (by omega) y2 (by omega)
      omega
    rw [z]
    rfl
theorem PW_rot {tr f : Nat → Int64} {k fi : Int} (hk : 2 ≤ k) (hfi : 0 ≤ fi ∧ fi < 49) (hd6 : fi / 7 + fi % 7 ≤ 6) (h : PWz tr f k fi) (ht : tru k.toNat (ci f) (ci tr)) : RT0 f k fi (ci tr) := by
  obtain ⟨ri, rj, L, a1, a2, a3, a4, su, ⟨b1, b2, b3⟩, l1, l2, _⟩ := h
  obtain ⟨di, dj, _, _⟩ := fi_div hk hfi a3 a4 a1 a2
  have c1 : 2 * ri ≤ k * ri := Int.mul_le_mul_of_nonneg_right hk a1
  have c2 : 2 * rj ≤ k * rj := Int.mul_le_mul_of_nonneg_right hk a2
  unfold RT0 ROT
  rw [di, dj]
  have md : ∀ z r : Int, 0 ≤ z → 0 ≤ r → k * r = z → z.toNat % k.toNat = 0 := fun z r hz hr e => by
    have : z.toNat = k.toNat * r.toNat := by
      have : ((k.toNat * r.toNat : Nat) : Int) = z := by rw [Int.natCast_mul, Int.toNat_of_nonneg (by omega), Int.toNat_of_nonneg hr, e]
      omega
    rw [this]
    exact Nat.mul_mod_right _ _
  refine ⟨by omega, ⟨md _ _ (by omega) a1 a3, md _ _ (by omega) a2 a4⟩, ?_, ?_, fun a b hab hw => ?_, ht⟩
  · have := SU_ci (by omega) su
    rw [show (ri + rj).toNat = ri.toNat + rj.toNat by omega] at this
    exact this
  · show 0 < (tr (7 * ri.toNat + rj.toNat)).toInt
    rw [show 7 * ri.toNat + rj.toNat = (7 * ri + rj).toNat by omega, b1]
    omega
  · show (tr (7 * a + b)).toInt = 0
    have z : tr (7 * a + b) = 0 := by
      unfold wt at hw
      by_cases q : (a : Int) + b = ri + rj
      · have := b3 (7 * a + b : Nat) (by omega) (by omega) (by omega) (by omega)
        rw [Int.toNat_natCast] at this
        exact this
      · have := su (7 * a + b : Nat) (by omega) (by omega) (by omega)
        rw [Int.toNat_natCast] at this
        exact this
    rw [z]
    rfl
theorem TW_res {Φ : Int → Int → Int} {w tr : Nat → Int64} {dg pw_ : Int32} (h6 : SU w 6) (ht : TW w tr dg pw_) (hΦ : ∀ (f : Nat → Int64) (c : Int), c ≠ 0 → (∀ i, i < 49 → (w i).toInt = c * (f i).toInt) → lprim (lsf f 49) → SUi (ci f) 6 → ∃ c2 : Int, c2 ≠ 0 ∧ ∀ x y : Int, Φ x y = c2 * hom6 (fun a b => ci f (7 * a + b)) x y 1) (htr : ∀ (f : Nat → Int64) (c d k fi : Int), c ≠ 0 → (∀ i, i < 49 → (w i).toInt = c * (f i).toInt) → lprim (lsf f 49) → SU f d → 1 ≤ d → d ≤ 6 → (0 ≤ fi ∧ fi < 49 ∧ fi / 7 + fi % 7 = d ∧ 0 < (f fi.toNat).toInt ∧ ∀ a b : Int, 0 ≤ a → a < 7 → 0 ≤ b → b < 7 → f (7 * a + b).toNat ≠ 0 → a + b = d → a ≤ fi / 7) → 2 ≤ k → PWz tr f k fi → tru k.toNat (ci f) (ci tr)) : RESm Φ tr dg pw_ := by
  obtain ⟨f, c, d, k, fi, c0, hw, hp, hd1, hsu, hfi, ⟨hk1, hk2⟩, hdg, hpw, hkk, hno⟩ := ht
  have wne : w fi.toNat ≠ 0 := fun z => by
    have e := hw fi.toNat (by omega)
    rw [z, show (0 : Int64).toInt = 0 from rfl] at e
    rcases Int.mul_eq_zero.mp e.symm with y | y
    · exact c0 y
    · have := hfi.2.2.2.1
      omega
  have hd6 : d ≤ 6 := by
    have := SU_le h6 (q := fi) hfi.1 hfi.2.1 wne
    omega
  have sui : SUi (ci f) 6 := SUi_le (by omega) (SU_ci (by omega) hsu)
  have hfst := TW_fst hsu hfi hd6
  have hprm : PRM Φ (ci f) (fi / 7).toNat (fi % 7).toNat := ⟨hΦ f c c0 hw hp sui, hp, sui, hfst⟩
  have edk : ((((fi / 7).toNat + (fi % 7).toNat) / k.toNat : Nat) : Int) = d / k := by
    rw [Int.natCast_ediv, show (((fi / 7).toNat + (fi % 7).toNat : Nat) : Int) = d by omega, Int.toNat_of_nonneg (by omega)]
  have hno' : ∀ k', k.toNat < k' → k' ≤ (fi / 7).toNat + (fi % 7).toNat → ¬ ∃ E', ROT k' (ci f) (fi / 7).toNat (fi % 7).toNat E' := fun k' g1 g2 ⟨E', hE⟩ => hno (k' : Int) (by omega) (by omega) ⟨E', by unfold RT0; rw [Int.toNat_natCast]; exact hE⟩
  have hdle : d / k ≤ d := Int.ediv_le_self k (by omega)
  have hd0 : 0 ≤ d / k := Int.ediv_nonneg (by omega) (by omega)
  refine ⟨k.toNat, ((fi / 7).toNat + (fi % 7).toNat) / k.toNat, by omega, by omega, by rw [hdg, edk], by rw [hpw, Int.toNat_of_nonneg (by omega)], ?_, ci f, _, _, hprm, by omega, ⟨by omega, by omega⟩, rfl, ?_, hno'⟩
  · rcases hkk with ⟨e, g⟩ | ⟨e, p⟩
    · have e1 : k.toNat = 1 := by omega
      rw [e1, Nat.div_one]
      intro a b ha hb hab
      show (tr (7 * a + b)).toInt = 0
      rw [g _ (by omega)]
      exact SU_ci (by omega) hsu a b ha hb (by omega)
    · obtain ⟨ri, rj, L, a1, a2, a3, a4, su, _⟩ := p
      have : ((fi / 7).toNat + (fi % 7).toNat) / k.toNat = (ri + rj).toNat := by
        have e2 : d / k = ri + rj := by
          have : d = k * (ri + rj) := by rw [Int.mul_add]; omega
          rw [this]
          exact Int.mul_ediv_cancel_left _ (by omega)
        omega
      rw [this]
      exact SU_ci (by omega) su
  · rcases hkk with ⟨e, g⟩ | ⟨e, p⟩
    · exact Or.inl ⟨by omega, fun i hi => by show (tr i).toInt = (f i).toInt; rw [g i hi]⟩
    · exact Or.inr (PW_rot e ⟨hfi.1, hfi.2.1⟩ (by omega) p (htr f c d k fi c0 hw hp hsu hd1 hd6 hfi e p))
