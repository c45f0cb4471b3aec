/-! slices of the reference's minors -/
def slc (f : Nat → Int64) (s : Nat) : Nat → Int64 := fun i => f (49 * s + i)
def Ey (E : Nat → Int64) (r c : Nat) (t : Int) : Int := (E (3 * (8 * r + c))).toInt + (E (3 * (8 * r + c) + 1)).toInt * t ^ 7 + (E (3 * (8 * r + c) + 2)).toInt * t
theorem Pf_Ey (E : Nat → Int64) (r c : Nat) : Pf (Ey E r c) := ((Pf.con _).add ((Pf.con _).mul (Pf_pow 7))).add ((Pf.con _).mul Pf.var)
def MJ (m0 m : Nat → Int64) (set : Int) (F : Int → Int) : Prop := (∀ q : Int, 0 ≤ q → q < 49 * set → m q.toNat = m0 q.toNat) ∧ (∀ q : Int, 49 * (set + 1) ≤ q → q < 12544 → m q.toNat = 0) ∧ CG (pw id (slc m set.toNat) 49) F
theorem MJ_c {m0 m : Nat → Int64} {set : Int} {F G : Int → Int} (h : MJ m0 m set F) (he : CG F G) : MJ m0 m set G := ⟨h.1, h.2.1, h.2.2.tr he⟩
theorem MJ_e {m0 m : Nat → Int64} {set : Int} {F G : Int → Int} (h : MJ m0 m set F) (he : ∀ t, F t = G t) : MJ m0 m set G := MJ_c h (CG.ex he)
theorem MJ_s {m0 m m' : Nat → Int64} {set q idx : Int} {F : Int → Int} {x : Int64} {z : Int} (hs : 0 ≤ set) (hi : 0 ≤ idx ∧ idx < 49) (hq : q = 49 * set + idx) (e : m' = vp_updL m q.toNat x) (hx : cq x ((m q.toNat).toInt + z)) (h : MJ m0 m set F) : MJ m0 m' set (fun t => F t + z * t ^ idx.toNat) := by
  subst hq
  refine ⟨fun p h1 h2 => ?_, fun p h1 h2 => ?_, ?_⟩
  · rw [e, up_at (by omega) h1, if_neg (by omega)]
    exact h.1 p h1 h2
  · rw [e, up_at (by omega) (by omega), if_neg (by omega)]
    exact h.2.1 p h1 h2
  · have e2 : slc m' set.toNat = vp_updL (slc m set.toNat) idx.toNat x := funext fun i => by
      show m' (49 * set.toNat + i) = if i = idx.toNat then x else m (49 * set.toNat + i)
      rw [e]
      show (if 49 * set.toNat + i = (49 * set + idx).toNat then x else m (49 * set.toNat + i)) = _
      by_cases h1 : i = idx.toNat
      · rw [if_pos h1, if_pos (by omega)]
      · rw [if_neg h1, if_neg (by omega)]
    rw [e2]
    have e3 : m (49 * set + idx).toNat = slc m set.toNat idx.toNat := by
      show _ = m (49 * set.toNat + idx.toNat)
      congr 1
      omega
    rw [e3] at hx
    exact CG_up (ix := id) (by omega) hx h.2.2
def SS (m : Nat → Int64) (En : Nat → Nat → Int → Int) (n : Nat) (set : Int) : Prop := (∀ s : Int, 0 ≤ s → s < set → CG (pw id (slc m s.toNat) 49) (Sx En n s.toNat)) ∧ (∀ q : Int, 49 * set ≤ q → q < 12544 → m q.toNat = 0)
theorem SS_0 {m m' : Nat → Int64} (En : Nat → Nat → Int → Int) (n : Nat) (h : ∀ q : Int, 0 ≤ q → q < 12544 → m q.toNat = 0) (e : m' = vp_updL m (0 : Int).toNat 1) : SS m' En n 1 := by
  refine ⟨fun s h1 h2 => ?_, fun q h1 h2 => ?_⟩
  · have : s = 0 := by omega
    subst this
    have e2 : slc m' (0 : Int).toNat = vp_updL (slc m 0) 0 1 := funext fun i => by
      show m' (49 * 0 + i) = if i = 0 then 1 else m (49 * 0 + i)
      rw [e, show 49 * 0 + i = i by omega]
      rfl
    rw [e2]
    refine CG.ex (fun t => ?_)
    rw [pw_up 49 (by decide), pw_0 49 (fun i hi => by
      have := h (i : Int) (by omega) (by omega)
      show m (49 * 0 + i) = 0
      rw [show 49 * 0 + i = (i : Int).toNat by omega]
      exact this)]
    have e3 : slc m 0 0 = 0 := h 0 (by decide) (by decide)
    rw [e3]
    show 0 + ((1 : Int64).toInt - (0 : Int64).toInt) * t ^ 0 = 1
    rw [Int.pow_zero]
    rfl
  · rw [e, up_at (by decide) (by omega), if_neg (by omega)]
    exact h q (by omega) h2
theorem SS_col {m : Nat → Int64} {En : Nat → Nat → Int → Int} {n : Nat} {set : Int} (hs : 0 ≤ set) (h256 : set < 256) (h : SS m En n set) : MJ m m set (Cx En n set.toNat 0) := by
  refine ⟨fun q _ _ => rfl, fun q h1 h2 => h.2 q (by omega) h2, CG.ex (fun t => ?_)⟩
  rw [Cx_0]
  exact pw_0 49 (fun i hi => by
    have := h.2 (49 * set + i) (by omega) (by omega)
    show m (49 * set.toNat + i) = 0
    rw [show 49 * set.toNat + i = (49 * set + (i : Int)).toNat by omega]
    exact this) t
theorem slc_c {m m0 : Nat → Int64} {set s : Int} (h : ∀ q : Int, 0 ≤ q → q < 49 * set → m q.toNat = m0 q.toNat) (h0 : 0 ≤ s) (h1 : s < set) (t : Int) (N : Nat) (hN : N ≤ 49) : pw id (slc m s.toNat) N t = pw id (slc m0 s.toNat) N t := pw_c N (fun i hi => by
  have := h (49 * s + i) (by omega) (by omega)
  show m (49 * s.toNat + i) = m0 (49 * s.toNat + i)
  rw [show 49 * s.toNat + i = (49 * s + (i : Int)).toNat by omega]
  exact this) t
theorem SS_n {m m0 : Nat → Int64} {En : Nat → Nat → Int → Int} {n : Nat} {set : Int} (hs : 0 ≤ set) (hp : 1 ≤ pc8 set.toNat) (h0 : SS m0 En n set) (h : MJ m0 m set (Cx En n set.toNat n)) : SS m En n (set + 1) := by
  refine ⟨fun s h1 h2 => ?_, h.2.1⟩
  by_cases e : s = set
  · subst e
    exact h.2.2.tr (CG.ex (fun t => Cx_n hp t))
  · exact (CG.ex (fun t => slc_c h.1 h1 (by omega) t 49 (Nat.le_refl _))).tr (h0.1 s h1 (by omega))
/-- a column, cell by cell -/
def Fk (C : Int → Int) (sg : Int) (P : Nat → Int64) (K : Nat) (e0 e1 e2 : Int) (t : Int) : Int := C t + sg * pw id P K t * (e0 + e1 * t ^ 7 + e2 * t)
theorem Fk_0 (C : Int → Int) (sg : Int) (P : Nat → Int64) (e0 e1 e2 : Int) (t : Int) : Fk C sg P 0 e0 e1 e2 t = C t := by
  show C t + sg * 0 * _ = C t
  rw [Int.mul_zero, Int.zero_mul, Int.add_zero]
theorem Fk_s {C : Int → Int} {sg : Int} {P : Nat → Int64} {K : Nat} {e0 e1 e2 : Int} (t : Int) : Fk C sg P K e0 e1 e2 t + sg * (P K).toInt * (e0 * t ^ K + e1 * t ^ (K + 7)) + sg * (P K).toInt * e2 * t ^ (K + 1) = Fk C sg P (K + 1) e0 e1 e2 t := by
  unfold Fk
  rw [pw_s, Int.pow_add t K 7, show t ^ (K + 1) = t ^ K * t from Int.pow_succ t K]
  show _ = C t + sg * (pw id P K t + (P K).toInt * t ^ K) * _
  generalize pw id P K t = pK
  generalize t ^ 7 = t7'
  generalize t ^ K = tK
  grind
theorem mn_x {sg : Int} {a mm e : Int64} : cq (a + zL sg * mm * e) (a.toInt + sg * mm.toInt * e.toInt) := cq_add (cq_rf a) (cq_mul (cq_mul (cq_zL sg) (cq_rf mm)) (cq_rf e))
theorem mn_z {m0 m P : Nat → Int64} {C : Int → Int} {set i j : Int} {sg e0 e1 e2 : Int} (hi : 0 ≤ i) (hj : 0 ≤ j) (hm : P (7 * i + j).toNat = 0) (h : MJ m0 m set (Fk C sg P (7 * i + j).toNat e0 e1 e2)) : MJ m0 m set (Fk C sg P (7 * i + (j + 1)).toNat e0 e1 e2) := by
  refine MJ_e h (fun t => ?_)
  have := Fk_s (C := C) (sg := sg) (P := P) (K := (7 * i + j).toNat) (e0 := e0) (e1 := e1) (e2 := e2) t
  rw [hm, show (0 : Int64).toInt = 0 from rfl, Int.mul_zero, Int.zero_mul, Int.zero_mul, Int.zero_mul, Int.add_zero, Int.add_zero] at this
  rw [this, show (7 * i + j).toNat + 1 = (7 * i + (j + 1)).toNat by omega]
theorem mn_a {m0 m m' P : Nat → Int64} {C : Int → Int} {set i j q : Int} {sg e1 e2 : Int} {mm e : Int64} (hs : 0 ≤ set) (hi : 0 ≤ i ∧ i < 7) (hj : 0 ≤ j ∧ j < 7) (hm : P (7 * i + j).toNat = mm) (hq : q = 49 * set + 7 * i + j) (e_ : m' = vp_updL m q.toNat (m q.toNat + zL sg * mm * e)) (h : MJ m0 m set (Fk C sg P (7 * i + j).toNat e.toInt e1 e2)) : MJ m0 m' set (fun t => Fk C sg P (7 * i + j).toNat e.toInt e1 e2 t + sg * mm.toInt * (e.toInt * t ^ (7 * i + j).toNat)) :=
  MJ_e (MJ_s (idx := 7 * i + j) hs (by omega) (by omega) e_ mn_x h) (fun t => by grind)
theorem mn_b0 {m0 m : Nat → Int64} {set : Int} {sg : Int} {mm e1 : Int64} {K : Nat} {e0 : Int} {F : Int → Int} (he : e1 = 0) (h : MJ m0 m set (fun t => F t + sg * mm.toInt * (e0 * t ^ K))) : MJ m0 m set (fun t => F t + sg * mm.toInt * (e0 * t ^ K + e1.toInt * t ^ (K + 7))) := MJ_e h (fun t => by
  rw [he, show (0 : Int64).toInt = 0 from rfl, Int.zero_mul, Int.add_zero])
theorem mn_bb {m0 m m' : Nat → Int64} {set i j q : Int} {sg : Int} {mm e1 : Int64} {e0 : Int} {F : Int → Int} (hs : 0 ≤ set) (hi : 0 ≤ i ∧ i < 6) (hj : 0 ≤ j ∧ j < 7) (hq : q = 49 * set + 7 * (i + 1) + j) (e_ : m' = vp_updL m q.toNat (m q.toNat + zL sg * mm * e1)) (h : MJ m0 m set (fun t => F t + sg * mm.toInt * (e0 * t ^ (7 * i + j).toNat))) : MJ m0 m' set (fun t => F t + sg * mm.toInt * (e0 * t ^ (7 * i + j).toNat + e1.toInt * t ^ ((7 * i + j).toNat + 7))) :=
  MJ_e (MJ_s (idx := 7 * (i + 1) + j) hs (by omega) (by omega) e_ mn_x h) (fun t => by
    rw [show (7 * (i + 1) + j).toNat = (7 * i + j).toNat + 7 by omega]
    generalize t ^ ((7 * i + j).toNat + 7) = a
    generalize t ^ (7 * i + j).toNat = b
    grind)
theorem mn_c0 {m0 m P : Nat → Int64} {C : Int → Int} {set i j : Int} {sg : Int} {mm e2 : Int64} {e0 e1 : Int} (hi : 0 ≤ i) (hj : 0 ≤ j) (hm : P (7 * i + j).toNat = mm) (he : e2 = 0) (h : MJ m0 m set (fun t => Fk C sg P (7 * i + j).toNat e0 e1 e2.toInt t + sg * mm.toInt * (e0 * t ^ (7 * i + j).toNat + e1 * t ^ ((7 * i + j).toNat + 7)))) : MJ m0 m set (Fk C sg P (7 * i + (j + 1)).toNat e0 e1 e2.toInt) := MJ_e h (fun t => by
  have := Fk_s (C := C) (sg := sg) (P := P) (K := (7 * i + j).toNat) (e0 := e0) (e1 := e1) (e2 := e2.toInt) t
  rw [show (7 * i + j).toNat + 1 = (7 * i + (j + 1)).toNat by omega] at this
  rw [← this, ← hm, he, show (0 : Int64).toInt = 0 from rfl, Int.mul_zero, Int.zero_mul, Int.add_zero])
theorem mn_c {m0 m m' P : Nat → Int64} {C : Int → Int} {set i j q : Int} {sg : Int} {mm e2 : Int64} {e0 e1 : Int} (hs : 0 ≤ set) (hi : 0 ≤ i ∧ i < 7) (hj : 0 ≤ j ∧ j < 6) (hm : P (7 * i + j).toNat = mm) (hq : q = 49 * set + 7 * i + j + 1) (e_ : m' = vp_updL m q.toNat (m q.toNat + zL sg * mm * e2)) (h : MJ m0 m set (fun t => Fk C sg P (7 * i + j).toNat e0 e1 e2.toInt t + sg * mm.toInt * (e0 * t ^ (7 * i + j).toNat + e1 * t ^ ((7 * i + j).toNat + 7)))) : MJ m0 m' set (Fk C sg P (7 * i + (j + 1)).toNat e0 e1 e2.toInt) :=
  MJ_e (MJ_s (idx := 7 * i + (j + 1)) hs (by omega) (by omega) e_ mn_x h) (fun t => by
    have := Fk_s (C := C) (sg := sg) (P := P) (K := (7 * i + j).toNat) (e0 := e0) (e1 := e1) (e2 := e2.toInt) t
    rw [show (7 * i + j).toNat + 1 = (7 * i + (j + 1)).toNat by omega] at this
    rw [← this, ← hm])
theorem bitd {s c : Int} (h0 : 0 ≤ s) (h1 : s < 256) (g0 : 0 ≤ c) (g1 : c < 8) : ∃ b t : Int, (zI s >>> (zI c &&& 31)) &&& zI 1 = zI b ∧ (b = 0 ∨ b = 1) ∧ 0 ≤ t ∧ t < 256 ∧ (b = 1 → zI s ^^^ (zI 1 <<< (zI c &&& 31)) = zI t ∧ (pc8 t.toNat : Int) + 1 = pc8 s.toNat ∧ t < s ∧ s.toNat / 2 ^ c.toNat % 2 = 1 ∧ t.toNat = s.toNat - 2 ^ c.toNat) ∧ (b = 0 → ¬ s.toNat / 2 ^ c.toNat % 2 = 1) := by
  obtain ⟨n, rfl⟩ := Int.eq_ofNat_of_zero_le h0
  obtain ⟨k, rfl⟩ := Int.eq_ofNat_of_zero_le g0
  obtain ⟨e1, e2⟩ := bit_t ⟨n, by omega⟩ ⟨k, by omega⟩
  simp only at e1 e2
  refine ⟨((n / 2 ^ k % 2 : Nat) : Int), ((n - 2 ^ k : Nat) : Int), e1, by omega, by omega, by have := Nat.sub_le n (2 ^ k); omega, fun hb => ?_, fun hb => ?_⟩
  · obtain ⟨e3, e4, e5⟩ := e2 (by omega)
    have h2 := Nat.two_pow_pos k
    refine ⟨e3, ?_, by omega, ?_, ?_⟩
    · show ((pc8 (n - 2 ^ k) : Nat) : Int) + 1 = (pc8 n : Nat)
      omega
    · show n / 2 ^ k % 2 = 1
      omega
    · show n - 2 ^ k = n - 2 ^ k
      rfl
  · show ¬ n / 2 ^ k % 2 = 1
    omega
/-- the column's end -/
theorem mn_col {ms m mi E : Nat → Int64} {n : Int} {set t cn i : Int} {sg : Int} (hn : 2 ≤ n ∧ n ≤ 8) (hc : 0 ≤ cn ∧ cn ≤ n - 1) (hs : 0 ≤ set) (ht : 0 ≤ t ∧ t < set) (hp : (pc8 t.toNat : Int) + 1 = pc8 set.toNat) (hb : set.toNat / 2 ^ cn.toNat % 2 = 1) (et : t.toNat = set.toNat - 2 ^ cn.toNat) (hsg : sg = dsg set.toNat n.toNat (n - 1 - cn).toNat) (hi : i = 7) (hS : SS ms (Ey E) n.toNat set) (h1 : MJ ms m set (Cx (Ey E) n.toNat set.toNat (n - 1 - cn).toNat)) {r : Int} (hr : r + 1 = pc8 set.toNat) (h2 : MJ m mi set (Fk (Cx (Ey E) n.toNat set.toNat (n - 1 - cn).toNat) sg (slc m t.toNat) (7 * i + 0).toNat (E (3 * (8 * r + cn)).toNat).toInt (E (3 * (8 * r + cn) + 1).toNat).toInt (E (3 * (8 * r + cn) + 2).toNat).toInt)) : MJ ms mi set (Cx (Ey E) n.toNat set.toNat (n - 1 - (cn + -1)).toNat) ∧ -sg = dsg set.toNat n.toNat (n - 1 - (cn + -1)).toNat := by
  have em : (n - 1 - (cn + -1)).toNat = (n - 1 - cn).toNat + 1 := by omega
  have ec : cn.toNat = n.toNat - 1 - (n - 1 - cn).toNat := by omega
  refine ⟨⟨fun q a b => (h2.1 q a b).trans (h1.1 q a b), h2.2.1, ?_⟩, by rw [em, dsg_1 ec hb, hsg]⟩
  subst hi
  refine h2.2.2.tr ?_
  have cS : CG (pw id (slc m t.toNat) 49) (Sx (Ey E) n.toNat t.toNat) := (CG.ex (fun z => slc_c h1.1 ht.1 ht.2 z 49 (Nat.le_refl _))).tr (hS.1 t ht.1 ht.2)
  have cM := (CG.rf (Cx (Ey E) n.toNat set.toNat (n - 1 - cn).toNat)).ad (CG.mr (Pf_Ey E (pc8 set.toNat - 1) cn.toNat) (CG.ml (Pf.con sg) cS))
  refine (CG.ex (fun z => ?_)).tr (cM.tr (CG.ex (fun z => ?_)))
  · show Cx (Ey E) n.toNat set.toNat (n - 1 - cn).toNat z + sg * pw id (slc m t.toNat) 49 z * _ = Cx (Ey E) n.toNat set.toNat (n - 1 - cn).toNat z + sg * pw id (slc m t.toNat) 49 z * Ey E (pc8 set.toNat - 1) cn.toNat z
    unfold Ey
    rw [show (3 * (8 * r + cn)).toNat = 3 * (8 * (pc8 set.toNat - 1) + cn.toNat) by omega, show (3 * (8 * r + cn) + 1).toNat = 3 * (8 * (pc8 set.toNat - 1) + cn.toNat) + 1 by omega, show (3 * (8 * r + cn) + 2).toNat = 3 * (8 * (pc8 set.toNat - 1) + cn.toNat) + 2 by omega]
  · rw [em, Cx_1 ec hb (by rw [← et]; omega), et, hsg]
theorem mn_col0 {ms m : Nat → Int64} {En : Nat → Nat → Int → Int} {n : Int} {set cn : Int} {sg : Int} (hn : 2 ≤ n ∧ n ≤ 8) (hc : 0 ≤ cn ∧ cn ≤ n - 1) (hb : ¬ set.toNat / 2 ^ cn.toNat % 2 = 1) (hsg : sg = dsg set.toNat n.toNat (n - 1 - cn).toNat) (h1 : MJ ms m set (Cx En n.toNat set.toNat (n - 1 - cn).toNat)) : MJ ms m set (Cx En n.toNat set.toNat (n - 1 - (cn + -1)).toNat) ∧ sg = dsg set.toNat n.toNat (n - 1 - (cn + -1)).toNat := by
  have em : (n - 1 - (cn + -1)).toNat = (n - 1 - cn).toNat + 1 := by omega
  have ec : cn.toNat = n.toNat - 1 - (n - 1 - cn).toNat := by omega
  refine ⟨MJ_e h1 (fun t => by rw [em, Cx_2 ec hb]), by rw [em, dsg_2 ec hb, hsg]⟩
theorem sh1y {n : Int} (h0 : 0 ≤ n) (h1 : n ≤ 8) : ∃ T : Int, zI 1 <<< (zI n &&& 31) = zI T ∧ 1 ≤ T ∧ T ≤ 256 ∧ (∀ s : Int, 0 ≤ s → s < T → (pc8 s.toNat : Int) ≤ n) ∧ T.toNat = 2 ^ n.toNat := by
  obtain ⟨k, rfl⟩ := Int.eq_ofNat_of_zero_le h0
  obtain ⟨e1, e2⟩ := sh1_t ⟨k, by omega⟩
  have hle : 2 ^ k ≤ 2 ^ 8 := Nat.pow_le_pow_right (by decide) (by omega)
  have hpos : 0 < 2 ^ k := Nat.two_pow_pos k
  refine ⟨((2 ^ k : Nat) : Int), e1, by omega, by omega, fun s g1 g2 => ?_, rfl⟩
  have := e2 ⟨s.toNat, by omega⟩ (by simp only; omega)
  simp only at this
  omega
theorem pc_1 {s : Int} (h1 : 1 ≤ s) (h2 : s < 256) : 1 ≤ pc8 s.toNat := by
  have := pc_0 ⟨s.toNat, by omega⟩ (by simp only; omega)
  exact this
