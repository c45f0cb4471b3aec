/-! Bezout's matrix in the class's planes -/
def NZf (f : Nat → Int64) : Prop := ∃ i, i < 5 ∧ ti f i ≠ 0
def TK (L : Nat → Nat → Int64) (tp : Int) : Prop := (tp = 0 ∧ ¬ NZf (L 5)) ∨ (HP (fun a => L (3 + a)) tp ∧ NZf (L 5))
theorem nz_1 {f : Nat → Int64} {tp : Int} (h1 : tp < 0) (h2 : ∀ k : Int, tp < k → k ≤ 4 → f k.toNat = 0) : ¬ NZf f := fun ⟨i, hi, hne⟩ => hne ((ti_0 hi).mpr (by
  have := h2 (i : Int) (by omega) (by omega)
  rw [Int.toNat_natCast] at this
  exact this))
theorem nz_0 {f : Nat → Int64} {tp : Int} (h1 : -1 ≤ tp ∧ tp ≤ 4) (h0 : 0 ≤ tp) (h3 : 0 ≤ tp → f tp.toNat ≠ 0) : NZf f := ⟨tp.toNat, by omega, fun z => h3 h0 ((ti_0 (by omega)).mp z)⟩
def MVp (B : Nat → Int) (J L : Nat → Nat → Int64) (i : Int) : Prop := ∀ q : Int, 0 ≤ q → q < i → (B q.toNat = 1 ∧ LNp (J q.toNat) (-(L 5 q.toNat)) 0 (L 3 q.toNat)) ∧ (B (5 + q.toNat) = 1 ∧ LNp (J (5 + q.toNat)) 0 (-(L 5 q.toNat)) (L 4 q.toNat))
theorem mv_0 {B : Nat → Int} {J L : Nat → Nat → Int64} : MVp B J L 0 := fun q a b => by omega
theorem mv_s {B B1 B2 : Nat → Int} {J J1 J2 L : Nat → Nat → Int64} {i : Int} (hi : 0 ≤ i ∧ i ≤ 4) (h : MVp B J L i) (b1 : ∀ j, j ≠ i.toNat → B1 j = B j) (j1 : ∀ j, j ≠ i.toNat → J1 j = J j) (c1 : B1 i.toNat = 1) (d1 : LNp (J1 i.toNat) (-(L 5 i.toNat)) 0 (L 3 i.toNat)) (b2 : ∀ j, j ≠ 5 + i.toNat → B2 j = B1 j) (j2 : ∀ j, j ≠ 5 + i.toNat → J2 j = J1 j) (c2 : B2 (5 + i.toNat) = 1) (d2 : LNp (J2 (5 + i.toNat)) 0 (-(L 5 i.toNat)) (L 4 i.toNat)) : MVp B2 J2 L (i + 1) := fun q x y => by
  by_cases e : q = i
  · rw [e, b2 _ (by omega), j2 _ (by omega)]
    exact ⟨⟨c1, d1⟩, ⟨c2, d2⟩⟩
  · obtain ⟨⟨p1, p2⟩, p3, p4⟩ := h q x (by omega)
    rw [b2 q.toNat (by omega), j2 q.toNat (by omega), b1 q.toNat (by omega), j1 q.toNat (by omega), b2 (5 + q.toNat) (by omega), j2 (5 + q.toNat) (by omega), b1 (5 + q.toNat) (by omega), j1 (5 + q.toNat) (by omega)]
    exact ⟨⟨p1, p2⟩, p3, p4⟩
theorem mv_c {B B1 : Nat → Int} {J J1 L : Nat → Nat → Int64} {i : Int} (hi : i ≤ 5) (h : MVp B J L i) (hb : ∀ k, k < 10 → B1 k = B k) (hj : ∀ k, k < 10 → J1 k = J k) : MVp B1 J1 L i := fun q x y => by
  obtain ⟨⟨p1, p2⟩, p3, p4⟩ := h q x y
  rw [hb q.toNat (by omega), hj q.toNat (by omega), hb (5 + q.toNat) (by omega), hj (5 + q.toNat) (by omega)]
  exact ⟨⟨p1, p2⟩, p3, p4⟩
def sz3 (L : Nat → Nat → Int64) : Prop := ∀ a, a < 3 → ∀ i, (ti (L (3 + a)) i).natAbs ≤ 105
theorem neg_t {f : Nat → Int64} {i : Nat} (hi : i < 5) (h : (ti f i).natAbs ≤ 105) : (-(f i)).toInt = -ti f i := by
  rw [ti_lo f hi] at *
  exact neg_s h
theorem mv_x {B : Nat → Int} {J L : Nat → Nat → Int64} {n q : Int} (hs : sz3 L) (h : MVp B J L n) (h0 : 0 ≤ q) (h1 : q < n) (h5 : q < 5) (t : Int) : pw ixs (J q.toNat) 28 t = fX (ti (L 3)) (ti (L 5)) t q.toNat := by
  have e := LN_e (h q h0 h1).1.2 t
  have hw : (ti (L 5) q.toNat).natAbs ≤ 105 := hs 2 (by decide) q.toNat
  rw [e, neg_t (by omega) hw, show (0 : Int64).toInt = 0 from rfl, Int.zero_mul, Int.add_zero]
  unfold fX
  rw [ti_lo (L 3) (by omega), Int.neg_mul]
  omega
theorem mv_y {B : Nat → Int} {J L : Nat → Nat → Int64} {n q : Int} (hs : sz3 L) (h : MVp B J L n) (h0 : 0 ≤ q) (h1 : q < n) (h5 : q < 5) (t : Int) : pw ixs (J (5 + q.toNat)) 28 t = fY (ti (L 4)) (ti (L 5)) t q.toNat := by
  have e := LN_e (h q h0 h1).2.2 t
  have hw : (ti (L 5) q.toNat).natAbs ≤ 105 := hs 2 (by decide) q.toNat
  rw [e, neg_t (by omega) hw, show (0 : Int64).toInt = 0 from rfl, Int.zero_mul, Int.add_zero]
  unfold fY
  rw [ti_lo (L 4) (by omega), Int.neg_mul]
  omega
theorem bzs_lin (X Y W : Nat → Int) (lo hi : Nat) : ∀ k, ∃ α β γ : Int, ∀ t, bzs (fX X W t) (fY Y W t) lo hi k = evl (lk α β γ) t
  | 0 => ⟨0, 0, 0, fun t => by rw [evl_lk]; show (0 : Int) = 0 * t7 t + 0 * t + 0 * 1; omega⟩
  | k + 1 => by
    obtain ⟨α, β, γ, h⟩ := bzs_lin X Y W lo hi k
    obtain ⟨p, q, r, hm⟩ := Lm_m3 X Y W (hi + k + 1) (lo - k)
    dsimp only at hm
    refine ⟨α + p, β + q, γ + r, fun t => ?_⟩
    show bzs (fX X W t) (fY Y W t) lo hi k + (fX X W t (hi + k + 1) * fY Y W t (lo - k) - fX X W t (lo - k) * fY Y W t (hi + k + 1)) = _
    have e : fX X W t (hi + k + 1) * fY Y W t (lo - k) - fX X W t (lo - k) * fY Y W t (hi + k + 1) = m3 X Y W (t7 t) t 1 (hi + k + 1) (lo - k) := mij_m3 X Y W t (hi + k + 1) (lo - k)
    rw [e, h t, hm, evl_lk, evl_lk]
    generalize t7 t = x
    grind
theorem Pf_bz (X Y W : Nat → Int) (n i j : Nat) : Pf (fun t => bzI (fX X W t) (fY Y W t) n i j) := by
  obtain ⟨α, β, γ, h⟩ := bzs_lin X Y W (min i j) (max i j) (min (min i j) (n - 1 - max i j) + 1)
  exact ⟨lk α β γ, h⟩
theorem bz_s1 {m1 m2 m3' e0 : Nat → Int64} {P1 Q1 P2 Q2 F : Int → Int} {f1 f2 : Nat → Int64} {s1 s2 : Nat → Int64} (h0 : CG (pw ixs e0 28) F) (h1 : CG (pw ixs m1 28) (fun z => pw ixs e0 28 z + (1 : Int64).toInt * pw ixs f1 28 z * pw ixs s1 28 z)) (h2 : CG (pw ixs m2 28) (fun z => pw ixs m1 28 z + (-1 : Int64).toInt * pw ixs f2 28 z * pw ixs s2 28 z)) (e1 : ∀ t, pw ixs f1 28 t = P1 t) (e2 : ∀ t, pw ixs s1 28 t = Q1 t) (e3 : ∀ t, pw ixs f2 28 t = P2 t) (e4 : ∀ t, pw ixs s2 28 t = Q2 t) : CG (pw ixs m2 28) (fun t => F t + (P1 t * Q1 t - P2 t * Q2 t)) := by
  have o1 : (1 : Int64).toInt = 1 := rfl
  have o2 : (-1 : Int64).toInt = -1 := rfl
  have a1 : CG (pw ixs m1 28) (fun t => F t + P1 t * Q1 t) := h1.tr ((h0.ad (CG.rf (fun z => (1 : Int64).toInt * pw ixs f1 28 z * pw ixs s1 28 z))).tr (CG.ex (fun t => by rw [e1, e2, o1, Int.one_mul])))
  exact h2.tr ((a1.ad (CG.rf (fun z => (-1 : Int64).toInt * pw ixs f2 28 z * pw ixs s2 28 z))).tr (CG.ex (fun t => by
    rw [e3, e4, o2]
    generalize P2 t = x
    generalize Q2 t = y
    generalize P1 t = z
    generalize Q1 t = w
    grind)))
theorem bz_deg {e : Nat → Int64} {α β γ : Int} (h : CG (pw ixs e 28) (evl (lk α β γ))) : deg0 e 2 := fun j h1 h2 => by
  have s2 : sl 2 = 3 := rfl
  have : j = 0 ∨ j = 1 ∨ j = 2 := by omega
  rcases this with rfl | rfl | rfl
  · exact cq_0' (CG_pl h 3 (by decide))
  · exact cq_0' (CG_pl h 4 (by decide))
  · exact cq_0' (CG_pl h 5 (by decide))
/-- an entry, and all of them -/
def ENT (B : Nat → Int) (J L : Nat → Nat → Int64) (n : Nat) (a b : Int) : Prop := CG (pw ixs (J (10 + tri (a * 4 + b).toNat)) 28) (fun t => bzI (fX (ti (L 3)) (ti (L 5)) t) (fY (ti (L 4)) (ti (L 5)) t) n a.toNat b.toNat) ∧ PZ (J (10 + tri (a * 4 + b).toNat)) (B (10 + tri (a * 4 + b).toNat)) ∧ B (10 + tri (a * 4 + b).toNat) ≤ 1
def ENp (B : Nat → Int) (J L : Nat → Nat → Int64) (n i j : Int) : Prop := ∀ a b : Int, 0 ≤ a → a ≤ b → b < n → (a < i ∨ (a = i ∧ b < j)) → ENT B J L n.toNat a b
theorem tri_inj : ∀ a b i j : Fin 4, a.val ≤ b.val → i.val ≤ j.val → tri (a.val * 4 + b.val) = tri (i.val * 4 + j.val) → a = i ∧ b = j := by decide +kernel
theorem tri_sym : ∀ a b : Fin 4, tri (a.val * 4 + b.val) = tri (b.val * 4 + a.val) := by decide +kernel
theorem tri_ne {a b i j : Int} (ha : 0 ≤ a ∧ a ≤ b ∧ b < 4) (hi : 0 ≤ i ∧ i ≤ j ∧ j < 4) (hne : ¬ (a = i ∧ b = j)) : 10 + tri (a * 4 + b).toNat ≠ 10 + tri (i * 4 + j).toNat := fun z => hne (by
  have := tri_inj ⟨a.toNat, by omega⟩ ⟨b.toNat, by omega⟩ ⟨i.toNat, by omega⟩ ⟨j.toNat, by omega⟩ (by simp only; omega) (by simp only; omega) (by
    simp only
    rw [show a.toNat * 4 + b.toNat = (a * 4 + b).toNat by omega, show i.toNat * 4 + j.toNat = (i * 4 + j).toNat by omega]
    omega)
  simp only [Fin.mk.injEq] at this
  omega)
theorem en_s {B B2 : Nat → Int} {J J2 L : Nat → Nat → Int64} {n i j : Int} (hn : n ≤ 4) (hij : 0 ≤ i ∧ i ≤ j ∧ j < n) (h : ENp B J L n i j) (hb : ∀ k, k ≠ 10 + tri (i * 4 + j).toNat → B2 k = B k) (hj : ∀ k, k ≠ 10 + tri (i * 4 + j).toNat → J2 k = J k) (he : ENT B2 J2 L n.toNat i j) : ENp B2 J2 L n i (j + 1) := fun a b h1 h2 h3 h4 => by
  by_cases e : a = i ∧ b = j
  · rw [e.1, e.2]
    exact he
  · have hne := tri_ne (a := a) (b := b) (i := i) (j := j) ⟨h1, h2, by omega⟩ ⟨hij.1, hij.2.1, by omega⟩ e
    have k := h a b h1 h2 h3 (by omega)
    unfold ENT at *
    rw [hb _ hne, hj _ hne]
    exact k
theorem en_r {B : Nat → Int} {J L : Nat → Nat → Int64} {n i j : Int} (hj : j = n) (h : ENp B J L n i j) : ENp B J L n (i + 1) (i + 1) := fun a b h1 h2 h3 h4 => h a b h1 h2 h3 (by omega)
def ENs (B : Nat → Int) (J L : Nat → Nat → Int64) (n : Int) : Prop := ∀ a b : Int, 0 ≤ a → a < n → 0 ≤ b → b < n → ENT B J L n.toNat a b
theorem en_all {B : Nat → Int} {J L : Nat → Nat → Int64} {n i : Int} (hn : n ≤ 4) (hi : i = n) (h : ENp B J L n i i) : ENs B J L n := fun a b h1 h2 h3 h4 => by
  by_cases e : a ≤ b
  · exact h a b h1 e h4 (by omega)
  · have k := h b a h3 (by omega) h2 (by omega)
    have s := tri_sym ⟨a.toNat, by omega⟩ ⟨b.toNat, by omega⟩
    simp only at s
    rw [show a.toNat * 4 + b.toNat = (a * 4 + b).toNat by omega, show b.toNat * 4 + a.toNat = (b * 4 + a).toNat by omega] at s
    unfold ENT at *
    rw [s]
    refine ⟨k.1.tr (CG.ex (fun t => ?_)), k.2⟩
    unfold bzI
    rw [Nat.min_comm, Nat.max_comm]
theorem en_c {B B2 : Nat → Int} {J J2 L : Nat → Nat → Int64} {n : Int} (h : ENs B J L n) (hb : ∀ k, 10 ≤ k → k < 20 → B2 k = B k) (hj : ∀ k, 10 ≤ k → k < 20 → J2 k = J k) : ENs B2 J2 L n := fun a b h1 h2 h3 h4 => by
  have k := h a b h1 h2 h3 h4
  have t := tri_lt (a * 4 + b).toNat
  unfold ENT at *
  rw [hb _ (by omega) (by omega), hj _ (by omega) (by omega)]
  exact k
/-- the minors -/
def BzE (L : Nat → Nat → Int64) (n : Nat) (r c : Nat) (t : Int) : Int := bzI (fX (ti (L 3)) (ti (L 5)) t) (fY (ti (L 4)) (ti (L 5)) t) n r c
def MIN (B : Nat → Int) (J L : Nat → Nat → Int64) (n s : Int) : Prop := CG (pw ixs (J (20 + s.toNat)) 28) (Sx (BzE L n.toNat) n.toNat s.toNat) ∧ PZ (J (20 + s.toNat)) (B (20 + s.toNat)) ∧ B (20 + s.toNat) ≤ pc8 s.toNat
def MNs (B : Nat → Int) (J L : Nat → Nat → Int64) (n col : Int) : Prop := ∀ s : Int, 0 ≤ s → s < col → MIN B J L n s
theorem mn_k {B B2 : Nat → Int} {J J2 L : Nat → Nat → Int64} {n col : Int} (h0 : 0 ≤ col) (h : MNs B J L n col) (hb : ∀ k, k ≠ 20 + col.toNat → B2 k = B k) (hj : ∀ k, k ≠ 20 + col.toNat → J2 k = J k) (hm : MIN B2 J2 L n col) : MNs B2 J2 L n (col + 1) := fun s a b => by
  by_cases e : s = col
  · rw [e]
    exact hm
  · have k := h s a (by omega)
    unfold MIN at *
    rw [hb _ (by omega), hj _ (by omega)]
    exact k
theorem mn_k0 {B : Nat → Int} {J J' L : Nat → Nat → Int64} {n : Int} {f : Nat → Int64} (h0 : ∀ q : Int, 0 ≤ q → q < 28 → f q.toNat = 0) (e : J' (20 + 0) = vp_updL f (0 : Int).toNat 1) (hb : B (20 + 0) = 0) : MNs B J' L n 1 := fun s a b => by
  have : s = 0 := by omega
  subst this
  unfold MIN
  show CG (pw ixs (J' (20 + 0)) 28) _ ∧ PZ (J' (20 + 0)) (B (20 + 0)) ∧ B (20 + 0) ≤ _
  rw [e, hb]
  refine ⟨CG.ex (fun t => ?_), fun q h1 h2 => ?_, by decide⟩
  · rw [show (0 : Int).toNat = 0 from rfl, pw_up 28 (by decide), pl_z h0, show f 0 = 0 from h0 0 (by decide) (by decide)]
    show 0 + ((1 : Int64).toInt - (0 : Int64).toInt) * t ^ 0 = 1
    rw [Int.pow_zero]
    rfl
  · have : sl (0 + 1) = 1 := rfl
    rw [up_at (by decide) (by omega), if_neg (by omega)]
    exact h0 q (by omega) h2
theorem zL_sg {sg : Int} (h : -1 ≤ sg ∧ sg ≤ 1) : (zL sg).toInt = sg := zL_toInt (by omega) (by omega)
/-- one column more -/
theorem mc_col {m m' e s : Nat → Int64} {L : Nat → Nat → Int64} {n : Int} {col t cn : Int} {sg : Int} (hn : 1 ≤ n ∧ n ≤ 4) (hc : 0 ≤ cn ∧ cn ≤ n - 1) (hsb : -1 ≤ sg ∧ sg ≤ 1) (hp : (pc8 t.toNat : Int) + 1 = pc8 col.toNat) (hb : col.toNat / 2 ^ cn.toNat % 2 = 1) (et : t.toNat = col.toNat - 2 ^ cn.toNat) (hsg : sg = dsg col.toNat n.toNat (n - 1 - cn).toNat) (he : CG (pw ixs e 28) (fun z => bzI (fX (ti (L 3)) (ti (L 5)) z) (fY (ti (L 4)) (ti (L 5)) z) n.toNat (pc8 col.toNat - 1) cn.toNat)) (hs : CG (pw ixs s 28) (Sx (BzE L n.toNat) n.toNat t.toNat)) (h1 : CG (pw ixs m 28) (Cx (BzE L n.toNat) n.toNat col.toNat (n - 1 - cn).toNat)) (h2 : CG (pw ixs m' 28) (fun z => pw ixs m 28 z + (zL sg).toInt * pw ixs e 28 z * pw ixs s 28 z)) : CG (pw ixs m' 28) (Cx (BzE L n.toNat) n.toNat col.toNat (n - 1 - (cn + -1)).toNat) ∧ -sg = dsg col.toNat n.toNat (n - 1 - (cn + -1)).toNat := by
  have em : (n - 1 - (cn + -1)).toNat = (n - 1 - cn).toNat + 1 := by omega
  have ec : cn.toNat = n.toNat - 1 - (n - 1 - cn).toNat := by omega
  refine ⟨?_, by rw [em, dsg_1 ec hb, hsg]⟩
  have c1 : CG (fun z => (zL sg).toInt * pw ixs e 28 z * pw ixs s 28 z) (fun z => sg * BzE L n.toNat (pc8 col.toNat - 1) cn.toNat z * pw ixs s 28 z) := CG.mr (Pf_pw ixs s 28) ((CG.ml (Pf.con (zL sg).toInt) he).tr (CG.ex (fun z => by rw [zL_sg hsb]; rfl)))
  have c2 : CG (fun z => sg * BzE L n.toNat (pc8 col.toNat - 1) cn.toNat z * pw ixs s 28 z) (fun z => sg * BzE L n.toNat (pc8 col.toNat - 1) cn.toNat z * Sx (BzE L n.toNat) n.toNat t.toNat z) := CG.ml ((Pf.con sg).mul (Pf_bz _ _ _ _ _ _)) hs
  refine h2.tr ((h1.ad (c1.tr c2)).tr (CG.ex (fun z => ?_)))
  rw [em, Cx_1 ec hb (by rw [← et]; omega), et, hsg]
  grind
theorem mc_col0 {m : Nat → Int64} {En : Nat → Nat → Int → Int} {n : Int} {col cn : Int} {sg : Int} (hn : 1 ≤ n ∧ n ≤ 4) (hc : 0 ≤ cn ∧ cn ≤ n - 1) (hb : ¬ col.toNat / 2 ^ cn.toNat % 2 = 1) (hsg : sg = dsg col.toNat n.toNat (n - 1 - cn).toNat) (h1 : CG (pw ixs m 28) (Cx En n.toNat col.toNat (n - 1 - cn).toNat)) : CG (pw ixs m 28) (Cx En n.toNat col.toNat (n - 1 - (cn + -1)).toNat) ∧ sg = dsg col.toNat n.toNat (n - 1 - (cn + -1)).toNat := by
  have em : (n - 1 - (cn + -1)).toNat = (n - 1 - cn).toNat + 1 := by omega
  have ec : cn.toNat = n.toNat - 1 - (n - 1 - cn).toNat := by omega
  exact ⟨h1.tr (CG.ex (fun t => by rw [em, Cx_2 ec hb])), by rw [em, dsg_2 ec hb, hsg]⟩
theorem mc_e0 {f : Nat → Int64} {En : Nat → Nat → Int → Int} {n col : Nat} (h : ∀ q : Int, 0 ≤ q → q < 28 → f q.toNat = 0) : CG (pw ixs f 28) (Cx En n col 0) := CG.ex (fun t => by rw [pl_z h]; rfl)
theorem sg2_e {n : Nat} : sg2 n = 1 ∨ sg2 n = -1 := by
  unfold sg2
  split
  · exact Or.inr rfl
  · exact Or.inr rfl
  · exact Or.inl rfl
def REp (f : Nat → Int64) (L : Nat → Nat → Int64) (n : Int) : Prop := CG (pw ixs f 28) (fun t => sg2 n.toNat * Fz n.toNat (ti (L 3)) (ti (L 4)) (ti (L 5)) (t7 t) t 1)
theorem re_end {B : Nat → Int} {J L : Nat → Nat → Int64} {n q : Int} (hn : 1 ≤ n ∧ n ≤ 4) (hq : q = ((2 ^ n.toNat : Nat) : Int)) (h : MNs B J L n q) : REp (J (20 + (q - 1).toNat)) L n ∧ PZ (J (20 + (q - 1).toNat)) (B (20 + (q - 1).toNat)) := by
  have hpos := Nat.two_pow_pos n.toNat
  have k := h (q - 1) (by omega) (by omega)
  refine ⟨k.1.tr (CG.ex (fun t => ?_)), k.2.1⟩
  have e3 : (q - 1).toNat = 2 ^ n.toNat - 1 := by omega
  have hp : pc8 (2 ^ n.toNat - 1) = n.toNat := by
    have : n.toNat = 1 ∨ n.toNat = 2 ∨ n.toNat = 3 ∨ n.toNat = 4 := by omega
    rcases this with e | e | e | e <;> rw [e] <;> decide
  unfold Sx
  rw [e3, hp]
  show dI (bzI (fX (ti (L 3)) (ti (L 5)) t) (fY (ti (L 4)) (ti (L 5)) t) n.toNat) n.toNat n.toNat (2 ^ n.toNat - 1) = _
  rw [bz_F _ _ (by omega) (by omega), Fq_Fz (by omega) (by omega)]
theorem sh4y {n : Int} (h0 : 1 ≤ n) (h1 : n ≤ 4) : ∃ T : Int, zI 1 <<< (zI n &&& 31) = zI T ∧ 2 ≤ T ∧ T ≤ 16 ∧ T = ((2 ^ n.toNat : Nat) : Int) := by
  have h : n = 1 ∨ n = 2 ∨ n = 3 ∨ n = 4 := by omega
  rcases h with rfl | rfl | rfl | rfl
  · exact ⟨2, by decide, by decide, by decide, by decide⟩
  · exact ⟨4, by decide, by decide, by decide, by decide⟩
  · exact ⟨8, by decide, by decide, by decide, by decide⟩
  · exact ⟨16, by decide, by decide, by decide, by decide⟩
def BIG (f : Nat → Int64) : Prop := ∃ q : Int, 1 ≤ q ∧ q < 28 ∧ f q.toNat ≠ 0
theorem big_b {f : Nat → Int64} {b : Int} (hb : 0 ≤ b ∧ b ≤ 6) (hz : PZ f b) (h : b = 0 ∨ ¬ deg0 f b) : (b < 1 → ¬ BIG f) ∧ (1 ≤ b → BIG f) := by
  constructor
  · rintro h1 ⟨q, q1, q2, q3⟩
    have : b = 0 := by omega
    subst this
    exact q3 (hz q (by have : sl (0 + 1) = 1 := rfl; omega) q2)
  · intro h1
    have hd := h.resolve_left (by omega)
    apply Classical.byContradiction
    intro z
    apply hd
    intro j j1 j2
    have s1 := sl_b (d := b) hb
    have s2 := sl_mono (a := 1) (b := b) (by decide) h1 (by omega)
    have s3 : sl 1 = 1 := rfl
    exact Classical.byContradiction fun y => z ⟨sl b + j, by omega, by omega, y⟩
theorem big_c {f g : Nat → Int64} (h : ∀ q : Int, 0 ≤ q → q < 28 → f q.toNat = g q.toNat) : BIG f ↔ BIG g := by
  constructor
  · rintro ⟨q, a, b, c⟩
    exact ⟨q, a, b, by rw [← h q (by omega) b]; exact c⟩
  · rintro ⟨q, a, b, c⟩
    exact ⟨q, a, b, by rw [h q (by omega) b]; exact c⟩
