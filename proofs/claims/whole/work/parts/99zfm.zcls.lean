/-! the class's eliminant of any two rows of lines -/
def MVz (B : Nat → Int) (J : Nat → Nat → Int64) (f g : Int → Nat → Int) (i : Int) : Prop := ∀ q : Int, 0 ≤ q → q < i → (B q.toNat = 1 ∧ PZ (J q.toNat) 1 ∧ ∀ t, pw ixs (J q.toNat) 28 t = f t q.toNat) ∧ (B (5 + q.toNat) = 1 ∧ PZ (J (5 + q.toNat)) 1 ∧ ∀ t, pw ixs (J (5 + q.toNat)) 28 t = g t q.toNat)
theorem mvz_0 {B : Nat → Int} {J : Nat → Nat → Int64} {f g : Int → Nat → Int} : MVz B J f g 0 := fun q a b => by omega
theorem mvz_s {B B1 B2 : Nat → Int} {J J1 J2 : Nat → Nat → Int64} {f g : Int → Nat → Int} {i : Int} (hi : 0 ≤ i ∧ i ≤ 4) (h : MVz B J f g i) (b1 : ∀ j, j ≠ i.toNat → B1 j = B j) (j1 : ∀ j, j ≠ i.toNat → J1 j = J j) (c1 : B1 i.toNat = 1) (d1 : PZ (J1 i.toNat) 1 ∧ ∀ t, pw ixs (J1 i.toNat) 28 t = f t i.toNat) (b2 : ∀ j, j ≠ 5 + i.toNat → B2 j = B1 j) (j2 : ∀ j, j ≠ 5 + i.toNat → J2 j = J1 j) (c2 : B2 (5 + i.toNat) = 1) (d2 : PZ (J2 (5 + i.toNat)) 1 ∧ ∀ t, pw ixs (J2 (5 + i.toNat)) 28 t = g t i.toNat) : MVz B2 J2 f g (i + 1) := fun q a b => by
  by_cases e : q = i
  · rw [e, b2 _ (by omega), j2 _ (by omega)]
    exact ⟨⟨c1, d1⟩, c2, d2⟩
  · rw [b2 _ (by omega), j2 _ (by omega), b1 _ (by omega), j1 _ (by omega), b2 _ (by omega), j2 _ (by omega), b1 _ (by omega), j1 _ (by omega)]
    exact h q a (by omega)
theorem mvz_c {B B1 : Nat → Int} {J J1 : Nat → Nat → Int64} {f g : Int → Nat → Int} {i : Int} (hi : i ≤ 5) (h : MVz B J f g i) (hb : ∀ k, k < 10 → B1 k = B k) (hj : ∀ k, k < 10 → J1 k = J k) : MVz B1 J1 f g i := fun q x y => by
  rw [hb _ (by omega), hj _ (by omega), hb _ (by omega), hj _ (by omega)]
  exact h q x y
theorem Pf_bz_s {f g : Int → Nat → Int} (hf : ∀ k, Pf (fun t => f t k)) (hg : ∀ k, Pf (fun t => g t k)) (lo hi : Nat) : ∀ k, Pf (fun t => bzs (f t) (g t) lo hi k)
  | 0 => Pf.con 0
  | k + 1 => (Pf_bz_s hf hg lo hi k).add (((hf _).mul (hg _)).sub ((hf _).mul (hg _)))
theorem Pf_bzz {f g : Int → Nat → Int} (hf : ∀ k, Pf (fun t => f t k)) (hg : ∀ k, Pf (fun t => g t k)) (n i j : Nat) : Pf (fun t => bzI (f t) (g t) n i j) := Pf_bz_s hf hg _ _ _
def ENTz (B : Nat → Int) (J : Nat → Nat → Int64) (f g : Int → Nat → Int) (n : Nat) (a b : Int) : Prop := CG (pw ixs (J (10 + tri (a * 4 + b).toNat)) 28) (fun t => bzI (f t) (g t) n a.toNat b.toNat) ∧ PZ (J (10 + tri (a * 4 + b).toNat)) (B (10 + tri (a * 4 + b).toNat)) ∧ B (10 + tri (a * 4 + b).toNat) ≤ 2
def ENpz (B : Nat → Int) (J : Nat → Nat → Int64) (f g : Int → Nat → Int) (n i j : Int) : Prop := ∀ a b : Int, 0 ≤ a → a ≤ b → b < n → (a < i ∨ (a = i ∧ b < j)) → ENTz B J f g n.toNat a b
theorem en_sz {B B2 : Nat → Int} {J J2 : Nat → Nat → Int64} {f g : Int → Nat → Int} {n i j : Int} (hn : n ≤ 4) (hij : 0 ≤ i ∧ i ≤ j ∧ j < n) (h : ENpz B J f g n i j) (hb : ∀ k, k ≠ 10 + tri (i * 4 + j).toNat → B2 k = B k) (hj : ∀ k, k ≠ 10 + tri (i * 4 + j).toNat → J2 k = J k) (he : ENTz B2 J2 f g n.toNat i j) : ENpz B2 J2 f g n i (j + 1) := fun a b h1 h2 h3 h4 => by
  by_cases e : a = i ∧ b = j
  · rw [e.1, e.2]
    exact he
  · have hne := tri_ne (a := a) (b := b) (i := i) (j := j) ⟨h1, h2, by omega⟩ ⟨hij.1, hij.2.1, by omega⟩ e
    have k := h a b h1 h2 h3 (by omega)
    unfold ENTz at *
    rw [hb _ hne, hj _ hne]
    exact k
theorem en_rz {B : Nat → Int} {J : Nat → Nat → Int64} {f g : Int → Nat → Int} {n i j : Int} (hj : j = n) (h : ENpz B J f g n i j) : ENpz B J f g n (i + 1) (i + 1) := fun a b h1 h2 h3 h4 => h a b h1 h2 h3 (by omega)
def ENsz (B : Nat → Int) (J : Nat → Nat → Int64) (f g : Int → Nat → Int) (n : Int) : Prop := ∀ a b : Int, 0 ≤ a → a < n → 0 ≤ b → b < n → ENTz B J f g n.toNat a b
theorem en_allz {B : Nat → Int} {J : Nat → Nat → Int64} {f g : Int → Nat → Int} {n i : Int} (hn : n ≤ 4) (hi : i = n) (h : ENpz B J f g n i i) : ENsz B J f g n := fun a b h1 h2 h3 h4 => by
  by_cases e : a ≤ b
  · exact h a b h1 e h4 (by omega)
  · have k := h b a h3 (by omega) h2 (by omega)
    have s := tri_sym ⟨a.toNat, by omega⟩ ⟨b.toNat, by omega⟩
    simp only at s
    rw [show a.toNat * 4 + b.toNat = (a * 4 + b).toNat by omega, show b.toNat * 4 + a.toNat = (b * 4 + a).toNat by omega] at s
    unfold ENTz at *
    rw [s]
    refine ⟨k.1.tr (CG.ex (fun t => ?_)), k.2⟩
    unfold bzI
    rw [Nat.min_comm, Nat.max_comm]
theorem en_cz {B B2 : Nat → Int} {J J2 : Nat → Nat → Int64} {f g : Int → Nat → Int} {n : Int} (h : ENsz B J f g n) (hb : ∀ k, 10 ≤ k → k < 20 → B2 k = B k) (hj : ∀ k, 10 ≤ k → k < 20 → J2 k = J k) : ENsz B2 J2 f g n := fun a b h1 h2 h3 h4 => by
  have k := h a b h1 h2 h3 h4
  have t := tri_lt (a * 4 + b).toNat
  unfold ENTz at *
  rw [hb _ (by omega) (by omega), hj _ (by omega) (by omega)]
  exact k
def BzEz (f g : Int → Nat → Int) (n : Nat) (r c : Nat) (t : Int) : Int := bzI (f t) (g t) n r c
def MINz (B : Nat → Int) (J : Nat → Nat → Int64) (f g : Int → Nat → Int) (n s : Int) : Prop := CG (pw ixs (J (20 + s.toNat)) 28) (Sx (BzEz f g n.toNat) n.toNat s.toNat) ∧ PZ (J (20 + s.toNat)) (B (20 + s.toNat)) ∧ B (20 + s.toNat) ≤ 2 * (pc8 s.toNat : Int)
def MNsz (B : Nat → Int) (J : Nat → Nat → Int64) (f g : Int → Nat → Int) (n col : Int) : Prop := ∀ s : Int, 0 ≤ s → s < col → MINz B J f g n s
theorem mn_kz {B B2 : Nat → Int} {J J2 : Nat → Nat → Int64} {f g : Int → Nat → Int} {n col : Int} (h0 : 0 ≤ col) (h : MNsz B J f g n col) (hb : ∀ k, k ≠ 20 + col.toNat → B2 k = B k) (hj : ∀ k, k ≠ 20 + col.toNat → J2 k = J k) (hm : MINz B2 J2 f g n col) : MNsz B2 J2 f g n (col + 1) := fun s a b => by
  by_cases e : s = col
  · rw [e]
    exact hm
  · have k := h s a (by omega)
    unfold MINz at *
    rw [hb _ (by omega), hj _ (by omega)]
    exact k
theorem mn_k0z {B : Nat → Int} {J J' : Nat → Nat → Int64} {f g : Int → Nat → Int} {n : Int} {w0 : Nat → Int64} (h0 : ∀ q : Int, 0 ≤ q → q < 28 → w0 q.toNat = 0) (e : J' (20 + 0) = vp_updL w0 (0 : Int).toNat 1) (hb : B (20 + 0) = 0) : MNsz B J' f g n 1 := fun s a b => by
  have : s = 0 := by omega
  subst this
  unfold MINz
  show CG (pw ixs (J' (20 + 0)) 28) _ ∧ PZ (J' (20 + 0)) (B (20 + 0)) ∧ B (20 + 0) ≤ _
  rw [e, hb]
  refine ⟨CG.ex (fun t => ?_), fun q h1 h2 => ?_, by decide⟩
  · rw [show (0 : Int).toNat = 0 from rfl, pw_up 28 (by decide), pl_z h0, show w0 0 = 0 from h0 0 (by decide) (by decide)]
    show 0 + ((1 : Int64).toInt - (0 : Int64).toInt) * t ^ 0 = 1
    rw [Int.pow_zero]
    rfl
  · have : sl (0 + 1) = 1 := rfl
    rw [up_at (by decide) (by omega), if_neg (by omega)]
    exact h0 q (by omega) h2
theorem mc_colz {m m' e s : Nat → Int64} {f g : Int → Nat → Int} {n : Int} {col t cn : Int} {sg : Int} (pf_ : ∀ k, Pf (fun t => f t k)) (pg_ : ∀ k, Pf (fun t => g t k)) (hn : 1 ≤ n ∧ n ≤ 4) (hc : 0 ≤ cn ∧ cn ≤ n - 1) (hsb : -1 ≤ sg ∧ sg ≤ 1) (hp : (pc8 t.toNat : Int) + 1 = pc8 col.toNat) (hb : col.toNat / 2 ^ cn.toNat % 2 = 1) (et : t.toNat = col.toNat - 2 ^ cn.toNat) (hsg : sg = dsg col.toNat n.toNat (n - 1 - cn).toNat) (he : CG (pw ixs e 28) (fun z => bzI (f z) (g z) n.toNat (pc8 col.toNat - 1) cn.toNat)) (hs : CG (pw ixs s 28) (Sx (BzEz f g n.toNat) n.toNat t.toNat)) (h1 : CG (pw ixs m 28) (Cx (BzEz f g n.toNat) n.toNat col.toNat (n - 1 - cn).toNat)) (h2 : CG (pw ixs m' 28) (fun z => pw ixs m 28 z + (zL sg).toInt * pw ixs e 28 z * pw ixs s 28 z)) : CG (pw ixs m' 28) (Cx (BzEz f g n.toNat) n.toNat col.toNat (n - 1 - (cn + -1)).toNat) ∧ -sg = dsg col.toNat n.toNat (n - 1 - (cn + -1)).toNat := by
  have em : (n - 1 - (cn + -1)).toNat = (n - 1 - cn).toNat + 1 := by omega
  have ec : cn.toNat = n.toNat - 1 - (n - 1 - cn).toNat := by omega
  refine ⟨?_, by rw [em, dsg_1 ec hb, hsg]⟩
  have c1 : CG (fun z => (zL sg).toInt * pw ixs e 28 z * pw ixs s 28 z) (fun z => sg * BzEz f g n.toNat (pc8 col.toNat - 1) cn.toNat z * pw ixs s 28 z) := CG.mr (Pf_pw ixs s 28) ((CG.ml (Pf.con (zL sg).toInt) he).tr (CG.ex (fun z => by rw [zL_sg hsb]; rfl)))
  have c2 : CG (fun z => sg * BzEz f g n.toNat (pc8 col.toNat - 1) cn.toNat z * pw ixs s 28 z) (fun z => sg * BzEz f g n.toNat (pc8 col.toNat - 1) cn.toNat z * Sx (BzEz f g n.toNat) n.toNat t.toNat z) := CG.ml ((Pf.con sg).mul (Pf_bzz pf_ pg_ _ _ _)) hs
  refine h2.tr ((h1.ad (c1.tr c2)).tr (CG.ex (fun z => ?_)))
  rw [em, Cx_1 ec hb (by rw [← et]; omega), et, hsg]
  grind
def REpz (w : Nat → Int64) (f g : Int → Nat → Int) (n : Int) : Prop := CG (pw ixs w 28) (fun t => sg2 n.toNat * Fq (f t) (g t) n.toNat)
theorem re_endz {B : Nat → Int} {J : Nat → Nat → Int64} {f g : Int → Nat → Int} {n q : Int} (hn : 1 ≤ n ∧ n ≤ 4) (hq : q = ((2 ^ n.toNat : Nat) : Int)) (h : MNsz B J f g n q) : REpz (J (20 + (q - 1).toNat)) f g n ∧ PZ (J (20 + (q - 1).toNat)) (B (20 + (q - 1).toNat)) := by
  have hpos := Nat.two_pow_pos n.toNat
  have k := h (q - 1) (by omega) (by omega)
  refine ⟨k.1.tr (CG.ex (fun t => ?_)), k.2.1⟩
  have e3 : (q - 1).toNat = 2 ^ n.toNat - 1 := by omega
  have hp : pc8 (2 ^ n.toNat - 1) = n.toNat := by
    have : n.toNat = 1 ∨ n.toNat = 2 ∨ n.toNat = 3 ∨ n.toNat = 4 := by omega
    rcases this with e | e | e | e <;> rw [e] <;> decide
  unfold Sx
  rw [e3, hp]
  show dI (bzI (f t) (g t) n.toNat) n.toNat n.toNat (2 ^ n.toNat - 1) = _
  rw [bz_F _ _ (by omega) (by omega)]
/-- the lines of the class -/
def zL3 (L : Nat → Nat → Int64) (t : Int) : Nat → Int := zf (ti (L 0)) (ti (L 1)) (ti (L 2)) (t7 t) t 1
theorem Pf_z3 (L : Nat → Nat → Int64) (k : Nat) : Pf (fun t => zL3 L t k) := ((Pf_t7.mul (Pf.con (ti (L 0) k))).add (Pf.var.mul (Pf.con (ti (L 1) k)))).add ((Pf.con 1).mul (Pf.con (ti (L 2) k)))
theorem Pf_za (L : Nat → Nat → Int64) (k : Nat) : Pf (fun t => dva (zL3 L t) k) := (Pf.con _).mul (Pf_z3 L (k + 1))
theorem Pf_zb (L : Nat → Nat → Int64) (N k : Nat) : Pf (fun t => dvn N (zL3 L t) k) := (Pf.con _).mul (Pf_z3 L k)
theorem ln_sc {L : Nat → Nat → Int64} {p : Nat → Int64} {s : Int} {i : Nat} (hb : bL L) (hs : 0 ≤ s ∧ s ≤ 4) (hi : i < 5) (h : LNp p (zL s * L 0 i) (zL s * L 1 i) (zL s * L 2 i)) : PZ p 1 ∧ ∀ t, pw ixs p 28 t = s * zL3 L t i := by
  refine ⟨LN_z h, fun t => ?_⟩
  have k : ∀ a, a < 3 → (zL s * L a i).toInt = s * ti (L a) i := fun a ha => by
    have b := sm_mul hs (hb a ha i)
    refine cq_small (cq_mul (cq_zL s) ?_) (by omega) (by omega)
    rw [ti_lo _ hi]
    exact cq_rf _
  rw [LN_e h, k 0 (by decide), k 1 (by decide), k 2 (by decide)]
  show _ = s * (t7 t * ti (L 0) i + t * ti (L 1) i + 1 * ti (L 2) i)
  grind
theorem mv_l {L : Nat → Nat → Int64} {p : Nat → Int64} {i : Int} (hb : bL L) (hi : 0 ≤ i ∧ i ≤ 3) (h : LNp p (zL (i + 1) * L 0 (i + 1).toNat) (zL (i + 1) * L 1 (i + 1).toNat) (zL (i + 1) * L 2 (i + 1).toNat)) : PZ p 1 ∧ ∀ t, pw ixs p 28 t = dva (zL3 L t) i.toNat := by
  obtain ⟨h1, h2⟩ := ln_sc hb (by omega) (by omega) h
  refine ⟨h1, fun t => ?_⟩
  rw [h2 t]
  unfold dva
  rw [show (i + 1).toNat = i.toNat + 1 by omega, show ((i.toNat : Int) + 1) = i + 1 by omega]
theorem mv_r {L : Nat → Nat → Int64} {p : Nat → Int64} {i n : Int} (hb : bL L) (hi : 0 ≤ i ∧ i ≤ n ∧ n ≤ 4) (h : LNp p (zL (n - i) * L 0 i.toNat) (zL (n - i) * L 1 i.toNat) (zL (n - i) * L 2 i.toNat)) : PZ p 1 ∧ ∀ t, pw ixs p 28 t = dvn n.toNat (zL3 L t) i.toNat := by
  obtain ⟨h1, h2⟩ := ln_sc hb (by omega) (by omega) h
  refine ⟨h1, fun t => ?_⟩
  rw [h2 t]
  unfold dvn
  rw [show ((n.toNat : Int) - (i.toNat : Int)) = n - i by omega]
/-- what the class knows of the envelope -/
def TKz (L : Nat → Nat → Int64) (sz : Int) : Prop := ∃ n : Int, HP L n ∧ ((n < 2 ∧ sz = 0) ∨ (2 ≤ n ∧ sz = n - 1))
def HEc (L : Nat → Nat → Int64) : Prop := ∃ n : Int, HP L n ∧ 2 ≤ n ∧ NCe n.toNat (ti (L 0)) (ti (L 1)) (ti (L 2))
def HFe (g : Int) (L : Nat → Nat → Int64) : Prop := (g = 1 ∧ HEc L) ∨ (g = 0 ∧ ¬ HEc L)
def LIe (G : Nat → Int) (L : Nat → Nat → Int64) : Prop := G 5 = 1 → HFe (G 6) L
theorem HEc_c {L M : Nat → Nat → Int64} (h : ∀ k, k < 3 → M k = L k) (hs : HEc L) : HEc M := by
  obtain ⟨n, hp, h2, nc⟩ := hs
  refine ⟨n, HP_c (fun a ha j _ _ => by rw [h a ha]) hp, h2, ?_⟩
  rw [h 0 (by decide), h 1 (by decide), h 2 (by decide)]
  exact nc
theorem HFe_c {g g' : Int} {L M : Nat → Nat → Int64} (hg : g' = g) (h : ∀ k, k < 3 → M k = L k) (hf : HFe g L) : HFe g' M := by
  rcases hf with ⟨h1, h2⟩ | ⟨h1, h2⟩
  · exact Or.inl ⟨by omega, HEc_c h h2⟩
  · exact Or.inr ⟨by omega, fun z => h2 (HEc_c (fun k hk => (h k hk).symm) z)⟩
theorem LIe_k {G G2 : Nat → Int} {L L2 : Nat → Nat → Int64} (h : LIe G L) (g5 : G2 5 = G 5) (g6 : G2 6 = G 6) (hl : ∀ k, k < 3 → L2 k = L k) : LIe G2 L2 := fun q => HFe_c g6 hl (h (by omega))
theorem lie_0 {G2 : Nat → Int} {L : Nat → Nat → Int64} {sz : Int} (ht : TKz L sz) (hs : sz ≤ 0) (hg : G2 6 = 0) : LIe G2 L := fun _ => Or.inr ⟨hg, fun ⟨n, hp, h2, _⟩ => by
  obtain ⟨m, hm, q⟩ := ht
  have := HP_uq hp hm
  omega⟩
theorem lie_1 {G2 : Nat → Int} {L : Nat → Nat → Int64} {w : Nat → Int64} {sz fz : Int} (ht : TKz L sz) (hs : 1 ≤ sz) (hr : REpz w (fun t => dva (zL3 L t)) (fun t => dvn (sz + 1).toNat (zL3 L t)) sz) (hz : (fz = 1 ∧ BIG w) ∨ (fz = 0 ∧ ¬ BIG w)) (hg : G2 6 = fz) : LIe G2 L := fun _ => by
  obtain ⟨m, hm, q⟩ := ht
  have em : m = sz + 1 := by omega
  have nc : BIG w ↔ NCe m.toNat (ti (L 0)) (ti (L 1)) (ti (L 2)) := nc_gp sg2_e (hr.tr (CG.ex (fun t => by
    rw [em]
    show _ = sg2 sz.toNat * Fq (dva (zL3 L t)) (dvn (sz + 1).toNat (zL3 L t)) ((sz + 1).toNat - 1)
    rw [show (sz + 1).toNat - 1 = sz.toNat by omega])))
  rcases hz with ⟨z, b⟩ | ⟨z, b⟩
  · exact Or.inl ⟨by omega, m, hm, by omega, nc.mp b⟩
  · refine Or.inr ⟨by omega, fun ⟨n, hp2, _, h5⟩ => b (nc.mpr ?_)⟩
    rw [← HP_uq hp2 hm]
    exact h5
/-- slopes of the class -/
theorem cs_u {L : Nat → Nat → Int64} {wh i u v tp : Int} {x ra rb : Int64} (hi : 1 ≤ i ∧ i ≤ tp) (ht : tp ≤ 4) (hx : cq x (hsm (dva (ti (L wh.toNat))) (tp - 1).toNat u v (i - 1).toNat)) (hra : ra = lpow (zL u) (i - 1).toNat) (hrb : rb = lpow (zL v) (tp - i).toNat) : cq (x + ((((zL i) * (L wh.toNat i.toNat)) * ra) * rb)) (hsm (dva (ti (L wh.toNat))) (tp - 1).toNat u v (i + 1 - 1).toNat) := by
  have k := sp_n (P := dva (ti (L wh.toNat))) (n := tp - 1) (k := i - 1) (al := x) (cc := zL i * L wh.toNat i.toNat) (ra := ra) (rb := rb) (u := u) (v := v) (by omega) hx (by
    unfold dva
    rw [show (i - 1).toNat + 1 = i.toNat by omega, ti_lo _ (show i.toNat < 5 by omega), show (((i - 1).toNat : Int) + 1) = i by omega]
    exact cq_mul (cq_zL i) (cq_rf _)) hra (by rw [hrb, show tp - 1 - (i - 1) = tp - i by omega])
  rw [show i - 1 + 1 = i + 1 - 1 by omega] at k
  exact k
theorem cs_v {L : Nat → Nat → Int64} {wh i u v tp : Int} {x ra rb : Int64} (hi : 0 ≤ i ∧ i < tp) (ht : tp ≤ 4) (hx : cq x (hsm (dvn tp.toNat (ti (L wh.toNat))) (tp - 1).toNat u v i.toNat)) (hra : ra = lpow (zL u) i.toNat) (hrb : rb = lpow (zL v) ((tp - 1) - i).toNat) : cq (x + ((((zL (tp - i)) * (L wh.toNat i.toNat)) * ra) * rb)) (hsm (dvn tp.toNat (ti (L wh.toNat))) (tp - 1).toNat u v (i + 1).toNat) := sp_n (P := dvn tp.toNat (ti (L wh.toNat))) (n := tp - 1) (by omega) hx (by
  unfold dvn
  rw [ti_lo _ (show i.toNat < 5 by omega), show ((tp.toNat : Int) - (i.toNat : Int)) = tp - i by omega]
  exact cq_mul (cq_zL _) (cq_rf _)) hra hrb
theorem cl_v {L : Nat → Nat → Int64} (hb : bL L) {a : Nat} (ha : a < 3) {N : Int} (hN : 1 ≤ N ∧ N ≤ 4) {u v : Int} (hu : -9 ≤ u ∧ u ≤ 9) (hv_ : -9 ≤ v ∧ v ≤ 9) {by_ : Int} {x : Int64} (h : cq x (hsm (pdv by_ N.toNat (ti (L a))) (N - 1).toNat u v N.toNat)) : x.toInt = hv (pdv by_ N.toNat (ti (L a))) (N.toNat - 1) u v ∧ x.toInt.natAbs ≤ 1148175 := by
  rw [show (N - 1).toNat = N.toNat - 1 by omega] at h
  have e : hsm (pdv by_ N.toNat (ti (L a))) (N.toNat - 1) u v N.toNat = hsm (pdv by_ N.toNat (ti (L a))) (N.toNat - 1) u v (N.toNat - 1 + 1) := by rw [show N.toNat - 1 + 1 = N.toNat by omega]
  rw [e] at h
  exact sp_e (pdv_b (hb a ha) (ti_hi _) (by omega)) hu hv_ (by omega) h
theorem tc_c {L : Nat → Nat → Int64} (hb : bL L) {N : Int} (hN : 1 ≤ N ∧ N ≤ 4) {u v : Int} (hp : -9 ≤ u ∧ u ≤ 9 ∧ -9 ≤ v ∧ v ≤ 9 ∧ ¬ (u = 0 ∧ v = 0)) {a b d e : Int64} (ha : cq a (hsm (dva (ti (L (0 : Int).toNat))) (N - 1).toNat u v N.toNat)) (hb_ : cq b (hsm (dva (ti (L (1 : Int).toNat))) (N - 1).toNat u v N.toNat)) (hd : cq d (hsm (dvn N.toNat (ti (L (0 : Int).toNat))) (N - 1).toNat u v N.toNat)) (he : cq e (hsm (dvn N.toNat (ti (L (1 : Int).toNat))) (N - 1).toNat u v N.toNat)) : (a * e - b * d).toInt = crs2 (ti (L 0)) (ti (L 1)) N.toNat u v := by
  have hu : -9 ≤ u ∧ u ≤ 9 := ⟨hp.1, hp.2.1⟩
  have hv_ : -9 ≤ v ∧ v ≤ 9 := ⟨hp.2.2.1, hp.2.2.2.1⟩
  obtain ⟨a1, a2⟩ := cl_v (by_ := 0) hb (by decide) hN hu hv_ ha
  obtain ⟨b1, b2⟩ := cl_v (by_ := 0) hb (by decide) hN hu hv_ hb_
  obtain ⟨d1, d2⟩ := cl_v (by_ := 1) hb (by decide) hN hu hv_ hd
  obtain ⟨e1, e2⟩ := cl_v (by_ := 1) hb (by decide) hN hu hv_ he
  have a1 : a.toInt = hv (dva (ti (L 0))) (N.toNat - 1) u v := a1
  have b1 : b.toInt = hv (dva (ti (L 1))) (N.toNat - 1) u v := b1
  have d1 : d.toInt = hv (dvn N.toNat (ti (L 0))) (N.toNat - 1) u v := d1
  have e1 : e.toInt = hv (dvn N.toNat (ti (L 1))) (N.toNat - 1) u v := e1
  rw [cr_s a2 e2 b2 d2]
  unfold crs2
  rw [← a1, ← b1, ← d1, ← e1]
def TCc (L : Nat → Nat → Int64) (u v z : Int) : Prop := ∃ n : Int, HP L n ∧ TCH (HEc L) (crs2 (ti (L 0)) (ti (L 1)) n.toNat u v) z
theorem tcc_0 {L : Nat → Nat → Int64} {u v : Int} (h : ¬ HEc L) {n : Int} (hp : HP L n) : TCc L u v (-2) := ⟨n, hp, fun q => absurd q.1 h, fun _ => rfl⟩
theorem HP_ex (L : Nat → Nat → Int64) : ∃ n : Int, HP L n := by
  have d : ∀ k : Nat, (L 0 k = 0 ∧ L 1 k = 0 ∧ L 2 k = 0) ∨ ¬ (L 0 k = 0 ∧ L 1 k = 0 ∧ L 2 k = 0) := fun k => Classical.em _
  rcases d 4 with h4 | h4
  · rcases d 3 with h3 | h3
    · rcases d 2 with h2 | h2
      · rcases d 1 with h1 | h1
        · exact ⟨0, ⟨by decide, by decide⟩, fun k a b => by
            have : k = 1 ∨ k = 2 ∨ k = 3 ∨ k = 4 := by omega
            rcases this with e | e | e | e <;> subst e <;> assumption, fun q => absurd q (by decide)⟩
        · exact ⟨1, ⟨by decide, by decide⟩, fun k a b => by
            have : k = 2 ∨ k = 3 ∨ k = 4 := by omega
            rcases this with e | e | e <;> subst e <;> assumption, fun _ => h1⟩
      · exact ⟨2, ⟨by decide, by decide⟩, fun k a b => by
          have : k = 3 ∨ k = 4 := by omega
          rcases this with e | e <;> subst e <;> assumption, fun _ => h2⟩
    · exact ⟨3, ⟨by decide, by decide⟩, fun k a b => by
        have : k = 4 := by omega
        subst this
        assumption, fun _ => h3⟩
  · exact ⟨4, ⟨by decide, by decide⟩, fun k a b => by omega, fun _ => h4⟩
theorem tc_no {G : Nat → Int} {L M : Nat → Nat → Int64} {u v : Int} (h : LIe G M) (h5 : G 5 = 1) (h6 : G 6 = 0) (hm : ∀ k, k < 3 → M k = L k) : TCc L u v (-2) := by
  obtain ⟨n, hp⟩ := HP_ex L
  refine tcc_0 (fun hh => ?_) hp
  rcases h h5 with ⟨a, _⟩ | ⟨_, b⟩
  · omega
  · exact b (HEc_c hm hh)
theorem tc_yes {G : Nat → Int} {L M : Nat → Nat → Int64} {u v n z : Int} {x : Int64} (h : LIe G M) (h5 : G 5 = 1) (h6 : ¬ G 6 = 0) (hm : ∀ k, k < 3 → M k = L k) (hp : HP M n) (hx : x.toInt = crs2 (ti (M 0)) (ti (M 1)) n.toNat u v) (hz : (¬ x = 0 ∧ z = 1) ∨ (x = 0 ∧ z = -2)) : TCc L u v z := by
  have hE : HEc L := by
    rcases h h5 with ⟨_, a⟩ | ⟨a, _⟩
    · exact HEc_c (fun k hk => (hm k hk).symm) a
    · exact absurd a h6
  refine ⟨n, HP_c (fun a ha j _ _ => by rw [hm a ha]) hp, ?_⟩
  rw [← hm 0 (by decide), ← hm 1 (by decide), ← hx]
  rcases hz with ⟨a, b⟩ | ⟨a, b⟩
  · exact ⟨fun _ => b, fun q => absurd ⟨hE, fun y => a (i64_z y)⟩ q⟩
  · exact ⟨fun q => absurd (i64_t0 a) q.2, fun _ => b⟩
theorem tp_2 {G : Nat → Int} {M : Nat → Nat → Int64} {n : Int} (h : LIe G M) (h5 : G 5 = 1) (h6 : ¬ G 6 = 0) (hp : HP M n) : 2 ≤ n := by
  rcases h h5 with ⟨_, m, hm, h2, _⟩ | ⟨a, _⟩
  · have := HP_uq hm hp
    omega
  · exact absurd a h6
/-- touches: both answer alike -/
theorem he_rel {L : Nat → Nat → Int64} {r : Nat → Int32} (h : rel L r) : (∀ a, a < 3 → ti (L a) = ti (rP r a)) ∧ HP L (moK r 5) := by
  have et : ∀ a, a < 3 → ti (L a) = ti (rP r a) := fun a ha => ti_ext (fun j x y => h.1 a ha j.toNat (by omega))
  refine ⟨et, ?_⟩
  obtain ⟨s1, s2, s3, s4⟩ := moK_spec r 5
  have e : ∀ k : Nat, k < 5 → (L 0 k = 0 ↔ r k = 0) ∧ (L 1 k = 0 ↔ r (5 + k) = 0) ∧ (L 2 k = 0 ↔ r (10 + k) = 0) := fun k hk => by
    have a0 := h.1 0 (by decide) k hk
    have a1 := h.1 1 (by decide) k hk
    have a2 := h.1 2 (by decide) k hk
    rw [show 5 * 0 + k = k by omega] at a0
    rw [a0, a1, a2]
    exact ⟨i64_0, i64_0, i64_0⟩
  refine ⟨⟨s3, by omega⟩, fun k h1 h2 => ?_, fun h0 => ?_⟩
  · obtain ⟨b0, b1, b2⟩ := s1 k.toNat (by omega) (by omega)
    obtain ⟨e0, e1, e2⟩ := e k.toNat (by omega)
    exact ⟨e0.mpr b0, e1.mpr b1, e2.mpr b2⟩
  · obtain ⟨e0, e1, e2⟩ := e (moK r 5).toNat (by omega)
    exact fun q => s2 h0 ⟨e0.mp q.1, e1.mp q.2.1, e2.mp q.2.2⟩
theorem touches_rel {L : Nat → Nat → Int64} {r : Nat → Int32} {u v x y : Int} (h : rel L r) (c0 : ¬ (-9 ≤ u ∧ u ≤ 9 ∧ -9 ≤ v ∧ v ≤ 9 ∧ ¬ (u = 0 ∧ v = 0)) → x = -1) (c1 : (-9 ≤ u ∧ u ≤ 9 ∧ -9 ≤ v ∧ v ≤ 9 ∧ ¬ (u = 0 ∧ v = 0)) → TCc L u v x) (m0 : ¬ (-9 ≤ u ∧ u ≤ 9 ∧ -9 ≤ v ∧ v ≤ 9 ∧ ¬ (u = 0 ∧ v = 0)) → y = -1) (m1 : (-9 ≤ u ∧ u ≤ 9 ∧ -9 ≤ v ∧ v ≤ 9 ∧ ¬ (u = 0 ∧ v = 0)) → TCH (HE r) (crs2 (ti (rP r 0)) (ti (rP r 1)) (moK r 5).toNat u v) y) : zI x = zI y := by
  congr 1
  by_cases q : -9 ≤ u ∧ u ≤ 9 ∧ -9 ≤ v ∧ v ≤ 9 ∧ ¬ (u = 0 ∧ v = 0)
  · obtain ⟨et, hp⟩ := he_rel h
    obtain ⟨n, hn, hc⟩ := c1 q
    have hm := m1 q
    have en := HP_uq hn hp
    have hh : HEc L ↔ HE r := by
      constructor
      · rintro ⟨k, a1, a2, a3⟩
        have ek := HP_uq a1 hp
        rw [ek] at a2 a3
        rw [et 0 (by decide), et 1 (by decide), et 2 (by decide)] at a3
        exact ⟨a2, a3⟩
      · rintro ⟨a2, a3⟩
        refine ⟨moK r 5, hp, a2, ?_⟩
        rw [et 0 (by decide), et 1 (by decide), et 2 (by decide)]
        exact a3
    rw [en, et 0 (by decide), et 1 (by decide)] at hc
    by_cases k : HE r ∧ crs2 (ti (rP r 0)) (ti (rP r 1)) (moK r 5).toNat u v ≠ 0
    · rw [hc.1 ⟨hh.mpr k.1, k.2⟩, hm.1 k]
    · rw [hc.2 (fun z => k ⟨hh.mp z.1, z.2⟩), hm.2 k]
  · rw [c0 q, m0 q]
