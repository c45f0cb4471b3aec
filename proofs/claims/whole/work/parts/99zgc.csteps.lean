/-! the class's search, step by step -/
def RAI (m r : Nat → Int64) (k : Nat) : Prop := CG (pw ixs m 28) (fun z => pw ixs r 28 z ^ k)
theorem pw_cc {f g : Nat → Int64} (h : ∀ q : Int, 0 ≤ q → q < 28 → f q.toNat = g q.toNat) (t : Int) : pw ixs f 28 t = pw ixs g 28 t := pw_c 28 (fun i hi => by
  have := h (i : Nat) (by omega) (by omega)
  rw [Int.toNat_natCast] at this
  exact this) t
theorem rai_1 {f g : Nat → Int64} (h : ∀ q : Int, 0 ≤ q → q < 28 → f q.toNat = g q.toNat) : RAI f g (1 : Int).toNat := CG.ex (fun t => by
  show _ = pw ixs g 28 t ^ 1
  rw [Int.pow_succ, Int.pow_zero, Int.one_mul, pw_cc h t])
theorem rai_s {m r r' s e c : Nat → Int64} {i : Int} (hi : 0 ≤ i) (h : RAI m r i.toNat) (hr : r' = r) (he : ∀ q : Int, 0 ≤ q → q < 28 → e q.toNat = 0) (hs : CG (pw ixs s 28) (fun z => pw ixs e 28 z + (1 : Int64).toInt * pw ixs m 28 z * pw ixs r' 28 z)) (hc : ∀ q : Int, 0 ≤ q → q < 28 → c q.toNat = s q.toNat) : RAI c r (i + 1).toNat := by
  rw [hr] at hs
  have h1 : CG (fun t => pw ixs m 28 t * pw ixs r 28 t) (fun t => pw ixs r 28 t ^ i.toNat * pw ixs r 28 t) := CG.mr (Pf_pw ixs r 28) h
  have h2 : CG (fun z => pw ixs e 28 z + (1 : Int64).toInt * pw ixs m 28 z * pw ixs r 28 z) (fun t => pw ixs m 28 t * pw ixs r 28 t) := CG.ex (fun t => by
    show pw ixs e 28 t + (1 : Int64).toInt * pw ixs m 28 t * pw ixs r 28 t = pw ixs m 28 t * pw ixs r 28 t
    rw [pl_z he t, show (1 : Int64).toInt = 1 from rfl, Int.one_mul, Int.zero_add])
  have h3 : CG (fun t => pw ixs r 28 t ^ i.toNat * pw ixs r 28 t) (fun t => pw ixs r 28 t ^ (i + 1).toNat) := CG.ex (fun t => by
    show pw ixs r 28 t ^ i.toNat * pw ixs r 28 t = pw ixs r 28 t ^ (i + 1).toNat
    rw [show (i + 1).toNat = i.toNat + 1 by omega, Int.pow_succ])
  exact (CG.ex (pw_cc hc)).tr (hs.tr (h2.tr (h1.tr h3)))
theorem rai_p {m r : Nat → Int64} {k : Nat} (h : RAI m r k) : CG (pw id (pcl m) 49) (fun z => pw id (pcl r) 49 z ^ k) := by
  have h1 : CG (pw id (pcl m) 49) (pw ixs m 28) := CG.ex (fun t => (pcl_pw m t).symm)
  exact h1.tr (h.tr (CG.ex (fun t => by show pw ixs r 28 t ^ k = pw id (pcl r) 49 t ^ k; rw [pcl_pw r t])))
theorem PZ_0 {f : Nat → Int64} {b : Int} (hb : 0 ≤ b ∧ b ≤ 6) (h : ∀ q : Int, 0 ≤ q → q < 28 → f q.toNat = 0) : PZ f b := fun q h1 h2 => h q (by
  have := sl_b hb
  rw [sl_s] at h1
  omega) h2
theorem inv_ix : ∀ c : Fin 49, inv28 c.val < 28 → ixs (inv28 c.val) = c.val := by decide +kernel
theorem inv_big {c : Nat} (h : 49 ≤ c) : inv28 c = 28 := by
  unfold inv28
  rw [List.getD_eq_getElem?_getD, List.getElem?_eq_none (show (43 : Nat) ≤ c by omega)]
  rfl
theorem pcl_up {f f' : Nat → Int64} {d j p : Int} {x : Int64} (hd : 0 ≤ d ∧ d ≤ 6) (hj : 0 ≤ j ∧ j ≤ d) (hp : p = sl d + j) (e : f' = vp_updL f p.toNat x) : pcl f' = vp_updL (pcl f) (7 * (d - j) + j).toNat x := by
  funext c
  have sb := sl_b hd
  have ix := ixs_at hd hj
  rw [← hp] at ix
  have ip := inv_ixs ⟨p.toNat, by omega⟩
  simp only at ip
  have e1 : vp_updL (pcl f) (7 * (d - j) + j).toNat x c = if (c : Int) = 7 * (d - j) + j then x else pcl f c := by
    have := up_at (f := pcl f) (k := 7 * (d - j) + j) (x := x) (by omega) (j := (c : Int)) (by omega)
    rw [Int.toNat_natCast] at this
    exact this
  rw [e1]
  by_cases q : (c : Int) = 7 * (d - j) + j
  · have ec : c = ixs p.toNat := by omega
    rw [if_pos q]
    unfold pcl
    rw [ec, ip.1, if_pos (by omega), e]
    have := up_at (f := f) (k := p) (x := x) (by omega) (j := p) (by omega)
    rw [this, if_pos rfl]
  · rw [if_neg q]
    unfold pcl
    by_cases z : inv28 c < 28
    · rw [if_pos z, if_pos z, e]
      have := up_at (f := f) (k := p) (x := x) (by omega) (j := ((inv28 c : Nat) : Int)) (by omega)
      rw [Int.toNat_natCast] at this
      rw [this, if_neg]
      intro r
      apply q
      have c49 : c < 49 := by
        rcases Nat.lt_or_ge c 49 with s | s
        · exact s
        · rw [inv_big s] at z
          omega
      have ii := inv_ix ⟨c, c49⟩ z
      simp only at ii
      have : inv28 c = p.toNat := by omega
      rw [this] at ii
      omega
    · rw [if_neg z, if_neg z]
theorem fb_uq {w : Nat → Int64} {b z f0 : Int} (h1 : -1 ≤ z ∧ z ≤ b) (h2 : 0 ≤ z → w (sl b + z).toNat ≠ 0) (h4 : ∀ j : Int, 0 ≤ j → (j < z ∨ z = -1) → j ≤ b → w (sl b + j).toNat = 0) (h : FB w b f0) : z = f0 := by
  obtain ⟨a1, a2, a3⟩ := h
  by_cases q : 0 ≤ z
  · exact FB_uq ⟨⟨q, h1.2⟩, h2 q, fun j x y => h4 j x (Or.inl y) (by omega)⟩ ⟨a1, a2, a3⟩
  · exact absurd (h4 f0 a1.1 (Or.inr (by omega)) a1.2) a2
theorem st_mod {w : Nat → Int64} {b k fb f0 : Int} (hk : 2 ≤ k ∧ k ≤ 6) (hb : 0 ≤ b ∧ b ≤ 6) (hf : FB w b f0) (e : fb = f0) (h : k < 1 ∨ fb < 0 ∨ ¬ b % k = 0 ∨ ¬ fb % k = 0) : ¬ ∃ E, RT0 (pcl w) k (fiO b f0) E := fun q => by
  obtain ⟨a1, a2, a3⟩ := hf
  have fi := fiO_at hb a1
  have m := rt_mod hk.1 (by omega) q
  rw [fi.1, fi.2.1] at m
  have d1 := Int.dvd_of_emod_eq_zero m.1
  have d2 := Int.dvd_of_emod_eq_zero m.2
  have d3 := Int.dvd_add d1 d2
  rw [show b - f0 + f0 = b by omega] at d3
  rcases h with h | h | h | h
  · omega
  · omega
  · exact h (Int.emod_eq_zero_of_dvd d3)
  · rw [e] at h
    exact h m.2
theorem zL_self (x : Int64) : zL x.toInt = x := Int64.toInt_inj.mp (zL_toInt (i64_b x).1 (i64_b x).2)
theorem lpow_e {x : Int64} {n : Nat} (h : 0 ≤ x.toInt) (hb : x.toInt ^ n < 9223372036854775808) : (lpow x n).toInt = x.toInt ^ n := by
  have e := lpow_z x.toInt n
  rw [zL_self] at e
  rw [e]
  have : 0 ≤ x.toInt ^ n := Int.pow_nonneg h
  exact zL_toInt (by omega) hb
/-- the first number's root -/
def RQ (r v : Int) (k : Nat) : Prop := 0 ≤ r ∧ r ≤ 4294967295 ∧ r ^ k ≤ v ∧ v < (r + 1) ^ k
theorem st_lead {w : Nat → Int64} {b k f0 : Int} {rl v p : Int64} (hk : 2 ≤ k ∧ k ≤ 6) (hb : 0 ≤ b ∧ b ≤ 6) (hf : FB w b f0) (hS : sS (fun a b => ci (pcl w) (7 * a + b)) ≤ 18014398509481984) (hv : v = w (sl b + f0).toNat) (hr : RQ rl.toInt v.toInt k.toNat) (hp : p = lpow rl k.toNat) (hne : ¬ p = v) : ¬ ∃ E, RT0 (pcl w) k (fiO b f0) E := fun q => by
  obtain ⟨E, hE⟩ := q
  obtain ⟨a1, a2, a3⟩ := hf
  have fi := fiO_at hb a1
  obtain ⟨L, m1, m2, m3, _⟩ := rt_lead hk.1 (by omega) (by omega) hS (by decide) hE
  rw [pcl_fi w hb a1, ← hv] at m3
  obtain ⟨r1, r2, r3, r4⟩ := hr
  rw [← m3] at r3 r4
  have l1 : L < rl.toInt + 1 := ipow_lt (by omega) (by omega) r4
  have l2 : rl.toInt ≤ L := by
    rcases Int.lt_or_le L rl.toInt with s | s
    · exfalso
      obtain ⟨x, hx⟩ := Int.eq_ofNat_of_zero_le (show 0 ≤ L by omega)
      obtain ⟨y, hy⟩ := Int.eq_ofNat_of_zero_le r1
      rw [hx, hy] at r3
      have q2 := Nat.pow_lt_pow_left (show x < y by omega) (show k.toNat ≠ 0 by omega)
      have q3 : y ^ k.toNat ≤ x ^ k.toNat := by exact_mod_cast r3
      omega
    · exact s
  have el : L = rl.toInt := by omega
  apply hne
  apply Int64.toInt_inj.mp
  have hvb := i64_b v
  rw [hp, lpow_e r1 (by rw [← el, m3]; omega), ← el, m3]
def SRT (w r : Nat → Int64) (b b2 k fb rf : Int) (L : Int64) : Prop := b2 * k = b ∧ rf * k = fb ∧ (0 ≤ rf ∧ rf ≤ b2) ∧ 1 ≤ L.toInt ∧ L.toInt ^ k.toNat = (w (sl b + fb).toNat).toInt ∧ ∃ r0 : Nat → Int64, (∀ q : Int, 0 ≤ q → q < 28 → r0 q.toNat = 0) ∧ r = vp_updL r0 (sl b2 + rf).toNat L
def SRX (w r : Nat → Int64) (b b2 k fb : Int) : Prop := ∃ (rf : Int) (L : Int64), SRT w r b b2 k fb rf L
theorem st_yes {w r r0 : Nat → Int64} {b b2 k fb f0 rf s : Int} {rl v p : Int64} (hk : 2 ≤ k ∧ k ≤ 6) (hv : v = w (sl b + f0).toNat) (hv0 : 0 < (w (sl b + f0).toNat).toInt) (hr : RQ rl.toInt v.toInt k.toNat) (hp : p = lpow rl k.toNat) (he : p = v) (e : fb = f0) (hb2 : b2 = b / k) (hrf : rf = fb / k) (m1 : b % k = 0) (m2 : fb % k = 0) (hm : 0 ≤ rf ∧ rf ≤ b2) (hz : ∀ q : Int, 0 ≤ q → q < 28 → r0 q.toNat = 0) (hs : s = sl b2 + rf) (hu : r = vp_updL r0 s.toNat rl) : SRX w r b b2 k f0 := by
  obtain ⟨r1, r2, r3, r4⟩ := hr
  have hvb := i64_b v
  have e1 : (lpow rl k.toNat).toInt = rl.toInt ^ k.toNat := lpow_e r1 (by omega)
  have e2 : rl.toInt ^ k.toNat = v.toInt := by rw [← e1, ← hp, he]
  refine ⟨rf, rl, ?_, ?_, hm, ?_, by rw [e2, hv], r0, hz, by rw [hu, hs]⟩
  · rw [hb2]
    exact Int.ediv_mul_cancel (Int.dvd_of_emod_eq_zero m1)
  · rw [hrf, ← e]
    exact Int.ediv_mul_cancel (Int.dvd_of_emod_eq_zero m2)
  · rcases Int.lt_or_le 0 rl.toInt with q | q
    · omega
    · exfalso
      have z : rl.toInt = 0 := by omega
      rw [z, Int.zero_pow (by omega)] at e2
      rw [hv] at e2
      omega
/-- what stands fast -/
def CRC (w : Nat → Int64) (b b2 k fb rf : Int) (L li dv : Int64) : Prop := (2 ≤ k ∧ k ≤ 6) ∧ (1 ≤ b ∧ b ≤ 6) ∧ b2 * k = b ∧ rf * k = fb ∧ (0 ≤ rf ∧ rf ≤ b2) ∧ FB w b fb ∧ 1 ≤ L.toInt ∧ L.toInt ^ k.toNat = (w (sl b + fb).toNat).toInt ∧ dv.toInt = k * L.toInt ^ (k - 1).toNat ∧ RQ li.toInt (sS (fun a c => ci (pcl w) (7 * a + c)) : Nat) k.toNat ∧ sS (fun a c => ci (pcl w) (7 * a + c)) ≤ 18014398509481984
def CRI (w m7 m8 : Nat → Int64) (b b2 k fb rf : Int) (L li : Int64) (dd i : Int) : Prop := PZ m7 b2 ∧ m7 (sl b2 + rf).toNat = L ∧ (∀ j : Int, 0 ≤ j → j < rf → m7 (sl b2 + j).toNat = 0) ∧ RAI m8 m7 k.toNat ∧ (∀ q : Int, 0 ≤ q → q < 28 → (m7 q.toNat).toInt.natAbs ≤ li.toInt.natAbs) ∧ ∀ E, RT0 (pcl w) k (fiO b fb) E → PRt (pcl m7) E (b2 - rf) rf dd i
theorem b2_b {b b2 k : Int} (hk : 2 ≤ k ∧ k ≤ 6) (hb : 1 ≤ b ∧ b ≤ 6) (h : b2 * k = b) : 1 ≤ b2 ∧ b2 ≤ 3 ∧ b2 ≤ b := by
  rcases Int.lt_or_le 0 b2 with q | q
  · have : b2 * 2 ≤ b2 * k := Int.mul_le_mul_of_nonneg_left hk.1 (by omega)
    omega
  · have := Int.mul_nonneg (show 0 ≤ -b2 by omega) (show 0 ≤ k by omega)
    rw [Int.neg_mul, h] at this
    omega
theorem crc_d {k : Int} {L dv v : Int64} {b : Int} (hk : 2 ≤ k ∧ k ≤ 6) (h1 : 1 ≤ L.toInt) (h2 : L.toInt ^ k.toNat ≤ 18014398509481984) (e : dv = zL k * v) (hv : v = lpow L (k - 1).toNat) : dv.toInt = k * L.toInt ^ (k - 1).toNat ∧ k ≤ dv.toInt := by
  have p1 : L.toInt ^ (k - 1).toNat ≤ L.toInt ^ k.toNat := ipow_le h1 (by omega)
  have p2 : 1 ≤ L.toInt ^ (k - 1).toNat := Int.pow_pos (by omega)
  have ev : v.toInt = L.toInt ^ (k - 1).toNat := by rw [hv]; exact lpow_e (by omega) (by omega)
  have c : cq dv (k * L.toInt ^ (k - 1).toNat) := by
    rw [e, ← ev]
    refine cq_mul ⟨0, ?_⟩ (cq_rf v)
    rw [zL_toInt (by omega) (by omega)]
    omega
  have b1 : k * L.toInt ^ (k - 1).toNat ≤ 6 * 18014398509481984 := Int.le_trans (Int.mul_le_mul_of_nonneg_left (show L.toInt ^ (k - 1).toNat ≤ 18014398509481984 by omega) (by omega)) (Int.mul_le_mul_of_nonneg_right hk.2 (by decide))
  have b2 : k * 1 ≤ k * L.toInt ^ (k - 1).toNat := Int.mul_le_mul_of_nonneg_left p2 (by omega)
  have := cq_small c (by omega) (by omega)
  omega
theorem lead_S {w : Nat → Int64} {b fb : Int} (hb : 0 ≤ b ∧ b ≤ 6) (hf : 0 ≤ fb ∧ fb ≤ b) : (w (sl b + fb).toNat).toInt.natAbs ≤ sS (fun a c => ci (pcl w) (7 * a + c)) := by
  have := cell_sS (fun a c => ci (pcl w) (7 * a + c)) (a := (b - fb).toNat) (b := fb.toNat) (by omega)
  have e := pcl_d w hb hf
  unfold ci at this
  rw [e] at this
  exact this
theorem crc_mk {w r : Nat → Int64} {b b2 k fb rf : Int} {L li dv v sv : Int64} (hk : 2 ≤ k ∧ k ≤ 6) (hb : 1 ≤ b ∧ b ≤ 6) (hf : FB w b fb) (hS : sS (fun a c => ci (pcl w) (7 * a + c)) ≤ 18014398509481984) (h : SRT w r b b2 k fb rf L) (e : dv = zL k * v) (hv : v = lpow L (k - 1).toNat) (hs : sv.toInt = (sz28 w 28 : Int)) (hl : RQ li.toInt sv.toInt k.toNat) : CRC w b b2 k fb rf L li dv := by
  obtain ⟨h1, h2, h3, h4, h5, r0, h6, h7⟩ := h
  have ls := lead_S (w := w) (by omega) hf.1
  have := crc_d (b := b) hk h4 (by omega) e hv
  rw [hs, sz_sS] at hl
  exact ⟨hk, hb, h1, h2, h3, hf, h4, h5, this.1, hl, hS⟩
theorem srt_r {w r : Nat → Int64} {b b2 k fb rf : Int} {L : Int64} (hk : 2 ≤ k ∧ k ≤ 6) (hb : 1 ≤ b ∧ b ≤ 6) (h : SRT w r b b2 k fb rf L) : PZ r b2 ∧ r (sl b2 + rf).toNat = L ∧ (∀ q : Int, 0 ≤ q → q < 28 → q ≠ sl b2 + rf → r q.toNat = 0) ∧ FB r b2 rf := by
  obtain ⟨h1, h2, h3, h4, h5, r0, h6, h7⟩ := h
  have bb := b2_b hk hb h1
  have sb := sl_b (d := b2) (by omega)
  have z : ∀ q : Int, 0 ≤ q → q < 28 → q ≠ sl b2 + rf → r q.toNat = 0 := fun q x y n => by
    rw [h7, up_at (by omega) x, if_neg n]
    exact h6 q x y
  have l : r (sl b2 + rf).toNat = L := by rw [h7, up_at (by omega) (by omega), if_pos rfl]
  refine ⟨PZ_u (d := b2) (by omega) (by omega) h3 rfl h7 (PZ_0 (by omega) h6), l, z, h3, ?_, fun j x y => z _ (by omega) (by omega) (by omega)⟩
  rw [l]
  intro q
  rw [q] at h4
  exact absurd h4 (by decide)
theorem crc_r {w : Nat → Int64} {b b2 k fb rf : Int} {L li dv : Int64} (h : CRC w b b2 k fb rf L li dv) : (0 ≤ fiO b fb ∧ fiO b fb < 49) ∧ fiO b fb / 7 + fiO b fb % 7 ≤ 6 ∧ k * (b2 - rf) = fiO b fb / 7 ∧ k * rf = fiO b fb % 7 ∧ k * (b2 - rf + rf) = fiO b fb / 7 + fiO b fb % 7 ∧ (0 ≤ b2 - rf ∧ 0 ≤ rf ∧ b2 - rf + rf ≤ 6) ∧ (1 ≤ b2 ∧ b2 ≤ 3 ∧ b2 ≤ b) ∧ (0 ≤ fb ∧ fb ≤ b) := by
  obtain ⟨hk, hb, h1, h2, h3, hf, -⟩ := h
  have bb := b2_b hk hb h1
  have fi := fiO_at (b := b) (fb := fb) (by omega) hf.1
  have e1 : k * (b2 - rf) = b - fb := by rw [Int.mul_sub, Int.mul_comm k b2, Int.mul_comm k rf, h1, h2]
  have e2 : k * rf = fb := by rw [Int.mul_comm, h2]
  exact ⟨by omega, by omega, by omega, by omega, by rw [Int.mul_add]; omega, by omega, bb, hf.1⟩
theorem li_b {w : Nat → Int64} {b b2 k fb rf : Int} {L li dv : Int64} (h : CRC w b b2 k fb rf L li dv) {e : Int} (he : e.natAbs ^ k.toNat ≤ sS (fun a c => ci (pcl w) (7 * a + c))) : e ≤ li.toInt ∧ -li.toInt ≤ e := by
  obtain ⟨hk, _, _, _, _, _, _, _, _, hl, _⟩ := h
  exact lim_ok (by omega) he hl.1 hl.2.2.2
theorem cr_0 {w r m8 : Nat → Int64} {b b2 k fb rf : Int} {L li dv : Int64} (hc : CRC w b b2 k fb rf L li dv) (h : SRT w r b b2 k fb rf L) (hr : RAI m8 r k.toNat) : CRI w r m8 b b2 k fb rf L li b2 b2 := by
  obtain ⟨g1, g2, g3, g4, g5, g6, g7, g8⟩ := crc_r hc
  have hc2 := hc
  obtain ⟨hk, hb, _, _, h3, hf, hL, hLk, _, hl, hS⟩ := hc2
  obtain ⟨p1, p2, p3, p4⟩ := srt_r hk hb h
  obtain ⟨_, _, _, _, _, r0, h6, h7⟩ := h
  refine ⟨p1, p2, p4.2.2, hr, fun q x y => ?_, fun E hE => ?_⟩
  · by_cases z : q = sl b2 + rf
    · rw [z, p2]
      have ls := lead_S (w := w) (b := b) (fb := fb) (by omega) g8
      have := li_b hc (e := L.toInt) (by
        have t : ((L.toInt.natAbs ^ k.toNat : Nat) : Int) = L.toInt ^ k.toNat := by
          rw [Int.natCast_pow, Int.natAbs_of_nonneg (by omega)]
        omega)
      omega
    · rw [p3 q x y z]
      exact Nat.zero_le _
  · have := PRt_0 (R := pcl r0) (R' := pcl r) (ri := b2 - rf) (rj := rf) (L := L) hk.1 g1 g2 g3 g4 g6 hS (by decide) (pcl_up (by omega) (by omega) rfl h7) (fun q x y => by
      unfold pcl
      by_cases z : inv28 q.toNat < 28
      · rw [if_pos z]
        have := h6 (inv28 q.toNat : Nat) (by omega) (by omega)
        rw [Int.toNat_natCast] at this
        exact this
      · rw [if_neg z]) hL (by rw [pcl_fi w (by omega) g8]; exact hLk) hE
    rw [show b2 - rf + rf = b2 by omega] at this
    exact this
theorem PRt_k0 {R : Nat → Int64} {f : Nat → Int64} {E : Nat → Int} {k first ri rj : Int} (hk : 2 ≤ k) (hf : 0 ≤ first ∧ first < 49) (h1 : k * ri = first / 7) (h2 : k * rj = first % 7) (hr : 0 ≤ ri ∧ 0 ≤ rj ∧ ri + rj ≤ 6) (hE : RT0 f k first E) (h : PRt R E ri rj (ri + rj) (ri + rj)) : PRt R E ri rj (ri + rj) (ri - 1) := by
  obtain ⟨di, dj, _, _⟩ := fi_div hk hf h1 h2 hr.1 hr.2.1
  obtain ⟨_, _, _, _, hz, _⟩ := hE
  rw [di, dj] at hz
  intro a b hab
  obtain ⟨g1, g2⟩ := h a b hab
  by_cases q : PRc ri rj (ri + rj) (ri + rj) a b
  · refine ⟨fun _ => g1 q, fun z => absurd ?_ z⟩
    unfold PRc at *
    omega
  · refine ⟨fun z => ?_, fun _ => g2 q⟩
    rw [g2 q, hz a b hab (by unfold PRc wt at *; omega)]
    rfl
theorem cr_r {w m7 m8 : Nat → Int64} {b b2 k fb rf j : Int} {L li dv : Int64} (hc : CRC w b b2 k fb rf L li dv) (h : CRI w m7 m8 b b2 k fb rf L li b2 b2) (hj : j = rf + 1) : CRI w m7 m8 b b2 k fb rf L li b2 (b2 - j) := by
  obtain ⟨g1, g2, g3, g4, g5, g6, g7, g8⟩ := crc_r hc
  obtain ⟨p1, p2, p3, p4, p5, p6⟩ := h
  refine ⟨p1, p2, p3, p4, p5, fun E hE => ?_⟩
  have := p6 E hE
  rw [show b2 = b2 - rf + rf by omega] at this
  have := PRt_k0 hc.1.1 g1 g3 g4 g6 hE (by rw [show b2 - rf + rf - rf = b2 - rf by omega] at this; exact this)
  rw [show b2 - rf + rf = b2 by omega] at this
  rw [hj, show b2 - (rf + 1) = b2 - rf - 1 by omega]
  exact this
theorem cr_n {w m7 m8 : Nat → Int64} {b b2 k fb rf dd j : Int} {L li : Int64} (h : CRI w m7 m8 b b2 k fb rf L li dd (dd - j)) (hj : j = dd + 1) : CRI w m7 m8 b b2 k fb rf L li (dd + -1) (dd + -1) := by
  obtain ⟨p1, p2, p3, p4, p5, p6⟩ := h
  exact ⟨p1, p2, p3, p4, p5, fun E hE => PRt_c (fun _ _ _ => rfl) (p6 E hE) (fun a b hab => by unfold PRc; omega)⟩
theorem cr_sl {w : Nat → Int64} {b b2 k fb rf dd j : Int} {L li dv : Int64} (hc : CRC w b b2 k fb rf L li dv) (hj : 0 ≤ j ∧ j ≤ dd ∧ dd ≤ b2) : (0 ≤ dd + (k - 1) * b2 ∧ dd + (k - 1) * b2 ≤ 6) ∧ (0 ≤ j + (k - 1) * rf ∧ j + (k - 1) * rf ≤ dd + (k - 1) * b2) := by
  obtain ⟨g1, g2, g3, g4, g5, g6, g7, g8⟩ := crc_r hc
  obtain ⟨hk, hb, h1, h2, h3, -⟩ := hc
  have e1 : (k - 1) * b2 = b - b2 := by rw [Int.sub_mul, Int.mul_comm k b2, h1, Int.one_mul]
  have e2 : (k - 1) * rf ≤ (k - 1) * b2 := Int.mul_le_mul_of_nonneg_left h3.2 (by omega)
  have e3 := Int.mul_nonneg (show 0 ≤ k - 1 by omega) h3.1
  omega
theorem cr_dig {w m7 m8 : Nat → Int64} {b b2 k fb rf dd j s : Int} {L li dv re : Int64} (hc : CRC w b b2 k fb rf L li dv) (h : CRI w m7 m8 b b2 k fb rf L li dd (dd - j)) (hj : 0 ≤ j ∧ j ≤ dd ∧ dd ≤ b2) (hlt : dd < b2 ∨ rf < j) (hs : s = sl (dd + (k - 1) * b2) + (j + (k - 1) * rf)) (ere : re = w s.toNat - m8 s.toNat) (E : Nat → Int) (hE : RT0 (pcl w) k (fiO b fb) E) : (re / dv).toInt = E (7 * (dd - j).toNat + j.toNat) ∧ re - re / dv * dv = 0 ∧ ((re / dv).toInt ≤ li.toInt ∧ -li.toInt ≤ (re / dv).toInt) := by
  obtain ⟨g1, g2, g3, g4, g5, g6, g7, g8⟩ := crc_r hc
  obtain ⟨s1, s2⟩ := cr_sl hc hj
  have hc2 := hc
  obtain ⟨hk, hb, h1, h2, h3, hf, hL, hLk, hdv, hl, hS⟩ := hc2
  obtain ⟨p1, p2, p3, p4, p5, p6⟩ := h
  have su := pcl_su (by omega) p1
  have cell : ∀ f : Nat → Int64, f s.toNat = pcl f ((((7 * ((dd - j) + ((k - 1) * (b2 - rf)))) + dd) - (dd - j)) + ((k - 1) * rf) : Int).toNat := fun f => by
    have := pcl_d f s1 s2
    rw [← hs] at this
    rw [← this]
    congr 1
    rw [Int.mul_sub (k - 1) b2 rf]
    omega
  have hkd : k ≤ dv.toInt := by
    have p2 : 1 ≤ L.toInt ^ (k - 1).toNat := Int.pow_pos (by omega)
    have : k * 1 ≤ k * L.toInt ^ (k - 1).toNat := Int.mul_le_mul_of_nonneg_left p2 (by omega)
    omega
  have d := ip_dig (f6 := pcl w) (f8 := pcl m8) (r := pcl m7) (k := k) (ri := b2 - rf) (rj := rf) (ev := dd) (i := dd - j) (u := dv) (L := L) (lf := re) (by omega) g1 g2 g3 g4 g5 g6 (by omega) (by omega) hS (by decide) (by rw [show b2 - rf + rf = b2 by omega]; exact su) (by
      have := pcl_fi m7 (b := b2) (fb := rf) (by omega) h3
      unfold fiO at this
      rw [this, p2]) (rai_p p4) hdv hkd (by rw [ere, cell w, cell m8]) hE (p6 E hE)
  rw [show dd - (dd - j) = j by omega] at d
  refine ⟨d.1, d.2, ?_⟩
  have z := ROT_sz (by omega) hE (Nat.le_refl _) (dd - j).toNat j.toNat (by omega)
  rw [d.1]
  exact li_b hc z.2
theorem cr_no {w m7 m8 : Nat → Int64} {b b2 k fb rf dd j s : Int} {L li dv re fo : Int64} (hc : CRC w b b2 k fb rf L li dv) (h : CRI w m7 m8 b b2 k fb rf L li dd (dd - j)) (hj : 0 ≤ j ∧ j ≤ dd ∧ dd ≤ b2) (hlt : dd < b2 ∨ rf < j) (hs : s = sl (dd + (k - 1) * b2) + (j + (k - 1) * rf)) (ere : re = w s.toNat - m8 s.toNat) (efo : fo = re / dv) (hn : ¬ fo * dv = re ∨ li < fo ∨ ¬ -li ≤ fo) : ¬ ∃ E, RT0 (pcl w) k (fiO b fb) E := fun q => by
  obtain ⟨E, hE⟩ := q
  obtain ⟨d1, d2, d3⟩ := cr_dig hc h hj hlt hs ere E hE
  rw [← efo] at d1 d2 d3
  rcases hn with n | n | n
  · apply n
    have : re = re - fo * dv + fo * dv := (Int64.sub_add_cancel re (fo * dv)).symm
    rw [d2, Int64.zero_add] at this
    exact this.symm
  · rw [Int64.lt_iff_toInt_lt] at n
    omega
  · rw [Int64.le_iff_toInt_le, Int64.toInt_neg] at n
    obtain ⟨_, _, _, _, _, _, _, _, _, hl, _⟩ := hc
    have := hl.2.1
    have := hl.1
    rw [Int.bmod_eq_of_le (by omega) (by omega)] at n
    omega
theorem cr_s0 {w m7 m8 : Nat → Int64} {b b2 k fb rf dd j s : Int} {L li dv re fo : Int64} (hc : CRC w b b2 k fb rf L li dv) (h : CRI w m7 m8 b b2 k fb rf L li dd (dd - j)) (hj : 0 ≤ j ∧ j ≤ dd ∧ dd ≤ b2) (hlt : dd < b2 ∨ rf < j) (hs : s = sl (dd + (k - 1) * b2) + (j + (k - 1) * rf)) (ere : re = w s.toNat - m8 s.toNat) (efo : fo = re / dv) (h0 : fo = 0) : CRI w m7 m8 b b2 k fb rf L li dd (dd - (j + 1)) := by
  have h' := h
  obtain ⟨p1, p2, p3, p4, p5, p6⟩ := h
  obtain ⟨g1, g2, g3, g4, g5, g6, g7, g8⟩ := crc_r hc
  refine ⟨p1, p2, p3, p4, p5, fun E hE => ?_⟩
  obtain ⟨d1, d2, d3⟩ := cr_dig hc h' hj hlt hs ere E hE
  rw [← efo, h0] at d1
  have pz := ((p6 E hE) (dd - j).toNat j.toNat (by omega)).2 (by unfold PRc; omega)
  have := PRt_d (R := pcl m7) (R' := pcl m7) (E := E) (ri := b2 - rf) (rj := rf) (ev := dd) (i := dd - j) (x := 0) (p := 7 * (dd - j) + (dd - (dd - j))) g6 (by omega) (by omega) rfl (by
    funext c
    have e1 := up_at (f := pcl m7) (k := 7 * (dd - j) + (dd - (dd - j))) (x := 0) (by omega) (j := (c : Int)) (by omega)
    rw [Int.toNat_natCast] at e1
    rw [e1]
    by_cases q : (c : Int) = 7 * (dd - j) + (dd - (dd - j))
    · rw [if_pos q, show c = 7 * (dd - j).toNat + j.toNat by omega, pz]
    · rw [if_neg q]) (by rw [d1, show dd - (dd - j) = j by omega]) (p6 E hE)
  rw [show dd - (j + 1) = dd - j + -1 by omega]
  exact this
theorem cr_s1 {w m7 m8 m7' m8' : Nat → Int64} {b b2 k fb rf dd j s s' : Int} {L li dv re fo : Int64} (hc : CRC w b b2 k fb rf L li dv) (h : CRI w m7 m8 b b2 k fb rf L li dd (dd - j)) (hj : 0 ≤ j ∧ j ≤ dd ∧ dd ≤ b2) (hlt : dd < b2 ∨ rf < j) (hs : s = sl (dd + (k - 1) * b2) + (j + (k - 1) * rf)) (ere : re = w s.toNat - m8 s.toNat) (efo : fo = re / dv) (hs' : s' = sl dd + j) (e7 : m7' = vp_updL m7 s'.toNat fo) (h8 : RAI m8' m7' k.toNat) (l1 : ¬ li < fo) (l2 : -li ≤ fo) : CRI w m7' m8' b b2 k fb rf L li dd (dd - (j + 1)) := by
  have h' := h
  obtain ⟨p1, p2, p3, p4, p5, p6⟩ := h
  obtain ⟨g1, g2, g3, g4, g5, g6, g7, g8⟩ := crc_r hc
  have sd := sl_b (d := dd) (by omega)
  have sb := sl_b (d := b2) (by omega)
  have slt : dd < b2 → sl dd + dd < sl b2 := fun q => by
    have t : ∀ x y : Fin 7, x.val < y.val → sl (x.val : Int) + (x.val : Int) < sl (y.val : Int) := by decide +kernel
    have := t ⟨dd.toNat, by omega⟩ ⟨b2.toNat, by omega⟩ (by simp only; omega)
    simp only at this
    rw [Int.toNat_of_nonneg (by omega), Int.toNat_of_nonneg (by omega)] at this
    exact this
  have hli : fo.toInt.natAbs ≤ li.toInt.natAbs := by
    rw [Int64.lt_iff_toInt_lt] at l1
    rw [Int64.le_iff_toInt_le, Int64.toInt_neg] at l2
    obtain ⟨_, _, _, _, _, _, _, _, _, hl, _⟩ := hc
    have := hl.2.1
    have := hl.1
    rw [Int.bmod_eq_of_le (by omega) (by omega)] at l2
    omega
  have far : ∀ q : Int, 0 ≤ q → q ≤ rf → sl b2 + q ≠ s' := fun q a c => by
    rcases hlt with z | z
    · have := slt z
      omega
    · by_cases y : dd = b2
      · rw [hs', y]
        omega
      · have := slt (by omega)
        omega
  have h3 := hc.2.2.2.2.1
  refine ⟨PZ_u (d := dd) (by omega) (by omega) (by omega) hs' e7 p1, ?_, fun q a c => ?_, h8, fun q a c => ?_, fun E hE => ?_⟩
  · rw [e7, up_at (by omega) (by omega), if_neg (far rf (by omega) (by omega))]
    exact p2
  · rw [e7, up_at (by omega) (by omega), if_neg (far q a (by omega))]
    exact p3 q a c
  · rw [e7, up_at (by omega) a]
    by_cases y : q = s'
    · rw [if_pos y]
      exact hli
    · rw [if_neg y]
      exact p5 q a c
  · obtain ⟨d1, d2, d3⟩ := cr_dig hc h' hj hlt hs ere E hE
    rw [← efo] at d1
    have := PRt_d (R := pcl m7) (R' := pcl m7') (E := E) (ri := b2 - rf) (rj := rf) (ev := dd) (i := dd - j) (x := fo) (p := 7 * (dd - j) + (dd - (dd - j))) g6 (by omega) (by omega) rfl (by rw [show dd - (dd - j) = j by omega]; exact pcl_up (by omega) (by omega) hs' e7) (by rw [d1, show dd - (dd - j) = j by omega]) (p6 E hE)
    rw [show dd - (j + 1) = dd - j + -1 by omega]
    exact this
/-- the search is through -/
def CRZ (w m7 m8 : Nat → Int64) (b b2 k fb : Int) : Prop := ∃ (rf : Int) (L li dv : Int64) (dd i : Int), CRC w b b2 k fb rf L li dv ∧ CRI w m7 m8 b b2 k fb rf L li dd i ∧ dd < 0
theorem cz_no {w m7 m8 : Nat → Int64} {b b2 k fb : Int} (h : CRZ w m7 m8 b b2 k fb) (hn : ¬ ∀ q : Int, 0 ≤ q → q < 28 → m8 q.toNat = w q.toNat) : ¬ ∃ E, RT0 (pcl w) k (fiO b fb) E := fun q => by
  obtain ⟨E, hE⟩ := q
  obtain ⟨rf, L, li, dv, dd, i, hc, ⟨p1, p2, p3, p4, p5, p6⟩, hd⟩ := h
  obtain ⟨g1, g2, g3, g4, g5, g6, g7, g8⟩ := crc_r hc
  apply hn
  have su := pcl_su (by omega) p1
  have := ip_end (f6 := pcl w) (f8 := pcl m8) (r := pcl m7) hc.1.1 g5 g2 g6 (pcl_6 w) (by rw [show b2 - rf + rf = b2 by omega]; exact su) (rai_p p4) hE (p6 E hE) hd
  exact pcl_inj (fun i hi => by
    have := this (i : Nat) (by omega) (by omega)
    rw [Int.toNat_natCast] at this
    exact this)
theorem cz_yes {w m7 m8 : Nat → Int64} {b b2 k fb : Int} (h : CRZ w m7 m8 b b2 k fb) (he : ∀ q : Int, 0 ≤ q → q < 28 → m8 q.toNat = w q.toNat) : RT0 (pcl w) k (fiO b fb) (ci (pcl m7)) ∧ b2 * k = b ∧ 2 ≤ k := by
  obtain ⟨rf, L, li, dv, dd, i, hc, ⟨p1, p2, p3, p4, p5, p6⟩, hd⟩ := h
  obtain ⟨g1, g2, g3, g4, g5, g6, g7, g8⟩ := crc_r hc
  have hc2 := hc
  obtain ⟨hk, hb, h1, h2, h3, hf, hL, hLk, hdv, hl, hS⟩ := hc2
  have su := pcl_su (by omega) p1
  obtain ⟨di, dj, _, _⟩ := fi_div hk.1 g1 g3 g4 g6.1 g6.2.1
  have suI := SU_ci (by omega) su
  have hkD : k.toNat * b2.toNat ≤ 6 := by
    have : ((k.toNat * b2.toNat : Nat) : Int) = b := by rw [Int.natCast_mul, Int.toNat_of_nonneg (by omega), Int.toNat_of_nonneg (by omega), Int.mul_comm, h1]
    omega
  have md : (fiO b fb / 7).toNat % k.toNat = 0 ∧ (fiO b fb % 7).toNat % k.toNat = 0 := by
    have c : ∀ x y : Int, 0 ≤ x → k * x = y → y.toNat % k.toNat = 0 := fun x y hx e => by
      have : y.toNat = k.toNat * x.toNat := by
        have : ((k.toNat * x.toNat : Nat) : Int) = y := by rw [Int.natCast_mul, Int.toNat_of_nonneg (by omega), Int.toNat_of_nonneg hx, e]
        omega
      rw [this]
      exact Nat.mul_mod_right _ _
    exact ⟨c _ _ g6.1 g3, c _ _ g6.2.1 g4⟩
  refine ⟨⟨by omega, md, ?_, ?_, ?_, ?_⟩, h1, hk.1⟩
  · rw [di, dj]
    exact SUi_le (by omega) suI
  · rw [di, dj]
    show 0 < (pcl m7 _).toInt
    have := pcl_d m7 (d := b2) (j := rf) (by omega) h3
    rw [this, p2]
    omega
  · rw [di, dj]
    intro a c hac hw
    unfold wt at hw
    show (pcl m7 _).toInt = 0
    by_cases z : b2 < (a : Int) + c
    · have := su (7 * a + c : Nat) (by omega) (by omega) (by omega)
      rw [Int.toNat_natCast] at this
      rw [this]
      rfl
    · have := pcl_at m7 hac
      rw [this]
      have e : (a : Int) + c = b2 := by omega
      rw [e, p3 c (by omega) (by omega)]
      rfl
  · exact cr_true (L := li.toInt.natAbs) (S := sS (fun a c => ci (pcl w) (7 * a + c))) (by omega) hkD suI (SU_ci (by decide) (pcl_6 w)) (fun a c hac => by
      unfold ci
      rw [pcl_at m7 hac]
      have sc := sl_b (d := (a : Int) + c) (by omega)
      exact p5 _ (by omega) (by omega)) (by
      have t : ((li.toInt.natAbs ^ k.toNat : Nat) : Int) = li.toInt ^ k.toNat := by rw [Int.natCast_pow, Int.natAbs_of_nonneg hl.1]
      have := hl.2.2.1
      omega) hS (Nat.le_refl _) (rai_p p4) (fun i _ => pcl_c he i)
