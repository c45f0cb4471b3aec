/-! what the class knows of both curves -/
theorem Nt_F2 {X Y W : Nat → Int} {M : Nat} (h : ∀ i, (X i).natAbs ≤ M ∧ (Y i).natAbs ≤ M ∧ (W i).natAbs ≤ M) (hM : M ≤ 105) : Nb (fun t => F2 X Y W (t7 t) t 1) 10000000000000000 := by
  have m := fun i j => (Nb_m3 h i j).le (show 6 * (M * M) ≤ 66150 by have := Nat.mul_le_mul hM hM; omega)
  exact (((m 0 1).mul (m 1 2)).sub ((m 0 2).mul (m 0 2))).le (by decide)
theorem Nt_F3 {X Y W : Nat → Int} {M : Nat} (h : ∀ i, (X i).natAbs ≤ M ∧ (Y i).natAbs ≤ M ∧ (W i).natAbs ≤ M) (hM : M ≤ 105) : Nb (fun t => F3 X Y W (t7 t) t 1) 10000000000000000 := by
  have m := fun i j => (Nb_m3 h i j).le (show 6 * (M * M) ≤ 66150 by have := Nat.mul_le_mul hM hM; omega)
  have d := (m 0 3).add (m 1 2)
  exact ((((m 0 1).mul ((d.mul (m 2 3)).sub ((m 1 3).mul (m 1 3)))).sub ((m 0 2).mul (((m 0 2).mul (m 2 3)).sub ((m 1 3).mul (m 0 3))))).add ((m 0 3).mul (((m 0 2).mul (m 1 3)).sub (d.mul (m 0 3))))).le (by decide)
theorem Nt_FF {X Y W : Nat → Int} (h : ∀ i, (X i).natAbs ≤ 7 ∧ (Y i).natAbs ≤ 7 ∧ (W i).natAbs ≤ 7) : Nb (fun t => FF X Y W (t7 t) t 1) 10000000000000000 := by
  have m := fun i j => (Nb_m3 h i j).le (show 6 * (7 * 7) ≤ 588 by decide)
  have s := fun i j k l => ((Nb_m3 h i j).add (Nb_m3 h k l)).le (show 6 * (7 * 7) + 6 * (7 * 7) ≤ 588 by decide)
  have a := m 0 1
  have b := m 0 2
  have c := m 0 3
  have d := m 0 4
  have e := s 0 3 1 2
  have f := s 0 4 1 3
  have g := m 1 4
  have h := s 1 4 2 3
  have i := m 2 4
  have j := m 3 4
  obtain ⟨l, l1_, l2_⟩ := ((((((((a.mul e).sub (b.mul b)).mul ((h.mul j).sub (i.mul i))).sub (((a.mul f).sub (c.mul b)).mul ((f.mul j).sub (i.mul g)))).add (((a.mul g).sub (d.mul b)).mul ((f.mul i).sub (h.mul g)))).add (((b.mul f).sub (c.mul e)).mul ((c.mul j).sub (i.mul d)))).sub (((b.mul g).sub (d.mul e)).mul ((c.mul i).sub (h.mul d)))).add (((c.mul g).sub (d.mul f)).mul ((c.mul g).sub (f.mul d)))).le (show _ ≤ 10000000000000000 by decide)
  refine ⟨l, fun t => ?_, l2_⟩
  rw [← l1_]
  show FF X Y W (t7 t) t 1 = _
  unfold FF
  rw [dS_lap]
theorem Nt_Fz {n : Nat} {X Y W : Nat → Int} (h1 : 1 ≤ n) (hn : n ≤ 4) (h : ∀ i, (X i).natAbs ≤ 105 ∧ (Y i).natAbs ≤ 105 ∧ (W i).natAbs ≤ 105) (h4 : n = 4 → ∀ i, (X i).natAbs ≤ 7 ∧ (Y i).natAbs ≤ 7 ∧ (W i).natAbs ≤ 7) : Nb (fun t => Fz n X Y W (t7 t) t 1) 10000000000000000 := by
  have : n = 1 ∨ n = 2 ∨ n = 3 ∨ n = 4 := by omega
  rcases this with rfl | rfl | rfl | rfl
  · obtain ⟨l, a, b⟩ := (Nb_m3 h 0 1).le (show 6 * (105 * 105) ≤ 10000000000000000 by decide)
    exact ⟨l, fun t => by rw [← a]; show m3 X Y W (t7 t) t 1 0 1 * 1 * (1 * 1) = _; dsimp only; omega, b⟩
  · obtain ⟨l, a, b⟩ := Nt_F2 h (Nat.le_refl _)
    exact ⟨l, fun t => by rw [← a]; show F2 X Y W (t7 t) t 1 * (1 * 1) = _; dsimp only; omega, b⟩
  · obtain ⟨l, a, b⟩ := Nt_F3 h (Nat.le_refl _)
    exact ⟨l, fun t => by rw [← a]; show F3 X Y W (t7 t) t 1 * 1 = _; dsimp only; omega, b⟩
  · exact Nt_FF (h4 rfl)
theorem st_loc {X Y W : Nat → Int} {n : Nat} {w : Nat → Int64} {s : Int} (h1 : 1 ≤ n) (hn : n ≤ 4) (hr : RowOK X Y W n) (hs : s = 1 ∨ s = -1) (h : CG (pw id w 49) (fun t => s * Fz n X Y W (t7 t) t 1)) : sS (fun a b => ci w (7 * a + b)) ≤ 18014398509481984 := by
  obtain ⟨ev, sz, su⟩ := sl_ex h1 hn hr hs h
  obtain ⟨l, hl, bl_⟩ := Nt_Fz h1 hn hr.2.1 hr.2.2.1
  have s6 : SUi (ci w) 6 := SUi_le (by omega) (SU_ci (by omega) su)
  have e : ∀ i, gd (l6 (fun a b => ci w (7 * a + b))) i = gd (l.map (fun x => s * x)) i := evl_uq (fun t => by rw [evl_l6, ← lfi_h6 s6, evl_map, ← hl t]; exact ev t)
  rw [sS_l1, l1_gd _ _ e, l1_map]
  have : s.natAbs = 1 := by rcases hs with r | r <;> rw [r] <;> rfl
  rw [this]
  omega
theorem st_env {N : Nat} {X Y W : Nat → Int} {T : Nat → Nat → Int} (hT : TN N X Y W T) {w : Nat → Int64} {s : Int} (hs : s = 1 ∨ s = -1) (h : CG (pw id w 49) (fun t => s * Fe N X Y W (t7 t) t 1)) : sS (fun a b => ci w (7 * a + b)) ≤ 18014398509481984 := by
  obtain ⟨ex, _, _⟩ := sl_ez hT hs h
  refine Nat.le_trans (sS_mono (t := T) (fun a b hab => ?_)) (Nat.le_trans (sS_b hT.2.2.1) (by decide))
  show (w (7 * a + b)).toInt.natAbs ≤ _
  rw [ex _ (by omega), gd_l6 T a b hab]
  rcases hs with e | e <;> rw [e] <;> omega
/-- the true form, up to a number -/
def PHI (Φ : Int → Int → Int) (w : Nat → Int64) : Prop := ∀ (f : Nat → Int64) (c : Int), c ≠ 0 → (∀ i, i < 49 → (w i).toInt = c * (f i).toInt) → ∃ c' : Int, c' ≠ 0 ∧ ∀ x y : Int, Φ x y = c' * hom6 (fun a b => ci f (7 * a + b)) x y 1
theorem phi_loc {X Y W : Nat → Int} {n : Nat} {w : Nat → Int64} {s : Int} (h1 : 1 ≤ n) (hn : n ≤ 4) (hr : RowOK X Y W n) (hs : s = 1 ∨ s = -1) (h : CG (pw id w 49) (fun t => s * Fz n X Y W (t7 t) t 1)) : PHI (fun x y => Fz n X Y W x y 1) w := fun f c c0 hw => by
  obtain ⟨ev, sz, su⟩ := sl_ex h1 hn hr hs h
  have hsq : s * s = 1 := by rcases hs with e | e <;> rw [e] <;> rfl
  have sc0 : s * c ≠ 0 := fun z => by
    rcases Int.mul_eq_zero.mp z with y | y
    · rcases hs with e | e <;> omega
    · exact c0 y
  have hf : ∀ t, s * c * evl (lfi (ci f) 49) t = Fz n X Y W (t7 t) t 1 := fun t => by
    have e1 : evl (lsf w 49) t = c * evl (lfi (ci f) 49) t := by
      rw [← evl_map]
      exact evl_gd (fun i => by
        rw [gd_map, gd_lsf, gd_lfi]
        by_cases hi : i < 49
        · rw [if_pos hi, if_pos hi]
          exact hw i hi
        · rw [if_neg hi, if_neg hi, Int.mul_zero]) t
    rw [Int.mul_assoc, ← e1, ev t, ← Int.mul_assoc, hsq, Int.one_mul]
  have sun : SU f n := fun q a b d => by
    have e := hw q.toNat (by omega)
    rw [su q a b d, show (0 : Int64).toInt = 0 from rfl] at e
    exact i64_z ((Int.mul_eq_zero.mp e.symm).resolve_left c0)
  have s4 : SUi (ci f) 4 := SUi_le (by omega) (SU_ci (by omega) sun)
  refine ⟨s * c, sc0, fun x y => ?_⟩
  rw [← qg_h6 s4]
  exact Fz_f hf x y 1
theorem phi_env {N : Nat} {X Y W : Nat → Int} {T : Nat → Nat → Int} (hT : TN N X Y W T) {w : Nat → Int64} {s : Int} (hs : s = 1 ∨ s = -1) (h : CG (pw id w 49) (fun t => s * Fe N X Y W (t7 t) t 1)) : PHI (fun x y => Fe N X Y W x y 1) w := fun f c c0 hw => by
  obtain ⟨ex, sz, su⟩ := sl_ez hT hs h
  have hsq : s * s = 1 := by rcases hs with e | e <;> rw [e] <;> rfl
  have sc0 : s * c ≠ 0 := fun z => by
    rcases Int.mul_eq_zero.mp z with y | y
    · rcases hs with e | e <;> omega
    · exact c0 y
  refine ⟨s * c, sc0, fun x y => ?_⟩
  show Fe N X Y W x y 1 = _
  rw [hT.2.1 x y]
  exact hom6_mul (fun a b hab => by
    have e := ex (7 * a + b) (by omega)
    rw [hw _ (by omega), gd_l6 T a b hab] at e
    show T a b = s * c * (f (7 * a + b)).toInt
    rw [Int.mul_assoc, e, ← Int.mul_assoc, hsq, Int.one_mul]) x y 1
/-- the class's result is the true one -/
def VBD (E : Nat → Int) (D : Nat) : Prop := ∀ p q s : Int, PLc p q s → (Vl E D p q s).natAbs ≤ 9000000000000000000
def RSc (Φ : Int → Int → Int) (root : Nat → Int64) (b2 k : Int) : Prop := RES Φ k.toNat (ci (pcl root)) b2.toNat ∧ (0 ≤ b2 ∧ b2 ≤ 6) ∧ (1 ≤ k ∧ k ≤ 6) ∧ SUi (ci (pcl root)) b2.toNat ∧ VBD (ci (pcl root)) b2.toNat
theorem FRC_res {Φ : Int → Int → Int} {w0 root : Nat → Int64} {b2 k : Int} (hΦ : PHI Φ (pcl w0)) (hV : VBw (pcl w0)) (h : FRC w0 root b2 k) : RSc Φ root b2 k := by
  obtain ⟨f, b, fb, hpm, hb, hk, hr, hno⟩ := h
  have hf := PMc_fst (by omega) hpm
  obtain ⟨⟨c, c0, hw⟩, hp, su, hF, hpos⟩ := hpm
  have fi := fiO_at (b := b) (fb := fb) (by omega) hF.1
  rw [fi.1, fi.2.1] at hf
  obtain ⟨c', c0', hc'⟩ := hΦ (pcl f) c c0 hw
  have suf : SUi (ci (pcl f)) b.toNat := SU_ci (by omega) su
  have hvf : VBD (ci (pcl f)) b.toNat := hV (pcl f) c b.toNat c0 hw hp (by omega) suf ⟨(fiO b fb).toNat, by omega, by omega, by rw [pcl_fi f (by omega) hF.1]; exact hF.2.1⟩
  have hb6 : b2 ≤ b ∧ 0 ≤ b2 := by
    rcases hr with ⟨_, e, _⟩ | ⟨a, e, _⟩
    · omega
    · have := b2_b ⟨a, by omega⟩ hb e
      omega
  have key : RES Φ k.toNat (ci (pcl root)) b2.toNat ∧ SUi (ci (pcl root)) b2.toNat ∧ VBD (ci (pcl root)) b2.toNat := by
    have hn : ∀ k', k.toNat < k' → k' ≤ (b - fb).toNat + fb.toNat → ¬ ∃ E', ROT k' (ci (pcl f)) (b - fb).toNat fb.toNat E' := fun k' h1 h2 => by
      have := hno (k' : Int) (by omega) (by omega)
      unfold NRT RT0 at this
      rw [fi.1, fi.2.1, Int.toNat_natCast] at this
      exact this
    have hprm : PRM Φ (ci (pcl f)) (b - fb).toNat fb.toNat := ⟨⟨c', c0', hc'⟩, hp, SUi_le (by omega) suf, hf⟩
    rcases hr with ⟨e1, e2, e3⟩ | ⟨a, e, r⟩
    · have er : ci (pcl root) = ci (pcl f) := by rw [show pcl root = pcl f from funext (pcl_c e3)]
      refine ⟨⟨_, _, _, hprm, by omega, by omega, ?_, Or.inl ⟨by omega, fun i _ => by rw [er]⟩, hn⟩, by rw [er, e2]; exact suf, by rw [er, e2]; exact hvf⟩
      rw [e1, show (1 : Int).toNat = 1 from rfl, Nat.div_one]
      omega
    · unfold RT0 at r
      rw [fi.1, fi.2.1] at r
      have kd := kdiv (by omega) r.2.1.1 r.2.1.2
      have eb : k.toNat * b2.toNat = b.toNat := by
        have : ((k.toNat * b2.toNat : Nat) : Int) = b := by rw [Int.natCast_mul, Int.toNat_of_nonneg (by omega), Int.toNat_of_nonneg hb6.2, Int.mul_comm, e]
        omega
      have es : (b - fb).toNat + fb.toNat = b.toNat := by have := hF.1; omega
      have ed : (b - fb).toNat / k.toNat + fb.toNat / k.toNat = b2.toNat := by
        have t := kd.2.2
        rw [es, ← eb] at t
        exact Nat.eq_of_mul_eq_mul_left (by omega) t
      have sE : SUi (ci (pcl root)) b2.toNat := by
        have := r.2.2.1
        rw [ed] at this
        exact this
      refine ⟨⟨_, _, _, hprm, by omega, by omega, ?_, Or.inr r, hn⟩, sE, fun p q s hpl => Nat.le_trans (V_le (k := k.toNat) (by omega) eb.symm (by omega) sE suf r.2.2.2.2.2 hpl.2.2.1) (hvf p q s hpl)⟩
      rw [es, ← eb]
      exact (Nat.mul_div_cancel_left _ (by omega)).symm
  exact ⟨key.1, by omega, by omega, key.2⟩
theorem row_okc {L L2 : Nat → Nat → Int64} {n : Int} (hb : bL L) (hq : FRs L (fun a => L2 (3 + a))) (hp : HP (fun a => L2 (3 + a)) n) : RowOK (ti (L2 3)) (ti (L2 4)) (ti (L2 5)) n.toNat := by
  obtain ⟨g, d, hd, tg, h⟩ := FRs_q hb hq
  obtain ⟨a1, a2, a3⟩ := hp
  refine RowOK_q (F := fun a => L2 (3 + a)) hd (fun a ha => ⟨(h a ha).1, (h a ha).2.1⟩) (by omega) (fun a ha i hi => ?_) (fun h0 => ?_)
  · by_cases q : i < 5
    · have k := a2 (i : Int) (by omega) (by omega)
      rw [Int.toNat_natCast] at k
      rw [ti_0 q]
      have : a = 0 ∨ a = 1 ∨ a = 2 := by omega
      rcases this with rfl | rfl | rfl
      · exact k.1
      · exact k.2.1
      · exact k.2.2
    · exact ti_hi _ i (by omega)
  · have k := a3 (by omega)
    apply Classical.byContradiction
    intro z
    apply k
    have zz : ∀ a, a < 3 → L2 (3 + a) n.toNat = 0 := fun a ha => Classical.byContradiction fun y => z ⟨a, ha, fun e => y ((ti_0 (f := L2 (3 + a)) (by omega)).mp e)⟩
    exact ⟨zz 0 (by decide), zz 1 (by decide), zz 2 (by decide)⟩
theorem row_56 {L L2 : Nat → Nat → Int64} {n : Int} (hb : bL L) (hq : FRs L (fun a => L2 (3 + a))) (hp : HP (fun a => L2 (3 + a)) n) (h3 : n.toNat = 3) : ∀ i, (ti (L2 3) i).natAbs ≤ 56 ∧ (ti (L2 4) i).natAbs ≤ 56 ∧ (ti (L2 5) i).natAbs ≤ 56 := by
  obtain ⟨g, d, hd, tg, h⟩ := FRs_q hb hq
  obtain ⟨a1, a2, a3⟩ := hp
  have key : ∀ a, a < 3 → ∀ i, (ti (L2 (3 + a)) i).natAbs ≤ 56 := fun a ha i => by
    obtain ⟨⟨q0, q1, q2, q3, q4⟩, h0, _⟩ := h a ha
    have d1 : d ≤ 1 := by
      apply Classical.byContradiction
      intro z
      apply a3 (by omega)
      have zz : ∀ a, a < 3 → L2 (3 + a) n.toNat = 0 := fun a ha => by
        have := (h a ha).1.2.2.2.2 n.toNat (by omega)
        exact (ti_0 (f := L2 (3 + a)) (by omega)).mp this
      exact ⟨zz 0 (by decide), zz 1 (by decide), zz 2 (by decide)⟩
    have : d = 0 ∨ d = 1 := by omega
    rcases this with r | r
    · exact Nat.le_trans (h0 r i) (by decide)
    · exact q1 (by omega) i
  exact fun i => ⟨key 0 (by decide) i, key 1 (by decide) i, key 2 (by decide) i⟩
def PHl (L : Nat → Nat → Int64) (n : Int) : Int → Int → Int := fun x y => Fz n.toNat (ti (L 3)) (ti (L 4)) (ti (L 5)) x y 1
def PHe (L : Nat → Nat → Int64) (n : Int) : Int → Int → Int := fun x y => Fe n.toNat (ti (L 0)) (ti (L 1)) (ti (L 2)) x y 1
def LIw (G : Nat → Int) (L : Nat → Nat → Int64) (B : Nat → Int) (J : Nat → Nat → Int64) : Prop := G 2 = 1 → ¬ G 3 = 0 → ∃ n : Int, HP (fun a => L (3 + a)) n ∧ RSc (PHl L n) (J 40) (B 40) (G 1)
def LIx (G : Nat → Int) (L : Nat → Nat → Int64) (B : Nat → Int) (J : Nat → Nat → Int64) : Prop := G 5 = 1 → ¬ G 6 = 0 → ∃ n : Int, HP L n ∧ RSc (PHe L n) (J 41) (B 41) (G 4)
theorem pcl_cg {f : Nat → Int64} {F : Int → Int} (h : CG (pw ixs f 28) F) : CG (pw id (pcl f) 49) F := CG.tr (CG.ex (fun t => (pcl_pw f t).symm)) h
theorem loc_s {L L2 : Nat → Nat → Int64} {f : Nat → Int64} {sz : Int} (hb : bL L) (h4 : FRs L (fun a => L2 (3 + a))) (ht : TK L2 sz) (hs : 1 ≤ sz ∧ sz ≤ 4) (hr : REp f L2 sz) : sS (fun a b => ci (pcl f) (7 * a + b)) ≤ 18014398509481984 ∧ HP (fun a => L2 (3 + a)) sz ∧ PHI (PHl L2 sz) (pcl f) ∧ VBw (pcl f) := by
  have hp : HP (fun a => L2 (3 + a)) sz := by
    rcases ht with ⟨z, _⟩ | z
    · omega
    · exact z.1
  have ro := row_okc hb h4 hp
  exact ⟨st_loc (by omega) (by omega) ro sg2_e (pcl_cg hr), hp, phi_loc (by omega) (by omega) ro sg2_e (pcl_cg hr), vb_loc (by omega) (by omega) ro (row_56 hb h4 hp) sg2_e (pcl_cg hr)⟩
theorem env_s {L : Nat → Nat → Int64} {w : Nat → Int64} {sz : Int} (hb : bL L) (ht : TKz L sz) (hs : 1 ≤ sz ∧ sz ≤ 3) (hr : REpz w (fun t => dva (zL3 L t)) (fun t => dvn (sz + 1).toNat (zL3 L t)) sz) : sS (fun a b => ci (pcl w) (7 * a + b)) ≤ 18014398509481984 ∧ HP L (sz + 1) ∧ PHI (PHe L (sz + 1)) (pcl w) ∧ VBw (pcl w) := by
  obtain ⟨m, hm, q⟩ := ht
  have em : m = sz + 1 := by omega
  have h2 : CG (pw ixs w 28) (fun t => sg2 sz.toNat * Fe (sz + 1).toNat (ti (L 0)) (ti (L 1)) (ti (L 2)) (t7 t) t 1) := hr.tr (CG.ex (fun t => by
    show _ = sg2 sz.toNat * Fq (dva (zL3 L t)) (dvn (sz + 1).toNat (zL3 L t)) ((sz + 1).toNat - 1)
    rw [show (sz + 1).toNat - 1 = sz.toNat by omega]))
  obtain ⟨T, hT⟩ := TN_ex (N := (sz + 1).toNat) (by omega) (hb 0 (by decide)) (hb 1 (by decide)) (hb 2 (by decide))
  exact ⟨st_env hT sg2_e (pcl_cg h2), by rw [← em]; exact hm, phi_env hT sg2_e (pcl_cg h2), vb_env (by omega) (hb 0 (by decide)) (hb 1 (by decide)) (hb 2 (by decide)) hT sg2_e (pcl_cg h2)⟩
theorem liw_1 {L2 : Nat → Nat → Int64} {G2 B2 : Nat → Int} {J2 : Nat → Nat → Int64} {sz : Int} {f root : Nat → Int64} {b2 k : Int} (h : HP (fun a => L2 (3 + a)) sz ∧ PHI (PHl L2 sz) (pcl f) ∧ VBw (pcl f)) (hf : FRC f root b2 k) (ej : J2 40 = root) (eb : B2 40 = b2) (eg : G2 1 = k) : LIw G2 L2 B2 J2 := fun _ _ => ⟨sz, h.1, by rw [ej, eb, eg]; exact FRC_res h.2.1 h.2.2 hf⟩
theorem lix_1 {L2 : Nat → Nat → Int64} {G2 B2 : Nat → Int} {J2 : Nat → Nat → Int64} {n : Int} {f root : Nat → Int64} {b2 k : Int} (h : HP L2 n ∧ PHI (PHe L2 n) (pcl f) ∧ VBw (pcl f)) (hf : FRC f root b2 k) (ej : J2 41 = root) (eb : B2 41 = b2) (eg : G2 4 = k) : LIx G2 L2 B2 J2 := fun _ _ => ⟨n, h.1, by rw [ej, eb, eg]; exact FRC_res h.2.1 h.2.2 hf⟩
theorem LIw_t {G G2 : Nat → Int} {L L2 : Nat → Nat → Int64} {B B2 : Nat → Int} {J J2 : Nat → Nat → Int64} (h : LIw G L B J) (g1 : G2 1 = G 1) (g2 : G2 2 = G 2) (g3 : G2 3 = G 3) (hl : G2 2 = 1 → ∀ a, a < 3 → ∀ j : Int, 0 ≤ j → j < 5 → L (3 + a) j.toNat = L2 (3 + a) j.toNat) (hj : J2 40 = J 40) (hb : B2 40 = B 40) : LIw G2 L2 B2 J2 := fun q1 q2 => by
  obtain ⟨n, hp, hr⟩ := h (by omega) (by omega)
  have e := hl q1
  have et : ∀ a, a < 3 → ti (L (3 + a)) = ti (L2 (3 + a)) := fun a ha => ti_ext (fun j x y => e a ha j x (by omega))
  refine ⟨n, HP_c (fun a ha j x y => e a ha j x y) hp, ?_⟩
  rw [hj, hb, g1]
  unfold PHl at *
  rw [← et 0 (by decide), ← et 1 (by decide), ← et 2 (by decide)]
  exact hr
theorem LIw_k {G G2 : Nat → Int} {L L2 : Nat → Nat → Int64} {B B2 : Nat → Int} {J J2 : Nat → Nat → Int64} (h : LIw G L B J) (g1 : G2 1 = G 1) (g2 : G2 2 = G 2) (g3 : G2 3 = G 3) (hl : ∀ k, k < 6 → L2 k = L k) (hj : J2 40 = J 40) (hb : B2 40 = B 40) : LIw G2 L2 B2 J2 := LIw_t h g1 g2 g3 (fun _ a ha j x y => by rw [hl (3 + a) (by omega)]) hj hb
theorem LIw_f {G G2 : Nat → Int} {L L2 : Nat → Nat → Int64} {B B2 : Nat → Int} {J J2 : Nat → Nat → Int64} (h : LIw G L B J) (hli : LI G L) (g1 : G2 1 = G 1) (g2 : G2 2 = G 2) (g3 : G2 3 = G 3) (h4 : FRs L (fun a => L2 (3 + a))) (hj : J2 40 = J 40) (hb : B2 40 = B 40) : LIw G2 L2 B2 J2 := LIw_t h g1 g2 g3 (fun q => FRs_uq (fun _ _ _ _ => rfl) (hli (by omega)).1 h4) hj hb
theorem LIx_k {G G2 : Nat → Int} {L L2 : Nat → Nat → Int64} {B B2 : Nat → Int} {J J2 : Nat → Nat → Int64} (h : LIx G L B J) (g4 : G2 4 = G 4) (g5 : G2 5 = G 5) (g6 : G2 6 = G 6) (hl : ∀ k, k < 3 → L2 k = L k) (hj : J2 41 = J 41) (hb : B2 41 = B 41) : LIx G2 L2 B2 J2 := fun q1 q2 => by
  obtain ⟨n, hp, hr⟩ := h (by omega) (by omega)
  refine ⟨n, HP_c (fun a ha j _ _ => by rw [hl a ha]) hp, ?_⟩
  rw [hj, hb, g4]
  unfold PHe at *
  rw [hl 0 (by decide), hl 1 (by decide), hl 2 (by decide)]
  exact hr
/-- an answer told by a curve of the class -/
def RSPc (L L2 : Nat → Nat → Int64) (sort : Int) (A : Nat → (Nat → Int) → Nat → Prop) (N : Prop) : Prop := (sort = 0 → FRs L (fun a => L2 (3 + a)) ∧ (HSc L2 → ∃ n : Int, HP (fun a => L2 (3 + a)) n ∧ ∃ (k D : Nat) (E : Nat → Int), k ≤ 6 ∧ D ≤ 6 ∧ SUi E D ∧ RES (PHl L2 n) k E D ∧ A k E D) ∧ (¬ HSc L2 → N)) ∧ (sort = 1 → (HEc L → ∃ n : Int, HP L n ∧ ∃ (k D : Nat) (E : Nat → Int), k ≤ 6 ∧ D ≤ 6 ∧ SUi E D ∧ RES (PHe L n) k E D ∧ A k E D) ∧ (¬ HEc L → N))
theorem rsc_l {G B : Nat → Int} {L L2 J : Nat → Nat → Int64} {sort : Int} {A : Nat → (Nat → Int) → Nat → Prop} {N : Prop} (hli : LI G L2) (h2 : G 2 = 1) (hlw : LIw G L2 B J) (hL : ∀ k, k < 3 → L2 k = L k) (h3 : ¬ G 3 = 0) (hs : sort = 0) (hA : 0 ≤ B 40 → B 40 ≤ 6 → 1 ≤ G 1 → SUi (ci (pcl (J 40))) (B 40).toNat → VBD (ci (pcl (J 40))) (B 40).toNat → A (G 1).toNat (ci (pcl (J 40))) (B 40).toNat) : RSPc L L2 sort A N := by
  refine ⟨fun _ => ?_, fun q => by omega⟩
  obtain ⟨h1, hf⟩ := hli h2
  obtain ⟨n, hp, hr, b1, b2, su, vb⟩ := hlw h2 h3
  refine ⟨FRs_c (fun a ha => hL a ha) (fun _ _ => rfl) h1, fun _ => ⟨n, hp, _, _, _, by omega, by omega, su, hr, hA b1.1 b1.2 b2.1 su vb⟩, fun q => ?_⟩
  rcases hf with ⟨_, r⟩ | ⟨r, _⟩
  · exact absurd r q
  · exact absurd r h3
theorem rsc_ln {G : Nat → Int} {L L2 : Nat → Nat → Int64} {sort : Int} {A : Nat → (Nat → Int) → Nat → Prop} {N : Prop} (hli : LI G L2) (h2 : G 2 = 1) (hL : ∀ k, k < 3 → L2 k = L k) (h3 : G 3 = 0) (hs : sort = 0) (hN : N) : RSPc L L2 sort A N := by
  refine ⟨fun _ => ?_, fun q => by omega⟩
  obtain ⟨h1, hf⟩ := hli h2
  refine ⟨FRs_c (fun a ha => hL a ha) (fun _ _ => rfl) h1, fun q => ?_, fun _ => hN⟩
  rcases hf with ⟨r, _⟩ | ⟨_, r⟩
  · omega
  · exact absurd q r
theorem rsc_e {G B : Nat → Int} {L L2 J : Nat → Nat → Int64} {sort : Int} {A : Nat → (Nat → Int) → Nat → Prop} {N : Prop} (hle : LIe G L2) (h5 : G 5 = 1) (hlx : LIx G L2 B J) (hL : ∀ k, k < 3 → L2 k = L k) (h6 : ¬ G 6 = 0) (hs : sort = 1) (hA : 0 ≤ B 41 → B 41 ≤ 6 → 1 ≤ G 4 → SUi (ci (pcl (J 41))) (B 41).toNat → VBD (ci (pcl (J 41))) (B 41).toNat → A (G 4).toNat (ci (pcl (J 41))) (B 41).toNat) : RSPc L L2 sort A N := by
  refine ⟨fun q => by omega, fun _ => ?_⟩
  have hf := hle h5
  obtain ⟨n, hp, hr, b1, b2, su, vb⟩ := hlx h5 h6
  have ep : PHe L2 n = PHe L n := by
    unfold PHe
    rw [hL 0 (by decide), hL 1 (by decide), hL 2 (by decide)]
  rw [ep] at hr
  refine ⟨fun _ => ⟨n, HP_c (fun a ha j _ _ => by rw [hL a ha]) hp, _, _, _, by omega, by omega, su, hr, hA b1.1 b1.2 b2.1 su vb⟩, fun q => ?_⟩
  rcases hf with ⟨_, r⟩ | ⟨r, _⟩
  · exact absurd (HEc_c (fun k hk => (hL k hk).symm) r) q
  · exact absurd r h6
theorem rsc_en {G : Nat → Int} {L L2 : Nat → Nat → Int64} {sort : Int} {A : Nat → (Nat → Int) → Nat → Prop} {N : Prop} (hle : LIe G L2) (h5 : G 5 = 1) (hL : ∀ k, k < 3 → L2 k = L k) (h6 : G 6 = 0) (hs : sort = 1) (hN : N) : RSPc L L2 sort A N := by
  refine ⟨fun q => by omega, fun _ => ⟨fun q => ?_, fun _ => hN⟩⟩
  rcases hle h5 with ⟨r, _⟩ | ⟨_, r⟩
  · omega
  · exact absurd (HEc_c hL q) r
