/-! the values of the row at u, v -/
def HS (fr : Nat → Nat → Int64) (n : Int) : Prop := 1 ≤ n ∧ (∃ i, i < 5 ∧ ti (fr 2) i ≠ 0) ∧ NC (ti (fr 0)) (ti (fr 1)) (ti (fr 2)) n.toNat
def HT (F : Nat → Int) (I : Nat → Nat → Int32) (J : Nat → Nat → Int64) : Prop := (HS (fP (J 0)) (F 1) → I 1 0 = 1 ∧ TR (fI (J 0) 0) (fI (J 0) 1) (fI (J 0) 2) (F 1).toNat (J 1) (I 2 0)) ∧ (¬ HS (fP (J 0)) (F 1) → I 1 0 = 0)
def TI (F : Nat → Int) (I : Nat → Nat → Int32) (J : Nat → Nat → Int64) : Prop := F 2 = 1 → HT F I J
theorem foK_spec (f : Nat → Int64) : ∀ N : Nat, (∀ k : Nat, k < N → foK f N < k → f k = 0 ∧ f (5 + k) = 0 ∧ f (10 + k) = 0) ∧ (0 < foK f N → ¬ (f (foK f N).toNat = 0 ∧ f (5 + (foK f N).toNat) = 0 ∧ f (10 + (foK f N).toNat) = 0)) ∧ 0 ≤ foK f N ∧ (foK f N < N ∨ foK f N = 0)
  | 0 => ⟨fun k hk => by omega, fun h => absurd (show (0 : Int) < 0 from h) (by decide), Int.le_refl 0, Or.inr rfl⟩
  | N + 1 => by
    obtain ⟨i1, i2, i3, i4⟩ := foK_spec f N
    by_cases q : f N ≠ 0 ∨ f (5 + N) ≠ 0 ∨ f (10 + N) ≠ 0
    · have e : foK f (N + 1) = N := if_pos q
      rw [e]
      refine ⟨fun k hk hlt => by omega, fun _ z => ?_, by omega, Or.inl (by omega)⟩
      rw [Int.toNat_natCast] at z
      rcases q with q | q | q
      · exact q z.1
      · exact q z.2.1
      · exact q z.2.2
    · have e : foK f (N + 1) = foK f N := if_neg q
      rw [e]
      refine ⟨fun k hk hlt => ?_, i2, i3, by omega⟩
      by_cases e2 : k = N
      · rw [e2]
        exact ⟨Classical.byContradiction fun z => q (Or.inl z), Classical.byContradiction fun z => q (Or.inr (Or.inl z)), Classical.byContradiction fun z => q (Or.inr (Or.inr z))⟩
      · exact i1 k (by omega) hlt
theorem moK_spec (r : Nat → Int32) : ∀ N : Nat, (∀ k : Nat, k < N → moK r N < k → r k = 0 ∧ r (5 + k) = 0 ∧ r (10 + k) = 0) ∧ (0 < moK r N → ¬ (r (moK r N).toNat = 0 ∧ r (5 + (moK r N).toNat) = 0 ∧ r (10 + (moK r N).toNat) = 0)) ∧ 0 ≤ moK r N ∧ (moK r N < N ∨ moK r N = 0)
  | 0 => ⟨fun k hk => by omega, fun h => absurd (show (0 : Int) < 0 from h) (by decide), Int.le_refl 0, Or.inr rfl⟩
  | N + 1 => by
    obtain ⟨i1, i2, i3, i4⟩ := moK_spec r N
    by_cases q : r N ≠ 0 ∨ r (5 + N) ≠ 0 ∨ r (10 + N) ≠ 0
    · have e : moK r (N + 1) = N := if_pos q
      rw [e]
      refine ⟨fun k hk hlt => by omega, fun _ z => ?_, by omega, Or.inl (by omega)⟩
      rw [Int.toNat_natCast] at z
      rcases q with q | q | q
      · exact q z.1
      · exact q z.2.1
      · exact q z.2.2
    · have e : moK r (N + 1) = moK r N := if_neg q
      rw [e]
      refine ⟨fun k hk hlt => ?_, i2, i3, by omega⟩
      by_cases e2 : k = N
      · rw [e2]
        exact ⟨Classical.byContradiction fun z => q (Or.inl z), Classical.byContradiction fun z => q (Or.inr (Or.inl z)), Classical.byContradiction fun z => q (Or.inr (Or.inr z))⟩
      · exact i1 k (by omega) hlt
theorem row_ok {r : Nat → Int32} {F : Nat → Int} {f : Nat → Int64} (hb : bR r) (hq : FQ r F f) : RowOK (fI f 0) (fI f 1) (fI f 2) (F 1).toNat ∧ ∀ i, i < 15 → (f i).toInt.natAbs ≤ 105 := by
  obtain ⟨hfr, hn⟩ := hq
  obtain ⟨g, d, hd, tg, h⟩ := FRs_q (fun a ha => rp_bx hb ha) hfr
  obtain ⟨s1, s2, s3, s4⟩ := foK_spec f 5
  rw [← hn] at s1 s2 s3 s4
  refine ⟨RowOK_q hd (fun a ha => ⟨(h a ha).1, (h a ha).2.1⟩) (by omega) (fun a ha i hi => ?_) (fun h0 => ?_), fun i hi => ?_⟩
  · by_cases q : i < 5
    · have k := s1 i q (by omega)
      rw [ti_0 q]
      have : a = 0 ∨ a = 1 ∨ a = 2 := by omega
      rcases this with rfl | rfl | rfl
      · show f (5 * 0 + i) = 0
        rw [show 5 * 0 + i = i by omega]
        exact k.1
      · show f (5 * 1 + i) = 0
        rw [show 5 * 1 + i = 5 + i by omega]
        exact k.2.1
      · show f (5 * 2 + i) = 0
        rw [show 5 * 2 + i = 10 + i by omega]
        exact k.2.2
    · exact ti_hi _ i (by omega)
  · have k := s2 (by omega)
    apply Classical.byContradiction
    intro z
    apply k
    have zz : ∀ a, a < 3 → f (5 * a + (F 1).toNat) = 0 := fun a ha => Classical.byContradiction fun y => z ⟨a, ha, fun e => y ((ti_0 (f := fP f a) (by omega)).mp e)⟩
    have z0 := zz 0 (by decide)
    have z1 := zz 1 (by decide)
    have z2 := zz 2 (by decide)
    rw [show 5 * 0 + (F 1).toNat = (F 1).toNat by omega] at z0
    exact ⟨z0, z1, z2⟩
  · have e : f i = fP f (i / 5) (i % 5) := by
      show _ = f (5 * (i / 5) + i % 5)
      congr 1
      omega
    have := (h (i / 5) (by omega)).1.1 (i % 5)
    rw [ti_lo _ (by omega), ← e] at this
    exact this
theorem conv_hi {g : Nat → Int} {d : Nat} (hg : ∀ i, d < i → g i = 0) : ∀ (c : List Int) (J : Nat), (∀ j, J < j → gd c j = 0) → ∀ i, J + d < i → conv c g i = 0
  | [], _, _, _, _ => rfl
  | a :: c, J, h, 0, hi => by omega
  | a :: c, 0, h, i + 1, hi => by
    rw [conv_s, hg (i + 1) (by omega), Int.mul_zero, Int.zero_add]
    exact conv_ll g c (fun j => h (j + 1) (by omega)) i
  | a :: c, J + 1, h, i + 1, hi => by
    rw [conv_s, hg (i + 1) (by omega), Int.mul_zero, Int.zero_add]
    exact conv_hi hg c J (fun j hj => h (j + 1) (by omega)) i (by omega)
def l5 (X : Nat → Int) : List Int := [X 0, X 1, X 2, X 3, X 4]
theorem evl_l5 (X : Nat → Int) (t : Int) : evl (l5 X) t = pv X t := by
  unfold l5 pv
  simp only [evl]
  grind
theorem gd_l5 {X : Nat → Int} (h : ∀ i, 5 ≤ i → X i = 0) : gd (l5 X) = X := funext fun i => by
  match i with
  | 0 => rfl
  | 1 => rfl
  | 2 => rfl
  | 3 => rfl
  | 4 => rfl
  | i + 5 => rw [h (i + 5) (by omega)]; rfl
theorem pv_conv {X g q : Nat → Int} (hX : ∀ i, 5 ≤ i → X i = 0) (hg : ∀ i, 5 ≤ i → g i = 0) (hq : ∀ i, 5 ≤ i → q i = 0) (h : ∀ t, pv X t = pv g t * pv q t) (i : Nat) : X i = conv (l5 g) q i := by
  have u := evl_uq (l := l5 X) (m := lmul (l5 g) (l5 q)) (fun t => by rw [evl_mul, evl_l5, evl_l5, evl_l5, h t]) i
  rw [gd_mul, gd_l5 hX, gd_l5 hq] at u
  exact u
/-- the row's degree is the freed row's and the divisor's -/
theorem row_deg {r : Nat → Int32} {F : Nat → Int} {f : Nat → Int64} (hb : bR r) (hq : FQ r F f) (h1 : 1 ≤ F 1) : ∃ (g : Nat → Int) (d : Nat), d ≤ 4 ∧ (∀ i, d < i → g i = 0) ∧ (moK r 5).toNat = d + (F 1).toNat ∧ ∀ a, a < 3 → ∀ t, pv (ti (rP r a)) t = pv g t * pv (fI f a) t := by
  have hro := (row_ok hb hq).1
  obtain ⟨hfr, hn⟩ := hq
  obtain ⟨g, d, hd, tg, h⟩ := FRs_q (fun a ha => rp_bx hb ha) hfr
  obtain ⟨s1, s2, s3, s4⟩ := foK_spec f 5
  obtain ⟨m1, m2, m3_, m4⟩ := moK_spec r 5
  rw [← hn] at s1 s2 s3 s4
  refine ⟨g, d, hd, tg.2, ?_, fun a ha => (h a ha).2.2⟩
  have zq : ∀ a, a < 3 → ∀ i, (F 1).toNat < i → fI f a i = 0 := fun a ha i hi => by
    have := hro.1 i hi
    have : a = 0 ∨ a = 1 ∨ a = 2 := by omega
    rcases this with rfl | rfl | rfl <;> omega
  have cv : ∀ a, a < 3 → ∀ i, ti (rP r a) i = conv (l5 g) (fI f a) i := fun a ha => pv_conv (ti_hi _) (fun i hi => tg.2 i (by omega)) (fun i hi => zq a ha i (by omega)) (h a ha).2.2
  have g5 := gd_l5 (X := g) (fun i hi => tg.2 i (by omega))
  have hi : ∀ a, a < 3 → ∀ i, d + (F 1).toNat < i → ti (rP r a) i = 0 := fun a ha i hi => by
    rw [cv a ha]
    exact conv_hi (zq a ha) (l5 g) d (fun j hj => by rw [g5]; exact tg.2 j hj) i hi
  have lo : ∃ a, a < 3 ∧ ti (rP r a) (d + (F 1).toNat) ≠ 0 := by
    have k := s2 (by omega)
    obtain ⟨a, ha, hne⟩ : ∃ a, a < 3 ∧ fI f a (F 1).toNat ≠ 0 := Classical.byContradiction fun z => by
      apply k
      have zz : ∀ a, a < 3 → f (5 * a + (F 1).toNat) = 0 := fun a ha => Classical.byContradiction fun y => z ⟨a, ha, fun e => y ((ti_0 (f := fP f a) (by omega)).mp e)⟩
      have z0 := zz 0 (by decide)
      rw [show 5 * 0 + (F 1).toNat = (F 1).toNat by omega] at z0
      exact ⟨z0, zz 1 (by decide), zz 2 (by decide)⟩
    refine ⟨a, ha, fun z => ?_⟩
    rw [cv a ha, conv_last (zq a ha) (l5 g) d (fun j hj => by rw [g5]; exact tg.2 j hj), g5] at z
    rcases Int.mul_eq_zero.mp z with y | y
    · exact tg.1 y
    · exact hne y
  have toI : ∀ a, a < 3 → ∀ i, i < 5 → (ti (rP r a) i = 0 ↔ r (5 * a + i) = 0) := fun a ha i hi5 => by
    rw [ti_0 hi5]
    exact i64_0
  have lt5 : d + (F 1).toNat < 5 := by
    obtain ⟨a, ha, hne⟩ := lo
    exact Classical.byContradiction fun z => hne (ti_hi _ _ (by omega))
  rcases Nat.lt_trichotomy (moK r 5).toNat (d + (F 1).toNat) with q | q | q
  · exfalso
    obtain ⟨a, ha, hne⟩ := lo
    have k := m1 (d + (F 1).toNat) lt5 (by omega)
    apply hne
    rw [toI a ha _ lt5]
    have : a = 0 ∨ a = 1 ∨ a = 2 := by omega
    rcases this with rfl | rfl | rfl
    · rw [show 5 * 0 + (d + (F 1).toNat) = d + (F 1).toNat by omega]
      exact k.1
    · exact k.2.1
    · exact k.2.2
  · exact q
  · exfalso
    have k := m2 (by omega)
    apply k
    have e := fun a ha => (toI a ha (moK r 5).toNat (by omega)).mp (hi a ha _ q)
    have e0 := e 0 (by decide)
    rw [show 5 * 0 + (moK r 5).toNat = (moK r 5).toNat by omega] at e0
    exact ⟨e0, e 1 (by decide), e 2 (by decide)⟩
/-- the value as a whole number -/
def hsm (X : Nat → Int) (n : Nat) (u v : Int) : Nat → Int
  | 0 => 0
  | K + 1 => hsm X n u v K + X K * u ^ K * v ^ (n - K)
theorem vs_cq {r : Nat → Int32} {a : Nat} (ha : a < 3) (u v : Int) (n : Nat) : ∀ K : Nat, K ≤ 5 → cq (vsum r a (zL u) (zL v) n K) (hsm (ti (rP r a)) n u v K)
  | 0, _ => cq_rf 0
  | K + 1, hK => by
    refine cq_add (vs_cq ha u v n K (by omega)) (cq_mul (cq_mul ?_ ?_) ?_)
    · have e : ti (rP r a) K = ((r (5 * a + K)).toInt64).toInt := ti_lo _ (by omega)
      rw [e, show (5 * (a : Int) + (K : Int)).toNat = 5 * a + K by omega]
      exact cq_rf _
    · rw [lpow_z]
      exact cq_zL _
    · rw [lpow_z, show ((n : Int) - (K : Int)).toNat = n - K by omega]
      exact cq_zL _
theorem hsm_b {X : Nat → Int} {u v : Int} {n : Nat} (hX : bx 7 X) (hu : -9 ≤ u ∧ u ≤ 9) (hv_ : -9 ≤ v ∧ v ≤ 9) (hn : n ≤ 4) : ∀ K : Nat, K ≤ n + 1 → (hsm X n u v K).natAbs ≤ K * 45927
  | 0, _ => Nat.zero_le _
  | K + 1, hK => by
    have ih := hsm_b hX hu hv_ hn K (by omega)
    have k1 := nm_b (nm_b (hX K) (pw_le hu K)) (pw_le hv_ (n - K))
    have k2 : 7 * 9 ^ K * 9 ^ (n - K) ≤ 45927 := by
      rw [Nat.mul_assoc, ← Nat.pow_add, show K + (n - K) = n by omega]
      have := Nat.pow_le_pow_right (n := 9) (by decide) hn
      omega
    show (hsm X n u v K + X K * u ^ K * v ^ (n - K)).natAbs ≤ (K + 1) * 45927
    omega
theorem hsm_hv {X : Nat → Int} {n : Nat} (hn : n ≤ 4) (u v : Int) : hsm X n u v (n + 1) = hv X n u v := by
  have : n = 0 ∨ n = 1 ∨ n = 2 ∨ n = 3 ∨ n = 4 := by omega
  rcases this with rfl | rfl | rfl | rfl | rfl <;> (simp [hsm, hv]; try grind)
theorem row_val {r : Nat → Int32} {F : Nat → Int} {f : Nat → Int64} (hb : bR r) (hq : FQ r F f) (h1 : 1 ≤ F 1) {u v : Int} (hu : -9 ≤ u ∧ u ≤ 9) (hv_ : -9 ≤ v ∧ v ≤ 9) : ∃ G : Int, ∀ a : Nat, a < 3 → (vOf r a u v).toInt = G * hv (fI f a) (F 1).toNat u v := by
  have hro := (row_ok hb hq).1
  obtain ⟨g, d, hd, zg, em, h⟩ := row_deg hb hq h1
  have mb := moK_b r 5
  have hF : F 1 ≤ 4 := by
    obtain ⟨_, _, s3, s4⟩ := foK_spec f 5
    rw [hq.2]
    omega
  refine ⟨hv g d u v, fun a ha => ?_⟩
  have e1 : (vOf r a u v).toInt = hv (ti (rP r a)) (moK r 5).toNat u v := by
    have c := vs_cq (r := r) ha u v (moK r 5).toNat ((moK r 5).toNat + 1) (by omega)
    rw [Int.toNat_of_nonneg mb.1] at c
    have b := hsm_b (n := (moK r 5).toNat) (rp_bx hb ha) hu hv_ (by omega) ((moK r 5).toNat + 1) (Nat.le_refl _)
    have b2 : ((moK r 5).toNat + 1) * 45927 ≤ 5 * 45927 := Nat.mul_le_mul (by omega) (Nat.le_refl _)
    unfold vOf
    rw [show (moK r 5 + 1).toNat = (moK r 5).toNat + 1 by omega, cq_small c (by omega) (by omega)]
    exact hsm_hv (by omega) u v
  rw [e1]
  obtain ⟨s1, s2, s3, s4⟩ := moK_spec r 5
  refine hv_mul (by omega) hd (by omega) em (fun i hi h5 => ?_) (fun i hi _ => zg i hi) (fun i hi _ => ?_) (h a ha) u v
  · have k := s1 i h5 (by omega)
    rw [ti_0 h5]
    show (r (5 * a + i)).toInt64 = 0
    rw [i64_0]
    have : a = 0 ∨ a = 1 ∨ a = 2 := by omega
    rcases this with rfl | rfl | rfl
    · rw [show 5 * 0 + i = i by omega]
      exact k.1
    · exact k.2.1
    · exact k.2.2
  · have := hro.1 i hi
    have : a = 0 ∨ a = 1 ∨ a = 2 := by omega
    rcases this with rfl | rfl | rfl <;> omega
/-- the trace is nothing at the mover's place -/
theorem tr_ts {r : Nat → Int32} {F : Nat → Int} {f tr : Nat → Int64} {D : Int} (hb : bR r) (hq : FQ r F f) (h1 : 1 ≤ F 1) {u v : Int} (hu : -9 ≤ u ∧ u ≤ 9) (hv_ : -9 ≤ v ∧ v ≤ 9) (hD : 0 ≤ D ∧ D ≤ 4) (hs : SU tr D) (ht : ∀ u v : Int, qg (c15 (fun i => (tr i).toInt)) (hv (fI f 0) (F 1).toNat u v) (hv (fI f 1) (F 1).toNat u v) (hv (fI f 2) (F 1).toNat u v) = 0) (hw : ¬ vOf r 2 u v = 0) : ts tr D.toNat (vOf r 0 u v).toInt (vOf r 1 u v).toInt (vOf r 2 u v).toInt 49 = 0 := by
  obtain ⟨G, hG⟩ := row_val hb hq h1 hu hv_
  have e := ts_qg (f := tr) (D := D.toNat) (by omega) (by rw [Int.toNat_of_nonneg hD.1]; exact hs) (vOf r 0 u v).toInt (vOf r 1 u v).toInt (vOf r 2 u v).toInt
  have g0 := hG 0 (by decide)
  have g1 := hG 1 (by decide)
  have g2 := hG 2 (by decide)
  have w0 : (vOf r 2 u v).toInt ≠ 0 := fun z => hw (i64_z z)
  have e2 : qg (c15 (fun i => (tr i).toInt)) (vOf r 0 u v).toInt (vOf r 1 u v).toInt (vOf r 2 u v).toInt = 0 := by
    have h3 := qg_s (c15 (fun i => (tr i).toInt)) G (hv (fI f 0) (F 1).toNat u v) (hv (fI f 1) (F 1).toNat u v) (hv (fI f 2) (F 1).toNat u v)
    rw [ht, Int.mul_zero] at h3
    have g0' : (vOf r 0 u v).toInt = G * hv (fI f 0) (F 1).toNat u v := g0
    have g1' : (vOf r 1 u v).toInt = G * hv (fI f 1) (F 1).toNat u v := g1
    have g2' : (vOf r 2 u v).toInt = G * hv (fI f 2) (F 1).toNat u v := g2
    rw [g0', g1', g2']
    exact h3
  rw [e2] at e
  rcases Int.mul_eq_zero.mp e with z | z
  · exact absurd z (Int.pow_ne_zero w0)
  · exact z
