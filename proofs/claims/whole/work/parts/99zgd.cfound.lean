def NRT (w : Nat → Int64) (k b f0 : Int) : Prop := ¬ ∃ E, RT0 (pcl w) k (fiO b f0) E
theorem mp_ge {w : Nat → Int64} {so s : Int} (e : so = s) (h : (0 : Int64) ≤ w so.toNat) : ¬ (w s.toNat).toInt < 0 := by
  rw [Int64.le_iff_toInt_le, e] at h
  have : (0 : Int64).toInt = 0 := rfl
  omega
theorem mp_lt {w : Nat → Int64} {so s : Int} (e : so = s) (h : ¬ (0 : Int64) ≤ w so.toNat) : (w s.toNat).toInt < 0 := by
  rw [Int64.le_iff_toInt_le, e] at h
  have : (0 : Int64).toInt = 0 := rfl
  omega
theorem mpz_0 {w : Nat → Int64} {x : Int64} {q : Int} (hs : sz60 (pcl w)) (hc : CGr w 28 x) (h0 : x = 0) (hq : 0 ≤ q ∧ q < 28) (hw : w q.toNat ≠ 0) : False := by
  have hs28 : ∀ i, i < 28 → (w i).toInt ≠ -9223372036854775808 := fun i hi => by
    have tt := inv_ixs ⟨i, hi⟩
    simp only at tt
    have := hs (ixs i : Nat) (by omega) (by omega)
    rw [Int.toNat_natCast] at this
    unfold pcl at this
    rw [tt.1, if_pos hi] at this
    omega
  have g := (CGr_e 28 x hs28 hc).2.1 q.toNat (by omega)
  rw [h0] at g
  exact hw (i64_z (Int.zero_dvd.mp g))
theorem rr_6 {b i k : Int} (hb : 0 ≤ b) (h : i < k) (h6 : b * k ≤ 6) : i * b + b ≤ 6 := by
  have : b * (i + 1) ≤ b * k := Int.mul_le_mul_of_nonneg_left (by omega) hb
  rw [Int.mul_add, Int.mul_one, Int.mul_comm b i] at this
  omega
theorem rr_b {b i : Int} (hb : 0 ≤ b) (hi : 1 ≤ i) : (if 0 < i * b + b then i * b + b else 0) = (i + 1) * b := by
  have e : (i + 1) * b = i * b + b := by rw [Int.add_mul, Int.one_mul]
  have : 0 ≤ i * b := Int.mul_nonneg (by omega) hb
  rw [e]
  split <;> omega
theorem srt_S {w r : Nat → Int64} {b b2 k fb rf : Int} {L : Int64} (hb : 1 ≤ b ∧ b ≤ 6) (hf : FB w b fb) (hS : sS (fun a c => ci (pcl w) (7 * a + c)) ≤ 18014398509481984) (h : SRT w r b b2 k fb rf L) : L.toInt ^ k.toNat ≤ 18014398509481984 := by
  have := lead_S (w := w) (b := b) (fb := fb) (by omega) hf.1
  rw [h.2.2.2.2.1]
  omega
theorem dv_z {k : Int} {dv : Int64} (hk : 2 ≤ k) (h : k ≤ dv.toInt) (e : dv = 0) : False := by
  rw [e] at h
  have : (0 : Int64).toInt = 0 := rfl
  omega
theorem fr_s {w : Nat → Int64} {k b f0 : Int} (hno : ∀ k2 : Int, k < k2 → k2 ≤ b → NRT w k2 b f0) (h : NRT w k b f0) : ∀ k2 : Int, k + -1 < k2 → k2 ≤ b → NRT w k2 b f0 := fun k2 a c => by
  by_cases q : k2 = k
  · rw [q]
    exact h
  · exact hno k2 (by omega) c
theorem sz60_S {w : Nat → Int64} (hS : sS (fun a b => ci (pcl w) (7 * a + b)) ≤ 18014398509481984) : sz60 (pcl w) := fun q a b => by
  by_cases z : 6 < q / 7 + q % 7
  · rw [pcl_6 w q a b z]
    decide
  · have : (pcl w (7 * (q / 7).toNat + (q % 7).toNat)).toInt.natAbs ≤ sS (fun a b => ci (pcl w) (7 * a + b)) := cell_sS (fun a b => ci (pcl w) (7 * a + b)) (a := (q / 7).toNat) (b := (q % 7).toNat) (by omega)
    rw [show 7 * (q / 7).toNat + (q % 7).toNat = q.toNat by omega] at this
    omega
theorem PMc_c {w w' f : Nat → Int64} {b fb : Int} (h : ∀ q : Int, 0 ≤ q → q < 28 → w q.toNat = w' q.toNat) (hp : PMc w f b fb) : PMc w' f b fb := by
  obtain ⟨⟨c, c0, hc⟩, r⟩ := hp
  exact ⟨⟨c, c0, fun i hi => by rw [← pcl_c h i]; exact hc i hi⟩, r⟩
/-- what the class has found -/
def FRC (w0 root : Nat → Int64) (b2 k : Int) : Prop := ∃ (f : Nat → Int64) (b fb : Int), PMc w0 f b fb ∧ (1 ≤ b ∧ b ≤ 6) ∧ (1 ≤ k ∧ k ≤ b) ∧ ((k = 1 ∧ b2 = b ∧ ∀ q : Int, 0 ≤ q → q < 28 → root q.toNat = f q.toNat) ∨ (2 ≤ k ∧ b2 * k = b ∧ RT0 (pcl f) k (fiO b fb) (ci (pcl root)))) ∧ ∀ k2 : Int, k < k2 → k2 ≤ b → NRT f k2 b fb
theorem cr_r2 {w m7 m8 : Nat → Int64} {b b2 k fb rf dd j : Int} {L li dv : Int64} (hc : CRC w b b2 k fb rf L li dv) (h : CRI w m7 m8 b b2 k fb rf L li dd dd) (e : dd = b2) (hj : j = rf + 1) : CRI w m7 m8 b b2 k fb rf L li dd (dd - j) := by
  rw [e] at h ⊢
  exact cr_r hc h hj
theorem fr_o {r root f : Nat → Int64} {k b b2 b2' f0 : Int} (hk : 1 < k) (h : k = 1 ∨ (2 ≤ k ∧ b2' * k = b ∧ RT0 (pcl f) k (fiO b f0) (ci (pcl r)))) (e : b2 = b2') (hc : ∀ q : Int, 0 ≤ q → q < 28 → root q.toNat = r q.toNat) : 2 ≤ k ∧ b2 * k = b ∧ RT0 (pcl f) k (fiO b f0) (ci (pcl root)) := by
  rcases h with q | ⟨h1, h2, h3⟩
  · omega
  · rw [e, show pcl root = pcl r from funext (pcl_c hc)]
    exact ⟨h1, h2, h3⟩
set_option maxHeartbeats 4000000 in
set_option maxRecDepth 100000 in
theorem ct_X3_makePrimitive_w (l : Launch) (D : va_G) (ce : Nat → ClassId) (h pl ar : Nat → Nat) (G : Nat → Int) (L : Nat → Nat → Int64) (B : Nat → Int) (J : Nat → Nat → Int64) (k : Nat) (hk : k < 42) (hB : BOK B) (hz : PZ (J k) (B k)) (hsz : sz60 (pcl (J k))) : Ct l yX3_makePrimitive cX3_makePrimitive 5 none { frames := 3, cells := 0, slots := 0, locals := 62 } 0 0 D (TY ce) [.ref (pl k)] (cW ce h pl ar G L B J) (QV D (TY ce) (fun w1 => ∃ B2 : Nat → Int, ∃ J2 : Nat → Nat → Int64, w1 = cW ce h pl ar G L B2 J2 ∧ (∀ j, j ≠ k → B2 j = B j) ∧ (∀ j, j ≠ k → J2 j = J j) ∧ (BOK B2) ∧ (B2 k ≤ B k) ∧ (PZ (J k) (B2 k)) ∧ (B2 k = 0 ∨ ¬ deg0 (J k) (B2 k)) ∧ (B2 k = 0 ∨ DVP (J k) (J2 k) (B2 k)))) := by
  refine Ct.ofV (by decide) (Nat.le_of_ble_eq_true rfl) ?_
  intro p e s m args below meth c A Q hX hnm hR
  refine Z.pick (lv' := [(0, .ref (pl k))]) [0] rfl ?_
  refine Z.aload_n hX dX3_makePrimitive_0 rfl rfl ?_
  refine Z.callVfv (As := []) (rest := []) hX 3 (24 + k) rfl (cW_pl (by omega)) (ct_X3_tighten_y l D ce h pl ar G L B J k hk hB hz) mc_X3_tighten ml_X3_42 im_X3_tighten se_X3_tighten ini_X3 nd_X3_tighten ⟨Nat.le_of_ble_eq_true rfl, Nat.le_of_ble_eq_true rfl⟩ ⟨rfl, rfl⟩ ⟨Nat.le_refl _, Nat.le_refl _⟩ rfl (Nat.le_of_ble_eq_true rfl) dX3_makePrimitive_1 ?_
  rintro w1 ⟨Bt, hw_, ht1, ht2, ht3, ht4, ht5⟩
  subst hw_
  refine Z.aload_n hX dX3_makePrimitive_4 rfl rfl ?_
  refine Z.callVfi (As := []) (rest := []) hX 3 (24 + k) rfl (cW_pl (by omega)) (ct_X3_firstOfBound_w l D ce h pl ar G L Bt J k hk ht2) mc_X3_firstOfBound ml_X3_38 im_X3_firstOfBound se_X3_firstOfBound ini_X3 nd_X3_firstOfBound ⟨Nat.le_of_ble_eq_true rfl, Nat.le_of_ble_eq_true rfl⟩ ⟨rfl, rfl⟩ ⟨Nat.le_refl _, Nat.le_refl _⟩ rfl (Nat.le_of_ble_eq_true rfl) dX3_makePrimitive_5 ?_
  rintro r_2 w1 ⟨fb, hr_, hw_, hfb, hf2, hf3, hf4⟩
  subst hr_
  subst hw_
  have hbk := ht2 k hk
  refine Z.istore_n (lv' := [(1, .int (zI fb)), (0, .ref (pl k))]) hX dX3_makePrimitive_8 rfl (by decide) rfl ?_
  refine Z.lconst (v := 0) hX dX3_makePrimitive_9 rfl ?_
  refine Z.lstore_n (lv' := [(2, .long 0), (1, .int (zI fb)), (0, .ref (pl k))]) hX dX3_makePrimitive_10 rfl (by decide) rfl ?_
  refine Z.iconst hX dX3_makePrimitive_11 ?_
  refine Z.istore (lv' := [(4, .int (zI 0)), (2, .long 0), (1, .int (zI fb)), (0, .ref (pl k))]) hX dX3_makePrimitive_12 (by decide) rfl ?_
  have key_14 : ∀ (N : Nat), ∀ (i : Int) (x : Int64), (28 - i).toNat < N → (hi : 0 ≤ i ∧ i ≤ 28) → (hx : CGr (J k) i.toNat x) → Z p l e { frames := 3, cells := 0, slots := 0, locals := 62 } s m args below meth c D A 5 0 0 Q 14 [(4, .int (zI i)), (2, .long x), (1, .int (zI fb)), (0, .ref (pl k))] [] (cW ce h pl ar G L Bt J) := by
    intro N
    induction N with
    | zero => intro i x hm; exact absurd hm (Nat.not_lt_zero _)
    | succ N ih_14 =>
      intro i x hm hi hx
      refine Z.iload hX dX3_makePrimitive_14 rfl ?_
      refine Z.bipush hX dX3_makePrimitive_16 (by decide) ?_
      refine Z.icmp_ge hX 39 dX3_makePrimitive_18 (by decide) ⟨by omega, by omega⟩ ⟨by omega, by omega⟩ ?_ ?_
      · intro c3
        have hx28 : CGr (J k) 28 x := by rw [show i.toNat = 28 by omega] at hx; exact hx
        refine Z.iload_n hX dX3_makePrimitive_39 rfl rfl ?_
        refine Z.if_lt hX 49 dX3_makePrimitive_40 (by decide) ⟨by omega, by omega⟩ ?_ ?_
        · intro c4
          exact hR _ _ _ dX3_makePrimitive_49 ⟨Bt, J, rfl, ht1, (fun _ _ => rfl), ht2, ht3, ht4, ht5, (by first | exact Or.inl (by rcases ht5 with q | q; exact q; exact absurd (hf3 (by omega)) q) | exact (mpz_0 (q := sl (Bt k) + fb) hsz hx28 (by assumption) (by have := sl_b hbk; omega) (hf2 (by omega))).elim)⟩
        · intro c4
          refine Z.lload_n hX dX3_makePrimitive_43 rfl rfl ?_
          refine Z.lconst (v := 0) hX dX3_makePrimitive_44 rfl ?_
          refine Z.lcmp_ne hX 50 dX3_makePrimitive_45 dX3_makePrimitive_46 (by decide) ?_ ?_
          · intro c5
            have hx0 : ¬ x = 0 := by assumption
            have key_71 : ∀ (y : Int64), (hy0 : ¬ y = 0) → (hys : (y = x ∧ ¬ (J k (sl (Bt k) + fb).toNat).toInt < 0) ∨ (y = -x ∧ (J k (sl (Bt k) + fb).toNat).toInt < 0)) → Z p l e { frames := 3, cells := 0, slots := 0, locals := 62 } s m args below meth c D A 5 0 0 Q 71 [(2, .long y), (0, .ref (pl k))] [] (cW ce h pl ar G L Bt J) := by
              intro y hy0 hys
              refine Z.iconst hX dX3_makePrimitive_71 ?_
              refine Z.istore (lv' := [(4, .int (zI 0)), (2, .long y), (0, .ref (pl k))]) hX dX3_makePrimitive_72 (by decide) rfl ?_
              have key_74 : ∀ (N : Nat), ∀ (i : Int) (M : Nat → Nat → Int64), (28 - i).toNat < N → (hi2 : 0 ≤ i ∧ i ≤ 28) → (hM : ∀ j, j ≠ k → M j = J j) → (hq : ∀ j : Int, 0 ≤ j → j < 28 → M k j.toNat = if j < i then J k j.toNat / y else J k j.toNat) → Z p l e { frames := 3, cells := 0, slots := 0, locals := 62 } s m args below meth c D A 5 0 0 Q 74 [(4, .int (zI i)), (2, .long y), (0, .ref (pl k))] [] (cW ce h pl ar G L Bt M) := by
                intro N
                induction N with
                | zero => intro i M hm; exact absurd hm (Nat.not_lt_zero _)
                | succ N ih_74 =>
                  intro i M hm hi2 hM hq
                  refine Z.iload hX dX3_makePrimitive_74 rfl ?_
                  refine Z.bipush hX dX3_makePrimitive_76 (by decide) ?_
                  refine Z.icmp_ge hX 98 dX3_makePrimitive_78 (by decide) ⟨by omega, by omega⟩ ⟨by omega, by omega⟩ ?_ ?_
                  · intro c6
                    exact hR _ _ _ dX3_makePrimitive_98 ⟨Bt, M, rfl, ht1, hM, ht2, ht3, ht4, ht5, (Or.inr ⟨x, y, fb, hx28, hx0, hy0, ⟨⟨by omega, hfb.2⟩, hf2 (by omega), fun j a b => hf4 j a (Or.inl b) (by omega)⟩, hys, fun q a b => by rw [hq q a (by omega), if_pos (by omega)]⟩)⟩
                  · intro c6
                    refine Z.aload_n hX dX3_makePrimitive_81 rfl rfl ?_
                    refine Z.getf hX 3 (24 + k) 0 dX3_makePrimitive_82 (cW_pl (by omega)) rfl inX3 (by decide) fl_X3_9 rfl rfl ?_
                    refine Z.iload hX dX3_makePrimitive_85 rfl ?_
                    refine Z.dup2 hX dX3_makePrimitive_87 rfl rfl ?_
                    refine Z.laload hX (66 + k) 1 dX3_makePrimitive_88 (cW_ar (by omega)) rfl (by omega) (by omega) (by decide) ?_
                    refine Z.lload_n hX dX3_makePrimitive_89 rfl rfl ?_
                    refine Z.ldiv hX dX3_makePrimitive_90 hy0 ?_
                    refine Z.lastore hX (66 + k) 1 dX3_makePrimitive_91 (cW_ar (by omega)) rfl (by omega) (by omega) (by decide) ?_
                    obtain ⟨J7, eJ7⟩ : ∃ J' : Nat → Nat → Int64, J' = va_up M k (vp_updL (M k) (i : Int).toNat ((M k (i : Int).toNat) / y)) := ⟨_, rfl⟩
                    refine Z.toW (w' := cW ce h pl ar G L Bt J7) (by rw [eJ7]; exact cW_setJ (by omega)) ?_
                    have gJ7 : J7 k = vp_updL (M k) (i : Int).toNat ((M k (i : Int).toNat) / y) := by rw [eJ7]; exact up_eq
                    have fJ7 : ∀ j_, j_ ≠ k → J7 j_ = M j_ := fun j_ hj_ => by rw [eJ7]; exact up_ne hj_
                    refine Z.iinc (lv' := [(4, .int (zI (i + 1))), (2, .long y), (0, .ref (pl k))]) hX dX3_makePrimitive_92 rfl (by decide) rfl ?_
                    refine Z.goto hX 74 dX3_makePrimitive_95 (by decide) ?_
                    refine Z.pick [0, 1, 2] rfl ?_
                    exact ih_74 _ _ (by omega) (by omega) (fun j_ h_k => ((fJ7 j_ h_k).trans (hM j_ h_k))) (dv_s hi2.1 (by omega) gJ7 hq)
              refine Z.pick [0, 1, 2] rfl ?_
              exact key_74 _ _ _ (Nat.lt_succ_self _) (by omega) (fun _ _ => rfl) (fun j _ _ => (if_neg (by omega)).symm)
            refine Z.aload_n hX dX3_makePrimitive_50 rfl rfl ?_
            refine Z.getf hX 3 (24 + k) 0 dX3_makePrimitive_51 (cW_pl (by omega)) rfl inX3 (by decide) fl_X3_9 rfl rfl ?_
            refine Z.aload_n hX dX3_makePrimitive_54 rfl rfl ?_
            refine Z.getf hX 3 (24 + k) 1 dX3_makePrimitive_55 (cW_pl (by omega)) rfl inX3 (by decide) fl_X3_15 rfl rfl ?_
            refine Z.iload_n hX dX3_makePrimitive_58 rfl rfl ?_
            refine Z.callSNi (As := [.int (zI (Bt k)), .int (zI fb)]) (rest := [.ref (ar k)]) hX (ct_X6_slotOf l D ce (Bt k) fb (by omega) (by omega)) mc_X6_slotOf ns_X3_28 st_X6_slotOf ini_X6 nd_X6_slotOf ⟨Nat.le_of_ble_eq_true rfl, Nat.le_of_ble_eq_true rfl⟩ ⟨rfl, rfl⟩ ⟨Nat.le_refl _, Nat.le_refl _⟩ rfl (Nat.le_of_ble_eq_true rfl) dX3_makePrimitive_59 ?_
            rintro r_8 w1 ⟨so, hr_, hw_, eso, hso⟩
            subst hr_
            refine ⟨hw_, ?_⟩
            refine Z.laload hX (66 + k) 1 dX3_makePrimitive_62 (cW_ar (by omega)) rfl (by omega) (by omega) (by decide) ?_
            refine Z.lconst (v := 0) hX dX3_makePrimitive_63 rfl ?_
            refine Z.lcmp_ge hX 71 dX3_makePrimitive_64 dX3_makePrimitive_65 (by decide) ?_ ?_
            · intro c9
              refine Z.pick [1, 3] rfl ?_
              exact key_71 _ (by assumption) (Or.inl ⟨rfl, mp_ge eso (by assumption)⟩)
            · intro c9
              refine Z.lload_n hX dX3_makePrimitive_68 rfl rfl ?_
              refine Z.lneg hX dX3_makePrimitive_69 ?_
              refine Z.lstore_n (lv' := [(2, .long (-x)), (4, .int (zI i)), (1, .int (zI fb)), (0, .ref (pl k))]) hX dX3_makePrimitive_70 rfl (by decide) rfl ?_
              refine Z.pick [0, 3] rfl ?_
              exact key_71 _ (tl_n (by assumption)) (Or.inr ⟨rfl, mp_lt eso (by assumption)⟩)
          · intro c5
            exact hR _ _ _ dX3_makePrimitive_49 ⟨Bt, J, rfl, ht1, (fun _ _ => rfl), ht2, ht3, ht4, ht5, (by first | exact Or.inl (by rcases ht5 with q | q; exact q; exact absurd (hf3 (by omega)) q) | exact (mpz_0 (q := sl (Bt k) + fb) hsz hx28 (by assumption) (by have := sl_b hbk; omega) (hf2 (by omega))).elim)⟩
      · intro c3
        refine Z.lload_n hX dX3_makePrimitive_21 rfl rfl ?_
        refine Z.aload_n hX dX3_makePrimitive_22 rfl rfl ?_
        refine Z.getf hX 3 (24 + k) 0 dX3_makePrimitive_23 (cW_pl (by omega)) rfl inX3 (by decide) fl_X3_9 rfl rfl ?_
        refine Z.iload hX dX3_makePrimitive_26 rfl ?_
        refine Z.laload hX (66 + k) 1 dX3_makePrimitive_28 (cW_ar (by omega)) rfl (by omega) (by omega) (by decide) ?_
        refine Z.callSNl (As := [.long x, .long (J k (i : Int).toNat)]) (rest := []) hX (ct_X6_commonOf_x l D ce x (J k (i : Int).toNat) ) mc_X6_commonOf ns_X3_45 st_X6_commonOf ini_X6 nd_X6_commonOf ⟨Nat.le_of_ble_eq_true rfl, Nat.le_of_ble_eq_true rfl⟩ ⟨rfl, rfl⟩ ⟨Nat.le_refl _, Nat.le_refl _⟩ rfl (Nat.le_of_ble_eq_true rfl) dX3_makePrimitive_29 ?_
        rintro r_10 w1 ⟨r011, hr_, hw_, hcg⟩
        subst hr_
        refine ⟨hw_, ?_⟩
        refine Z.lstore_n (lv' := [(2, .long r_10), (4, .int (zI i)), (1, .int (zI fb)), (0, .ref (pl k))]) hX dX3_makePrimitive_32 rfl (by decide) rfl ?_
        refine Z.iinc (lv' := [(4, .int (zI (i + 1))), (2, .long r_10), (1, .int (zI fb)), (0, .ref (pl k))]) hX dX3_makePrimitive_33 rfl (by decide) rfl ?_
        refine Z.goto hX 14 dX3_makePrimitive_36 (by decide) ?_
        refine Z.pick [0, 1, 2, 3] rfl ?_
        exact ih_14 _ _ (by omega) (by omega) (CGr_s hi.1 hx hcg)
  refine Z.pick [0, 1, 2, 3] rfl ?_
  exact key_14 _ _ _ (Nat.lt_succ_self _) (by omega) rfl

set_option maxHeartbeats 4000000 in
set_option maxRecDepth 100000 in
theorem ct_X4_raiseRoot_w (l : Launch) (D : va_G) (ce : Nat → ClassId) (h pl ar : Nat → Nat) (G : Nat → Int) (L : Nat → Nat → Int64) (B : Nat → Int) (J : Nat → Nat → Int64) (pw : Int) (hB : BOK B) (hp : 1 ≤ pw ∧ pw ≤ 6) (hz37 : PZ (J 37) (B 37)) (h6 : B 37 * pw ≤ 6) : Ct l yX4_raiseRoot cX4_raiseRoot 3 none { frames := 2, cells := 0, slots := 0, locals := 61 } 0 0 D (TY ce) [.ref (h 5), .int (zI pw)] (cW ce h pl ar G L B J) (QV D (TY ce) (fun w1 => ∃ B2 : Nat → Int, ∃ J2 : Nat → Nat → Int64, w1 = cW ce h pl ar G L B2 J2 ∧ (BOK B2) ∧ (∀ k, k ≠ 38 → k ≠ 39 → B2 k = B k) ∧ (∀ k, k ≠ 38 → k ≠ 39 → J2 k = J k) ∧ (RAI (J2 38) (J 37) pw.toNat))) := by
  refine Ct.ofV (by decide) (Nat.le_of_ble_eq_true rfl) ?_
  intro p e s m args below meth c A Q hX hnm hR
  refine Z.pick (lv' := [(0, .ref (h 5)), (1, .int (zI pw))]) [0, 1] rfl ?_
  have hb37 := hB 37 (by decide)
  refine Z.aload_n hX dX4_raiseRoot_0 rfl rfl ?_
  refine Z.getf hX 4 5 2 dX4_raiseRoot_1 rfl rfl inX4 (by decide) fl_X4_19 rfl rfl ?_
  refine Z.aload_n hX dX4_raiseRoot_4 rfl rfl ?_
  refine Z.getf hX 4 5 1 dX4_raiseRoot_5 rfl rfl inX4 (by decide) fl_X4_16 rfl rfl ?_
  refine Z.callVfv (As := [.ref (pl 37)]) (rest := []) hX 3 (24 + 38) rfl (cW_pl (by decide)) (ct_X3_copy_y l D ce h pl ar G L B J 38 37 (by decide) hB (by decide)) mc_X3_copy ml_X4_25 im_X3_copy se_X3_copy ini_X3 nd_X3_copy ⟨Nat.le_of_ble_eq_true rfl, Nat.le_of_ble_eq_true rfl⟩ ⟨rfl, rfl⟩ ⟨Nat.le_refl _, Nat.le_refl _⟩ rfl (Nat.le_of_ble_eq_true rfl) dX4_raiseRoot_8 ?_
  rintro w1 ⟨Ba, Ja, hw_, a1, a2, a3, a4, a5⟩
  subst hw_
  refine Z.iconst hX dX4_raiseRoot_11 ?_
  refine Z.istore_n (lv' := [(2, .int (zI 1)), (0, .ref (h 5)), (1, .int (zI pw))]) hX dX4_raiseRoot_12 rfl (by decide) rfl ?_
  have key_13 : ∀ (N : Nat), ∀ (i : Int) (BB : Nat → Int) (MM : Nat → Nat → Int64), (pw - i).toNat < N → (hi : 1 ≤ i ∧ i ≤ pw) → (hM : BOK BB) → (hf : ∀ k, k ≠ 38 → k ≠ 39 → BB k = B k) → (hfj : ∀ k, k ≠ 38 → k ≠ 39 → MM k = J k) → (hC : RAI (MM 38) (J 37) i.toNat) → (hz38 : PZ (MM 38) (BB 38)) → (hb38 : BB 38 = i * B 37) → Z p l e { frames := 2, cells := 0, slots := 0, locals := 61 } s m args below meth c D A 3 0 0 Q 13 [(2, .int (zI i)), (1, .int (zI pw)), (0, .ref (h 5))] [] (cW ce h pl ar G L BB MM) := by
    intro N
    induction N with
    | zero => intro i BB MM hm; exact absurd hm (Nat.not_lt_zero _)
    | succ N ih_13 =>
      intro i BB MM hm hi hM hf hfj hC hz38 hb38
      refine Z.iload_n hX dX4_raiseRoot_13 rfl rfl ?_
      refine Z.iload_n hX dX4_raiseRoot_14 rfl rfl ?_
      refine Z.icmp_ge hX 58 dX4_raiseRoot_15 (by decide) ⟨by omega, by omega⟩ ⟨by omega, by omega⟩ ?_ ?_
      · intro c2
        exact hR _ _ _ dX4_raiseRoot_58 ⟨BB, MM, rfl, hM, hf, hfj, (by rw [show pw.toNat = i.toNat by omega]; exact hC)⟩
      · intro c2
        refine Z.aload_n hX dX4_raiseRoot_18 rfl rfl ?_
        refine Z.getf hX 4 5 3 dX4_raiseRoot_19 rfl rfl inX4 (by decide) fl_X4_22 rfl rfl ?_
        refine Z.callVfv (As := []) (rest := []) hX 3 (24 + 39) rfl (cW_pl (by decide)) (ct_X3_erase_y l D ce h pl ar G L BB MM 39 (by decide) hM) mc_X3_erase ml_X4_71 im_X3_erase se_X3_erase ini_X3 nd_X3_erase ⟨Nat.le_of_ble_eq_true rfl, Nat.le_of_ble_eq_true rfl⟩ ⟨rfl, rfl⟩ ⟨Nat.le_refl _, Nat.le_refl _⟩ rfl (Nat.le_of_ble_eq_true rfl) dX4_raiseRoot_22 ?_
        rintro w1 ⟨Bb, Jb, hw_, b1, b2, b3, b4, b5⟩
        subst hw_
        refine Z.aload_n hX dX4_raiseRoot_25 rfl rfl ?_
        refine Z.getf hX 4 5 3 dX4_raiseRoot_26 rfl rfl inX4 (by decide) fl_X4_22 rfl rfl ?_
        refine Z.aload_n hX dX4_raiseRoot_29 rfl rfl ?_
        refine Z.getf hX 4 5 2 dX4_raiseRoot_30 rfl rfl inX4 (by decide) fl_X4_19 rfl rfl ?_
        refine Z.aload_n hX dX4_raiseRoot_33 rfl rfl ?_
        refine Z.getf hX 4 5 1 dX4_raiseRoot_34 rfl rfl inX4 (by decide) fl_X4_16 rfl rfl ?_
        refine Z.lconst (v := 1) hX dX4_raiseRoot_37 rfl ?_
        refine Z.callVfv (As := [.ref (pl 38), .ref (pl 37), .long 1]) (rest := []) hX 3 (24 + 39) rfl (cW_pl (by decide)) (ct_X3_addProduct_y l D ce h pl ar G L Bb Jb 39 38 37 1 (by decide) b3 (by decide) (by decide) (by rw [b1 38 (by decide), b2 38 (by decide)]; exact hz38) (by rw [b1 37 (by decide), b2 37 (by decide), hf 37 (by decide) (by decide), hfj 37 (by decide) (by decide)]; exact hz37) (by rw [b4]; exact PZ_z b5) (by rw [b1 38 (by decide), b1 37 (by decide), hb38, hf 37 (by decide) (by decide)]; exact rr_6 hb37.1 (by omega) h6)) mc_X3_addProduct ml_X4_85 im_X3_addProduct se_X3_addProduct ini_X3 nd_X3_addProduct ⟨Nat.le_of_ble_eq_true rfl, Nat.le_of_ble_eq_true rfl⟩ ⟨rfl, rfl⟩ ⟨Nat.le_refl _, Nat.le_refl _⟩ rfl (Nat.le_of_ble_eq_true rfl) dX4_raiseRoot_38 ?_
        rintro w1 ⟨Bc, Jc, hw_, c1, c2, c3, c4, c5, c6⟩
        subst hw_
        refine Z.aload_n hX dX4_raiseRoot_41 rfl rfl ?_
        refine Z.getf hX 4 5 2 dX4_raiseRoot_42 rfl rfl inX4 (by decide) fl_X4_19 rfl rfl ?_
        refine Z.aload_n hX dX4_raiseRoot_45 rfl rfl ?_
        refine Z.getf hX 4 5 3 dX4_raiseRoot_46 rfl rfl inX4 (by decide) fl_X4_22 rfl rfl ?_
        refine Z.callVfv (As := [.ref (pl 39)]) (rest := []) hX 3 (24 + 38) rfl (cW_pl (by decide)) (ct_X3_copy_y l D ce h pl ar G L Bc Jc 38 39 (by decide) c3 (by decide)) mc_X3_copy ml_X4_25 im_X3_copy se_X3_copy ini_X3 nd_X3_copy ⟨Nat.le_of_ble_eq_true rfl, Nat.le_of_ble_eq_true rfl⟩ ⟨rfl, rfl⟩ ⟨Nat.le_refl _, Nat.le_refl _⟩ rfl (Nat.le_of_ble_eq_true rfl) dX4_raiseRoot_49 ?_
        rintro w1 ⟨Bd, Jd, hw_, d1, d2, d3, d4, d5⟩
        subst hw_
        refine Z.iinc (lv' := [(2, .int (zI (i + 1))), (1, .int (zI pw)), (0, .ref (h 5))]) hX dX4_raiseRoot_52 rfl (by decide) rfl ?_
        refine Z.goto hX 13 dX4_raiseRoot_55 (by decide) ?_
        refine Z.pick [0, 1, 2] rfl ?_
        exact ih_13 _ _ _ (by omega) (by omega) d3 (fun j_ h_38 h_39 => ((d1 j_ h_38).trans ((c1 j_ h_39).trans ((b1 j_ h_39).trans (hf j_ h_38 h_39))))) (fun j_ h_38 h_39 => ((d2 j_ h_38).trans ((c2 j_ h_39).trans ((b2 j_ h_39).trans (hfj j_ h_38 h_39))))) (rai_s (by omega) hC ((b2 37 (by decide)).trans (hfj 37 (by decide) (by decide))) b5 (by have c_ := c4; rw [b2 38 (by decide)] at c_; exact c_) d5) (PZ_cp d4 (c3 39 (by decide)).1 d5 c5) (by rw [d4, c6, b4, b1 38 (by decide), b1 37 (by decide), hb38, hf 37 (by decide) (by decide)]; exact rr_b hb37.1 hi.1)
  refine Z.pick [0, 2, 1] rfl ?_
  exact key_13 _ _ _ _ (Nat.lt_succ_self _) (by omega) a3 (fun j_ h_38 h_39 => ((a1 j_ h_38).trans rfl)) (fun j_ h_38 h_39 => ((a2 j_ h_38).trans rfl)) (rai_1 a5) (PZ_cp a4 hb37.1 a5 hz37) (by omega)

set_option maxHeartbeats 4000000 in
set_option maxRecDepth 100000 in
theorem ct_X4_startRoot_w (l : Launch) (D : va_G) (ce : Nat → ClassId) (h pl ar : Nat → Nat) (G : Nat → Int) (L : Nat → Nat → Int64) (B : Nat → Int) (J : Nat → Nat → Int64) (pw : Int) (f0 : Int) (hB : BOK B) (hp : 1 ≤ pw ∧ pw ≤ 6) (h2 : 2 ≤ pw) (hb1 : 1 ≤ B 36) (hf0 : FB (J 36) (B 36) f0) (hl0 : 0 < (J 36 (sl (B 36) + f0).toNat).toInt) (hS : sS (fun a b => ci (pcl (J 36)) (7 * a + b)) ≤ 18014398509481984) : Ct l yX4_startRoot cX4_startRoot 7 (some .boolean) { frames := 2, cells := 0, slots := 0, locals := 54 } 0 0 D (TY ce) [.ref (h 5), .int (zI pw)] (cW ce h pl ar G L B J) (QI D (TY ce) (fun r w1 => ∃ z : Int, ∃ B2 : Nat → Int, ∃ J2 : Nat → Nat → Int64, r = zI z ∧ w1 = cW ce h pl ar G L B2 J2 ∧ (BOK B2) ∧ (∀ k, k ≠ 37 → B2 k = B k) ∧ (z = 0 ∨ (z = 1 ∧ B2 37 * pw ≤ 6)) ∧ (∀ k, k ≠ 37 → J2 k = J k) ∧ (z = 0 → NRT (J 36) pw (B 36) f0) ∧ (z = 1 → SRX (J 36) (J2 37) (B 36) (B2 37) pw f0))) := by
  refine Ct.ofB (by decide) (Nat.le_of_ble_eq_true rfl) ?_
  intro p e s m args below meth c A Q hX hnm hR
  refine Z.pick (lv' := [(0, .ref (h 5)), (1, .int (zI pw))]) [0, 1] rfl ?_
  have hb36 := hB 36 (by decide)
  refine Z.aload_n hX dX4_startRoot_0 rfl rfl ?_
  refine Z.getf hX 4 5 0 dX4_startRoot_1 rfl rfl inX4 (by decide) fl_X4_10 rfl rfl ?_
  refine Z.callVfi (As := []) (rest := []) hX 3 (24 + 36) rfl (cW_pl (by decide)) (ct_X3_firstOfBound_w l D ce h pl ar G L B J 36 (by decide) hB) mc_X3_firstOfBound ml_X4_53 im_X3_firstOfBound se_X3_firstOfBound ini_X3 nd_X3_firstOfBound ⟨Nat.le_of_ble_eq_true rfl, Nat.le_of_ble_eq_true rfl⟩ ⟨rfl, rfl⟩ ⟨Nat.le_refl _, Nat.le_refl _⟩ rfl (Nat.le_of_ble_eq_true rfl) dX4_startRoot_4 ?_
  rintro r_1 w1 ⟨fb, hr_, hw_, hfb, hf2, hf3, hf4⟩
  subst hr_
  subst hw_
  have efb : fb = f0 := fb_uq hfb hf2 hf4 hf0
  refine Z.istore_n (lv' := [(2, .int (zI fb)), (0, .ref (h 5)), (1, .int (zI pw))]) hX dX4_startRoot_7 rfl (by decide) rfl ?_
  refine Z.iload_n hX dX4_startRoot_8 rfl rfl ?_
  refine Z.iconst hX dX4_startRoot_9 ?_
  refine Z.icmp_lt hX 35 dX4_startRoot_10 (by decide) ⟨by omega, by omega⟩ ⟨by omega, by omega⟩ ?_ ?_
  · intro c2
    refine Z.iconst hX dX4_startRoot_35 ?_
    exact hR _ _ _ _ dX4_startRoot_36 rfl ⟨0, B, J, rfl, rfl, hB, (fun _ _ => rfl), Or.inl rfl, (fun _ _ => rfl), (fun _ => st_mod ⟨h2, hp.2⟩ hb36 hf0 efb (by first | exact Or.inl (by assumption) | exact Or.inr (Or.inl (by assumption)) | exact Or.inr (Or.inr (Or.inl (by assumption))) | exact Or.inr (Or.inr (Or.inr (by assumption))))), (fun q => absurd q (by decide))⟩
  · intro c2
    refine Z.iload_n hX dX4_startRoot_13 rfl rfl ?_
    refine Z.if_lt hX 35 dX4_startRoot_14 (by decide) ⟨by omega, by omega⟩ ?_ ?_
    · intro c3
      refine Z.iconst hX dX4_startRoot_35 ?_
      exact hR _ _ _ _ dX4_startRoot_36 rfl ⟨0, B, J, rfl, rfl, hB, (fun _ _ => rfl), Or.inl rfl, (fun _ _ => rfl), (fun _ => st_mod ⟨h2, hp.2⟩ hb36 hf0 efb (by first | exact Or.inl (by assumption) | exact Or.inr (Or.inl (by assumption)) | exact Or.inr (Or.inr (Or.inl (by assumption))) | exact Or.inr (Or.inr (Or.inr (by assumption))))), (fun q => absurd q (by decide))⟩
    · intro c3
      refine Z.aload_n hX dX4_startRoot_17 rfl rfl ?_
      refine Z.getf hX 4 5 0 dX4_startRoot_18 rfl rfl inX4 (by decide) fl_X4_10 rfl rfl ?_
      refine Z.getf hX 3 (24 + 36) 1 dX4_startRoot_21 (cW_pl (by decide)) rfl inX3 (by decide) fl_X4_32 rfl rfl ?_
      refine Z.iload_n hX dX4_startRoot_24 rfl rfl ?_
      refine Z.irem hX dX4_startRoot_25 (by omega) (by omega) (by omega) (by omega) ?_
      refine Z.if_ne hX 35 dX4_startRoot_26 (by decide) (sr_mod hp) ?_ ?_
      · intro c4
        refine Z.iconst hX dX4_startRoot_35 ?_
        exact hR _ _ _ _ dX4_startRoot_36 rfl ⟨0, B, J, rfl, rfl, hB, (fun _ _ => rfl), Or.inl rfl, (fun _ _ => rfl), (fun _ => st_mod ⟨h2, hp.2⟩ hb36 hf0 efb (by first | exact Or.inl (by assumption) | exact Or.inr (Or.inl (by assumption)) | exact Or.inr (Or.inr (Or.inl (by assumption))) | exact Or.inr (Or.inr (Or.inr (by assumption))))), (fun q => absurd q (by decide))⟩
      · intro c4
        refine Z.iload_n hX dX4_startRoot_29 rfl rfl ?_
        refine Z.iload_n hX dX4_startRoot_30 rfl rfl ?_
        refine Z.irem hX dX4_startRoot_31 (by omega) (by omega) (by omega) (by omega) ?_
        refine Z.if_eq hX 37 dX4_startRoot_32 (by decide) (sr_mod hp) ?_ ?_
        · intro c5
          refine Z.aload_n hX dX4_startRoot_37 rfl rfl ?_
          refine Z.getf hX 4 5 0 dX4_startRoot_38 rfl rfl inX4 (by decide) fl_X4_10 rfl rfl ?_
          refine Z.getf hX 3 (24 + 36) 0 dX4_startRoot_41 (cW_pl (by decide)) rfl inX3 (by decide) fl_X4_57 rfl rfl ?_
          refine Z.aload_n hX dX4_startRoot_44 rfl rfl ?_
          refine Z.getf hX 4 5 0 dX4_startRoot_45 rfl rfl inX4 (by decide) fl_X4_10 rfl rfl ?_
          refine Z.getf hX 3 (24 + 36) 1 dX4_startRoot_48 (cW_pl (by decide)) rfl inX3 (by decide) fl_X4_32 rfl rfl ?_
          refine Z.iload_n hX dX4_startRoot_51 rfl rfl ?_
          refine Z.callSNi (As := [.int (zI (B 36)), .int (zI fb)]) (rest := [.ref (ar 36)]) hX (ct_X6_slotOf l D ce (B 36) fb (by omega) (by omega)) mc_X6_slotOf ns_X4_61 st_X6_slotOf ini_X6 nd_X6_slotOf ⟨Nat.le_of_ble_eq_true rfl, Nat.le_of_ble_eq_true rfl⟩ ⟨rfl, rfl⟩ ⟨Nat.le_refl _, Nat.le_refl _⟩ rfl (Nat.le_of_ble_eq_true rfl) dX4_startRoot_52 ?_
          rintro r_6 w1 ⟨sa, hr_, hw_, esa, hsa⟩
          subst hr_
          refine ⟨hw_, ?_⟩
          refine Z.laload hX (66 + 36) 1 dX4_startRoot_55 (cW_ar (by decide)) rfl (by omega) (by omega) (by decide) ?_
          refine Z.lstore_n (lv' := [(3, .long (J 36 (sa : Int).toNat)), (2, .int (zI fb)), (0, .ref (h 5)), (1, .int (zI pw))]) hX dX4_startRoot_56 rfl (by decide) rfl ?_
          refine Z.lload_n hX dX4_startRoot_57 rfl rfl ?_
          refine Z.iload_n hX dX4_startRoot_58 rfl rfl ?_
          refine Z.callSNl (As := [.long (J 36 (sa : Int).toNat), .int (zI pw)]) (rest := []) hX (ct_X6_rootOf_w l D ce (J 36 (sa : Int).toNat) pw (by omega) h2 (by rw [esa, efb]; exact Int.le_of_lt hl0)) mc_X6_rootOf ns_X4_67 st_X6_rootOf ini_X6 nd_X6_rootOf ⟨Nat.le_of_ble_eq_true rfl, Nat.le_of_ble_eq_true rfl⟩ ⟨rfl, rfl⟩ ⟨Nat.le_refl _, Nat.le_refl _⟩ rfl (Nat.le_of_ble_eq_true rfl) dX4_startRoot_59 ?_
          rintro rl w1 ⟨r08, hr_, hw_, hrl⟩
          subst hr_
          refine ⟨hw_, ?_⟩
          refine Z.lstore (lv' := [(5, .long rl), (3, .long (J 36 (sa : Int).toNat)), (2, .int (zI fb)), (0, .ref (h 5)), (1, .int (zI pw))]) hX dX4_startRoot_62 (by decide) rfl ?_
          refine Z.aload_n hX dX4_startRoot_64 rfl rfl ?_
          refine Z.getf hX 4 5 1 dX4_startRoot_65 rfl rfl inX4 (by decide) fl_X4_16 rfl rfl ?_
          refine Z.callVfv (As := []) (rest := []) hX 3 (24 + 37) rfl (cW_pl (by decide)) (ct_X3_erase_y l D ce h pl ar G L B J 37 (by decide) hB) mc_X3_erase ml_X4_71 im_X3_erase se_X3_erase ini_X3 nd_X3_erase ⟨Nat.le_of_ble_eq_true rfl, Nat.le_of_ble_eq_true rfl⟩ ⟨rfl, rfl⟩ ⟨Nat.le_refl _, Nat.le_refl _⟩ rfl (Nat.le_of_ble_eq_true rfl) dX4_startRoot_68 ?_
          rintro w1 ⟨Be, Je, hw_, e1, e2, e3, e4, e5⟩
          subst hw_
          have e36 : Be 36 = B 36 := e1 36 (by decide)
          refine Z.aload_n hX dX4_startRoot_71 rfl rfl ?_
          refine Z.getf hX 4 5 1 dX4_startRoot_72 rfl rfl inX4 (by decide) fl_X4_16 rfl rfl ?_
          refine Z.aload_n hX dX4_startRoot_75 rfl rfl ?_
          refine Z.getf hX 4 5 0 dX4_startRoot_76 rfl rfl inX4 (by decide) fl_X4_10 rfl rfl ?_
          refine Z.getf hX 3 (24 + 36) 1 dX4_startRoot_79 (cW_pl (by decide)) rfl inX3 (by decide) fl_X4_32 rfl rfl ?_
          refine Z.iload_n hX dX4_startRoot_82 rfl rfl ?_
          refine Z.idiv hX dX4_startRoot_83 (by omega) (by omega) (by omega) (by omega) ?_
          have hdv := sr_div (b := Be 36) (k := pw) (by omega) hp
          obtain ⟨rb, erb⟩ : ∃ x, x = Be 36 / pw := ⟨_, rfl⟩
          rw [← erb]
          rw [← erb] at hdv
          have hmn := sr_mono (a := fb) (b := Be 36) (k := pw) (by omega) (by omega) hp.1
          rw [← erb] at hmn
          have hfd := sr_div (b := fb) (k := pw) (by omega) hp
          refine Z.putf (ty := .int) hX 3 (24 + 37) 1 tyX3 dX4_startRoot_84 (cW_pl (by decide)) rfl inX3 tyX3_ok nmX3 (by decide) fl_X4_32 rfl rfl (by decide +kernel) rfl rfl (Nat.le_of_ble_eq_true rfl) ?_
          obtain ⟨B10, eB10⟩ : ∃ F' : Nat → Int, F' = va_up Be 37 (rb) := ⟨_, rfl⟩
          refine Z.toW (w' := cW ce h pl ar G L B10 Je) (by rw [eB10]; exact cW_setB (by decide)) ?_
          have gB10 : B10 37 = rb := by rw [eB10]; exact up_eq
          have fB10 : ∀ j_, j_ ≠ 37 → B10 j_ = Be j_ := fun j_ hj_ => by rw [eB10]; exact up_ne hj_
          refine Z.aload_n hX dX4_startRoot_87 rfl rfl ?_
          refine Z.getf hX 4 5 1 dX4_startRoot_88 rfl rfl inX4 (by decide) fl_X4_16 rfl rfl ?_
          refine Z.getf hX 3 (24 + 37) 0 dX4_startRoot_91 (cW_pl (by decide)) rfl inX3 (by decide) fl_X4_57 rfl rfl ?_
          refine Z.aload_n hX dX4_startRoot_94 rfl rfl ?_
          refine Z.getf hX 4 5 1 dX4_startRoot_95 rfl rfl inX4 (by decide) fl_X4_16 rfl rfl ?_
          refine Z.getf hX 3 (24 + 37) 1 dX4_startRoot_98 (cW_pl (by decide)) rfl inX3 (by decide) fl_X4_32 rfl rfl ?_
          refine Z.iload_n hX dX4_startRoot_101 rfl rfl ?_
          refine Z.iload_n hX dX4_startRoot_102 rfl rfl ?_
          refine Z.idiv hX dX4_startRoot_103 (by omega) (by omega) (by omega) (by omega) ?_
          obtain ⟨rf, erf⟩ : ∃ x, x = fb / pw := ⟨_, rfl⟩
          rw [← erf]
          rw [← erf] at hmn hfd
          refine Z.callSNi (As := [.int (zI (B10 37)), .int (zI rf)]) (rest := [.ref (ar 37)]) hX (ct_X6_slotOf l D ce (B10 37) rf (by omega) (by omega)) mc_X6_slotOf ns_X4_61 st_X6_slotOf ini_X6 nd_X6_slotOf ⟨Nat.le_of_ble_eq_true rfl, Nat.le_of_ble_eq_true rfl⟩ ⟨rfl, rfl⟩ ⟨Nat.le_refl _, Nat.le_refl _⟩ rfl (Nat.le_of_ble_eq_true rfl) dX4_startRoot_104 ?_
          rintro r_11 w1 ⟨sb, hr_, hw_, esb, hsb⟩
          subst hr_
          refine ⟨hw_, ?_⟩
          refine Z.lload hX dX4_startRoot_107 rfl ?_
          refine Z.lastore hX (66 + 37) 1 dX4_startRoot_109 (cW_ar (by decide)) rfl (by omega) (by omega) (by decide) ?_
          obtain ⟨J12, eJ12⟩ : ∃ J' : Nat → Nat → Int64, J' = va_up Je 37 (vp_updL (Je 37) (sb : Int).toNat (rl)) := ⟨_, rfl⟩
          refine Z.toW (w' := cW ce h pl ar G L B10 J12) (by rw [eJ12]; exact cW_setJ (by decide)) ?_
          have gJ12 : J12 37 = vp_updL (Je 37) (sb : Int).toNat (rl) := by rw [eJ12]; exact up_eq
          have fJ12 : ∀ j_, j_ ≠ 37 → J12 j_ = Je j_ := fun j_ hj_ => by rw [eJ12]; exact up_ne hj_
          refine Z.lload hX dX4_startRoot_110 rfl ?_
          refine Z.iload_n hX dX4_startRoot_112 rfl rfl ?_
          refine Z.callSNl (As := [.long rl, .int (zI pw)]) (rest := []) hX (ct_X6_powerOf l D ce rl pw (by omega)) mc_X6_powerOf ns_X4_74 st_X6_powerOf ini_X6 nd_X6_powerOf ⟨Nat.le_of_ble_eq_true rfl, Nat.le_of_ble_eq_true rfl⟩ ⟨rfl, rfl⟩ ⟨Nat.le_refl _, Nat.le_refl _⟩ rfl (Nat.le_of_ble_eq_true rfl) dX4_startRoot_113 ?_
          rintro po w1 ⟨r014, hr_, hw_, hpo⟩
          subst hr_
          refine ⟨hw_, ?_⟩
          refine Z.lload_n hX dX4_startRoot_116 rfl rfl ?_
          refine Z.lcmp_ne hX 125 dX4_startRoot_117 dX4_startRoot_118 (by decide) ?_ ?_
          · intro c15
            refine Z.iconst hX dX4_startRoot_125 ?_
            exact hR _ _ _ _ dX4_startRoot_126 rfl ⟨0, B10, J12, rfl, rfl, (BOK_s (k := 37) hB (by omega) (fun j_ h_37 => ((fB10 j_ h_37).trans ((e1 j_ h_37).trans rfl)))), (fun j_ h_37 => ((fB10 j_ h_37).trans ((e1 j_ h_37).trans rfl))), Or.inl rfl, (fun j_ h_37 => ((fJ12 j_ h_37).trans ((e2 j_ h_37).trans rfl))), (fun _ => st_lead ⟨h2, hp.2⟩ hb36 hf0 hS (by rw [esa, efb]) hrl hpo (by assumption)), (fun q => absurd q (by decide))⟩
          · intro c15
            refine Z.iconst hX dX4_startRoot_121 ?_
            refine Z.goto hX 126 dX4_startRoot_122 (by decide) ?_
            exact hR _ _ _ _ dX4_startRoot_126 rfl ⟨1, B10, J12, rfl, rfl, (BOK_s (k := 37) hB (by omega) (fun j_ h_37 => ((fB10 j_ h_37).trans ((e1 j_ h_37).trans rfl)))), (fun j_ h_37 => ((fB10 j_ h_37).trans ((e1 j_ h_37).trans rfl))), Or.inr ⟨rfl, by rw [gB10]; omega⟩, (fun j_ h_37 => ((fJ12 j_ h_37).trans ((e2 j_ h_37).trans rfl))), (fun q => absurd q (by decide)), (fun _ => by rw [gB10]; exact st_yes ⟨h2, hp.2⟩ (by rw [esa, efb]) hl0 hrl hpo (by assumption) efb (by rw [← e36]; exact erb) erf (by assumption) (by assumption) (by omega) e5 (by rw [esb, gB10]) gJ12)⟩
        · intro c5
          refine Z.iconst hX dX4_startRoot_35 ?_
          exact hR _ _ _ _ dX4_startRoot_36 rfl ⟨0, B, J, rfl, rfl, hB, (fun _ _ => rfl), Or.inl rfl, (fun _ _ => rfl), (fun _ => st_mod ⟨h2, hp.2⟩ hb36 hf0 efb (by first | exact Or.inl (by assumption) | exact Or.inr (Or.inl (by assumption)) | exact Or.inr (Or.inr (Or.inl (by assumption))) | exact Or.inr (Or.inr (Or.inr (by assumption))))), (fun q => absurd q (by decide))⟩

set_option maxHeartbeats 4000000 in
set_option maxRecDepth 100000 in
theorem ct_X4_completeRoot_w (l : Launch) (D : va_G) (ce : Nat → ClassId) (h pl ar : Nat → Nat) (G : Nat → Int) (L : Nat → Nat → Int64) (B : Nat → Int) (J : Nat → Nat → Int64) (pw : Int) (f0 : Int) (hB : BOK B) (hp : 2 ≤ pw ∧ pw ≤ 6) (hr : B 37 * pw ≤ 6) (hb1 : 1 ≤ B 36 ∧ B 36 ≤ 6) (hf0 : FB (J 36) (B 36) f0) (hS : sS (fun a b => ci (pcl (J 36)) (7 * a + b)) ≤ 18014398509481984) (hsr : SRX (J 36) (J 37) (B 36) (B 37) pw f0) : Ct l yX4_completeRoot cX4_completeRoot 14 (some .boolean) { frames := 3, cells := 0, slots := 0, locals := 83 } 0 0 D (TY ce) [.ref (h 5), .int (zI pw)] (cW ce h pl ar G L B J) (QI D (TY ce) (fun r w1 => ∃ z : Int, ∃ B2 : Nat → Int, ∃ J2 : Nat → Nat → Int64, r = zI z ∧ w1 = cW ce h pl ar G L B2 J2 ∧ (BOK B2) ∧ (∀ k, k ≠ 38 → k ≠ 39 → B2 k = B k) ∧ (z = 0 ∨ z = 1) ∧ (∀ k, k ≠ 37 → k ≠ 38 → k ≠ 39 → J2 k = J k) ∧ (z = 0 → NRT (J 36) pw (B 36) f0) ∧ (z = 1 → CRZ (J 36) (J2 37) (J2 38) (B 36) (B 37) pw f0))) := by
  refine Ct.ofB (by decide) (Nat.le_of_ble_eq_true rfl) ?_
  intro p e s m args below meth c A Q hX hnm hR
  refine Z.pick (lv' := [(0, .ref (h 5)), (1, .int (zI pw))]) [0, 1] rfl ?_
  have hb37 := hB 37 (by decide)
  obtain ⟨rf, L0, hst⟩ := hsr
  obtain ⟨q1, q2, q3, q4⟩ := srt_r hp hb1 hst
  have hrf := q4.1
  refine Z.aload_n hX dX4_completeRoot_0 rfl rfl ?_
  refine Z.getf hX 4 5 1 dX4_completeRoot_1 rfl rfl inX4 (by decide) fl_X4_16 rfl rfl ?_
  refine Z.callVfi (As := []) (rest := []) hX 3 (24 + 37) rfl (cW_pl (by decide)) (ct_X3_firstOfBound_w l D ce h pl ar G L B J 37 (by decide) hB) mc_X3_firstOfBound ml_X4_53 im_X3_firstOfBound se_X3_firstOfBound ini_X3 nd_X3_firstOfBound ⟨Nat.le_of_ble_eq_true rfl, Nat.le_of_ble_eq_true rfl⟩ ⟨rfl, rfl⟩ ⟨Nat.le_refl _, Nat.le_refl _⟩ rfl (Nat.le_of_ble_eq_true rfl) dX4_completeRoot_4 ?_
  rintro r_1 w1 ⟨fb, hr_, hw_, hfb, hf2, hf3, hf4⟩
  subst hr_
  subst hw_
  have efb : fb = rf := fb_uq hfb hf2 hf4 q4
  refine Z.istore_n (lv' := [(2, .int (zI fb)), (0, .ref (h 5)), (1, .int (zI pw))]) hX dX4_completeRoot_7 rfl (by decide) rfl ?_
  refine Z.iload_n hX dX4_completeRoot_8 rfl rfl ?_
  refine Z.if_ge hX 14 dX4_completeRoot_9 (by decide) ⟨by omega, by omega⟩ ?_ ?_
  · intro c2
    refine Z.iload_n hX dX4_completeRoot_14 rfl rfl ?_
    refine Z.i2l hX dX4_completeRoot_15 ⟨by omega, by omega⟩ ?_
    refine Z.aload_n hX dX4_completeRoot_16 rfl rfl ?_
    refine Z.getf hX 4 5 1 dX4_completeRoot_17 rfl rfl inX4 (by decide) fl_X4_16 rfl rfl ?_
    refine Z.getf hX 3 (24 + 37) 0 dX4_completeRoot_20 (cW_pl (by decide)) rfl inX3 (by decide) fl_X4_57 rfl rfl ?_
    refine Z.aload_n hX dX4_completeRoot_23 rfl rfl ?_
    refine Z.getf hX 4 5 1 dX4_completeRoot_24 rfl rfl inX4 (by decide) fl_X4_16 rfl rfl ?_
    refine Z.getf hX 3 (24 + 37) 1 dX4_completeRoot_27 (cW_pl (by decide)) rfl inX3 (by decide) fl_X4_32 rfl rfl ?_
    refine Z.iload_n hX dX4_completeRoot_30 rfl rfl ?_
    refine Z.callSNi (As := [.int (zI (B 37)), .int (zI fb)]) (rest := [.ref (ar 37), .long (zL pw)]) hX (ct_X6_slotOf l D ce (B 37) fb (by omega) (by omega)) mc_X6_slotOf ns_X4_61 st_X6_slotOf ini_X6 nd_X6_slotOf ⟨Nat.le_of_ble_eq_true rfl, Nat.le_of_ble_eq_true rfl⟩ ⟨rfl, rfl⟩ ⟨Nat.le_refl _, Nat.le_refl _⟩ rfl (Nat.le_of_ble_eq_true rfl) dX4_completeRoot_31 ?_
    rintro r_3 w1 ⟨sa, hr_, hw_, esa, hsa⟩
    subst hr_
    refine ⟨hw_, ?_⟩
    refine Z.laload hX (66 + 37) 1 dX4_completeRoot_34 (cW_ar (by decide)) rfl (by omega) (by omega) (by decide) ?_
    refine Z.iload_n hX dX4_completeRoot_35 rfl rfl ?_
    refine Z.iconst hX dX4_completeRoot_36 ?_
    refine Z.isub hX dX4_completeRoot_37 ?_
    refine Z.callSNl (As := [.long (J 37 (sa : Int).toNat), .int (zI (pw - 1))]) (rest := [.long (zL pw)]) hX (ct_X6_powerOf l D ce (J 37 (sa : Int).toNat) (pw - 1) (by omega)) mc_X6_powerOf ns_X4_74 st_X6_powerOf ini_X6 nd_X6_powerOf ⟨Nat.le_of_ble_eq_true rfl, Nat.le_of_ble_eq_true rfl⟩ ⟨rfl, rfl⟩ ⟨Nat.le_refl _, Nat.le_refl _⟩ rfl (Nat.le_of_ble_eq_true rfl) dX4_completeRoot_38 ?_
    rintro po w1 ⟨r05, hr_, hw_, hpo⟩
    subst hr_
    refine ⟨hw_, ?_⟩
    refine Z.lmul hX dX4_completeRoot_41 ?_
    refine Z.lstore_n (lv' := [(3, .long ((zL pw) * po)), (2, .int (zI fb)), (0, .ref (h 5)), (1, .int (zI pw))]) hX dX4_completeRoot_42 rfl (by decide) rfl ?_
    obtain ⟨dv, edv⟩ : ∃ x : Int64, x = (zL pw) * po := ⟨_, rfl⟩
    rw [← edv]
    have hpo2 : po = lpow L0 (pw - 1).toNat := by rw [hpo, esa, efb, q2]
    have hdk := (crc_d (b := 0) hp hst.2.2.2.1 (srt_S hb1 hf0 hS hst) edv hpo2).2
    refine Z.lload_n hX dX4_completeRoot_43 rfl rfl ?_
    refine Z.lconst (v := 0) hX dX4_completeRoot_44 rfl ?_
    refine Z.lcmp_ne hX 51 dX4_completeRoot_45 dX4_completeRoot_46 (by decide) ?_ ?_
    · intro c6
      have hdv0 : ¬ dv = 0 := by assumption
      refine Z.aload_n hX dX4_completeRoot_51 rfl rfl ?_
      refine Z.getf hX 4 5 0 dX4_completeRoot_52 rfl rfl inX4 (by decide) fl_X4_10 rfl rfl ?_
      refine Z.callVfl (As := []) (rest := []) hX 3 (24 + 36) rfl (cW_pl (by decide)) (ct_X3_sumOfSizes_w l D ce h pl ar G L B J 36 (by decide) hB (by rw [sz_sS]; omega)) mc_X3_sumOfSizes ml_X4_77 im_X3_sumOfSizes se_X3_sumOfSizes ini_X3 nd_X3_sumOfSizes ⟨Nat.le_of_ble_eq_true rfl, Nat.le_of_ble_eq_true rfl⟩ ⟨rfl, rfl⟩ ⟨Nat.le_refl _, Nat.le_refl _⟩ rfl (Nat.le_of_ble_eq_true rfl) dX4_completeRoot_55 ?_
      rintro sv w1 ⟨r08, hr_, hw_, hsv⟩
      subst hr_
      subst hw_
      refine Z.iload_n hX dX4_completeRoot_58 rfl rfl ?_
      refine Z.callSNl (As := [.long sv, .int (zI pw)]) (rest := []) hX (ct_X6_rootOf_w l D ce sv pw (by omega) hp.1 (by omega)) mc_X6_rootOf ns_X4_67 st_X6_rootOf ini_X6 nd_X6_rootOf ⟨Nat.le_of_ble_eq_true rfl, Nat.le_of_ble_eq_true rfl⟩ ⟨rfl, rfl⟩ ⟨Nat.le_refl _, Nat.le_refl _⟩ rfl (Nat.le_of_ble_eq_true rfl) dX4_completeRoot_59 ?_
      rintro li w1 ⟨r010, hr_, hw_, hli⟩
      subst hr_
      refine ⟨hw_, ?_⟩
      have hc := crc_mk hp hb1 hf0 hS hst edv hpo2 hsv hli
      refine Z.lstore (lv' := [(5, .long li), (3, .long dv), (2, .int (zI fb)), (0, .ref (h 5)), (1, .int (zI pw))]) hX dX4_completeRoot_62 (by decide) rfl ?_
      refine Z.aload_n hX dX4_completeRoot_64 rfl rfl ?_
      refine Z.iload_n hX dX4_completeRoot_65 rfl rfl ?_
      refine Z.callVfv (As := [.int (zI pw)]) (rest := []) hX 4 5 rfl rfl (ct_X4_raiseRoot_w l D ce h pl ar G L B J pw hB (by omega) q1 hr) mc_X4_raiseRoot ml_X4_81 im_X4_raiseRoot se_X4_raiseRoot ini_X4 nd_X4_raiseRoot ⟨Nat.le_of_ble_eq_true rfl, Nat.le_of_ble_eq_true rfl⟩ ⟨rfl, rfl⟩ ⟨Nat.le_refl _, Nat.le_refl _⟩ rfl (Nat.le_of_ble_eq_true rfl) dX4_completeRoot_66 ?_
      rintro w1 ⟨Br, Jr, hw_, r1, r2, r3, r4⟩
      subst hw_
      have e37r := r2 37 (by decide) (by decide)
      refine Z.aload_n hX dX4_completeRoot_69 rfl rfl ?_
      refine Z.getf hX 4 5 1 dX4_completeRoot_70 rfl rfl inX4 (by decide) fl_X4_16 rfl rfl ?_
      refine Z.getf hX 3 (24 + 37) 1 dX4_completeRoot_73 (cW_pl (by decide)) rfl inX3 (by decide) fl_X4_32 rfl rfl ?_
      refine Z.istore (lv' := [(7, .int (zI (Br 37))), (5, .long li), (3, .long dv), (2, .int (zI fb)), (0, .ref (h 5)), (1, .int (zI pw))]) hX dX4_completeRoot_76 (by decide) rfl ?_
      have key_78 : ∀ (N : Nat), ∀ (dd : Int) (BB : Nat → Int) (MM : Nat → Nat → Int64), (dd + 1).toNat < N → (hd : -1 ≤ dd ∧ dd ≤ B 37) → (hM : BOK BB) → (hf : ∀ k, k ≠ 38 → k ≠ 39 → BB k = B k) → (hfj : ∀ k, k ≠ 37 → k ≠ 38 → k ≠ 39 → MM k = J k) → (hci : CRI (J 36) (MM 37) (MM 38) (B 36) (B 37) pw f0 rf L0 li (dd) (dd)) → Z p l e { frames := 3, cells := 0, slots := 0, locals := 83 } s m args below meth c D A 14 0 0 Q 78 [(7, .int (zI dd)), (5, .long li), (3, .long dv), (2, .int (zI fb)), (1, .int (zI pw)), (0, .ref (h 5))] [] (cW ce h pl ar G L BB MM) := by
        intro N
        induction N with
        | zero => intro dd BB MM hm; exact absurd hm (Nat.not_lt_zero _)
        | succ N ih_78 =>
          intro dd BB MM hm hd hM hf hfj hci
          have e37 : BB 37 = B 37 := hf 37 (by decide) (by decide)
          refine Z.iload hX dX4_completeRoot_78 rfl ?_
          refine Z.if_lt hX 237 dX4_completeRoot_80 (by decide) ⟨by omega, by omega⟩ ?_ ?_
          · intro c12
            refine Z.iconst hX dX4_completeRoot_237 ?_
            exact hR _ _ _ _ dX4_completeRoot_238 rfl ⟨1, BB, MM, rfl, rfl, hM, (fun j_ h_38 h_39 => (hf j_ h_38 h_39)), (by omega), hfj, (fun q => absurd q (by decide)), (fun _ => ⟨rf, L0, li, dv, dd, dd, hc, hci, by omega⟩)⟩
          · intro c12
            have key_102 : ∀ (j0 : Int), (hj0 : 0 ≤ j0 ∧ (j0 ≤ dd + 1)) → (hci1 : CRI (J 36) (MM 37) (MM 38) (B 36) (B 37) pw f0 rf L0 li (dd) (dd - j0)) → (hlt : dd < B 37 ∨ rf < j0) → Z p l e { frames := 3, cells := 0, slots := 0, locals := 83 } s m args below meth c D A 14 0 0 Q 102 [(7, .int (zI dd)), (5, .long li), (3, .long dv), (2, .int (zI fb)), (1, .int (zI pw)), (0, .ref (h 5))] [.int (zI j0)] (cW ce h pl ar G L BB MM) := by
              intro j0 hj0 hci1 hlt
              refine Z.istore (lv' := [(8, .int (zI j0)), (7, .int (zI dd)), (5, .long li), (3, .long dv), (2, .int (zI fb)), (1, .int (zI pw)), (0, .ref (h 5))]) hX dX4_completeRoot_102 (by decide) rfl ?_
              have key_104 : ∀ (N : Nat), ∀ (j : Int) (BB : Nat → Int) (MM : Nat → Nat → Int64), (dd + 1 - j).toNat < N → (hj : 0 ≤ j ∧ j ≤ dd + 1) → (hM : BOK BB) → (hf : ∀ k, k ≠ 38 → k ≠ 39 → BB k = B k) → (hfj : ∀ k, k ≠ 37 → k ≠ 38 → k ≠ 39 → MM k = J k) → (hci2 : CRI (J 36) (MM 37) (MM 38) (B 36) (B 37) pw f0 rf L0 li (dd) (dd - j)) → (hlt2 : dd < B 37 ∨ rf < j) → Z p l e { frames := 3, cells := 0, slots := 0, locals := 83 } s m args below meth c D A 14 0 0 Q 104 [(8, .int (zI j)), (7, .int (zI dd)), (5, .long li), (3, .long dv), (2, .int (zI fb)), (1, .int (zI pw)), (0, .ref (h 5))] [] (cW ce h pl ar G L BB MM) := by
                intro N
                induction N with
                | zero => intro j BB MM hm; exact absurd hm (Nat.not_lt_zero _)
                | succ N ih_104 =>
                  intro j BB MM hm hj hM hf hfj hci2 hlt2
                  have e37 : BB 37 = B 37 := hf 37 (by decide) (by decide)
                  refine Z.iload hX dX4_completeRoot_104 rfl ?_
                  refine Z.iload hX dX4_completeRoot_106 rfl ?_
                  refine Z.icmp_gt hX 231 dX4_completeRoot_108 (by decide) ⟨by omega, by omega⟩ ⟨by omega, by omega⟩ ?_ ?_
                  · intro c13
                    refine Z.iinc (lv' := [(7, .int (zI (dd + -1))), (8, .int (zI j)), (5, .long li), (3, .long dv), (2, .int (zI fb)), (1, .int (zI pw)), (0, .ref (h 5))]) hX dX4_completeRoot_231 rfl (by decide) rfl ?_
                    refine Z.goto hX 78 dX4_completeRoot_234 (by decide) ?_
                    refine Z.pick [0, 2, 3, 4, 5, 6] rfl ?_
                    exact ih_78 _ _ _ (by omega) (by omega) hM hf hfj (cr_n hci2 (by omega))
                  · intro c13
                    have e37 : BB 37 = B 37 := hf 37 (by decide) (by decide)
                    have hcb := cr_b (B := BB 37) (k := pw) (f := fb) (d := dd) (j := j) (by omega) ⟨by omega, by rw [e37]; exact hr⟩ (by omega) (by omega) (by omega)
                    refine Z.iload hX dX4_completeRoot_111 rfl ?_
                    refine Z.iload_n hX dX4_completeRoot_113 rfl rfl ?_
                    refine Z.iconst hX dX4_completeRoot_114 ?_
                    refine Z.isub hX dX4_completeRoot_115 ?_
                    refine Z.aload_n hX dX4_completeRoot_116 rfl rfl ?_
                    refine Z.getf hX 4 5 1 dX4_completeRoot_117 rfl rfl inX4 (by decide) fl_X4_16 rfl rfl ?_
                    refine Z.getf hX 3 (24 + 37) 1 dX4_completeRoot_120 (cW_pl (by decide)) rfl inX3 (by decide) fl_X4_32 rfl rfl ?_
                    refine Z.imul hX dX4_completeRoot_123 ?_
                    refine Z.iadd hX dX4_completeRoot_124 ?_
                    refine Z.iload hX dX4_completeRoot_125 rfl ?_
                    refine Z.iload_n hX dX4_completeRoot_127 rfl rfl ?_
                    refine Z.iconst hX dX4_completeRoot_128 ?_
                    refine Z.isub hX dX4_completeRoot_129 ?_
                    refine Z.iload_n hX dX4_completeRoot_130 rfl rfl ?_
                    refine Z.imul hX dX4_completeRoot_131 ?_
                    refine Z.iadd hX dX4_completeRoot_132 ?_
                    refine Z.callSNi (As := [.int (zI (dd + ((pw - 1) * (BB 37)))), .int (zI (j + ((pw - 1) * fb)))]) (rest := []) hX (ct_X6_slotOf l D ce (dd + ((pw - 1) * (BB 37))) (j + ((pw - 1) * fb)) (by omega) (by omega)) mc_X6_slotOf ns_X4_61 st_X6_slotOf ini_X6 nd_X6_slotOf ⟨Nat.le_of_ble_eq_true rfl, Nat.le_of_ble_eq_true rfl⟩ ⟨rfl, rfl⟩ ⟨Nat.le_refl _, Nat.le_refl _⟩ rfl (Nat.le_of_ble_eq_true rfl) dX4_completeRoot_133 ?_
                    rintro r_14 w1 ⟨sc, hr_, hw_, esc, hsc⟩
                    subst hr_
                    refine ⟨hw_, ?_⟩
                    refine Z.istore (lv' := [(9, .int (zI sc)), (8, .int (zI j)), (7, .int (zI dd)), (5, .long li), (3, .long dv), (2, .int (zI fb)), (1, .int (zI pw)), (0, .ref (h 5))]) hX dX4_completeRoot_136 (by decide) rfl ?_
                    refine Z.aload_n hX dX4_completeRoot_138 rfl rfl ?_
                    refine Z.getf hX 4 5 0 dX4_completeRoot_139 rfl rfl inX4 (by decide) fl_X4_10 rfl rfl ?_
                    refine Z.getf hX 3 (24 + 36) 0 dX4_completeRoot_142 (cW_pl (by decide)) rfl inX3 (by decide) fl_X4_57 rfl rfl ?_
                    refine Z.iload hX dX4_completeRoot_145 rfl ?_
                    refine Z.laload hX (66 + 36) 1 dX4_completeRoot_147 (cW_ar (by decide)) rfl (by omega) (by omega) (by decide) ?_
                    refine Z.aload_n hX dX4_completeRoot_148 rfl rfl ?_
                    refine Z.getf hX 4 5 2 dX4_completeRoot_149 rfl rfl inX4 (by decide) fl_X4_19 rfl rfl ?_
                    refine Z.getf hX 3 (24 + 38) 0 dX4_completeRoot_152 (cW_pl (by decide)) rfl inX3 (by decide) fl_X4_57 rfl rfl ?_
                    refine Z.iload hX dX4_completeRoot_155 rfl ?_
                    refine Z.laload hX (66 + 38) 1 dX4_completeRoot_157 (cW_ar (by decide)) rfl (by omega) (by omega) (by decide) ?_
                    refine Z.lsub hX dX4_completeRoot_158 ?_
                    refine Z.lstore (lv' := [(10, .long ((MM 36 (sc : Int).toNat) - (MM 38 (sc : Int).toNat))), (9, .int (zI sc)), (8, .int (zI j)), (7, .int (zI dd)), (5, .long li), (3, .long dv), (2, .int (zI fb)), (1, .int (zI pw)), (0, .ref (h 5))]) hX dX4_completeRoot_159 (by decide) rfl ?_
                    obtain ⟨re, ere⟩ : ∃ x : Int64, x = (MM 36 (sc : Int).toNat) - (MM 38 (sc : Int).toNat) := ⟨_, rfl⟩
                    rw [← ere]
                    have esc2 : sc = sl (dd + (pw - 1) * B 37) + (j + (pw - 1) * rf) := by rw [esc, e37, efb]
                    have ere2 : re = J 36 sc.toNat - MM 38 sc.toNat := by rw [ere, hfj 36 (by decide) (by decide) (by decide)]
                    refine Z.lload hX dX4_completeRoot_161 rfl ?_
                    refine Z.lload_n hX dX4_completeRoot_163 rfl rfl ?_
                    refine Z.ldiv hX dX4_completeRoot_164 hdv0 ?_
                    refine Z.lstore (lv' := [(12, .long (re / dv)), (10, .long re), (9, .int (zI sc)), (8, .int (zI j)), (7, .int (zI dd)), (5, .long li), (3, .long dv), (2, .int (zI fb)), (1, .int (zI pw)), (0, .ref (h 5))]) hX dX4_completeRoot_165 (by decide) rfl ?_
                    obtain ⟨fo, efo⟩ : ∃ x : Int64, x = re / dv := ⟨_, rfl⟩
                    rw [← efo]
                    refine Z.lload hX dX4_completeRoot_167 rfl ?_
                    refine Z.lload_n hX dX4_completeRoot_169 rfl rfl ?_
                    refine Z.lmul hX dX4_completeRoot_170 ?_
                    refine Z.lload hX dX4_completeRoot_171 rfl ?_
                    refine Z.lcmp_ne hX 194 dX4_completeRoot_173 dX4_completeRoot_174 (by decide) ?_ ?_
                    · intro c15
                      refine Z.iconst hX dX4_completeRoot_194 ?_
                      exact hR _ _ _ _ dX4_completeRoot_195 rfl ⟨0, BB, MM, rfl, rfl, hM, (fun j_ h_38 h_39 => (hf j_ h_38 h_39)), (by omega), hfj, (fun _ => cr_no hc hci2 (by omega) hlt2 esc2 ere2 efo (by first | exact Or.inl (by assumption) | exact Or.inr (Or.inl (by assumption)) | exact Or.inr (Or.inr (by assumption)))), (fun q => absurd q (by decide))⟩
                    · intro c15
                      refine Z.lload hX dX4_completeRoot_177 rfl ?_
                      refine Z.lload hX dX4_completeRoot_179 rfl ?_
                      refine Z.lcmp_gt hX 194 dX4_completeRoot_181 dX4_completeRoot_182 (by decide) ?_ ?_
                      · intro c16
                        refine Z.iconst hX dX4_completeRoot_194 ?_
                        exact hR _ _ _ _ dX4_completeRoot_195 rfl ⟨0, BB, MM, rfl, rfl, hM, (fun j_ h_38 h_39 => (hf j_ h_38 h_39)), (by omega), hfj, (fun _ => cr_no hc hci2 (by omega) hlt2 esc2 ere2 efo (by first | exact Or.inl (by assumption) | exact Or.inr (Or.inl (by assumption)) | exact Or.inr (Or.inr (by assumption)))), (fun q => absurd q (by decide))⟩
                      · intro c16
                        refine Z.lload hX dX4_completeRoot_185 rfl ?_
                        refine Z.lload hX dX4_completeRoot_187 rfl ?_
                        refine Z.lneg hX dX4_completeRoot_189 ?_
                        refine Z.lcmp_ge hX 196 dX4_completeRoot_190 dX4_completeRoot_191 (by decide) ?_ ?_
                        · intro c17
                          refine Z.lload hX dX4_completeRoot_196 rfl ?_
                          refine Z.lconst (v := 0) hX dX4_completeRoot_198 rfl ?_
                          refine Z.lcmp_eq hX 225 dX4_completeRoot_199 dX4_completeRoot_200 (by decide) ?_ ?_
                          · intro c18
                            refine Z.iinc (lv' := [(8, .int (zI (j + 1))), (12, .long fo), (10, .long re), (9, .int (zI sc)), (7, .int (zI dd)), (5, .long li), (3, .long dv), (2, .int (zI fb)), (1, .int (zI pw)), (0, .ref (h 5))]) hX dX4_completeRoot_225 rfl (by decide) rfl ?_
                            refine Z.goto hX 104 dX4_completeRoot_228 (by decide) ?_
                            refine Z.pick [0, 4, 5, 6, 7, 8, 9] rfl ?_
                            exact ih_104 _ _ _ (by omega) (by omega) hM (fun j_ h_38 h_39 => (hf j_ h_38 h_39)) (fun j_ h_37 h_38 h_39 => (hfj j_ h_37 h_38 h_39)) (cr_s0 hc hci2 (by omega) hlt2 esc2 ere2 efo (by assumption)) (by omega)
                          · intro c18
                            refine Z.aload_n hX dX4_completeRoot_203 rfl rfl ?_
                            refine Z.getf hX 4 5 1 dX4_completeRoot_204 rfl rfl inX4 (by decide) fl_X4_16 rfl rfl ?_
                            refine Z.getf hX 3 (24 + 37) 0 dX4_completeRoot_207 (cW_pl (by decide)) rfl inX3 (by decide) fl_X4_57 rfl rfl ?_
                            refine Z.iload hX dX4_completeRoot_210 rfl ?_
                            refine Z.iload hX dX4_completeRoot_212 rfl ?_
                            refine Z.callSNi (As := [.int (zI dd), .int (zI j)]) (rest := [.ref (ar 37)]) hX (ct_X6_slotOf l D ce dd j (by omega) (by omega)) mc_X6_slotOf ns_X4_61 st_X6_slotOf ini_X6 nd_X6_slotOf ⟨Nat.le_of_ble_eq_true rfl, Nat.le_of_ble_eq_true rfl⟩ ⟨rfl, rfl⟩ ⟨Nat.le_refl _, Nat.le_refl _⟩ rfl (Nat.le_of_ble_eq_true rfl) dX4_completeRoot_214 ?_
                            rintro r_19 w1 ⟨sd, hr_, hw_, esd, hsd⟩
                            subst hr_
                            refine ⟨hw_, ?_⟩
                            refine Z.lload hX dX4_completeRoot_217 rfl ?_
                            refine Z.lastore hX (66 + 37) 1 dX4_completeRoot_219 (cW_ar (by decide)) rfl (by omega) (by omega) (by decide) ?_
                            obtain ⟨J20, eJ20⟩ : ∃ J' : Nat → Nat → Int64, J' = va_up MM 37 (vp_updL (MM 37) (sd : Int).toNat (fo)) := ⟨_, rfl⟩
                            refine Z.toW (w' := cW ce h pl ar G L BB J20) (by rw [eJ20]; exact cW_setJ (by decide)) ?_
                            have gJ20 : J20 37 = vp_updL (MM 37) (sd : Int).toNat (fo) := by rw [eJ20]; exact up_eq
                            have fJ20 : ∀ j_, j_ ≠ 37 → J20 j_ = MM j_ := fun j_ hj_ => by rw [eJ20]; exact up_ne hj_
                            have pz_ : PZ (J20 37) (B 37) := PZ_u (d := dd) (by omega) (by omega) (by omega) esd gJ20 hci2.1
                            refine Z.aload_n hX dX4_completeRoot_220 rfl rfl ?_
                            refine Z.iload_n hX dX4_completeRoot_221 rfl rfl ?_
                            refine Z.callVfv (As := [.int (zI pw)]) (rest := []) hX 4 5 rfl rfl (ct_X4_raiseRoot_w l D ce h pl ar G L BB J20 pw hM (by omega) (by rw [e37]; exact pz_) (by rw [e37]; exact hr)) mc_X4_raiseRoot ml_X4_81 im_X4_raiseRoot se_X4_raiseRoot ini_X4 nd_X4_raiseRoot ⟨Nat.le_of_ble_eq_true rfl, Nat.le_of_ble_eq_true rfl⟩ ⟨rfl, rfl⟩ ⟨Nat.le_refl _, Nat.le_refl _⟩ rfl (Nat.le_of_ble_eq_true rfl) dX4_completeRoot_222 ?_
                            rintro w1 ⟨Bs, Js, hw_, s1, s2, s3, s4⟩
                            subst hw_
                            refine Z.iinc (lv' := [(8, .int (zI (j + 1))), (12, .long fo), (10, .long re), (9, .int (zI sc)), (7, .int (zI dd)), (5, .long li), (3, .long dv), (2, .int (zI fb)), (1, .int (zI pw)), (0, .ref (h 5))]) hX dX4_completeRoot_225 rfl (by decide) rfl ?_
                            refine Z.goto hX 104 dX4_completeRoot_228 (by decide) ?_
                            refine Z.pick [0, 4, 5, 6, 7, 8, 9] rfl ?_
                            exact ih_104 _ _ _ (by omega) (by omega) s1 (fun j_ h_38 h_39 => ((s2 j_ h_38 h_39).trans (hf j_ h_38 h_39))) (fun j_ h_37 h_38 h_39 => ((s3 j_ h_38 h_39).trans ((fJ20 j_ h_37).trans (hfj j_ h_37 h_38 h_39)))) (cr_s1 hc hci2 (by omega) hlt2 esc2 ere2 efo esd ((s3 37 (by decide) (by decide)).trans gJ20) (by rw [s3 37 (by decide) (by decide)]; exact s4) (by assumption) (by assumption)) (by omega)
                        · intro c17
                          refine Z.iconst hX dX4_completeRoot_194 ?_
                          exact hR _ _ _ _ dX4_completeRoot_195 rfl ⟨0, BB, MM, rfl, rfl, hM, (fun j_ h_38 h_39 => (hf j_ h_38 h_39)), (by omega), hfj, (fun _ => cr_no hc hci2 (by omega) hlt2 esc2 ere2 efo (by first | exact Or.inl (by assumption) | exact Or.inr (Or.inl (by assumption)) | exact Or.inr (Or.inr (by assumption)))), (fun q => absurd q (by decide))⟩
              refine Z.pick [0, 1, 2, 3, 4, 5, 6] rfl ?_
              exact key_104 _ _ _ _ (Nat.lt_succ_self _) (by omega) hM hf hfj hci1 hlt
            refine Z.iload hX dX4_completeRoot_83 rfl ?_
            refine Z.aload_n hX dX4_completeRoot_85 rfl rfl ?_
            refine Z.getf hX 4 5 1 dX4_completeRoot_86 rfl rfl inX4 (by decide) fl_X4_16 rfl rfl ?_
            refine Z.getf hX 3 (24 + 37) 1 dX4_completeRoot_89 (cW_pl (by decide)) rfl inX3 (by decide) fl_X4_32 rfl rfl ?_
            refine Z.icmp_ne hX 101 dX4_completeRoot_92 (by decide) ⟨by omega, by omega⟩ ⟨by omega, by omega⟩ ?_ ?_
            · intro c22
              refine Z.iconst hX dX4_completeRoot_101 ?_
              refine Z.pick [0, 1, 2, 3, 4, 5] rfl ?_
              exact key_102 _ (by omega) (by first | (rw [Int.sub_zero]; exact hci) | exact cr_r2 hc hci (by omega) (by omega)) (by omega)
            · intro c22
              refine Z.iload_n hX dX4_completeRoot_95 rfl rfl ?_
              refine Z.iconst hX dX4_completeRoot_96 ?_
              refine Z.iadd hX dX4_completeRoot_97 ?_
              refine Z.goto hX 102 dX4_completeRoot_98 (by decide) ?_
              refine Z.pick [0, 1, 2, 3, 4, 5] rfl ?_
              exact key_102 _ (by omega) (by first | (rw [Int.sub_zero]; exact hci) | exact cr_r2 hc hci (by omega) (by omega)) (by omega)
      refine Z.pick [0, 1, 2, 3, 5, 4] rfl ?_
      exact key_78 _ _ _ _ (Nat.lt_succ_self _) (by omega) r1 (fun j_ h_38 h_39 => ((r2 j_ h_38 h_39).trans rfl)) (fun j_ h_37 h_38 h_39 => ((r3 j_ h_38 h_39).trans rfl)) (by rw [e37r, r3 37 (by decide) (by decide)]; exact cr_0 hc hst r4)
    · intro c6
      refine Z.iconst hX dX4_completeRoot_49 ?_
      exact hR _ _ _ _ dX4_completeRoot_50 rfl ⟨0, B, J, rfl, rfl, hB, (fun _ _ _ => rfl), (by omega), (fun _ _ _ _ => rfl), (fun _ => (dv_z hp.1 hdk (by assumption)).elim), (fun q => absurd q (by decide))⟩
  · intro c2
    refine Z.iconst hX dX4_completeRoot_12 ?_
    exact hR _ _ _ _ dX4_completeRoot_13 rfl ⟨0, B, J, rfl, rfl, hB, (fun _ _ _ => rfl), (by omega), (fun _ _ _ _ => rfl), (fun _ => by exfalso; omega), (fun q => absurd q (by decide))⟩

set_option maxHeartbeats 4000000 in
set_option maxRecDepth 100000 in
theorem ct_X4_findRoot_lw (l : Launch) (D : va_G) (ce : Nat → ClassId) (h pl ar : Nat → Nat) (G : Nat → Int) (L : Nat → Nat → Int64) (B : Nat → Int) (J : Nat → Nat → Int64) (k : Nat) (hB : BOK B) (hk : 20 ≤ k ∧ k < 36) (hzk : PZ (J k) (B k)) (hS0 : sS (fun a b => ci (pcl (J k)) (7 * a + b)) ≤ 18014398509481984) : Ct l yX4_findRoot cX4_findRoot 4 (some .boolean) { frames := 4, cells := 0, slots := 0, locals := 116 } 0 0 D (TY ce) [.ref (h 5), .ref (pl k), .ref (h 6)] (cW ce h pl ar G L B J) (QI D (TY ce) (fun r w1 => ∃ z : Int, ∃ G2 : Nat → Int, ∃ B2 : Nat → Int, ∃ J2 : Nat → Nat → Int64, r = zI z ∧ w1 = cW ce h pl ar G2 L B2 J2 ∧ (z = 0 ∨ z = 1) ∧ (BOK B2) ∧ (∀ k, k ≠ 1 → G2 k = G k) ∧ (G2 1 = G 1 ∨ (1 ≤ G2 1 ∧ G2 1 ≤ 6)) ∧ ((z = 1 ∧ BIG (J k)) ∨ (z = 0 ∧ ¬ BIG (J k))) ∧ (z = 1 → FRC (J k) (J2 40) (B2 40) (G2 1)) ∧ (B2 41 = B 41 ∧ J2 41 = J 41))) := by
  refine Ct.ofB (by decide) (Nat.le_of_ble_eq_true rfl) ?_
  intro p e s m args below meth c A Q hX hnm hR
  refine Z.pick (lv' := [(0, .ref (h 5)), (1, .ref (pl k)), (2, .ref (h 6))]) [0, 1, 2] rfl ?_
  refine Z.aload_n hX dX4_findRoot_0 rfl rfl ?_
  refine Z.getf hX 4 5 0 dX4_findRoot_1 rfl rfl inX4 (by decide) fl_X4_10 rfl rfl ?_
  refine Z.aload_n hX dX4_findRoot_4 rfl rfl ?_
  refine Z.callVfv (As := [.ref (pl k)]) (rest := []) hX 3 (24 + 36) rfl (cW_pl (by decide)) (ct_X3_copy_y l D ce h pl ar G L B J 36 k (by decide) hB (by omega)) mc_X3_copy ml_X4_25 im_X3_copy se_X3_copy ini_X3 nd_X3_copy ⟨Nat.le_of_ble_eq_true rfl, Nat.le_of_ble_eq_true rfl⟩ ⟨rfl, rfl⟩ ⟨Nat.le_refl _, Nat.le_refl _⟩ rfl (Nat.le_of_ble_eq_true rfl) dX4_findRoot_5 ?_
  rintro w1 ⟨Ba, Ja, hw_, a1, a2, a3, a4, a5⟩
  subst hw_
  have epc : pcl (Ja 36) = pcl (J k) := funext (pcl_c a5)
  have hSa : sS (fun a b => ci (pcl (Ja 36)) (7 * a + b)) ≤ 18014398509481984 := by rw [epc]; exact hS0
  refine Z.aload_n hX dX4_findRoot_8 rfl rfl ?_
  refine Z.getf hX 4 5 0 dX4_findRoot_9 rfl rfl inX4 (by decide) fl_X4_10 rfl rfl ?_
  refine Z.callVfv (As := []) (rest := []) hX 3 (24 + 36) rfl (cW_pl (by decide)) (ct_X3_makePrimitive_w l D ce h pl ar G L Ba Ja 36 (by decide) a3 (PZ_cp a4 (hB k (by omega)).1 a5 hzk) (sz60_S hSa)) mc_X3_makePrimitive ml_X4_29 im_X3_makePrimitive se_X3_makePrimitive ini_X3 nd_X3_makePrimitive ⟨Nat.le_of_ble_eq_true rfl, Nat.le_of_ble_eq_true rfl⟩ ⟨rfl, rfl⟩ ⟨Nat.le_refl _, Nat.le_refl _⟩ rfl (Nat.le_of_ble_eq_true rfl) dX4_findRoot_12 ?_
  rintro w1 ⟨Bp, Jp, hw_, b1, b2, b3, b4, b5, b6, b7⟩
  subst hw_
  have hb36 := b3 36 (by decide)
  obtain ⟨hbg0, hbg1⟩ := big_b hb36 b5 b6
  refine Z.aload_n hX dX4_findRoot_15 rfl rfl ?_
  refine Z.getf hX 4 5 0 dX4_findRoot_16 rfl rfl inX4 (by decide) fl_X4_10 rfl rfl ?_
  refine Z.getf hX 3 (24 + 36) 1 dX4_findRoot_19 (cW_pl (by decide)) rfl inX3 (by decide) fl_X4_32 rfl rfl ?_
  refine Z.iconst hX dX4_findRoot_22 ?_
  refine Z.icmp_ge hX 28 dX4_findRoot_23 (by decide) ⟨by omega, by omega⟩ ⟨by omega, by omega⟩ ?_ ?_
  · intro c3
    obtain ⟨f0, hpm⟩ := DVP_pm hb36 (sz60_S hSa) b5 (b7.resolve_left (by omega))
    have hpm2 := PMc_c a5 hpm
    have hsp := PMc_sS hpm hSa
    have key_77 : ∀ (pw : Int) (BB : Nat → Int) (MM : Nat → Nat → Int64), (hp : 1 ≤ pw ∧ pw ≤ 6) → (hM : BOK BB) → (hk6 : BB 36 = Bp 36) → (hm6 : MM 36 = Jp 36) → (hpb : pw ≤ Bp 36) → (hno : ∀ k2 : Int, pw < k2 → k2 ≤ Bp 36 → NRT (Jp 36) k2 (Bp 36) f0) → (hfr : ∀ k, 40 ≤ k → BB k = Bp k ∧ MM k = Jp k) → (hend : pw = 1 ∨ (2 ≤ pw ∧ BB 37 * pw = Bp 36 ∧ RT0 (pcl (Jp 36)) pw (fiO (Bp 36) f0) (ci (pcl (MM 37))))) → Z p l e { frames := 4, cells := 0, slots := 0, locals := 116 } s m args below meth c D A 4 0 0 Q 77 [(3, .int (zI pw)), (2, .ref (h 6)), (0, .ref (h 5))] [] (cW ce h pl ar G L BB MM) := by
      intro pw BB MM hp hM hk6 hm6 hpb hno hfr hend
      refine Z.aload_n hX dX4_findRoot_77 rfl rfl ?_
      refine Z.getf hX 0 6 0 dX4_findRoot_78 rfl rfl inX0 (by decide) fl_X4_47 rfl rfl ?_
      refine Z.iload_n hX dX4_findRoot_81 rfl rfl ?_
      refine Z.iconst hX dX4_findRoot_82 ?_
      refine Z.icmp_le hX 93 dX4_findRoot_83 (by decide) ⟨by omega, by omega⟩ ⟨by omega, by omega⟩ ?_ ?_
      · intro c4
        refine Z.aload_n hX dX4_findRoot_93 rfl rfl ?_
        refine Z.getf hX 4 5 0 dX4_findRoot_94 rfl rfl inX4 (by decide) fl_X4_10 rfl rfl ?_
        refine Z.callVfv (As := [.ref (pl 36)]) (rest := []) hX 3 (24 + 40) rfl (cW_pl (by decide)) (ct_X3_copy_y l D ce h pl ar G L BB MM 40 36 (by decide) hM (by decide)) mc_X3_copy ml_X4_25 im_X3_copy se_X3_copy ini_X3 nd_X3_copy ⟨Nat.le_of_ble_eq_true rfl, Nat.le_of_ble_eq_true rfl⟩ ⟨rfl, rfl⟩ ⟨Nat.le_refl _, Nat.le_refl _⟩ rfl (Nat.le_of_ble_eq_true rfl) dX4_findRoot_97 ?_
        rintro w1 ⟨B26, J27, hw_, f1, f2, f3, f4, f5⟩
        subst hw_
        refine Z.aload_n hX dX4_findRoot_100 rfl rfl ?_
        refine Z.iload_n hX dX4_findRoot_101 rfl rfl ?_
        refine Z.putf (ty := .int) hX 0 6 1 tyX0 dX4_findRoot_102 rfl rfl inX0 tyX0_ok nmX0 (by decide) fl_X4_50 rfl rfl (by decide +kernel) rfl rfl (Nat.le_of_ble_eq_true rfl) ?_
        obtain ⟨G8, eG8⟩ : ∃ F' : Nat → Int, F' = va_up G 1 (pw) := ⟨_, rfl⟩
        refine Z.toW (w' := cW ce h pl ar G8 L B26 J27) (by rw [eG8]; rfl) ?_
        have gG8 : G8 1 = pw := by rw [eG8]; exact up_eq
        have fG8 : ∀ j_, j_ ≠ 1 → G8 j_ = G j_ := fun j_ hj_ => by rw [eG8]; exact up_ne hj_
        refine Z.iconst hX dX4_findRoot_105 ?_
        exact hR _ _ _ _ dX4_findRoot_106 rfl ⟨1, G8, B26, J27, rfl, rfl, (by omega), f3, (fun j_ h_1 => ((fG8 j_ h_1).trans rfl)), Or.inr (by omega), (Or.inl ⟨rfl, (big_c a5).mp (hbg1 (by omega))⟩), (fun _ => by rw [gG8]; exact ⟨Jp 36, Bp 36, f0, hpm2, by omega, by omega, (by first | exact Or.inl ⟨by omega, f4.trans hk6, fun q a b => (f5 q a b).trans (congrFun hm6 _)⟩ | exact Or.inr (fr_o (by omega) hend f4 f5)), hno⟩), ⟨(f1 41 (by decide)).trans ((hfr 41 (by decide)).1.trans ((b1 41 (by decide)).trans (a1 41 (by decide)))), (f2 41 (by decide)).trans ((hfr 41 (by decide)).2.trans ((b2 41 (by decide)).trans (a2 41 (by decide))))⟩⟩
      · intro c4
        refine Z.aload_n hX dX4_findRoot_86 rfl rfl ?_
        refine Z.getf hX 4 5 1 dX4_findRoot_87 rfl rfl inX4 (by decide) fl_X4_16 rfl rfl ?_
        refine Z.goto hX 97 dX4_findRoot_90 (by decide) ?_
        refine Z.callVfv (As := [.ref (pl 37)]) (rest := []) hX 3 (24 + 40) rfl (cW_pl (by decide)) (ct_X3_copy_y l D ce h pl ar G L BB MM 40 37 (by decide) hM (by decide)) mc_X3_copy ml_X4_25 im_X3_copy se_X3_copy ini_X3 nd_X3_copy ⟨Nat.le_of_ble_eq_true rfl, Nat.le_of_ble_eq_true rfl⟩ ⟨rfl, rfl⟩ ⟨Nat.le_refl _, Nat.le_refl _⟩ rfl (Nat.le_of_ble_eq_true rfl) dX4_findRoot_97 ?_
        rintro w1 ⟨B210, J211, hw_, f1, f2, f3, f4, f5⟩
        subst hw_
        refine Z.aload_n hX dX4_findRoot_100 rfl rfl ?_
        refine Z.iload_n hX dX4_findRoot_101 rfl rfl ?_
        refine Z.putf (ty := .int) hX 0 6 1 tyX0 dX4_findRoot_102 rfl rfl inX0 tyX0_ok nmX0 (by decide) fl_X4_50 rfl rfl (by decide +kernel) rfl rfl (Nat.le_of_ble_eq_true rfl) ?_
        obtain ⟨G12, eG12⟩ : ∃ F' : Nat → Int, F' = va_up G 1 (pw) := ⟨_, rfl⟩
        refine Z.toW (w' := cW ce h pl ar G12 L B210 J211) (by rw [eG12]; rfl) ?_
        have gG12 : G12 1 = pw := by rw [eG12]; exact up_eq
        have fG12 : ∀ j_, j_ ≠ 1 → G12 j_ = G j_ := fun j_ hj_ => by rw [eG12]; exact up_ne hj_
        refine Z.iconst hX dX4_findRoot_105 ?_
        exact hR _ _ _ _ dX4_findRoot_106 rfl ⟨1, G12, B210, J211, rfl, rfl, (by omega), f3, (fun j_ h_1 => ((fG12 j_ h_1).trans rfl)), Or.inr (by omega), (Or.inl ⟨rfl, (big_c a5).mp (hbg1 (by omega))⟩), (fun _ => by rw [gG12]; exact ⟨Jp 36, Bp 36, f0, hpm2, by omega, by omega, (by first | exact Or.inl ⟨by omega, f4.trans hk6, fun q a b => (f5 q a b).trans (congrFun hm6 _)⟩ | exact Or.inr (fr_o (by omega) hend f4 f5)), hno⟩), ⟨(f1 41 (by decide)).trans ((hfr 41 (by decide)).1.trans ((b1 41 (by decide)).trans (a1 41 (by decide)))), (f2 41 (by decide)).trans ((hfr 41 (by decide)).2.trans ((b2 41 (by decide)).trans (a2 41 (by decide))))⟩⟩
    refine Z.aload_n hX dX4_findRoot_28 rfl rfl ?_
    refine Z.getf hX 4 5 0 dX4_findRoot_29 rfl rfl inX4 (by decide) fl_X4_10 rfl rfl ?_
    refine Z.getf hX 3 (24 + 36) 1 dX4_findRoot_32 (cW_pl (by decide)) rfl inX3 (by decide) fl_X4_32 rfl rfl ?_
    refine Z.istore_n (lv' := [(3, .int (zI (Bp 36))), (0, .ref (h 5)), (1, .ref (pl k)), (2, .ref (h 6))]) hX dX4_findRoot_35 rfl (by decide) rfl ?_
    have key_36 : ∀ (N : Nat), ∀ (pw : Int) (BB : Nat → Int) (MM : Nat → Nat → Int64), pw.toNat < N → (hp : 1 ≤ pw ∧ pw ≤ 6) → (hM : BOK BB) → (hk6 : BB 36 = Bp 36) → (hm6 : MM 36 = Jp 36) → (hpb : pw ≤ Bp 36) → (hno : ∀ k2 : Int, pw < k2 → k2 ≤ Bp 36 → NRT (Jp 36) k2 (Bp 36) f0) → (hfr : ∀ k, 40 ≤ k → BB k = Bp k ∧ MM k = Jp k) → Z p l e { frames := 4, cells := 0, slots := 0, locals := 116 } s m args below meth c D A 4 0 0 Q 36 [(3, .int (zI pw)), (2, .ref (h 6)), (0, .ref (h 5))] [] (cW ce h pl ar G L BB MM) := by
      intro N
      induction N with
      | zero => intro pw BB MM hm; exact absurd hm (Nat.not_lt_zero _)
      | succ N ih_36 =>
        intro pw BB MM hm hp hM hk6 hm6 hpb hno hfr
        refine Z.iload_n hX dX4_findRoot_36 rfl rfl ?_
        refine Z.iconst hX dX4_findRoot_37 ?_
        refine Z.icmp_le hX 77 dX4_findRoot_38 (by decide) ⟨by omega, by omega⟩ ⟨by omega, by omega⟩ ?_ ?_
        · intro c13
          refine Z.pick [0, 1, 2] rfl ?_
          exact key_77 _ _ _ (by omega) hM hk6 hm6 hpb hno hfr (Or.inl (by omega))
        · intro c13
          have s2_ : FB (MM 36) (BB 36) f0 := by rw [hk6, hm6]; exact hpm.2.2.2.1
          have s3_ : 0 < (MM 36 (sl (BB 36) + f0).toNat).toInt := by rw [hk6, hm6]; exact hpm.2.2.2.2
          have s4_ : sS (fun a b => ci (pcl (MM 36)) (7 * a + b)) ≤ 18014398509481984 := by rw [hm6]; exact hsp
          refine Z.aload_n hX dX4_findRoot_41 rfl rfl ?_
          refine Z.iload_n hX dX4_findRoot_42 rfl rfl ?_
          refine Z.callVfi (As := [.int (zI pw)]) (rest := []) hX 4 5 rfl rfl (ct_X4_startRoot_w l D ce h pl ar G L BB MM pw f0 hM (by omega) (by omega) (by omega) s2_ s3_ s4_) mc_X4_startRoot ml_X4_36 im_X4_startRoot se_X4_startRoot ini_X4 nd_X4_startRoot ⟨Nat.le_of_ble_eq_true rfl, Nat.le_of_ble_eq_true rfl⟩ ⟨rfl, rfl⟩ ⟨Nat.le_refl _, Nat.le_refl _⟩ rfl (Nat.le_of_ble_eq_true rfl) dX4_findRoot_43 ?_
          rintro r_14 w1 ⟨zs, Bs, Js, hr_, hw_, c1, c2, c3, c4, c5, c6⟩
          subst hr_
          subst hw_
          have t6 := c2 36 (by decide)
          have u6 := c4 36 (by decide)
          refine Z.if_eq hX 71 dX4_findRoot_46 (by decide) ⟨by omega, by omega⟩ ?_ ?_
          · intro c15
            refine Z.iinc (lv' := [(3, .int (zI (pw + -1))), (2, .ref (h 6)), (0, .ref (h 5))]) hX dX4_findRoot_71 rfl (by decide) rfl ?_
            refine Z.goto hX 36 dX4_findRoot_74 (by decide) ?_
            refine Z.pick [0, 1, 2] rfl ?_
            exact ih_36 _ _ _ (by omega) (by omega) c1 (by omega) (u6.trans hm6) (by omega) (fr_s hno (by rw [← hk6, ← hm6]; exact c5 (by omega))) (fun k a => ⟨(c2 k (by omega)).trans (hfr k a).1, (c4 k (by omega)).trans (hfr k a).2⟩)
          · intro c15
            refine Z.aload_n hX dX4_findRoot_49 rfl rfl ?_
            refine Z.iload_n hX dX4_findRoot_50 rfl rfl ?_
            refine Z.callVfi (As := [.int (zI pw)]) (rest := []) hX 4 5 rfl rfl (ct_X4_completeRoot_w l D ce h pl ar G L Bs Js pw f0 c1 (by omega) (by omega) (by omega) (by rw [t6, u6]; exact s2_) (by rw [u6]; exact s4_) (by rw [t6, u6]; exact c6 (by omega))) mc_X4_completeRoot ml_X4_40 im_X4_completeRoot se_X4_completeRoot ini_X4 nd_X4_completeRoot ⟨Nat.le_of_ble_eq_true rfl, Nat.le_of_ble_eq_true rfl⟩ ⟨rfl, rfl⟩ ⟨Nat.le_refl _, Nat.le_refl _⟩ rfl (Nat.le_of_ble_eq_true rfl) dX4_findRoot_51 ?_
            rintro r_16 w1 ⟨zc, Bc, Jc, hr_, hw_, d1, d2, d3, d4, d5, d6⟩
            subst hr_
            subst hw_
            have t7 := d2 36 (by decide) (by decide)
            have t8 := d2 37 (by decide) (by decide)
            have u7 := d4 36 (by decide) (by decide) (by decide)
            refine Z.if_eq hX 71 dX4_findRoot_54 (by decide) ⟨by omega, by omega⟩ ?_ ?_
            · intro c17
              refine Z.iinc (lv' := [(3, .int (zI (pw + -1))), (2, .ref (h 6)), (0, .ref (h 5))]) hX dX4_findRoot_71 rfl (by decide) rfl ?_
              refine Z.goto hX 36 dX4_findRoot_74 (by decide) ?_
              refine Z.pick [0, 1, 2] rfl ?_
              exact ih_36 _ _ _ (by omega) (by omega) d1 (by omega) (u7.trans (u6.trans hm6)) (by omega) (fr_s hno (by first | (have n_ := d5 (by omega); rw [t6, u6, hk6, hm6] at n_; exact n_) | (have n_ := i3 (by omega); rw [u7] at n_; have n2_ := cz_no (d6 (by omega)) n_; rw [t6, u6, hk6, hm6] at n2_; exact n2_))) (fun k a => ⟨(d2 k (by omega) (by omega)).trans ((c2 k (by omega)).trans (hfr k a).1), (d4 k (by omega) (by omega) (by omega)).trans ((c4 k (by omega)).trans (hfr k a).2)⟩)
            · intro c17
              refine Z.aload_n hX dX4_findRoot_57 rfl rfl ?_
              refine Z.getf hX 4 5 2 dX4_findRoot_58 rfl rfl inX4 (by decide) fl_X4_19 rfl rfl ?_
              refine Z.aload_n hX dX4_findRoot_61 rfl rfl ?_
              refine Z.getf hX 4 5 0 dX4_findRoot_62 rfl rfl inX4 (by decide) fl_X4_10 rfl rfl ?_
              refine Z.callVfi (As := [.ref (pl 36)]) (rest := []) hX 3 (24 + 38) rfl (cW_pl (by decide)) (ct_X3_isSame_w l D ce h pl ar G L Bc Jc 38 36 (by decide) d1 (by decide)) mc_X3_isSame ml_X4_43 im_X3_isSame se_X3_isSame ini_X3 nd_X3_isSame ⟨Nat.le_of_ble_eq_true rfl, Nat.le_of_ble_eq_true rfl⟩ ⟨rfl, rfl⟩ ⟨Nat.le_refl _, Nat.le_refl _⟩ rfl (Nat.le_of_ble_eq_true rfl) dX4_findRoot_65 ?_
              rintro r_18 w1 ⟨zi, hr_, hw_, i1, i2, i3⟩
              subst hr_
              subst hw_
              refine Z.if_ne hX 77 dX4_findRoot_68 (by decide) ⟨by omega, by omega⟩ ?_ ?_
              · intro c19
                refine Z.pick [0, 1, 2] rfl ?_
                exact key_77 _ _ _ (by omega) d1 (by omega) (u7.trans (u6.trans hm6)) hpb hno (fun k a => ⟨(d2 k (by omega) (by omega)).trans ((c2 k (by omega)).trans (hfr k a).1), (d4 k (by omega) (by omega) (by omega)).trans ((c4 k (by omega)).trans (hfr k a).2)⟩) (Or.inr (by have n_ := i2 (by omega); rw [u7] at n_; obtain ⟨y1, y2, y3⟩ := cz_yes (d6 (by omega)) n_; rw [t6, u6, hk6, hm6] at y1; rw [t6, hk6] at y2; exact ⟨y3, (by rw [t8]; exact y2), y1⟩))
              · intro c19
                refine Z.iinc (lv' := [(3, .int (zI (pw + -1))), (2, .ref (h 6)), (0, .ref (h 5))]) hX dX4_findRoot_71 rfl (by decide) rfl ?_
                refine Z.goto hX 36 dX4_findRoot_74 (by decide) ?_
                refine Z.pick [0, 1, 2] rfl ?_
                exact ih_36 _ _ _ (by omega) (by omega) d1 (by omega) (u7.trans (u6.trans hm6)) (by omega) (fr_s hno (by first | (have n_ := d5 (by omega); rw [t6, u6, hk6, hm6] at n_; exact n_) | (have n_ := i3 (by omega); rw [u7] at n_; have n2_ := cz_no (d6 (by omega)) n_; rw [t6, u6, hk6, hm6] at n2_; exact n2_))) (fun k a => ⟨(d2 k (by omega) (by omega)).trans ((c2 k (by omega)).trans (hfr k a).1), (d4 k (by omega) (by omega) (by omega)).trans ((c4 k (by omega)).trans (hfr k a).2)⟩)
    refine Z.pick [0, 3, 1] rfl ?_
    exact key_36 _ _ _ _ (Nat.lt_succ_self _) (by omega) b3 rfl rfl (Int.le_refl _) (fun k2 a b => by omega) (fun _ _ => ⟨rfl, rfl⟩)
  · intro c3
    refine Z.iconst hX dX4_findRoot_26 ?_
    exact hR _ _ _ _ dX4_findRoot_27 rfl ⟨0, G, Bp, Jp, rfl, rfl, (by omega), b3, (fun _ _ => rfl), Or.inl rfl, (Or.inr ⟨rfl, fun q => hbg0 (by omega) ((big_c a5).mpr q)⟩), (fun q => absurd q (by decide)), ⟨(b1 41 (by decide)).trans (a1 41 (by decide)), (b2 41 (by decide)).trans (a2 41 (by decide))⟩⟩

set_option maxHeartbeats 4000000 in
set_option maxRecDepth 100000 in
theorem ct_X4_findRoot_ew (l : Launch) (D : va_G) (ce : Nat → ClassId) (h pl ar : Nat → Nat) (G : Nat → Int) (L : Nat → Nat → Int64) (B : Nat → Int) (J : Nat → Nat → Int64) (k : Nat) (hB : BOK B) (hk : 20 ≤ k ∧ k < 36) (hzk : PZ (J k) (B k)) (hS0 : sS (fun a b => ci (pcl (J k)) (7 * a + b)) ≤ 18014398509481984) : Ct l yX4_findRoot cX4_findRoot 4 (some .boolean) { frames := 4, cells := 0, slots := 0, locals := 116 } 0 0 D (TY ce) [.ref (h 5), .ref (pl k), .ref (h 7)] (cW ce h pl ar G L B J) (QI D (TY ce) (fun r w1 => ∃ z : Int, ∃ G2 : Nat → Int, ∃ B2 : Nat → Int, ∃ J2 : Nat → Nat → Int64, r = zI z ∧ w1 = cW ce h pl ar G2 L B2 J2 ∧ (z = 0 ∨ z = 1) ∧ (BOK B2) ∧ (∀ k, k ≠ 4 → G2 k = G k) ∧ (G2 4 = G 4 ∨ (1 ≤ G2 4 ∧ G2 4 ≤ 6)) ∧ ((z = 1 ∧ BIG (J k)) ∨ (z = 0 ∧ ¬ BIG (J k))) ∧ (z = 1 → FRC (J k) (J2 41) (B2 41) (G2 4)) ∧ (B2 40 = B 40 ∧ J2 40 = J 40))) := by
  refine Ct.ofB (by decide) (Nat.le_of_ble_eq_true rfl) ?_
  intro p e s m args below meth c A Q hX hnm hR
  refine Z.pick (lv' := [(0, .ref (h 5)), (1, .ref (pl k)), (2, .ref (h 7))]) [0, 1, 2] rfl ?_
  refine Z.aload_n hX dX4_findRoot_0 rfl rfl ?_
  refine Z.getf hX 4 5 0 dX4_findRoot_1 rfl rfl inX4 (by decide) fl_X4_10 rfl rfl ?_
  refine Z.aload_n hX dX4_findRoot_4 rfl rfl ?_
  refine Z.callVfv (As := [.ref (pl k)]) (rest := []) hX 3 (24 + 36) rfl (cW_pl (by decide)) (ct_X3_copy_y l D ce h pl ar G L B J 36 k (by decide) hB (by omega)) mc_X3_copy ml_X4_25 im_X3_copy se_X3_copy ini_X3 nd_X3_copy ⟨Nat.le_of_ble_eq_true rfl, Nat.le_of_ble_eq_true rfl⟩ ⟨rfl, rfl⟩ ⟨Nat.le_refl _, Nat.le_refl _⟩ rfl (Nat.le_of_ble_eq_true rfl) dX4_findRoot_5 ?_
  rintro w1 ⟨Ba, Ja, hw_, a1, a2, a3, a4, a5⟩
  subst hw_
  have epc : pcl (Ja 36) = pcl (J k) := funext (pcl_c a5)
  have hSa : sS (fun a b => ci (pcl (Ja 36)) (7 * a + b)) ≤ 18014398509481984 := by rw [epc]; exact hS0
  refine Z.aload_n hX dX4_findRoot_8 rfl rfl ?_
  refine Z.getf hX 4 5 0 dX4_findRoot_9 rfl rfl inX4 (by decide) fl_X4_10 rfl rfl ?_
  refine Z.callVfv (As := []) (rest := []) hX 3 (24 + 36) rfl (cW_pl (by decide)) (ct_X3_makePrimitive_w l D ce h pl ar G L Ba Ja 36 (by decide) a3 (PZ_cp a4 (hB k (by omega)).1 a5 hzk) (sz60_S hSa)) mc_X3_makePrimitive ml_X4_29 im_X3_makePrimitive se_X3_makePrimitive ini_X3 nd_X3_makePrimitive ⟨Nat.le_of_ble_eq_true rfl, Nat.le_of_ble_eq_true rfl⟩ ⟨rfl, rfl⟩ ⟨Nat.le_refl _, Nat.le_refl _⟩ rfl (Nat.le_of_ble_eq_true rfl) dX4_findRoot_12 ?_
  rintro w1 ⟨Bp, Jp, hw_, b1, b2, b3, b4, b5, b6, b7⟩
  subst hw_
  have hb36 := b3 36 (by decide)
  obtain ⟨hbg0, hbg1⟩ := big_b hb36 b5 b6
  refine Z.aload_n hX dX4_findRoot_15 rfl rfl ?_
  refine Z.getf hX 4 5 0 dX4_findRoot_16 rfl rfl inX4 (by decide) fl_X4_10 rfl rfl ?_
  refine Z.getf hX 3 (24 + 36) 1 dX4_findRoot_19 (cW_pl (by decide)) rfl inX3 (by decide) fl_X4_32 rfl rfl ?_
  refine Z.iconst hX dX4_findRoot_22 ?_
  refine Z.icmp_ge hX 28 dX4_findRoot_23 (by decide) ⟨by omega, by omega⟩ ⟨by omega, by omega⟩ ?_ ?_
  · intro c3
    obtain ⟨f0, hpm⟩ := DVP_pm hb36 (sz60_S hSa) b5 (b7.resolve_left (by omega))
    have hpm2 := PMc_c a5 hpm
    have hsp := PMc_sS hpm hSa
    have key_77 : ∀ (pw : Int) (BB : Nat → Int) (MM : Nat → Nat → Int64), (hp : 1 ≤ pw ∧ pw ≤ 6) → (hM : BOK BB) → (hk6 : BB 36 = Bp 36) → (hm6 : MM 36 = Jp 36) → (hpb : pw ≤ Bp 36) → (hno : ∀ k2 : Int, pw < k2 → k2 ≤ Bp 36 → NRT (Jp 36) k2 (Bp 36) f0) → (hfr : ∀ k, 40 ≤ k → BB k = Bp k ∧ MM k = Jp k) → (hend : pw = 1 ∨ (2 ≤ pw ∧ BB 37 * pw = Bp 36 ∧ RT0 (pcl (Jp 36)) pw (fiO (Bp 36) f0) (ci (pcl (MM 37))))) → Z p l e { frames := 4, cells := 0, slots := 0, locals := 116 } s m args below meth c D A 4 0 0 Q 77 [(3, .int (zI pw)), (2, .ref (h 7)), (0, .ref (h 5))] [] (cW ce h pl ar G L BB MM) := by
      intro pw BB MM hp hM hk6 hm6 hpb hno hfr hend
      refine Z.aload_n hX dX4_findRoot_77 rfl rfl ?_
      refine Z.getf hX 0 7 0 dX4_findRoot_78 rfl rfl inX0 (by decide) fl_X4_47 rfl rfl ?_
      refine Z.iload_n hX dX4_findRoot_81 rfl rfl ?_
      refine Z.iconst hX dX4_findRoot_82 ?_
      refine Z.icmp_le hX 93 dX4_findRoot_83 (by decide) ⟨by omega, by omega⟩ ⟨by omega, by omega⟩ ?_ ?_
      · intro c4
        refine Z.aload_n hX dX4_findRoot_93 rfl rfl ?_
        refine Z.getf hX 4 5 0 dX4_findRoot_94 rfl rfl inX4 (by decide) fl_X4_10 rfl rfl ?_
        refine Z.callVfv (As := [.ref (pl 36)]) (rest := []) hX 3 (24 + 41) rfl (cW_pl (by decide)) (ct_X3_copy_y l D ce h pl ar G L BB MM 41 36 (by decide) hM (by decide)) mc_X3_copy ml_X4_25 im_X3_copy se_X3_copy ini_X3 nd_X3_copy ⟨Nat.le_of_ble_eq_true rfl, Nat.le_of_ble_eq_true rfl⟩ ⟨rfl, rfl⟩ ⟨Nat.le_refl _, Nat.le_refl _⟩ rfl (Nat.le_of_ble_eq_true rfl) dX4_findRoot_97 ?_
        rintro w1 ⟨B26, J27, hw_, f1, f2, f3, f4, f5⟩
        subst hw_
        refine Z.aload_n hX dX4_findRoot_100 rfl rfl ?_
        refine Z.iload_n hX dX4_findRoot_101 rfl rfl ?_
        refine Z.putf (ty := .int) hX 0 7 1 tyX0 dX4_findRoot_102 rfl rfl inX0 tyX0_ok nmX0 (by decide) fl_X4_50 rfl rfl (by decide +kernel) rfl rfl (Nat.le_of_ble_eq_true rfl) ?_
        obtain ⟨G8, eG8⟩ : ∃ F' : Nat → Int, F' = va_up G 4 (pw) := ⟨_, rfl⟩
        refine Z.toW (w' := cW ce h pl ar G8 L B26 J27) (by rw [eG8]; rfl) ?_
        have gG8 : G8 4 = pw := by rw [eG8]; exact up_eq
        have fG8 : ∀ j_, j_ ≠ 4 → G8 j_ = G j_ := fun j_ hj_ => by rw [eG8]; exact up_ne hj_
        refine Z.iconst hX dX4_findRoot_105 ?_
        exact hR _ _ _ _ dX4_findRoot_106 rfl ⟨1, G8, B26, J27, rfl, rfl, (by omega), f3, (fun j_ h_4 => ((fG8 j_ h_4).trans rfl)), Or.inr (by omega), (Or.inl ⟨rfl, (big_c a5).mp (hbg1 (by omega))⟩), (fun _ => by rw [gG8]; exact ⟨Jp 36, Bp 36, f0, hpm2, by omega, by omega, (by first | exact Or.inl ⟨by omega, f4.trans hk6, fun q a b => (f5 q a b).trans (congrFun hm6 _)⟩ | exact Or.inr (fr_o (by omega) hend f4 f5)), hno⟩), ⟨(f1 40 (by decide)).trans ((hfr 40 (by decide)).1.trans ((b1 40 (by decide)).trans (a1 40 (by decide)))), (f2 40 (by decide)).trans ((hfr 40 (by decide)).2.trans ((b2 40 (by decide)).trans (a2 40 (by decide))))⟩⟩
      · intro c4
        refine Z.aload_n hX dX4_findRoot_86 rfl rfl ?_
        refine Z.getf hX 4 5 1 dX4_findRoot_87 rfl rfl inX4 (by decide) fl_X4_16 rfl rfl ?_
        refine Z.goto hX 97 dX4_findRoot_90 (by decide) ?_
        refine Z.callVfv (As := [.ref (pl 37)]) (rest := []) hX 3 (24 + 41) rfl (cW_pl (by decide)) (ct_X3_copy_y l D ce h pl ar G L BB MM 41 37 (by decide) hM (by decide)) mc_X3_copy ml_X4_25 im_X3_copy se_X3_copy ini_X3 nd_X3_copy ⟨Nat.le_of_ble_eq_true rfl, Nat.le_of_ble_eq_true rfl⟩ ⟨rfl, rfl⟩ ⟨Nat.le_refl _, Nat.le_refl _⟩ rfl (Nat.le_of_ble_eq_true rfl) dX4_findRoot_97 ?_
        rintro w1 ⟨B210, J211, hw_, f1, f2, f3, f4, f5⟩
        subst hw_
        refine Z.aload_n hX dX4_findRoot_100 rfl rfl ?_
        refine Z.iload_n hX dX4_findRoot_101 rfl rfl ?_
        refine Z.putf (ty := .int) hX 0 7 1 tyX0 dX4_findRoot_102 rfl rfl inX0 tyX0_ok nmX0 (by decide) fl_X4_50 rfl rfl (by decide +kernel) rfl rfl (Nat.le_of_ble_eq_true rfl) ?_
        obtain ⟨G12, eG12⟩ : ∃ F' : Nat → Int, F' = va_up G 4 (pw) := ⟨_, rfl⟩
        refine Z.toW (w' := cW ce h pl ar G12 L B210 J211) (by rw [eG12]; rfl) ?_
        have gG12 : G12 4 = pw := by rw [eG12]; exact up_eq
        have fG12 : ∀ j_, j_ ≠ 4 → G12 j_ = G j_ := fun j_ hj_ => by rw [eG12]; exact up_ne hj_
        refine Z.iconst hX dX4_findRoot_105 ?_
        exact hR _ _ _ _ dX4_findRoot_106 rfl ⟨1, G12, B210, J211, rfl, rfl, (by omega), f3, (fun j_ h_4 => ((fG12 j_ h_4).trans rfl)), Or.inr (by omega), (Or.inl ⟨rfl, (big_c a5).mp (hbg1 (by omega))⟩), (fun _ => by rw [gG12]; exact ⟨Jp 36, Bp 36, f0, hpm2, by omega, by omega, (by first | exact Or.inl ⟨by omega, f4.trans hk6, fun q a b => (f5 q a b).trans (congrFun hm6 _)⟩ | exact Or.inr (fr_o (by omega) hend f4 f5)), hno⟩), ⟨(f1 40 (by decide)).trans ((hfr 40 (by decide)).1.trans ((b1 40 (by decide)).trans (a1 40 (by decide)))), (f2 40 (by decide)).trans ((hfr 40 (by decide)).2.trans ((b2 40 (by decide)).trans (a2 40 (by decide))))⟩⟩
    refine Z.aload_n hX dX4_findRoot_28 rfl rfl ?_
    refine Z.getf hX 4 5 0 dX4_findRoot_29 rfl rfl inX4 (by decide) fl_X4_10 rfl rfl ?_
    refine Z.getf hX 3 (24 + 36) 1 dX4_findRoot_32 (cW_pl (by decide)) rfl inX3 (by decide) fl_X4_32 rfl rfl ?_
    refine Z.istore_n (lv' := [(3, .int (zI (Bp 36))), (0, .ref (h 5)), (1, .ref (pl k)), (2, .ref (h 7))]) hX dX4_findRoot_35 rfl (by decide) rfl ?_
    have key_36 : ∀ (N : Nat), ∀ (pw : Int) (BB : Nat → Int) (MM : Nat → Nat → Int64), pw.toNat < N → (hp : 1 ≤ pw ∧ pw ≤ 6) → (hM : BOK BB) → (hk6 : BB 36 = Bp 36) → (hm6 : MM 36 = Jp 36) → (hpb : pw ≤ Bp 36) → (hno : ∀ k2 : Int, pw < k2 → k2 ≤ Bp 36 → NRT (Jp 36) k2 (Bp 36) f0) → (hfr : ∀ k, 40 ≤ k → BB k = Bp k ∧ MM k = Jp k) → Z p l e { frames := 4, cells := 0, slots := 0, locals := 116 } s m args below meth c D A 4 0 0 Q 36 [(3, .int (zI pw)), (2, .ref (h 7)), (0, .ref (h 5))] [] (cW ce h pl ar G L BB MM) := by
      intro N
      induction N with
      | zero => intro pw BB MM hm; exact absurd hm (Nat.not_lt_zero _)
      | succ N ih_36 =>
        intro pw BB MM hm hp hM hk6 hm6 hpb hno hfr
        refine Z.iload_n hX dX4_findRoot_36 rfl rfl ?_
        refine Z.iconst hX dX4_findRoot_37 ?_
        refine Z.icmp_le hX 77 dX4_findRoot_38 (by decide) ⟨by omega, by omega⟩ ⟨by omega, by omega⟩ ?_ ?_
        · intro c13
          refine Z.pick [0, 1, 2] rfl ?_
          exact key_77 _ _ _ (by omega) hM hk6 hm6 hpb hno hfr (Or.inl (by omega))
        · intro c13
          have s2_ : FB (MM 36) (BB 36) f0 := by rw [hk6, hm6]; exact hpm.2.2.2.1
          have s3_ : 0 < (MM 36 (sl (BB 36) + f0).toNat).toInt := by rw [hk6, hm6]; exact hpm.2.2.2.2
          have s4_ : sS (fun a b => ci (pcl (MM 36)) (7 * a + b)) ≤ 18014398509481984 := by rw [hm6]; exact hsp
          refine Z.aload_n hX dX4_findRoot_41 rfl rfl ?_
          refine Z.iload_n hX dX4_findRoot_42 rfl rfl ?_
          refine Z.callVfi (As := [.int (zI pw)]) (rest := []) hX 4 5 rfl rfl (ct_X4_startRoot_w l D ce h pl ar G L BB MM pw f0 hM (by omega) (by omega) (by omega) s2_ s3_ s4_) mc_X4_startRoot ml_X4_36 im_X4_startRoot se_X4_startRoot ini_X4 nd_X4_startRoot ⟨Nat.le_of_ble_eq_true rfl, Nat.le_of_ble_eq_true rfl⟩ ⟨rfl, rfl⟩ ⟨Nat.le_refl _, Nat.le_refl _⟩ rfl (Nat.le_of_ble_eq_true rfl) dX4_findRoot_43 ?_
          rintro r_14 w1 ⟨zs, Bs, Js, hr_, hw_, c1, c2, c3, c4, c5, c6⟩
          subst hr_
          subst hw_
          have t6 := c2 36 (by decide)
          have u6 := c4 36 (by decide)
          refine Z.if_eq hX 71 dX4_findRoot_46 (by decide) ⟨by omega, by omega⟩ ?_ ?_
          · intro c15
            refine Z.iinc (lv' := [(3, .int (zI (pw + -1))), (2, .ref (h 7)), (0, .ref (h 5))]) hX dX4_findRoot_71 rfl (by decide) rfl ?_
            refine Z.goto hX 36 dX4_findRoot_74 (by decide) ?_
            refine Z.pick [0, 1, 2] rfl ?_
            exact ih_36 _ _ _ (by omega) (by omega) c1 (by omega) (u6.trans hm6) (by omega) (fr_s hno (by rw [← hk6, ← hm6]; exact c5 (by omega))) (fun k a => ⟨(c2 k (by omega)).trans (hfr k a).1, (c4 k (by omega)).trans (hfr k a).2⟩)
          · intro c15
            refine Z.aload_n hX dX4_findRoot_49 rfl rfl ?_
            refine Z.iload_n hX dX4_findRoot_50 rfl rfl ?_
            refine Z.callVfi (As := [.int (zI pw)]) (rest := []) hX 4 5 rfl rfl (ct_X4_completeRoot_w l D ce h pl ar G L Bs Js pw f0 c1 (by omega) (by omega) (by omega) (by rw [t6, u6]; exact s2_) (by rw [u6]; exact s4_) (by rw [t6, u6]; exact c6 (by omega))) mc_X4_completeRoot ml_X4_40 im_X4_completeRoot se_X4_completeRoot ini_X4 nd_X4_completeRoot ⟨Nat.le_of_ble_eq_true rfl, Nat.le_of_ble_eq_true rfl⟩ ⟨rfl, rfl⟩ ⟨Nat.le_refl _, Nat.le_refl _⟩ rfl (Nat.le_of_ble_eq_true rfl) dX4_findRoot_51 ?_
            rintro r_16 w1 ⟨zc, Bc, Jc, hr_, hw_, d1, d2, d3, d4, d5, d6⟩
            subst hr_
            subst hw_
            have t7 := d2 36 (by decide) (by decide)
            have t8 := d2 37 (by decide) (by decide)
            have u7 := d4 36 (by decide) (by decide) (by decide)
            refine Z.if_eq hX 71 dX4_findRoot_54 (by decide) ⟨by omega, by omega⟩ ?_ ?_
            · intro c17
              refine Z.iinc (lv' := [(3, .int (zI (pw + -1))), (2, .ref (h 7)), (0, .ref (h 5))]) hX dX4_findRoot_71 rfl (by decide) rfl ?_
              refine Z.goto hX 36 dX4_findRoot_74 (by decide) ?_
              refine Z.pick [0, 1, 2] rfl ?_
              exact ih_36 _ _ _ (by omega) (by omega) d1 (by omega) (u7.trans (u6.trans hm6)) (by omega) (fr_s hno (by first | (have n_ := d5 (by omega); rw [t6, u6, hk6, hm6] at n_; exact n_) | (have n_ := i3 (by omega); rw [u7] at n_; have n2_ := cz_no (d6 (by omega)) n_; rw [t6, u6, hk6, hm6] at n2_; exact n2_))) (fun k a => ⟨(d2 k (by omega) (by omega)).trans ((c2 k (by omega)).trans (hfr k a).1), (d4 k (by omega) (by omega) (by omega)).trans ((c4 k (by omega)).trans (hfr k a).2)⟩)
            · intro c17
              refine Z.aload_n hX dX4_findRoot_57 rfl rfl ?_
              refine Z.getf hX 4 5 2 dX4_findRoot_58 rfl rfl inX4 (by decide) fl_X4_19 rfl rfl ?_
              refine Z.aload_n hX dX4_findRoot_61 rfl rfl ?_
              refine Z.getf hX 4 5 0 dX4_findRoot_62 rfl rfl inX4 (by decide) fl_X4_10 rfl rfl ?_
              refine Z.callVfi (As := [.ref (pl 36)]) (rest := []) hX 3 (24 + 38) rfl (cW_pl (by decide)) (ct_X3_isSame_w l D ce h pl ar G L Bc Jc 38 36 (by decide) d1 (by decide)) mc_X3_isSame ml_X4_43 im_X3_isSame se_X3_isSame ini_X3 nd_X3_isSame ⟨Nat.le_of_ble_eq_true rfl, Nat.le_of_ble_eq_true rfl⟩ ⟨rfl, rfl⟩ ⟨Nat.le_refl _, Nat.le_refl _⟩ rfl (Nat.le_of_ble_eq_true rfl) dX4_findRoot_65 ?_
              rintro r_18 w1 ⟨zi, hr_, hw_, i1, i2, i3⟩
              subst hr_
              subst hw_
              refine Z.if_ne hX 77 dX4_findRoot_68 (by decide) ⟨by omega, by omega⟩ ?_ ?_
              · intro c19
                refine Z.pick [0, 1, 2] rfl ?_
                exact key_77 _ _ _ (by omega) d1 (by omega) (u7.trans (u6.trans hm6)) hpb hno (fun k a => ⟨(d2 k (by omega) (by omega)).trans ((c2 k (by omega)).trans (hfr k a).1), (d4 k (by omega) (by omega) (by omega)).trans ((c4 k (by omega)).trans (hfr k a).2)⟩) (Or.inr (by have n_ := i2 (by omega); rw [u7] at n_; obtain ⟨y1, y2, y3⟩ := cz_yes (d6 (by omega)) n_; rw [t6, u6, hk6, hm6] at y1; rw [t6, hk6] at y2; exact ⟨y3, (by rw [t8]; exact y2), y1⟩))
              · intro c19
                refine Z.iinc (lv' := [(3, .int (zI (pw + -1))), (2, .ref (h 7)), (0, .ref (h 5))]) hX dX4_findRoot_71 rfl (by decide) rfl ?_
                refine Z.goto hX 36 dX4_findRoot_74 (by decide) ?_
                refine Z.pick [0, 1, 2] rfl ?_
                exact ih_36 _ _ _ (by omega) (by omega) d1 (by omega) (u7.trans (u6.trans hm6)) (by omega) (fr_s hno (by first | (have n_ := d5 (by omega); rw [t6, u6, hk6, hm6] at n_; exact n_) | (have n_ := i3 (by omega); rw [u7] at n_; have n2_ := cz_no (d6 (by omega)) n_; rw [t6, u6, hk6, hm6] at n2_; exact n2_))) (fun k a => ⟨(d2 k (by omega) (by omega)).trans ((c2 k (by omega)).trans (hfr k a).1), (d4 k (by omega) (by omega) (by omega)).trans ((c4 k (by omega)).trans (hfr k a).2)⟩)
    refine Z.pick [0, 3, 1] rfl ?_
    exact key_36 _ _ _ _ (Nat.lt_succ_self _) (by omega) b3 rfl rfl (Int.le_refl _) (fun k2 a b => by omega) (fun _ _ => ⟨rfl, rfl⟩)
  · intro c3
    refine Z.iconst hX dX4_findRoot_26 ?_
    exact hR _ _ _ _ dX4_findRoot_27 rfl ⟨0, G, Bp, Jp, rfl, rfl, (by omega), b3, (fun _ _ => rfl), Or.inl rfl, (Or.inr ⟨rfl, fun q => hbg0 (by omega) ((big_c a5).mpr q)⟩), (fun q => absurd q (by decide)), ⟨(b1 40 (by decide)).trans (a1 40 (by decide)), (b2 40 (by decide)).trans (a2 40 (by decide))⟩⟩

