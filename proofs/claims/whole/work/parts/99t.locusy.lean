theorem lo_fin {X Y W : Nat → Int} {n : Nat} {m tr : Nat → Int64} {dg : Int32} {fr s : Int} {P Q : Prop} (h1 : 1 ≤ n) (hn : n ≤ 4) (hr : RowOK X Y W n) (hW : ∃ i, i < 5 ∧ W i ≠ 0) (hs : s = 1 ∨ s = -1) (hf : 0 ≤ fr) (h : CG (pw id (fun i => m (fr.toNat + i)) 49) (fun t => s * Fz n X Y W (t7 t) t 1)) (h4 : (∀ q : Int, 1 ≤ q → q < 49 → m (fr + q).toNat = 0) → P) (h5 : (∃ q : Int, 1 ≤ q ∧ q < 49 ∧ m (fr + q).toNat ≠ 0) → Q ∧ TE (fun i => m (fr.toNat + i)) tr dg) : (NC X Y W n → Q ∧ TR X Y W n tr dg) ∧ (¬ NC X Y W n → P) := by
  have e : ∀ q : Int, 1 ≤ q → m (fr + q).toNat = (fun i => m (fr.toNat + i)) q.toNat := fun q hq => by
    show _ = m (fr.toNat + q.toNat)
    congr 1
    omega
  have nc := nc_w hs h
  constructor
  · intro hh
    obtain ⟨q, q1, q2, q3⟩ := nc.mpr hh
    obtain ⟨a, b⟩ := h5 ⟨q, q1, q2, by rw [e q q1]; exact q3⟩
    exact ⟨a, te_tr h1 hn hr hW hs h b⟩
  · intro hh
    refine h4 (fun q q1 q2 => Classical.byContradiction fun z => hh (nc.mp ⟨q, q1, q2, ?_⟩))
    have e1 := e q q1
    dsimp only at e1
    rw [← e1]
    exact z
set_option maxHeartbeats 4000000 in
set_option maxRecDepth 100000 in
theorem ct_X7_locus_y (l : Launch) (D : va_G) (ce : Nat → ClassId) (h : Nat → Nat) (F : Nat → Int) (I : Nat → Nat → Int32) (J : Nat → Nat → Int64) (hF : 1 ≤ F 1 ∧ F 1 ≤ 4) (hdg : DGok (I 2)) (hb : ∀ i, i < 15 → (J 0 i).toInt.natAbs ≤ 105) (hro : RowOK (fI (J 0) 0) (fI (J 0) 1) (fI (J 0) 2) (F 1).toNat) (hW : ∃ i, i < 5 ∧ fI (J 0) 2 i ≠ 0) : Ct l yX7_locus cX7_locus 4 none { frames := 4, cells := 0, slots := 0, locals := 121 } 0 0 D (TY ce) [.ref (h 0)] (rW ce h F I J) (QV D (TY ce) (fun w1 => ∃ I2 : Nat → Nat → Int32, ∃ J2 : Nat → Nat → Int64, w1 = rW ce h F I2 J2 ∧ (∀ k, k ≠ 1 → k ≠ 4 → k ≠ 5 → k ≠ 6 → k ≠ 7 → k ≠ 8 → k ≠ 9 → J2 k = J k) ∧ (∀ k, k ≠ 1 → k ≠ 2 → k ≠ 3 → I2 k = I k) ∧ (DGok (I2 2)) ∧ ((NC (fI (J 0) 0) (fI (J 0) 1) (fI (J 0) 2) (F 1).toNat → I2 1 0 = 1 ∧ TR (fI (J 0) 0) (fI (J 0) 1) (fI (J 0) 2) (F 1).toNat (J2 1) (I2 2 0)) ∧ (¬ NC (fI (J 0) 0) (fI (J 0) 1) (fI (J 0) 2) (F 1).toNat → I2 1 = I 1)))) := by
  refine Ct.ofV (by decide) (Nat.le_of_ble_eq_true rfl) ?_
  intro p e s m args below meth c A Q hX hnm hR
  refine Z.pick (lv' := [(0, .ref (h 0))]) [0] rfl ?_
  obtain ⟨T, hT, hT1, hT2, hT3, hT4⟩ := sh1y (n := 2 * F 1) (by omega) (by omega)
  refine Z.aload_n hX dX7_locus_0 rfl rfl ?_
  refine Z.getf hX 7 0 3 dX7_locus_1 rfl rfl inX7 (by decide) fl_X7_77 rfl rfl ?_
  refine Z.istore_n (lv' := [(1, .int (zI (F 1))), (0, .ref (h 0))]) hX dX7_locus_4 rfl (by decide) rfl ?_
  refine Z.aload_n hX dX7_locus_5 rfl rfl ?_
  refine Z.callVfv (As := []) (rest := []) hX 7 0 rfl rfl (ct_X7_emptied l D ce h F I J ) mc_X7_emptied ml_X7_90 im_X7_emptied se_X7_emptied ini_X7 nd_X7_emptied ⟨Nat.le_of_ble_eq_true rfl, Nat.le_of_ble_eq_true rfl⟩ ⟨rfl, rfl⟩ ⟨Nat.le_refl _, Nat.le_refl _⟩ rfl (Nat.le_of_ble_eq_true rfl) dX7_locus_6 ?_
  rintro w1 ⟨J22, hw_, hem1, hem2⟩
  subst hw_
  refine Z.iconst hX dX7_locus_9 ?_
  refine Z.istore_n (lv' := [(2, .int (zI 0)), (1, .int (zI (F 1))), (0, .ref (h 0))]) hX dX7_locus_10 rfl (by decide) rfl ?_
  have key_11 : ∀ (N : Nat), ∀ (r : Int) (M : Nat → Nat → Int64), (F 1 - r).toNat < N → (hr : 0 ≤ r ∧ r ≤ F 1) → (hE : EZ (M 4) (F 1) (F 1)) → (hL : LE (M 4) (J 0) (F 1) r 0) → (hM : ∀ k, k ≠ 4 → M k = J k) → Z p l e { frames := 4, cells := 0, slots := 0, locals := 121 } s m args below meth c D A 4 0 0 Q 11 [(2, .int (zI r)), (1, .int (zI (F 1))), (0, .ref (h 0))] [] (rW ce h F I M) := by
    intro N
    induction N with
    | zero => intro r M hm; exact absurd hm (Nat.not_lt_zero _)
    | succ N ih_11 =>
      intro r M hm hr hE hL hM
      refine Z.iload_n hX dX7_locus_11 rfl rfl ?_
      refine Z.iload_n hX dX7_locus_12 rfl rfl ?_
      refine Z.icmp_ge hX 93 dX7_locus_13 (by decide) ⟨by omega, by omega⟩ ⟨by omega, by omega⟩ ?_ ?_
      · intro c3
        refine Z.aload_n hX dX7_locus_93 rfl rfl ?_
        refine Z.iconst hX dX7_locus_94 ?_
        refine Z.iload_n hX dX7_locus_95 rfl rfl ?_
        refine Z.imul hX dX7_locus_96 ?_
        refine Z.callVfv (As := [.int (zI (2 * (F 1)))]) (rest := []) hX 7 0 rfl rfl (ct_X7_minorsOf_y l D ce h F I M (2 * (F 1)) (F 1) (F 1) (by omega) (by omega) hE) mc_X7_minorsOf ml_X7_97 im_X7_minorsOf se_X7_minorsOf ini_X7 nd_X7_minorsOf ⟨Nat.le_of_ble_eq_true rfl, Nat.le_of_ble_eq_true rfl⟩ ⟨rfl, rfl⟩ ⟨Nat.le_refl _, Nat.le_refl _⟩ rfl (Nat.le_of_ble_eq_true rfl) dX7_locus_97 ?_
        rintro w1 ⟨Jm, hw_, hm1, hm2, hm3⟩
        subst hw_
        have hcg := lo_cg (m := Jm 5) (fr := 49 * (T - 1)) (by omega) (show r = F 1 by omega) hb hL hm2 (by rw [← hT4]; omega)
        obtain ⟨hev, hsz, hsn⟩ := sl_ex (by omega) (by omega) hro sg1_e hcg
        refine Z.aload_n hX dX7_locus_100 rfl rfl ?_
        refine Z.iconst hX dX7_locus_101 ?_
        refine Z.bipush hX dX7_locus_102 (by decide) ?_
        refine Z.iconst hX dX7_locus_104 ?_
        refine Z.iconst hX dX7_locus_105 ?_
        refine Z.iload_n hX dX7_locus_106 rfl rfl ?_
        refine Z.imul hX dX7_locus_107 ?_
        refine Z.ishl hX dX7_locus_108 ?_
        refine Z.vali (y := zI T) hT ?_
        refine Z.iconst hX dX7_locus_109 ?_
        refine Z.isub hX dX7_locus_110 ?_
        refine Z.imul hX dX7_locus_111 ?_
        refine Z.callVfv (As := [.int (zI 0), .int (zI (49 * (T - 1)))]) (rest := []) hX 7 0 rfl rfl (ct_X7_tell_0 l D ce h F I Jm (49 * (T - 1)) (by omega) hdg hsz (fun q a b c => hsn q a b (by omega))) mc_X7_tell ml_X7_101 im_X7_tell se_X7_tell ini_X7 nd_X7_tell ⟨Nat.le_of_ble_eq_true rfl, Nat.le_of_ble_eq_true rfl⟩ ⟨rfl, rfl⟩ ⟨Nat.le_refl _, Nat.le_refl _⟩ rfl (Nat.le_of_ble_eq_true rfl) dX7_locus_112 ?_
        rintro w1 ⟨It, Jt, hw_, ht1, ht2, hdgZ, ht4, ht5⟩
        subst hw_
        exact hR _ _ _ dX7_locus_115 ⟨It, Jt, rfl, (fun j_ h_1 h_4 h_5 h_6 h_7 h_8 h_9 => ((ht1 j_ h_1 h_6 h_7 h_8 h_9).trans ((hm1 j_ h_5).trans (hM j_ h_4)))), (fun j_ h_1 h_2 h_3 => ((ht2 j_ h_1 h_2 h_3).trans rfl)), hdgZ, (lo_fin (by omega) (by omega) hro hW sg1_e (by omega) hcg ht4 ht5)⟩
      · intro c3
        refine Z.iconst hX dX7_locus_16 ?_
        refine Z.istore_n (lv' := [(3, .int (zI 0)), (2, .int (zI r)), (1, .int (zI (F 1))), (0, .ref (h 0))]) hX dX7_locus_17 rfl (by decide) rfl ?_
        have key_18 : ∀ (N : Nat), ∀ (k : Int) (M : Nat → Nat → Int64), (F 1 + 1 - k).toNat < N → (hk : 0 ≤ k ∧ k ≤ F 1 + 1) → (hE : EZ (M 4) (F 1) (F 1)) → (hL : LE (M 4) (J 0) (F 1) r k) → (hM : ∀ k, k ≠ 4 → M k = J k) → Z p l e { frames := 4, cells := 0, slots := 0, locals := 121 } s m args below meth c D A 4 0 0 Q 18 [(3, .int (zI k)), (2, .int (zI r)), (1, .int (zI (F 1))), (0, .ref (h 0))] [] (rW ce h F I M) := by
          intro N
          induction N with
          | zero => intro k M hm; exact absurd hm (Nat.not_lt_zero _)
          | succ N ih_18 =>
            intro k M hm hk hE hL hM
            refine Z.iload_n hX dX7_locus_18 rfl rfl ?_
            refine Z.iload_n hX dX7_locus_19 rfl rfl ?_
            refine Z.icmp_gt hX 87 dX7_locus_20 (by decide) ⟨by omega, by omega⟩ ⟨by omega, by omega⟩ ?_ ?_
            · intro c6
              refine Z.iinc (lv' := [(2, .int (zI (r + 1))), (3, .int (zI k)), (1, .int (zI (F 1))), (0, .ref (h 0))]) hX dX7_locus_87 rfl (by decide) rfl ?_
              refine Z.goto hX 11 dX7_locus_90 (by decide) ?_
              refine Z.pick [0, 2, 3] rfl ?_
              exact ih_11 _ _ (by omega) (by omega) hE (LE_r (by omega) hL) (fun j_ h_4 => (hM j_ h_4))
            · intro c6
              refine Z.aload_n hX dX7_locus_23 rfl rfl ?_
              refine Z.iload_n hX dX7_locus_24 rfl rfl ?_
              refine Z.iload_n hX dX7_locus_25 rfl rfl ?_
              refine Z.iload_n hX dX7_locus_26 rfl rfl ?_
              refine Z.iadd hX dX7_locus_27 ?_
              refine Z.iload_n hX dX7_locus_28 rfl rfl ?_
              refine Z.isub hX dX7_locus_29 ?_
              refine Z.aload_n hX dX7_locus_30 rfl rfl ?_
              refine Z.getf hX 7 0 1 dX7_locus_31 rfl rfl inX7 (by decide) fl_X7_13 rfl rfl ?_
              refine Z.iload_n hX dX7_locus_34 rfl rfl ?_
              refine Z.laload hX 2 1 dX7_locus_35 rfl rfl (by omega) (by omega) (by decide) ?_
              refine Z.aload_n hX dX7_locus_36 rfl rfl ?_
              refine Z.getf hX 7 0 1 dX7_locus_37 rfl rfl inX7 (by decide) fl_X7_13 rfl rfl ?_
              refine Z.bipush hX dX7_locus_40 (by decide) ?_
              refine Z.iload_n hX dX7_locus_42 rfl rfl ?_
              refine Z.iadd hX dX7_locus_43 ?_
              refine Z.laload hX 2 1 dX7_locus_44 rfl rfl (by omega) (by omega) (by decide) ?_
              refine Z.lneg hX dX7_locus_45 ?_
              refine Z.lconst (v := 0) hX dX7_locus_46 rfl ?_
              refine Z.callVfv (As := [.int (zI r), .int (zI ((r + (F 1)) - k)), .long (M 0 (k : Int).toNat), .long (-(M 0 (10 + k : Int).toNat)), .long 0]) (rest := []) hX 7 0 rfl rfl (ct_X7_entry l D ce h F I M r ((r + (F 1)) - k) (M 0 (k : Int).toNat) (-(M 0 (10 + k : Int).toNat)) 0 (by omega) (by omega)) mc_X7_entry ml_X7_93 im_X7_entry se_X7_entry ini_X7 nd_X7_entry ⟨Nat.le_of_ble_eq_true rfl, Nat.le_of_ble_eq_true rfl⟩ ⟨rfl, rfl⟩ ⟨Nat.le_refl _, Nat.le_refl _⟩ rfl (Nat.le_of_ble_eq_true rfl) dX7_locus_47 ?_
              rintro w1 ⟨Ja, hw_, ha1, ha2⟩
              subst hw_
              have hEa : EZ (Ja 4) (F 1) (F 1) := EZ_s (by omega) (by omega) (fun q => by omega) (fun _ => rfl) hE ha2
              refine Z.aload_n hX dX7_locus_50 rfl rfl ?_
              refine Z.iload_n hX dX7_locus_51 rfl rfl ?_
              refine Z.iload_n hX dX7_locus_52 rfl rfl ?_
              refine Z.iadd hX dX7_locus_53 ?_
              refine Z.iload_n hX dX7_locus_54 rfl rfl ?_
              refine Z.iload_n hX dX7_locus_55 rfl rfl ?_
              refine Z.iadd hX dX7_locus_56 ?_
              refine Z.iload_n hX dX7_locus_57 rfl rfl ?_
              refine Z.isub hX dX7_locus_58 ?_
              refine Z.aload_n hX dX7_locus_59 rfl rfl ?_
              refine Z.getf hX 7 0 1 dX7_locus_60 rfl rfl inX7 (by decide) fl_X7_13 rfl rfl ?_
              refine Z.iconst hX dX7_locus_63 ?_
              refine Z.iload_n hX dX7_locus_64 rfl rfl ?_
              refine Z.iadd hX dX7_locus_65 ?_
              refine Z.laload hX 2 1 dX7_locus_66 rfl rfl (by omega) (by omega) (by decide) ?_
              refine Z.lconst (v := 0) hX dX7_locus_67 rfl ?_
              refine Z.aload_n hX dX7_locus_68 rfl rfl ?_
              refine Z.getf hX 7 0 1 dX7_locus_69 rfl rfl inX7 (by decide) fl_X7_13 rfl rfl ?_
              refine Z.bipush hX dX7_locus_72 (by decide) ?_
              refine Z.iload_n hX dX7_locus_74 rfl rfl ?_
              refine Z.iadd hX dX7_locus_75 ?_
              refine Z.laload hX 2 1 dX7_locus_76 rfl rfl (by omega) (by omega) (by decide) ?_
              refine Z.lneg hX dX7_locus_77 ?_
              refine Z.callVfv (As := [.int (zI ((F 1) + r)), .int (zI ((r + (F 1)) - k)), .long (Ja 0 (5 + k : Int).toNat), .long 0, .long (-(Ja 0 (10 + k : Int).toNat))]) (rest := []) hX 7 0 rfl rfl (ct_X7_entry l D ce h F I Ja ((F 1) + r) ((r + (F 1)) - k) (Ja 0 (5 + k : Int).toNat) 0 (-(Ja 0 (10 + k : Int).toNat)) (by omega) (by omega)) mc_X7_entry ml_X7_93 im_X7_entry se_X7_entry ini_X7 nd_X7_entry ⟨Nat.le_of_ble_eq_true rfl, Nat.le_of_ble_eq_true rfl⟩ ⟨rfl, rfl⟩ ⟨Nat.le_refl _, Nat.le_refl _⟩ rfl (Nat.le_of_ble_eq_true rfl) dX7_locus_78 ?_
              rintro w1 ⟨Jb, hw_, hb1, hb2⟩
              subst hw_
              have hEb : EZ (Jb 4) (F 1) (F 1) := EZ_s (by omega) (by omega) (fun _ => rfl) (fun q => by omega) hEa hb2
              have hLb : LE (Jb 4) (J 0) (F 1) r (k + 1) := LE_s (E := M 4) (Ea := Ja 4) (by omega) (by omega) (by omega) (by rw [← hM 0 (by decide)]; exact ha2) (by rw [← hM 0 (by decide), ← ha1 0 (by decide)]; exact hb2) hL
              refine Z.iinc (lv' := [(3, .int (zI (k + 1))), (2, .int (zI r)), (1, .int (zI (F 1))), (0, .ref (h 0))]) hX dX7_locus_81 rfl (by decide) rfl ?_
              refine Z.goto hX 18 dX7_locus_84 (by decide) ?_
              refine Z.pick [0, 1, 2, 3] rfl ?_
              exact ih_18 _ _ (by omega) (by omega) hEb hLb (fun j_ h_4 => ((hb1 j_ h_4).trans ((ha1 j_ h_4).trans (hM j_ h_4))))
        refine Z.pick [0, 1, 2, 3] rfl ?_
        exact key_18 _ _ _ (Nat.lt_succ_self _) (by omega) hE hL (fun j_ h_4 => (hM j_ h_4))
  refine Z.pick [0, 1, 2] rfl ?_
  exact key_11 _ _ _ (Nat.lt_succ_self _) (by omega) (EZ_0 hem2 _ _) (LE_0 hem2) (fun j_ h_4 => ((hem1 j_ h_4).trans rfl))

set_option maxHeartbeats 4000000 in
set_option maxRecDepth 100000 in
theorem ct_X7_envelope_y (l : Launch) (D : va_G) (ce : Nat → ClassId) (h : Nat → Nat) (F : Nat → Int) (I : Nat → Nat → Int32) (J : Nat → Nat → Int64) (hF : 2 ≤ F 0 ∧ F 0 ≤ 4) (hdg : DGok (I 2)) : Ct l yX7_envelope cX7_envelope 8 none { frames := 4, cells := 0, slots := 0, locals := 121 } 0 0 D (TY ce) [.ref (h 0)] (rW ce h F I J) (QV D (TY ce) (fun w1 => ∃ I2 : Nat → Nat → Int32, ∃ J2 : Nat → Nat → Int64, w1 = rW ce h F I2 J2 ∧ (∀ k, k ≠ 1 → k ≠ 4 → k ≠ 5 → k ≠ 6 → k ≠ 7 → k ≠ 8 → k ≠ 9 → J2 k = J k) ∧ (∀ k, k ≠ 1 → k ≠ 2 → k ≠ 3 → I2 k = I k) ∧ (DGok (I2 2)) ∧ (∀ q : Int, 0 ≤ q → q < 49 → J2 1 q.toNat = J 1 q.toNat) ∧ (I2 1 0 = I 1 0 ∧ I2 2 0 = I 2 0))) := by
  refine Ct.ofV (by decide) (Nat.le_of_ble_eq_true rfl) ?_
  intro p e s m args below meth c A Q hX hnm hR
  refine Z.pick (lv' := [(0, .ref (h 0))]) [0] rfl ?_
  obtain ⟨T, hT, hT1, hT2, hT3⟩ := sh1 (n := 2 * (F 0 - 1)) (by omega) (by omega)
  refine Z.aload_n hX dX7_envelope_0 rfl rfl ?_
  refine Z.getf hX 7 0 2 dX7_envelope_1 rfl rfl inX7 (by decide) fl_X7_70 rfl rfl ?_
  refine Z.iconst hX dX7_envelope_4 ?_
  refine Z.isub hX dX7_envelope_5 ?_
  refine Z.istore_n (lv' := [(1, .int (zI ((F 0) - 1))), (0, .ref (h 0))]) hX dX7_envelope_6 rfl (by decide) rfl ?_
  refine Z.aload_n hX dX7_envelope_7 rfl rfl ?_
  refine Z.callVfv (As := []) (rest := []) hX 7 0 rfl rfl (ct_X7_emptied l D ce h F I J ) mc_X7_emptied ml_X7_90 im_X7_emptied se_X7_emptied ini_X7 nd_X7_emptied ⟨Nat.le_of_ble_eq_true rfl, Nat.le_of_ble_eq_true rfl⟩ ⟨rfl, rfl⟩ ⟨Nat.le_refl _, Nat.le_refl _⟩ rfl (Nat.le_of_ble_eq_true rfl) dX7_envelope_8 ?_
  rintro w1 ⟨J22, hw_, hem1, hem2⟩
  subst hw_
  refine Z.iconst hX dX7_envelope_11 ?_
  refine Z.istore_n (lv' := [(2, .int (zI 0)), (1, .int (zI ((F 0) - 1))), (0, .ref (h 0))]) hX dX7_envelope_12 rfl (by decide) rfl ?_
  have key_13 : ∀ (N : Nat), ∀ (r : Int) (M : Nat → Nat → Int64), (F 0 - 1 - r).toNat < N → (hr : 0 ≤ r ∧ r ≤ F 0 - 1) → (hE : EZ (M 4) 6 0) → (hM : ∀ k, k ≠ 4 → M k = J k) → Z p l e { frames := 4, cells := 0, slots := 0, locals := 121 } s m args below meth c D A 8 0 0 Q 13 [(2, .int (zI r)), (1, .int (zI (F 0 - 1))), (0, .ref (h 0))] [] (rW ce h F I M) := by
    intro N
    induction N with
    | zero => intro r M hm; exact absurd hm (Nat.not_lt_zero _)
    | succ N ih_13 =>
      intro r M hm hr hE hM
      refine Z.iload_n hX dX7_envelope_13 rfl rfl ?_
      refine Z.iload_n hX dX7_envelope_14 rfl rfl ?_
      refine Z.icmp_ge hX 147 dX7_envelope_15 (by decide) ⟨by omega, by omega⟩ ⟨by omega, by omega⟩ ?_ ?_
      · intro c3
        refine Z.aload_n hX dX7_envelope_147 rfl rfl ?_
        refine Z.iconst hX dX7_envelope_148 ?_
        refine Z.iload_n hX dX7_envelope_149 rfl rfl ?_
        refine Z.imul hX dX7_envelope_150 ?_
        refine Z.callVfv (As := [.int (zI (2 * (F 0 - 1)))]) (rest := []) hX 7 0 rfl rfl (ct_X7_minorsOf l D ce h F I M (2 * (F 0 - 1)) 6 0 (by omega) (by omega) hE) mc_X7_minorsOf ml_X7_97 im_X7_minorsOf se_X7_minorsOf ini_X7 nd_X7_minorsOf ⟨Nat.le_of_ble_eq_true rfl, Nat.le_of_ble_eq_true rfl⟩ ⟨rfl, rfl⟩ ⟨Nat.le_refl _, Nat.le_refl _⟩ rfl (Nat.le_of_ble_eq_true rfl) dX7_envelope_151 ?_
        rintro w1 ⟨Jm, hw_, hm1⟩
        subst hw_
        refine Z.aload_n hX dX7_envelope_154 rfl rfl ?_
        refine Z.iconst hX dX7_envelope_155 ?_
        refine Z.bipush hX dX7_envelope_156 (by decide) ?_
        refine Z.iconst hX dX7_envelope_158 ?_
        refine Z.iconst hX dX7_envelope_159 ?_
        refine Z.iload_n hX dX7_envelope_160 rfl rfl ?_
        refine Z.imul hX dX7_envelope_161 ?_
        refine Z.ishl hX dX7_envelope_162 ?_
        refine Z.vali (y := zI T) hT ?_
        refine Z.iconst hX dX7_envelope_163 ?_
        refine Z.isub hX dX7_envelope_164 ?_
        refine Z.imul hX dX7_envelope_165 ?_
        refine Z.callVfv (As := [.int (zI 1), .int (zI (49 * (T - 1)))]) (rest := []) hX 7 0 rfl rfl (ct_X7_tell_1 l D ce h F I Jm (49 * (T - 1)) (by omega) hdg) mc_X7_tell ml_X7_101 im_X7_tell se_X7_tell ini_X7 nd_X7_tell ⟨Nat.le_of_ble_eq_true rfl, Nat.le_of_ble_eq_true rfl⟩ ⟨rfl, rfl⟩ ⟨Nat.le_refl _, Nat.le_refl _⟩ rfl (Nat.le_of_ble_eq_true rfl) dX7_envelope_166 ?_
        rintro w1 ⟨I26, J27, hw_, ht1, ht2, hdgZ, ht4, ht5⟩
        subst hw_
        exact hR _ _ _ dX7_envelope_169 ⟨I26, J27, rfl, (fun j_ h_1 h_4 h_5 h_6 h_7 h_8 h_9 => ((ht1 j_ h_1 h_6 h_7 h_8 h_9).trans ((hm1 j_ h_5).trans (hM j_ h_4)))), (fun j_ h_1 h_2 h_3 => ((ht2 j_ h_1 h_2 h_3).trans rfl)), hdgZ, (fun q a b => by rw [ht4 q a b, hm1 1 (by decide), hM 1 (by decide)]), ht5⟩
      · intro c3
        refine Z.iconst hX dX7_envelope_18 ?_
        refine Z.istore_n (lv' := [(3, .int (zI 0)), (2, .int (zI r)), (1, .int (zI (F 0 - 1))), (0, .ref (h 0))]) hX dX7_envelope_19 rfl (by decide) rfl ?_
        have key_20 : ∀ (N : Nat), ∀ (k : Int) (M : Nat → Nat → Int64), (F 0 - k).toNat < N → (hk : 0 ≤ k ∧ k ≤ F 0) → (hE : EZ (M 4) 6 0) → (hM : ∀ k, k ≠ 4 → M k = J k) → Z p l e { frames := 4, cells := 0, slots := 0, locals := 121 } s m args below meth c D A 8 0 0 Q 20 [(3, .int (zI k)), (2, .int (zI r)), (1, .int (zI (F 0 - 1))), (0, .ref (h 0))] [] (rW ce h F I M) := by
          intro N
          induction N with
          | zero => intro k M hm; exact absurd hm (Nat.not_lt_zero _)
          | succ N ih_20 =>
            intro k M hm hk hE hM
            refine Z.iload_n hX dX7_envelope_20 rfl rfl ?_
            refine Z.iload_n hX dX7_envelope_21 rfl rfl ?_
            refine Z.icmp_gt hX 141 dX7_envelope_22 (by decide) ⟨by omega, by omega⟩ ⟨by omega, by omega⟩ ?_ ?_
            · intro c8
              refine Z.iinc (lv' := [(2, .int (zI (r + 1))), (3, .int (zI k)), (1, .int (zI (F 0 - 1))), (0, .ref (h 0))]) hX dX7_envelope_141 rfl (by decide) rfl ?_
              refine Z.goto hX 13 dX7_envelope_144 (by decide) ?_
              refine Z.pick [0, 2, 3] rfl ?_
              exact ih_13 _ _ (by omega) (by omega) hE (fun j_ h_4 => (hM j_ h_4))
            · intro c8
              refine Z.iload_n hX dX7_envelope_25 rfl rfl ?_
              refine Z.iconst hX dX7_envelope_26 ?_
              refine Z.iadd hX dX7_envelope_27 ?_
              refine Z.i2l hX dX7_envelope_28 ⟨by omega, by omega⟩ ?_
              refine Z.lstore (lv' := [(4, .long (zL (k + 1))), (3, .int (zI k)), (2, .int (zI r)), (1, .int (zI (F 0 - 1))), (0, .ref (h 0))]) hX dX7_envelope_29 (by decide) rfl ?_
              refine Z.aload_n hX dX7_envelope_31 rfl rfl ?_
              refine Z.getf hX 7 0 2 dX7_envelope_32 rfl rfl inX7 (by decide) fl_X7_70 rfl rfl ?_
              refine Z.iload_n hX dX7_envelope_35 rfl rfl ?_
              refine Z.isub hX dX7_envelope_36 ?_
              refine Z.i2l hX dX7_envelope_37 ⟨by omega, by omega⟩ ?_
              refine Z.lstore (lv' := [(6, .long (zL ((F 0) - k))), (4, .long (zL (k + 1))), (3, .int (zI k)), (2, .int (zI r)), (1, .int (zI (F 0 - 1))), (0, .ref (h 0))]) hX dX7_envelope_38 (by decide) rfl ?_
              refine Z.aload_n hX dX7_envelope_40 rfl rfl ?_
              refine Z.iload_n hX dX7_envelope_41 rfl rfl ?_
              refine Z.iload_n hX dX7_envelope_42 rfl rfl ?_
              refine Z.iload_n hX dX7_envelope_43 rfl rfl ?_
              refine Z.iadd hX dX7_envelope_44 ?_
              refine Z.iload_n hX dX7_envelope_45 rfl rfl ?_
              refine Z.isub hX dX7_envelope_46 ?_
              refine Z.lload hX dX7_envelope_47 rfl ?_
              refine Z.aload_n hX dX7_envelope_49 rfl rfl ?_
              refine Z.getf hX 7 0 0 dX7_envelope_50 rfl rfl inX7 (by decide) fl_X7_7 rfl rfl ?_
              refine Z.bipush hX dX7_envelope_53 (by decide) ?_
              refine Z.iload_n hX dX7_envelope_55 rfl rfl ?_
              refine Z.iadd hX dX7_envelope_56 ?_
              refine Z.iaload hX 1 0 dX7_envelope_57 rfl rfl (by omega) (by omega) (by decide) ?_
              refine Z.topi (fun z9 hz9 kz9 ez9 => ?_)
              refine Z.i2l hX dX7_envelope_58 ⟨by omega, by omega⟩ ?_
              refine Z.lmul hX dX7_envelope_59 ?_
              refine Z.lload hX dX7_envelope_60 rfl ?_
              refine Z.aload_n hX dX7_envelope_62 rfl rfl ?_
              refine Z.getf hX 7 0 0 dX7_envelope_63 rfl rfl inX7 (by decide) fl_X7_7 rfl rfl ?_
              refine Z.iload_n hX dX7_envelope_66 rfl rfl ?_
              refine Z.iconst hX dX7_envelope_67 ?_
              refine Z.iadd hX dX7_envelope_68 ?_
              refine Z.iaload hX 1 0 dX7_envelope_69 rfl rfl (by omega) (by omega) (by decide) ?_
              refine Z.topi (fun z10 hz10 kz10 ez10 => ?_)
              refine Z.i2l hX dX7_envelope_70 ⟨by omega, by omega⟩ ?_
              refine Z.lmul hX dX7_envelope_71 ?_
              refine Z.lload hX dX7_envelope_72 rfl ?_
              refine Z.aload_n hX dX7_envelope_74 rfl rfl ?_
              refine Z.getf hX 7 0 0 dX7_envelope_75 rfl rfl inX7 (by decide) fl_X7_7 rfl rfl ?_
              refine Z.bipush hX dX7_envelope_78 (by decide) ?_
              refine Z.iload_n hX dX7_envelope_80 rfl rfl ?_
              refine Z.iadd hX dX7_envelope_81 ?_
              refine Z.iaload hX 1 0 dX7_envelope_82 rfl rfl (by omega) (by omega) (by decide) ?_
              refine Z.topi (fun z11 hz11 kz11 ez11 => ?_)
              refine Z.i2l hX dX7_envelope_83 ⟨by omega, by omega⟩ ?_
              refine Z.lmul hX dX7_envelope_84 ?_
              refine Z.callVfv (As := [.int (zI r), .int (zI ((r + (F 0 - 1)) - k)), .long ((zL (k + 1)) * (zL z9)), .long ((zL (k + 1)) * (zL z10)), .long ((zL (k + 1)) * (zL z11))]) (rest := []) hX 7 0 rfl rfl (ct_X7_entry l D ce h F I M r ((r + (F 0 - 1)) - k) ((zL (k + 1)) * (zL z9)) ((zL (k + 1)) * (zL z10)) ((zL (k + 1)) * (zL z11)) (by omega) (by omega)) mc_X7_entry ml_X7_93 im_X7_entry se_X7_entry ini_X7 nd_X7_entry ⟨Nat.le_of_ble_eq_true rfl, Nat.le_of_ble_eq_true rfl⟩ ⟨rfl, rfl⟩ ⟨Nat.le_refl _, Nat.le_refl _⟩ rfl (Nat.le_of_ble_eq_true rfl) dX7_envelope_85 ?_
              rintro w1 ⟨Ja, hw_, ha1, ha2⟩
              subst hw_
              have hEa : EZ (Ja 4) 6 0 := EZ_s (by omega) (by omega) (fun q => by omega) (fun q => by omega) hE ha2
              refine Z.aload_n hX dX7_envelope_88 rfl rfl ?_
              refine Z.iload_n hX dX7_envelope_89 rfl rfl ?_
              refine Z.iload_n hX dX7_envelope_90 rfl rfl ?_
              refine Z.iadd hX dX7_envelope_91 ?_
              refine Z.iload_n hX dX7_envelope_92 rfl rfl ?_
              refine Z.iload_n hX dX7_envelope_93 rfl rfl ?_
              refine Z.iadd hX dX7_envelope_94 ?_
              refine Z.iload_n hX dX7_envelope_95 rfl rfl ?_
              refine Z.isub hX dX7_envelope_96 ?_
              refine Z.lload hX dX7_envelope_97 rfl ?_
              refine Z.aload_n hX dX7_envelope_99 rfl rfl ?_
              refine Z.getf hX 7 0 0 dX7_envelope_100 rfl rfl inX7 (by decide) fl_X7_7 rfl rfl ?_
              refine Z.bipush hX dX7_envelope_103 (by decide) ?_
              refine Z.iload_n hX dX7_envelope_105 rfl rfl ?_
              refine Z.iadd hX dX7_envelope_106 ?_
              refine Z.iaload hX 1 0 dX7_envelope_107 rfl rfl (by omega) (by omega) (by decide) ?_
              refine Z.topi (fun z13 hz13 kz13 ez13 => ?_)
              refine Z.i2l hX dX7_envelope_108 ⟨by omega, by omega⟩ ?_
              refine Z.lmul hX dX7_envelope_109 ?_
              refine Z.lload hX dX7_envelope_110 rfl ?_
              refine Z.aload_n hX dX7_envelope_112 rfl rfl ?_
              refine Z.getf hX 7 0 0 dX7_envelope_113 rfl rfl inX7 (by decide) fl_X7_7 rfl rfl ?_
              refine Z.iload_n hX dX7_envelope_116 rfl rfl ?_
              refine Z.iaload hX 1 0 dX7_envelope_117 rfl rfl (by omega) (by omega) (by decide) ?_
              refine Z.topi (fun z14 hz14 kz14 ez14 => ?_)
              refine Z.i2l hX dX7_envelope_118 ⟨by omega, by omega⟩ ?_
              refine Z.lmul hX dX7_envelope_119 ?_
              refine Z.lload hX dX7_envelope_120 rfl ?_
              refine Z.aload_n hX dX7_envelope_122 rfl rfl ?_
              refine Z.getf hX 7 0 0 dX7_envelope_123 rfl rfl inX7 (by decide) fl_X7_7 rfl rfl ?_
              refine Z.iconst hX dX7_envelope_126 ?_
              refine Z.iload_n hX dX7_envelope_127 rfl rfl ?_
              refine Z.iadd hX dX7_envelope_128 ?_
              refine Z.iaload hX 1 0 dX7_envelope_129 rfl rfl (by omega) (by omega) (by decide) ?_
              refine Z.topi (fun z15 hz15 kz15 ez15 => ?_)
              refine Z.i2l hX dX7_envelope_130 ⟨by omega, by omega⟩ ?_
              refine Z.lmul hX dX7_envelope_131 ?_
              refine Z.callVfv (As := [.int (zI ((F 0 - 1) + r)), .int (zI ((r + (F 0 - 1)) - k)), .long ((zL ((F 0) - k)) * (zL z13)), .long ((zL ((F 0) - k)) * (zL z14)), .long ((zL ((F 0) - k)) * (zL z15))]) (rest := []) hX 7 0 rfl rfl (ct_X7_entry l D ce h F I Ja ((F 0 - 1) + r) ((r + (F 0 - 1)) - k) ((zL ((F 0) - k)) * (zL z13)) ((zL ((F 0) - k)) * (zL z14)) ((zL ((F 0) - k)) * (zL z15)) (by omega) (by omega)) mc_X7_entry ml_X7_93 im_X7_entry se_X7_entry ini_X7 nd_X7_entry ⟨Nat.le_of_ble_eq_true rfl, Nat.le_of_ble_eq_true rfl⟩ ⟨rfl, rfl⟩ ⟨Nat.le_refl _, Nat.le_refl _⟩ rfl (Nat.le_of_ble_eq_true rfl) dX7_envelope_132 ?_
              rintro w1 ⟨Jb, hw_, hb1, hb2⟩
              subst hw_
              have hEb : EZ (Jb 4) 6 0 := EZ_s (by omega) (by omega) (fun q => by omega) (fun q => by omega) hEa hb2
              refine Z.iinc (lv' := [(3, .int (zI (k + 1))), (6, .long (zL ((F 0) - k))), (4, .long (zL (k + 1))), (2, .int (zI r)), (1, .int (zI (F 0 - 1))), (0, .ref (h 0))]) hX dX7_envelope_135 rfl (by decide) rfl ?_
              refine Z.goto hX 20 dX7_envelope_138 (by decide) ?_
              refine Z.pick [0, 3, 4, 5] rfl ?_
              exact ih_20 _ _ (by omega) (by omega) hEb (fun j_ h_4 => ((hb1 j_ h_4).trans ((ha1 j_ h_4).trans (hM j_ h_4))))
        refine Z.pick [0, 1, 2, 3] rfl ?_
        exact key_20 _ _ _ (Nat.lt_succ_self _) (by omega) hE (fun j_ h_4 => (hM j_ h_4))
  refine Z.pick [0, 1, 2] rfl ?_
  exact key_13 _ _ _ (Nat.lt_succ_self _) (by omega) (EZ_0 hem2 _ _) (fun j_ h_4 => ((hem1 j_ h_4).trans rfl))

