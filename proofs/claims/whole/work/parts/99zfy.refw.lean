set_option maxHeartbeats 4000000 in
set_option maxRecDepth 100000 in
theorem ct_X7_locus_w (l : Launch) (D : va_G) (ce : Nat → ClassId) (h : Nat → Nat) (F : Nat → Int) (I : Nat → Nat → Int32) (J : Nat → Nat → Int64) (hF : 1 ≤ F 1 ∧ F 1 ≤ 4) (hdg : DGok (I 2)) (hb : ∀ i, i < 15 → (J 0 i).toInt.natAbs ≤ 105) (hro : RowOK (fI (J 0) 0) (fI (J 0) 1) (fI (J 0) 2) (F 1).toNat) (hW : ∃ i, i < 5 ∧ fI (J 0) 2 i ≠ 0) : Ct l yX7_locus cX7_locus 4 none { frames := 4, cells := 0, slots := 0, locals := 121 } 0 0 D (TY ce) [.ref (h 0)] (rW ce h F I J) (QV D (TY ce) (fun w1 => ∃ I2 : Nat → Nat → Int32, ∃ J2 : Nat → Nat → Int64, w1 = rW ce h F I2 J2 ∧ (∀ k, k ≠ 1 → k ≠ 4 → k ≠ 5 → k ≠ 6 → k ≠ 7 → k ≠ 8 → k ≠ 9 → J2 k = J k) ∧ (∀ k, k ≠ 1 → k ≠ 2 → k ≠ 3 → I2 k = I k) ∧ (DGok (I2 2)) ∧ ((NC (fI (J 0) 0) (fI (J 0) 1) (fI (J 0) 2) (F 1).toNat → I2 1 0 = 1 ∧ TR (fI (J 0) 0) (fI (J 0) 1) (fI (J 0) 2) (F 1).toNat (J2 1) (I2 2 0)) ∧ (¬ NC (fI (J 0) 0) (fI (J 0) 1) (fI (J 0) 2) (F 1).toNat → I2 1 = I 1)) ∧ (I2 1 1 = I 1 1) ∧ (NC (fI (J 0) 0) (fI (J 0) 1) (fI (J 0) 2) (F 1).toNat → RESm (fun x y => Fz (F 1).toNat (fI (J 0) 0) (fI (J 0) 1) (fI (J 0) 2) x y 1) (tof (J2 1) 0) (I2 2 0) (I2 3 0)))) := by
  refine Ct.ofV (by decide) (Nat.le_of_ble_eq_true rfl) ?_
  intro p e s m args below meth c A Q hX hnm hR
  refine Z.pick (lv' := [(0, .ref (h 0))]) [0] rfl ?_
  obtain ⟨T, hT, hT1, hT2, hT3, hT4⟩ := sh1y (n := 2 * F 1) (by omega) (by omega)
  refine Z.aload_n hX dX7_locus_0 rfl rfl ?_
  refine Z.getf hX 7 0 3 dX7_locus_1 rfl rfl inX7 (by decide) fl_X7_77 rfl rfl ?_
  refine Z.istore_n (lv' := [(1, .int (zI (F 1))), (0, .ref (h 0))]) hX dX7_locus_4 rfl (by decide) rfl ?_
  refine Z.aload_n hX dX7_locus_5 rfl rfl ?_
  refine Z.callVfv (As := []) (rest := []) hX 7 0 rfl rfl (ct_X7_emptied l D ce h F I J ) mc_X7_emptied ml_X7_90 im_X7_emptied se_X7_emptied ini_X7 nd_X7_emptied ⟨Nat.le_of_ble_eq_true rfl, Nat.le_of_ble_eq_true rfl⟩ ⟨rfl, rfl⟩ ⟨Nat.le_refl _, Nat.le_refl _⟩ rfl (Nat.le_of_ble_eq_true rfl) dX7_locus_6 ?_
  rintro w1 ⟨J22, hw_, hem1, hem2⟩
  subst hw_
  refine Z.iconst hX dX7_locus_9 ?_
  refine Z.istore_n (lv' := [(2, .int (zI 0)), (1, .int (zI (F 1))), (0, .ref (h 0))]) hX dX7_locus_10 rfl (by decide) rfl ?_
  have key_11 : ∀ (N : Nat), ∀ (r : Int) (M : Nat → Nat → Int64), (F 1 - r).toNat < N → (hr : 0 ≤ r ∧ r ≤ F 1) → (hE : EZ (M 4) (F 1) (F 1)) → (hL : LE (M 4) (J 0) (F 1) r 0) → (hM : ∀ k, k ≠ 4 → M k = J k) → Z p l e { frames := 4, cells := 0, slots := 0, locals := 121 } s m args below meth c D A 4 0 0 Q 11 [(2, .int (zI r)), (1, .int (zI (F 1))), (0, .ref (h 0))] [] (rW ce h F I M) := by
    intro N
    induction N with
    | zero => intro r M hm; exact absurd hm (Nat.not_lt_zero _)
    | succ N ih_11 =>
      intro r M hm hr hE hL hM
      refine Z.iload_n hX dX7_locus_11 rfl rfl ?_
      refine Z.iload_n hX dX7_locus_12 rfl rfl ?_
      refine Z.icmp_ge hX 93 dX7_locus_13 (by decide) ⟨by omega, by omega⟩ ⟨by omega, by omega⟩ ?_ ?_
      · intro c3
        refine Z.aload_n hX dX7_locus_93 rfl rfl ?_
        refine Z.iconst hX dX7_locus_94 ?_
        refine Z.iload_n hX dX7_locus_95 rfl rfl ?_
        refine Z.imul hX dX7_locus_96 ?_
        refine Z.callVfv (As := [.int (zI (2 * (F 1)))]) (rest := []) hX 7 0 rfl rfl (ct_X7_minorsOf_y l D ce h F I M (2 * (F 1)) (F 1) (F 1) (by omega) (by omega) hE) mc_X7_minorsOf ml_X7_97 im_X7_minorsOf se_X7_minorsOf ini_X7 nd_X7_minorsOf ⟨Nat.le_of_ble_eq_true rfl, Nat.le_of_ble_eq_true rfl⟩ ⟨rfl, rfl⟩ ⟨Nat.le_refl _, Nat.le_refl _⟩ rfl (Nat.le_of_ble_eq_true rfl) dX7_locus_97 ?_
        rintro w1 ⟨Jm, hw_, hm1, hm2, hm3⟩
        subst hw_
        have hcg := lo_cg (m := Jm 5) (fr := 49 * (T - 1)) (by omega) (show r = F 1 by omega) hb hL hm2 (by rw [← hT4]; omega)
        obtain ⟨hev, hsz, hsn⟩ := sl_ex (by omega) (by omega) hro sg1_e hcg
        have hSS := sS_loc (by omega) (by omega) hro sg1_e hcg
        refine Z.aload_n hX dX7_locus_100 rfl rfl ?_
        refine Z.iconst hX dX7_locus_101 ?_
        refine Z.bipush hX dX7_locus_102 (by decide) ?_
        refine Z.iconst hX dX7_locus_104 ?_
        refine Z.iconst hX dX7_locus_105 ?_
        refine Z.iload_n hX dX7_locus_106 rfl rfl ?_
        refine Z.imul hX dX7_locus_107 ?_
        refine Z.ishl hX dX7_locus_108 ?_
        refine Z.vali (y := zI T) hT ?_
        refine Z.iconst hX dX7_locus_109 ?_
        refine Z.isub hX dX7_locus_110 ?_
        refine Z.imul hX dX7_locus_111 ?_
        refine Z.callVfv (As := [.int (zI 0), .int (zI (49 * (T - 1)))]) (rest := []) hX 7 0 rfl rfl (ct_X7_tell_w0 l D ce h F I Jm (49 * (T - 1)) (by omega) hdg hsz (fun q a b c => hsn q a b (by omega)) hSS) mc_X7_tell ml_X7_101 im_X7_tell se_X7_tell ini_X7 nd_X7_tell ⟨Nat.le_of_ble_eq_true rfl, Nat.le_of_ble_eq_true rfl⟩ ⟨rfl, rfl⟩ ⟨Nat.le_refl _, Nat.le_refl _⟩ rfl (Nat.le_of_ble_eq_true rfl) dX7_locus_112 ?_
        rintro w1 ⟨It, Jt, hw_, ht1, ht2, hdgZ, ht4, ht5, ht6, ht7⟩
        subst hw_
        obtain ⟨hfw1, hfw2⟩ := lo_finw (by omega) (by omega) hro hW sg1_e (by omega) hcg ht4 ht5
        exact hR _ _ _ dX7_locus_115 ⟨It, Jt, rfl, (fun j_ h_1 h_4 h_5 h_6 h_7 h_8 h_9 => ((ht1 j_ h_1 h_6 h_7 h_8 h_9).trans ((hm1 j_ h_5).trans (hM j_ h_4)))), (fun j_ h_1 h_2 h_3 => ((ht2 j_ h_1 h_2 h_3).trans rfl)), hdgZ, ⟨fun nc => by have t_ := (hfw1 nc).1; rw [tof_0] at t_; exact t_, hfw2⟩, ht7.1, (fun nc => (hfw1 nc).2)⟩
      · intro c3
        refine Z.iconst hX dX7_locus_16 ?_
        refine Z.istore_n (lv' := [(3, .int (zI 0)), (2, .int (zI r)), (1, .int (zI (F 1))), (0, .ref (h 0))]) hX dX7_locus_17 rfl (by decide) rfl ?_
        have key_18 : ∀ (N : Nat), ∀ (k : Int) (M : Nat → Nat → Int64), (F 1 + 1 - k).toNat < N → (hk : 0 ≤ k ∧ k ≤ F 1 + 1) → (hE : EZ (M 4) (F 1) (F 1)) → (hL : LE (M 4) (J 0) (F 1) r k) → (hM : ∀ k, k ≠ 4 → M k = J k) → Z p l e { frames := 4, cells := 0, slots := 0, locals := 121 } s m args below meth c D A 4 0 0 Q 18 [(3, .int (zI k)), (2, .int (zI r)), (1, .int (zI (F 1))), (0, .ref (h 0))] [] (rW ce h F I M) := by
          intro N
          induction N with
          | zero => intro k M hm; exact absurd hm (Nat.not_lt_zero _)
          | succ N ih_18 =>
            intro k M hm hk hE hL hM
            refine Z.iload_n hX dX7_locus_18 rfl rfl ?_
            refine Z.iload_n hX dX7_locus_19 rfl rfl ?_
            refine Z.icmp_gt hX 87 dX7_locus_20 (by decide) ⟨by omega, by omega⟩ ⟨by omega, by omega⟩ ?_ ?_
            · intro c6
              refine Z.iinc (lv' := [(2, .int (zI (r + 1))), (3, .int (zI k)), (1, .int (zI (F 1))), (0, .ref (h 0))]) hX dX7_locus_87 rfl (by decide) rfl ?_
              refine Z.goto hX 11 dX7_locus_90 (by decide) ?_
              refine Z.pick [0, 2, 3] rfl ?_
              exact ih_11 _ _ (by omega) (by omega) hE (LE_r (by omega) hL) (fun j_ h_4 => (hM j_ h_4))
            · intro c6
              refine Z.aload_n hX dX7_locus_23 rfl rfl ?_
              refine Z.iload_n hX dX7_locus_24 rfl rfl ?_
              refine Z.iload_n hX dX7_locus_25 rfl rfl ?_
              refine Z.iload_n hX dX7_locus_26 rfl rfl ?_
              refine Z.iadd hX dX7_locus_27 ?_
              refine Z.iload_n hX dX7_locus_28 rfl rfl ?_
              refine Z.isub hX dX7_locus_29 ?_
              refine Z.aload_n hX dX7_locus_30 rfl rfl ?_
              refine Z.getf hX 7 0 1 dX7_locus_31 rfl rfl inX7 (by decide) fl_X7_13 rfl rfl ?_
              refine Z.iload_n hX dX7_locus_34 rfl rfl ?_
              refine Z.laload hX 2 1 dX7_locus_35 rfl rfl (by omega) (by omega) (by decide) ?_
              refine Z.aload_n hX dX7_locus_36 rfl rfl ?_
              refine Z.getf hX 7 0 1 dX7_locus_37 rfl rfl inX7 (by decide) fl_X7_13 rfl rfl ?_
              refine Z.bipush hX dX7_locus_40 (by decide) ?_
              refine Z.iload_n hX dX7_locus_42 rfl rfl ?_
              refine Z.iadd hX dX7_locus_43 ?_
              refine Z.laload hX 2 1 dX7_locus_44 rfl rfl (by omega) (by omega) (by decide) ?_
              refine Z.lneg hX dX7_locus_45 ?_
              refine Z.lconst (v := 0) hX dX7_locus_46 rfl ?_
              refine Z.callVfv (As := [.int (zI r), .int (zI ((r + (F 1)) - k)), .long (M 0 (k : Int).toNat), .long (-(M 0 (10 + k : Int).toNat)), .long 0]) (rest := []) hX 7 0 rfl rfl (ct_X7_entry l D ce h F I M r ((r + (F 1)) - k) (M 0 (k : Int).toNat) (-(M 0 (10 + k : Int).toNat)) 0 (by omega) (by omega)) mc_X7_entry ml_X7_93 im_X7_entry se_X7_entry ini_X7 nd_X7_entry ⟨Nat.le_of_ble_eq_true rfl, Nat.le_of_ble_eq_true rfl⟩ ⟨rfl, rfl⟩ ⟨Nat.le_refl _, Nat.le_refl _⟩ rfl (Nat.le_of_ble_eq_true rfl) dX7_locus_47 ?_
              rintro w1 ⟨Ja, hw_, ha1, ha2⟩
              subst hw_
              have hEa : EZ (Ja 4) (F 1) (F 1) := EZ_s (by omega) (by omega) (fun q => by omega) (fun _ => rfl) hE ha2
              refine Z.aload_n hX dX7_locus_50 rfl rfl ?_
              refine Z.iload_n hX dX7_locus_51 rfl rfl ?_
              refine Z.iload_n hX dX7_locus_52 rfl rfl ?_
              refine Z.iadd hX dX7_locus_53 ?_
              refine Z.iload_n hX dX7_locus_54 rfl rfl ?_
              refine Z.iload_n hX dX7_locus_55 rfl rfl ?_
              refine Z.iadd hX dX7_locus_56 ?_
              refine Z.iload_n hX dX7_locus_57 rfl rfl ?_
              refine Z.isub hX dX7_locus_58 ?_
              refine Z.aload_n hX dX7_locus_59 rfl rfl ?_
              refine Z.getf hX 7 0 1 dX7_locus_60 rfl rfl inX7 (by decide) fl_X7_13 rfl rfl ?_
              refine Z.iconst hX dX7_locus_63 ?_
              refine Z.iload_n hX dX7_locus_64 rfl rfl ?_
              refine Z.iadd hX dX7_locus_65 ?_
              refine Z.laload hX 2 1 dX7_locus_66 rfl rfl (by omega) (by omega) (by decide) ?_
              refine Z.lconst (v := 0) hX dX7_locus_67 rfl ?_
              refine Z.aload_n hX dX7_locus_68 rfl rfl ?_
              refine Z.getf hX 7 0 1 dX7_locus_69 rfl rfl inX7 (by decide) fl_X7_13 rfl rfl ?_
              refine Z.bipush hX dX7_locus_72 (by decide) ?_
              refine Z.iload_n hX dX7_locus_74 rfl rfl ?_
              refine Z.iadd hX dX7_locus_75 ?_
              refine Z.laload hX 2 1 dX7_locus_76 rfl rfl (by omega) (by omega) (by decide) ?_
              refine Z.lneg hX dX7_locus_77 ?_
              refine Z.callVfv (As := [.int (zI ((F 1) + r)), .int (zI ((r + (F 1)) - k)), .long (Ja 0 (5 + k : Int).toNat), .long 0, .long (-(Ja 0 (10 + k : Int).toNat))]) (rest := []) hX 7 0 rfl rfl (ct_X7_entry l D ce h F I Ja ((F 1) + r) ((r + (F 1)) - k) (Ja 0 (5 + k : Int).toNat) 0 (-(Ja 0 (10 + k : Int).toNat)) (by omega) (by omega)) mc_X7_entry ml_X7_93 im_X7_entry se_X7_entry ini_X7 nd_X7_entry ⟨Nat.le_of_ble_eq_true rfl, Nat.le_of_ble_eq_true rfl⟩ ⟨rfl, rfl⟩ ⟨Nat.le_refl _, Nat.le_refl _⟩ rfl (Nat.le_of_ble_eq_true rfl) dX7_locus_78 ?_
              rintro w1 ⟨Jb, hw_, hb1, hb2⟩
              subst hw_
              have hEb : EZ (Jb 4) (F 1) (F 1) := EZ_s (by omega) (by omega) (fun _ => rfl) (fun q => by omega) hEa hb2
              have hLb : LE (Jb 4) (J 0) (F 1) r (k + 1) := LE_s (E := M 4) (Ea := Ja 4) (by omega) (by omega) (by omega) (by rw [← hM 0 (by decide)]; exact ha2) (by rw [← hM 0 (by decide), ← ha1 0 (by decide)]; exact hb2) hL
              refine Z.iinc (lv' := [(3, .int (zI (k + 1))), (2, .int (zI r)), (1, .int (zI (F 1))), (0, .ref (h 0))]) hX dX7_locus_81 rfl (by decide) rfl ?_
              refine Z.goto hX 18 dX7_locus_84 (by decide) ?_
              refine Z.pick [0, 1, 2, 3] rfl ?_
              exact ih_18 _ _ (by omega) (by omega) hEb hLb (fun j_ h_4 => ((hb1 j_ h_4).trans ((ha1 j_ h_4).trans (hM j_ h_4))))
        refine Z.pick [0, 1, 2, 3] rfl ?_
        exact key_18 _ _ _ (Nat.lt_succ_self _) (by omega) hE hL (fun j_ h_4 => (hM j_ h_4))
  refine Z.pick [0, 1, 2] rfl ?_
  exact key_11 _ _ _ (Nat.lt_succ_self _) (by omega) (EZ_0 hem2 _ _) (LE_0 hem2) (fun j_ h_4 => ((hem1 j_ h_4).trans rfl))

set_option maxHeartbeats 4000000 in
set_option maxRecDepth 100000 in
theorem ct_X7_envelope_w (l : Launch) (D : va_G) (ce : Nat → ClassId) (h : Nat → Nat) (F : Nat → Int) (I : Nat → Nat → Int32) (J : Nat → Nat → Int64) (hF : 2 ≤ F 0 ∧ F 0 ≤ 4) (hdg : DGok (I 2)) (hbr : bR (I 0)) : Ct l yX7_envelope cX7_envelope 8 none { frames := 4, cells := 0, slots := 0, locals := 121 } 0 0 D (TY ce) [.ref (h 0)] (rW ce h F I J) (QV D (TY ce) (fun w1 => ∃ I2 : Nat → Nat → Int32, ∃ J2 : Nat → Nat → Int64, w1 = rW ce h F I2 J2 ∧ (∀ k, k ≠ 1 → k ≠ 4 → k ≠ 5 → k ≠ 6 → k ≠ 7 → k ≠ 8 → k ≠ 9 → J2 k = J k) ∧ (∀ k, k ≠ 1 → k ≠ 2 → k ≠ 3 → I2 k = I k) ∧ (DGok (I2 2)) ∧ (∀ q : Int, 0 ≤ q → q < 49 → J2 1 q.toNat = J 1 q.toNat) ∧ (I2 1 0 = I 1 0 ∧ I2 2 0 = I 2 0) ∧ ((NCe (F 0).toNat (ti (rP (I 0) 0)) (ti (rP (I 0) 1)) (ti (rP (I 0) 2)) → I2 1 1 = 1 ∧ TRz (F 0).toNat (ti (rP (I 0) 0)) (ti (rP (I 0) 1)) (ti (rP (I 0) 2)) (fun i => J2 1 (49 + i)) (I2 2 1)) ∧ (¬ NCe (F 0).toNat (ti (rP (I 0) 0)) (ti (rP (I 0) 1)) (ti (rP (I 0) 2)) → I2 1 = I 1)) ∧ (I2 3 0 = I 3 0) ∧ (NCe (F 0).toNat (ti (rP (I 0) 0)) (ti (rP (I 0) 1)) (ti (rP (I 0) 2)) → RESm (fun x y => Fe (F 0).toNat (ti (rP (I 0) 0)) (ti (rP (I 0) 1)) (ti (rP (I 0) 2)) x y 1) (tof (J2 1) 1) (I2 2 1) (I2 3 1)))) := by
  refine Ct.ofV (by decide) (Nat.le_of_ble_eq_true rfl) ?_
  intro p e s m args below meth c A Q hX hnm hR
  refine Z.pick (lv' := [(0, .ref (h 0))]) [0] rfl ?_
  obtain ⟨T, hT, hT1, hT2, hT3, hT4⟩ := sh1y (n := 2 * (F 0 - 1)) (by omega) (by omega)
  obtain ⟨Tn, hTn⟩ := TN_ex (N := (F 0).toNat) ⟨by omega, by omega⟩ (rp_bx hbr (show 0 < 3 by decide)) (rp_bx hbr (show 1 < 3 by decide)) (rp_bx hbr (show 2 < 3 by decide))
  refine Z.aload_n hX dX7_envelope_0 rfl rfl ?_
  refine Z.getf hX 7 0 2 dX7_envelope_1 rfl rfl inX7 (by decide) fl_X7_70 rfl rfl ?_
  refine Z.iconst hX dX7_envelope_4 ?_
  refine Z.isub hX dX7_envelope_5 ?_
  refine Z.istore_n (lv' := [(1, .int (zI ((F 0) - 1))), (0, .ref (h 0))]) hX dX7_envelope_6 rfl (by decide) rfl ?_
  refine Z.aload_n hX dX7_envelope_7 rfl rfl ?_
  refine Z.callVfv (As := []) (rest := []) hX 7 0 rfl rfl (ct_X7_emptied l D ce h F I J ) mc_X7_emptied ml_X7_90 im_X7_emptied se_X7_emptied ini_X7 nd_X7_emptied ⟨Nat.le_of_ble_eq_true rfl, Nat.le_of_ble_eq_true rfl⟩ ⟨rfl, rfl⟩ ⟨Nat.le_refl _, Nat.le_refl _⟩ rfl (Nat.le_of_ble_eq_true rfl) dX7_envelope_8 ?_
  rintro w1 ⟨J22, hw_, hem1, hem2⟩
  subst hw_
  refine Z.iconst hX dX7_envelope_11 ?_
  refine Z.istore_n (lv' := [(2, .int (zI 0)), (1, .int (zI ((F 0) - 1))), (0, .ref (h 0))]) hX dX7_envelope_12 rfl (by decide) rfl ?_
  have key_13 : ∀ (N : Nat), ∀ (r : Int) (M : Nat → Nat → Int64), (F 0 - 1 - r).toNat < N → (hr : 0 ≤ r ∧ r ≤ F 0 - 1) → (hE : EZ (M 4) 6 0) → (hM : ∀ k, k ≠ 4 → M k = J k) → (hL : LG (M 4) (eP (I 0) 2) (eP (I 0) 0) (eP (I 0) 1) (eR (I 0) (F 0) 2) (eR (I 0) (F 0) 0) (eR (I 0) (F 0) 1) (F 0 - 1) r 0) → Z p l e { frames := 4, cells := 0, slots := 0, locals := 121 } s m args below meth c D A 8 0 0 Q 13 [(2, .int (zI r)), (1, .int (zI (F 0 - 1))), (0, .ref (h 0))] [] (rW ce h F I M) := by
    intro N
    induction N with
    | zero => intro r M hm; exact absurd hm (Nat.not_lt_zero _)
    | succ N ih_13 =>
      intro r M hm hr hE hM hL
      refine Z.iload_n hX dX7_envelope_13 rfl rfl ?_
      refine Z.iload_n hX dX7_envelope_14 rfl rfl ?_
      refine Z.icmp_ge hX 147 dX7_envelope_15 (by decide) ⟨by omega, by omega⟩ ⟨by omega, by omega⟩ ?_ ?_
      · intro c3
        refine Z.aload_n hX dX7_envelope_147 rfl rfl ?_
        refine Z.iconst hX dX7_envelope_148 ?_
        refine Z.iload_n hX dX7_envelope_149 rfl rfl ?_
        refine Z.imul hX dX7_envelope_150 ?_
        refine Z.callVfv (As := [.int (zI (2 * (F 0 - 1)))]) (rest := []) hX 7 0 rfl rfl (ct_X7_minorsOf_y l D ce h F I M (2 * (F 0 - 1)) 6 0 (by omega) (by omega) hE) mc_X7_minorsOf ml_X7_97 im_X7_minorsOf se_X7_minorsOf ini_X7 nd_X7_minorsOf ⟨Nat.le_of_ble_eq_true rfl, Nat.le_of_ble_eq_true rfl⟩ ⟨rfl, rfl⟩ ⟨Nat.le_refl _, Nat.le_refl _⟩ rfl (Nat.le_of_ble_eq_true rfl) dX7_envelope_151 ?_
        rintro w1 ⟨Jm, hw_, hm1, hm2, hm3⟩
        subst hw_
        have hcg := en_cg (m := Jm 5) (fr := 49 * (T - 1)) hF hbr (show r = F 0 - 1 by omega) hL hm2 (by rw [← hT4]; omega)
        obtain ⟨hev, hsz, hsn⟩ := sl_ez hTn sg1_e hcg
        have hSS := sS_env hTn sg1_e hcg
        refine Z.aload_n hX dX7_envelope_154 rfl rfl ?_
        refine Z.iconst hX dX7_envelope_155 ?_
        refine Z.bipush hX dX7_envelope_156 (by decide) ?_
        refine Z.iconst hX dX7_envelope_158 ?_
        refine Z.iconst hX dX7_envelope_159 ?_
        refine Z.iload_n hX dX7_envelope_160 rfl rfl ?_
        refine Z.imul hX dX7_envelope_161 ?_
        refine Z.ishl hX dX7_envelope_162 ?_
        refine Z.vali (y := zI T) hT ?_
        refine Z.iconst hX dX7_envelope_163 ?_
        refine Z.isub hX dX7_envelope_164 ?_
        refine Z.imul hX dX7_envelope_165 ?_
        refine Z.callVfv (As := [.int (zI 1), .int (zI (49 * (T - 1)))]) (rest := []) hX 7 0 rfl rfl (ct_X7_tell_w1 l D ce h F I Jm (49 * (T - 1)) (by omega) hdg hsz hsn hSS) mc_X7_tell ml_X7_101 im_X7_tell se_X7_tell ini_X7 nd_X7_tell ⟨Nat.le_of_ble_eq_true rfl, Nat.le_of_ble_eq_true rfl⟩ ⟨rfl, rfl⟩ ⟨Nat.le_refl _, Nat.le_refl _⟩ rfl (Nat.le_of_ble_eq_true rfl) dX7_envelope_166 ?_
        rintro w1 ⟨It, Jt, hw_, ht1, ht2, hdgZ, ht4, ht5, ht6, ht7⟩
        subst hw_
        obtain ⟨hfw1, hfw2⟩ := en_finw hTn sg1_e (by omega) hcg ht4 ht5
        exact hR _ _ _ dX7_envelope_169 ⟨It, Jt, rfl, (fun j_ h_1 h_4 h_5 h_6 h_7 h_8 h_9 => ((ht1 j_ h_1 h_6 h_7 h_8 h_9).trans ((hm1 j_ h_5).trans (hM j_ h_4)))), (fun j_ h_1 h_2 h_3 => ((ht2 j_ h_1 h_2 h_3).trans rfl)), hdgZ, (fun q a b => by have t_ := ht6 q a b; rw [show 49 * 0 + q = q by omega] at t_; rw [t_, hm1 1 (by decide), hM 1 (by decide)]), ⟨ht7.1, ht7.2.1⟩, ⟨fun nc => (hfw1 nc).1, hfw2⟩, ht7.2.2, (fun nc => (hfw1 nc).2)⟩
      · intro c3
        refine Z.iconst hX dX7_envelope_18 ?_
        refine Z.istore_n (lv' := [(3, .int (zI 0)), (2, .int (zI r)), (1, .int (zI (F 0 - 1))), (0, .ref (h 0))]) hX dX7_envelope_19 rfl (by decide) rfl ?_
        have key_20 : ∀ (N : Nat), ∀ (k : Int) (M : Nat → Nat → Int64), (F 0 - k).toNat < N → (hk : 0 ≤ k ∧ k ≤ F 0) → (hE : EZ (M 4) 6 0) → (hM : ∀ k, k ≠ 4 → M k = J k) → (hL : LG (M 4) (eP (I 0) 2) (eP (I 0) 0) (eP (I 0) 1) (eR (I 0) (F 0) 2) (eR (I 0) (F 0) 0) (eR (I 0) (F 0) 1) (F 0 - 1) r k) → Z p l e { frames := 4, cells := 0, slots := 0, locals := 121 } s m args below meth c D A 8 0 0 Q 20 [(3, .int (zI k)), (2, .int (zI r)), (1, .int (zI (F 0 - 1))), (0, .ref (h 0))] [] (rW ce h F I M) := by
          intro N
          induction N with
          | zero => intro k M hm; exact absurd hm (Nat.not_lt_zero _)
          | succ N ih_20 =>
            intro k M hm hk hE hM hL
            refine Z.iload_n hX dX7_envelope_20 rfl rfl ?_
            refine Z.iload_n hX dX7_envelope_21 rfl rfl ?_
            refine Z.icmp_gt hX 141 dX7_envelope_22 (by decide) ⟨by omega, by omega⟩ ⟨by omega, by omega⟩ ?_ ?_
            · intro c6
              refine Z.iinc (lv' := [(2, .int (zI (r + 1))), (3, .int (zI k)), (1, .int (zI (F 0 - 1))), (0, .ref (h 0))]) hX dX7_envelope_141 rfl (by decide) rfl ?_
              refine Z.goto hX 13 dX7_envelope_144 (by decide) ?_
              refine Z.pick [0, 2, 3] rfl ?_
              exact ih_13 _ _ (by omega) (by omega) hE (fun j_ h_4 => (hM j_ h_4)) (LG_r (by omega) hL)
            · intro c6
              refine Z.iload_n hX dX7_envelope_25 rfl rfl ?_
              refine Z.iconst hX dX7_envelope_26 ?_
              refine Z.iadd hX dX7_envelope_27 ?_
              refine Z.i2l hX dX7_envelope_28 ⟨by omega, by omega⟩ ?_
              refine Z.lstore (lv' := [(4, .long (zL (k + 1))), (3, .int (zI k)), (2, .int (zI r)), (1, .int (zI (F 0 - 1))), (0, .ref (h 0))]) hX dX7_envelope_29 (by decide) rfl ?_
              refine Z.aload_n hX dX7_envelope_31 rfl rfl ?_
              refine Z.getf hX 7 0 2 dX7_envelope_32 rfl rfl inX7 (by decide) fl_X7_70 rfl rfl ?_
              refine Z.iload_n hX dX7_envelope_35 rfl rfl ?_
              refine Z.isub hX dX7_envelope_36 ?_
              refine Z.i2l hX dX7_envelope_37 ⟨by omega, by omega⟩ ?_
              refine Z.lstore (lv' := [(6, .long (zL ((F 0) - k))), (4, .long (zL (k + 1))), (3, .int (zI k)), (2, .int (zI r)), (1, .int (zI (F 0 - 1))), (0, .ref (h 0))]) hX dX7_envelope_38 (by decide) rfl ?_
              refine Z.aload_n hX dX7_envelope_40 rfl rfl ?_
              refine Z.iload_n hX dX7_envelope_41 rfl rfl ?_
              refine Z.iload_n hX dX7_envelope_42 rfl rfl ?_
              refine Z.iload_n hX dX7_envelope_43 rfl rfl ?_
              refine Z.iadd hX dX7_envelope_44 ?_
              refine Z.iload_n hX dX7_envelope_45 rfl rfl ?_
              refine Z.isub hX dX7_envelope_46 ?_
              refine Z.lload hX dX7_envelope_47 rfl ?_
              refine Z.aload_n hX dX7_envelope_49 rfl rfl ?_
              refine Z.getf hX 7 0 0 dX7_envelope_50 rfl rfl inX7 (by decide) fl_X7_7 rfl rfl ?_
              refine Z.bipush hX dX7_envelope_53 (by decide) ?_
              refine Z.iload_n hX dX7_envelope_55 rfl rfl ?_
              refine Z.iadd hX dX7_envelope_56 ?_
              refine Z.iaload hX 1 0 dX7_envelope_57 rfl rfl (by omega) (by omega) (by decide) ?_
              refine Z.topi (fun z7 hz7 kz7 ez7 => ?_)
              refine Z.i2l hX dX7_envelope_58 ⟨by omega, by omega⟩ ?_
              refine Z.lmul hX dX7_envelope_59 ?_
              refine Z.lload hX dX7_envelope_60 rfl ?_
              refine Z.aload_n hX dX7_envelope_62 rfl rfl ?_
              refine Z.getf hX 7 0 0 dX7_envelope_63 rfl rfl inX7 (by decide) fl_X7_7 rfl rfl ?_
              refine Z.iload_n hX dX7_envelope_66 rfl rfl ?_
              refine Z.iconst hX dX7_envelope_67 ?_
              refine Z.iadd hX dX7_envelope_68 ?_
              refine Z.iaload hX 1 0 dX7_envelope_69 rfl rfl (by omega) (by omega) (by decide) ?_
              refine Z.topi (fun z8 hz8 kz8 ez8 => ?_)
              refine Z.i2l hX dX7_envelope_70 ⟨by omega, by omega⟩ ?_
              refine Z.lmul hX dX7_envelope_71 ?_
              refine Z.lload hX dX7_envelope_72 rfl ?_
              refine Z.aload_n hX dX7_envelope_74 rfl rfl ?_
              refine Z.getf hX 7 0 0 dX7_envelope_75 rfl rfl inX7 (by decide) fl_X7_7 rfl rfl ?_
              refine Z.bipush hX dX7_envelope_78 (by decide) ?_
              refine Z.iload_n hX dX7_envelope_80 rfl rfl ?_
              refine Z.iadd hX dX7_envelope_81 ?_
              refine Z.iaload hX 1 0 dX7_envelope_82 rfl rfl (by omega) (by omega) (by decide) ?_
              refine Z.topi (fun z9 hz9 kz9 ez9 => ?_)
              refine Z.i2l hX dX7_envelope_83 ⟨by omega, by omega⟩ ?_
              refine Z.lmul hX dX7_envelope_84 ?_
              refine Z.callVfv (As := [.int (zI r), .int (zI ((r + (F 0 - 1)) - k)), .long ((zL (k + 1)) * (zL z7)), .long ((zL (k + 1)) * (zL z8)), .long ((zL (k + 1)) * (zL z9))]) (rest := []) hX 7 0 rfl rfl (ct_X7_entry l D ce h F I M r ((r + (F 0 - 1)) - k) ((zL (k + 1)) * (zL z7)) ((zL (k + 1)) * (zL z8)) ((zL (k + 1)) * (zL z9)) (by omega) (by omega)) mc_X7_entry ml_X7_93 im_X7_entry se_X7_entry ini_X7 nd_X7_entry ⟨Nat.le_of_ble_eq_true rfl, Nat.le_of_ble_eq_true rfl⟩ ⟨rfl, rfl⟩ ⟨Nat.le_refl _, Nat.le_refl _⟩ rfl (Nat.le_of_ble_eq_true rfl) dX7_envelope_85 ?_
              rintro w1 ⟨Ja, hw_, ha1, ha2⟩
              subst hw_
              have hEa : EZ (Ja 4) 6 0 := EZ_s (by omega) (by omega) (fun q => by omega) (fun q => by omega) hE ha2
              have q9 := eP_z (a := 2) hk.1 ez7 hz7 kz7 (by omega)
              have q10 := eP_z (a := 0) hk.1 ez8 hz8 kz8 (by omega)
              have q11 := eP_z (a := 1) hk.1 ez9 hz9 kz9 (by omega)
              rw [q9, q10, q11] at ha2
              refine Z.aload_n hX dX7_envelope_88 rfl rfl ?_
              refine Z.iload_n hX dX7_envelope_89 rfl rfl ?_
              refine Z.iload_n hX dX7_envelope_90 rfl rfl ?_
              refine Z.iadd hX dX7_envelope_91 ?_
              refine Z.iload_n hX dX7_envelope_92 rfl rfl ?_
              refine Z.iload_n hX dX7_envelope_93 rfl rfl ?_
              refine Z.iadd hX dX7_envelope_94 ?_
              refine Z.iload_n hX dX7_envelope_95 rfl rfl ?_
              refine Z.isub hX dX7_envelope_96 ?_
              refine Z.lload hX dX7_envelope_97 rfl ?_
              refine Z.aload_n hX dX7_envelope_99 rfl rfl ?_
              refine Z.getf hX 7 0 0 dX7_envelope_100 rfl rfl inX7 (by decide) fl_X7_7 rfl rfl ?_
              refine Z.bipush hX dX7_envelope_103 (by decide) ?_
              refine Z.iload_n hX dX7_envelope_105 rfl rfl ?_
              refine Z.iadd hX dX7_envelope_106 ?_
              refine Z.iaload hX 1 0 dX7_envelope_107 rfl rfl (by omega) (by omega) (by decide) ?_
              refine Z.topi (fun z11 hz11 kz11 ez11 => ?_)
              refine Z.i2l hX dX7_envelope_108 ⟨by omega, by omega⟩ ?_
              refine Z.lmul hX dX7_envelope_109 ?_
              refine Z.lload hX dX7_envelope_110 rfl ?_
              refine Z.aload_n hX dX7_envelope_112 rfl rfl ?_
              refine Z.getf hX 7 0 0 dX7_envelope_113 rfl rfl inX7 (by decide) fl_X7_7 rfl rfl ?_
              refine Z.iload_n hX dX7_envelope_116 rfl rfl ?_
              refine Z.iaload hX 1 0 dX7_envelope_117 rfl rfl (by omega) (by omega) (by decide) ?_
              refine Z.topi (fun z12 hz12 kz12 ez12 => ?_)
              refine Z.i2l hX dX7_envelope_118 ⟨by omega, by omega⟩ ?_
              refine Z.lmul hX dX7_envelope_119 ?_
              refine Z.lload hX dX7_envelope_120 rfl ?_
              refine Z.aload_n hX dX7_envelope_122 rfl rfl ?_
              refine Z.getf hX 7 0 0 dX7_envelope_123 rfl rfl inX7 (by decide) fl_X7_7 rfl rfl ?_
              refine Z.iconst hX dX7_envelope_126 ?_
              refine Z.iload_n hX dX7_envelope_127 rfl rfl ?_
              refine Z.iadd hX dX7_envelope_128 ?_
              refine Z.iaload hX 1 0 dX7_envelope_129 rfl rfl (by omega) (by omega) (by decide) ?_
              refine Z.topi (fun z13 hz13 kz13 ez13 => ?_)
              refine Z.i2l hX dX7_envelope_130 ⟨by omega, by omega⟩ ?_
              refine Z.lmul hX dX7_envelope_131 ?_
              refine Z.callVfv (As := [.int (zI ((F 0 - 1) + r)), .int (zI ((r + (F 0 - 1)) - k)), .long ((zL ((F 0) - k)) * (zL z11)), .long ((zL ((F 0) - k)) * (zL z12)), .long ((zL ((F 0) - k)) * (zL z13))]) (rest := []) hX 7 0 rfl rfl (ct_X7_entry l D ce h F I Ja ((F 0 - 1) + r) ((r + (F 0 - 1)) - k) ((zL ((F 0) - k)) * (zL z11)) ((zL ((F 0) - k)) * (zL z12)) ((zL ((F 0) - k)) * (zL z13)) (by omega) (by omega)) mc_X7_entry ml_X7_93 im_X7_entry se_X7_entry ini_X7 nd_X7_entry ⟨Nat.le_of_ble_eq_true rfl, Nat.le_of_ble_eq_true rfl⟩ ⟨rfl, rfl⟩ ⟨Nat.le_refl _, Nat.le_refl _⟩ rfl (Nat.le_of_ble_eq_true rfl) dX7_envelope_132 ?_
              rintro w1 ⟨Jb, hw_, hb1, hb2⟩
              subst hw_
              have hEb : EZ (Jb 4) 6 0 := EZ_s (by omega) (by omega) (fun q => by omega) (fun q => by omega) hEa hb2
              have q13 := eR_z (N := F 0) (a := 2) hk.1 ez11 hz11 kz11 (by omega)
              have q14 := eR_z (N := F 0) (a := 0) hk.1 ez12 hz12 kz12 (by omega)
              have q15 := eR_z (N := F 0) (a := 1) hk.1 ez13 hz13 kz13 (by omega)
              rw [q13, q14, q15] at hb2
              have hLb := LG_s (E := M 4) (Ea := Ja 4) (Eb := Jb 4) (by omega) (by omega) (by omega) ha2 hb2 hL
              refine Z.iinc (lv' := [(3, .int (zI (k + 1))), (6, .long (zL ((F 0) - k))), (4, .long (zL (k + 1))), (2, .int (zI r)), (1, .int (zI (F 0 - 1))), (0, .ref (h 0))]) hX dX7_envelope_135 rfl (by decide) rfl ?_
              refine Z.goto hX 20 dX7_envelope_138 (by decide) ?_
              refine Z.pick [0, 3, 4, 5] rfl ?_
              exact ih_20 _ _ (by omega) (by omega) hEb (fun j_ h_4 => ((hb1 j_ h_4).trans ((ha1 j_ h_4).trans (hM j_ h_4)))) hLb
        refine Z.pick [0, 1, 2, 3] rfl ?_
        exact key_20 _ _ _ (Nat.lt_succ_self _) (by omega) hE (fun j_ h_4 => (hM j_ h_4)) hL
  refine Z.pick [0, 1, 2] rfl ?_
  exact key_13 _ _ _ (Nat.lt_succ_self _) (by omega) (EZ_0 hem2 _ _) (fun j_ h_4 => ((hem1 j_ h_4).trans rfl)) (LG_0 hem2)

set_option maxHeartbeats 4000000 in
set_option maxRecDepth 100000 in
theorem ct_X7_work_w (l : Launch) (D : va_G) (ce : Nat → ClassId) (h : Nat → Nat) (F : Nat → Int) (I : Nat → Nat → Int32) (J : Nat → Nat → Int64) (hok : rOK F I) (hbr : bR (I 0)) (hri : RI F (I 0) (J 0)) (hti : TI F I J) (hte : TIe F I J) (htw : TIw F I J) : Ct l yX7_work cX7_work 7 none { frames := 5, cells := 0, slots := 0, locals := 148 } 0 0 D (TY ce) [.ref (h 0)] (rW ce h F I J) (QV D (TY ce) (fun w1 => ∃ F2 : Nat → Int, ∃ I2 : Nat → Nat → Int32, ∃ J2 : Nat → Nat → Int64, w1 = rW ce h F2 I2 J2 ∧ (rOK F2 I2) ∧ (F2 2 = 1 ∧ 0 ≤ F2 0 ∧ F2 0 ≤ 4 ∧ 0 ≤ F2 1 ∧ F2 1 ≤ 4) ∧ (F2 0 = moK (I 0) 5) ∧ (I2 0 = I 0) ∧ (DGok (I2 2)) ∧ (FQ (I 0) F2 (J2 0)) ∧ (HT F2 I2 J2) ∧ (HTe I2 J2) ∧ (HTw F2 I2 J2))) := by
  refine Ct.ofV (by decide) (Nat.le_of_ble_eq_true rfl) ?_
  intro p e s m args below meth c A Q hX hnm hR
  refine Z.pick (lv' := [(0, .ref (h 0))]) [0] rfl ?_
  have hmb := moK_b (I 0) 5
  obtain ⟨hF, hF2, hkn, hdg⟩ := id hok
  refine Z.aload_n hX dX7_work_0 rfl rfl ?_
  refine Z.getf hX 7 0 4 dX7_work_1 rfl rfl inX7 (by decide) fl_X7_54 rfl rfl ?_
  refine Z.if_eq hX 8 dX7_work_4 (by decide) ⟨by omega, by omega⟩ ?_ ?_
  · intro c1
    refine Z.aload_n hX dX7_work_8 rfl rfl ?_
    refine Z.iconst hX dX7_work_9 ?_
    refine Z.putf (ty := .boolean) hX 7 0 4 tyX7 dX7_work_10 rfl rfl inX7 tyX7_ok nmX7 (by decide) fl_X7_54 rfl rfl (by decide +kernel) rfl rfl (Nat.le_of_ble_eq_true rfl) ?_
    obtain ⟨F2, eF2⟩ : ∃ F' : Nat → Int, F' = va_up F 2 (1) := ⟨_, rfl⟩
    refine Z.toW (w' := rW ce h F2 I J) (by rw [eF2]; rfl) ?_
    have eF2_0 : F2 0 = F 0 := by rw [eF2]; rfl
    have eF2_1 : F2 1 = F 1 := by rw [eF2]; rfl
    have eF2_2 : F2 2 = 1 := by rw [eF2]; rfl
    refine Z.aload_n hX dX7_work_13 rfl rfl ?_
    refine Z.iconst hX dX7_work_14 ?_
    refine Z.putf (ty := .int) hX 7 0 2 tyX7 dX7_work_15 rfl rfl inX7 tyX7_ok nmX7 (by decide) fl_X7_70 rfl rfl (by decide +kernel) rfl rfl (Nat.le_of_ble_eq_true rfl) ?_
    obtain ⟨F3, eF3⟩ : ∃ F' : Nat → Int, F' = va_up F2 0 (0) := ⟨_, rfl⟩
    refine Z.toW (w' := rW ce h F3 I J) (by rw [eF3]; rfl) ?_
    have eF3_0 : F3 0 = 0 := by rw [eF3]; rfl
    have eF3_1 : F3 1 = F2 1 := by rw [eF3]; rfl
    have eF3_2 : F3 2 = F2 2 := by rw [eF3]; rfl
    refine Z.iconst hX dX7_work_18 ?_
    refine Z.istore_n (lv' := [(1, .int (zI 0)), (0, .ref (h 0))]) hX dX7_work_19 rfl (by decide) rfl ?_
    have key_20 : ∀ (N : Nat), ∀ (k : Int) (G : Nat → Int) (M : Nat → Nat → Int64), (5 - k).toNat < N → (hk : 0 ≤ k ∧ k ≤ 5) → (hG : G 2 = 1 ∧ 0 ≤ G 1 ∧ G 1 ≤ 4) → (hG0 : G 0 = moK (I 0) k.toNat) → (hone : ∀ j : Int, 0 ≤ j → j < k → M 2 j.toNat = rP (I 0) 0 j.toNat) → (htwo : ∀ j : Int, 0 ≤ j → j < k → M 3 j.toNat = rP (I 0) 1 j.toNat) → Z p l e { frames := 5, cells := 0, slots := 0, locals := 148 } s m args below meth c D A 7 0 0 Q 20 [(1, .int (zI k)), (0, .ref (h 0))] [] (rW ce h G I M) := by
      intro N
      induction N with
      | zero => intro k G M hm; exact absurd hm (Nat.not_lt_zero _)
      | succ N ih_20 =>
        intro k G M hm hk hG hG0 hone htwo
        refine Z.iload_n hX dX7_work_20 rfl rfl ?_
        refine Z.iconst hX dX7_work_21 ?_
        refine Z.icmp_ge hX 103 dX7_work_22 (by decide) ⟨by omega, by omega⟩ ⟨by omega, by omega⟩ ?_ ?_
        · intro c4
          have hG5 : G 0 = moK (I 0) 5 := by rw [hG0, show k = 5 by omega]; rfl
          have t2 : ti (M 2) = ti (rP (I 0) 0) := ti_ext (fun j a b => hone j a (by omega))
          have t3 : ti (M 3) = ti (rP (I 0) 1) := ti_ext (fun j a b => htwo j a (by omega))
          refine Z.aload_n hX dX7_work_103 rfl rfl ?_
          refine Z.callVfv (As := []) (rest := []) hX 7 0 rfl rfl (ct_X7_divisor_x l D ce h G I M (rP (I 0) 0) (fun _ => 0) (rp_bx hbr (by decide)) zz_bx (by rw [t2]; exact zz_eq _) (bx_bd (by rw [t2]; exact rp_bx hbr (by decide))) (by rw [t3]; exact rp_bx hbr (by decide)) (bx_bd (by rw [t3]; exact rp_bx hbr (by decide)))) mc_X7_divisor ml_X7_74 im_X7_divisor se_X7_divisor ini_X7 nd_X7_divisor ⟨Nat.le_of_ble_eq_true rfl, Nat.le_of_ble_eq_true rfl⟩ ⟨rfl, rfl⟩ ⟨Nat.le_refl _, Nat.le_refl _⟩ rfl (Nat.le_of_ble_eq_true rfl) dX7_work_104 ?_
          rintro w1 ⟨Jc, hw_, v1, v2, v3, v4⟩
          subst hw_
          refine Z.iconst hX dX7_work_107 ?_
          refine Z.istore_n (lv' := [(1, .int (zI 0)), (0, .ref (h 0))]) hX dX7_work_108 rfl (by decide) rfl ?_
          have key_109 : ∀ (N : Nat), ∀ (k : Int) (Mb : Nat → Nat → Int64), (5 - k).toNat < N → (hk2 : 0 ≤ k ∧ k ≤ 5) → (hb2 : Mb 2 = Jc 2) → (hb3 : ∀ j : Int, 0 ≤ j → j < k → Mb 3 j.toNat = rP (I 0) 2 j.toNat) → Z p l e { frames := 5, cells := 0, slots := 0, locals := 148 } s m args below meth c D A 7 0 0 Q 109 [(1, .int (zI k)), (0, .ref (h 0))] [] (rW ce h G I Mb) := by
            intro N
            induction N with
            | zero => intro k Mb hm; exact absurd hm (Nat.not_lt_zero _)
            | succ N ih_109 =>
              intro k Mb hm hk2 hb2 hb3
              refine Z.iload_n hX dX7_work_109 rfl rfl ?_
              refine Z.iconst hX dX7_work_110 ?_
              refine Z.icmp_ge hX 136 dX7_work_111 (by decide) ⟨by omega, by omega⟩ ⟨by omega, by omega⟩ ?_ ?_
              · intro c6
                have t4 : ti (Mb 3) = ti (rP (I 0) 2) := ti_ext (fun j a b => hb3 j a (by omega))
                refine Z.aload_n hX dX7_work_136 rfl rfl ?_
                refine Z.callVfv (As := []) (rest := []) hX 7 0 rfl rfl (ct_X7_divisor_x l D ce h G I Mb (rP (I 0) 0) (rP (I 0) 1) (rp_bx hbr (by decide)) (rp_bx hbr (by decide)) (by rw [hb2, ← t2, ← t3]; exact v2) (by rw [hb2]; exact v4) (by rw [t4]; exact rp_bx hbr (by decide)) (bx_bd (by rw [t4]; exact rp_bx hbr (by decide)))) mc_X7_divisor ml_X7_74 im_X7_divisor se_X7_divisor ini_X7 nd_X7_divisor ⟨Nat.le_of_ble_eq_true rfl, Nat.le_of_ble_eq_true rfl⟩ ⟨rfl, rfl⟩ ⟨Nat.le_refl _, Nat.le_refl _⟩ rfl (Nat.le_of_ble_eq_true rfl) dX7_work_137 ?_
                rintro w1 ⟨Jd, hw_, u1, u2, u3, u4⟩
                subst hw_
                have hgg : GG (rP (I 0) 0) (rP (I 0) 1) (rP (I 0) 2) (Jd 2) := ⟨ti (Jc 2), by rw [← t2, ← t3]; exact v2, by rw [← hb2, ← t4]; exact u2, u3⟩
                refine Z.aload_n hX dX7_work_140 rfl rfl ?_
                refine Z.getf hX 7 0 9 dX7_work_141 rfl rfl inX7 (by decide) fl_X7_30 rfl rfl ?_
                refine Z.callS1i (As := [.ref (h 7)]) (rest := []) hX 7 rfl (ct_X7_degreeOf l D ce ((h 7)) (Jd 2) ) mc_X7_degreeOf ml_X7_62 st_X7_degreeOf ini_X7 nd_X7_degreeOf ⟨Nat.le_of_ble_eq_true rfl, Nat.le_of_ble_eq_true rfl⟩ ⟨rfl, rfl⟩ ⟨Nat.le_refl _, Nat.le_refl _⟩ rfl (Nat.le_of_ble_eq_true rfl) dX7_work_144 ?_
                rintro r_8 w1 ⟨d, hr_, hw_, d1, d2, d3⟩
                subst hr_
                refine ⟨_, hw_, ?_⟩
                refine Z.toW (w' := rW ce h G I Jd) rfl ?_
                refine Z.istore_n (lv' := [(1, .int (zI d)), (0, .ref (h 0))]) hX dX7_work_147 rfl (by decide) rfl ?_
                refine Z.iconst hX dX7_work_148 ?_
                refine Z.istore_n (lv' := [(2, .int (zI 0)), (1, .int (zI d)), (0, .ref (h 0))]) hX dX7_work_149 rfl (by decide) rfl ?_
                have key_150 : ∀ (N : Nat), ∀ (wv : Int) (M : Nat → Nat → Int64), (3 - wv).toNat < N → (hw : 0 ≤ wv ∧ wv ≤ 3) → (ho : M 2 = Jd 2) → (hdf : DFq (I 0) (Jd 2) d (M 0) wv) → Z p l e { frames := 5, cells := 0, slots := 0, locals := 148 } s m args below meth c D A 7 0 0 Q 150 [(2, .int (zI wv)), (1, .int (zI d)), (0, .ref (h 0))] [] (rW ce h G I M) := by
                  intro N
                  induction N with
                  | zero => intro wv M hm; exact absurd hm (Nat.not_lt_zero _)
                  | succ N ih_150 =>
                    intro wv M hm hw ho hdf
                    refine Z.iload_n hX dX7_work_150 rfl rfl ?_
                    refine Z.iconst hX dX7_work_151 ?_
                    refine Z.icmp_ge hX 304 dX7_work_152 (by decide) ⟨by omega, by omega⟩ ⟨by omega, by omega⟩ ?_ ?_
                    · intro c9
                      have hFR : FRs (rP (I 0)) (fP (M 0)) := fr_of hgg ⟨d1, d2, d3⟩ (show wv = 3 by omega) hdf
                      refine Z.aload_n hX dX7_work_304 rfl rfl ?_
                      refine Z.iconst hX dX7_work_305 ?_
                      refine Z.putf (ty := .int) hX 7 0 3 tyX7 dX7_work_306 rfl rfl inX7 tyX7_ok nmX7 (by decide) fl_X7_77 rfl rfl (by decide +kernel) rfl rfl (Nat.le_of_ble_eq_true rfl) ?_
                      obtain ⟨F10, eF10⟩ : ∃ F' : Nat → Int, F' = va_up G 1 (0) := ⟨_, rfl⟩
                      refine Z.toW (w' := rW ce h F10 I M) (by rw [eF10]; rfl) ?_
                      have eF10_0 : F10 0 = G 0 := by rw [eF10]; rfl
                      have eF10_1 : F10 1 = 0 := by rw [eF10]; rfl
                      have eF10_2 : F10 2 = G 2 := by rw [eF10]; rfl
                      refine Z.iconst hX dX7_work_309 ?_
                      refine Z.istore_n (lv' := [(2, .int (zI 0)), (1, .int (zI d)), (0, .ref (h 0))]) hX dX7_work_310 rfl (by decide) rfl ?_
                      refine Z.iconst hX dX7_work_311 ?_
                      refine Z.istore_n (lv' := [(3, .int (zI 0)), (2, .int (zI 0)), (1, .int (zI d)), (0, .ref (h 0))]) hX dX7_work_312 rfl (by decide) rfl ?_
                      have key_313 : ∀ (N : Nat), ∀ (k wt : Int) (G : Nat → Int), (5 - k).toNat < N → (hk5 : 0 ≤ k ∧ k ≤ 5) → (hwt : 0 ≤ wt ∧ wt ≤ 1) → (hG : G 2 = 1 ∧ 0 ≤ G 1 ∧ G 1 ≤ 4) → (hG0 : G 0 = moK (I 0) 5) → (hG1 : G 1 = foK (M 0) k.toNat) → (hwe : wt = 0 → ∀ q : Int, 0 ≤ q → q < k → M 0 (10 + q).toNat = 0) → (hwf : wt = 1 → WF (M 0)) → Z p l e { frames := 5, cells := 0, slots := 0, locals := 148 } s m args below meth c D A 7 0 0 Q 313 [(3, .int (zI k)), (2, .int (zI wt)), (0, .ref (h 0))] [] (rW ce h G I M) := by
                        intro N
                        induction N with
                        | zero => intro k wt G hm; exact absurd hm (Nat.not_lt_zero _)
                        | succ N ih_313 =>
                          intro k wt G hm hk5 hwt hG hG0 hG1 hwe hwf
                          refine Z.iload_n hX dX7_work_313 rfl rfl ?_
                          refine Z.iconst hX dX7_work_314 ?_
                          refine Z.icmp_ge hX 398 dX7_work_315 (by decide) ⟨by omega, by omega⟩ ⟨by omega, by omega⟩ ?_ ?_
                          · intro c11
                            have hFQ : FQ (I 0) G (M 0) := ⟨hFR, by rw [hG1, show k = 5 by omega]; rfl⟩
                            refine Z.aload_n hX dX7_work_398 rfl rfl ?_
                            refine Z.getf hX 7 0 5 dX7_work_399 rfl rfl inX7 (by decide) fl_X7_17 rfl rfl ?_
                            refine Z.iconst hX dX7_work_402 ?_
                            refine Z.iconst hX dX7_work_403 ?_
                            refine Z.zastore hX 3 2 dX7_work_404 rfl rfl (by omega) (by omega) (by decide) ?_
                            obtain ⟨I12, eI12⟩ : ∃ J' : Nat → Nat → Int32, J' = va_up I 1 (upd (I 1) (0 : Int).toNat (vp_nar .boolean (zI (0)))) := ⟨_, rfl⟩
                            refine Z.toW (w' := rW ce h G I12 M) (by rw [eI12]; rfl) ?_
                            have gI12 : I12 1 = upd (I 1) (0 : Int).toNat (vp_nar .boolean (zI (0))) := by rw [eI12]; exact up_eq
                            have fI12 : ∀ j_, j_ ≠ 1 → I12 j_ = I j_ := fun j_ hj_ => by rw [eI12]; exact up_ne hj_
                            refine Z.aload_n hX dX7_work_405 rfl rfl ?_
                            refine Z.getf hX 7 0 5 dX7_work_406 rfl rfl inX7 (by decide) fl_X7_17 rfl rfl ?_
                            refine Z.iconst hX dX7_work_409 ?_
                            refine Z.iconst hX dX7_work_410 ?_
                            refine Z.zastore hX 3 2 dX7_work_411 rfl rfl (by omega) (by omega) (by decide) ?_
                            obtain ⟨I13, eI13⟩ : ∃ J' : Nat → Nat → Int32, J' = va_up I12 1 (upd (I12 1) (1 : Int).toNat (vp_nar .boolean (zI (0)))) := ⟨_, rfl⟩
                            refine Z.toW (w' := rW ce h G I13 M) (by rw [eI13]; rfl) ?_
                            have gI13 : I13 1 = upd (I12 1) (1 : Int).toNat (vp_nar .boolean (zI (0))) := by rw [eI13]; exact up_eq
                            have fI13 : ∀ j_, j_ ≠ 1 → I13 j_ = I12 j_ := fun j_ hj_ => by rw [eI13]; exact up_ne hj_
                            have hdgB : DGok (I13 2) := by rw [fI13 2 (by decide), fI12 2 (by decide)]; exact hdg
                            have hI0 : I13 1 0 = 0 := by rw [gI13]; show (if (0 : Nat) = 1 then _ else I12 1 0) = 0; rw [if_neg (by decide), gI12]; exact if_pos rfl
                            have hI1z : I13 1 1 = 0 := by rw [gI13]; exact if_pos rfl
                            have key_427 : ∀ (K : Nat → Nat → Int32) (Mc : Nat → Nat → Int64), (hK : ∀ k, k ≠ 1 → k ≠ 2 → k ≠ 3 → K k = I k) → (hdgC : DGok (K 2)) → (hm0 : Mc 0 = M 0) → (hht : HT G K Mc) → (hk11 : K 1 1 = 0) → (hlw : HS (fP (Mc 0)) (G 1) → RESm (fun x y => Fz (G 1).toNat (fI (Mc 0) 0) (fI (Mc 0) 1) (fI (Mc 0) 2) x y 1) (tof (Mc 1) 0) (K 2 0) (K 3 0)) → Z p l e { frames := 5, cells := 0, slots := 0, locals := 148 } s m args below meth c D A 7 0 0 Q 427 [(0, .ref (h 0))] [] (rW ce h G K Mc) := by
                              intro K Mc hK hdgC hm0 hht hk11 hlw
                              refine Z.aload_n hX dX7_work_427 rfl rfl ?_
                              refine Z.getf hX 7 0 2 dX7_work_428 rfl rfl inX7 (by decide) fl_X7_70 rfl rfl ?_
                              refine Z.iconst hX dX7_work_431 ?_
                              refine Z.icmp_le hX 439 dX7_work_432 (by decide) ⟨by omega, by omega⟩ ⟨by omega, by omega⟩ ?_ ?_
                              · intro c14
                                exact hR _ _ _ dX7_work_439 ⟨G, K, Mc, rfl, (rOK_i (by omega) (by omega) hG0 ((fun j_ h_1 h_2 h_3 => (hK j_ h_1 h_2 h_3)) 0 (by decide) (by decide) (by decide)) hdgC), (by omega), hG0, ((fun j_ h_1 h_2 h_3 => (hK j_ h_1 h_2 h_3)) 0 (by decide) (by decide) (by decide)), hdgC, (by rw [hm0]; exact hFQ), hht, (hte_no (hK 0 (by decide) (by decide) (by decide)) (by omega) hk11), ⟨hlw, fun he => by have t_ := he.1; rw [(hK 0 (by decide) (by decide) (by decide))] at t_; omega⟩⟩
                              · intro c14
                                refine Z.aload_n hX dX7_work_435 rfl rfl ?_
                                refine Z.callVfv (As := []) (rest := []) hX 7 0 rfl rfl (ct_X7_envelope_w l D ce h G K Mc (by omega) hdgC (by rw [hK 0 (by decide) (by decide) (by decide)]; exact hbr)) mc_X7_envelope ml_X7_83 im_X7_envelope se_X7_envelope ini_X7 nd_X7_envelope ⟨Nat.le_of_ble_eq_true rfl, Nat.le_of_ble_eq_true rfl⟩ ⟨rfl, rfl⟩ ⟨Nat.le_refl _, Nat.le_refl _⟩ rfl (Nat.le_of_ble_eq_true rfl) dX7_work_436 ?_
                                rintro w1 ⟨Ie, Je, hw_, he1, he2, he3, he4, he5, he6, he7, he8⟩
                                subst hw_
                                exact hR _ _ _ dX7_work_439 ⟨G, Ie, Je, rfl, (rOK_i (by omega) (by omega) hG0 ((fun j_ h_1 h_2 h_3 => ((he2 j_ h_1 h_2 h_3).trans (hK j_ h_1 h_2 h_3))) 0 (by decide) (by decide) (by decide)) he3), (by omega), hG0, ((fun j_ h_1 h_2 h_3 => ((he2 j_ h_1 h_2 h_3).trans (hK j_ h_1 h_2 h_3))) 0 (by decide) (by decide) (by decide)), he3, (by rw [he1 0 (by decide) (by decide) (by decide) (by decide) (by decide) (by decide) (by decide), hm0]; exact hFQ), (ht_env (he1 0 (by decide) (by decide) (by decide) (by decide) (by decide) (by decide) (by decide)) he4 he5 hht), (hte_y (K := K) (he2 0 (by decide) (by decide) (by decide)) (by rw [(hK 0 (by decide) (by decide) (by decide))]; exact hG0) (by omega) hk11 he6), (htw_y (K := K) (M := Mc) (he1 0 (by decide) (by decide) (by decide) (by decide) (by decide) (by decide) (by decide)) he4 he5 he7 (he2 0 (by decide) (by decide) (by decide)) (by rw [(hK 0 (by decide) (by decide) (by decide))]; exact hG0) hlw he8)⟩
                            refine Z.aload_n hX dX7_work_412 rfl rfl ?_
                            refine Z.getf hX 7 0 3 dX7_work_413 rfl rfl inX7 (by decide) fl_X7_77 rfl rfl ?_
                            refine Z.if_le hX 427 dX7_work_416 (by decide) ⟨by omega, by omega⟩ ?_ ?_
                            · intro c16
                              refine Z.pick [2] rfl ?_
                              exact key_427 _ _ (fun j_ h_1 h_2 h_3 => ((fI13 j_ h_1).trans ((fI12 j_ h_1).trans rfl))) hdgB rfl (ht_no (fun hs => by have := hs.1; omega) hI0) hI1z (fun hs => by have := hs.1; omega)
                            · intro c16
                              refine Z.iload_n hX dX7_work_419 rfl rfl ?_
                              refine Z.if_eq hX 427 dX7_work_420 (by decide) ⟨by omega, by omega⟩ ?_ ?_
                              · intro c17
                                refine Z.pick [2] rfl ?_
                                exact key_427 _ _ (fun j_ h_1 h_2 h_3 => ((fI13 j_ h_1).trans ((fI12 j_ h_1).trans rfl))) hdgB rfl (ht_no (fun hs => wt_z (fun q a b => hwe (by omega) q a (by omega)) hs.2.1) hI0) hI1z (fun hs => absurd hs.2.1 (wt_z (fun q a b => hwe (by omega) q a (by omega))))
                              · intro c17
                                have hWne : ∃ i, i < 5 ∧ fI (M 0) 2 i ≠ 0 := wt_f (hwf (by omega))
                                refine Z.aload_n hX dX7_work_423 rfl rfl ?_
                                refine Z.callVfv (As := []) (rest := []) hX 7 0 rfl rfl (ct_X7_locus_w l D ce h G I13 M (by omega) hdgB (row_ok hbr hFQ).2 (row_ok hbr hFQ).1 hWne) mc_X7_locus ml_X7_80 im_X7_locus se_X7_locus ini_X7 nd_X7_locus ⟨Nat.le_of_ble_eq_true rfl, Nat.le_of_ble_eq_true rfl⟩ ⟨rfl, rfl⟩ ⟨Nat.le_refl _, Nat.le_refl _⟩ rfl (Nat.le_of_ble_eq_true rfl) dX7_work_424 ?_
                                rintro w1 ⟨Il, Jl, hw_, hl1, hl2, hl3, hl4, hl5, hl6⟩
                                subst hw_
                                refine Z.pick [2] rfl ?_
                                exact key_427 _ _ (fun j_ h_1 h_2 h_3 => ((hl2 j_ h_1 h_2 h_3).trans ((fI13 j_ h_1).trans ((fI12 j_ h_1).trans rfl)))) hl3 (hl1 0 (by decide) (by decide) (by decide) (by decide) (by decide) (by decide) (by decide)) (ht_loc (hl1 0 (by decide) (by decide) (by decide) (by decide) (by decide) (by decide) (by decide)) (by omega) hWne hI0 hl4) (hl5.trans hI1z) (fun hs => by have e0 := hl1 0 (by decide) (by decide) (by decide) (by decide) (by decide) (by decide) (by decide); rw [e0] at hs ⊢; exact hl6 hs.2.2)
                          · intro c11
                            have key_365 : ∀ (v : Int), (hv : 0 ≤ v ∧ v ≤ 4) → (hv1 : v = foK (M 0) (k + 1).toNat) → Z p l e { frames := 5, cells := 0, slots := 0, locals := 148 } s m args below meth c D A 7 0 0 Q 365 [(3, .int (zI k)), (2, .int (zI wt)), (0, .ref (h 0))] [.int (zI v), .ref (h 0)] (rW ce h G I M) := by
                              intro v hv hv1
                              refine Z.putf (ty := .int) hX 7 0 3 tyX7 dX7_work_365 rfl rfl inX7 tyX7_ok nmX7 (by decide) fl_X7_77 rfl rfl (by decide +kernel) rfl rfl (Nat.le_of_ble_eq_true rfl) ?_
                              obtain ⟨F19, eF19⟩ : ∃ F' : Nat → Int, F' = va_up G 1 (v) := ⟨_, rfl⟩
                              refine Z.toW (w' := rW ce h F19 I M) (by rw [eF19]; rfl) ?_
                              have eF19_0 : F19 0 = G 0 := by rw [eF19]; rfl
                              have eF19_1 : F19 1 = v := by rw [eF19]; rfl
                              have eF19_2 : F19 2 = G 2 := by rw [eF19]; rfl
                              have key_391 : ∀ (b : Int), (hb : 0 ≤ b ∧ b ≤ 1) → (hbe : b = 0 → ∀ q : Int, 0 ≤ q → q < k + 1 → M 0 (10 + q).toNat = 0) → (hbf : b = 1 → WF (M 0)) → Z p l e { frames := 5, cells := 0, slots := 0, locals := 148 } s m args below meth c D A 7 0 0 Q 391 [(3, .int (zI k)), (0, .ref (h 0))] [.int (zI b)] (rW ce h F19 I M) := by
                                intro b hb hbe hbf
                                refine Z.istore_n (lv' := [(2, .int (zI b)), (3, .int (zI k)), (0, .ref (h 0))]) hX dX7_work_391 rfl (by decide) rfl ?_
                                refine Z.iinc (lv' := [(3, .int (zI (k + 1))), (2, .int (zI b)), (0, .ref (h 0))]) hX dX7_work_392 rfl (by decide) rfl ?_
                                refine Z.goto hX 313 dX7_work_395 (by decide) ?_
                                refine Z.pick [0, 1, 2] rfl ?_
                                exact ih_313 _ _ _ (by omega) (by omega) (by omega) (by omega) (by rw [eF19_0]; exact hG0) (by rw [eF19_1]; exact hv1) hbe hbf
                              refine Z.iload_n hX dX7_work_368 rfl rfl ?_
                              refine Z.if_ne hX 386 dX7_work_369 (by decide) ⟨by omega, by omega⟩ ?_ ?_
                              · intro c20
                                refine Z.iconst hX dX7_work_386 ?_
                                refine Z.goto hX 391 dX7_work_387 (by decide) ?_
                                refine Z.pick [0, 2] rfl ?_
                                exact key_391 _ (by omega) (fun q => by first | omega | exact wz_s (by omega) (by assumption) (hwe (by omega))) (fun q => by first | omega | exact hwf (by omega) | exact ⟨k, by omega, by omega, by assumption⟩)
                              · intro c20
                                refine Z.aload_n hX dX7_work_372 rfl rfl ?_
                                refine Z.getf hX 7 0 1 dX7_work_373 rfl rfl inX7 (by decide) fl_X7_13 rfl rfl ?_
                                refine Z.bipush hX dX7_work_376 (by decide) ?_
                                refine Z.iload_n hX dX7_work_378 rfl rfl ?_
                                refine Z.iadd hX dX7_work_379 ?_
                                refine Z.laload hX 2 1 dX7_work_380 rfl rfl (by omega) (by omega) (by decide) ?_
                                refine Z.lconst (v := 0) hX dX7_work_381 rfl ?_
                                refine Z.lcmp_eq hX 390 dX7_work_382 dX7_work_383 (by decide) ?_ ?_
                                · intro c21
                                  refine Z.iconst hX dX7_work_390 ?_
                                  refine Z.pick [0, 2] rfl ?_
                                  exact key_391 _ (by omega) (fun q => by first | omega | exact wz_s (by omega) (by assumption) (hwe (by omega))) (fun q => by first | omega | exact hwf (by omega) | exact ⟨k, by omega, by omega, by assumption⟩)
                                · intro c21
                                  refine Z.iconst hX dX7_work_386 ?_
                                  refine Z.goto hX 391 dX7_work_387 (by decide) ?_
                                  refine Z.pick [0, 2] rfl ?_
                                  exact key_391 _ (by omega) (fun q => by first | omega | exact wz_s (by omega) (by assumption) (hwe (by omega))) (fun q => by first | omega | exact hwf (by omega) | exact ⟨k, by omega, by omega, by assumption⟩)
                            refine Z.aload_n hX dX7_work_318 rfl rfl ?_
                            refine Z.aload_n hX dX7_work_319 rfl rfl ?_
                            refine Z.getf hX 7 0 1 dX7_work_320 rfl rfl inX7 (by decide) fl_X7_13 rfl rfl ?_
                            refine Z.iload_n hX dX7_work_323 rfl rfl ?_
                            refine Z.laload hX 2 1 dX7_work_324 rfl rfl (by omega) (by omega) (by decide) ?_
                            refine Z.lconst (v := 0) hX dX7_work_325 rfl ?_
                            refine Z.lcmp_ne hX 357 dX7_work_326 dX7_work_327 (by decide) ?_ ?_
                            · intro c22
                              refine Z.iload_n hX dX7_work_357 rfl rfl ?_
                              refine Z.goto hX 365 dX7_work_358 (by decide) ?_
                              refine Z.pick [0, 1, 2] rfl ?_
                              exact key_365 _ (by omega) (by first | exact fo_1 hk5.1 (by assumption) | exact fo_2 hk5.1 (by assumption) | exact fo_3 hk5.1 (by assumption))
                            · intro c22
                              refine Z.aload_n hX dX7_work_330 rfl rfl ?_
                              refine Z.getf hX 7 0 1 dX7_work_331 rfl rfl inX7 (by decide) fl_X7_13 rfl rfl ?_
                              refine Z.iconst hX dX7_work_334 ?_
                              refine Z.iload_n hX dX7_work_335 rfl rfl ?_
                              refine Z.iadd hX dX7_work_336 ?_
                              refine Z.laload hX 2 1 dX7_work_337 rfl rfl (by omega) (by omega) (by decide) ?_
                              refine Z.lconst (v := 0) hX dX7_work_338 rfl ?_
                              refine Z.lcmp_ne hX 357 dX7_work_339 dX7_work_340 (by decide) ?_ ?_
                              · intro c23
                                refine Z.iload_n hX dX7_work_357 rfl rfl ?_
                                refine Z.goto hX 365 dX7_work_358 (by decide) ?_
                                refine Z.pick [0, 1, 2] rfl ?_
                                exact key_365 _ (by omega) (by first | exact fo_1 hk5.1 (by assumption) | exact fo_2 hk5.1 (by assumption) | exact fo_3 hk5.1 (by assumption))
                              · intro c23
                                refine Z.aload_n hX dX7_work_343 rfl rfl ?_
                                refine Z.getf hX 7 0 1 dX7_work_344 rfl rfl inX7 (by decide) fl_X7_13 rfl rfl ?_
                                refine Z.bipush hX dX7_work_347 (by decide) ?_
                                refine Z.iload_n hX dX7_work_349 rfl rfl ?_
                                refine Z.iadd hX dX7_work_350 ?_
                                refine Z.laload hX 2 1 dX7_work_351 rfl rfl (by omega) (by omega) (by decide) ?_
                                refine Z.lconst (v := 0) hX dX7_work_352 rfl ?_
                                refine Z.lcmp_eq hX 361 dX7_work_353 dX7_work_354 (by decide) ?_ ?_
                                · intro c24
                                  refine Z.aload_n hX dX7_work_361 rfl rfl ?_
                                  refine Z.getf hX 7 0 3 dX7_work_362 rfl rfl inX7 (by decide) fl_X7_77 rfl rfl ?_
                                  refine Z.pick [0, 1, 2] rfl ?_
                                  exact key_365 _ (by omega) (fo_0 hk5.1 (by assumption) (by assumption) (by assumption) hG1)
                                · intro c24
                                  refine Z.iload_n hX dX7_work_357 rfl rfl ?_
                                  refine Z.goto hX 365 dX7_work_358 (by decide) ?_
                                  refine Z.pick [0, 1, 2] rfl ?_
                                  exact key_365 _ (by omega) (by first | exact fo_1 hk5.1 (by assumption) | exact fo_2 hk5.1 (by assumption) | exact fo_3 hk5.1 (by assumption))
                      refine Z.pick [0, 1, 3] rfl ?_
                      exact key_313 _ _ _ _ (Nat.lt_succ_self _) (by omega) (by omega) (by omega) (by rw [eF10_0]; exact hG5) (by rw [eF10_1]; rfl) (fun _ q a b => by omega) (fun q => by omega)
                    · intro c9
                      refine Z.iconst hX dX7_work_155 ?_
                      refine Z.istore_n (lv' := [(3, .int (zI 0)), (2, .int (zI wv)), (1, .int (zI d)), (0, .ref (h 0))]) hX dX7_work_156 rfl (by decide) rfl ?_
                      have key_157 : ∀ (N : Nat), ∀ (k : Int) (M : Nat → Nat → Int64), (5 - k).toNat < N → (hk3 : 0 ≤ k ∧ k ≤ 5) → (ho : M 2 = Jd 2) → (h3 : ∀ j : Int, 0 ≤ j → j < k → M 3 j.toNat = rP (I 0) wv.toNat j.toNat) → (hf0 : ∀ j : Int, 0 ≤ j → j < k → fP (M 0) wv.toNat j.toNat = tzq (I 0) d wv.toNat j.toNat) → (hdf : DFq (I 0) (Jd 2) d (M 0) wv) → Z p l e { frames := 5, cells := 0, slots := 0, locals := 148 } s m args below meth c D A 7 0 0 Q 157 [(3, .int (zI k)), (2, .int (zI wv)), (1, .int (zI d)), (0, .ref (h 0))] [] (rW ce h G I M) := by
                        intro N
                        induction N with
                        | zero => intro k M hm; exact absurd hm (Nat.not_lt_zero _)
                        | succ N ih_157 =>
                          intro k M hm hk3 ho h3 hf0 hdf
                          refine Z.iload_n hX dX7_work_157 rfl rfl ?_
                          refine Z.iconst hX dX7_work_158 ?_
                          refine Z.icmp_ge hX 214 dX7_work_159 (by decide) ⟨by omega, by omega⟩ ⟨by omega, by omega⟩ ?_ ?_
                          · intro c25
                            refine Z.iconst hX dX7_work_214 ?_
                            refine Z.iload_n hX dX7_work_215 rfl rfl ?_
                            refine Z.isub hX dX7_work_216 ?_
                            refine Z.istore_n (lv' := [(3, .int (zI (4 - d))), (2, .int (zI wv)), (1, .int (zI d)), (0, .ref (h 0))]) hX dX7_work_217 rfl (by decide) rfl ?_
                            have key_218 : ∀ (N : Nat), ∀ (ev : Int) (M : Nat → Nat → Int64), (ev + 1).toNat < N → (he : -1 ≤ ev ∧ ev ≤ 4 - d) → (ho : M 2 = Jd 2) → (hsp : ∀ j : Int, 0 ≤ j → j < 5 → M 3 j.toNat = spq (rP (I 0) wv.toNat) (Jd 2) d (4 - d - ev).toNat j.toNat) → (hrq : ∀ j : Int, 0 ≤ j → j < 5 → fP (M 0) wv.toNat j.toNat = rzq (I 0) (Jd 2) d wv.toNat (ev) j) → (hdf : DFq (I 0) (Jd 2) d (M 0) wv) → Z p l e { frames := 5, cells := 0, slots := 0, locals := 148 } s m args below meth c D A 7 0 0 Q 218 [(3, .int (zI ev)), (2, .int (zI wv)), (1, .int (zI d)), (0, .ref (h 0))] [] (rW ce h G I M) := by
                              intro N
                              induction N with
                              | zero => intro ev M hm; exact absurd hm (Nat.not_lt_zero _)
                              | succ N ih_218 =>
                                intro ev M hm he ho hsp hrq hdf
                                refine Z.iload_n hX dX7_work_218 rfl rfl ?_
                                refine Z.if_lt hX 298 dX7_work_219 (by decide) ⟨by omega, by omega⟩ ?_ ?_
                                · intro c26
                                  refine Z.iinc (lv' := [(2, .int (zI (wv + 1))), (3, .int (zI ev)), (1, .int (zI d)), (0, .ref (h 0))]) hX dX7_work_298 rfl (by decide) rfl ?_
                                  refine Z.goto hX 150 dX7_work_301 (by decide) ?_
                                  refine Z.pick [0, 2, 3] rfl ?_
                                  exact ih_150 _ _ (by omega) (by omega) ho (DFq_e hdf hrq (by omega))
                                · intro c26
                                  refine Z.iload_n hX dX7_work_222 rfl rfl ?_
                                  refine Z.if_le hX 298 dX7_work_223 (by decide) ⟨by omega, by omega⟩ ?_ ?_
                                  · intro c27
                                    refine Z.iinc (lv' := [(2, .int (zI (wv + 1))), (3, .int (zI ev)), (1, .int (zI d)), (0, .ref (h 0))]) hX dX7_work_298 rfl (by decide) rfl ?_
                                    refine Z.goto hX 150 dX7_work_301 (by decide) ?_
                                    refine Z.pick [0, 2, 3] rfl ?_
                                    exact ih_150 _ _ (by omega) (by omega) ho (DFq_e hdf hrq (by omega))
                                  · intro c27
                                    refine Z.aload_n hX dX7_work_226 rfl rfl ?_
                                    refine Z.getf hX 7 0 10 dX7_work_227 rfl rfl inX7 (by decide) fl_X7_33 rfl rfl ?_
                                    refine Z.iload_n hX dX7_work_230 rfl rfl ?_
                                    refine Z.iload_n hX dX7_work_231 rfl rfl ?_
                                    refine Z.iadd hX dX7_work_232 ?_
                                    refine Z.laload hX 8 1 dX7_work_233 rfl rfl (by omega) (by omega) (by decide) ?_
                                    refine Z.aload_n hX dX7_work_234 rfl rfl ?_
                                    refine Z.getf hX 7 0 9 dX7_work_235 rfl rfl inX7 (by decide) fl_X7_30 rfl rfl ?_
                                    refine Z.iload_n hX dX7_work_238 rfl rfl ?_
                                    refine Z.laload hX 7 1 dX7_work_239 rfl rfl (by omega) (by omega) (by decide) ?_
                                    refine Z.ldiv hX dX7_work_240 (by rw [ho]; exact d3 (by omega)) ?_
                                    refine Z.lstore (lv' := [(4, .long ((M 3 (ev + d : Int).toNat) / (M 2 (d : Int).toNat))), (3, .int (zI ev)), (2, .int (zI wv)), (1, .int (zI d)), (0, .ref (h 0))]) hX dX7_work_241 (by decide) rfl ?_
                                    obtain ⟨qq, eqq⟩ : ∃ x : Int64, x = (M 3 (ev + d : Int).toNat) / (M 2 (d : Int).toNat) := ⟨_, rfl⟩
                                    rw [← eqq]
                                    refine Z.aload_n hX dX7_work_243 rfl rfl ?_
                                    refine Z.getf hX 7 0 1 dX7_work_244 rfl rfl inX7 (by decide) fl_X7_13 rfl rfl ?_
                                    refine Z.iconst hX dX7_work_247 ?_
                                    refine Z.iload_n hX dX7_work_248 rfl rfl ?_
                                    refine Z.imul hX dX7_work_249 ?_
                                    refine Z.iload_n hX dX7_work_250 rfl rfl ?_
                                    refine Z.iadd hX dX7_work_251 ?_
                                    refine Z.lload hX dX7_work_252 rfl ?_
                                    refine Z.lastore hX 2 1 dX7_work_254 rfl rfl (by omega) (by omega) (by decide) ?_
                                    obtain ⟨J28, eJ28⟩ : ∃ J' : Nat → Nat → Int64, J' = va_up M 0 (vp_updL (M 0) ((5 * wv) + ev : Int).toNat (qq)) := ⟨_, rfl⟩
                                    refine Z.toW (w' := rW ce h G I J28) (by rw [eJ28]; rfl) ?_
                                    have gJ28 : J28 0 = vp_updL (M 0) ((5 * wv) + ev : Int).toNat (qq) := by rw [eJ28]; exact up_eq
                                    have fJ28 : ∀ j_, j_ ≠ 0 → J28 j_ = M j_ := fun j_ hj_ => by rw [eJ28]; exact up_ne hj_
                                    refine Z.iconst hX dX7_work_255 ?_
                                    refine Z.istore (lv' := [(6, .int (zI 0)), (4, .long qq), (3, .int (zI ev)), (2, .int (zI wv)), (1, .int (zI d)), (0, .ref (h 0))]) hX dX7_work_256 (by decide) rfl ?_
                                    have key_258 : ∀ (N : Nat), ∀ (k : Int) (Nn : Nat → Nat → Int64), (d + 1 - k).toNat < N → (hk4 : 0 ≤ k ∧ k ≤ d + 1) → (ho2 : Nn 2 = Jd 2) → (hof : ∀ j : Int, 0 ≤ j → j < 5 → Nn 3 j.toNat = if ev ≤ j ∧ j < ev + k then M 3 j.toNat - qq * Jd 2 (j - ev).toNat else M 3 j.toNat) → (hrn : ∀ j : Int, 0 ≤ j → j < 5 → fP (Nn 0) wv.toNat j.toNat = rzq (I 0) (Jd 2) d wv.toNat (ev - 1) j) → (hdn : DFq (I 0) (Jd 2) d (Nn 0) wv) → Z p l e { frames := 5, cells := 0, slots := 0, locals := 148 } s m args below meth c D A 7 0 0 Q 258 [(6, .int (zI k)), (4, .long qq), (3, .int (zI ev)), (2, .int (zI wv)), (1, .int (zI d)), (0, .ref (h 0))] [] (rW ce h G I Nn) := by
                                      intro N
                                      induction N with
                                      | zero => intro k Nn hm; exact absurd hm (Nat.not_lt_zero _)
                                      | succ N ih_258 =>
                                        intro k Nn hm hk4 ho2 hof hrn hdn
                                        refine Z.iload hX dX7_work_258 rfl ?_
                                        refine Z.iload_n hX dX7_work_260 rfl rfl ?_
                                        refine Z.icmp_gt hX 292 dX7_work_261 (by decide) ⟨by omega, by omega⟩ ⟨by omega, by omega⟩ ?_ ?_
                                        · intro c29
                                          refine Z.iinc (lv' := [(3, .int (zI (ev + -1))), (6, .int (zI k)), (4, .long qq), (2, .int (zI wv)), (1, .int (zI d)), (0, .ref (h 0))]) hX dX7_work_292 rfl (by decide) rfl ?_
                                          refine Z.goto hX 218 dX7_work_295 (by decide) ?_
                                          refine Z.pick [0, 3, 4, 5] rfl ?_
                                          exact ih_218 _ _ (by omega) (by omega) ho2 (off_e (x := qq) (by omega) (by omega) (by omega) hsp (by rw [eqq, ho]) (fun j a b => by rw [hof j a b, show k = d + 1 by omega])) hrn hdn
                                        · intro c29
                                          refine Z.aload_n hX dX7_work_264 rfl rfl ?_
                                          refine Z.getf hX 7 0 10 dX7_work_265 rfl rfl inX7 (by decide) fl_X7_33 rfl rfl ?_
                                          refine Z.iload_n hX dX7_work_268 rfl rfl ?_
                                          refine Z.iload hX dX7_work_269 rfl ?_
                                          refine Z.iadd hX dX7_work_271 ?_
                                          refine Z.dup2 hX dX7_work_272 rfl rfl ?_
                                          refine Z.laload hX 8 1 dX7_work_273 rfl rfl (by omega) (by omega) (by decide) ?_
                                          refine Z.lload hX dX7_work_274 rfl ?_
                                          refine Z.aload_n hX dX7_work_276 rfl rfl ?_
                                          refine Z.getf hX 7 0 9 dX7_work_277 rfl rfl inX7 (by decide) fl_X7_30 rfl rfl ?_
                                          refine Z.iload hX dX7_work_280 rfl ?_
                                          refine Z.laload hX 7 1 dX7_work_282 rfl rfl (by omega) (by omega) (by decide) ?_
                                          refine Z.lmul hX dX7_work_283 ?_
                                          refine Z.lsub hX dX7_work_284 ?_
                                          refine Z.lastore hX 8 1 dX7_work_285 rfl rfl (by omega) (by omega) (by decide) ?_
                                          obtain ⟨J30, eJ30⟩ : ∃ J' : Nat → Nat → Int64, J' = va_up Nn 3 (vp_updL (Nn 3) (ev + k : Int).toNat ((Nn 3 (ev + k : Int).toNat) - (qq * (Nn 2 (k : Int).toNat)))) := ⟨_, rfl⟩
                                          refine Z.toW (w' := rW ce h G I J30) (by rw [eJ30]; rfl) ?_
                                          have gJ30 : J30 3 = vp_updL (Nn 3) (ev + k : Int).toNat ((Nn 3 (ev + k : Int).toNat) - (qq * (Nn 2 (k : Int).toNat))) := by rw [eJ30]; exact up_eq
                                          have fJ30 : ∀ j_, j_ ≠ 3 → J30 j_ = Nn j_ := fun j_ hj_ => by rw [eJ30]; exact up_ne hj_
                                          refine Z.iinc (lv' := [(6, .int (zI (k + 1))), (4, .long qq), (3, .int (zI ev)), (2, .int (zI wv)), (1, .int (zI d)), (0, .ref (h 0))]) hX dX7_work_286 rfl (by decide) rfl ?_
                                          refine Z.goto hX 258 dX7_work_289 (by decide) ?_
                                          refine Z.pick [0, 1, 2, 3, 4, 5] rfl ?_
                                          exact ih_258 _ _ (by omega) (by omega) ((fJ30 2 (by decide)).trans ho2) (off_s (by omega) (by omega) (by omega) (by rw [gJ30, ho2]) hof) (by rw [fJ30 0 (by decide)]; exact hrn) (by rw [fJ30 0 (by decide)]; exact hdn)
                                    refine Z.pick [0, 1, 2, 3, 4, 5] rfl ?_
                                    exact key_258 _ _ _ (Nat.lt_succ_self _) (by omega) ((fJ28 2 (by decide)).trans ho) (fun j a b => by rw [fJ28 3 (by decide), if_neg (by omega)]) (rz_w (by omega) (by omega) (by omega) hsp (by rw [eqq, ho]) (fP_s (by omega) (by omega) gJ28) hrq) (DFq_o hdf (by omega) gJ28)
                            refine Z.pick [0, 1, 2, 3] rfl ?_
                            exact key_218 _ _ _ (Nat.lt_succ_self _) (by omega) ho (fun j a b => by rw [h3 j a (by omega), show (4 - d - (4 - d)).toNat = 0 by omega]; rfl) (rz_0 (fun j a b => hf0 j a (by omega))) hdf
                          · intro c25
                            refine Z.aload_n hX dX7_work_162 rfl rfl ?_
                            refine Z.getf hX 7 0 10 dX7_work_163 rfl rfl inX7 (by decide) fl_X7_33 rfl rfl ?_
                            refine Z.iload_n hX dX7_work_166 rfl rfl ?_
                            refine Z.aload_n hX dX7_work_167 rfl rfl ?_
                            refine Z.getf hX 7 0 0 dX7_work_168 rfl rfl inX7 (by decide) fl_X7_7 rfl rfl ?_
                            refine Z.iconst hX dX7_work_171 ?_
                            refine Z.iload_n hX dX7_work_172 rfl rfl ?_
                            refine Z.imul hX dX7_work_173 ?_
                            refine Z.iload_n hX dX7_work_174 rfl rfl ?_
                            refine Z.iadd hX dX7_work_175 ?_
                            refine Z.iaload hX 1 0 dX7_work_176 rfl rfl (by omega) (by omega) (by decide) ?_
                            refine Z.topi (fun z31 hz31 kz31 ez31 => ?_)
                            refine Z.i2l hX dX7_work_177 ⟨by omega, by omega⟩ ?_
                            refine Z.lastore hX 8 1 dX7_work_178 rfl rfl (by omega) (by omega) (by decide) ?_
                            obtain ⟨J32, eJ32⟩ : ∃ J' : Nat → Nat → Int64, J' = va_up M 3 (vp_updL (M 3) (k : Int).toNat (zL z31)) := ⟨_, rfl⟩
                            refine Z.toW (w' := rW ce h G I J32) (by rw [eJ32]; rfl) ?_
                            have gJ32 : J32 3 = vp_updL (M 3) (k : Int).toNat (zL z31) := by rw [eJ32]; exact up_eq
                            have fJ32 : ∀ j_, j_ ≠ 3 → J32 j_ = M j_ := fun j_ hj_ => by rw [eJ32]; exact up_ne hj_
                            refine Z.aload_n hX dX7_work_179 rfl rfl ?_
                            refine Z.getf hX 7 0 1 dX7_work_180 rfl rfl inX7 (by decide) fl_X7_13 rfl rfl ?_
                            refine Z.iconst hX dX7_work_183 ?_
                            refine Z.iload_n hX dX7_work_184 rfl rfl ?_
                            refine Z.imul hX dX7_work_185 ?_
                            refine Z.iload_n hX dX7_work_186 rfl rfl ?_
                            refine Z.iadd hX dX7_work_187 ?_
                            refine Z.iload_n hX dX7_work_188 rfl rfl ?_
                            refine Z.if_le hX 196 dX7_work_189 (by decide) ⟨by omega, by omega⟩ ?_ ?_
                            · intro c33
                              refine Z.aload_n hX dX7_work_196 rfl rfl ?_
                              refine Z.getf hX 7 0 0 dX7_work_197 rfl rfl inX7 (by decide) fl_X7_7 rfl rfl ?_
                              refine Z.iconst hX dX7_work_200 ?_
                              refine Z.iload_n hX dX7_work_201 rfl rfl ?_
                              refine Z.imul hX dX7_work_202 ?_
                              refine Z.iload_n hX dX7_work_203 rfl rfl ?_
                              refine Z.iadd hX dX7_work_204 ?_
                              refine Z.iaload hX 1 0 dX7_work_205 rfl rfl (by omega) (by omega) (by decide) ?_
                              refine Z.topi (fun z34 hz34 kz34 ez34 => ?_)
                              refine Z.i2l hX dX7_work_206 ⟨by omega, by omega⟩ ?_
                              refine Z.lastore hX 2 1 dX7_work_207 rfl rfl (by omega) (by omega) (by decide) ?_
                              obtain ⟨J35, eJ35⟩ : ∃ J' : Nat → Nat → Int64, J' = va_up J32 0 (vp_updL (J32 0) ((5 * wv) + k : Int).toNat (zL z34)) := ⟨_, rfl⟩
                              refine Z.toW (w' := rW ce h G I J35) (by rw [eJ35]; rfl) ?_
                              have gJ35 : J35 0 = vp_updL (J32 0) ((5 * wv) + k : Int).toNat (zL z34) := by rw [eJ35]; exact up_eq
                              have fJ35 : ∀ j_, j_ ≠ 0 → J35 j_ = J32 j_ := fun j_ hj_ => by rw [eJ35]; exact up_ne hj_
                              refine Z.iinc (lv' := [(3, .int (zI (k + 1))), (2, .int (zI wv)), (1, .int (zI d)), (0, .ref (h 0))]) hX dX7_work_208 rfl (by decide) rfl ?_
                              refine Z.goto hX 157 dX7_work_211 (by decide) ?_
                              refine Z.pick [0, 1, 2, 3] rfl ?_
                              exact ih_157 _ _ (by omega) (by omega) ((fJ35 2 (by decide)).trans ((fJ32 2 (by decide)).trans ho)) (fw_s hk3.1 ((fJ35 3 (by decide)).trans gJ32) (rp_z (by assumption) ⟨by assumption, by assumption⟩ (by omega)) h3) (fw_s hk3.1 (fP_s (by omega) hk3.1 (by rw [gJ35, fJ32 0 (by decide)])) (tz_1 (by omega) (rp_z (by assumption) ⟨by assumption, by assumption⟩ (by omega))) hf0) (DFq_o (i := k) hdf (by omega) (by rw [gJ35, fJ32 0 (by decide)]))
                            · intro c33
                              refine Z.lconst (v := 0) hX dX7_work_192 rfl ?_
                              refine Z.goto hX 207 dX7_work_193 (by decide) ?_
                              refine Z.lastore hX 2 1 dX7_work_207 rfl rfl (by omega) (by omega) (by decide) ?_
                              obtain ⟨J36, eJ36⟩ : ∃ J' : Nat → Nat → Int64, J' = va_up J32 0 (vp_updL (J32 0) ((5 * wv) + k : Int).toNat (0)) := ⟨_, rfl⟩
                              refine Z.toW (w' := rW ce h G I J36) (by rw [eJ36]; rfl) ?_
                              have gJ36 : J36 0 = vp_updL (J32 0) ((5 * wv) + k : Int).toNat (0) := by rw [eJ36]; exact up_eq
                              have fJ36 : ∀ j_, j_ ≠ 0 → J36 j_ = J32 j_ := fun j_ hj_ => by rw [eJ36]; exact up_ne hj_
                              refine Z.iinc (lv' := [(3, .int (zI (k + 1))), (2, .int (zI wv)), (1, .int (zI d)), (0, .ref (h 0))]) hX dX7_work_208 rfl (by decide) rfl ?_
                              refine Z.goto hX 157 dX7_work_211 (by decide) ?_
                              refine Z.pick [0, 1, 2, 3] rfl ?_
                              exact ih_157 _ _ (by omega) (by omega) ((fJ36 2 (by decide)).trans ((fJ32 2 (by decide)).trans ho)) (fw_s hk3.1 ((fJ36 3 (by decide)).trans gJ32) (rp_z (by assumption) ⟨by assumption, by assumption⟩ (by omega)) h3) (fw_s hk3.1 (fP_s (by omega) hk3.1 (by rw [gJ36, fJ32 0 (by decide)])) (tz_0 (by omega)) hf0) (DFq_o (i := k) hdf (by omega) (by rw [gJ36, fJ32 0 (by decide)]))
                      refine Z.pick [0, 1, 2, 3] rfl ?_
                      exact key_157 _ _ _ (Nat.lt_succ_self _) (by omega) ho (fun j a b => by omega) (fun j a b => by omega) hdf
                refine Z.pick [0, 1, 2] rfl ?_
                exact key_150 _ _ _ (Nat.lt_succ_self _) (by omega) rfl (DFq_0 _ _ _ _)
              · intro c6
                refine Z.aload_n hX dX7_work_114 rfl rfl ?_
                refine Z.getf hX 7 0 10 dX7_work_115 rfl rfl inX7 (by decide) fl_X7_33 rfl rfl ?_
                refine Z.iload_n hX dX7_work_118 rfl rfl ?_
                refine Z.aload_n hX dX7_work_119 rfl rfl ?_
                refine Z.getf hX 7 0 0 dX7_work_120 rfl rfl inX7 (by decide) fl_X7_7 rfl rfl ?_
                refine Z.bipush hX dX7_work_123 (by decide) ?_
                refine Z.iload_n hX dX7_work_125 rfl rfl ?_
                refine Z.iadd hX dX7_work_126 ?_
                refine Z.iaload hX 1 0 dX7_work_127 rfl rfl (by omega) (by omega) (by decide) ?_
                refine Z.topi (fun z37 hz37 kz37 ez37 => ?_)
                refine Z.i2l hX dX7_work_128 ⟨by omega, by omega⟩ ?_
                refine Z.lastore hX 8 1 dX7_work_129 rfl rfl (by omega) (by omega) (by decide) ?_
                obtain ⟨J38, eJ38⟩ : ∃ J' : Nat → Nat → Int64, J' = va_up Mb 3 (vp_updL (Mb 3) (k : Int).toNat (zL z37)) := ⟨_, rfl⟩
                refine Z.toW (w' := rW ce h G I J38) (by rw [eJ38]; rfl) ?_
                have gJ38 : J38 3 = vp_updL (Mb 3) (k : Int).toNat (zL z37) := by rw [eJ38]; exact up_eq
                have fJ38 : ∀ j_, j_ ≠ 3 → J38 j_ = Mb j_ := fun j_ hj_ => by rw [eJ38]; exact up_ne hj_
                refine Z.iinc (lv' := [(1, .int (zI (k + 1))), (0, .ref (h 0))]) hX dX7_work_130 rfl (by decide) rfl ?_
                refine Z.goto hX 109 dX7_work_133 (by decide) ?_
                refine Z.pick [0, 1] rfl ?_
                exact ih_109 _ _ (by omega) (by omega) ((fJ38 2 (by decide)).trans hb2) (fw_s hk2.1 gJ38 (rp_z (by assumption) ⟨by assumption, by assumption⟩ (by omega)) hb3)
          refine Z.pick [0, 1] rfl ?_
          exact key_109 _ _ _ (Nat.lt_succ_self _) (by omega) rfl (fun j a b => by omega)
        · intro c4
          have key_66 : ∀ (v : Int), (hv : v = moK (I 0) (k + 1).toNat) → Z p l e { frames := 5, cells := 0, slots := 0, locals := 148 } s m args below meth c D A 7 0 0 Q 66 [(1, .int (zI k)), (0, .ref (h 0))] [.int (zI v), .ref (h 0)] (rW ce h G I M) := by
            intro v hv
            refine Z.putf (ty := .int) hX 7 0 2 tyX7 dX7_work_66 rfl rfl inX7 tyX7_ok nmX7 (by decide) fl_X7_70 rfl rfl (by decide +kernel) rfl rfl (Nat.le_of_ble_eq_true rfl) ?_
            obtain ⟨F39, eF39⟩ : ∃ F' : Nat → Int, F' = va_up G 0 (v) := ⟨_, rfl⟩
            refine Z.toW (w' := rW ce h F39 I M) (by rw [eF39]; rfl) ?_
            have eF39_0 : F39 0 = v := by rw [eF39]; rfl
            have eF39_1 : F39 1 = G 1 := by rw [eF39]; rfl
            have eF39_2 : F39 2 = G 2 := by rw [eF39]; rfl
            refine Z.aload_n hX dX7_work_69 rfl rfl ?_
            refine Z.getf hX 7 0 9 dX7_work_70 rfl rfl inX7 (by decide) fl_X7_30 rfl rfl ?_
            refine Z.iload_n hX dX7_work_73 rfl rfl ?_
            refine Z.aload_n hX dX7_work_74 rfl rfl ?_
            refine Z.getf hX 7 0 0 dX7_work_75 rfl rfl inX7 (by decide) fl_X7_7 rfl rfl ?_
            refine Z.iload_n hX dX7_work_78 rfl rfl ?_
            refine Z.iaload hX 1 0 dX7_work_79 rfl rfl (by omega) (by omega) (by decide) ?_
            refine Z.topi (fun z40 hz40 kz40 ez40 => ?_)
            refine Z.i2l hX dX7_work_80 ⟨by omega, by omega⟩ ?_
            refine Z.lastore hX 7 1 dX7_work_81 rfl rfl (by omega) (by omega) (by decide) ?_
            obtain ⟨J41, eJ41⟩ : ∃ J' : Nat → Nat → Int64, J' = va_up M 2 (vp_updL (M 2) (k : Int).toNat (zL z40)) := ⟨_, rfl⟩
            refine Z.toW (w' := rW ce h F39 I J41) (by rw [eJ41]; rfl) ?_
            have gJ41 : J41 2 = vp_updL (M 2) (k : Int).toNat (zL z40) := by rw [eJ41]; exact up_eq
            have fJ41 : ∀ j_, j_ ≠ 2 → J41 j_ = M j_ := fun j_ hj_ => by rw [eJ41]; exact up_ne hj_
            refine Z.aload_n hX dX7_work_82 rfl rfl ?_
            refine Z.getf hX 7 0 10 dX7_work_83 rfl rfl inX7 (by decide) fl_X7_33 rfl rfl ?_
            refine Z.iload_n hX dX7_work_86 rfl rfl ?_
            refine Z.aload_n hX dX7_work_87 rfl rfl ?_
            refine Z.getf hX 7 0 0 dX7_work_88 rfl rfl inX7 (by decide) fl_X7_7 rfl rfl ?_
            refine Z.iconst hX dX7_work_91 ?_
            refine Z.iload_n hX dX7_work_92 rfl rfl ?_
            refine Z.iadd hX dX7_work_93 ?_
            refine Z.iaload hX 1 0 dX7_work_94 rfl rfl (by omega) (by omega) (by decide) ?_
            refine Z.topi (fun z42 hz42 kz42 ez42 => ?_)
            refine Z.i2l hX dX7_work_95 ⟨by omega, by omega⟩ ?_
            refine Z.lastore hX 8 1 dX7_work_96 rfl rfl (by omega) (by omega) (by decide) ?_
            obtain ⟨J43, eJ43⟩ : ∃ J' : Nat → Nat → Int64, J' = va_up J41 3 (vp_updL (J41 3) (k : Int).toNat (zL z42)) := ⟨_, rfl⟩
            refine Z.toW (w' := rW ce h F39 I J43) (by rw [eJ43]; rfl) ?_
            have gJ43 : J43 3 = vp_updL (J41 3) (k : Int).toNat (zL z42) := by rw [eJ43]; exact up_eq
            have fJ43 : ∀ j_, j_ ≠ 3 → J43 j_ = J41 j_ := fun j_ hj_ => by rw [eJ43]; exact up_ne hj_
            refine Z.iinc (lv' := [(1, .int (zI (k + 1))), (0, .ref (h 0))]) hX dX7_work_97 rfl (by decide) rfl ?_
            refine Z.goto hX 20 dX7_work_100 (by decide) ?_
            refine Z.pick [0, 1] rfl ?_
            exact ih_20 _ _ _ (by omega) (by omega) (by omega) (by rw [eF39_0]; exact hv) (fw_s hk.1 ((fJ43 2 (by decide)).trans gJ41) (rp_z (by assumption) ⟨by assumption, by assumption⟩ (by omega)) hone) (fw_s hk.1 (by rw [gJ43, fJ41 3 (by decide)]) (rp_z (by assumption) ⟨by assumption, by assumption⟩ (by omega)) htwo)
          refine Z.aload_n hX dX7_work_25 rfl rfl ?_
          refine Z.aload_n hX dX7_work_26 rfl rfl ?_
          refine Z.getf hX 7 0 0 dX7_work_27 rfl rfl inX7 (by decide) fl_X7_7 rfl rfl ?_
          refine Z.iload_n hX dX7_work_30 rfl rfl ?_
          refine Z.iaload hX 1 0 dX7_work_31 rfl rfl (by omega) (by omega) (by decide) ?_
          refine Z.topi (fun z44 hz44 kz44 ez44 => ?_)
          refine Z.if_ne hX 58 dX7_work_32 (by decide) ⟨by omega, by omega⟩ ?_ ?_
          · intro c45
            refine Z.iload_n hX dX7_work_58 rfl rfl ?_
            refine Z.goto hX 66 dX7_work_59 (by decide) ?_
            refine Z.pick [0, 1] rfl ?_
            exact key_66 _ (by first | exact mo_1 hk.1 (by assumption) ⟨by assumption, by assumption⟩ (by assumption) | exact mo_2 hk.1 (by assumption) ⟨by assumption, by assumption⟩ (by assumption) | exact mo_3 hk.1 (by assumption) ⟨by assumption, by assumption⟩ (by assumption))
          · intro c45
            refine Z.aload_n hX dX7_work_35 rfl rfl ?_
            refine Z.getf hX 7 0 0 dX7_work_36 rfl rfl inX7 (by decide) fl_X7_7 rfl rfl ?_
            refine Z.iconst hX dX7_work_39 ?_
            refine Z.iload_n hX dX7_work_40 rfl rfl ?_
            refine Z.iadd hX dX7_work_41 ?_
            refine Z.iaload hX 1 0 dX7_work_42 rfl rfl (by omega) (by omega) (by decide) ?_
            refine Z.topi (fun z46 hz46 kz46 ez46 => ?_)
            refine Z.if_ne hX 58 dX7_work_43 (by decide) ⟨by omega, by omega⟩ ?_ ?_
            · intro c47
              refine Z.iload_n hX dX7_work_58 rfl rfl ?_
              refine Z.goto hX 66 dX7_work_59 (by decide) ?_
              refine Z.pick [0, 1] rfl ?_
              exact key_66 _ (by first | exact mo_1 hk.1 (by assumption) ⟨by assumption, by assumption⟩ (by assumption) | exact mo_2 hk.1 (by assumption) ⟨by assumption, by assumption⟩ (by assumption) | exact mo_3 hk.1 (by assumption) ⟨by assumption, by assumption⟩ (by assumption))
            · intro c47
              refine Z.aload_n hX dX7_work_46 rfl rfl ?_
              refine Z.getf hX 7 0 0 dX7_work_47 rfl rfl inX7 (by decide) fl_X7_7 rfl rfl ?_
              refine Z.bipush hX dX7_work_50 (by decide) ?_
              refine Z.iload_n hX dX7_work_52 rfl rfl ?_
              refine Z.iadd hX dX7_work_53 ?_
              refine Z.iaload hX 1 0 dX7_work_54 rfl rfl (by omega) (by omega) (by decide) ?_
              refine Z.topi (fun z48 hz48 kz48 ez48 => ?_)
              refine Z.if_eq hX 62 dX7_work_55 (by decide) ⟨by omega, by omega⟩ ?_ ?_
              · intro c49
                refine Z.aload_n hX dX7_work_62 rfl rfl ?_
                refine Z.getf hX 7 0 2 dX7_work_63 rfl rfl inX7 (by decide) fl_X7_70 rfl rfl ?_
                refine Z.pick [0, 1] rfl ?_
                exact key_66 _ (mo_0 hk.1 (by assumption) (by assumption) (by assumption) (by assumption) (by assumption) (by assumption) hG0)
              · intro c49
                refine Z.iload_n hX dX7_work_58 rfl rfl ?_
                refine Z.goto hX 66 dX7_work_59 (by decide) ?_
                refine Z.pick [0, 1] rfl ?_
                exact key_66 _ (by first | exact mo_1 hk.1 (by assumption) ⟨by assumption, by assumption⟩ (by assumption) | exact mo_2 hk.1 (by assumption) ⟨by assumption, by assumption⟩ (by assumption) | exact mo_3 hk.1 (by assumption) ⟨by assumption, by assumption⟩ (by assumption))
    refine Z.pick [0, 1] rfl ?_
    exact key_20 _ _ _ _ (Nat.lt_succ_self _) (by omega) (by omega) (by rw [eF3_0]; rfl) (fun j a b => by omega) (fun j a b => by omega)
  · intro c1
    exact hR _ _ _ dX7_work_7 ⟨F, I, J, rfl, hok, (by omega), (hkn (by omega)), rfl, hdg, (hri (by omega)), (hti (by omega)), (hte (by omega)), (htw (by omega))⟩

set_option maxHeartbeats 4000000 in
set_option maxRecDepth 100000 in
theorem ct_X7_degree_w (l : Launch) (D : va_G) (ce : Nat → ClassId) (h : Nat → Nat) (F : Nat → Int) (I : Nat → Nat → Int32) (J : Nat → Nat → Int64) (what : Int) (hok : rOK F I) (hbr : bR (I 0)) (hri : RI F (I 0) (J 0)) (hti : TI F I J) (hte : TIe F I J) (htw : TIw F I J) (hw : -2147483648 ≤ what ∧ what < 2147483648) : Ct l yX7_degree cX7_degree 2 (some .int) { frames := 6, cells := 0, slots := 0, locals := 174 } 0 0 D (TY ce) [.ref (h 0), .int (zI what)] (rW ce h F I J) (QI D (TY ce) (fun r w1 => ∃ z : Int, ∃ F2 : Nat → Int, ∃ I2 : Nat → Nat → Int32, ∃ J2 : Nat → Nat → Int64, r = zI z ∧ w1 = rW ce h F2 I2 J2 ∧ (rOK F2 I2) ∧ (I2 0 = I 0) ∧ (¬ (0 ≤ what ∧ what ≤ 2) → z = -1) ∧ (what = 0 → z = moK (I 0) 5) ∧ (RI F2 (I2 0) (J2 0)) ∧ (TI F2 I2 J2) ∧ (TIe F2 I2 J2) ∧ (TIw F2 I2 J2) ∧ (what = 1 → z = F2 1 ∧ FQ (I 0) F2 (J2 0)) ∧ (what = 2 → z = moK (I 0) 5 - F2 1 ∧ FQ (I 0) F2 (J2 0)))) := by
  refine Ct.ofI (by decide) (Nat.le_of_ble_eq_true rfl) ?_
  intro p e s m args below meth c A Q hX hnm hR
  refine Z.pick (lv' := [(0, .ref (h 0)), (1, .int (zI what))]) [0, 1] rfl ?_
  refine Z.iload_n hX dX7_degree_0 rfl rfl ?_
  refine Z.if_lt hX 9 dX7_degree_1 (by decide) ⟨by omega, by omega⟩ ?_ ?_
  · intro c1
    refine Z.iconst hX dX7_degree_9 ?_
    exact hR _ _ _ _ dX7_degree_10 ⟨(-1), F, I, J, rfl, rfl, hok, rfl, (fun _ => rfl), (fun q => by omega), hri, hti, hte, htw, (fun q => by omega), (fun q => by omega)⟩
  · intro c1
    refine Z.iload_n hX dX7_degree_4 rfl rfl ?_
    refine Z.iconst hX dX7_degree_5 ?_
    refine Z.icmp_le hX 11 dX7_degree_6 (by decide) ⟨by omega, by omega⟩ ⟨by omega, by omega⟩ ?_ ?_
    · intro c2
      refine Z.aload_n hX dX7_degree_11 rfl rfl ?_
      refine Z.callVfv (As := []) (rest := []) hX 7 0 rfl rfl (ct_X7_work_w l D ce h F I J hok hbr hri hti hte htw) mc_X7_work ml_X7_130 im_X7_work se_X7_work ini_X7 nd_X7_work ⟨Nat.le_of_ble_eq_true rfl, Nat.le_of_ble_eq_true rfl⟩ ⟨rfl, rfl⟩ ⟨Nat.le_refl _, Nat.le_refl _⟩ rfl (Nat.le_of_ble_eq_true rfl) dX7_degree_12 ?_
      rintro w1 ⟨Fw, Iw, Jw, hw_, hokw, hfw, hmow, hIw, hdgw, hfqw, hhtw, hhew, hhww⟩
      subst hw_
      have hriw : RI Fw (Iw 0) (Jw 0) := fun _ => by rw [hIw]; exact hfqw
      have htiw : TI Fw Iw Jw := fun _ => hhtw
      have htew : TIe Fw Iw Jw := fun _ => hhew
      have htww : TIw Fw Iw Jw := fun _ => hhww
      refine Z.iload_n hX dX7_degree_15 rfl rfl ?_
      refine Z.if_ne hX 26 dX7_degree_16 (by decide) ⟨by omega, by omega⟩ ?_ ?_
      · intro c4
        refine Z.iload_n hX dX7_degree_26 rfl rfl ?_
        refine Z.iconst hX dX7_degree_27 ?_
        refine Z.icmp_ne hX 38 dX7_degree_28 (by decide) ⟨by omega, by omega⟩ ⟨by omega, by omega⟩ ?_ ?_
        · intro c5
          refine Z.aload_n hX dX7_degree_38 rfl rfl ?_
          refine Z.getf hX 7 0 2 dX7_degree_39 rfl rfl inX7 (by decide) fl_X7_70 rfl rfl ?_
          refine Z.aload_n hX dX7_degree_42 rfl rfl ?_
          refine Z.getf hX 7 0 3 dX7_degree_43 rfl rfl inX7 (by decide) fl_X7_77 rfl rfl ?_
          refine Z.isub hX dX7_degree_46 ?_
          exact hR _ _ _ _ dX7_degree_47 ⟨((Fw 0) - (Fw 1)), Fw, Iw, Jw, rfl, rfl, hokw, hIw, (fun q => by omega), (fun q => by first | omega | exact hmow), hriw, htiw, htew, htww, (fun q => ⟨by first | omega | rfl, hfqw⟩), (fun q => ⟨by first | omega | (rw [← hmow]), hfqw⟩)⟩
        · intro c5
          refine Z.aload_n hX dX7_degree_31 rfl rfl ?_
          refine Z.getf hX 7 0 3 dX7_degree_32 rfl rfl inX7 (by decide) fl_X7_77 rfl rfl ?_
          refine Z.goto hX 47 dX7_degree_35 (by decide) ?_
          exact hR _ _ _ _ dX7_degree_47 ⟨(Fw 1), Fw, Iw, Jw, rfl, rfl, hokw, hIw, (fun q => by omega), (fun q => by first | omega | exact hmow), hriw, htiw, htew, htww, (fun q => ⟨by first | omega | rfl, hfqw⟩), (fun q => ⟨by first | omega | (rw [← hmow]), hfqw⟩)⟩
      · intro c4
        refine Z.aload_n hX dX7_degree_19 rfl rfl ?_
        refine Z.getf hX 7 0 2 dX7_degree_20 rfl rfl inX7 (by decide) fl_X7_70 rfl rfl ?_
        refine Z.goto hX 47 dX7_degree_23 (by decide) ?_
        exact hR _ _ _ _ dX7_degree_47 ⟨(Fw 0), Fw, Iw, Jw, rfl, rfl, hokw, hIw, (fun q => by omega), (fun q => by first | omega | exact hmow), hriw, htiw, htew, htww, (fun q => ⟨by first | omega | rfl, hfqw⟩), (fun q => ⟨by first | omega | (rw [← hmow]), hfqw⟩)⟩
    · intro c2
      refine Z.iconst hX dX7_degree_9 ?_
      exact hR _ _ _ _ dX7_degree_10 ⟨(-1), F, I, J, rfl, rfl, hok, rfl, (fun _ => rfl), (fun q => by omega), hri, hti, hte, htw, (fun q => by omega), (fun q => by omega)⟩

set_option maxHeartbeats 4000000 in
set_option maxRecDepth 100000 in
theorem ct_X7_freed_w (l : Launch) (D : va_G) (ce : Nat → ClassId) (h : Nat → Nat) (F : Nat → Int) (I : Nat → Nat → Int32) (J : Nat → Nat → Int64) (wh i : Int) (hok : rOK F I) (hbr : bR (I 0)) (hri : RI F (I 0) (J 0)) (hti : TI F I J) (hte : TIe F I J) (htw : TIw F I J) (hw : -2147483648 ≤ wh ∧ wh < 2147483648) (hi : -2147483648 ≤ i ∧ i < 2147483648) : Ct l yX7_freed cX7_freed 3 (some .int) { frames := 6, cells := 0, slots := 0, locals := 174 } 0 0 D (TY ce) [.ref (h 0), .int (zI wh), .int (zI i)] (rW ce h F I J) (QI D (TY ce) (fun r w1 => ∃ z : Int, ∃ F2 : Nat → Int, ∃ I2 : Nat → Nat → Int32, ∃ J2 : Nat → Nat → Int64, r = zI z ∧ w1 = rW ce h F2 I2 J2 ∧ (rOK F2 I2) ∧ (I2 0 = I 0) ∧ (¬ (0 ≤ wh ∧ wh ≤ 2 ∧ 0 ≤ i ∧ i ≤ 4) → z = -1000000) ∧ (RI F2 (I2 0) (J2 0)) ∧ (TI F2 I2 J2) ∧ (TIe F2 I2 J2) ∧ (TIw F2 I2 J2) ∧ ((0 ≤ wh ∧ wh ≤ 2 ∧ 0 ≤ i ∧ i ≤ 4) → FQ (I 0) F2 (J2 0) ∧ (J2 0 (5 * wh + i).toNat).toInt32 = zI z))) := by
  refine Ct.ofI (by decide) (Nat.le_of_ble_eq_true rfl) ?_
  intro p e s m args below meth c A Q hX hnm hR
  refine Z.pick (lv' := [(0, .ref (h 0)), (1, .int (zI wh)), (2, .int (zI i))]) [0, 1, 2] rfl ?_
  refine Z.iload_n hX dX7_freed_0 rfl rfl ?_
  refine Z.if_lt hX 18 dX7_freed_1 (by decide) ⟨by omega, by omega⟩ ?_ ?_
  · intro c1
    refine Z.ldc hX (-1000000) dX7_freed_18 co_X7_133 rfl ?_
    exact hR _ _ _ _ dX7_freed_20 ⟨((-1000000)), F, I, J, rfl, rfl, hok, rfl, (fun _ => rfl), hri, hti, hte, htw, (fun q => by omega)⟩
  · intro c1
    refine Z.iload_n hX dX7_freed_4 rfl rfl ?_
    refine Z.iconst hX dX7_freed_5 ?_
    refine Z.icmp_gt hX 18 dX7_freed_6 (by decide) ⟨by omega, by omega⟩ ⟨by omega, by omega⟩ ?_ ?_
    · intro c2
      refine Z.ldc hX (-1000000) dX7_freed_18 co_X7_133 rfl ?_
      exact hR _ _ _ _ dX7_freed_20 ⟨((-1000000)), F, I, J, rfl, rfl, hok, rfl, (fun _ => rfl), hri, hti, hte, htw, (fun q => by omega)⟩
    · intro c2
      refine Z.iload_n hX dX7_freed_9 rfl rfl ?_
      refine Z.if_lt hX 18 dX7_freed_10 (by decide) ⟨by omega, by omega⟩ ?_ ?_
      · intro c3
        refine Z.ldc hX (-1000000) dX7_freed_18 co_X7_133 rfl ?_
        exact hR _ _ _ _ dX7_freed_20 ⟨((-1000000)), F, I, J, rfl, rfl, hok, rfl, (fun _ => rfl), hri, hti, hte, htw, (fun q => by omega)⟩
      · intro c3
        refine Z.iload_n hX dX7_freed_13 rfl rfl ?_
        refine Z.iconst hX dX7_freed_14 ?_
        refine Z.icmp_le hX 21 dX7_freed_15 (by decide) ⟨by omega, by omega⟩ ⟨by omega, by omega⟩ ?_ ?_
        · intro c4
          refine Z.aload_n hX dX7_freed_21 rfl rfl ?_
          refine Z.callVfv (As := []) (rest := []) hX 7 0 rfl rfl (ct_X7_work_w l D ce h F I J hok hbr hri hti hte htw) mc_X7_work ml_X7_130 im_X7_work se_X7_work ini_X7 nd_X7_work ⟨Nat.le_of_ble_eq_true rfl, Nat.le_of_ble_eq_true rfl⟩ ⟨rfl, rfl⟩ ⟨Nat.le_refl _, Nat.le_refl _⟩ rfl (Nat.le_of_ble_eq_true rfl) dX7_freed_22 ?_
          rintro w1 ⟨Fw, Iw, Jw, hw_, hokw, hfw, hmow, hIw, hdgw, hfqw, hhtw, hhew, hhww⟩
          subst hw_
          have hriw : RI Fw (Iw 0) (Jw 0) := fun _ => by rw [hIw]; exact hfqw
          have htiw : TI Fw Iw Jw := fun _ => hhtw
          have htew : TIe Fw Iw Jw := fun _ => hhew
          have htww : TIw Fw Iw Jw := fun _ => hhww
          refine Z.aload_n hX dX7_freed_25 rfl rfl ?_
          refine Z.getf hX 7 0 1 dX7_freed_26 rfl rfl inX7 (by decide) fl_X7_13 rfl rfl ?_
          refine Z.iconst hX dX7_freed_29 ?_
          refine Z.iload_n hX dX7_freed_30 rfl rfl ?_
          refine Z.imul hX dX7_freed_31 ?_
          refine Z.iload_n hX dX7_freed_32 rfl rfl ?_
          refine Z.iadd hX dX7_freed_33 ?_
          refine Z.laload hX 2 1 dX7_freed_34 rfl rfl (by omega) (by omega) (by decide) ?_
          refine Z.l2i hX dX7_freed_35 ?_
          refine Z.topi (fun z6 hz6 kz6 ez6 => ?_)
          exact hR _ _ _ _ dX7_freed_36 ⟨z6, Fw, Iw, Jw, rfl, rfl, hokw, hIw, (fun q => by omega), hriw, htiw, htew, htww, (fun _ => ⟨hfqw, by assumption⟩)⟩
        · intro c4
          refine Z.ldc hX (-1000000) dX7_freed_18 co_X7_133 rfl ?_
          exact hR _ _ _ _ dX7_freed_20 ⟨((-1000000)), F, I, J, rfl, rfl, hok, rfl, (fun _ => rfl), hri, hti, hte, htw, (fun q => by omega)⟩

set_option maxHeartbeats 4000000 in
set_option maxRecDepth 100000 in
theorem ct_X7_valueOf_w (l : Launch) (D : va_G) (ce : Nat → ClassId) (h : Nat → Nat) (F : Nat → Int) (I : Nat → Nat → Int32) (J : Nat → Nat → Int64) (wh u v : Int) (hok : rOK F I) (hbr : bR (I 0)) (hri : RI F (I 0) (J 0)) (hti : TI F I J) (hte : TIe F I J) (htw : TIw F I J) (hw : 0 ≤ wh ∧ wh ≤ 2) (hu : -2147483648 ≤ u ∧ u < 2147483648) (hv : -2147483648 ≤ v ∧ v < 2147483648) : Ct l yX7_valueOf cX7_valueOf 7 (some .long) { frames := 6, cells := 0, slots := 0, locals := 174 } 0 0 D (TY ce) [.ref (h 0), .int (zI wh), .int (zI u), .int (zI v)] (rW ce h F I J) (QL D (TY ce) (fun r w1 => ∃ r0 : Int64, ∃ F2 : Nat → Int, ∃ I2 : Nat → Nat → Int32, ∃ J2 : Nat → Nat → Int64, r = r0 ∧ w1 = rW ce h F2 I2 J2 ∧ (rOK F2 I2) ∧ (I2 0 = I 0) ∧ (r0 = vOf (I 0) wh u v) ∧ (F2 2 = 1) ∧ (RI F2 (I2 0) (J2 0)) ∧ (TI F2 I2 J2) ∧ (TIe F2 I2 J2) ∧ (TIw F2 I2 J2))) := by
  refine Ct.ofL (by decide) (Nat.le_of_ble_eq_true rfl) ?_
  intro p e s m args below meth c A Q hX hnm hR
  refine Z.pick (lv' := [(0, .ref (h 0)), (1, .int (zI wh)), (2, .int (zI u)), (3, .int (zI v))]) [0, 1, 2, 3] rfl ?_
  refine Z.aload_n hX dX7_valueOf_0 rfl rfl ?_
  refine Z.callVfv (As := []) (rest := []) hX 7 0 rfl rfl (ct_X7_work_w l D ce h F I J hok hbr hri hti hte htw) mc_X7_work ml_X7_130 im_X7_work se_X7_work ini_X7 nd_X7_work ⟨Nat.le_of_ble_eq_true rfl, Nat.le_of_ble_eq_true rfl⟩ ⟨rfl, rfl⟩ ⟨Nat.le_refl _, Nat.le_refl _⟩ rfl (Nat.le_of_ble_eq_true rfl) dX7_valueOf_1 ?_
  rintro w1 ⟨Fw, Iw, Jw, hw_, hokw, hfw, hmow, hIw, hdgw, hfqw, hhtw, hhew, hhww⟩
  subst hw_
  have hriw : RI Fw (Iw 0) (Jw 0) := fun _ => by rw [hIw]; exact hfqw
  have htiw : TI Fw Iw Jw := fun _ => hhtw
  have htew : TIe Fw Iw Jw := fun _ => hhew
  have htww : TIw Fw Iw Jw := fun _ => hhww
  refine Z.lconst (v := 0) hX dX7_valueOf_4 rfl ?_
  refine Z.lstore (lv' := [(4, .long 0), (0, .ref (h 0)), (1, .int (zI wh)), (2, .int (zI u)), (3, .int (zI v))]) hX dX7_valueOf_5 (by decide) rfl ?_
  refine Z.iconst hX dX7_valueOf_7 ?_
  refine Z.istore (lv' := [(6, .int (zI 0)), (4, .long 0), (0, .ref (h 0)), (1, .int (zI wh)), (2, .int (zI u)), (3, .int (zI v))]) hX dX7_valueOf_8 (by decide) rfl ?_
  have key_10 : ∀ (N : Nat), ∀ (k : Int) (x : Int64), (Fw 0 + 1 - k).toNat < N → (hk : 0 ≤ k ∧ k ≤ Fw 0 + 1) → (hx : x = vsum (I 0) wh (zL u) (zL v) (moK (I 0) 5) k.toNat) → Z p l e { frames := 6, cells := 0, slots := 0, locals := 174 } s m args below meth c D A 7 0 0 Q 10 [(6, .int (zI k)), (4, .long x), (1, .int (zI wh)), (2, .int (zI u)), (3, .int (zI v)), (0, .ref (h 0))] [] (rW ce h Fw Iw Jw) := by
    intro N
    induction N with
    | zero => intro k x hm; exact absurd hm (Nat.not_lt_zero _)
    | succ N ih_10 =>
      intro k x hm hk hx
      refine Z.iload hX dX7_valueOf_10 rfl ?_
      refine Z.aload_n hX dX7_valueOf_12 rfl rfl ?_
      refine Z.getf hX 7 0 2 dX7_valueOf_13 rfl rfl inX7 (by decide) fl_X7_70 rfl rfl ?_
      refine Z.icmp_gt hX 63 dX7_valueOf_16 (by decide) ⟨by omega, by omega⟩ ⟨by omega, by omega⟩ ?_ ?_
      · intro c2
        refine Z.lload hX dX7_valueOf_63 rfl ?_
        exact hR _ _ _ _ dX7_valueOf_65 ⟨x, Fw, Iw, Jw, rfl, rfl, hokw, hIw, (by rw [hx]; unfold vOf; congr 1; omega), hfw.1, hriw, htiw, htew, htww⟩
      · intro c2
        refine Z.lload hX dX7_valueOf_19 rfl ?_
        refine Z.aload_n hX dX7_valueOf_21 rfl rfl ?_
        refine Z.getf hX 7 0 0 dX7_valueOf_22 rfl rfl inX7 (by decide) fl_X7_7 rfl rfl ?_
        refine Z.iconst hX dX7_valueOf_25 ?_
        refine Z.iload_n hX dX7_valueOf_26 rfl rfl ?_
        refine Z.imul hX dX7_valueOf_27 ?_
        refine Z.iload hX dX7_valueOf_28 rfl ?_
        refine Z.iadd hX dX7_valueOf_30 ?_
        refine Z.iaload hX 1 0 dX7_valueOf_31 rfl rfl (by omega) (by omega) (by decide) ?_
        refine Z.topi (fun z3 hz3 kz3 ez3 => ?_)
        refine Z.i2l hX dX7_valueOf_32 ⟨by omega, by omega⟩ ?_
        refine Z.iload_n hX dX7_valueOf_33 rfl rfl ?_
        refine Z.i2l hX dX7_valueOf_34 ⟨by omega, by omega⟩ ?_
        refine Z.iload hX dX7_valueOf_35 rfl ?_
        refine Z.callS0l (As := [.long (zL u), .int (zI k)]) (rest := [.long (zL z3), .long x]) hX (ct_X7_raised l D ce (zL u) k (by omega)) mc_X7_raised ml_X7_134 st_X7_raised ini_X7 nd_X7_raised ⟨Nat.le_of_ble_eq_true rfl, Nat.le_of_ble_eq_true rfl⟩ ⟨rfl, rfl⟩ ⟨Nat.le_refl _, Nat.le_refl _⟩ rfl (Nat.le_of_ble_eq_true rfl) dX7_valueOf_37 ?_
        rintro ra w1 ⟨r05, hr_, hw_, hra⟩
        subst hr_
        refine ⟨hw_, ?_⟩
        refine Z.lmul hX dX7_valueOf_40 ?_
        refine Z.iload_n hX dX7_valueOf_41 rfl rfl ?_
        refine Z.i2l hX dX7_valueOf_42 ⟨by omega, by omega⟩ ?_
        refine Z.aload_n hX dX7_valueOf_43 rfl rfl ?_
        refine Z.getf hX 7 0 2 dX7_valueOf_44 rfl rfl inX7 (by decide) fl_X7_70 rfl rfl ?_
        refine Z.iload hX dX7_valueOf_47 rfl ?_
        refine Z.isub hX dX7_valueOf_49 ?_
        refine Z.callS0l (As := [.long (zL v), .int (zI ((Fw 0) - k))]) (rest := [.long ((zL z3) * ra), .long x]) hX (ct_X7_raised l D ce (zL v) ((Fw 0) - k) (by omega)) mc_X7_raised ml_X7_134 st_X7_raised ini_X7 nd_X7_raised ⟨Nat.le_of_ble_eq_true rfl, Nat.le_of_ble_eq_true rfl⟩ ⟨rfl, rfl⟩ ⟨Nat.le_refl _, Nat.le_refl _⟩ rfl (Nat.le_of_ble_eq_true rfl) dX7_valueOf_50 ?_
        rintro rb w1 ⟨r07, hr_, hw_, hrb⟩
        subst hr_
        refine ⟨hw_, ?_⟩
        refine Z.lmul hX dX7_valueOf_53 ?_
        refine Z.ladd hX dX7_valueOf_54 ?_
        refine Z.lstore (lv' := [(4, .long (x + (((zL z3) * ra) * rb))), (6, .int (zI k)), (1, .int (zI wh)), (2, .int (zI u)), (3, .int (zI v)), (0, .ref (h 0))]) hX dX7_valueOf_55 (by decide) rfl ?_
        refine Z.iinc (lv' := [(6, .int (zI (k + 1))), (4, .long (x + (((zL z3) * ra) * rb))), (1, .int (zI wh)), (2, .int (zI u)), (3, .int (zI v)), (0, .ref (h 0))]) hX dX7_valueOf_57 rfl (by decide) rfl ?_
        refine Z.goto hX 10 dX7_valueOf_60 (by decide) ?_
        refine Z.pick [0, 1, 2, 3, 4, 5] rfl ?_
        exact ih_10 _ _ (by omega) (by omega) (vsum_s hk.1 hx (by rw [← hIw]; assumption) ⟨by assumption, by assumption⟩ hra (by rw [hrb, hmow]))
  refine Z.pick [0, 1, 3, 4, 5, 2] rfl ?_
  exact key_10 _ _ _ (Nat.lt_succ_self _) (by omega) rfl

set_option maxHeartbeats 4000000 in
set_option maxRecDepth 100000 in
theorem ct_X7_value_w (l : Launch) (D : va_G) (ce : Nat → ClassId) (h : Nat → Nat) (F : Nat → Int) (I : Nat → Nat → Int32) (J : Nat → Nat → Int64) (u v part : Int) (hok : rOK F I) (hbr : bR (I 0)) (hri : RI F (I 0) (J 0)) (hti : TI F I J) (hte : TIe F I J) (htw : TIw F I J) (hu : -2147483648 ≤ u ∧ u < 2147483648) (hv : -2147483648 ≤ v ∧ v < 2147483648) (hp : -2147483648 ≤ part ∧ part < 2147483648) : Ct l yX7_value cX7_value 6 (some .int) { frames := 7, cells := 0, slots := 0, locals := 200 } 0 0 D (TY ce) [.ref (h 0), .int (zI u), .int (zI v), .int (zI part)] (rW ce h F I J) (QI D (TY ce) (fun r w1 => ∃ z : Int, ∃ F2 : Nat → Int, ∃ I2 : Nat → Nat → Int32, ∃ J2 : Nat → Nat → Int64, r = zI z ∧ w1 = rW ce h F2 I2 J2 ∧ (rOK F2 I2) ∧ (I2 0 = I 0) ∧ (¬ ((-9 ≤ u ∧ u ≤ 9 ∧ -9 ≤ v ∧ v ≤ 9 ∧ ¬ (u = 0 ∧ v = 0)) ∧ 0 ≤ part ∧ part ≤ 2) → z = -1000000) ∧ (((-9 ≤ u ∧ u ≤ 9 ∧ -9 ≤ v ∧ v ≤ 9 ∧ ¬ (u = 0 ∧ v = 0)) ∧ 0 ≤ part ∧ part ≤ 2) → ∃ c1 c2 : Int64, cgE (vOf (I 0) 1 u v) (vOf (I 0) 2 u v) c1 ∧ cgE (vOf (I 0) 0 u v) c1 c2 ∧ ((c2 = 0 ∧ z = 0) ∨ (¬ c2 = 0 ∧ (vOf (I 0) part u v / c2).toInt32 = zI z))) ∧ (RI F2 (I2 0) (J2 0)) ∧ (TI F2 I2 J2) ∧ (TIe F2 I2 J2) ∧ (TIw F2 I2 J2))) := by
  refine Ct.ofI (by decide) (Nat.le_of_ble_eq_true rfl) ?_
  intro p e s m args below meth c A Q hX hnm hR
  refine Z.pick (lv' := [(0, .ref (h 0)), (1, .int (zI u)), (2, .int (zI v)), (3, .int (zI part))]) [0, 1, 2, 3] rfl ?_
  refine Z.iload_n hX dX7_value_0 rfl rfl ?_
  refine Z.iload_n hX dX7_value_1 rfl rfl ?_
  refine Z.callS0i (As := [.int (zI u), .int (zI v)]) (rest := []) hX (ct_X7_isParameter l D ce u v (by omega) (by omega)) mc_X7_isParameter ml_X7_137 st_X7_isParameter ini_X7 nd_X7_isParameter ⟨Nat.le_of_ble_eq_true rfl, Nat.le_of_ble_eq_true rfl⟩ ⟨rfl, rfl⟩ ⟨Nat.le_refl _, Nat.le_refl _⟩ rfl (Nat.le_of_ble_eq_true rfl) dX7_value_2 ?_
  rintro r_1 w1 ⟨zp, hr_, hw_, hzp⟩
  subst hr_
  refine ⟨hw_, ?_⟩
  refine Z.if_eq hX 17 dX7_value_5 (by decide) ⟨by omega, by omega⟩ ?_ ?_
  · intro c2
    refine Z.ldc hX (-1000000) dX7_value_17 co_X7_133 rfl ?_
    exact hR _ _ _ _ dX7_value_19 ⟨((-1000000)), F, I, J, rfl, rfl, hok, rfl, (fun _ => rfl), (fun q => by omega), hri, hti, hte, htw⟩
  · intro c2
    refine Z.iload_n hX dX7_value_8 rfl rfl ?_
    refine Z.if_lt hX 17 dX7_value_9 (by decide) ⟨by omega, by omega⟩ ?_ ?_
    · intro c3
      refine Z.ldc hX (-1000000) dX7_value_17 co_X7_133 rfl ?_
      exact hR _ _ _ _ dX7_value_19 ⟨((-1000000)), F, I, J, rfl, rfl, hok, rfl, (fun _ => rfl), (fun q => by omega), hri, hti, hte, htw⟩
    · intro c3
      refine Z.iload_n hX dX7_value_12 rfl rfl ?_
      refine Z.iconst hX dX7_value_13 ?_
      refine Z.icmp_le hX 20 dX7_value_14 (by decide) ⟨by omega, by omega⟩ ⟨by omega, by omega⟩ ?_ ?_
      · intro c4
        refine Z.aload_n hX dX7_value_20 rfl rfl ?_
        refine Z.iconst hX dX7_value_21 ?_
        refine Z.iload_n hX dX7_value_22 rfl rfl ?_
        refine Z.iload_n hX dX7_value_23 rfl rfl ?_
        refine Z.callVfl (As := [.int (zI 0), .int (zI u), .int (zI v)]) (rest := []) hX 7 0 rfl rfl (ct_X7_valueOf_w l D ce h F I J 0 u v hok hbr hri hti hte htw (by omega) hu hv) mc_X7_valueOf ml_X7_140 im_X7_valueOf se_X7_valueOf ini_X7 nd_X7_valueOf ⟨Nat.le_of_ble_eq_true rfl, Nat.le_of_ble_eq_true rfl⟩ ⟨rfl, rfl⟩ ⟨Nat.le_refl _, Nat.le_refl _⟩ rfl (Nat.le_of_ble_eq_true rfl) dX7_value_24 ?_
        rintro xa w1 ⟨r06, Fa, Ia, Ja, hr_, hw_, hoka, hIa, hxa, hka, hria, htia, htea, htwa⟩
        subst hr_
        subst hw_
        refine Z.aload_n hX dX7_value_27 rfl rfl ?_
        refine Z.iconst hX dX7_value_28 ?_
        refine Z.iload_n hX dX7_value_29 rfl rfl ?_
        refine Z.iload_n hX dX7_value_30 rfl rfl ?_
        refine Z.callVfl (As := [.int (zI 1), .int (zI u), .int (zI v)]) (rest := [.long xa]) hX 7 0 rfl rfl (ct_X7_valueOf_w l D ce h Fa Ia Ja 1 u v hoka (by rw [hIa]; exact hbr) hria htia htea htwa (by omega) hu hv) mc_X7_valueOf ml_X7_140 im_X7_valueOf se_X7_valueOf ini_X7 nd_X7_valueOf ⟨Nat.le_of_ble_eq_true rfl, Nat.le_of_ble_eq_true rfl⟩ ⟨rfl, rfl⟩ ⟨Nat.le_refl _, Nat.le_refl _⟩ rfl (Nat.le_of_ble_eq_true rfl) dX7_value_31 ?_
        rintro xb w1 ⟨r08, Fb, Ib, Jb, hr_, hw_, hokb, hIb, hxb, hkb, hrib, htib, hteb, htwb⟩
        subst hr_
        subst hw_
        rw [hIa] at hxb
        refine Z.aload_n hX dX7_value_34 rfl rfl ?_
        refine Z.iconst hX dX7_value_35 ?_
        refine Z.iload_n hX dX7_value_36 rfl rfl ?_
        refine Z.iload_n hX dX7_value_37 rfl rfl ?_
        refine Z.callVfl (As := [.int (zI 2), .int (zI u), .int (zI v)]) (rest := [.long xb, .long xa]) hX 7 0 rfl rfl (ct_X7_valueOf_w l D ce h Fb Ib Jb 2 u v hokb (by rw [hIb, hIa]; exact hbr) hrib htib hteb htwb (by omega) hu hv) mc_X7_valueOf ml_X7_140 im_X7_valueOf se_X7_valueOf ini_X7 nd_X7_valueOf ⟨Nat.le_of_ble_eq_true rfl, Nat.le_of_ble_eq_true rfl⟩ ⟨rfl, rfl⟩ ⟨Nat.le_refl _, Nat.le_refl _⟩ rfl (Nat.le_of_ble_eq_true rfl) dX7_value_38 ?_
        rintro xd w1 ⟨r010, Fd, Id, Jd, hr_, hw_, hokd, hId, hxd, hkd, hrid, htid, hted, htwd⟩
        subst hr_
        subst hw_
        rw [hIb, hIa] at hxd
        refine Z.callS0l (As := [.long xb, .long xd]) (rest := [.long xa]) hX (ct_X7_common l D ce xb xd ) mc_X7_common ml_X7_58 st_X7_common ini_X7 nd_X7_common ⟨Nat.le_of_ble_eq_true rfl, Nat.le_of_ble_eq_true rfl⟩ ⟨rfl, rfl⟩ ⟨Nat.le_refl _, Nat.le_refl _⟩ rfl (Nat.le_of_ble_eq_true rfl) dX7_value_41 ?_
        rintro c1 w1 ⟨r012, hr_, hw_, hc1⟩
        subst hr_
        refine ⟨hw_, ?_⟩
        refine Z.callS0l (As := [.long xa, .long c1]) (rest := []) hX (ct_X7_common l D ce xa c1 ) mc_X7_common ml_X7_58 st_X7_common ini_X7 nd_X7_common ⟨Nat.le_of_ble_eq_true rfl, Nat.le_of_ble_eq_true rfl⟩ ⟨rfl, rfl⟩ ⟨Nat.le_refl _, Nat.le_refl _⟩ rfl (Nat.le_of_ble_eq_true rfl) dX7_value_44 ?_
        rintro c2 w1 ⟨r014, hr_, hw_, hc2⟩
        subst hr_
        refine ⟨hw_, ?_⟩
        refine Z.lstore (lv' := [(4, .long c2), (0, .ref (h 0)), (1, .int (zI u)), (2, .int (zI v)), (3, .int (zI part))]) hX dX7_value_47 (by decide) rfl ?_
        refine Z.lload hX dX7_value_49 rfl ?_
        refine Z.lconst (v := 0) hX dX7_value_51 rfl ?_
        refine Z.lcmp_ne hX 60 dX7_value_52 dX7_value_53 (by decide) ?_ ?_
        · intro c15
          refine Z.aload_n hX dX7_value_60 rfl rfl ?_
          refine Z.iload_n hX dX7_value_61 rfl rfl ?_
          refine Z.iload_n hX dX7_value_62 rfl rfl ?_
          refine Z.iload_n hX dX7_value_63 rfl rfl ?_
          refine Z.callVfl (As := [.int (zI part), .int (zI u), .int (zI v)]) (rest := []) hX 7 0 rfl rfl (ct_X7_valueOf_w l D ce h Fd Id Jd part u v hokd (by rw [hId, hIb, hIa]; exact hbr) hrid htid hted htwd (by omega) hu hv) mc_X7_valueOf ml_X7_140 im_X7_valueOf se_X7_valueOf ini_X7 nd_X7_valueOf ⟨Nat.le_of_ble_eq_true rfl, Nat.le_of_ble_eq_true rfl⟩ ⟨rfl, rfl⟩ ⟨Nat.le_refl _, Nat.le_refl _⟩ rfl (Nat.le_of_ble_eq_true rfl) dX7_value_64 ?_
          rintro xg w1 ⟨r017, Fg, Ig, Jg, hr_, hw_, hokg, hIg, hxg, hkg, hrig, htig, hteg, htwg⟩
          subst hr_
          subst hw_
          rw [hId, hIb, hIa] at hxg
          refine Z.lload hX dX7_value_67 rfl ?_
          refine Z.ldiv hX dX7_value_69 (by assumption) ?_
          refine Z.l2i hX dX7_value_70 ?_
          refine Z.topi (fun z18 hz18 kz18 ez18 => ?_)
          exact hR _ _ _ _ dX7_value_71 ⟨z18, Fg, Ig, Jg, rfl, rfl, hokg, (hIg.trans (hId.trans (hIb.trans hIa))), (fun q => absurd (by omega) q), (fun _ => ⟨c1, c2, by rw [← hxb, ← hxd]; exact hc1, by rw [← hxa]; exact hc2, Or.inr ⟨by assumption, by rw [← hxg]; assumption⟩⟩), hrig, htig, hteg, htwg⟩
        · intro c15
          refine Z.iconst hX dX7_value_56 ?_
          refine Z.goto hX 71 dX7_value_57 (by decide) ?_
          exact hR _ _ _ _ dX7_value_71 ⟨0, Fd, Id, Jd, rfl, rfl, hokd, (hId.trans (hIb.trans hIa)), (fun q => absurd (by omega) q), (fun _ => ⟨c1, c2, by rw [← hxb, ← hxd]; exact hc1, by rw [← hxa]; exact hc2, Or.inl ⟨by assumption, rfl⟩⟩), hrid, htid, hted, htwd⟩
      · intro c4
        refine Z.ldc hX (-1000000) dX7_value_17 co_X7_133 rfl ?_
        exact hR _ _ _ _ dX7_value_19 ⟨((-1000000)), F, I, J, rfl, rfl, hok, rfl, (fun _ => rfl), (fun q => by omega), hri, hti, hte, htw⟩

set_option maxHeartbeats 4000000 in
set_option maxRecDepth 100000 in
theorem ct_X7_at_w (l : Launch) (D : va_G) (ce : Nat → ClassId) (h : Nat → Nat) (F : Nat → Int) (I : Nat → Nat → Int32) (J : Nat → Nat → Int64) (u v pp qq ss : Int) (hok : rOK F I) (hbr : bR (I 0)) (hri : RI F (I 0) (J 0)) (hti : TI F I J) (hte : TIe F I J) (htw : TIw F I J) (hu : -2147483648 ≤ u ∧ u < 2147483648) (hv : -2147483648 ≤ v ∧ v < 2147483648) (hp : -2147483648 ≤ pp ∧ pp < 2147483648) (hq : -2147483648 ≤ qq ∧ qq < 2147483648) (hs : -2147483648 ≤ ss ∧ ss < 2147483648) : Ct l yX7_at cX7_at 8 (some .int) { frames := 7, cells := 0, slots := 0, locals := 200 } 0 0 D (TY ce) [.ref (h 0), .int (zI u), .int (zI v), .int (zI pp), .int (zI qq), .int (zI ss)] (rW ce h F I J) (QI D (TY ce) (fun r w1 => ∃ z : Int, ∃ F2 : Nat → Int, ∃ I2 : Nat → Nat → Int32, ∃ J2 : Nat → Nat → Int64, r = zI z ∧ w1 = rW ce h F2 I2 J2 ∧ (rOK F2 I2) ∧ (I2 0 = I 0) ∧ (¬ ((-9 ≤ u ∧ u ≤ 9 ∧ -9 ≤ v ∧ v ≤ 9 ∧ ¬ (u = 0 ∧ v = 0)) ∧ (-20 ≤ pp ∧ pp ≤ 20 ∧ -20 ≤ qq ∧ qq ≤ 20 ∧ 1 ≤ ss ∧ ss ≤ 9)) → z = -9) ∧ (((-9 ≤ u ∧ u ≤ 9 ∧ -9 ≤ v ∧ v ≤ 9 ∧ ¬ (u = 0 ∧ v = 0)) ∧ (-20 ≤ pp ∧ pp ≤ 20 ∧ -20 ≤ qq ∧ qq ≤ 20 ∧ 1 ≤ ss ∧ ss ≤ 9)) → ((z = 1 ∧ (¬ vOf (I 0) 2 u v = 0 ∧ vOf (I 0) 0 u v * zL ss = zL pp * vOf (I 0) 2 u v ∧ vOf (I 0) 1 u v * zL ss = zL qq * vOf (I 0) 2 u v)) ∨ (z = 0 ∧ ¬ (¬ vOf (I 0) 2 u v = 0 ∧ vOf (I 0) 0 u v * zL ss = zL pp * vOf (I 0) 2 u v ∧ vOf (I 0) 1 u v * zL ss = zL qq * vOf (I 0) 2 u v)))) ∧ (RI F2 (I2 0) (J2 0)) ∧ (TI F2 I2 J2) ∧ (TIe F2 I2 J2) ∧ (TIw F2 I2 J2))) := by
  refine Ct.ofI (by decide) (Nat.le_of_ble_eq_true rfl) ?_
  intro p e s m args below meth c A Q hX hnm hR
  refine Z.pick (lv' := [(0, .ref (h 0)), (1, .int (zI u)), (2, .int (zI v)), (3, .int (zI pp)), (4, .int (zI qq)), (5, .int (zI ss))]) [0, 1, 2, 3, 4, 5] rfl ?_
  refine Z.iload_n hX dX7_at_0 rfl rfl ?_
  refine Z.iload_n hX dX7_at_1 rfl rfl ?_
  refine Z.callS0i (As := [.int (zI u), .int (zI v)]) (rest := []) hX (ct_X7_isParameter l D ce u v (by omega) (by omega)) mc_X7_isParameter ml_X7_137 st_X7_isParameter ini_X7 nd_X7_isParameter ⟨Nat.le_of_ble_eq_true rfl, Nat.le_of_ble_eq_true rfl⟩ ⟨rfl, rfl⟩ ⟨Nat.le_refl _, Nat.le_refl _⟩ rfl (Nat.le_of_ble_eq_true rfl) dX7_at_2 ?_
  rintro r_1 w1 ⟨zp, hr_, hw_, hzp⟩
  subst hr_
  refine ⟨hw_, ?_⟩
  refine Z.if_eq hX 19 dX7_at_5 (by decide) ⟨by omega, by omega⟩ ?_ ?_
  · intro c2
    refine Z.bipush hX dX7_at_19 (by decide) ?_
    exact hR _ _ _ _ dX7_at_21 ⟨(-9), F, I, J, rfl, rfl, hok, rfl, (fun _ => rfl), (fun q => by omega), hri, hti, hte, htw⟩
  · intro c2
    refine Z.iload_n hX dX7_at_8 rfl rfl ?_
    refine Z.iload hX dX7_at_9 rfl ?_
    refine Z.iload hX dX7_at_11 rfl ?_
    refine Z.callS0i (As := [.int (zI pp), .int (zI qq), .int (zI ss)]) (rest := []) hX (ct_X7_isPlace l D ce pp qq ss (by omega) (by omega) (by omega)) mc_X7_isPlace ml_X7_148 st_X7_isPlace ini_X7 nd_X7_isPlace ⟨Nat.le_of_ble_eq_true rfl, Nat.le_of_ble_eq_true rfl⟩ ⟨rfl, rfl⟩ ⟨Nat.le_refl _, Nat.le_refl _⟩ rfl (Nat.le_of_ble_eq_true rfl) dX7_at_13 ?_
    rintro r_3 w1 ⟨zq, hr_, hw_, hzq⟩
    subst hr_
    refine ⟨hw_, ?_⟩
    refine Z.if_ne hX 22 dX7_at_16 (by decide) ⟨by omega, by omega⟩ ?_ ?_
    · intro c4
      refine Z.aload_n hX dX7_at_22 rfl rfl ?_
      refine Z.iconst hX dX7_at_23 ?_
      refine Z.iload_n hX dX7_at_24 rfl rfl ?_
      refine Z.iload_n hX dX7_at_25 rfl rfl ?_
      refine Z.callVfl (As := [.int (zI 2), .int (zI u), .int (zI v)]) (rest := []) hX 7 0 rfl rfl (ct_X7_valueOf_w l D ce h F I J 2 u v hok hbr hri hti hte htw (by omega) hu hv) mc_X7_valueOf ml_X7_140 im_X7_valueOf se_X7_valueOf ini_X7 nd_X7_valueOf ⟨Nat.le_of_ble_eq_true rfl, Nat.le_of_ble_eq_true rfl⟩ ⟨rfl, rfl⟩ ⟨Nat.le_refl _, Nat.le_refl _⟩ rfl (Nat.le_of_ble_eq_true rfl) dX7_at_26 ?_
      rintro xa w1 ⟨r06, Fa, Ia, Ja, hr_, hw_, hoka, hIa, hxa, hka, hria, htia, htea, htwa⟩
      subst hr_
      subst hw_
      refine Z.lstore (lv' := [(6, .long xa), (0, .ref (h 0)), (1, .int (zI u)), (2, .int (zI v)), (3, .int (zI pp)), (4, .int (zI qq)), (5, .int (zI ss))]) hX dX7_at_29 (by decide) rfl ?_
      refine Z.lload hX dX7_at_31 rfl ?_
      refine Z.lconst (v := 0) hX dX7_at_33 rfl ?_
      refine Z.lcmp_eq hX 83 dX7_at_34 dX7_at_35 (by decide) ?_ ?_
      · intro c7
        refine Z.iconst hX dX7_at_83 ?_
        exact hR _ _ _ _ dX7_at_84 ⟨0, Fa, Ia, Ja, rfl, rfl, hoka, hIa, (fun q => absurd (by omega) q), (fun _ => Or.inr ⟨rfl, fun q => q.1 (by rw [← hxa]; assumption)⟩), hria, htia, htea, htwa⟩
      · intro c7
        refine Z.aload_n hX dX7_at_38 rfl rfl ?_
        refine Z.iconst hX dX7_at_39 ?_
        refine Z.iload_n hX dX7_at_40 rfl rfl ?_
        refine Z.iload_n hX dX7_at_41 rfl rfl ?_
        refine Z.callVfl (As := [.int (zI 0), .int (zI u), .int (zI v)]) (rest := []) hX 7 0 rfl rfl (ct_X7_valueOf_w l D ce h Fa Ia Ja 0 u v hoka (by rw [hIa]; exact hbr) hria htia htea htwa (by omega) hu hv) mc_X7_valueOf ml_X7_140 im_X7_valueOf se_X7_valueOf ini_X7 nd_X7_valueOf ⟨Nat.le_of_ble_eq_true rfl, Nat.le_of_ble_eq_true rfl⟩ ⟨rfl, rfl⟩ ⟨Nat.le_refl _, Nat.le_refl _⟩ rfl (Nat.le_of_ble_eq_true rfl) dX7_at_42 ?_
        rintro xb w1 ⟨r09, Fb, Ib, Jb, hr_, hw_, hokb, hIb, hxb, hkb, hrib, htib, hteb, htwb⟩
        subst hr_
        subst hw_
        rw [hIa] at hxb
        refine Z.iload hX dX7_at_45 rfl ?_
        refine Z.i2l hX dX7_at_47 ⟨by omega, by omega⟩ ?_
        refine Z.lmul hX dX7_at_48 ?_
        refine Z.iload_n hX dX7_at_49 rfl rfl ?_
        refine Z.i2l hX dX7_at_50 ⟨by omega, by omega⟩ ?_
        refine Z.lload hX dX7_at_51 rfl ?_
        refine Z.lmul hX dX7_at_53 ?_
        refine Z.lcmp_ne hX 83 dX7_at_54 dX7_at_55 (by decide) ?_ ?_
        · intro c10
          refine Z.iconst hX dX7_at_83 ?_
          exact hR _ _ _ _ dX7_at_84 ⟨0, Fb, Ib, Jb, rfl, rfl, hokb, (hIb.trans hIa), (fun q => absurd (by omega) q), (fun _ => Or.inr ⟨rfl, fun q => by have h2 := q.2.1; rw [← hxa, ← hxb] at h2; exact absurd h2 (by assumption)⟩), hrib, htib, hteb, htwb⟩
        · intro c10
          refine Z.aload_n hX dX7_at_58 rfl rfl ?_
          refine Z.iconst hX dX7_at_59 ?_
          refine Z.iload_n hX dX7_at_60 rfl rfl ?_
          refine Z.iload_n hX dX7_at_61 rfl rfl ?_
          refine Z.callVfl (As := [.int (zI 1), .int (zI u), .int (zI v)]) (rest := []) hX 7 0 rfl rfl (ct_X7_valueOf_w l D ce h Fb Ib Jb 1 u v hokb (by rw [hIb, hIa]; exact hbr) hrib htib hteb htwb (by omega) hu hv) mc_X7_valueOf ml_X7_140 im_X7_valueOf se_X7_valueOf ini_X7 nd_X7_valueOf ⟨Nat.le_of_ble_eq_true rfl, Nat.le_of_ble_eq_true rfl⟩ ⟨rfl, rfl⟩ ⟨Nat.le_refl _, Nat.le_refl _⟩ rfl (Nat.le_of_ble_eq_true rfl) dX7_at_62 ?_
          rintro xd w1 ⟨r012, Fd, Id, Jd, hr_, hw_, hokd, hId, hxd, hkd, hrid, htid, hted, htwd⟩
          subst hr_
          subst hw_
          rw [hIb, hIa] at hxd
          refine Z.iload hX dX7_at_65 rfl ?_
          refine Z.i2l hX dX7_at_67 ⟨by omega, by omega⟩ ?_
          refine Z.lmul hX dX7_at_68 ?_
          refine Z.iload hX dX7_at_69 rfl ?_
          refine Z.i2l hX dX7_at_71 ⟨by omega, by omega⟩ ?_
          refine Z.lload hX dX7_at_72 rfl ?_
          refine Z.lmul hX dX7_at_74 ?_
          refine Z.lcmp_ne hX 83 dX7_at_75 dX7_at_76 (by decide) ?_ ?_
          · intro c13
            refine Z.iconst hX dX7_at_83 ?_
            exact hR _ _ _ _ dX7_at_84 ⟨0, Fd, Id, Jd, rfl, rfl, hokd, (hId.trans (hIb.trans hIa)), (fun q => absurd (by omega) q), (fun _ => Or.inr ⟨rfl, fun q => by have h2 := q.2.2; rw [← hxa, ← hxd] at h2; exact absurd h2 (by assumption)⟩), hrid, htid, hted, htwd⟩
          · intro c13
            refine Z.iconst hX dX7_at_79 ?_
            refine Z.goto hX 84 dX7_at_80 (by decide) ?_
            exact hR _ _ _ _ dX7_at_84 ⟨1, Fd, Id, Jd, rfl, rfl, hokd, (hId.trans (hIb.trans hIa)), (fun q => absurd (by omega) q), (fun _ => Or.inl ⟨rfl, by rw [← hxa]; assumption, by rw [← hxa, ← hxb]; assumption, by rw [← hxa, ← hxd]; assumption⟩), hrid, htid, hted, htwd⟩
    · intro c4
      refine Z.bipush hX dX7_at_19 (by decide) ?_
      exact hR _ _ _ _ dX7_at_21 ⟨(-9), F, I, J, rfl, rfl, hok, rfl, (fun _ => rfl), (fun q => by omega), hri, hti, hte, htw⟩

set_option maxHeartbeats 4000000 in
set_option maxRecDepth 100000 in
theorem ct_X7_trace_w (l : Launch) (D : va_G) (ce : Nat → ClassId) (h : Nat → Nat) (F : Nat → Int) (I : Nat → Nat → Int32) (J : Nat → Nat → Int64) (sort : Int) (hok : rOK F I) (hbr : bR (I 0)) (hri : RI F (I 0) (J 0)) (hti : TI F I J) (hte : TIe F I J) (htw : TIw F I J) (hs : -2147483648 ≤ sort ∧ sort < 2147483648) : Ct l yX7_trace cX7_trace 2 (some .int) { frames := 6, cells := 0, slots := 0, locals := 174 } 0 0 D (TY ce) [.ref (h 0), .int (zI sort)] (rW ce h F I J) (QI D (TY ce) (fun r w1 => ∃ z : Int, ∃ F2 : Nat → Int, ∃ I2 : Nat → Nat → Int32, ∃ J2 : Nat → Nat → Int64, r = zI z ∧ w1 = rW ce h F2 I2 J2 ∧ (rOK F2 I2) ∧ (I2 0 = I 0) ∧ (¬ (sort = 0 ∨ sort = 1) → z = -1) ∧ (RI F2 (I2 0) (J2 0)) ∧ (TI F2 I2 J2) ∧ (TIe F2 I2 J2) ∧ (TIw F2 I2 J2) ∧ ((sort = 0 ∨ sort = 1) → RSP (I 0) F2 J2 sort (fun _ _ D => z = (D : Int)) (z = -2)))) := by
  refine Ct.ofI (by decide) (Nat.le_of_ble_eq_true rfl) ?_
  intro p e s m args below meth c A Q hX hnm hR
  refine Z.pick (lv' := [(0, .ref (h 0)), (1, .int (zI sort))]) [0, 1] rfl ?_
  refine Z.iload_n hX dX7_trace_0 rfl rfl ?_
  refine Z.callS0i (As := [.int (zI sort)]) (rest := []) hX (ct_X7_isSort l D ce sort (by omega)) mc_X7_isSort ml_X7_144 st_X7_isSort ini_X7 nd_X7_isSort ⟨Nat.le_of_ble_eq_true rfl, Nat.le_of_ble_eq_true rfl⟩ ⟨rfl, rfl⟩ ⟨Nat.le_refl _, Nat.le_refl _⟩ rfl (Nat.le_of_ble_eq_true rfl) dX7_trace_1 ?_
  rintro r_1 w1 ⟨zp, hr_, hw_, hzp⟩
  subst hr_
  refine ⟨hw_, ?_⟩
  refine Z.if_ne hX 9 dX7_trace_4 (by decide) ⟨by omega, by omega⟩ ?_ ?_
  · intro c2
    refine Z.aload_n hX dX7_trace_9 rfl rfl ?_
    refine Z.callVfv (As := []) (rest := []) hX 7 0 rfl rfl (ct_X7_work_w l D ce h F I J hok hbr hri hti hte htw) mc_X7_work ml_X7_130 im_X7_work se_X7_work ini_X7 nd_X7_work ⟨Nat.le_of_ble_eq_true rfl, Nat.le_of_ble_eq_true rfl⟩ ⟨rfl, rfl⟩ ⟨Nat.le_refl _, Nat.le_refl _⟩ rfl (Nat.le_of_ble_eq_true rfl) dX7_trace_10 ?_
    rintro w1 ⟨Fw, Iw, Jw, hw_, hokw, hfw, hmow, hIw, hdgw, hfqw, hhtw, hhew, hhww⟩
    subst hw_
    have hriw : RI Fw (Iw 0) (Jw 0) := fun _ => by rw [hIw]; exact hfqw
    have htiw : TI Fw Iw Jw := fun _ => hhtw
    have htew : TIe Fw Iw Jw := fun _ => hhew
    have htww : TIw Fw Iw Jw := fun _ => hhww
    refine Z.aload_n hX dX7_trace_13 rfl rfl ?_
    refine Z.getf hX 7 0 5 dX7_trace_14 rfl rfl inX7 (by decide) fl_X7_17 rfl rfl ?_
    refine Z.iload_n hX dX7_trace_17 rfl rfl ?_
    refine Z.zaload hX 3 2 dX7_trace_18 rfl rfl (by omega) (by omega) (by decide) ?_
    refine Z.topi (fun z4 hz4 kz4 ez4 => ?_)
    refine Z.if_eq hX 31 dX7_trace_19 (by decide) ⟨by omega, by omega⟩ ?_ ?_
    · intro c5
      refine Z.bipush hX dX7_trace_31 (by decide) ?_
      exact hR _ _ _ _ dX7_trace_33 ⟨(-2), Fw, Iw, Jw, rfl, rfl, hokw, hIw, (fun q => absurd (by omega) q), hriw, htiw, htew, htww, (fun hq_ => rs_n (by omega) hIw hfqw hhtw hhew ez4 hz4 kz4 (by first | assumption | omega) rfl)⟩
    · intro c5
      refine Z.aload_n hX dX7_trace_22 rfl rfl ?_
      refine Z.getf hX 7 0 7 dX7_trace_23 rfl rfl inX7 (by decide) fl_X7_24 rfl rfl ?_
      refine Z.iload_n hX dX7_trace_26 rfl rfl ?_
      refine Z.iaload hX 5 0 dX7_trace_27 rfl rfl (by omega) (by omega) (by decide) ?_
      refine Z.topi (fun z6 hz6 kz6 ez6 => ?_)
      refine Z.goto hX 33 dX7_trace_28 (by decide) ?_
      exact hR _ _ _ _ dX7_trace_33 ⟨z6, Fw, Iw, Jw, rfl, rfl, hokw, hIw, (fun q => absurd (by omega) q), hriw, htiw, htew, htww, (fun hq_ => rs_y (by omega) hIw hfqw hhtw hhew hhww ez4 hz4 kz4 (by first | assumption | omega) (fun k_ D_ k6 D6 e2 e3 su_ => (zI_eq ⟨by omega, by omega⟩ ⟨by omega, by omega⟩).mp (ez6.symm.trans e2)))⟩
  · intro c2
    refine Z.iconst hX dX7_trace_7 ?_
    exact hR _ _ _ _ dX7_trace_8 ⟨(-1), F, I, J, rfl, rfl, hok, rfl, (fun _ => rfl), hri, hti, hte, htw, (fun q => absurd q (by omega))⟩

set_option maxHeartbeats 4000000 in
set_option maxRecDepth 100000 in
theorem ct_X7_times_w (l : Launch) (D : va_G) (ce : Nat → ClassId) (h : Nat → Nat) (F : Nat → Int) (I : Nat → Nat → Int32) (J : Nat → Nat → Int64) (sort : Int) (hok : rOK F I) (hbr : bR (I 0)) (hri : RI F (I 0) (J 0)) (hti : TI F I J) (hte : TIe F I J) (htw : TIw F I J) (hs : -2147483648 ≤ sort ∧ sort < 2147483648) : Ct l yX7_times cX7_times 2 (some .int) { frames := 6, cells := 0, slots := 0, locals := 174 } 0 0 D (TY ce) [.ref (h 0), .int (zI sort)] (rW ce h F I J) (QI D (TY ce) (fun r w1 => ∃ z : Int, ∃ F2 : Nat → Int, ∃ I2 : Nat → Nat → Int32, ∃ J2 : Nat → Nat → Int64, r = zI z ∧ w1 = rW ce h F2 I2 J2 ∧ (rOK F2 I2) ∧ (I2 0 = I 0) ∧ (¬ (sort = 0 ∨ sort = 1) → z = -1) ∧ (RI F2 (I2 0) (J2 0)) ∧ (TI F2 I2 J2) ∧ (TIe F2 I2 J2) ∧ (TIw F2 I2 J2) ∧ ((sort = 0 ∨ sort = 1) → RSP (I 0) F2 J2 sort (fun k _ _ => z = (k : Int)) (z = -2)))) := by
  refine Ct.ofI (by decide) (Nat.le_of_ble_eq_true rfl) ?_
  intro p e s m args below meth c A Q hX hnm hR
  refine Z.pick (lv' := [(0, .ref (h 0)), (1, .int (zI sort))]) [0, 1] rfl ?_
  refine Z.iload_n hX dX7_times_0 rfl rfl ?_
  refine Z.callS0i (As := [.int (zI sort)]) (rest := []) hX (ct_X7_isSort l D ce sort (by omega)) mc_X7_isSort ml_X7_144 st_X7_isSort ini_X7 nd_X7_isSort ⟨Nat.le_of_ble_eq_true rfl, Nat.le_of_ble_eq_true rfl⟩ ⟨rfl, rfl⟩ ⟨Nat.le_refl _, Nat.le_refl _⟩ rfl (Nat.le_of_ble_eq_true rfl) dX7_times_1 ?_
  rintro r_1 w1 ⟨zp, hr_, hw_, hzp⟩
  subst hr_
  refine ⟨hw_, ?_⟩
  refine Z.if_ne hX 9 dX7_times_4 (by decide) ⟨by omega, by omega⟩ ?_ ?_
  · intro c2
    refine Z.aload_n hX dX7_times_9 rfl rfl ?_
    refine Z.callVfv (As := []) (rest := []) hX 7 0 rfl rfl (ct_X7_work_w l D ce h F I J hok hbr hri hti hte htw) mc_X7_work ml_X7_130 im_X7_work se_X7_work ini_X7 nd_X7_work ⟨Nat.le_of_ble_eq_true rfl, Nat.le_of_ble_eq_true rfl⟩ ⟨rfl, rfl⟩ ⟨Nat.le_refl _, Nat.le_refl _⟩ rfl (Nat.le_of_ble_eq_true rfl) dX7_times_10 ?_
    rintro w1 ⟨Fw, Iw, Jw, hw_, hokw, hfw, hmow, hIw, hdgw, hfqw, hhtw, hhew, hhww⟩
    subst hw_
    have hriw : RI Fw (Iw 0) (Jw 0) := fun _ => by rw [hIw]; exact hfqw
    have htiw : TI Fw Iw Jw := fun _ => hhtw
    have htew : TIe Fw Iw Jw := fun _ => hhew
    have htww : TIw Fw Iw Jw := fun _ => hhww
    refine Z.aload_n hX dX7_times_13 rfl rfl ?_
    refine Z.getf hX 7 0 5 dX7_times_14 rfl rfl inX7 (by decide) fl_X7_17 rfl rfl ?_
    refine Z.iload_n hX dX7_times_17 rfl rfl ?_
    refine Z.zaload hX 3 2 dX7_times_18 rfl rfl (by omega) (by omega) (by decide) ?_
    refine Z.topi (fun z4 hz4 kz4 ez4 => ?_)
    refine Z.if_eq hX 31 dX7_times_19 (by decide) ⟨by omega, by omega⟩ ?_ ?_
    · intro c5
      refine Z.bipush hX dX7_times_31 (by decide) ?_
      exact hR _ _ _ _ dX7_times_33 ⟨(-2), Fw, Iw, Jw, rfl, rfl, hokw, hIw, (fun q => absurd (by omega) q), hriw, htiw, htew, htww, (fun hq_ => rs_n (by omega) hIw hfqw hhtw hhew ez4 hz4 kz4 (by first | assumption | omega) rfl)⟩
    · intro c5
      refine Z.aload_n hX dX7_times_22 rfl rfl ?_
      refine Z.getf hX 7 0 8 dX7_times_23 rfl rfl inX7 (by decide) fl_X7_27 rfl rfl ?_
      refine Z.iload_n hX dX7_times_26 rfl rfl ?_
      refine Z.iaload hX 6 0 dX7_times_27 rfl rfl (by omega) (by omega) (by decide) ?_
      refine Z.topi (fun z6 hz6 kz6 ez6 => ?_)
      refine Z.goto hX 33 dX7_times_28 (by decide) ?_
      exact hR _ _ _ _ dX7_times_33 ⟨z6, Fw, Iw, Jw, rfl, rfl, hokw, hIw, (fun q => absurd (by omega) q), hriw, htiw, htew, htww, (fun hq_ => rs_y (by omega) hIw hfqw hhtw hhew hhww ez4 hz4 kz4 (by first | assumption | omega) (fun k_ D_ k6 D6 e2 e3 su_ => (zI_eq ⟨by omega, by omega⟩ ⟨by omega, by omega⟩).mp (ez6.symm.trans e3)))⟩
  · intro c2
    refine Z.iconst hX dX7_times_7 ?_
    exact hR _ _ _ _ dX7_times_8 ⟨(-1), F, I, J, rfl, rfl, hok, rfl, (fun _ => rfl), hri, hti, hte, htw, (fun q => absurd q (by omega))⟩

set_option maxHeartbeats 4000000 in
set_option maxRecDepth 100000 in
theorem ct_X7_coefficient_w (l : Launch) (D : va_G) (ce : Nat → ClassId) (h : Nat → Nat) (F : Nat → Int) (I : Nat → Nat → Int32) (J : Nat → Nat → Int64) (sort i j : Int) (hok : rOK F I) (hbr : bR (I 0)) (hri : RI F (I 0) (J 0)) (hti : TI F I J) (hte : TIe F I J) (htw : TIw F I J) (hs : -2147483648 ≤ sort ∧ sort < 2147483648) (hi : -2147483648 ≤ i ∧ i < 2147483648) (hj : -2147483648 ≤ j ∧ j < 2147483648) : Ct l yX7_coefficient cX7_coefficient 4 (some .long) { frames := 6, cells := 0, slots := 0, locals := 174 } 0 0 D (TY ce) [.ref (h 0), .int (zI sort), .int (zI i), .int (zI j)] (rW ce h F I J) (QL D (TY ce) (fun r w1 => ∃ r0 : Int64, ∃ F2 : Nat → Int, ∃ I2 : Nat → Nat → Int32, ∃ J2 : Nat → Nat → Int64, r = r0 ∧ w1 = rW ce h F2 I2 J2 ∧ (rOK F2 I2) ∧ (I2 0 = I 0) ∧ (¬ ((sort = 0 ∨ sort = 1) ∧ 0 ≤ i ∧ i ≤ 6 ∧ 0 ≤ j ∧ j ≤ 6) → r0 = 0) ∧ (RI F2 (I2 0) (J2 0)) ∧ (TI F2 I2 J2) ∧ (TIe F2 I2 J2) ∧ (TIw F2 I2 J2) ∧ (((sort = 0 ∨ sort = 1) ∧ 0 ≤ i ∧ i ≤ 6 ∧ 0 ≤ j ∧ j ≤ 6) → RSP (I 0) F2 J2 sort (fun _ E _ => r0.toInt = E (7 * i.toNat + j.toNat)) (r0 = 0)))) := by
  refine Ct.ofL (by decide) (Nat.le_of_ble_eq_true rfl) ?_
  intro p e s m args below meth c A Q hX hnm hR
  refine Z.pick (lv' := [(0, .ref (h 0)), (1, .int (zI sort)), (2, .int (zI i)), (3, .int (zI j))]) [0, 1, 2, 3] rfl ?_
  refine Z.iload_n hX dX7_coefficient_0 rfl rfl ?_
  refine Z.callS0i (As := [.int (zI sort)]) (rest := []) hX (ct_X7_isSort l D ce sort (by omega)) mc_X7_isSort ml_X7_144 st_X7_isSort ini_X7 nd_X7_isSort ⟨Nat.le_of_ble_eq_true rfl, Nat.le_of_ble_eq_true rfl⟩ ⟨rfl, rfl⟩ ⟨Nat.le_refl _, Nat.le_refl _⟩ rfl (Nat.le_of_ble_eq_true rfl) dX7_coefficient_1 ?_
  rintro r_1 w1 ⟨zp, hr_, hw_, hzp⟩
  subst hr_
  refine ⟨hw_, ?_⟩
  refine Z.if_eq hX 27 dX7_coefficient_4 (by decide) ⟨by omega, by omega⟩ ?_ ?_
  · intro c2
    refine Z.lconst (v := 0) hX dX7_coefficient_27 rfl ?_
    exact hR _ _ _ _ dX7_coefficient_28 ⟨0, F, I, J, rfl, rfl, hok, rfl, (fun _ => rfl), hri, hti, hte, htw, (fun q => absurd q (by omega))⟩
  · intro c2
    refine Z.iload_n hX dX7_coefficient_7 rfl rfl ?_
    refine Z.if_lt hX 27 dX7_coefficient_8 (by decide) ⟨by omega, by omega⟩ ?_ ?_
    · intro c3
      refine Z.lconst (v := 0) hX dX7_coefficient_27 rfl ?_
      exact hR _ _ _ _ dX7_coefficient_28 ⟨0, F, I, J, rfl, rfl, hok, rfl, (fun _ => rfl), hri, hti, hte, htw, (fun q => absurd q (by omega))⟩
    · intro c3
      refine Z.iload_n hX dX7_coefficient_11 rfl rfl ?_
      refine Z.bipush hX dX7_coefficient_12 (by decide) ?_
      refine Z.icmp_gt hX 27 dX7_coefficient_14 (by decide) ⟨by omega, by omega⟩ ⟨by omega, by omega⟩ ?_ ?_
      · intro c4
        refine Z.lconst (v := 0) hX dX7_coefficient_27 rfl ?_
        exact hR _ _ _ _ dX7_coefficient_28 ⟨0, F, I, J, rfl, rfl, hok, rfl, (fun _ => rfl), hri, hti, hte, htw, (fun q => absurd q (by omega))⟩
      · intro c4
        refine Z.iload_n hX dX7_coefficient_17 rfl rfl ?_
        refine Z.if_lt hX 27 dX7_coefficient_18 (by decide) ⟨by omega, by omega⟩ ?_ ?_
        · intro c5
          refine Z.lconst (v := 0) hX dX7_coefficient_27 rfl ?_
          exact hR _ _ _ _ dX7_coefficient_28 ⟨0, F, I, J, rfl, rfl, hok, rfl, (fun _ => rfl), hri, hti, hte, htw, (fun q => absurd q (by omega))⟩
        · intro c5
          refine Z.iload_n hX dX7_coefficient_21 rfl rfl ?_
          refine Z.bipush hX dX7_coefficient_22 (by decide) ?_
          refine Z.icmp_le hX 29 dX7_coefficient_24 (by decide) ⟨by omega, by omega⟩ ⟨by omega, by omega⟩ ?_ ?_
          · intro c6
            refine Z.aload_n hX dX7_coefficient_29 rfl rfl ?_
            refine Z.callVfv (As := []) (rest := []) hX 7 0 rfl rfl (ct_X7_work_w l D ce h F I J hok hbr hri hti hte htw) mc_X7_work ml_X7_130 im_X7_work se_X7_work ini_X7 nd_X7_work ⟨Nat.le_of_ble_eq_true rfl, Nat.le_of_ble_eq_true rfl⟩ ⟨rfl, rfl⟩ ⟨Nat.le_refl _, Nat.le_refl _⟩ rfl (Nat.le_of_ble_eq_true rfl) dX7_coefficient_30 ?_
            rintro w1 ⟨Fw, Iw, Jw, hw_, hokw, hfw, hmow, hIw, hdgw, hfqw, hhtw, hhew, hhww⟩
            subst hw_
            have hriw : RI Fw (Iw 0) (Jw 0) := fun _ => by rw [hIw]; exact hfqw
            have htiw : TI Fw Iw Jw := fun _ => hhtw
            have htew : TIe Fw Iw Jw := fun _ => hhew
            have htww : TIw Fw Iw Jw := fun _ => hhww
            refine Z.aload_n hX dX7_coefficient_33 rfl rfl ?_
            refine Z.getf hX 7 0 5 dX7_coefficient_34 rfl rfl inX7 (by decide) fl_X7_17 rfl rfl ?_
            refine Z.iload_n hX dX7_coefficient_37 rfl rfl ?_
            refine Z.zaload hX 3 2 dX7_coefficient_38 rfl rfl (by omega) (by omega) (by decide) ?_
            refine Z.topi (fun z8 hz8 kz8 ez8 => ?_)
            refine Z.if_eq hX 61 dX7_coefficient_39 (by decide) ⟨by omega, by omega⟩ ?_ ?_
            · intro c9
              refine Z.lconst (v := 0) hX dX7_coefficient_61 rfl ?_
              exact hR _ _ _ _ dX7_coefficient_62 ⟨0, Fw, Iw, Jw, rfl, rfl, hokw, hIw, (fun q => absurd (by omega) q), hriw, htiw, htew, htww, (fun hq_ => rs_n (by omega) hIw hfqw hhtw hhew ez8 hz8 kz8 (by first | assumption | omega) rfl)⟩
            · intro c9
              refine Z.aload_n hX dX7_coefficient_42 rfl rfl ?_
              refine Z.getf hX 7 0 6 dX7_coefficient_43 rfl rfl inX7 (by decide) fl_X7_21 rfl rfl ?_
              refine Z.bipush hX dX7_coefficient_46 (by decide) ?_
              refine Z.iload_n hX dX7_coefficient_48 rfl rfl ?_
              refine Z.imul hX dX7_coefficient_49 ?_
              refine Z.bipush hX dX7_coefficient_50 (by decide) ?_
              refine Z.iload_n hX dX7_coefficient_52 rfl rfl ?_
              refine Z.imul hX dX7_coefficient_53 ?_
              refine Z.iadd hX dX7_coefficient_54 ?_
              refine Z.iload_n hX dX7_coefficient_55 rfl rfl ?_
              refine Z.iadd hX dX7_coefficient_56 ?_
              refine Z.laload hX 4 1 dX7_coefficient_57 rfl rfl (by omega) (by omega) (by decide) ?_
              refine Z.goto hX 62 dX7_coefficient_58 (by decide) ?_
              exact hR _ _ _ _ dX7_coefficient_62 ⟨(Jw 1 (((49 * sort) + (7 * i)) + j : Int).toNat), Fw, Iw, Jw, rfl, rfl, hokw, hIw, (fun q => absurd (by omega) q), hriw, htiw, htew, htww, (fun hq_ => rs_y (by omega) hIw hfqw hhtw hhew hhww ez8 hz8 kz8 (by first | assumption | omega) (fun k_ D_ k6 D6 e2 e3 su_ => by show (Jw 1 _).toInt = (Jw 1 _).toInt; congr 2; omega))⟩
          · intro c6
            refine Z.lconst (v := 0) hX dX7_coefficient_27 rfl ?_
            exact hR _ _ _ _ dX7_coefficient_28 ⟨0, F, I, J, rfl, rfl, hok, rfl, (fun _ => rfl), hri, hti, hte, htw, (fun q => absurd q (by omega))⟩

set_option maxHeartbeats 4000000 in
set_option maxRecDepth 100000 in
theorem ct_X7_follows_w (l : Launch) (D : va_G) (ce : Nat → ClassId) (h : Nat → Nat) (F : Nat → Int) (I : Nat → Nat → Int32) (J : Nat → Nat → Int64) (u v : Int) (hok : rOK F I) (hbr : bR (I 0)) (hri : RI F (I 0) (J 0)) (hti : TI F I J) (hte : TIe F I J) (htw : TIw F I J) (hu : -2147483648 ≤ u ∧ u < 2147483648) (hv : -2147483648 ≤ v ∧ v < 2147483648) : Ct l yX7_follows cX7_follows 5 (some .int) { frames := 7, cells := 0, slots := 0, locals := 200 } 0 0 D (TY ce) [.ref (h 0), .int (zI u), .int (zI v)] (rW ce h F I J) (QI D (TY ce) (fun r w1 => ∃ z : Int, ∃ F2 : Nat → Int, ∃ I2 : Nat → Nat → Int32, ∃ J2 : Nat → Nat → Int64, r = zI z ∧ w1 = rW ce h F2 I2 J2 ∧ (rOK F2 I2) ∧ (I2 0 = I 0) ∧ (¬ (-9 ≤ u ∧ u ≤ 9 ∧ -9 ≤ v ∧ v ≤ 9 ∧ ¬ (u = 0 ∧ v = 0)) → z = -1) ∧ (RI F2 (I2 0) (J2 0)) ∧ (TI F2 I2 J2) ∧ (TIe F2 I2 J2) ∧ (TIw F2 I2 J2) ∧ ((-9 ≤ u ∧ u ≤ 9 ∧ -9 ≤ v ∧ v ≤ 9 ∧ ¬ (u = 0 ∧ v = 0)) → FQ (I 0) F2 (J2 0) ∧ FOL (HS (fP (J2 0)) (F2 1)) (vOf (I 0) 2 u v) z))) := by
  refine Ct.ofI (by decide) (Nat.le_of_ble_eq_true rfl) ?_
  intro p e s m args below meth c A Q hX hnm hR
  refine Z.pick (lv' := [(0, .ref (h 0)), (1, .int (zI u)), (2, .int (zI v))]) [0, 1, 2] rfl ?_
  refine Z.iload_n hX dX7_follows_0 rfl rfl ?_
  refine Z.iload_n hX dX7_follows_1 rfl rfl ?_
  refine Z.callS0i (As := [.int (zI u), .int (zI v)]) (rest := []) hX (ct_X7_isParameter l D ce u v (by omega) (by omega)) mc_X7_isParameter ml_X7_137 st_X7_isParameter ini_X7 nd_X7_isParameter ⟨Nat.le_of_ble_eq_true rfl, Nat.le_of_ble_eq_true rfl⟩ ⟨rfl, rfl⟩ ⟨Nat.le_refl _, Nat.le_refl _⟩ rfl (Nat.le_of_ble_eq_true rfl) dX7_follows_2 ?_
  rintro r_1 w1 ⟨zp, hr_, hw_, hzp⟩
  subst hr_
  refine ⟨hw_, ?_⟩
  refine Z.if_ne hX 10 dX7_follows_5 (by decide) ⟨by omega, by omega⟩ ?_ ?_
  · intro c2
    refine Z.aload_n hX dX7_follows_10 rfl rfl ?_
    refine Z.iconst hX dX7_follows_11 ?_
    refine Z.iload_n hX dX7_follows_12 rfl rfl ?_
    refine Z.iload_n hX dX7_follows_13 rfl rfl ?_
    refine Z.callVfl (As := [.int (zI 2), .int (zI u), .int (zI v)]) (rest := []) hX 7 0 rfl rfl (ct_X7_valueOf_w l D ce h F I J 2 u v hok hbr hri hti hte htw (by omega) hu hv) mc_X7_valueOf ml_X7_140 im_X7_valueOf se_X7_valueOf ini_X7 nd_X7_valueOf ⟨Nat.le_of_ble_eq_true rfl, Nat.le_of_ble_eq_true rfl⟩ ⟨rfl, rfl⟩ ⟨Nat.le_refl _, Nat.le_refl _⟩ rfl (Nat.le_of_ble_eq_true rfl) dX7_follows_14 ?_
    rintro xa w1 ⟨r04, Fa, Ia, Ja, hr_, hw_, hoka, hIa, hxa, hka, hria, htia, htea, htwa⟩
    subst hr_
    subst hw_
    refine Z.lstore_n (lv' := [(3, .long xa), (0, .ref (h 0)), (1, .int (zI u)), (2, .int (zI v))]) hX dX7_follows_17 rfl (by decide) rfl ?_
    refine Z.aload_n hX dX7_follows_18 rfl rfl ?_
    refine Z.getf hX 7 0 5 dX7_follows_19 rfl rfl inX7 (by decide) fl_X7_17 rfl rfl ?_
    refine Z.iconst hX dX7_follows_22 ?_
    refine Z.zaload hX 3 2 dX7_follows_23 rfl rfl (by omega) (by omega) (by decide) ?_
    refine Z.topi (fun z5 hz5 kz5 ez5 => ?_)
    obtain ⟨hn0, hn1⟩ := fo_has (htia hka) ez5 hz5 kz5
    have hfqa : FQ (I 0) Fa (Ja 0) := by rw [← hIa]; exact hria hka
    refine Z.if_eq hX 33 dX7_follows_24 (by decide) ⟨by omega, by omega⟩ ?_ ?_
    · intro c6
      refine Z.bipush hX dX7_follows_33 (by decide) ?_
      exact hR _ _ _ _ dX7_follows_35 ⟨(-2), Fa, Ia, Ja, rfl, rfl, hoka, hIa, (fun q => absurd (by omega) q), hria, htia, htea, htwa, (fun _ => ⟨hfqa, fun q => by first | exact absurd q.1 (hn0 (by assumption)) | exact absurd (hxa.symm.trans (by assumption)) q.2 | exact absurd (by assumption) q.2, fun _ => rfl⟩)⟩
    · intro c6
      refine Z.lload_n hX dX7_follows_27 rfl rfl ?_
      refine Z.lconst (v := 0) hX dX7_follows_28 rfl ?_
      refine Z.lcmp_ne hX 36 dX7_follows_29 dX7_follows_30 (by decide) ?_ ?_
      · intro c7
        refine Z.aload_n hX dX7_follows_36 rfl rfl ?_
        refine Z.iconst hX dX7_follows_37 ?_
        refine Z.aload_n hX dX7_follows_38 rfl rfl ?_
        refine Z.iconst hX dX7_follows_39 ?_
        refine Z.iload_n hX dX7_follows_40 rfl rfl ?_
        refine Z.iload_n hX dX7_follows_41 rfl rfl ?_
        refine Z.callVfl (As := [.int (zI 0), .int (zI u), .int (zI v)]) (rest := [.int (zI 0), .ref (h 0)]) hX 7 0 rfl rfl (ct_X7_valueOf_w l D ce h Fa Ia Ja 0 u v hoka (by rw [hIa]; exact hbr) hria htia htea htwa (by omega) hu hv) mc_X7_valueOf ml_X7_140 im_X7_valueOf se_X7_valueOf ini_X7 nd_X7_valueOf ⟨Nat.le_of_ble_eq_true rfl, Nat.le_of_ble_eq_true rfl⟩ ⟨rfl, rfl⟩ ⟨Nat.le_refl _, Nat.le_refl _⟩ rfl (Nat.le_of_ble_eq_true rfl) dX7_follows_42 ?_
        rintro xb w1 ⟨r09, Fb, Ib, Jb, hr_, hw_, hokb, hIb, hxb, hkb, hrib, htib, hteb, htwb⟩
        subst hr_
        subst hw_
        refine Z.aload_n hX dX7_follows_45 rfl rfl ?_
        refine Z.iconst hX dX7_follows_46 ?_
        refine Z.iload_n hX dX7_follows_47 rfl rfl ?_
        refine Z.iload_n hX dX7_follows_48 rfl rfl ?_
        refine Z.callVfl (As := [.int (zI 1), .int (zI u), .int (zI v)]) (rest := [.long xb, .int (zI 0), .ref (h 0)]) hX 7 0 rfl rfl (ct_X7_valueOf_w l D ce h Fb Ib Jb 1 u v hokb (by rw [hIb, hIa]; exact hbr) hrib htib hteb htwb (by omega) hu hv) mc_X7_valueOf ml_X7_140 im_X7_valueOf se_X7_valueOf ini_X7 nd_X7_valueOf ⟨Nat.le_of_ble_eq_true rfl, Nat.le_of_ble_eq_true rfl⟩ ⟨rfl, rfl⟩ ⟨Nat.le_refl _, Nat.le_refl _⟩ rfl (Nat.le_of_ble_eq_true rfl) dX7_follows_49 ?_
        rintro xd w1 ⟨r011, Fd, Id, Jd, hr_, hw_, hokd, hId, hxd, hkd, hrid, htid, hted, htwd⟩
        subst hr_
        subst hw_
        have hfqd : FQ (I 0) Fd (Jd 0) := by rw [← hIa, ← hIb, ← hId]; exact hrid hkd
        have hsd : HS (fP (Jd 0)) (Fd 1) := HS_uq hfqa hfqd (hn1 (by assumption))
        obtain ⟨Dg, hD1, hD2, hD3, hD4, hD5⟩ := ((htid hkd).1 hsd).2
        have exb : xb = vOf (I 0) 0 u v := by rw [hxb, hIa]
        have exd : xd = vOf (I 0) 1 u v := by rw [hxd, hIb, hIa]
        have hw0 : ¬ vOf (I 0) 2 u v = 0 := by rw [← hxa]; assumption
        refine Z.lload_n hX dX7_follows_52 rfl rfl ?_
        refine Z.callVfi (As := [.int (zI 0), .long xb, .long xd, .long xa]) (rest := []) hX 7 0 rfl rfl (ct_X7_isOn_y l D ce h Fd Id Jd xb xd xa Dg ⟨hD1, hD2, hD3⟩ hD4) mc_X7_isOn ml_X7_165 im_X7_isOn se_X7_isOn ini_X7 nd_X7_isOn ⟨Nat.le_of_ble_eq_true rfl, Nat.le_of_ble_eq_true rfl⟩ ⟨rfl, rfl⟩ ⟨Nat.le_refl _, Nat.le_refl _⟩ rfl (Nat.le_of_ble_eq_true rfl) dX7_follows_53 ?_
        rintro r_12 w1 ⟨zo, hr_, hw_, ho1, ho2⟩
        subst hr_
        subst hw_
        have hz1 : zo = 1 := ho2 (by rw [exb, exd, hxa]; exact tr_ts hbr hfqd hsd.1 (by omega) (by omega) ⟨hD1, hD2⟩ hD4 hD5 hw0)
        exact hR _ _ _ _ dX7_follows_56 ⟨zo, Fd, Id, Jd, rfl, rfl, hokd, (hId.trans (hIb.trans hIa)), (fun q => absurd (by omega) q), hrid, htid, hted, htwd, (fun _ => ⟨hfqd, fun _ => hz1, fun q => absurd ⟨hsd, hw0⟩ q⟩)⟩
      · intro c7
        refine Z.bipush hX dX7_follows_33 (by decide) ?_
        exact hR _ _ _ _ dX7_follows_35 ⟨(-2), Fa, Ia, Ja, rfl, rfl, hoka, hIa, (fun q => absurd (by omega) q), hria, htia, htea, htwa, (fun _ => ⟨hfqa, fun q => by first | exact absurd q.1 (hn0 (by assumption)) | exact absurd (hxa.symm.trans (by assumption)) q.2 | exact absurd (by assumption) q.2, fun _ => rfl⟩)⟩
  · intro c2
    refine Z.iconst hX dX7_follows_8 ?_
    exact hR _ _ _ _ dX7_follows_9 ⟨(-1), F, I, J, rfl, rfl, hok, rfl, (fun _ => rfl), hri, hti, hte, htw, (fun q => absurd q (by omega))⟩

set_option maxHeartbeats 4000000 in
set_option maxRecDepth 100000 in
theorem ct_X7_touches_w (l : Launch) (D : va_G) (ce : Nat → ClassId) (h : Nat → Nat) (F : Nat → Int) (I : Nat → Nat → Int32) (J : Nat → Nat → Int64) (u v : Int) (hok : rOK F I) (hbr : bR (I 0)) (hri : RI F (I 0) (J 0)) (hti : TI F I J) (hte : TIe F I J) (htw : TIw F I J) (hu : -2147483648 ≤ u ∧ u < 2147483648) (hv : -2147483648 ≤ v ∧ v < 2147483648) : Ct l yX7_touches cX7_touches 17 (some .int) { frames := 6, cells := 0, slots := 0, locals := 174 } 0 0 D (TY ce) [.ref (h 0), .int (zI u), .int (zI v)] (rW ce h F I J) (QI D (TY ce) (fun r w1 => ∃ z : Int, ∃ F2 : Nat → Int, ∃ I2 : Nat → Nat → Int32, ∃ J2 : Nat → Nat → Int64, r = zI z ∧ w1 = rW ce h F2 I2 J2 ∧ (rOK F2 I2) ∧ (I2 0 = I 0) ∧ (¬ (-9 ≤ u ∧ u ≤ 9 ∧ -9 ≤ v ∧ v ≤ 9 ∧ ¬ (u = 0 ∧ v = 0)) → z = -1) ∧ (RI F2 (I2 0) (J2 0)) ∧ (TI F2 I2 J2) ∧ (TIe F2 I2 J2) ∧ (TIw F2 I2 J2) ∧ ((-9 ≤ u ∧ u ≤ 9 ∧ -9 ≤ v ∧ v ≤ 9 ∧ ¬ (u = 0 ∧ v = 0)) → TCH (HE (I 0)) (crs2 (ti (rP (I 0) 0)) (ti (rP (I 0) 1)) (moK (I 0) 5).toNat u v) z))) := by
  refine Ct.ofI (by decide) (Nat.le_of_ble_eq_true rfl) ?_
  intro p e s m args below meth c A Q hX hnm hR
  refine Z.pick (lv' := [(0, .ref (h 0)), (1, .int (zI u)), (2, .int (zI v))]) [0, 1, 2] rfl ?_
  refine Z.iload_n hX dX7_touches_0 rfl rfl ?_
  refine Z.iload_n hX dX7_touches_1 rfl rfl ?_
  refine Z.callS0i (As := [.int (zI u), .int (zI v)]) (rest := []) hX (ct_X7_isParameter l D ce u v (by omega) (by omega)) mc_X7_isParameter ml_X7_137 st_X7_isParameter ini_X7 nd_X7_isParameter ⟨Nat.le_of_ble_eq_true rfl, Nat.le_of_ble_eq_true rfl⟩ ⟨rfl, rfl⟩ ⟨Nat.le_refl _, Nat.le_refl _⟩ rfl (Nat.le_of_ble_eq_true rfl) dX7_touches_2 ?_
  rintro r_1 w1 ⟨zp, hr_, hw_, hzp⟩
  subst hr_
  refine ⟨hw_, ?_⟩
  refine Z.if_ne hX 10 dX7_touches_5 (by decide) ⟨by omega, by omega⟩ ?_ ?_
  · intro c2
    refine Z.aload_n hX dX7_touches_10 rfl rfl ?_
    refine Z.callVfv (As := []) (rest := []) hX 7 0 rfl rfl (ct_X7_work_w l D ce h F I J hok hbr hri hti hte htw) mc_X7_work ml_X7_130 im_X7_work se_X7_work ini_X7 nd_X7_work ⟨Nat.le_of_ble_eq_true rfl, Nat.le_of_ble_eq_true rfl⟩ ⟨rfl, rfl⟩ ⟨Nat.le_refl _, Nat.le_refl _⟩ rfl (Nat.le_of_ble_eq_true rfl) dX7_touches_11 ?_
    rintro w1 ⟨Fw, Iw, Jw, hw_, hokw, hfw, hmow, hIw, hdgw, hfqw, hhtw, hhew, hhww⟩
    subst hw_
    have hriw : RI Fw (Iw 0) (Jw 0) := fun _ => by rw [hIw]; exact hfqw
    have htiw : TI Fw Iw Jw := fun _ => hhtw
    have htew : TIe Fw Iw Jw := fun _ => hhew
    have htww : TIw Fw Iw Jw := fun _ => hhww
    refine Z.aload_n hX dX7_touches_14 rfl rfl ?_
    refine Z.getf hX 7 0 5 dX7_touches_15 rfl rfl inX7 (by decide) fl_X7_17 rfl rfl ?_
    refine Z.iconst hX dX7_touches_18 ?_
    refine Z.zaload hX 3 2 dX7_touches_19 rfl rfl (by omega) (by omega) (by decide) ?_
    refine Z.topi (fun z4 hz4 kz4 ez4 => ?_)
    obtain ⟨hn0, hn1⟩ := he_has hhew ez4 hz4 kz4
    have hm5 : Fw 0 = moK (Iw 0) 5 := by rw [hIw]; exact hmow
    refine Z.if_ne hX 26 dX7_touches_20 (by decide) ⟨by omega, by omega⟩ ?_ ?_
    · intro c5
      have hHE : HE (Iw 0) := hn1 (by assumption)
      have h2N := hHE.1
      refine Z.aload_n hX dX7_touches_26 rfl rfl ?_
      refine Z.iconst hX dX7_touches_27 ?_
      refine Z.iconst hX dX7_touches_28 ?_
      refine Z.iload_n hX dX7_touches_29 rfl rfl ?_
      refine Z.iload_n hX dX7_touches_30 rfl rfl ?_
      refine Z.callVfl (As := [.int (zI 0), .int (zI 0), .int (zI u), .int (zI v)]) (rest := []) hX 7 0 rfl rfl (ct_X7_slope_z l D ce h Fw Iw Jw 0 0 u v (by omega) (by omega) (by omega) hu hv) mc_X7_slope ml_X7_169 im_X7_slope se_X7_slope ini_X7 nd_X7_slope ⟨Nat.le_of_ble_eq_true rfl, Nat.le_of_ble_eq_true rfl⟩ ⟨rfl, rfl⟩ ⟨Nat.le_refl _, Nat.le_refl _⟩ rfl (Nat.le_of_ble_eq_true rfl) dX7_touches_31 ?_
      rintro sa w1 ⟨r07, hr_, hw_, hsa⟩
      subst hr_
      subst hw_
      refine Z.lstore_n (lv' := [(3, .long sa), (0, .ref (h 0)), (1, .int (zI u)), (2, .int (zI v))]) hX dX7_touches_34 rfl (by decide) rfl ?_
      refine Z.aload_n hX dX7_touches_35 rfl rfl ?_
      refine Z.iconst hX dX7_touches_36 ?_
      refine Z.iconst hX dX7_touches_37 ?_
      refine Z.iload_n hX dX7_touches_38 rfl rfl ?_
      refine Z.iload_n hX dX7_touches_39 rfl rfl ?_
      refine Z.callVfl (As := [.int (zI 1), .int (zI 0), .int (zI u), .int (zI v)]) (rest := []) hX 7 0 rfl rfl (ct_X7_slope_z l D ce h Fw Iw Jw 1 0 u v (by omega) (by omega) (by omega) hu hv) mc_X7_slope ml_X7_169 im_X7_slope se_X7_slope ini_X7 nd_X7_slope ⟨Nat.le_of_ble_eq_true rfl, Nat.le_of_ble_eq_true rfl⟩ ⟨rfl, rfl⟩ ⟨Nat.le_refl _, Nat.le_refl _⟩ rfl (Nat.le_of_ble_eq_true rfl) dX7_touches_40 ?_
      rintro sb w1 ⟨r09, hr_, hw_, hsb⟩
      subst hr_
      subst hw_
      refine Z.lstore (lv' := [(5, .long sb), (3, .long sa), (0, .ref (h 0)), (1, .int (zI u)), (2, .int (zI v))]) hX dX7_touches_43 (by decide) rfl ?_
      refine Z.aload_n hX dX7_touches_45 rfl rfl ?_
      refine Z.iconst hX dX7_touches_46 ?_
      refine Z.iconst hX dX7_touches_47 ?_
      refine Z.iload_n hX dX7_touches_48 rfl rfl ?_
      refine Z.iload_n hX dX7_touches_49 rfl rfl ?_
      refine Z.callVfl (As := [.int (zI 2), .int (zI 0), .int (zI u), .int (zI v)]) (rest := []) hX 7 0 rfl rfl (ct_X7_slope_z l D ce h Fw Iw Jw 2 0 u v (by omega) (by omega) (by omega) hu hv) mc_X7_slope ml_X7_169 im_X7_slope se_X7_slope ini_X7 nd_X7_slope ⟨Nat.le_of_ble_eq_true rfl, Nat.le_of_ble_eq_true rfl⟩ ⟨rfl, rfl⟩ ⟨Nat.le_refl _, Nat.le_refl _⟩ rfl (Nat.le_of_ble_eq_true rfl) dX7_touches_50 ?_
      rintro sc w1 ⟨r011, hr_, hw_, hsc⟩
      subst hr_
      subst hw_
      refine Z.lstore (lv' := [(7, .long sc), (5, .long sb), (3, .long sa), (0, .ref (h 0)), (1, .int (zI u)), (2, .int (zI v))]) hX dX7_touches_53 (by decide) rfl ?_
      refine Z.aload_n hX dX7_touches_55 rfl rfl ?_
      refine Z.iconst hX dX7_touches_56 ?_
      refine Z.iconst hX dX7_touches_57 ?_
      refine Z.iload_n hX dX7_touches_58 rfl rfl ?_
      refine Z.iload_n hX dX7_touches_59 rfl rfl ?_
      refine Z.callVfl (As := [.int (zI 0), .int (zI 1), .int (zI u), .int (zI v)]) (rest := []) hX 7 0 rfl rfl (ct_X7_slope_z l D ce h Fw Iw Jw 0 1 u v (by omega) (by omega) (by omega) hu hv) mc_X7_slope ml_X7_169 im_X7_slope se_X7_slope ini_X7 nd_X7_slope ⟨Nat.le_of_ble_eq_true rfl, Nat.le_of_ble_eq_true rfl⟩ ⟨rfl, rfl⟩ ⟨Nat.le_refl _, Nat.le_refl _⟩ rfl (Nat.le_of_ble_eq_true rfl) dX7_touches_60 ?_
      rintro sd w1 ⟨r013, hr_, hw_, hsd⟩
      subst hr_
      subst hw_
      refine Z.lstore (lv' := [(9, .long sd), (7, .long sc), (5, .long sb), (3, .long sa), (0, .ref (h 0)), (1, .int (zI u)), (2, .int (zI v))]) hX dX7_touches_63 (by decide) rfl ?_
      refine Z.aload_n hX dX7_touches_65 rfl rfl ?_
      refine Z.iconst hX dX7_touches_66 ?_
      refine Z.iconst hX dX7_touches_67 ?_
      refine Z.iload_n hX dX7_touches_68 rfl rfl ?_
      refine Z.iload_n hX dX7_touches_69 rfl rfl ?_
      refine Z.callVfl (As := [.int (zI 1), .int (zI 1), .int (zI u), .int (zI v)]) (rest := []) hX 7 0 rfl rfl (ct_X7_slope_z l D ce h Fw Iw Jw 1 1 u v (by omega) (by omega) (by omega) hu hv) mc_X7_slope ml_X7_169 im_X7_slope se_X7_slope ini_X7 nd_X7_slope ⟨Nat.le_of_ble_eq_true rfl, Nat.le_of_ble_eq_true rfl⟩ ⟨rfl, rfl⟩ ⟨Nat.le_refl _, Nat.le_refl _⟩ rfl (Nat.le_of_ble_eq_true rfl) dX7_touches_70 ?_
      rintro se w1 ⟨r015, hr_, hw_, hse⟩
      subst hr_
      subst hw_
      refine Z.lstore (lv' := [(11, .long se), (9, .long sd), (7, .long sc), (5, .long sb), (3, .long sa), (0, .ref (h 0)), (1, .int (zI u)), (2, .int (zI v))]) hX dX7_touches_73 (by decide) rfl ?_
      refine Z.aload_n hX dX7_touches_75 rfl rfl ?_
      refine Z.iconst hX dX7_touches_76 ?_
      refine Z.iconst hX dX7_touches_77 ?_
      refine Z.iload_n hX dX7_touches_78 rfl rfl ?_
      refine Z.iload_n hX dX7_touches_79 rfl rfl ?_
      refine Z.callVfl (As := [.int (zI 2), .int (zI 1), .int (zI u), .int (zI v)]) (rest := []) hX 7 0 rfl rfl (ct_X7_slope_z l D ce h Fw Iw Jw 2 1 u v (by omega) (by omega) (by omega) hu hv) mc_X7_slope ml_X7_169 im_X7_slope se_X7_slope ini_X7 nd_X7_slope ⟨Nat.le_of_ble_eq_true rfl, Nat.le_of_ble_eq_true rfl⟩ ⟨rfl, rfl⟩ ⟨Nat.le_refl _, Nat.le_refl _⟩ rfl (Nat.le_of_ble_eq_true rfl) dX7_touches_80 ?_
      rintro sf w1 ⟨r017, hr_, hw_, hsf⟩
      subst hr_
      subst hw_
      refine Z.lstore (lv' := [(13, .long sf), (11, .long se), (9, .long sd), (7, .long sc), (5, .long sb), (3, .long sa), (0, .ref (h 0)), (1, .int (zI u)), (2, .int (zI v))]) hX dX7_touches_83 (by decide) rfl ?_
      refine Z.lload_n hX dX7_touches_85 rfl rfl ?_
      refine Z.lload hX dX7_touches_86 rfl ?_
      refine Z.lmul hX dX7_touches_88 ?_
      refine Z.lload hX dX7_touches_89 rfl ?_
      refine Z.lload hX dX7_touches_91 rfl ?_
      refine Z.lmul hX dX7_touches_93 ?_
      refine Z.lsub hX dX7_touches_94 ?_
      refine Z.lstore (lv' := [(15, .long ((sa * se) - (sb * sd))), (13, .long sf), (11, .long se), (9, .long sd), (7, .long sc), (5, .long sb), (3, .long sa), (0, .ref (h 0)), (1, .int (zI u)), (2, .int (zI v))]) hX dX7_touches_95 (by decide) rfl ?_
      rw [hm5] at hsa hsb hsc hsd hse hsf
      obtain ⟨hcr, hfe⟩ := tc_1 (r := Iw 0) (by rw [hIw]; exact hbr) (by omega) (show -9 ≤ u ∧ u ≤ 9 ∧ -9 ≤ v ∧ v ≤ 9 ∧ ¬ (u = 0 ∧ v = 0) by omega) hsa hsb hsc hsd hse hsf
      refine Z.lload hX dX7_touches_97 rfl ?_
      refine Z.lconst (v := 0) hX dX7_touches_99 rfl ?_
      refine Z.lcmp_ne hX 107 dX7_touches_100 dX7_touches_101 (by decide) ?_ ?_
      · intro c18
        have hw0 : ¬ (sa * se - sb * sd).toInt = 0 := fun y => absurd (i64_z y) (by assumption)
        obtain ⟨Dg, hD1, hD2, hD3, hD4, hD5⟩ := (hhew.1 hHE).2
        refine Z.aload_n hX dX7_touches_107 rfl rfl ?_
        refine Z.iconst hX dX7_touches_108 ?_
        refine Z.lload hX dX7_touches_109 rfl ?_
        refine Z.lload hX dX7_touches_111 rfl ?_
        refine Z.lmul hX dX7_touches_113 ?_
        refine Z.lload hX dX7_touches_114 rfl ?_
        refine Z.lload hX dX7_touches_116 rfl ?_
        refine Z.lmul hX dX7_touches_118 ?_
        refine Z.lsub hX dX7_touches_119 ?_
        refine Z.lload hX dX7_touches_120 rfl ?_
        refine Z.lload hX dX7_touches_122 rfl ?_
        refine Z.lmul hX dX7_touches_124 ?_
        refine Z.lload_n hX dX7_touches_125 rfl rfl ?_
        refine Z.lload hX dX7_touches_126 rfl ?_
        refine Z.lmul hX dX7_touches_128 ?_
        refine Z.lsub hX dX7_touches_129 ?_
        refine Z.lload hX dX7_touches_130 rfl ?_
        refine Z.callVfi (As := [.int (zI 1), .long ((sb * sf) - (sc * se)), .long ((sc * sd) - (sa * sf)), .long ((sa * se) - (sb * sd))]) (rest := []) hX 7 0 rfl rfl (ct_X7_isOn_z l D ce h Fw Iw Jw ((sb * sf) - (sc * se)) ((sc * sd) - (sa * sf)) ((sa * se) - (sb * sd)) Dg ⟨hD1, hD2, hD3⟩ hD4) mc_X7_isOn ml_X7_165 im_X7_isOn se_X7_isOn ini_X7 nd_X7_isOn ⟨Nat.le_of_ble_eq_true rfl, Nat.le_of_ble_eq_true rfl⟩ ⟨rfl, rfl⟩ ⟨Nat.le_refl _, Nat.le_refl _⟩ rfl (Nat.le_of_ble_eq_true rfl) dX7_touches_132 ?_
        rintro r_19 w1 ⟨zo, hr_, hw_, ho1, ho2⟩
        subst hr_
        subst hw_
        have hz1 : zo = 1 := ho2 (tz_ts ⟨hD1, hD2⟩ hD4 hD5 hfe hw0)
        exact hR _ _ _ _ dX7_touches_135 ⟨zo, Fw, Iw, Jw, rfl, rfl, hokw, hIw, (fun q => absurd (by omega) q), hriw, htiw, htew, htww, (fun _ => by rw [← hIw]; exact ⟨fun _ => hz1, fun q => absurd ⟨hHE, fun y => hw0 (hcr.trans y)⟩ q⟩)⟩
      · intro c18
        refine Z.bipush hX dX7_touches_104 (by decide) ?_
        exact hR _ _ _ _ dX7_touches_106 ⟨(-2), Fw, Iw, Jw, rfl, rfl, hokw, hIw, (fun q => absurd (by omega) q), hriw, htiw, htew, htww, (fun _ => by rw [← hIw]; exact ⟨fun q => absurd (hcr.symm.trans (i64_t0 (by assumption))) q.2, fun _ => rfl⟩)⟩
    · intro c5
      refine Z.bipush hX dX7_touches_23 (by decide) ?_
      exact hR _ _ _ _ dX7_touches_25 ⟨(-2), Fw, Iw, Jw, rfl, rfl, hokw, hIw, (fun q => absurd (by omega) q), hriw, htiw, htew, htww, (fun _ => by rw [← hIw]; exact ⟨fun q => absurd q.1 (hn0 (by assumption)), fun _ => rfl⟩)⟩
  · intro c2
    refine Z.iconst hX dX7_touches_8 ?_
    exact hR _ _ _ _ dX7_touches_9 ⟨(-1), F, I, J, rfl, rfl, hok, rfl, (fun _ => rfl), hri, hti, hte, htw, (fun q => absurd q (by omega))⟩

set_option maxHeartbeats 4000000 in
set_option maxRecDepth 100000 in
theorem ct_X7_term_w (l : Launch) (D : va_G) (ce : Nat → ClassId) (h : Nat → Nat) (F : Nat → Int) (I : Nat → Nat → Int32) (J : Nat → Nat → Int64) (wh i v : Int) (hok : rOK F I) (hbr : bR (I 0)) (hri : RI F (I 0) (J 0)) (hti : TI F I J) (hte : TIe F I J) (htw : TIw F I J) (hw : -2147483648 ≤ wh ∧ wh < 2147483648) (hi : -2147483648 ≤ i ∧ i < 2147483648) (hv : -2147483648 ≤ v ∧ v < 2147483648) : Ct l yX7_term cX7_term 5 (some .int) { frames := 0, cells := 0, slots := 0, locals := 0 } 0 0 D (TY ce) [.ref (h 0), .int (zI wh), .int (zI i), .int (zI v)] (rW ce h F I J) (QI D (TY ce) (fun r w1 => ∃ z : Int, ∃ F2 : Nat → Int, ∃ I2 : Nat → Nat → Int32, ∃ J2 : Nat → Nat → Int64, r = zI z ∧ w1 = rW ce h F2 I2 J2 ∧ (rOK F2 I2) ∧ (¬ (0 ≤ wh ∧ wh ≤ 2 ∧ 0 ≤ i ∧ i ≤ 4 ∧ -7 ≤ v ∧ v ≤ 7) → z = -100 ∧ I2 0 = I 0) ∧ ((0 ≤ wh ∧ wh ≤ 2 ∧ 0 ≤ i ∧ i ≤ 4 ∧ -7 ≤ v ∧ v ≤ 7) → I 0 (5 * wh + i).toNat = zI z ∧ I2 0 = upd (I 0) (5 * wh + i).toNat (zI v)) ∧ (RI F2 (I2 0) (J2 0)) ∧ (TI F2 I2 J2) ∧ (TIe F2 I2 J2) ∧ (TIw F2 I2 J2))) := by
  refine Ct.ofI (by decide) (Nat.le_of_ble_eq_true rfl) ?_
  intro p e s m args below meth c A Q hX hnm hR
  refine Z.pick (lv' := [(0, .ref (h 0)), (1, .int (zI wh)), (2, .int (zI i)), (3, .int (zI v))]) [0, 1, 2, 3] rfl ?_
  obtain ⟨hF, hF2, hkn, hdg⟩ := id hok
  refine Z.iload_n hX dX7_term_0 rfl rfl ?_
  refine Z.if_lt hX 30 dX7_term_1 (by decide) ⟨by omega, by omega⟩ ?_ ?_
  · intro c1
    refine Z.bipush hX dX7_term_30 (by decide) ?_
    exact hR _ _ _ _ dX7_term_32 ⟨(-100), F, I, J, rfl, rfl, hok, (fun _ => ⟨rfl, rfl⟩), (fun q => by omega), hri, hti, hte, htw⟩
  · intro c1
    refine Z.iload_n hX dX7_term_4 rfl rfl ?_
    refine Z.iconst hX dX7_term_5 ?_
    refine Z.icmp_gt hX 30 dX7_term_6 (by decide) ⟨by omega, by omega⟩ ⟨by omega, by omega⟩ ?_ ?_
    · intro c2
      refine Z.bipush hX dX7_term_30 (by decide) ?_
      exact hR _ _ _ _ dX7_term_32 ⟨(-100), F, I, J, rfl, rfl, hok, (fun _ => ⟨rfl, rfl⟩), (fun q => by omega), hri, hti, hte, htw⟩
    · intro c2
      refine Z.iload_n hX dX7_term_9 rfl rfl ?_
      refine Z.if_lt hX 30 dX7_term_10 (by decide) ⟨by omega, by omega⟩ ?_ ?_
      · intro c3
        refine Z.bipush hX dX7_term_30 (by decide) ?_
        exact hR _ _ _ _ dX7_term_32 ⟨(-100), F, I, J, rfl, rfl, hok, (fun _ => ⟨rfl, rfl⟩), (fun q => by omega), hri, hti, hte, htw⟩
      · intro c3
        refine Z.iload_n hX dX7_term_13 rfl rfl ?_
        refine Z.iconst hX dX7_term_14 ?_
        refine Z.icmp_gt hX 30 dX7_term_15 (by decide) ⟨by omega, by omega⟩ ⟨by omega, by omega⟩ ?_ ?_
        · intro c4
          refine Z.bipush hX dX7_term_30 (by decide) ?_
          exact hR _ _ _ _ dX7_term_32 ⟨(-100), F, I, J, rfl, rfl, hok, (fun _ => ⟨rfl, rfl⟩), (fun q => by omega), hri, hti, hte, htw⟩
        · intro c4
          refine Z.iload_n hX dX7_term_18 rfl rfl ?_
          refine Z.bipush hX dX7_term_19 (by decide) ?_
          refine Z.icmp_lt hX 30 dX7_term_21 (by decide) ⟨by omega, by omega⟩ ⟨by omega, by omega⟩ ?_ ?_
          · intro c5
            refine Z.bipush hX dX7_term_30 (by decide) ?_
            exact hR _ _ _ _ dX7_term_32 ⟨(-100), F, I, J, rfl, rfl, hok, (fun _ => ⟨rfl, rfl⟩), (fun q => by omega), hri, hti, hte, htw⟩
          · intro c5
            refine Z.iload_n hX dX7_term_24 rfl rfl ?_
            refine Z.bipush hX dX7_term_25 (by decide) ?_
            refine Z.icmp_le hX 33 dX7_term_27 (by decide) ⟨by omega, by omega⟩ ⟨by omega, by omega⟩ ?_ ?_
            · intro c6
              refine Z.aload_n hX dX7_term_33 rfl rfl ?_
              refine Z.getf hX 7 0 0 dX7_term_34 rfl rfl inX7 (by decide) fl_X7_7 rfl rfl ?_
              refine Z.iconst hX dX7_term_37 ?_
              refine Z.iload_n hX dX7_term_38 rfl rfl ?_
              refine Z.imul hX dX7_term_39 ?_
              refine Z.iload_n hX dX7_term_40 rfl rfl ?_
              refine Z.iadd hX dX7_term_41 ?_
              refine Z.iaload hX 1 0 dX7_term_42 rfl rfl (by omega) (by omega) (by decide) ?_
              refine Z.topi (fun z7 hz7 kz7 ez7 => ?_)
              refine Z.istore (lv' := [(4, .int (zI z7)), (0, .ref (h 0)), (1, .int (zI wh)), (2, .int (zI i)), (3, .int (zI v))]) hX dX7_term_43 (by decide) rfl ?_
              refine Z.aload_n hX dX7_term_45 rfl rfl ?_
              refine Z.getf hX 7 0 0 dX7_term_46 rfl rfl inX7 (by decide) fl_X7_7 rfl rfl ?_
              refine Z.iconst hX dX7_term_49 ?_
              refine Z.iload_n hX dX7_term_50 rfl rfl ?_
              refine Z.imul hX dX7_term_51 ?_
              refine Z.iload_n hX dX7_term_52 rfl rfl ?_
              refine Z.iadd hX dX7_term_53 ?_
              refine Z.iload_n hX dX7_term_54 rfl rfl ?_
              refine Z.iastore hX 1 0 dX7_term_55 rfl rfl (by omega) (by omega) (by decide) ?_
              obtain ⟨I8, eI8⟩ : ∃ J' : Nat → Nat → Int32, J' = va_up I 0 (upd (I 0) ((5 * wh) + i : Int).toNat (zI (v))) := ⟨_, rfl⟩
              refine Z.toW (w' := rW ce h F I8 J) (by rw [eI8]; rfl) ?_
              have gI8 : I8 0 = upd (I 0) ((5 * wh) + i : Int).toNat (zI (v)) := by rw [eI8]; exact up_eq
              have fI8 : ∀ j_, j_ ≠ 0 → I8 j_ = I j_ := fun j_ hj_ => by rw [eI8]; exact up_ne hj_
              refine Z.aload_n hX dX7_term_56 rfl rfl ?_
              refine Z.iconst hX dX7_term_57 ?_
              refine Z.putf (ty := .boolean) hX 7 0 4 tyX7 dX7_term_58 rfl rfl inX7 tyX7_ok nmX7 (by decide) fl_X7_54 rfl rfl (by decide +kernel) rfl rfl (Nat.le_of_ble_eq_true rfl) ?_
              obtain ⟨F9, eF9⟩ : ∃ F' : Nat → Int, F' = va_up F 2 (0) := ⟨_, rfl⟩
              refine Z.toW (w' := rW ce h F9 I8 J) (by rw [eF9]; rfl) ?_
              have eF9_0 : F9 0 = F 0 := by rw [eF9]; rfl
              have eF9_1 : F9 1 = F 1 := by rw [eF9]; rfl
              have eF9_2 : F9 2 = 0 := by rw [eF9]; rfl
              refine Z.iload hX dX7_term_61 rfl ?_
              exact hR _ _ _ _ dX7_term_63 ⟨z7, F9, I8, J, rfl, rfl, (rOK_u (by omega) (by omega) (by rw [fI8 2 (by decide)]; exact hdg)), (fun q => absurd (by omega) q), (fun _ => ⟨by assumption, gI8⟩), (fun q => by omega), (fun q => by omega), (fun q => by omega), (fun q => by omega)⟩
            · intro c6
              refine Z.bipush hX dX7_term_30 (by decide) ?_
              exact hR _ _ _ _ dX7_term_32 ⟨(-100), F, I, J, rfl, rfl, hok, (fun _ => ⟨rfl, rfl⟩), (fun q => by omega), hri, hti, hte, htw⟩

set_option maxHeartbeats 4000000 in
set_option maxRecDepth 100000 in
theorem ct_X7_clear_w (l : Launch) (D : va_G) (ce : Nat → ClassId) (h : Nat → Nat) (F : Nat → Int) (I : Nat → Nat → Int32) (J : Nat → Nat → Int64) (hok : rOK F I) (hbr : bR (I 0)) (hri : RI F (I 0) (J 0)) (hti : TI F I J) (hte : TIe F I J) (htw : TIw F I J) : Ct l yX7_clear cX7_clear 3 (some .int) { frames := 0, cells := 0, slots := 0, locals := 0 } 0 0 D (TY ce) [.ref (h 0)] (rW ce h F I J) (QI D (TY ce) (fun r w1 => ∃ z : Int, ∃ F2 : Nat → Int, ∃ I2 : Nat → Nat → Int32, ∃ J2 : Nat → Nat → Int64, r = zI z ∧ w1 = rW ce h F2 I2 J2 ∧ (rOK F2 I2) ∧ (z = cntK (I 0) 15) ∧ (∀ q : Int, 0 ≤ q → q < 15 → I2 0 q.toNat = 0) ∧ (RI F2 (I2 0) (J2 0)) ∧ (TI F2 I2 J2) ∧ (TIe F2 I2 J2) ∧ (TIw F2 I2 J2))) := by
  refine Ct.ofI (by decide) (Nat.le_of_ble_eq_true rfl) ?_
  intro p e s m args below meth c A Q hX hnm hR
  refine Z.pick (lv' := [(0, .ref (h 0))]) [0] rfl ?_
  obtain ⟨hF, hF2, hkn, hdg⟩ := id hok
  refine Z.iconst hX dX7_clear_0 ?_
  refine Z.istore_n (lv' := [(1, .int (zI 0)), (0, .ref (h 0))]) hX dX7_clear_1 rfl (by decide) rfl ?_
  refine Z.iconst hX dX7_clear_2 ?_
  refine Z.istore_n (lv' := [(2, .int (zI 0)), (1, .int (zI 0)), (0, .ref (h 0))]) hX dX7_clear_3 rfl (by decide) rfl ?_
  have key_4 : ∀ (N : Nat), ∀ (k n : Int) (K : Nat → Nat → Int32), (15 - k).toNat < N → (hk : 0 ≤ k ∧ k ≤ 15) → (hn : n = cntK (I 0) k.toNat) → (hn2 : 0 ≤ n ∧ n ≤ k) → (hK : ∀ q : Int, 0 ≤ q → K 0 q.toNat = if q < k then 0 else I 0 q.toNat) → (hfr : ∀ k, k ≠ 0 → K k = I k) → Z p l e { frames := 0, cells := 0, slots := 0, locals := 0 } s m args below meth c D A 3 0 0 Q 4 [(2, .int (zI k)), (1, .int (zI n)), (0, .ref (h 0))] [] (rW ce h F K J) := by
    intro N
    induction N with
    | zero => intro k n K hm; exact absurd hm (Nat.not_lt_zero _)
    | succ N ih_4 =>
      intro k n K hm hk hn hn2 hK hfr
      refine Z.iload_n hX dX7_clear_4 rfl rfl ?_
      refine Z.bipush hX dX7_clear_5 (by decide) ?_
      refine Z.icmp_ge hX 40 dX7_clear_7 (by decide) ⟨by omega, by omega⟩ ⟨by omega, by omega⟩ ?_ ?_
      · intro c1
        refine Z.aload_n hX dX7_clear_40 rfl rfl ?_
        refine Z.iconst hX dX7_clear_41 ?_
        refine Z.putf (ty := .boolean) hX 7 0 4 tyX7 dX7_clear_42 rfl rfl inX7 tyX7_ok nmX7 (by decide) fl_X7_54 rfl rfl (by decide +kernel) rfl rfl (Nat.le_of_ble_eq_true rfl) ?_
        obtain ⟨F2, eF2⟩ : ∃ F' : Nat → Int, F' = va_up F 2 (0) := ⟨_, rfl⟩
        refine Z.toW (w' := rW ce h F2 K J) (by rw [eF2]; rfl) ?_
        have eF2_0 : F2 0 = F 0 := by rw [eF2]; rfl
        have eF2_1 : F2 1 = F 1 := by rw [eF2]; rfl
        have eF2_2 : F2 2 = 0 := by rw [eF2]; rfl
        refine Z.iload_n hX dX7_clear_45 rfl rfl ?_
        exact hR _ _ _ _ dX7_clear_46 ⟨n, F2, K, J, rfl, rfl, (rOK_u (by omega) (by omega) (by rw [hfr 2 (by decide)]; exact hdg)), (by rw [hn, show k = 15 by omega]; rfl), (fun q h1 h2 => by rw [hK q h1, if_pos (by omega)]), (fun q => by omega), (fun q => by omega), (fun q => by omega), (fun q => by omega)⟩
      · intro c1
        refine Z.iload_n hX dX7_clear_10 rfl rfl ?_
        refine Z.aload_n hX dX7_clear_11 rfl rfl ?_
        refine Z.getf hX 7 0 0 dX7_clear_12 rfl rfl inX7 (by decide) fl_X7_7 rfl rfl ?_
        refine Z.iload_n hX dX7_clear_15 rfl rfl ?_
        refine Z.iaload hX 1 0 dX7_clear_16 rfl rfl (by omega) (by omega) (by decide) ?_
        refine Z.topi (fun z3 hz3 kz3 ez3 => ?_)
        refine Z.if_eq hX 24 dX7_clear_17 (by decide) ⟨by omega, by omega⟩ ?_ ?_
        · intro c4
          refine Z.iconst hX dX7_clear_24 ?_
          refine Z.iadd hX dX7_clear_25 ?_
          refine Z.istore_n (lv' := [(1, .int (zI (n + 0))), (2, .int (zI k)), (0, .ref (h 0))]) hX dX7_clear_26 rfl (by decide) rfl ?_
          refine Z.aload_n hX dX7_clear_27 rfl rfl ?_
          refine Z.getf hX 7 0 0 dX7_clear_28 rfl rfl inX7 (by decide) fl_X7_7 rfl rfl ?_
          refine Z.iload_n hX dX7_clear_31 rfl rfl ?_
          refine Z.iconst hX dX7_clear_32 ?_
          refine Z.iastore hX 1 0 dX7_clear_33 rfl rfl (by omega) (by omega) (by decide) ?_
          obtain ⟨I5, eI5⟩ : ∃ J' : Nat → Nat → Int32, J' = va_up K 0 (upd (K 0) (k : Int).toNat (zI (0))) := ⟨_, rfl⟩
          refine Z.toW (w' := rW ce h F I5 J) (by rw [eI5]; rfl) ?_
          have gI5 : I5 0 = upd (K 0) (k : Int).toNat (zI (0)) := by rw [eI5]; exact up_eq
          have fI5 : ∀ j_, j_ ≠ 0 → I5 j_ = K j_ := fun j_ hj_ => by rw [eI5]; exact up_ne hj_
          refine Z.iinc (lv' := [(2, .int (zI (k + 1))), (1, .int (zI (n + 0))), (0, .ref (h 0))]) hX dX7_clear_34 rfl (by decide) rfl ?_
          refine Z.goto hX 4 dX7_clear_37 (by decide) ?_
          refine Z.pick [0, 1, 2] rfl ?_
          exact ih_4 _ _ _ (by omega) (by omega) (cnt_s hk.1 hn (by rw [hK k hk.1, if_neg (by omega)] at *; assumption) ⟨by assumption, by assumption⟩ (by first | exact Or.inl ⟨by assumption, rfl⟩ | exact Or.inr ⟨by assumption, rfl⟩)) (by omega) (clr_s hk.1 gI5 hK) (fun j_ h_0 => ((fI5 j_ h_0).trans (hfr j_ h_0)))
        · intro c4
          refine Z.iconst hX dX7_clear_20 ?_
          refine Z.goto hX 25 dX7_clear_21 (by decide) ?_
          refine Z.iadd hX dX7_clear_25 ?_
          refine Z.istore_n (lv' := [(1, .int (zI (n + 1))), (2, .int (zI k)), (0, .ref (h 0))]) hX dX7_clear_26 rfl (by decide) rfl ?_
          refine Z.aload_n hX dX7_clear_27 rfl rfl ?_
          refine Z.getf hX 7 0 0 dX7_clear_28 rfl rfl inX7 (by decide) fl_X7_7 rfl rfl ?_
          refine Z.iload_n hX dX7_clear_31 rfl rfl ?_
          refine Z.iconst hX dX7_clear_32 ?_
          refine Z.iastore hX 1 0 dX7_clear_33 rfl rfl (by omega) (by omega) (by decide) ?_
          obtain ⟨I6, eI6⟩ : ∃ J' : Nat → Nat → Int32, J' = va_up K 0 (upd (K 0) (k : Int).toNat (zI (0))) := ⟨_, rfl⟩
          refine Z.toW (w' := rW ce h F I6 J) (by rw [eI6]; rfl) ?_
          have gI6 : I6 0 = upd (K 0) (k : Int).toNat (zI (0)) := by rw [eI6]; exact up_eq
          have fI6 : ∀ j_, j_ ≠ 0 → I6 j_ = K j_ := fun j_ hj_ => by rw [eI6]; exact up_ne hj_
          refine Z.iinc (lv' := [(2, .int (zI (k + 1))), (1, .int (zI (n + 1))), (0, .ref (h 0))]) hX dX7_clear_34 rfl (by decide) rfl ?_
          refine Z.goto hX 4 dX7_clear_37 (by decide) ?_
          refine Z.pick [0, 1, 2] rfl ?_
          exact ih_4 _ _ _ (by omega) (by omega) (cnt_s hk.1 hn (by rw [hK k hk.1, if_neg (by omega)] at *; assumption) ⟨by assumption, by assumption⟩ (by first | exact Or.inl ⟨by assumption, rfl⟩ | exact Or.inr ⟨by assumption, rfl⟩)) (by omega) (clr_s hk.1 gI6 hK) (fun j_ h_0 => ((fI6 j_ h_0).trans (hfr j_ h_0)))
  refine Z.pick [0, 1, 2] rfl ?_
  exact key_4 _ _ _ _ (Nat.lt_succ_self _) (by omega) rfl (by omega) (fun q h1 => (if_neg (by omega)).symm) (fun j_ h_0 => rfl)

