theorem dX7_locus_0 : decode cX7_locus 0 = .ok (.aload_n 0, 1) := by decide +kernel
theorem dX7_locus_1 : decode cX7_locus 1 = .ok (.getfield 77, 3) := by decide +kernel
theorem dX7_locus_4 : decode cX7_locus 4 = .ok (.istore_n 1, 1) := by decide +kernel
theorem dX7_locus_5 : decode cX7_locus 5 = .ok (.aload_n 0, 1) := by decide +kernel
theorem dX7_locus_6 : decode cX7_locus 6 = .ok (.invokevirtual 90, 3) := by decide +kernel
theorem dX7_locus_9 : decode cX7_locus 9 = .ok (.iconst 0, 1) := by decide +kernel
theorem dX7_locus_10 : decode cX7_locus 10 = .ok (.istore_n 2, 1) := by decide +kernel
theorem dX7_locus_11 : decode cX7_locus 11 = .ok (.iload_n 2, 1) := by decide +kernel
theorem dX7_locus_12 : decode cX7_locus 12 = .ok (.iload_n 1, 1) := by decide +kernel
theorem dX7_locus_13 : decode cX7_locus 13 = .ok (.if_icmp .ge 80, 3) := by decide +kernel
theorem dX7_locus_16 : decode cX7_locus 16 = .ok (.iconst 0, 1) := by decide +kernel
theorem dX7_locus_17 : decode cX7_locus 17 = .ok (.istore_n 3, 1) := by decide +kernel
theorem dX7_locus_18 : decode cX7_locus 18 = .ok (.iload_n 3, 1) := by decide +kernel
theorem dX7_locus_19 : decode cX7_locus 19 = .ok (.iload_n 1, 1) := by decide +kernel
theorem dX7_locus_20 : decode cX7_locus 20 = .ok (.if_icmp .gt 67, 3) := by decide +kernel
theorem dX7_locus_23 : decode cX7_locus 23 = .ok (.aload_n 0, 1) := by decide +kernel
theorem dX7_locus_24 : decode cX7_locus 24 = .ok (.iload_n 2, 1) := by decide +kernel
theorem dX7_locus_25 : decode cX7_locus 25 = .ok (.iload_n 2, 1) := by decide +kernel
theorem dX7_locus_26 : decode cX7_locus 26 = .ok (.iload_n 1, 1) := by decide +kernel
theorem dX7_locus_27 : decode cX7_locus 27 = .ok (.iadd, 1) := by decide +kernel
theorem dX7_locus_28 : decode cX7_locus 28 = .ok (.iload_n 3, 1) := by decide +kernel
theorem dX7_locus_29 : decode cX7_locus 29 = .ok (.isub, 1) := by decide +kernel
theorem dX7_locus_30 : decode cX7_locus 30 = .ok (.aload_n 0, 1) := by decide +kernel
theorem dX7_locus_31 : decode cX7_locus 31 = .ok (.getfield 13, 3) := by decide +kernel
theorem dX7_locus_34 : decode cX7_locus 34 = .ok (.iload_n 3, 1) := by decide +kernel
theorem dX7_locus_35 : decode cX7_locus 35 = .ok (.laload, 1) := by decide +kernel
theorem dX7_locus_36 : decode cX7_locus 36 = .ok (.aload_n 0, 1) := by decide +kernel
theorem dX7_locus_37 : decode cX7_locus 37 = .ok (.getfield 13, 3) := by decide +kernel
theorem dX7_locus_40 : decode cX7_locus 40 = .ok (.bipush 10, 2) := by decide +kernel
theorem dX7_locus_42 : decode cX7_locus 42 = .ok (.iload_n 3, 1) := by decide +kernel
theorem dX7_locus_43 : decode cX7_locus 43 = .ok (.iadd, 1) := by decide +kernel
theorem dX7_locus_44 : decode cX7_locus 44 = .ok (.laload, 1) := by decide +kernel
theorem dX7_locus_45 : decode cX7_locus 45 = .ok (.lneg, 1) := by decide +kernel
theorem dX7_locus_46 : decode cX7_locus 46 = .ok (.lconst 0, 1) := by decide +kernel
theorem dX7_locus_47 : decode cX7_locus 47 = .ok (.invokevirtual 93, 3) := by decide +kernel
theorem dX7_locus_50 : decode cX7_locus 50 = .ok (.aload_n 0, 1) := by decide +kernel
theorem dX7_locus_51 : decode cX7_locus 51 = .ok (.iload_n 1, 1) := by decide +kernel
theorem dX7_locus_52 : decode cX7_locus 52 = .ok (.iload_n 2, 1) := by decide +kernel
theorem dX7_locus_53 : decode cX7_locus 53 = .ok (.iadd, 1) := by decide +kernel
theorem dX7_locus_54 : decode cX7_locus 54 = .ok (.iload_n 2, 1) := by decide +kernel
theorem dX7_locus_55 : decode cX7_locus 55 = .ok (.iload_n 1, 1) := by decide +kernel
theorem dX7_locus_56 : decode cX7_locus 56 = .ok (.iadd, 1) := by decide +kernel
theorem dX7_locus_57 : decode cX7_locus 57 = .ok (.iload_n 3, 1) := by decide +kernel
theorem dX7_locus_58 : decode cX7_locus 58 = .ok (.isub, 1) := by decide +kernel
theorem dX7_locus_59 : decode cX7_locus 59 = .ok (.aload_n 0, 1) := by decide +kernel
theorem dX7_locus_60 : decode cX7_locus 60 = .ok (.getfield 13, 3) := by decide +kernel
theorem dX7_locus_63 : decode cX7_locus 63 = .ok (.iconst 5, 1) := by decide +kernel
theorem dX7_locus_64 : decode cX7_locus 64 = .ok (.iload_n 3, 1) := by decide +kernel
theorem dX7_locus_65 : decode cX7_locus 65 = .ok (.iadd, 1) := by decide +kernel
theorem dX7_locus_66 : decode cX7_locus 66 = .ok (.laload, 1) := by decide +kernel
theorem dX7_locus_67 : decode cX7_locus 67 = .ok (.lconst 0, 1) := by decide +kernel
theorem dX7_locus_68 : decode cX7_locus 68 = .ok (.aload_n 0, 1) := by decide +kernel
theorem dX7_locus_69 : decode cX7_locus 69 = .ok (.getfield 13, 3) := by decide +kernel
theorem dX7_locus_72 : decode cX7_locus 72 = .ok (.bipush 10, 2) := by decide +kernel
theorem dX7_locus_74 : decode cX7_locus 74 = .ok (.iload_n 3, 1) := by decide +kernel
theorem dX7_locus_75 : decode cX7_locus 75 = .ok (.iadd, 1) := by decide +kernel
theorem dX7_locus_76 : decode cX7_locus 76 = .ok (.laload, 1) := by decide +kernel
theorem dX7_locus_77 : decode cX7_locus 77 = .ok (.lneg, 1) := by decide +kernel
theorem dX7_locus_78 : decode cX7_locus 78 = .ok (.invokevirtual 93, 3) := by decide +kernel
theorem dX7_locus_81 : decode cX7_locus 81 = .ok (.iinc 3 1, 3) := by decide +kernel
theorem dX7_locus_84 : decode cX7_locus 84 = .ok (.goto (-66), 3) := by decide +kernel
theorem dX7_locus_87 : decode cX7_locus 87 = .ok (.iinc 2 1, 3) := by decide +kernel
theorem dX7_locus_90 : decode cX7_locus 90 = .ok (.goto (-79), 3) := by decide +kernel
theorem dX7_locus_93 : decode cX7_locus 93 = .ok (.aload_n 0, 1) := by decide +kernel
theorem dX7_locus_94 : decode cX7_locus 94 = .ok (.iconst 2, 1) := by decide +kernel
theorem dX7_locus_95 : decode cX7_locus 95 = .ok (.iload_n 1, 1) := by decide +kernel
theorem dX7_locus_96 : decode cX7_locus 96 = .ok (.imul, 1) := by decide +kernel
theorem dX7_locus_97 : decode cX7_locus 97 = .ok (.invokevirtual 97, 3) := by decide +kernel
theorem dX7_locus_100 : decode cX7_locus 100 = .ok (.aload_n 0, 1) := by decide +kernel
theorem dX7_locus_101 : decode cX7_locus 101 = .ok (.iconst 0, 1) := by decide +kernel
theorem dX7_locus_102 : decode cX7_locus 102 = .ok (.bipush 49, 2) := by decide +kernel
theorem dX7_locus_104 : decode cX7_locus 104 = .ok (.iconst 1, 1) := by decide +kernel
theorem dX7_locus_105 : decode cX7_locus 105 = .ok (.iconst 2, 1) := by decide +kernel
theorem dX7_locus_106 : decode cX7_locus 106 = .ok (.iload_n 1, 1) := by decide +kernel
theorem dX7_locus_107 : decode cX7_locus 107 = .ok (.imul, 1) := by decide +kernel
theorem dX7_locus_108 : decode cX7_locus 108 = .ok (.ishl, 1) := by decide +kernel
theorem dX7_locus_109 : decode cX7_locus 109 = .ok (.iconst 1, 1) := by decide +kernel
theorem dX7_locus_110 : decode cX7_locus 110 = .ok (.isub, 1) := by decide +kernel
theorem dX7_locus_111 : decode cX7_locus 111 = .ok (.imul, 1) := by decide +kernel
theorem dX7_locus_112 : decode cX7_locus 112 = .ok (.invokevirtual 101, 3) := by decide +kernel
theorem dX7_locus_115 : decode cX7_locus 115 = .ok (.return_, 1) := by decide +kernel
set_option maxHeartbeats 4000000 in
set_option maxRecDepth 100000 in
theorem ct_X7_locus (l : Launch) (D : va_G) (ce : Nat → ClassId) (h : Nat → Nat) (F : Nat → Int) (I : Nat → Nat → Int32) (J : Nat → Nat → Int64) (hF : 1 ≤ F 1 ∧ F 1 ≤ 4) (hdg : DGok (I 2)) : Ct l yX7_locus cX7_locus 4 none { frames := 4, cells := 0, slots := 0, locals := 121 } 0 0 D (TY ce) [.ref (h 0)] (rW ce h F I J) (QV D (TY ce) (fun w1 => ∃ I2 : Nat → Nat → Int32, ∃ J2 : Nat → Nat → Int64, w1 = rW ce h F I2 J2 ∧ (∀ k, k ≠ 1 → k ≠ 4 → k ≠ 5 → k ≠ 6 → k ≠ 7 → k ≠ 8 → k ≠ 9 → J2 k = J k) ∧ (∀ k, k ≠ 1 → k ≠ 2 → k ≠ 3 → I2 k = I k) ∧ (DGok (I2 2)))) := by
  refine Ct.ofV (by decide) (Nat.le_of_ble_eq_true rfl) ?_
  intro p e s m args below meth c A Q hX hnm hR
  refine Z.pick (lv' := [(0, .ref (h 0))]) [0] rfl ?_
  obtain ⟨T, hT, hT1, hT2, hT3⟩ := sh1 (n := 2 * F 1) (by omega) (by omega)
  refine Z.aload_n hX dX7_locus_0 rfl rfl ?_
  refine Z.getf hX 7 0 3 dX7_locus_1 rfl rfl inX7 (by decide) fl_X7_77 rfl rfl ?_
  refine Z.istore_n (lv' := [(1, .int (zI (F 1))), (0, .ref (h 0))]) hX dX7_locus_4 rfl (by decide) rfl ?_
  refine Z.aload_n hX dX7_locus_5 rfl rfl ?_
  refine Z.callVfv (As := []) (rest := []) hX 7 0 rfl rfl (ct_X7_emptied l D ce h F I J ) mc_X7_emptied ml_X7_90 im_X7_emptied se_X7_emptied ini_X7 nd_X7_emptied ⟨Nat.le_of_ble_eq_true rfl, Nat.le_of_ble_eq_true rfl⟩ ⟨rfl, rfl⟩ ⟨Nat.le_refl _, Nat.le_refl _⟩ rfl (Nat.le_of_ble_eq_true rfl) dX7_locus_6 ?_
  rintro w1 ⟨J22, hw_, hem1, hem2⟩
  subst hw_
  refine Z.iconst hX dX7_locus_9 ?_
  refine Z.istore_n (lv' := [(2, .int (zI 0)), (1, .int (zI (F 1))), (0, .ref (h 0))]) hX dX7_locus_10 rfl (by decide) rfl ?_
  have key_11 : ∀ (N : Nat), ∀ (r : Int) (M : Nat → Nat → Int64), (F 1 - r).toNat < N → (hr : 0 ≤ r ∧ r ≤ F 1) → (hE : EZ (M 4) (F 1) (F 1)) → (hM : ∀ k, k ≠ 4 → M k = J k) → Z p l e { frames := 4, cells := 0, slots := 0, locals := 121 } s m args below meth c D A 4 0 0 Q 11 [(2, .int (zI r)), (1, .int (zI (F 1))), (0, .ref (h 0))] [] (rW ce h F I M) := by
    intro N
    induction N with
    | zero => intro r M hm; exact absurd hm (Nat.not_lt_zero _)
    | succ N ih_11 =>
      intro r M hm hr hE hM
      refine Z.iload_n hX dX7_locus_11 rfl rfl ?_
      refine Z.iload_n hX dX7_locus_12 rfl rfl ?_
      refine Z.icmp_ge hX 93 dX7_locus_13 (by decide) ⟨by omega, by omega⟩ ⟨by omega, by omega⟩ ?_ ?_
      · intro c3
        refine Z.aload_n hX dX7_locus_93 rfl rfl ?_
        refine Z.iconst hX dX7_locus_94 ?_
        refine Z.iload_n hX dX7_locus_95 rfl rfl ?_
        refine Z.imul hX dX7_locus_96 ?_
        refine Z.callVfv (As := [.int (zI (2 * (F 1)))]) (rest := []) hX 7 0 rfl rfl (ct_X7_minorsOf l D ce h F I M (2 * (F 1)) (F 1) (F 1) (by omega) (by omega) hE) mc_X7_minorsOf ml_X7_97 im_X7_minorsOf se_X7_minorsOf ini_X7 nd_X7_minorsOf ⟨Nat.le_of_ble_eq_true rfl, Nat.le_of_ble_eq_true rfl⟩ ⟨rfl, rfl⟩ ⟨Nat.le_refl _, Nat.le_refl _⟩ rfl (Nat.le_of_ble_eq_true rfl) dX7_locus_97 ?_
        rintro w1 ⟨J25, hw_, hq6⟩
        subst hw_
        refine Z.aload_n hX dX7_locus_100 rfl rfl ?_
        refine Z.iconst hX dX7_locus_101 ?_
        refine Z.bipush hX dX7_locus_102 (by decide) ?_
        refine Z.iconst hX dX7_locus_104 ?_
        refine Z.iconst hX dX7_locus_105 ?_
        refine Z.iload_n hX dX7_locus_106 rfl rfl ?_
        refine Z.imul hX dX7_locus_107 ?_
        refine Z.ishl hX dX7_locus_108 ?_
        refine Z.vali (y := zI T) hT ?_
        refine Z.iconst hX dX7_locus_109 ?_
        refine Z.isub hX dX7_locus_110 ?_
        refine Z.imul hX dX7_locus_111 ?_
        refine Z.callVfv (As := [.int (zI 0), .int (zI (49 * (T - 1)))]) (rest := []) hX 7 0 rfl rfl (ct_X7_tell l D ce h F I J25 0 (49 * (T - 1)) (by omega) (by omega) hdg) mc_X7_tell ml_X7_101 im_X7_tell se_X7_tell ini_X7 nd_X7_tell ⟨Nat.le_of_ble_eq_true rfl, Nat.le_of_ble_eq_true rfl⟩ ⟨rfl, rfl⟩ ⟨Nat.le_refl _, Nat.le_refl _⟩ rfl (Nat.le_of_ble_eq_true rfl) dX7_locus_112 ?_
        rintro w1 ⟨I28, J29, hw_, ht1, ht2, hdgZ⟩
        subst hw_
        exact hR _ _ _ dX7_locus_115 ⟨I28, J29, rfl, (fun k h1 h4 h5 h6 h7 h8 h9 => ((ht1 k h1 h6 h7 h8 h9).trans ((hq6 k h5).trans (hM k h4)))), (fun k h1 h2 h3 => ((ht2 k h1 h2 h3).trans rfl)), hdgZ⟩
      · intro c3
        refine Z.iconst hX dX7_locus_16 ?_
        refine Z.istore_n (lv' := [(3, .int (zI 0)), (2, .int (zI r)), (1, .int (zI (F 1))), (0, .ref (h 0))]) hX dX7_locus_17 rfl (by decide) rfl ?_
        have key_18 : ∀ (N : Nat), ∀ (k : Int) (M : Nat → Nat → Int64), (F 1 + 1 - k).toNat < N → (hk : 0 ≤ k ∧ k ≤ F 1 + 1) → (hE : EZ (M 4) (F 1) (F 1)) → (hM : ∀ k, k ≠ 4 → M k = J k) → Z p l e { frames := 4, cells := 0, slots := 0, locals := 121 } s m args below meth c D A 4 0 0 Q 18 [(3, .int (zI k)), (2, .int (zI r)), (1, .int (zI (F 1))), (0, .ref (h 0))] [] (rW ce h F I M) := by
          intro N
          induction N with
          | zero => intro k M hm; exact absurd hm (Nat.not_lt_zero _)
          | succ N ih_18 =>
            intro k M hm hk hE hM
            refine Z.iload_n hX dX7_locus_18 rfl rfl ?_
            refine Z.iload_n hX dX7_locus_19 rfl rfl ?_
            refine Z.icmp_gt hX 87 dX7_locus_20 (by decide) ⟨by omega, by omega⟩ ⟨by omega, by omega⟩ ?_ ?_
            · intro c10
              refine Z.iinc (lv' := [(2, .int (zI (r + 1))), (3, .int (zI k)), (1, .int (zI (F 1))), (0, .ref (h 0))]) hX dX7_locus_87 rfl (by decide) rfl ?_
              refine Z.goto hX 11 dX7_locus_90 (by decide) ?_
              refine Z.pick [0, 2, 3] rfl ?_
              exact ih_11 _ _ (by omega) (by omega) hE (fun k h4 => (hM k h4))
            · intro c10
              refine Z.aload_n hX dX7_locus_23 rfl rfl ?_
              refine Z.iload_n hX dX7_locus_24 rfl rfl ?_
              refine Z.iload_n hX dX7_locus_25 rfl rfl ?_
              refine Z.iload_n hX dX7_locus_26 rfl rfl ?_
              refine Z.iadd hX dX7_locus_27 ?_
              refine Z.iload_n hX dX7_locus_28 rfl rfl ?_
              refine Z.isub hX dX7_locus_29 ?_
              refine Z.aload_n hX dX7_locus_30 rfl rfl ?_
              refine Z.getf hX 7 0 1 dX7_locus_31 rfl rfl inX7 (by decide) fl_X7_13 rfl rfl ?_
              refine Z.iload_n hX dX7_locus_34 rfl rfl ?_
              refine Z.laload hX 2 1 dX7_locus_35 rfl rfl (by omega) (by omega) (by decide) ?_
              refine Z.aload_n hX dX7_locus_36 rfl rfl ?_
              refine Z.getf hX 7 0 1 dX7_locus_37 rfl rfl inX7 (by decide) fl_X7_13 rfl rfl ?_
              refine Z.bipush hX dX7_locus_40 (by decide) ?_
              refine Z.iload_n hX dX7_locus_42 rfl rfl ?_
              refine Z.iadd hX dX7_locus_43 ?_
              refine Z.laload hX 2 1 dX7_locus_44 rfl rfl (by omega) (by omega) (by decide) ?_
              refine Z.lneg hX dX7_locus_45 ?_
              refine Z.lconst (v := 0) hX dX7_locus_46 rfl ?_
              refine Z.callVfv (As := [.int (zI r), .int (zI ((r + (F 1)) - k)), .long (M 0 (k : Int).toNat), .long (-(M 0 (10 + k : Int).toNat)), .long 0]) (rest := []) hX 7 0 rfl rfl (ct_X7_entry l D ce h F I M r ((r + (F 1)) - k) (M 0 (k : Int).toNat) (-(M 0 (10 + k : Int).toNat)) 0 (by omega) (by omega)) mc_X7_entry ml_X7_93 im_X7_entry se_X7_entry ini_X7 nd_X7_entry ⟨Nat.le_of_ble_eq_true rfl, Nat.le_of_ble_eq_true rfl⟩ ⟨rfl, rfl⟩ ⟨Nat.le_refl _, Nat.le_refl _⟩ rfl (Nat.le_of_ble_eq_true rfl) dX7_locus_47 ?_
              rintro w1 ⟨Ja, hw_, ha1, ha2⟩
              subst hw_
              have hEa : EZ (Ja 4) (F 1) (F 1) := EZ_s (by omega) (by omega) (fun q => by omega) (fun _ => rfl) hE ha2
              refine Z.aload_n hX dX7_locus_50 rfl rfl ?_
              refine Z.iload_n hX dX7_locus_51 rfl rfl ?_
              refine Z.iload_n hX dX7_locus_52 rfl rfl ?_
              refine Z.iadd hX dX7_locus_53 ?_
              refine Z.iload_n hX dX7_locus_54 rfl rfl ?_
              refine Z.iload_n hX dX7_locus_55 rfl rfl ?_
              refine Z.iadd hX dX7_locus_56 ?_
              refine Z.iload_n hX dX7_locus_57 rfl rfl ?_
              refine Z.isub hX dX7_locus_58 ?_
              refine Z.aload_n hX dX7_locus_59 rfl rfl ?_
              refine Z.getf hX 7 0 1 dX7_locus_60 rfl rfl inX7 (by decide) fl_X7_13 rfl rfl ?_
              refine Z.iconst hX dX7_locus_63 ?_
              refine Z.iload_n hX dX7_locus_64 rfl rfl ?_
              refine Z.iadd hX dX7_locus_65 ?_
              refine Z.laload hX 2 1 dX7_locus_66 rfl rfl (by omega) (by omega) (by decide) ?_
              refine Z.lconst (v := 0) hX dX7_locus_67 rfl ?_
              refine Z.aload_n hX dX7_locus_68 rfl rfl ?_
              refine Z.getf hX 7 0 1 dX7_locus_69 rfl rfl inX7 (by decide) fl_X7_13 rfl rfl ?_
              refine Z.bipush hX dX7_locus_72 (by decide) ?_
              refine Z.iload_n hX dX7_locus_74 rfl rfl ?_
              refine Z.iadd hX dX7_locus_75 ?_
              refine Z.laload hX 2 1 dX7_locus_76 rfl rfl (by omega) (by omega) (by decide) ?_
              refine Z.lneg hX dX7_locus_77 ?_
              refine Z.callVfv (As := [.int (zI ((F 1) + r)), .int (zI ((r + (F 1)) - k)), .long (Ja 0 (5 + k : Int).toNat), .long 0, .long (-(Ja 0 (10 + k : Int).toNat))]) (rest := []) hX 7 0 rfl rfl (ct_X7_entry l D ce h F I Ja ((F 1) + r) ((r + (F 1)) - k) (Ja 0 (5 + k : Int).toNat) 0 (-(Ja 0 (10 + k : Int).toNat)) (by omega) (by omega)) mc_X7_entry ml_X7_93 im_X7_entry se_X7_entry ini_X7 nd_X7_entry ⟨Nat.le_of_ble_eq_true rfl, Nat.le_of_ble_eq_true rfl⟩ ⟨rfl, rfl⟩ ⟨Nat.le_refl _, Nat.le_refl _⟩ rfl (Nat.le_of_ble_eq_true rfl) dX7_locus_78 ?_
              rintro w1 ⟨Jb, hw_, hb1, hb2⟩
              subst hw_
              have hEb : EZ (Jb 4) (F 1) (F 1) := EZ_s (by omega) (by omega) (fun _ => rfl) (fun q => by omega) hEa hb2
              refine Z.iinc (lv' := [(3, .int (zI (k + 1))), (2, .int (zI r)), (1, .int (zI (F 1))), (0, .ref (h 0))]) hX dX7_locus_81 rfl (by decide) rfl ?_
              refine Z.goto hX 18 dX7_locus_84 (by decide) ?_
              refine Z.pick [0, 1, 2, 3] rfl ?_
              exact ih_18 _ _ (by omega) (by omega) hEb (fun k h4 => ((hb1 k h4).trans ((ha1 k h4).trans (hM k h4))))
        refine Z.pick [0, 1, 2, 3] rfl ?_
        exact key_18 _ _ _ (Nat.lt_succ_self _) (by omega) hE (fun k h4 => (hM k h4))
  refine Z.pick [0, 1, 2] rfl ?_
  exact key_11 _ _ _ (Nat.lt_succ_self _) (by omega) (EZ_0 hem2 _ _) (fun k h4 => ((hem1 k h4).trans rfl))

theorem dX7_envelope_0 : decode cX7_envelope 0 = .ok (.aload_n 0, 1) := by decide +kernel
theorem dX7_envelope_1 : decode cX7_envelope 1 = .ok (.getfield 70, 3) := by decide +kernel
theorem dX7_envelope_4 : decode cX7_envelope 4 = .ok (.iconst 1, 1) := by decide +kernel
theorem dX7_envelope_5 : decode cX7_envelope 5 = .ok (.isub, 1) := by decide +kernel
theorem dX7_envelope_6 : decode cX7_envelope 6 = .ok (.istore_n 1, 1) := by decide +kernel
theorem dX7_envelope_7 : decode cX7_envelope 7 = .ok (.aload_n 0, 1) := by decide +kernel
theorem dX7_envelope_8 : decode cX7_envelope 8 = .ok (.invokevirtual 90, 3) := by decide +kernel
theorem dX7_envelope_11 : decode cX7_envelope 11 = .ok (.iconst 0, 1) := by decide +kernel
theorem dX7_envelope_12 : decode cX7_envelope 12 = .ok (.istore_n 2, 1) := by decide +kernel
theorem dX7_envelope_13 : decode cX7_envelope 13 = .ok (.iload_n 2, 1) := by decide +kernel
theorem dX7_envelope_14 : decode cX7_envelope 14 = .ok (.iload_n 1, 1) := by decide +kernel
theorem dX7_envelope_15 : decode cX7_envelope 15 = .ok (.if_icmp .ge 132, 3) := by decide +kernel
theorem dX7_envelope_18 : decode cX7_envelope 18 = .ok (.iconst 0, 1) := by decide +kernel
theorem dX7_envelope_19 : decode cX7_envelope 19 = .ok (.istore_n 3, 1) := by decide +kernel
theorem dX7_envelope_20 : decode cX7_envelope 20 = .ok (.iload_n 3, 1) := by decide +kernel
theorem dX7_envelope_21 : decode cX7_envelope 21 = .ok (.iload_n 1, 1) := by decide +kernel
theorem dX7_envelope_22 : decode cX7_envelope 22 = .ok (.if_icmp .gt 119, 3) := by decide +kernel
theorem dX7_envelope_25 : decode cX7_envelope 25 = .ok (.iload_n 3, 1) := by decide +kernel
theorem dX7_envelope_26 : decode cX7_envelope 26 = .ok (.iconst 1, 1) := by decide +kernel
theorem dX7_envelope_27 : decode cX7_envelope 27 = .ok (.iadd, 1) := by decide +kernel
theorem dX7_envelope_28 : decode cX7_envelope 28 = .ok (.i2l, 1) := by decide +kernel
theorem dX7_envelope_29 : decode cX7_envelope 29 = .ok (.lstore 4, 2) := by decide +kernel
theorem dX7_envelope_31 : decode cX7_envelope 31 = .ok (.aload_n 0, 1) := by decide +kernel
theorem dX7_envelope_32 : decode cX7_envelope 32 = .ok (.getfield 70, 3) := by decide +kernel
theorem dX7_envelope_35 : decode cX7_envelope 35 = .ok (.iload_n 3, 1) := by decide +kernel
theorem dX7_envelope_36 : decode cX7_envelope 36 = .ok (.isub, 1) := by decide +kernel
theorem dX7_envelope_37 : decode cX7_envelope 37 = .ok (.i2l, 1) := by decide +kernel
theorem dX7_envelope_38 : decode cX7_envelope 38 = .ok (.lstore 6, 2) := by decide +kernel
theorem dX7_envelope_40 : decode cX7_envelope 40 = .ok (.aload_n 0, 1) := by decide +kernel
theorem dX7_envelope_41 : decode cX7_envelope 41 = .ok (.iload_n 2, 1) := by decide +kernel
theorem dX7_envelope_42 : decode cX7_envelope 42 = .ok (.iload_n 2, 1) := by decide +kernel
theorem dX7_envelope_43 : decode cX7_envelope 43 = .ok (.iload_n 1, 1) := by decide +kernel
theorem dX7_envelope_44 : decode cX7_envelope 44 = .ok (.iadd, 1) := by decide +kernel
theorem dX7_envelope_45 : decode cX7_envelope 45 = .ok (.iload_n 3, 1) := by decide +kernel
theorem dX7_envelope_46 : decode cX7_envelope 46 = .ok (.isub, 1) := by decide +kernel
theorem dX7_envelope_47 : decode cX7_envelope 47 = .ok (.lload 4, 2) := by decide +kernel
theorem dX7_envelope_49 : decode cX7_envelope 49 = .ok (.aload_n 0, 1) := by decide +kernel
theorem dX7_envelope_50 : decode cX7_envelope 50 = .ok (.getfield 7, 3) := by decide +kernel
theorem dX7_envelope_53 : decode cX7_envelope 53 = .ok (.bipush 11, 2) := by decide +kernel
theorem dX7_envelope_55 : decode cX7_envelope 55 = .ok (.iload_n 3, 1) := by decide +kernel
theorem dX7_envelope_56 : decode cX7_envelope 56 = .ok (.iadd, 1) := by decide +kernel
theorem dX7_envelope_57 : decode cX7_envelope 57 = .ok (.iaload, 1) := by decide +kernel
theorem dX7_envelope_58 : decode cX7_envelope 58 = .ok (.i2l, 1) := by decide +kernel
theorem dX7_envelope_59 : decode cX7_envelope 59 = .ok (.lmul, 1) := by decide +kernel
theorem dX7_envelope_60 : decode cX7_envelope 60 = .ok (.lload 4, 2) := by decide +kernel
theorem dX7_envelope_62 : decode cX7_envelope 62 = .ok (.aload_n 0, 1) := by decide +kernel
theorem dX7_envelope_63 : decode cX7_envelope 63 = .ok (.getfield 7, 3) := by decide +kernel
theorem dX7_envelope_66 : decode cX7_envelope 66 = .ok (.iload_n 3, 1) := by decide +kernel
theorem dX7_envelope_67 : decode cX7_envelope 67 = .ok (.iconst 1, 1) := by decide +kernel
theorem dX7_envelope_68 : decode cX7_envelope 68 = .ok (.iadd, 1) := by decide +kernel
theorem dX7_envelope_69 : decode cX7_envelope 69 = .ok (.iaload, 1) := by decide +kernel
theorem dX7_envelope_70 : decode cX7_envelope 70 = .ok (.i2l, 1) := by decide +kernel
theorem dX7_envelope_71 : decode cX7_envelope 71 = .ok (.lmul, 1) := by decide +kernel
theorem dX7_envelope_72 : decode cX7_envelope 72 = .ok (.lload 4, 2) := by decide +kernel
theorem dX7_envelope_74 : decode cX7_envelope 74 = .ok (.aload_n 0, 1) := by decide +kernel
theorem dX7_envelope_75 : decode cX7_envelope 75 = .ok (.getfield 7, 3) := by decide +kernel
theorem dX7_envelope_78 : decode cX7_envelope 78 = .ok (.bipush 6, 2) := by decide +kernel
theorem dX7_envelope_80 : decode cX7_envelope 80 = .ok (.iload_n 3, 1) := by decide +kernel
theorem dX7_envelope_81 : decode cX7_envelope 81 = .ok (.iadd, 1) := by decide +kernel
theorem dX7_envelope_82 : decode cX7_envelope 82 = .ok (.iaload, 1) := by decide +kernel
theorem dX7_envelope_83 : decode cX7_envelope 83 = .ok (.i2l, 1) := by decide +kernel
theorem dX7_envelope_84 : decode cX7_envelope 84 = .ok (.lmul, 1) := by decide +kernel
theorem dX7_envelope_85 : decode cX7_envelope 85 = .ok (.invokevirtual 93, 3) := by decide +kernel
theorem dX7_envelope_88 : decode cX7_envelope 88 = .ok (.aload_n 0, 1) := by decide +kernel
theorem dX7_envelope_89 : decode cX7_envelope 89 = .ok (.iload_n 1, 1) := by decide +kernel
theorem dX7_envelope_90 : decode cX7_envelope 90 = .ok (.iload_n 2, 1) := by decide +kernel
theorem dX7_envelope_91 : decode cX7_envelope 91 = .ok (.iadd, 1) := by decide +kernel
theorem dX7_envelope_92 : decode cX7_envelope 92 = .ok (.iload_n 2, 1) := by decide +kernel
theorem dX7_envelope_93 : decode cX7_envelope 93 = .ok (.iload_n 1, 1) := by decide +kernel
theorem dX7_envelope_94 : decode cX7_envelope 94 = .ok (.iadd, 1) := by decide +kernel
theorem dX7_envelope_95 : decode cX7_envelope 95 = .ok (.iload_n 3, 1) := by decide +kernel
theorem dX7_envelope_96 : decode cX7_envelope 96 = .ok (.isub, 1) := by decide +kernel
theorem dX7_envelope_97 : decode cX7_envelope 97 = .ok (.lload 6, 2) := by decide +kernel
theorem dX7_envelope_99 : decode cX7_envelope 99 = .ok (.aload_n 0, 1) := by decide +kernel
theorem dX7_envelope_100 : decode cX7_envelope 100 = .ok (.getfield 7, 3) := by decide +kernel
theorem dX7_envelope_103 : decode cX7_envelope 103 = .ok (.bipush 10, 2) := by decide +kernel
theorem dX7_envelope_105 : decode cX7_envelope 105 = .ok (.iload_n 3, 1) := by decide +kernel
theorem dX7_envelope_106 : decode cX7_envelope 106 = .ok (.iadd, 1) := by decide +kernel
theorem dX7_envelope_107 : decode cX7_envelope 107 = .ok (.iaload, 1) := by decide +kernel
theorem dX7_envelope_108 : decode cX7_envelope 108 = .ok (.i2l, 1) := by decide +kernel
theorem dX7_envelope_109 : decode cX7_envelope 109 = .ok (.lmul, 1) := by decide +kernel
theorem dX7_envelope_110 : decode cX7_envelope 110 = .ok (.lload 6, 2) := by decide +kernel
theorem dX7_envelope_112 : decode cX7_envelope 112 = .ok (.aload_n 0, 1) := by decide +kernel
theorem dX7_envelope_113 : decode cX7_envelope 113 = .ok (.getfield 7, 3) := by decide +kernel
theorem dX7_envelope_116 : decode cX7_envelope 116 = .ok (.iload_n 3, 1) := by decide +kernel
theorem dX7_envelope_117 : decode cX7_envelope 117 = .ok (.iaload, 1) := by decide +kernel
theorem dX7_envelope_118 : decode cX7_envelope 118 = .ok (.i2l, 1) := by decide +kernel
theorem dX7_envelope_119 : decode cX7_envelope 119 = .ok (.lmul, 1) := by decide +kernel
theorem dX7_envelope_120 : decode cX7_envelope 120 = .ok (.lload 6, 2) := by decide +kernel
theorem dX7_envelope_122 : decode cX7_envelope 122 = .ok (.aload_n 0, 1) := by decide +kernel
theorem dX7_envelope_123 : decode cX7_envelope 123 = .ok (.getfield 7, 3) := by decide +kernel
theorem dX7_envelope_126 : decode cX7_envelope 126 = .ok (.iconst 5, 1) := by decide +kernel
theorem dX7_envelope_127 : decode cX7_envelope 127 = .ok (.iload_n 3, 1) := by decide +kernel
theorem dX7_envelope_128 : decode cX7_envelope 128 = .ok (.iadd, 1) := by decide +kernel
theorem dX7_envelope_129 : decode cX7_envelope 129 = .ok (.iaload, 1) := by decide +kernel
theorem dX7_envelope_130 : decode cX7_envelope 130 = .ok (.i2l, 1) := by decide +kernel
theorem dX7_envelope_131 : decode cX7_envelope 131 = .ok (.lmul, 1) := by decide +kernel
theorem dX7_envelope_132 : decode cX7_envelope 132 = .ok (.invokevirtual 93, 3) := by decide +kernel
theorem dX7_envelope_135 : decode cX7_envelope 135 = .ok (.iinc 3 1, 3) := by decide +kernel
theorem dX7_envelope_138 : decode cX7_envelope 138 = .ok (.goto (-118), 3) := by decide +kernel
theorem dX7_envelope_141 : decode cX7_envelope 141 = .ok (.iinc 2 1, 3) := by decide +kernel
theorem dX7_envelope_144 : decode cX7_envelope 144 = .ok (.goto (-131), 3) := by decide +kernel
theorem dX7_envelope_147 : decode cX7_envelope 147 = .ok (.aload_n 0, 1) := by decide +kernel
theorem dX7_envelope_148 : decode cX7_envelope 148 = .ok (.iconst 2, 1) := by decide +kernel
theorem dX7_envelope_149 : decode cX7_envelope 149 = .ok (.iload_n 1, 1) := by decide +kernel
theorem dX7_envelope_150 : decode cX7_envelope 150 = .ok (.imul, 1) := by decide +kernel
theorem dX7_envelope_151 : decode cX7_envelope 151 = .ok (.invokevirtual 97, 3) := by decide +kernel
theorem dX7_envelope_154 : decode cX7_envelope 154 = .ok (.aload_n 0, 1) := by decide +kernel
theorem dX7_envelope_155 : decode cX7_envelope 155 = .ok (.iconst 1, 1) := by decide +kernel
theorem dX7_envelope_156 : decode cX7_envelope 156 = .ok (.bipush 49, 2) := by decide +kernel
theorem dX7_envelope_158 : decode cX7_envelope 158 = .ok (.iconst 1, 1) := by decide +kernel
theorem dX7_envelope_159 : decode cX7_envelope 159 = .ok (.iconst 2, 1) := by decide +kernel
theorem dX7_envelope_160 : decode cX7_envelope 160 = .ok (.iload_n 1, 1) := by decide +kernel
theorem dX7_envelope_161 : decode cX7_envelope 161 = .ok (.imul, 1) := by decide +kernel
theorem dX7_envelope_162 : decode cX7_envelope 162 = .ok (.ishl, 1) := by decide +kernel
theorem dX7_envelope_163 : decode cX7_envelope 163 = .ok (.iconst 1, 1) := by decide +kernel
theorem dX7_envelope_164 : decode cX7_envelope 164 = .ok (.isub, 1) := by decide +kernel
theorem dX7_envelope_165 : decode cX7_envelope 165 = .ok (.imul, 1) := by decide +kernel
theorem dX7_envelope_166 : decode cX7_envelope 166 = .ok (.invokevirtual 101, 3) := by decide +kernel
theorem dX7_envelope_169 : decode cX7_envelope 169 = .ok (.return_, 1) := by decide +kernel
set_option maxHeartbeats 4000000 in
set_option maxRecDepth 100000 in
theorem ct_X7_envelope (l : Launch) (D : va_G) (ce : Nat → ClassId) (h : Nat → Nat) (F : Nat → Int) (I : Nat → Nat → Int32) (J : Nat → Nat → Int64) (hF : 2 ≤ F 0 ∧ F 0 ≤ 4) (hdg : DGok (I 2)) : Ct l yX7_envelope cX7_envelope 8 none { frames := 4, cells := 0, slots := 0, locals := 121 } 0 0 D (TY ce) [.ref (h 0)] (rW ce h F I J) (QV D (TY ce) (fun w1 => ∃ I2 : Nat → Nat → Int32, ∃ J2 : Nat → Nat → Int64, w1 = rW ce h F I2 J2 ∧ (∀ k, k ≠ 1 → k ≠ 4 → k ≠ 5 → k ≠ 6 → k ≠ 7 → k ≠ 8 → k ≠ 9 → J2 k = J k) ∧ (∀ k, k ≠ 1 → k ≠ 2 → k ≠ 3 → I2 k = I k) ∧ (DGok (I2 2)))) := by
  refine Ct.ofV (by decide) (Nat.le_of_ble_eq_true rfl) ?_
  intro p e s m args below meth c A Q hX hnm hR
  refine Z.pick (lv' := [(0, .ref (h 0))]) [0] rfl ?_
  obtain ⟨T, hT, hT1, hT2, hT3⟩ := sh1 (n := 2 * (F 0 - 1)) (by omega) (by omega)
  refine Z.aload_n hX dX7_envelope_0 rfl rfl ?_
  refine Z.getf hX 7 0 2 dX7_envelope_1 rfl rfl inX7 (by decide) fl_X7_70 rfl rfl ?_
  refine Z.iconst hX dX7_envelope_4 ?_
  refine Z.isub hX dX7_envelope_5 ?_
  refine Z.istore_n (lv' := [(1, .int (zI ((F 0) - 1))), (0, .ref (h 0))]) hX dX7_envelope_6 rfl (by decide) rfl ?_
  refine Z.aload_n hX dX7_envelope_7 rfl rfl ?_
  refine Z.callVfv (As := []) (rest := []) hX 7 0 rfl rfl (ct_X7_emptied l D ce h F I J ) mc_X7_emptied ml_X7_90 im_X7_emptied se_X7_emptied ini_X7 nd_X7_emptied ⟨Nat.le_of_ble_eq_true rfl, Nat.le_of_ble_eq_true rfl⟩ ⟨rfl, rfl⟩ ⟨Nat.le_refl _, Nat.le_refl _⟩ rfl (Nat.le_of_ble_eq_true rfl) dX7_envelope_8 ?_
  rintro w1 ⟨J22, hw_, hem1, hem2⟩
  subst hw_
  refine Z.iconst hX dX7_envelope_11 ?_
  refine Z.istore_n (lv' := [(2, .int (zI 0)), (1, .int (zI ((F 0) - 1))), (0, .ref (h 0))]) hX dX7_envelope_12 rfl (by decide) rfl ?_
  have key_13 : ∀ (N : Nat), ∀ (r : Int) (M : Nat → Nat → Int64), (F 0 - 1 - r).toNat < N → (hr : 0 ≤ r ∧ r ≤ F 0 - 1) → (hE : EZ (M 4) 6 0) → (hM : ∀ k, k ≠ 4 → M k = J k) → Z p l e { frames := 4, cells := 0, slots := 0, locals := 121 } s m args below meth c D A 8 0 0 Q 13 [(2, .int (zI r)), (1, .int (zI (F 0 - 1))), (0, .ref (h 0))] [] (rW ce h F I M) := by
    intro N
    induction N with
    | zero => intro r M hm; exact absurd hm (Nat.not_lt_zero _)
    | succ N ih_13 =>
      intro r M hm hr hE hM
      refine Z.iload_n hX dX7_envelope_13 rfl rfl ?_
      refine Z.iload_n hX dX7_envelope_14 rfl rfl ?_
      refine Z.icmp_ge hX 147 dX7_envelope_15 (by decide) ⟨by omega, by omega⟩ ⟨by omega, by omega⟩ ?_ ?_
      · intro c3
        refine Z.aload_n hX dX7_envelope_147 rfl rfl ?_
        refine Z.iconst hX dX7_envelope_148 ?_
        refine Z.iload_n hX dX7_envelope_149 rfl rfl ?_
        refine Z.imul hX dX7_envelope_150 ?_
        refine Z.callVfv (As := [.int (zI (2 * (F 0 - 1)))]) (rest := []) hX 7 0 rfl rfl (ct_X7_minorsOf l D ce h F I M (2 * (F 0 - 1)) 6 0 (by omega) (by omega) hE) mc_X7_minorsOf ml_X7_97 im_X7_minorsOf se_X7_minorsOf ini_X7 nd_X7_minorsOf ⟨Nat.le_of_ble_eq_true rfl, Nat.le_of_ble_eq_true rfl⟩ ⟨rfl, rfl⟩ ⟨Nat.le_refl _, Nat.le_refl _⟩ rfl (Nat.le_of_ble_eq_true rfl) dX7_envelope_151 ?_
        rintro w1 ⟨J25, hw_, hq6⟩
        subst hw_
        refine Z.aload_n hX dX7_envelope_154 rfl rfl ?_
        refine Z.iconst hX dX7_envelope_155 ?_
        refine Z.bipush hX dX7_envelope_156 (by decide) ?_
        refine Z.iconst hX dX7_envelope_158 ?_
        refine Z.iconst hX dX7_envelope_159 ?_
        refine Z.iload_n hX dX7_envelope_160 rfl rfl ?_
        refine Z.imul hX dX7_envelope_161 ?_
        refine Z.ishl hX dX7_envelope_162 ?_
        refine Z.vali (y := zI T) hT ?_
        refine Z.iconst hX dX7_envelope_163 ?_
        refine Z.isub hX dX7_envelope_164 ?_
        refine Z.imul hX dX7_envelope_165 ?_
        refine Z.callVfv (As := [.int (zI 1), .int (zI (49 * (T - 1)))]) (rest := []) hX 7 0 rfl rfl (ct_X7_tell l D ce h F I J25 1 (49 * (T - 1)) (by omega) (by omega) hdg) mc_X7_tell ml_X7_101 im_X7_tell se_X7_tell ini_X7 nd_X7_tell ⟨Nat.le_of_ble_eq_true rfl, Nat.le_of_ble_eq_true rfl⟩ ⟨rfl, rfl⟩ ⟨Nat.le_refl _, Nat.le_refl _⟩ rfl (Nat.le_of_ble_eq_true rfl) dX7_envelope_166 ?_
        rintro w1 ⟨I28, J29, hw_, ht1, ht2, hdgZ⟩
        subst hw_
        exact hR _ _ _ dX7_envelope_169 ⟨I28, J29, rfl, (fun k h1 h4 h5 h6 h7 h8 h9 => ((ht1 k h1 h6 h7 h8 h9).trans ((hq6 k h5).trans (hM k h4)))), (fun k h1 h2 h3 => ((ht2 k h1 h2 h3).trans rfl)), hdgZ⟩
      · intro c3
        refine Z.iconst hX dX7_envelope_18 ?_
        refine Z.istore_n (lv' := [(3, .int (zI 0)), (2, .int (zI r)), (1, .int (zI (F 0 - 1))), (0, .ref (h 0))]) hX dX7_envelope_19 rfl (by decide) rfl ?_
        have key_20 : ∀ (N : Nat), ∀ (k : Int) (M : Nat → Nat → Int64), (F 0 - k).toNat < N → (hk : 0 ≤ k ∧ k ≤ F 0) → (hE : EZ (M 4) 6 0) → (hM : ∀ k, k ≠ 4 → M k = J k) → Z p l e { frames := 4, cells := 0, slots := 0, locals := 121 } s m args below meth c D A 8 0 0 Q 20 [(3, .int (zI k)), (2, .int (zI r)), (1, .int (zI (F 0 - 1))), (0, .ref (h 0))] [] (rW ce h F I M) := by
          intro N
          induction N with
          | zero => intro k M hm; exact absurd hm (Nat.not_lt_zero _)
          | succ N ih_20 =>
            intro k M hm hk hE hM
            refine Z.iload_n hX dX7_envelope_20 rfl rfl ?_
            refine Z.iload_n hX dX7_envelope_21 rfl rfl ?_
            refine Z.icmp_gt hX 141 dX7_envelope_22 (by decide) ⟨by omega, by omega⟩ ⟨by omega, by omega⟩ ?_ ?_
            · intro c10
              refine Z.iinc (lv' := [(2, .int (zI (r + 1))), (3, .int (zI k)), (1, .int (zI (F 0 - 1))), (0, .ref (h 0))]) hX dX7_envelope_141 rfl (by decide) rfl ?_
              refine Z.goto hX 13 dX7_envelope_144 (by decide) ?_
              refine Z.pick [0, 2, 3] rfl ?_
              exact ih_13 _ _ (by omega) (by omega) hE (fun k h4 => (hM k h4))
            · intro c10
              refine Z.iload_n hX dX7_envelope_25 rfl rfl ?_
              refine Z.iconst hX dX7_envelope_26 ?_
              refine Z.iadd hX dX7_envelope_27 ?_
              refine Z.i2l hX dX7_envelope_28 ⟨by omega, by omega⟩ ?_
              refine Z.lstore (lv' := [(4, .long (zL (k + 1))), (3, .int (zI k)), (2, .int (zI r)), (1, .int (zI (F 0 - 1))), (0, .ref (h 0))]) hX dX7_envelope_29 (by decide) rfl ?_
              refine Z.aload_n hX dX7_envelope_31 rfl rfl ?_
              refine Z.getf hX 7 0 2 dX7_envelope_32 rfl rfl inX7 (by decide) fl_X7_70 rfl rfl ?_
              refine Z.iload_n hX dX7_envelope_35 rfl rfl ?_
              refine Z.isub hX dX7_envelope_36 ?_
              refine Z.i2l hX dX7_envelope_37 ⟨by omega, by omega⟩ ?_
              refine Z.lstore (lv' := [(6, .long (zL ((F 0) - k))), (4, .long (zL (k + 1))), (3, .int (zI k)), (2, .int (zI r)), (1, .int (zI (F 0 - 1))), (0, .ref (h 0))]) hX dX7_envelope_38 (by decide) rfl ?_
              refine Z.aload_n hX dX7_envelope_40 rfl rfl ?_
              refine Z.iload_n hX dX7_envelope_41 rfl rfl ?_
              refine Z.iload_n hX dX7_envelope_42 rfl rfl ?_
              refine Z.iload_n hX dX7_envelope_43 rfl rfl ?_
              refine Z.iadd hX dX7_envelope_44 ?_
              refine Z.iload_n hX dX7_envelope_45 rfl rfl ?_
              refine Z.isub hX dX7_envelope_46 ?_
              refine Z.lload hX dX7_envelope_47 rfl ?_
              refine Z.aload_n hX dX7_envelope_49 rfl rfl ?_
              refine Z.getf hX 7 0 0 dX7_envelope_50 rfl rfl inX7 (by decide) fl_X7_7 rfl rfl ?_
              refine Z.bipush hX dX7_envelope_53 (by decide) ?_
              refine Z.iload_n hX dX7_envelope_55 rfl rfl ?_
              refine Z.iadd hX dX7_envelope_56 ?_
              refine Z.iaload hX 1 0 dX7_envelope_57 rfl rfl (by omega) (by omega) (by decide) ?_
              refine Z.topi (fun z11 hz11 kz11 ez11 => ?_)
              refine Z.i2l hX dX7_envelope_58 ⟨by omega, by omega⟩ ?_
              refine Z.lmul hX dX7_envelope_59 ?_
              refine Z.lload hX dX7_envelope_60 rfl ?_
              refine Z.aload_n hX dX7_envelope_62 rfl rfl ?_
              refine Z.getf hX 7 0 0 dX7_envelope_63 rfl rfl inX7 (by decide) fl_X7_7 rfl rfl ?_
              refine Z.iload_n hX dX7_envelope_66 rfl rfl ?_
              refine Z.iconst hX dX7_envelope_67 ?_
              refine Z.iadd hX dX7_envelope_68 ?_
              refine Z.iaload hX 1 0 dX7_envelope_69 rfl rfl (by omega) (by omega) (by decide) ?_
              refine Z.topi (fun z12 hz12 kz12 ez12 => ?_)
              refine Z.i2l hX dX7_envelope_70 ⟨by omega, by omega⟩ ?_
              refine Z.lmul hX dX7_envelope_71 ?_
              refine Z.lload hX dX7_envelope_72 rfl ?_
              refine Z.aload_n hX dX7_envelope_74 rfl rfl ?_
              refine Z.getf hX 7 0 0 dX7_envelope_75 rfl rfl inX7 (by decide) fl_X7_7 rfl rfl ?_
              refine Z.bipush hX dX7_envelope_78 (by decide) ?_
              refine Z.iload_n hX dX7_envelope_80 rfl rfl ?_
              refine Z.iadd hX dX7_envelope_81 ?_
              refine Z.iaload hX 1 0 dX7_envelope_82 rfl rfl (by omega) (by omega) (by decide) ?_
              refine Z.topi (fun z13 hz13 kz13 ez13 => ?_)
              refine Z.i2l hX dX7_envelope_83 ⟨by omega, by omega⟩ ?_
              refine Z.lmul hX dX7_envelope_84 ?_
              refine Z.callVfv (As := [.int (zI r), .int (zI ((r + (F 0 - 1)) - k)), .long ((zL (k + 1)) * (zL z11)), .long ((zL (k + 1)) * (zL z12)), .long ((zL (k + 1)) * (zL z13))]) (rest := []) hX 7 0 rfl rfl (ct_X7_entry l D ce h F I M r ((r + (F 0 - 1)) - k) ((zL (k + 1)) * (zL z11)) ((zL (k + 1)) * (zL z12)) ((zL (k + 1)) * (zL z13)) (by omega) (by omega)) mc_X7_entry ml_X7_93 im_X7_entry se_X7_entry ini_X7 nd_X7_entry ⟨Nat.le_of_ble_eq_true rfl, Nat.le_of_ble_eq_true rfl⟩ ⟨rfl, rfl⟩ ⟨Nat.le_refl _, Nat.le_refl _⟩ rfl (Nat.le_of_ble_eq_true rfl) dX7_envelope_85 ?_
              rintro w1 ⟨Ja, hw_, ha1, ha2⟩
              subst hw_
              have hEa : EZ (Ja 4) 6 0 := EZ_s (by omega) (by omega) (fun q => by omega) (fun q => by omega) hE ha2
              refine Z.aload_n hX dX7_envelope_88 rfl rfl ?_
              refine Z.iload_n hX dX7_envelope_89 rfl rfl ?_
              refine Z.iload_n hX dX7_envelope_90 rfl rfl ?_
              refine Z.iadd hX dX7_envelope_91 ?_
              refine Z.iload_n hX dX7_envelope_92 rfl rfl ?_
              refine Z.iload_n hX dX7_envelope_93 rfl rfl ?_
              refine Z.iadd hX dX7_envelope_94 ?_
              refine Z.iload_n hX dX7_envelope_95 rfl rfl ?_
              refine Z.isub hX dX7_envelope_96 ?_
              refine Z.lload hX dX7_envelope_97 rfl ?_
              refine Z.aload_n hX dX7_envelope_99 rfl rfl ?_
              refine Z.getf hX 7 0 0 dX7_envelope_100 rfl rfl inX7 (by decide) fl_X7_7 rfl rfl ?_
              refine Z.bipush hX dX7_envelope_103 (by decide) ?_
              refine Z.iload_n hX dX7_envelope_105 rfl rfl ?_
              refine Z.iadd hX dX7_envelope_106 ?_
              refine Z.iaload hX 1 0 dX7_envelope_107 rfl rfl (by omega) (by omega) (by decide) ?_
              refine Z.topi (fun z15 hz15 kz15 ez15 => ?_)
              refine Z.i2l hX dX7_envelope_108 ⟨by omega, by omega⟩ ?_
              refine Z.lmul hX dX7_envelope_109 ?_
              refine Z.lload hX dX7_envelope_110 rfl ?_
              refine Z.aload_n hX dX7_envelope_112 rfl rfl ?_
              refine Z.getf hX 7 0 0 dX7_envelope_113 rfl rfl inX7 (by decide) fl_X7_7 rfl rfl ?_
              refine Z.iload_n hX dX7_envelope_116 rfl rfl ?_
              refine Z.iaload hX 1 0 dX7_envelope_117 rfl rfl (by omega) (by omega) (by decide) ?_
              refine Z.topi (fun z16 hz16 kz16 ez16 => ?_)
              refine Z.i2l hX dX7_envelope_118 ⟨by omega, by omega⟩ ?_
              refine Z.lmul hX dX7_envelope_119 ?_
              refine Z.lload hX dX7_envelope_120 rfl ?_
              refine Z.aload_n hX dX7_envelope_122 rfl rfl ?_
              refine Z.getf hX 7 0 0 dX7_envelope_123 rfl rfl inX7 (by decide) fl_X7_7 rfl rfl ?_
              refine Z.iconst hX dX7_envelope_126 ?_
              refine Z.iload_n hX dX7_envelope_127 rfl rfl ?_
              refine Z.iadd hX dX7_envelope_128 ?_
              refine Z.iaload hX 1 0 dX7_envelope_129 rfl rfl (by omega) (by omega) (by decide) ?_
              refine Z.topi (fun z17 hz17 kz17 ez17 => ?_)
              refine Z.i2l hX dX7_envelope_130 ⟨by omega, by omega⟩ ?_
              refine Z.lmul hX dX7_envelope_131 ?_
              refine Z.callVfv (As := [.int (zI ((F 0 - 1) + r)), .int (zI ((r + (F 0 - 1)) - k)), .long ((zL ((F 0) - k)) * (zL z15)), .long ((zL ((F 0) - k)) * (zL z16)), .long ((zL ((F 0) - k)) * (zL z17))]) (rest := []) hX 7 0 rfl rfl (ct_X7_entry l D ce h F I Ja ((F 0 - 1) + r) ((r + (F 0 - 1)) - k) ((zL ((F 0) - k)) * (zL z15)) ((zL ((F 0) - k)) * (zL z16)) ((zL ((F 0) - k)) * (zL z17)) (by omega) (by omega)) mc_X7_entry ml_X7_93 im_X7_entry se_X7_entry ini_X7 nd_X7_entry ⟨Nat.le_of_ble_eq_true rfl, Nat.le_of_ble_eq_true rfl⟩ ⟨rfl, rfl⟩ ⟨Nat.le_refl _, Nat.le_refl _⟩ rfl (Nat.le_of_ble_eq_true rfl) dX7_envelope_132 ?_
              rintro w1 ⟨Jb, hw_, hb1, hb2⟩
              subst hw_
              have hEb : EZ (Jb 4) 6 0 := EZ_s (by omega) (by omega) (fun q => by omega) (fun q => by omega) hEa hb2
              refine Z.iinc (lv' := [(3, .int (zI (k + 1))), (6, .long (zL ((F 0) - k))), (4, .long (zL (k + 1))), (2, .int (zI r)), (1, .int (zI (F 0 - 1))), (0, .ref (h 0))]) hX dX7_envelope_135 rfl (by decide) rfl ?_
              refine Z.goto hX 20 dX7_envelope_138 (by decide) ?_
              refine Z.pick [0, 3, 4, 5] rfl ?_
              exact ih_20 _ _ (by omega) (by omega) hEb (fun k h4 => ((hb1 k h4).trans ((ha1 k h4).trans (hM k h4))))
        refine Z.pick [0, 1, 2, 3] rfl ?_
        exact key_20 _ _ _ (Nat.lt_succ_self _) (by omega) hE (fun k h4 => (hM k h4))
  refine Z.pick [0, 1, 2] rfl ?_
  exact key_13 _ _ _ (Nat.lt_succ_self _) (by omega) (EZ_0 hem2 _ _) (fun k h4 => ((hem1 k h4).trans rfl))

