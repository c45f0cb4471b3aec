section
theorem dX7_locus_0 : decode cX7_locus 0 = .ok (.aload_n 0, 1) := by decide +kernel
theorem dX7_locus_1 : decode cX7_locus 1 = .ok (.getfield 77, 3) := by decide +kernel
theorem dX7_locus_4 : decode cX7_locus 4 = .ok (.istore_n 1, 1) := by decide +kernel
theorem dX7_locus_5 : decode cX7_locus 5 = .ok (.aload_n 0, 1) := by decide +kernel
theorem dX7_locus_6 : decode cX7_locus 6 = .ok (.invokevirtual 90, 3) := by decide +kernel
theorem dX7_locus_9 : decode cX7_locus 9 = .ok (.iconst 0, 1) := by decide +kernel
theorem dX7_locus_10 : decode cX7_locus 10 = .ok (.istore_n 2, 1) := by decide +kernel
theorem dX7_locus_11 : decode cX7_locus 11 = .ok (.iload_n 2, 1) := by decide +kernel
theorem dX7_locus_12 : decode cX7_locus 12 = .ok (.iload_n 1, 1) := by decide +kernel
theorem dX7_locus_13 : decode cX7_locus 13 = .ok (.if_icmp .ge 80, 3) := by decide +kernel
theorem dX7_locus_16 : decode cX7_locus 16 = .ok (.iconst 0, 1) := by decide +kernel
theorem dX7_locus_17 : decode cX7_locus 17 = .ok (.istore_n 3, 1) := by decide +kernel
theorem dX7_locus_18 : decode cX7_locus 18 = .ok (.iload_n 3, 1) := by decide +kernel
theorem dX7_locus_19 : decode cX7_locus 19 = .ok (.iload_n 1, 1) := by decide +kernel
theorem dX7_locus_20 : decode cX7_locus 20 = .ok (.if_icmp .gt 67, 3) := by decide +kernel
theorem dX7_locus_23 : decode cX7_locus 23 = .ok (.aload_n 0, 1) := by decide +kernel
theorem dX7_locus_24 : decode cX7_locus 24 = .ok (.iload_n 2, 1) := by decide +kernel
theorem dX7_locus_25 : decode cX7_locus 25 = .ok (.iload_n 2, 1) := by decide +kernel
theorem dX7_locus_26 : decode cX7_locus 26 = .ok (.iload_n 1, 1) := by decide +kernel
theorem dX7_locus_27 : decode cX7_locus 27 = .ok (.iadd, 1) := by decide +kernel
theorem dX7_locus_28 : decode cX7_locus 28 = .ok (.iload_n 3, 1) := by decide +kernel
theorem dX7_locus_29 : decode cX7_locus 29 = .ok (.isub, 1) := by decide +kernel
theorem dX7_locus_30 : decode cX7_locus 30 = .ok (.aload_n 0, 1) := by decide +kernel
theorem dX7_locus_31 : decode cX7_locus 31 = .ok (.getfield 13, 3) := by decide +kernel
theorem dX7_locus_34 : decode cX7_locus 34 = .ok (.iload_n 3, 1) := by decide +kernel
theorem dX7_locus_35 : decode cX7_locus 35 = .ok (.laload, 1) := by decide +kernel
theorem dX7_locus_36 : decode cX7_locus 36 = .ok (.aload_n 0, 1) := by decide +kernel
theorem dX7_locus_37 : decode cX7_locus 37 = .ok (.getfield 13, 3) := by decide +kernel
theorem dX7_locus_40 : decode cX7_locus 40 = .ok (.bipush 10, 2) := by decide +kernel
theorem dX7_locus_42 : decode cX7_locus 42 = .ok (.iload_n 3, 1) := by decide +kernel
theorem dX7_locus_43 : decode cX7_locus 43 = .ok (.iadd, 1) := by decide +kernel
theorem dX7_locus_44 : decode cX7_locus 44 = .ok (.laload, 1) := by decide +kernel
theorem dX7_locus_45 : decode cX7_locus 45 = .ok (.lneg, 1) := by decide +kernel
theorem dX7_locus_46 : decode cX7_locus 46 = .ok (.lconst 0, 1) := by decide +kernel
theorem dX7_locus_47 : decode cX7_locus 47 = .ok (.invokevirtual 93, 3) := by decide +kernel
theorem dX7_locus_50 : decode cX7_locus 50 = .ok (.aload_n 0, 1) := by decide +kernel
theorem dX7_locus_51 : decode cX7_locus 51 = .ok (.iload_n 1, 1) := by decide +kernel
theorem dX7_locus_52 : decode cX7_locus 52 = .ok (.iload_n 2, 1) := by decide +kernel
theorem dX7_locus_53 : decode cX7_locus 53 = .ok (.iadd, 1) := by decide +kernel
theorem dX7_locus_54 : decode cX7_locus 54 = .ok (.iload_n 2, 1) := by decide +kernel
theorem dX7_locus_55 : decode cX7_locus 55 = .ok (.iload_n 1, 1) := by decide +kernel
theorem dX7_locus_56 : decode cX7_locus 56 = .ok (.iadd, 1) := by decide +kernel
theorem dX7_locus_57 : decode cX7_locus 57 = .ok (.iload_n 3, 1) := by decide +kernel
theorem dX7_locus_58 : decode cX7_locus 58 = .ok (.isub, 1) := by decide +kernel
theorem dX7_locus_59 : decode cX7_locus 59 = .ok (.aload_n 0, 1) := by decide +kernel
theorem dX7_locus_60 : decode cX7_locus 60 = .ok (.getfield 13, 3) := by decide +kernel
theorem dX7_locus_63 : decode cX7_locus 63 = .ok (.iconst 5, 1) := by decide +kernel
theorem dX7_locus_64 : decode cX7_locus 64 = .ok (.iload_n 3, 1) := by decide +kernel
theorem dX7_locus_65 : decode cX7_locus 65 = .ok (.iadd, 1) := by decide +kernel
theorem dX7_locus_66 : decode cX7_locus 66 = .ok (.laload, 1) := by decide +kernel
theorem dX7_locus_67 : decode cX7_locus 67 = .ok (.lconst 0, 1) := by decide +kernel
theorem dX7_locus_68 : decode cX7_locus 68 = .ok (.aload_n 0, 1) := by decide +kernel
theorem dX7_locus_69 : decode cX7_locus 69 = .ok (.getfield 13, 3) := by decide +kernel
theorem dX7_locus_72 : decode cX7_locus 72 = .ok (.bipush 10, 2) := by decide +kernel
theorem dX7_locus_74 : decode cX7_locus 74 = .ok (.iload_n 3, 1) := by decide +kernel
theorem dX7_locus_75 : decode cX7_locus 75 = .ok (.iadd, 1) := by decide +kernel
theorem dX7_locus_76 : decode cX7_locus 76 = .ok (.laload, 1) := by decide +kernel
theorem dX7_locus_77 : decode cX7_locus 77 = .ok (.lneg, 1) := by decide +kernel
theorem dX7_locus_78 : decode cX7_locus 78 = .ok (.invokevirtual 93, 3) := by decide +kernel
theorem dX7_locus_81 : decode cX7_locus 81 = .ok (.iinc 3 1, 3) := by decide +kernel
theorem dX7_locus_84 : decode cX7_locus 84 = .ok (.goto (-66), 3) := by decide +kernel
theorem dX7_locus_87 : decode cX7_locus 87 = .ok (.iinc 2 1, 3) := by decide +kernel
theorem dX7_locus_90 : decode cX7_locus 90 = .ok (.goto (-79), 3) := by decide +kernel
theorem dX7_locus_93 : decode cX7_locus 93 = .ok (.aload_n 0, 1) := by decide +kernel
theorem dX7_locus_94 : decode cX7_locus 94 = .ok (.iconst 2, 1) := by decide +kernel
theorem dX7_locus_95 : decode cX7_locus 95 = .ok (.iload_n 1, 1) := by decide +kernel
theorem dX7_locus_96 : decode cX7_locus 96 = .ok (.imul, 1) := by decide +kernel
theorem dX7_locus_97 : decode cX7_locus 97 = .ok (.invokevirtual 97, 3) := by decide +kernel
theorem dX7_locus_100 : decode cX7_locus 100 = .ok (.aload_n 0, 1) := by decide +kernel
theorem dX7_locus_101 : decode cX7_locus 101 = .ok (.iconst 0, 1) := by decide +kernel
theorem dX7_locus_102 : decode cX7_locus 102 = .ok (.bipush 49, 2) := by decide +kernel
theorem dX7_locus_104 : decode cX7_locus 104 = .ok (.iconst 1, 1) := by decide +kernel
theorem dX7_locus_105 : decode cX7_locus 105 = .ok (.iconst 2, 1) := by decide +kernel
theorem dX7_locus_106 : decode cX7_locus 106 = .ok (.iload_n 1, 1) := by decide +kernel
theorem dX7_locus_107 : decode cX7_locus 107 = .ok (.imul, 1) := by decide +kernel
theorem dX7_locus_108 : decode cX7_locus 108 = .ok (.ishl, 1) := by decide +kernel
theorem dX7_locus_109 : decode cX7_locus 109 = .ok (.iconst 1, 1) := by decide +kernel
theorem dX7_locus_110 : decode cX7_locus 110 = .ok (.isub, 1) := by decide +kernel
theorem dX7_locus_111 : decode cX7_locus 111 = .ok (.imul, 1) := by decide +kernel
theorem dX7_locus_112 : decode cX7_locus 112 = .ok (.invokevirtual 101, 3) := by decide +kernel
theorem dX7_locus_115 : decode cX7_locus 115 = .ok (.return_, 1) := by decide +kernel
set_option maxHeartbeats 4000000 in
set_option maxRecDepth 100000 in
theorem ct_X7_locus (l : Launch) (D : va_G) (ce : Nat → ClassId) (h : Nat → Nat) (F : Nat → Int) (I : Nat → Nat → Int32) (J : Nat → Nat → Int64) (hF : 1 ≤ F 1 ∧ F 1 ≤ 4) (hdg : DGok (I 2)) : Ct l yX7_locus cX7_locus 4 none { frames := 4, cells := 0, slots := 0, locals := 121 } 0 0 D (TY ce) [.ref (h 0)] (rW ce h F I J) (QV D (TY ce) (fun w1 => ∃ I2 : Nat → Nat → Int32, ∃ J2 : Nat → Nat → Int64, w1 = rW ce h F I2 J2 ∧ (∀ k, k ≠ 1 → k ≠ 4 → k ≠ 5 → k ≠ 6 → k ≠ 7 → k ≠ 8 → k ≠ 9 → J2 k = J k) ∧ (∀ k, k ≠ 1 → k ≠ 2 → k ≠ 3 → I2 k = I k) ∧ (DGok (I2 2)))) := by
  refine Ct.ofV (by decide) (Nat.le_of_ble_eq_true rfl) ?_
  intro p e s m args below meth c A Q hX hnm hR
  refine Z.pick (lv' := [(0, .ref (h 0))]) [0] rfl ?_
  obtain ⟨T, hT, hT1, hT2, hT3⟩ := sh1 (n := 2 * F 1) (by omega) (by omega)
  refine Z.aload_n hX dX7_locus_0 rfl rfl ?_
  refine Z.getf hX 7 0 3 dX7_locus_1 rfl rfl inX7 (by decide) fl_X7_77 rfl rfl ?_
  refine Z.istore_n (lv' := [(1, .int (zI (F 1))), (0, .ref (h 0))]) hX dX7_locus_4 rfl (by decide) rfl ?_
  refine Z.aload_n hX dX7_locus_5 rfl rfl ?_
  refine Z.callVfv (As := []) (rest := []) hX 7 0 rfl rfl (ct_X7_emptied l D ce h F I J ) mc_X7_emptied ml_X7_90 im_X7_emptied se_X7_emptied ini_X7 nd_X7_emptied ⟨Nat.le_of_ble_eq_true rfl, Nat.le_of_ble_eq_true rfl⟩ ⟨rfl, rfl⟩ ⟨Nat.le_refl _, Nat.le_refl _⟩ rfl (Nat.le_of_ble_eq_true rfl) dX7_locus_6 ?_
  rintro w1 ⟨J22, hw_, hem1, hem2⟩
  subst hw_
  refine Z.iconst hX dX7_locus_9 ?_
  refine Z.istore_n (lv' := [(2, .int (zI 0)), (1, .int (zI (F 1))), (0, .ref (h 0))]) hX dX7_locus_10 rfl (by decide) rfl ?_
  have key_11 : ∀ (N : Nat), ∀ (r : Int) (M : Nat → Nat → Int64), (F 1 - r).toNat < N → (hr : 0 ≤ r ∧ r ≤ F 1) → (hE : EZ (M 4) (F 1) (F 1)) → (hM : ∀ k, k ≠ 4 → M k = J k) → Z p l e { frames := 4, cells := 0, slots := 0, locals := 121 } s m args below meth c D A 4 0 0 Q 11 [(2, .int (zI r)), (1, .int (zI (F 1))), (0, .ref (h 0))] [] (rW ce h F I M) := by
    intro N
    induction N with
    | zero => intro r M hm; exact absurd hm (Nat.not_lt_zero _)
    | succ N ih_11 =>
      intro r M hm hr hE hM
      refine Z.iload_n hX dX7_locus_11 rfl rfl ?_
      refine Z.iload_n hX dX7_locus_12 rfl rfl ?_
      refine Z.icmp_ge hX 93 dX7_locus_13 (by decide) ⟨by omega, by omega⟩ ⟨by omega, by omega⟩ ?_ ?_
      · intro c3
        refine Z.aload_n hX dX7_locus_93 rfl rfl ?_
        refine Z.iconst hX dX7_locus_94 ?_
        refine Z.iload_n hX dX7_locus_95 rfl rfl ?_
        refine Z.imul hX dX7_locus_96 ?_
        refine Z.callVfv (As := [.int (zI (2 * (F 1)))]) (rest := []) hX 7 0 rfl rfl (ct_X7_minorsOf l D ce h F I M (2 * (F 1)) (F 1) (F 1) (by omega) (by omega) hE) mc_X7_minorsOf ml_X7_97 im_X7_minorsOf se_X7_minorsOf ini_X7 nd_X7_minorsOf ⟨Nat.le_of_ble_eq_true rfl, Nat.le_of_ble_eq_true rfl⟩ ⟨rfl, rfl⟩ ⟨Nat.le_refl _, Nat.le_refl _⟩ rfl (Nat.le_of_ble_eq_true rfl) dX7_locus_97 ?_
        rintro w1 ⟨J25, hw_, hq6⟩
        subst hw_
        refine Z.aload_n hX dX7_locus_100 rfl rfl ?_
        refine Z.iconst hX dX7_locus_101 ?_
        refine Z.bipush hX dX7_locus_102 (by decide) ?_
        refine Z.iconst hX dX7_locus_104 ?_
        refine Z.iconst hX dX7_locus_105 ?_
        refine Z.iload_n hX dX7_locus_106 rfl rfl ?_
        refine Z.imul hX dX7_locus_107 ?_
        refine Z.ishl hX dX7_locus_108 ?_
        refine Z.vali (y := zI T) hT ?_
        refine Z.iconst hX dX7_locus_109 ?_
        refine Z.isub hX dX7_locus_110 ?_
        refine Z.imul hX dX7_locus_111 ?_
        refine Z.callVfv (As := [.int (zI 0), .int (zI (49 * (T - 1)))]) (rest := []) hX 7 0 rfl rfl (ct_X7_tell l D ce h F I J25 0 (49 * (T - 1)) (by omega) (by omega) hdg) mc_X7_tell ml_X7_101 im_X7_tell se_X7_tell ini_X7 nd_X7_tell ⟨Nat.le_of_ble_eq_true rfl, Nat.le_of_ble_eq_true rfl⟩ ⟨rfl, rfl⟩ ⟨Nat.le_refl _, Nat.le_refl _⟩ rfl (Nat.le_of_ble_eq_true rfl) dX7_locus_112 ?_
        rintro w1 ⟨I28, J29, hw_, ht1, ht2, hdgZ⟩
        subst hw_
        exact hR _ _ _ dX7_locus_115 ⟨I28, J29, rfl, (fun k h1 h4 h5 h6 h7 h8 h9 => ((ht1 k h1 h6 h7 h8 h9).trans ((hq6 k h5).trans (hM k h4)))), (fun k h1 h2 h3 => ((ht2 k h1 h2 h3).trans rfl)), hdgZ⟩
      · intro c3
        refine Z.iconst hX dX7_locus_16 ?_
        refine Z.istore_n (lv' := [(3, .int (zI 0)), (2, .int (zI r)), (1, .int (zI (F 1))), (0, .ref (h 0))]) hX dX7_locus_17 rfl (by decide) rfl ?_
        have key_18 : ∀ (N : Nat), ∀ (k : Int) (M : Nat → Nat → Int64), (F 1 + 1 - k).toNat < N → (hk : 0 ≤ k ∧ k ≤ F 1 + 1) → (hE : EZ (M 4) (F 1) (F 1)) → (hM : ∀ k, k ≠ 4 → M k = J k) → Z p l e { frames := 4, cells := 0, slots := 0, locals := 121 } s m args below meth c D A 4 0 0 Q 18 [(3, .int (zI k)), (2, .int (zI r)), (1, .int (zI (F 1))), (0, .ref (h 0))] [] (rW ce h F I M) := by
          intro N
          induction N with
          | zero => intro k M hm; exact absurd hm (Nat.not_lt_zero _)
          | succ N ih_18 =>
            intro k M hm hk hE hM
            refine Z.iload_n hX dX7_locus_18 rfl rfl ?_
            refine Z.iload_n hX dX7_locus_19 rfl rfl ?_
            refine Z.icmp_gt hX 87 dX7_locus_20 (by decide) ⟨by omega, by omega⟩ ⟨by omega, by omega⟩ ?_ ?_
            · intro c10
              refine Z.iinc (lv' := [(2, .int (zI (r + 1))), (3, .int (zI k)), (1, .int (zI (F 1))), (0, .ref (h 0))]) hX dX7_locus_87 rfl (by decide) rfl ?_
              refine Z.goto hX 11 dX7_locus_90 (by decide) ?_
              refine Z.pick [0, 2, 3] rfl ?_
              exact ih_11 _ _ (by omega) (by omega) hE (fun k h4 => (hM k h4))
            · intro c10
              refine Z.aload_n hX dX7_locus_23 rfl rfl ?_
              refine Z.iload_n hX dX7_locus_24 rfl rfl ?_
              refine Z.iload_n hX dX7_locus_25 rfl rfl ?_
              refine Z.iload_n hX dX7_locus_26 rfl rfl ?_
              refine Z.iadd hX dX7_locus_27 ?_
              refine Z.iload_n hX dX7_locus_28 rfl rfl ?_
              refine Z.isub hX dX7_locus_29 ?_
              refine Z.aload_n hX dX7_locus_30 rfl rfl ?_
              refine Z.getf hX 7 0 1 dX7_locus_31 rfl rfl inX7 (by decide) fl_X7_13 rfl rfl ?_
              refine Z.iload_n hX dX7_locus_34 rfl rfl ?_
              refine Z.laload hX 2 1 dX7_locus_35 rfl rfl (by omega) (by omega) (by decide) ?_
              refine Z.aload_n hX dX7_locus_36 rfl rfl ?_
              refine Z.getf hX 7 0 1 dX7_locus_37 rfl rfl inX7 (by decide) fl_X7_13 rfl rfl ?_
              refine Z.bipush hX dX7_locus_40 (by decide) ?_
              refine Z.iload_n hX dX7_locus_42 rfl rfl ?_
              refine Z.iadd hX dX7_locus_43 ?_
              refine Z.laload hX 2 1 dX7_locus_44 rfl rfl (by omega) (by omega) (by decide) ?_
              refine Z.lneg hX dX7_locus_45 ?_
              refine Z.lconst (v := 0) hX dX7_locus_46 rfl ?_
              refine Z.callVfv (As := [.int (zI r), .int (zI ((r + (F 1)) - k)), .long (M 0 (k : Int).toNat), .long (-(M 0 (10 + k : Int).toNat)), .long 0]) (rest := []) hX 7 0 rfl rfl (ct_X7_entry l D ce h F I M r ((r + (F 1)) - k) (M 0 (k : Int).toNat) (-(M 0 (10 + k : Int).toNat)) 0 (by omega) (by omega)) mc_X7_entry ml_X7_93 im_X7_entry se_X7_entry ini_X7 nd_X7_entry ⟨Nat.le_of_ble_eq_true rfl, Nat.le_of_ble_eq_true rfl⟩ ⟨rfl, rfl⟩ ⟨Nat.le_refl _, Nat.le_refl _⟩ rfl (Nat.le_of_ble_eq_true rfl) dX7_locus_47 ?_
              rintro w1 ⟨Ja, hw_, ha1, ha2⟩
              subst hw_
              have hEa : EZ (Ja 4) (F 1) (F 1) := EZ_s (by omega) (by omega) (fun q => by omega) (fun _ => rfl) hE ha2
              refine Z.aload_n hX dX7_locus_50 rfl rfl ?_
              refine Z.iload_n hX dX7_locus_51 rfl rfl ?_
              refine Z.iload_n hX dX7_locus_52 rfl rfl ?_
              refine Z.iadd hX dX7_locus_53 ?_
              refine Z.iload_n hX dX7_locus_54 rfl rfl ?_
              refine Z.iload_n hX dX7_locus_55 rfl rfl ?_
              refine Z.iadd hX dX7_locus_56 ?_
              refine Z.iload_n hX dX7_locus_57 rfl rfl ?_
              refine Z.isub hX dX7_locus_58 ?_
              refine Z.aload_n hX dX7_locus_59 rfl rfl ?_
              refine Z.getf hX 7 0 1 dX7_locus_60 rfl rfl inX7 (by decide) fl_X7_13 rfl rfl ?_
              refine Z.iconst hX dX7_locus_63 ?_
              refine Z.iload_n hX dX7_locus_64 rfl rfl ?_
              refine Z.iadd hX dX7_locus_65 ?_
              refine Z.laload hX 2 1 dX7_locus_66 rfl rfl (by omega) (by omega) (by decide) ?_
              refine Z.lconst (v := 0) hX dX7_locus_67 rfl ?_
              refine Z.aload_n hX dX7_locus_68 rfl rfl ?_
              refine Z.getf hX 7 0 1 dX7_locus_69 rfl rfl inX7 (by decide) fl_X7_13 rfl rfl ?_
              refine Z.bipush hX dX7_locus_72 (by decide) ?_
              refine Z.iload_n hX dX7_locus_74 rfl rfl ?_
              refine Z.iadd hX dX7_locus_75 ?_
              refine Z.laload hX 2 1 dX7_locus_76 rfl rfl (by omega) (by omega) (by decide) ?_
              refine Z.lneg hX dX7_locus_77 ?_
              refine Z.callVfv (As := [.int (zI ((F 1) + r)), .int (zI ((r + (F 1)) - k)), .long (Ja 0 (5 + k : Int).toNat), .long 0, .long (-(Ja 0 (10 + k : Int).toNat))]) (rest := []) hX 7 0 rfl rfl (ct_X7_entry l D ce h F I Ja ((F 1) + r) ((r + (F 1)) - k) (Ja 0 (5 + k : Int).toNat) 0 (-(Ja 0 (10 + k : Int).toNat)) (by omega) (by omega)) mc_X7_entry ml_X7_93 im_X7_entry se_X7_entry ini_X7 nd_X7_entry ⟨Nat.le_of_ble_eq_true rfl, Nat.le_of_ble_eq_true rfl⟩ ⟨rfl, rfl⟩ ⟨Nat.le_refl _, Nat.le_refl _⟩ rfl (Nat.le_of_ble_eq_true rfl) dX7_locus_78 ?_
              rintro w1 ⟨Jb, hw_, hb1, hb2⟩
              subst hw_
              have hEb : EZ (Jb 4) (F 1) (F 1) := EZ_s (by omega) (by omega) (fun _ => rfl) (fun q => by omega) hEa hb2
              refine Z.iinc (lv' := [(3, .int (zI (k + 1))), (2, .int (zI r)), (1, .int (zI (F 1))), (0, .ref (h 0))]) hX dX7_locus_81 rfl (by decide) rfl ?_
              refine Z.goto hX 18 dX7_locus_84 (by decide) ?_
              refine Z.pick [0, 1, 2, 3] rfl ?_
              exact ih_18 _ _ (by omega) (by omega) hEb (fun k h4 => ((hb1 k h4).trans ((ha1 k h4).trans (hM k h4))))
        refine Z.pick [0, 1, 2, 3] rfl ?_
        exact key_18 _ _ _ (Nat.lt_succ_self _) (by omega) hE (fun k h4 => (hM k h4))
  refine Z.pick [0, 1, 2] rfl ?_
  exact key_11 _ _ _ (Nat.lt_succ_self _) (by omega) (EZ_0 hem2 _ _) (fun k h4 => ((hem1 k h4).trans rfl))

theorem dX7_envelope_0 : decode cX7_envelope 0 = .ok (.aload_n 0, 1) := by decide +kernel
theorem dX7_envelope_1 : decode cX7_envelope 1 = .ok (.getfield 70, 3) := by decide +kernel
theorem dX7_envelope_4 : decode cX7_envelope 4 = .ok (.iconst 1, 1) := by decide +kernel
theorem dX7_envelope_5 : decode cX7_envelope 5 = .ok (.isub, 1) := by decide +kernel
theorem dX7_envelope_6 : decode cX7_envelope 6 = .ok (.istore_n 1, 1) := by decide +kernel
theorem dX7_envelope_7 : decode cX7_envelope 7 = .ok (.aload_n 0, 1) := by decide +kernel
theorem dX7_envelope_8 : decode cX7_envelope 8 = .ok (.invokevirtual 90, 3) := by decide +kernel
theorem dX7_envelope_11 : decode cX7_envelope 11 = .ok (.iconst 0, 1) := by decide +kernel
theorem dX7_envelope_12 : decode cX7_envelope 12 = .ok (.istore_n 2, 1) := by decide +kernel
theorem dX7_envelope_13 : decode cX7_envelope 13 = .ok (.iload_n 2, 1) := by decide +kernel
theorem dX7_envelope_14 : decode cX7_envelope 14 = .ok (.iload_n 1, 1) := by decide +kernel
theorem dX7_envelope_15 : decode cX7_envelope 15 = .ok (.if_icmp .ge 132, 3) := by decide +kernel
theorem dX7_envelope_18 : decode cX7_envelope 18 = .ok (.iconst 0, 1) := by decide +kernel
theorem dX7_envelope_19 : decode cX7_envelope 19 = .ok (.istore_n 3, 1) := by decide +kernel
theorem dX7_envelope_20 : decode cX7_envelope 20 = .ok (.iload_n 3, 1) := by decide +kernel
theorem dX7_envelope_21 : decode cX7_envelope 21 = .ok (.iload_n 1, 1) := by decide +kernel
theorem dX7_envelope_22 : decode cX7_envelope 22 = .ok (.if_icmp .gt 119, 3) := by decide +kernel
theorem dX7_envelope_25 : decode cX7_envelope 25 = .ok (.iload_n 3, 1) := by decide +kernel
theorem dX7_envelope_26 : decode cX7_envelope 26 = .ok (.iconst 1, 1) := by decide +kernel
theorem dX7_envelope_27 : decode cX7_envelope 27 = .ok (.iadd, 1) := by decide +kernel
theorem dX7_envelope_28 : decode cX7_envelope 28 = .ok (.i2l, 1) := by decide +kernel
theorem dX7_envelope_29 : decode cX7_envelope 29 = .ok (.lstore 4, 2) := by decide +kernel
theorem dX7_envelope_31 : decode cX7_envelope 31 = .ok (.aload_n 0, 1) := by decide +kernel
theorem dX7_envelope_32 : decode cX7_envelope 32 = .ok (.getfield 70, 3) := by decide +kernel
theorem dX7_envelope_35 : decode cX7_envelope 35 = .ok (.iload_n 3, 1) := by decide +kernel
theorem dX7_envelope_36 : decode cX7_envelope 36 = .ok (.isub, 1) := by decide +kernel
theorem dX7_envelope_37 : decode cX7_envelope 37 = .ok (.i2l, 1) := by decide +kernel
theorem dX7_envelope_38 : decode cX7_envelope 38 = .ok (.lstore 6, 2) := by decide +kernel
theorem dX7_envelope_40 : decode cX7_envelope 40 = .ok (.aload_n 0, 1) := by decide +kernel
theorem dX7_envelope_41 : decode cX7_envelope 41 = .ok (.iload_n 2, 1) := by decide +kernel
theorem dX7_envelope_42 : decode cX7_envelope 42 = .ok (.iload_n 2, 1) := by decide +kernel
theorem dX7_envelope_43 : decode cX7_envelope 43 = .ok (.iload_n 1, 1) := by decide +kernel
theorem dX7_envelope_44 : decode cX7_envelope 44 = .ok (.iadd, 1) := by decide +kernel
theorem dX7_envelope_45 : decode cX7_envelope 45 = .ok (.iload_n 3, 1) := by decide +kernel
theorem dX7_envelope_46 : decode cX7_envelope 46 = .ok (.isub, 1) := by decide +kernel
theorem dX7_envelope_47 : decode cX7_envelope 47 = .ok (.lload 4, 2) := by decide +kernel
theorem dX7_envelope_49 : decode cX7_envelope 49 = .ok (.aload_n 0, 1) := by decide +kernel
theorem dX7_envelope_50 : decode cX7_envelope 50 = .ok (.getfield 7, 3) := by decide +kernel
theorem dX7_envelope_53 : decode cX7_envelope 53 = .ok (.bipush 11, 2) := by decide +kernel
theorem dX7_envelope_55 : decode cX7_envelope 55 = .ok (.iload_n 3, 1) := by decide +kernel
theorem dX7_envelope_56 : decode cX7_envelope 56 = .ok (.iadd, 1) := by decide +kernel
theorem dX7_envelope_57 : decode cX7_envelope 57 = .ok (.iaload, 1) := by decide +kernel
theorem dX7_envelope_58 : decode cX7_envelope 58 = .ok (.i2l, 1) := by decide +kernel
theorem dX7_envelope_59 : decode cX7_envelope 59 = .ok (.lmul, 1) := by decide +kernel
theorem dX7_envelope_60 : decode cX7_envelope 60 = .ok (.lload 4, 2) := by decide +kernel
theorem dX7_envelope_62 : decode cX7_envelope 62 = .ok (.aload_n 0, 1) := by decide +kernel
theorem dX7_envelope_63 : decode cX7_envelope 63 = .ok (.getfield 7, 3) := by decide +kernel
theorem dX7_envelope_66 : decode cX7_envelope 66 = .ok (.iload_n 3, 1) := by decide +kernel
theorem dX7_envelope_67 : decode cX7_envelope 67 = .ok (.iconst 1, 1) := by decide +kernel
theorem dX7_envelope_68 : decode cX7_envelope 68 = .ok (.iadd, 1) := by decide +kernel
theorem dX7_envelope_69 : decode cX7_envelope 69 = .ok (.iaload, 1) := by decide +kernel
theorem dX7_envelope_70 : decode cX7_envelope 70 = .ok (.i2l, 1) := by decide +kernel
theorem dX7_envelope_71 : decode cX7_envelope 71 = .ok (.lmul, 1) := by decide +kernel
theorem dX7_envelope_72 : decode cX7_envelope 72 = .ok (.lload 4, 2) := by decide +kernel
theorem dX7_envelope_74 : decode cX7_envelope 74 = .ok (.aload_n 0, 1) := by decide +kernel
theorem dX7_envelope_75 : decode cX7_envelope 75 = .ok (.getfield 7, 3) := by decide +kernel
theorem dX7_envelope_78 : decode cX7_envelope 78 = .ok (.bipush 6, 2) := by decide +kernel
theorem dX7_envelope_80 : decode cX7_envelope 80 = .ok (.iload_n 3, 1) := by decide +kernel
theorem dX7_envelope_81 : decode cX7_envelope 81 = .ok (.iadd, 1) := by decide +kernel
theorem dX7_envelope_82 : decode cX7_envelope 82 = .ok (.iaload, 1) := by decide +kernel
theorem dX7_envelope_83 : decode cX7_envelope 83 = .ok (.i2l, 1) := by decide +kernel
theorem dX7_envelope_84 : decode cX7_envelope 84 = .ok (.lmul, 1) := by decide +kernel
theorem dX7_envelope_85 : decode cX7_envelope 85 = .ok (.invokevirtual 93, 3) := by decide +kernel
theorem dX7_envelope_88 : decode cX7_envelope 88 = .ok (.aload_n 0, 1) := by decide +kernel
theorem dX7_envelope_89 : decode cX7_envelope 89 = .ok (.iload_n 1, 1) := by decide +kernel
theorem dX7_envelope_90 : decode cX7_envelope 90 = .ok (.iload_n 2, 1) := by decide +kernel
theorem dX7_envelope_91 : decode cX7_envelope 91 = .ok (.iadd, 1) := by decide +kernel
theorem dX7_envelope_92 : decode cX7_envelope 92 = .ok (.iload_n 2, 1) := by decide +kernel
theorem dX7_envelope_93 : decode cX7_envelope 93 = .ok (.iload_n 1, 1) := by decide +kernel
theorem dX7_envelope_94 : decode cX7_envelope 94 = .ok (.iadd, 1) := by decide +kernel
theorem dX7_envelope_95 : decode cX7_envelope 95 = .ok (.iload_n 3, 1) := by decide +kernel
theorem dX7_envelope_96 : decode cX7_envelope 96 = .ok (.isub, 1) := by decide +kernel
theorem dX7_envelope_97 : decode cX7_envelope 97 = .ok (.lload 6, 2) := by decide +kernel
theorem dX7_envelope_99 : decode cX7_envelope 99 = .ok (.aload_n 0, 1) := by decide +kernel
theorem dX7_envelope_100 : decode cX7_envelope 100 = .ok (.getfield 7, 3) := by decide +kernel
theorem dX7_envelope_103 : decode cX7_envelope 103 = .ok (.bipush 10, 2) := by decide +kernel
theorem dX7_envelope_105 : decode cX7_envelope 105 = .ok (.iload_n 3, 1) := by decide +kernel
theorem dX7_envelope_106 : decode cX7_envelope 106 = .ok (.iadd, 1) := by decide +kernel
theorem dX7_envelope_107 : decode cX7_envelope 107 = .ok (.iaload, 1) := by decide +kernel
theorem dX7_envelope_108 : decode cX7_envelope 108 = .ok (.i2l, 1) := by decide +kernel
theorem dX7_envelope_109 : decode cX7_envelope 109 = .ok (.lmul, 1) := by decide +kernel
theorem dX7_envelope_110 : decode cX7_envelope 110 = .ok (.lload 6, 2) := by decide +kernel
theorem dX7_envelope_112 : decode cX7_envelope 112 = .ok (.aload_n 0, 1) := by decide +kernel
theorem dX7_envelope_113 : decode cX7_envelope 113 = .ok (.getfield 7, 3) := by decide +kernel
theorem dX7_envelope_116 : decode cX7_envelope 116 = .ok (.iload_n 3, 1) := by decide +kernel
theorem dX7_envelope_117 : decode cX7_envelope 117 = .ok (.iaload, 1) := by decide +kernel
theorem dX7_envelope_118 : decode cX7_envelope 118 = .ok (.i2l, 1) := by decide +kernel
theorem dX7_envelope_119 : decode cX7_envelope 119 = .ok (.lmul, 1) := by decide +kernel
theorem dX7_envelope_120 : decode cX7_envelope 120 = .ok (.lload 6, 2) := by decide +kernel
theorem dX7_envelope_122 : decode cX7_envelope 122 = .ok (.aload_n 0, 1) := by decide +kernel
theorem dX7_envelope_123 : decode cX7_envelope 123 = .ok (.getfield 7, 3) := by decide +kernel
theorem dX7_envelope_126 : decode cX7_envelope 126 = .ok (.iconst 5, 1) := by decide +kernel
theorem dX7_envelope_127 : decode cX7_envelope 127 = .ok (.iload_n 3, 1) := by decide +kernel
theorem dX7_envelope_128 : decode cX7_envelope 128 = .ok (.iadd, 1) := by decide +kernel
theorem dX7_envelope_129 : decode cX7_envelope 129 = .ok (.iaload, 1) := by decide +kernel
theorem dX7_envelope_130 : decode cX7_envelope 130 = .ok (.i2l, 1) := by decide +kernel
theorem dX7_envelope_131 : decode cX7_envelope 131 = .ok (.lmul, 1) := by decide +kernel
theorem dX7_envelope_132 : decode cX7_envelope 132 = .ok (.invokevirtual 93, 3) := by decide +kernel
theorem dX7_envelope_135 : decode cX7_envelope 135 = .ok (.iinc 3 1, 3) := by decide +kernel
theorem dX7_envelope_138 : decode cX7_envelope 138 = .ok (.goto (-118), 3) := by decide +kernel
theorem dX7_envelope_141 : decode cX7_envelope 141 = .ok (.iinc 2 1, 3) := by decide +kernel
theorem dX7_envelope_144 : decode cX7_envelope 144 = .ok (.goto (-131), 3) := by decide +kernel
theorem dX7_envelope_147 : decode cX7_envelope 147 = .ok (.aload_n 0, 1) := by decide +kernel
theorem dX7_envelope_148 : decode cX7_envelope 148 = .ok (.iconst 2, 1) := by decide +kernel
theorem dX7_envelope_149 : decode cX7_envelope 149 = .ok (.iload_n 1, 1) := by decide +kernel
theorem dX7_envelope_150 : decode cX7_envelope 150 = .ok (.imul, 1) := by decide +kernel
theorem dX7_envelope_151 : decode cX7_envelope 151 = .ok (.invokevirtual 97, 3) := by decide +kernel
theorem dX7_envelope_154 : decode cX7_envelope 154 = .ok (.aload_n 0, 1) := by decide +kernel
theorem dX7_envelope_155 : decode cX7_envelope 155 = .ok (.iconst 1, 1) := by decide +kernel
theorem dX7_envelope_156 : decode cX7_envelope 156 = .ok (.bipush 49, 2) := by decide +kernel
theorem dX7_envelope_158 : decode cX7_envelope 158 = .ok (.iconst 1, 1) := by decide +kernel
theorem dX7_envelope_159 : decode cX7_envelope 159 = .ok (.iconst 2, 1) := by decide +kernel
theorem dX7_envelope_160 : decode cX7_envelope 160 = .ok (.iload_n 1, 1) := by decide +kernel
theorem dX7_envelope_161 : decode cX7_envelope 161 = .ok (.imul, 1) := by decide +kernel
theorem dX7_envelope_162 : decode cX7_envelope 162 = .ok (.ishl, 1) := by decide +kernel
theorem dX7_envelope_163 : decode cX7_envelope 163 = .ok (.iconst 1, 1) := by decide +kernel
theorem dX7_envelope_164 : decode cX7_envelope 164 = .ok (.isub, 1) := by decide +kernel
theorem dX7_envelope_165 : decode cX7_envelope 165 = .ok (.imul, 1) := by decide +kernel
theorem dX7_envelope_166 : decode cX7_envelope 166 = .ok (.invokevirtual 101, 3) := by decide +kernel
theorem dX7_envelope_169 : decode cX7_envelope 169 = .ok (.return_, 1) := by decide +kernel
set_option maxHeartbeats 4000000 in
set_option maxRecDepth 100000 in
theorem ct_X7_envelope (l : Launch) (D : va_G) (ce : Nat → ClassId) (h : Nat → Nat) (F : Nat → Int) (I : Nat → Nat → Int32) (J : Nat → Nat → Int64) (hF : 2 ≤ F 0 ∧ F 0 ≤ 4) (hdg : DGok (I 2)) : Ct l yX7_envelope cX7_envelope 8 none { frames := 4, cells := 0, slots := 0, locals := 121 } 0 0 D (TY ce) [.ref (h 0)] (rW ce h F I J) (QV D (TY ce) (fun w1 => ∃ I2 : Nat → Nat → Int32, ∃ J2 : Nat → Nat → Int64, w1 = rW ce h F I2 J2 ∧ (∀ k, k ≠ 1 → k ≠ 4 → k ≠ 5 → k ≠ 6 → k ≠ 7 → k ≠ 8 → k ≠ 9 → J2 k = J k) ∧ (∀ k, k ≠ 1 → k ≠ 2 → k ≠ 3 → I2 k = I k) ∧ (DGok (I2 2)))) := by
  refine Ct.ofV (by decide) (Nat.le_of_ble_eq_true rfl) ?_
  intro p e s m args below meth c A Q hX hnm hR
  refine Z.pick (lv' := [(0, .ref (h 0))]) [0] rfl ?_
  obtain ⟨T, hT, hT1, hT2, hT3⟩ := sh1 (n := 2 * (F 0 - 1)) (by omega) (by omega)
  refine Z.aload_n hX dX7_envelope_0 rfl rfl ?_
  refine Z.getf hX 7 0 2 dX7_envelope_1 rfl rfl inX7 (by decide) fl_X7_70 rfl rfl ?_
  refine Z.iconst hX dX7_envelope_4 ?_
  refine Z.isub hX dX7_envelope_5 ?_
  refine Z.istore_n (lv' := [(1, .int (zI ((F 0) - 1))), (0, .ref (h 0))]) hX dX7_envelope_6 rfl (by decide) rfl ?_
  refine Z.aload_n hX dX7_envelope_7 rfl rfl ?_
  refine Z.callVfv (As := []) (rest := []) hX 7 0 rfl rfl (ct_X7_emptied l D ce h F I J ) mc_X7_emptied ml_X7_90 im_X7_emptied se_X7_emptied ini_X7 nd_X7_emptied ⟨Nat.le_of_ble_eq_true rfl, Nat.le_of_ble_eq_true rfl⟩ ⟨rfl, rfl⟩ ⟨Nat.le_refl _, Nat.le_refl _⟩ rfl (Nat.le_of_ble_eq_true rfl) dX7_envelope_8 ?_
  rintro w1 ⟨J22, hw_, hem1, hem2⟩
  subst hw_
  refine Z.iconst hX dX7_envelope_11 ?_
  refine Z.istore_n (lv' := [(2, .int (zI 0)), (1, .int (zI ((F 0) - 1))), (0, .ref (h 0))]) hX dX7_envelope_12 rfl (by decide) rfl ?_
  have key_13 : ∀ (N : Nat), ∀ (r : Int) (M : Nat → Nat → Int64), (F 0 - 1 - r).toNat < N → (hr : 0 ≤ r ∧ r ≤ F 0 - 1) → (hE : EZ (M 4) 6 0) → (hM : ∀ k, k ≠ 4 → M k = J k) → Z p l e { frames := 4, cells := 0, slots := 0, locals := 121 } s m args below meth c D A 8 0 0 Q 13 [(2, .int (zI r)), (1, .int (zI (F 0 - 1))), (0, .ref (h 0))] [] (rW ce h F I M) := by
    intro N
    induction N with
    | zero => intro r M hm; exact absurd hm (Nat.not_lt_zero _)
    | succ N ih_13 =>
      intro r M hm hr hE hM
      refine Z.iload_n hX dX7_envelope_13 rfl rfl ?_
      refine Z.iload_n hX dX7_envelope_14 rfl rfl ?_
      refine Z.icmp_ge hX 147 dX7_envelope_15 (by decide) ⟨by omega, by omega⟩ ⟨by omega, by omega⟩ ?_ ?_
      · intro c3
        refine Z.aload_n hX dX7_envelope_147 rfl rfl ?_
        refine Z.iconst hX dX7_envelope_148 ?_
        refine Z.iload_n hX dX7_envelope_149 rfl rfl ?_
        refine Z.imul hX dX7_envelope_150 ?_
        refine Z.callVfv (As := [.int (zI (2 * (F 0 - 1)))]) (rest := []) hX 7 0 rfl rfl (ct_X7_minorsOf l D ce h F I M (2 * (F 0 - 1)) 6 0 (by omega) (by omega) hE) mc_X7_minorsOf ml_X7_97 im_X7_minorsOf se_X7_minorsOf ini_X7 nd_X7_minorsOf ⟨Nat.le_of_ble_eq_true rfl, Nat.le_of_ble_eq_true rfl⟩ ⟨rfl, rfl⟩ ⟨Nat.le_refl _, Nat.le_refl _⟩ rfl (Nat.le_of_ble_eq_true rfl) dX7_envelope_151 ?_
        rintro w1 ⟨J25, hw_, hq6⟩
        subst hw_
        refine Z.aload_n hX dX7_envelope_154 rfl rfl ?_
        refine Z.iconst hX dX7_envelope_155 ?_
        refine Z.bipush hX dX7_envelope_156 (by decide) ?_
        refine Z.iconst hX dX7_envelope_158 ?_
        refine Z.iconst hX dX7_envelope_159 ?_
        refine Z.iload_n hX dX7_envelope_160 rfl rfl ?_
        refine Z.imul hX dX7_envelope_161 ?_
        refine Z.ishl hX dX7_envelope_162 ?_
        refine Z.vali (y := zI T) hT ?_
        refine Z.iconst hX dX7_envelope_163 ?_
        refine Z.isub hX dX7_envelope_164 ?_
        refine Z.imul hX dX7_envelope_165 ?_
        refine Z.callVfv (As := [.int (zI 1), .int (zI (49 * (T - 1)))]) (rest := []) hX 7 0 rfl rfl (ct_X7_tell l D ce h F I J25 1 (49 * (T - 1)) (by omega) (by omega) hdg) mc_X7_tell ml_X7_101 im_X7_tell se_X7_tell ini_X7 nd_X7_tell ⟨Nat.le_of_ble_eq_true rfl, Nat.le_of_ble_eq_true rfl⟩ ⟨rfl, rfl⟩ ⟨Nat.le_refl _, Nat.le_refl _⟩ rfl (Nat.le_of_ble_eq_true rfl) dX7_envelope_166 ?_
        rintro w1 ⟨I28, J29, hw_, ht1, ht2, hdgZ⟩
        subst hw_
        exact hR _ _ _ dX7_envelope_169 ⟨I28, J29, rfl, (fun k h1 h4 h5 h6 h7 h8 h9 => ((ht1 k h1 h6 h7 h8 h9).trans ((hq6 k h5).trans (hM k h4)))), (fun k h1 h2 h3 => ((ht2 k h1 h2 h3).trans rfl)), hdgZ⟩
      · intro c3
        refine Z.iconst hX dX7_envelope_18 ?_
        refine Z.istore_n (lv' := [(3, .int (zI 0)), (2, .int (zI r)), (1, .int (zI (F 0 - 1))), (0, .ref (h 0))]) hX dX7_envelope_19 rfl (by decide) rfl ?_
        have key_20 : ∀ (N : Nat), ∀ (k : Int) (M : Nat → Nat → Int64), (F 0 - k).toNat < N → (hk : 0 ≤ k ∧ k ≤ F 0) → (hE : EZ (M 4) 6 0) → (hM : ∀ k, k ≠ 4 → M k = J k) → Z p l e { frames := 4, cells := 0, slots := 0, locals := 121 } s m args below meth c D A 8 0 0 Q 20 [(3, .int (zI k)), (2, .int (zI r)), (1, .int (zI (F 0 - 1))), (0, .ref (h 0))] [] (rW ce h F I M) := by
          intro N
          induction N with
          | zero => intro k M hm; exact absurd hm (Nat.not_lt_zero _)
          | succ N ih_20 =>
            intro k M hm hk hE hM
            refine Z.iload_n hX dX7_envelope_20 rfl rfl ?_
            refine Z.iload_n hX dX7_envelope_21 rfl rfl ?_
            refine Z.icmp_gt hX 141 dX7_envelope_22 (by decide) ⟨by omega, by omega⟩ ⟨by omega, by omega⟩ ?_ ?_
            · intro c10
              refine Z.iinc (lv' := [(2, .int (zI (r + 1))), (3, .int (zI k)), (1, .int (zI (F 0 - 1))), (0, .ref (h 0))]) hX dX7_envelope_141 rfl (by decide) rfl ?_
              refine Z.goto hX 13 dX7_envelope_144 (by decide) ?_
              refine Z.pick [0, 2, 3] rfl ?_
              exact ih_13 _ _ (by omega) (by omega) hE (fun k h4 => (hM k h4))
            · intro c10
              refine Z.iload_n hX dX7_envelope_25 rfl rfl ?_
              refine Z.iconst hX dX7_envelope_26 ?_
              refine Z.iadd hX dX7_envelope_27 ?_
              refine Z.i2l hX dX7_envelope_28 ⟨by omega, by omega⟩ ?_
              refine Z.lstore (lv' := [(4, .long (zL (k + 1))), (3, .int (zI k)), (2, .int (zI r)), (1, .int (zI (F 0 - 1))), (0, .ref (h 0))]) hX dX7_envelope_29 (by decide) rfl ?_
              refine Z.aload_n hX dX7_envelope_31 rfl rfl ?_
              refine Z.getf hX 7 0 2 dX7_envelope_32 rfl rfl inX7 (by decide) fl_X7_70 rfl rfl ?_
              refine Z.iload_n hX dX7_envelope_35 rfl rfl ?_
              refine Z.isub hX dX7_envelope_36 ?_
              refine Z.i2l hX dX7_envelope_37 ⟨by omega, by omega⟩ ?_
              refine Z.lstore (lv' := [(6, .long (zL ((F 0) - k))), (4, .long (zL (k + 1))), (3, .int (zI k)), (2, .int (zI r)), (1, .int (zI (F 0 - 1))), (0, .ref (h 0))]) hX dX7_envelope_38 (by decide) rfl ?_
              refine Z.aload_n hX dX7_envelope_40 rfl rfl ?_
              refine Z.iload_n hX dX7_envelope_41 rfl rfl ?_
              refine Z.iload_n hX dX7_envelope_42 rfl rfl ?_
              refine Z.iload_n hX dX7_envelope_43 rfl rfl ?_
              refine Z.iadd hX dX7_envelope_44 ?_
              refine Z.iload_n hX dX7_envelope_45 rfl rfl ?_
              refine Z.isub hX dX7_envelope_46 ?_
              refine Z.lload hX dX7_envelope_47 rfl ?_
              refine Z.aload_n hX dX7_envelope_49 rfl rfl ?_
              refine Z.getf hX 7 0 0 dX7_envelope_50 rfl rfl inX7 (by decide) fl_X7_7 rfl rfl ?_
              refine Z.bipush hX dX7_envelope_53 (by decide) ?_
              refine Z.iload_n hX dX7_envelope_55 rfl rfl ?_
              refine Z.iadd hX dX7_envelope_56 ?_
              refine Z.iaload hX 1 0 dX7_envelope_57 rfl rfl (by omega) (by omega) (by decide) ?_
              refine Z.topi (fun z11 hz11 kz11 ez11 => ?_)
              refine Z.i2l hX dX7_envelope_58 ⟨by omega, by omega⟩ ?_
              refine Z.lmul hX dX7_envelope_59 ?_
              refine Z.lload hX dX7_envelope_60 rfl ?_
              refine Z.aload_n hX dX7_envelope_62 rfl rfl ?_
              refine Z.getf hX 7 0 0 dX7_envelope_63 rfl rfl inX7 (by decide) fl_X7_7 rfl rfl ?_
              refine Z.iload_n hX dX7_envelope_66 rfl rfl ?_
              refine Z.iconst hX dX7_envelope_67 ?_
              refine Z.iadd hX dX7_envelope_68 ?_
              refine Z.iaload hX 1 0 dX7_envelope_69 rfl rfl (by omega) (by omega) (by decide) ?_
              refine Z.topi (fun z12 hz12 kz12 ez12 => ?_)
              refine Z.i2l hX dX7_envelope_70 ⟨by omega, by omega⟩ ?_
              refine Z.lmul hX dX7_envelope_71 ?_
              refine Z.lload hX dX7_envelope_72 rfl ?_
              refine Z.aload_n hX dX7_envelope_74 rfl rfl ?_
              refine Z.getf hX 7 0 0 dX7_envelope_75 rfl rfl inX7 (by decide) fl_X7_7 rfl rfl ?_
              refine Z.bipush hX dX7_envelope_78 (by decide) ?_
              refine Z.iload_n hX dX7_envelope_80 rfl rfl ?_
              refine Z.iadd hX dX7_envelope_81 ?_
              refine Z.iaload hX 1 0 dX7_envelope_82 rfl rfl (by omega) (by omega) (by decide) ?_
              refine Z.topi (fun z13 hz13 kz13 ez13 => ?_)
              refine Z.i2l hX dX7_envelope_83 ⟨by omega, by omega⟩ ?_
              refine Z.lmul hX dX7_envelope_84 ?_
              refine Z.callVfv (As := [.int (zI r), .int (zI ((r + (F 0 - 1)) - k)), .long ((zL (k + 1)) * (zL z11)), .long ((zL (k + 1)) * (zL z12)), .long ((zL (k + 1)) * (zL z13))]) (rest := []) hX 7 0 rfl rfl (ct_X7_entry l D ce h F I M r ((r + (F 0 - 1)) - k) ((zL (k + 1)) * (zL z11)) ((zL (k + 1)) * (zL z12)) ((zL (k + 1)) * (zL z13)) (by omega) (by omega)) mc_X7_entry ml_X7_93 im_X7_entry se_X7_entry ini_X7 nd_X7_entry ⟨Nat.le_of_ble_eq_true rfl, Nat.le_of_ble_eq_true rfl⟩ ⟨rfl, rfl⟩ ⟨Nat.le_refl _, Nat.le_refl _⟩ rfl (Nat.le_of_ble_eq_true rfl) dX7_envelope_85 ?_
              rintro w1 ⟨Ja, hw_, ha1, ha2⟩
              subst hw_
              have hEa : EZ (Ja 4) 6 0 := EZ_s (by omega) (by omega) (fun q => by omega) (fun q => by omega) hE ha2
              refine Z.aload_n hX dX7_envelope_88 rfl rfl ?_
              refine Z.iload_n hX dX7_envelope_89 rfl rfl ?_
              refine Z.iload_n hX dX7_envelope_90 rfl rfl ?_
              refine Z.iadd hX dX7_envelope_91 ?_
              refine Z.iload_n hX dX7_envelope_92 rfl rfl ?_
              refine Z.iload_n hX dX7_envelope_93 rfl rfl ?_
              refine Z.iadd hX dX7_envelope_94 ?_
              refine Z.iload_n hX dX7_envelope_95 rfl rfl ?_
              refine Z.isub hX dX7_envelope_96 ?_
              refine Z.lload hX dX7_envelope_97 rfl ?_
              refine Z.aload_n hX dX7_envelope_99 rfl rfl ?_
              refine Z.getf hX 7 0 0 dX7_envelope_100 rfl rfl inX7 (by decide) fl_X7_7 rfl rfl ?_
              refine Z.bipush hX dX7_envelope_103 (by decide) ?_
              refine Z.iload_n hX dX7_envelope_105 rfl rfl ?_
              refine Z.iadd hX dX7_envelope_106 ?_
              refine Z.iaload hX 1 0 dX7_envelope_107 rfl rfl (by omega) (by omega) (by decide) ?_
              refine Z.topi (fun z15 hz15 kz15 ez15 => ?_)
              refine Z.i2l hX dX7_envelope_108 ⟨by omega, by omega⟩ ?_
              refine Z.lmul hX dX7_envelope_109 ?_
              refine Z.lload hX dX7_envelope_110 rfl ?_
              refine Z.aload_n hX dX7_envelope_112 rfl rfl ?_
              refine Z.getf hX 7 0 0 dX7_envelope_113 rfl rfl inX7 (by decide) fl_X7_7 rfl rfl ?_
              refine Z.iload_n hX dX7_envelope_116 rfl rfl ?_
              refine Z.iaload hX 1 0 dX7_envelope_117 rfl rfl (by omega) (by omega) (by decide) ?_
              refine Z.topi (fun z16 hz16 kz16 ez16 => ?_)
              refine Z.i2l hX dX7_envelope_118 ⟨by omega, by omega⟩ ?_
              refine Z.lmul hX dX7_envelope_119 ?_
              refine Z.lload hX dX7_envelope_120 rfl ?_
              refine Z.aload_n hX dX7_envelope_122 rfl rfl ?_
              refine Z.getf hX 7 0 0 dX7_envelope_123 rfl rfl inX7 (by decide) fl_X7_7 rfl rfl ?_
              refine Z.iconst hX dX7_envelope_126 ?_
              refine Z.iload_n hX dX7_envelope_127 rfl rfl ?_
              refine Z.iadd hX dX7_envelope_128 ?_
              refine Z.iaload hX 1 0 dX7_envelope_129 rfl rfl (by omega) (by omega) (by decide) ?_
              refine Z.topi (fun z17 hz17 kz17 ez17 => ?_)
              refine Z.i2l hX dX7_envelope_130 ⟨by omega, by omega⟩ ?_
              refine Z.lmul hX dX7_envelope_131 ?_
              refine Z.callVfv (As := [.int (zI ((F 0 - 1) + r)), .int (zI ((r + (F 0 - 1)) - k)), .long ((zL ((F 0) - k)) * (zL z15)), .long ((zL ((F 0) - k)) * (zL z16)), .long ((zL ((F 0) - k)) * (zL z17))]) (rest := []) hX 7 0 rfl rfl (ct_X7_entry l D ce h F I Ja ((F 0 - 1) + r) ((r + (F 0 - 1)) - k) ((zL ((F 0) - k)) * (zL z15)) ((zL ((F 0) - k)) * (zL z16)) ((zL ((F 0) - k)) * (zL z17)) (by omega) (by omega)) mc_X7_entry ml_X7_93 im_X7_entry se_X7_entry ini_X7 nd_X7_entry ⟨Nat.le_of_ble_eq_true rfl, Nat.le_of_ble_eq_true rfl⟩ ⟨rfl, rfl⟩ ⟨Nat.le_refl _, Nat.le_refl _⟩ rfl (Nat.le_of_ble_eq_true rfl) dX7_envelope_132 ?_
              rintro w1 ⟨Jb, hw_, hb1, hb2⟩
              subst hw_
              have hEb : EZ (Jb 4) 6 0 := EZ_s (by omega) (by omega) (fun q => by omega) (fun q => by omega) hEa hb2
              refine Z.iinc (lv' := [(3, .int (zI (k + 1))), (6, .long (zL ((F 0) - k))), (4, .long (zL (k + 1))), (2, .int (zI r)), (1, .int (zI (F 0 - 1))), (0, .ref (h 0))]) hX dX7_envelope_135 rfl (by decide) rfl ?_
              refine Z.goto hX 20 dX7_envelope_138 (by decide) ?_
              refine Z.pick [0, 3, 4, 5] rfl ?_
              exact ih_20 _ _ (by omega) (by omega) hEb (fun k h4 => ((hb1 k h4).trans ((ha1 k h4).trans (hM k h4))))
        refine Z.pick [0, 1, 2, 3] rfl ?_
        exact key_20 _ _ _ (Nat.lt_succ_self _) (by omega) hE (fun k h4 => (hM k h4))
  refine Z.pick [0, 1, 2] rfl ?_
  exact key_13 _ _ _ (Nat.lt_succ_self _) (by omega) (EZ_0 hem2 _ _) (fun k h4 => ((hem1 k h4).trans rfl))
end
section
theorem dX7_work_0 : decode cX7_work 0 = .ok (.aload_n 0, 1) := by decide +kernel
theorem dX7_work_1 : decode cX7_work 1 = .ok (.getfield 54, 3) := by decide +kernel
theorem dX7_work_4 : decode cX7_work 4 = .ok (.ifCond .eq 4, 3) := by decide +kernel
theorem dX7_work_7 : decode cX7_work 7 = .ok (.return_, 1) := by decide +kernel
theorem dX7_work_8 : decode cX7_work 8 = .ok (.aload_n 0, 1) := by decide +kernel
theorem dX7_work_9 : decode cX7_work 9 = .ok (.iconst 1, 1) := by decide +kernel
theorem dX7_work_10 : decode cX7_work 10 = .ok (.putfield 54, 3) := by decide +kernel
theorem dX7_work_13 : decode cX7_work 13 = .ok (.aload_n 0, 1) := by decide +kernel
theorem dX7_work_14 : decode cX7_work 14 = .ok (.iconst 0, 1) := by decide +kernel
theorem dX7_work_15 : decode cX7_work 15 = .ok (.putfield 70, 3) := by decide +kernel
theorem dX7_work_18 : decode cX7_work 18 = .ok (.iconst 0, 1) := by decide +kernel
theorem dX7_work_19 : decode cX7_work 19 = .ok (.istore_n 1, 1) := by decide +kernel
theorem dX7_work_20 : decode cX7_work 20 = .ok (.iload_n 1, 1) := by decide +kernel
theorem dX7_work_21 : decode cX7_work 21 = .ok (.iconst 5, 1) := by decide +kernel
theorem dX7_work_22 : decode cX7_work 22 = .ok (.if_icmp .ge 81, 3) := by decide +kernel
theorem dX7_work_25 : decode cX7_work 25 = .ok (.aload_n 0, 1) := by decide +kernel
theorem dX7_work_26 : decode cX7_work 26 = .ok (.aload_n 0, 1) := by decide +kernel
theorem dX7_work_27 : decode cX7_work 27 = .ok (.getfield 7, 3) := by decide +kernel
theorem dX7_work_30 : decode cX7_work 30 = .ok (.iload_n 1, 1) := by decide +kernel
theorem dX7_work_31 : decode cX7_work 31 = .ok (.iaload, 1) := by decide +kernel
theorem dX7_work_32 : decode cX7_work 32 = .ok (.ifCond .ne 26, 3) := by decide +kernel
theorem dX7_work_35 : decode cX7_work 35 = .ok (.aload_n 0, 1) := by decide +kernel
theorem dX7_work_36 : decode cX7_work 36 = .ok (.getfield 7, 3) := by decide +kernel
theorem dX7_work_39 : decode cX7_work 39 = .ok (.iconst 5, 1) := by decide +kernel
theorem dX7_work_40 : decode cX7_work 40 = .ok (.iload_n 1, 1) := by decide +kernel
theorem dX7_work_41 : decode cX7_work 41 = .ok (.iadd, 1) := by decide +kernel
theorem dX7_work_42 : decode cX7_work 42 = .ok (.iaload, 1) := by decide +kernel
theorem dX7_work_43 : decode cX7_work 43 = .ok (.ifCond .ne 15, 3) := by decide +kernel
theorem dX7_work_46 : decode cX7_work 46 = .ok (.aload_n 0, 1) := by decide +kernel
theorem dX7_work_47 : decode cX7_work 47 = .ok (.getfield 7, 3) := by decide +kernel
theorem dX7_work_50 : decode cX7_work 50 = .ok (.bipush 10, 2) := by decide +kernel
theorem dX7_work_52 : decode cX7_work 52 = .ok (.iload_n 1, 1) := by decide +kernel
theorem dX7_work_53 : decode cX7_work 53 = .ok (.iadd, 1) := by decide +kernel
theorem dX7_work_54 : decode cX7_work 54 = .ok (.iaload, 1) := by decide +kernel
theorem dX7_work_55 : decode cX7_work 55 = .ok (.ifCond .eq 7, 3) := by decide +kernel
theorem dX7_work_58 : decode cX7_work 58 = .ok (.iload_n 1, 1) := by decide +kernel
theorem dX7_work_59 : decode cX7_work 59 = .ok (.goto 7, 3) := by decide +kernel
theorem dX7_work_62 : decode cX7_work 62 = .ok (.aload_n 0, 1) := by decide +kernel
theorem dX7_work_63 : decode cX7_work 63 = .ok (.getfield 70, 3) := by decide +kernel
theorem dX7_work_66 : decode cX7_work 66 = .ok (.putfield 70, 3) := by decide +kernel
theorem dX7_work_69 : decode cX7_work 69 = .ok (.aload_n 0, 1) := by decide +kernel
theorem dX7_work_70 : decode cX7_work 70 = .ok (.getfield 30, 3) := by decide +kernel
theorem dX7_work_73 : decode cX7_work 73 = .ok (.iload_n 1, 1) := by decide +kernel
theorem dX7_work_74 : decode cX7_work 74 = .ok (.aload_n 0, 1) := by decide +kernel
theorem dX7_work_75 : decode cX7_work 75 = .ok (.getfield 7, 3) := by decide +kernel
theorem dX7_work_78 : decode cX7_work 78 = .ok (.iload_n 1, 1) := by decide +kernel
theorem dX7_work_79 : decode cX7_work 79 = .ok (.iaload, 1) := by decide +kernel
theorem dX7_work_80 : decode cX7_work 80 = .ok (.i2l, 1) := by decide +kernel
theorem dX7_work_81 : decode cX7_work 81 = .ok (.lastore, 1) := by decide +kernel
theorem dX7_work_82 : decode cX7_work 82 = .ok (.aload_n 0, 1) := by decide +kernel
theorem dX7_work_83 : decode cX7_work 83 = .ok (.getfield 33, 3) := by decide +kernel
theorem dX7_work_86 : decode cX7_work 86 = .ok (.iload_n 1, 1) := by decide +kernel
theorem dX7_work_87 : decode cX7_work 87 = .ok (.aload_n 0, 1) := by decide +kernel
theorem dX7_work_88 : decode cX7_work 88 = .ok (.getfield 7, 3) := by decide +kernel
theorem dX7_work_91 : decode cX7_work 91 = .ok (.iconst 5, 1) := by decide +kernel
theorem dX7_work_92 : decode cX7_work 92 = .ok (.iload_n 1, 1) := by decide +kernel
theorem dX7_work_93 : decode cX7_work 93 = .ok (.iadd, 1) := by decide +kernel
theorem dX7_work_94 : decode cX7_work 94 = .ok (.iaload, 1) := by decide +kernel
theorem dX7_work_95 : decode cX7_work 95 = .ok (.i2l, 1) := by decide +kernel
theorem dX7_work_96 : decode cX7_work 96 = .ok (.lastore, 1) := by decide +kernel
theorem dX7_work_97 : decode cX7_work 97 = .ok (.iinc 1 1, 3) := by decide +kernel
theorem dX7_work_100 : decode cX7_work 100 = .ok (.goto (-80), 3) := by decide +kernel
theorem dX7_work_103 : decode cX7_work 103 = .ok (.aload_n 0, 1) := by decide +kernel
theorem dX7_work_104 : decode cX7_work 104 = .ok (.invokevirtual 74, 3) := by decide +kernel
theorem dX7_work_107 : decode cX7_work 107 = .ok (.iconst 0, 1) := by decide +kernel
theorem dX7_work_108 : decode cX7_work 108 = .ok (.istore_n 1, 1) := by decide +kernel
theorem dX7_work_109 : decode cX7_work 109 = .ok (.iload_n 1, 1) := by decide +kernel
theorem dX7_work_110 : decode cX7_work 110 = .ok (.iconst 5, 1) := by decide +kernel
theorem dX7_work_111 : decode cX7_work 111 = .ok (.if_icmp .ge 25, 3) := by decide +kernel
theorem dX7_work_114 : decode cX7_work 114 = .ok (.aload_n 0, 1) := by decide +kernel
theorem dX7_work_115 : decode cX7_work 115 = .ok (.getfield 33, 3) := by decide +kernel
theorem dX7_work_118 : decode cX7_work 118 = .ok (.iload_n 1, 1) := by decide +kernel
theorem dX7_work_119 : decode cX7_work 119 = .ok (.aload_n 0, 1) := by decide +kernel
theorem dX7_work_120 : decode cX7_work 120 = .ok (.getfield 7, 3) := by decide +kernel
theorem dX7_work_123 : decode cX7_work 123 = .ok (.bipush 10, 2) := by decide +kernel
theorem dX7_work_125 : decode cX7_work 125 = .ok (.iload_n 1, 1) := by decide +kernel
theorem dX7_work_126 : decode cX7_work 126 = .ok (.iadd, 1) := by decide +kernel
theorem dX7_work_127 : decode cX7_work 127 = .ok (.iaload, 1) := by decide +kernel
theorem dX7_work_128 : decode cX7_work 128 = .ok (.i2l, 1) := by decide +kernel
theorem dX7_work_129 : decode cX7_work 129 = .ok (.lastore, 1) := by decide +kernel
theorem dX7_work_130 : decode cX7_work 130 = .ok (.iinc 1 1, 3) := by decide +kernel
theorem dX7_work_133 : decode cX7_work 133 = .ok (.goto (-24), 3) := by decide +kernel
theorem dX7_work_136 : decode cX7_work 136 = .ok (.aload_n 0, 1) := by decide +kernel
theorem dX7_work_137 : decode cX7_work 137 = .ok (.invokevirtual 74, 3) := by decide +kernel
theorem dX7_work_140 : decode cX7_work 140 = .ok (.aload_n 0, 1) := by decide +kernel
theorem dX7_work_141 : decode cX7_work 141 = .ok (.getfield 30, 3) := by decide +kernel
theorem dX7_work_144 : decode cX7_work 144 = .ok (.invokestatic 62, 3) := by decide +kernel
theorem dX7_work_147 : decode cX7_work 147 = .ok (.istore_n 1, 1) := by decide +kernel
theorem dX7_work_148 : decode cX7_work 148 = .ok (.iconst 0, 1) := by decide +kernel
theorem dX7_work_149 : decode cX7_work 149 = .ok (.istore_n 2, 1) := by decide +kernel
theorem dX7_work_150 : decode cX7_work 150 = .ok (.iload_n 2, 1) := by decide +kernel
theorem dX7_work_151 : decode cX7_work 151 = .ok (.iconst 3, 1) := by decide +kernel
theorem dX7_work_152 : decode cX7_work 152 = .ok (.if_icmp .ge 152, 3) := by decide +kernel
theorem dX7_work_155 : decode cX7_work 155 = .ok (.iconst 0, 1) := by decide +kernel
theorem dX7_work_156 : decode cX7_work 156 = .ok (.istore_n 3, 1) := by decide +kernel
theorem dX7_work_157 : decode cX7_work 157 = .ok (.iload_n 3, 1) := by decide +kernel
theorem dX7_work_158 : decode cX7_work 158 = .ok (.iconst 5, 1) := by decide +kernel
theorem dX7_work_159 : decode cX7_work 159 = .ok (.if_icmp .ge 55, 3) := by decide +kernel
theorem dX7_work_162 : decode cX7_work 162 = .ok (.aload_n 0, 1) := by decide +kernel
theorem dX7_work_163 : decode cX7_work 163 = .ok (.getfield 33, 3) := by decide +kernel
theorem dX7_work_166 : decode cX7_work 166 = .ok (.iload_n 3, 1) := by decide +kernel
theorem dX7_work_167 : decode cX7_work 167 = .ok (.aload_n 0, 1) := by decide +kernel
theorem dX7_work_168 : decode cX7_work 168 = .ok (.getfield 7, 3) := by decide +kernel
theorem dX7_work_171 : decode cX7_work 171 = .ok (.iconst 5, 1) := by decide +kernel
theorem dX7_work_172 : decode cX7_work 172 = .ok (.iload_n 2, 1) := by decide +kernel
theorem dX7_work_173 : decode cX7_work 173 = .ok (.imul, 1) := by decide +kernel
theorem dX7_work_174 : decode cX7_work 174 = .ok (.iload_n 3, 1) := by decide +kernel
theorem dX7_work_175 : decode cX7_work 175 = .ok (.iadd, 1) := by decide +kernel
theorem dX7_work_176 : decode cX7_work 176 = .ok (.iaload, 1) := by decide +kernel
theorem dX7_work_177 : decode cX7_work 177 = .ok (.i2l, 1) := by decide +kernel
theorem dX7_work_178 : decode cX7_work 178 = .ok (.lastore, 1) := by decide +kernel
theorem dX7_work_179 : decode cX7_work 179 = .ok (.aload_n 0, 1) := by decide +kernel
theorem dX7_work_180 : decode cX7_work 180 = .ok (.getfield 13, 3) := by decide +kernel
theorem dX7_work_183 : decode cX7_work 183 = .ok (.iconst 5, 1) := by decide +kernel
theorem dX7_work_184 : decode cX7_work 184 = .ok (.iload_n 2, 1) := by decide +kernel
theorem dX7_work_185 : decode cX7_work 185 = .ok (.imul, 1) := by decide +kernel
theorem dX7_work_186 : decode cX7_work 186 = .ok (.iload_n 3, 1) := by decide +kernel
theorem dX7_work_187 : decode cX7_work 187 = .ok (.iadd, 1) := by decide +kernel
theorem dX7_work_188 : decode cX7_work 188 = .ok (.iload_n 1, 1) := by decide +kernel
theorem dX7_work_189 : decode cX7_work 189 = .ok (.ifCond .le 7, 3) := by decide +kernel
theorem dX7_work_192 : decode cX7_work 192 = .ok (.lconst 0, 1) := by decide +kernel
theorem dX7_work_193 : decode cX7_work 193 = .ok (.goto 14, 3) := by decide +kernel
theorem dX7_work_196 : decode cX7_work 196 = .ok (.aload_n 0, 1) := by decide +kernel
theorem dX7_work_197 : decode cX7_work 197 = .ok (.getfield 7, 3) := by decide +kernel
theorem dX7_work_200 : decode cX7_work 200 = .ok (.iconst 5, 1) := by decide +kernel
theorem dX7_work_201 : decode cX7_work 201 = .ok (.iload_n 2, 1) := by decide +kernel
theorem dX7_work_202 : decode cX7_work 202 = .ok (.imul, 1) := by decide +kernel
theorem dX7_work_203 : decode cX7_work 203 = .ok (.iload_n 3, 1) := by decide +kernel
theorem dX7_work_204 : decode cX7_work 204 = .ok (.iadd, 1) := by decide +kernel
theorem dX7_work_205 : decode cX7_work 205 = .ok (.iaload, 1) := by decide +kernel
theorem dX7_work_206 : decode cX7_work 206 = .ok (.i2l, 1) := by decide +kernel
theorem dX7_work_207 : decode cX7_work 207 = .ok (.lastore, 1) := by decide +kernel
theorem dX7_work_208 : decode cX7_work 208 = .ok (.iinc 3 1, 3) := by decide +kernel
theorem dX7_work_211 : decode cX7_work 211 = .ok (.goto (-54), 3) := by decide +kernel
theorem dX7_work_214 : decode cX7_work 214 = .ok (.iconst 4, 1) := by decide +kernel
theorem dX7_work_215 : decode cX7_work 215 = .ok (.iload_n 1, 1) := by decide +kernel
theorem dX7_work_216 : decode cX7_work 216 = .ok (.isub, 1) := by decide +kernel
theorem dX7_work_217 : decode cX7_work 217 = .ok (.istore_n 3, 1) := by decide +kernel
theorem dX7_work_218 : decode cX7_work 218 = .ok (.iload_n 3, 1) := by decide +kernel
theorem dX7_work_219 : decode cX7_work 219 = .ok (.ifCond .lt 79, 3) := by decide +kernel
theorem dX7_work_222 : decode cX7_work 222 = .ok (.iload_n 1, 1) := by decide +kernel
theorem dX7_work_223 : decode cX7_work 223 = .ok (.ifCond .le 75, 3) := by decide +kernel
theorem dX7_work_226 : decode cX7_work 226 = .ok (.aload_n 0, 1) := by decide +kernel
theorem dX7_work_227 : decode cX7_work 227 = .ok (.getfield 33, 3) := by decide +kernel
theorem dX7_work_230 : decode cX7_work 230 = .ok (.iload_n 3, 1) := by decide +kernel
theorem dX7_work_231 : decode cX7_work 231 = .ok (.iload_n 1, 1) := by decide +kernel
theorem dX7_work_232 : decode cX7_work 232 = .ok (.iadd, 1) := by decide +kernel
theorem dX7_work_233 : decode cX7_work 233 = .ok (.laload, 1) := by decide +kernel
theorem dX7_work_234 : decode cX7_work 234 = .ok (.aload_n 0, 1) := by decide +kernel
theorem dX7_work_235 : decode cX7_work 235 = .ok (.getfield 30, 3) := by decide +kernel
theorem dX7_work_238 : decode cX7_work 238 = .ok (.iload_n 1, 1) := by decide +kernel
theorem dX7_work_239 : decode cX7_work 239 = .ok (.laload, 1) := by decide +kernel
theorem dX7_work_240 : decode cX7_work 240 = .ok (.ldiv, 1) := by decide +kernel
theorem dX7_work_241 : decode cX7_work 241 = .ok (.lstore 4, 2) := by decide +kernel
theorem dX7_work_243 : decode cX7_work 243 = .ok (.aload_n 0, 1) := by decide +kernel
theorem dX7_work_244 : decode cX7_work 244 = .ok (.getfield 13, 3) := by decide +kernel
theorem dX7_work_247 : decode cX7_work 247 = .ok (.iconst 5, 1) := by decide +kernel
theorem dX7_work_248 : decode cX7_work 248 = .ok (.iload_n 2, 1) := by decide +kernel
theorem dX7_work_249 : decode cX7_work 249 = .ok (.imul, 1) := by decide +kernel
theorem dX7_work_250 : decode cX7_work 250 = .ok (.iload_n 3, 1) := by decide +kernel
theorem dX7_work_251 : decode cX7_work 251 = .ok (.iadd, 1) := by decide +kernel
theorem dX7_work_252 : decode cX7_work 252 = .ok (.lload 4, 2) := by decide +kernel
theorem dX7_work_254 : decode cX7_work 254 = .ok (.lastore, 1) := by decide +kernel
theorem dX7_work_255 : decode cX7_work 255 = .ok (.iconst 0, 1) := by decide +kernel
theorem dX7_work_256 : decode cX7_work 256 = .ok (.istore 6, 2) := by decide +kernel
theorem dX7_work_258 : decode cX7_work 258 = .ok (.iload 6, 2) := by decide +kernel
theorem dX7_work_260 : decode cX7_work 260 = .ok (.iload_n 1, 1) := by decide +kernel
theorem dX7_work_261 : decode cX7_work 261 = .ok (.if_icmp .gt 31, 3) := by decide +kernel
theorem dX7_work_264 : decode cX7_work 264 = .ok (.aload_n 0, 1) := by decide +kernel
theorem dX7_work_265 : decode cX7_work 265 = .ok (.getfield 33, 3) := by decide +kernel
theorem dX7_work_268 : decode cX7_work 268 = .ok (.iload_n 3, 1) := by decide +kernel
theorem dX7_work_269 : decode cX7_work 269 = .ok (.iload 6, 2) := by decide +kernel
theorem dX7_work_271 : decode cX7_work 271 = .ok (.iadd, 1) := by decide +kernel
theorem dX7_work_272 : decode cX7_work 272 = .ok (.dup2, 1) := by decide +kernel
theorem dX7_work_273 : decode cX7_work 273 = .ok (.laload, 1) := by decide +kernel
theorem dX7_work_274 : decode cX7_work 274 = .ok (.lload 4, 2) := by decide +kernel
theorem dX7_work_276 : decode cX7_work 276 = .ok (.aload_n 0, 1) := by decide +kernel
theorem dX7_work_277 : decode cX7_work 277 = .ok (.getfield 30, 3) := by decide +kernel
theorem dX7_work_280 : decode cX7_work 280 = .ok (.iload 6, 2) := by decide +kernel
theorem dX7_work_282 : decode cX7_work 282 = .ok (.laload, 1) := by decide +kernel
theorem dX7_work_283 : decode cX7_work 283 = .ok (.lmul, 1) := by decide +kernel
theorem dX7_work_284 : decode cX7_work 284 = .ok (.lsub, 1) := by decide +kernel
theorem dX7_work_285 : decode cX7_work 285 = .ok (.lastore, 1) := by decide +kernel
theorem dX7_work_286 : decode cX7_work 286 = .ok (.iinc 6 1, 3) := by decide +kernel
theorem dX7_work_289 : decode cX7_work 289 = .ok (.goto (-31), 3) := by decide +kernel
theorem dX7_work_292 : decode cX7_work 292 = .ok (.iinc 3 (-1), 3) := by decide +kernel
theorem dX7_work_295 : decode cX7_work 295 = .ok (.goto (-77), 3) := by decide +kernel
theorem dX7_work_298 : decode cX7_work 298 = .ok (.iinc 2 1, 3) := by decide +kernel
theorem dX7_work_301 : decode cX7_work 301 = .ok (.goto (-151), 3) := by decide +kernel
theorem dX7_work_304 : decode cX7_work 304 = .ok (.aload_n 0, 1) := by decide +kernel
theorem dX7_work_305 : decode cX7_work 305 = .ok (.iconst 0, 1) := by decide +kernel
theorem dX7_work_306 : decode cX7_work 306 = .ok (.putfield 77, 3) := by decide +kernel
theorem dX7_work_309 : decode cX7_work 309 = .ok (.iconst 0, 1) := by decide +kernel
theorem dX7_work_310 : decode cX7_work 310 = .ok (.istore_n 2, 1) := by decide +kernel
theorem dX7_work_311 : decode cX7_work 311 = .ok (.iconst 0, 1) := by decide +kernel
theorem dX7_work_312 : decode cX7_work 312 = .ok (.istore_n 3, 1) := by decide +kernel
theorem dX7_work_313 : decode cX7_work 313 = .ok (.iload_n 3, 1) := by decide +kernel
theorem dX7_work_314 : decode cX7_work 314 = .ok (.iconst 5, 1) := by decide +kernel
theorem dX7_work_315 : decode cX7_work 315 = .ok (.if_icmp .ge 83, 3) := by decide +kernel
theorem dX7_work_318 : decode cX7_work 318 = .ok (.aload_n 0, 1) := by decide +kernel
theorem dX7_work_319 : decode cX7_work 319 = .ok (.aload_n 0, 1) := by decide +kernel
theorem dX7_work_320 : decode cX7_work 320 = .ok (.getfield 13, 3) := by decide +kernel
theorem dX7_work_323 : decode cX7_work 323 = .ok (.iload_n 3, 1) := by decide +kernel
theorem dX7_work_324 : decode cX7_work 324 = .ok (.laload, 1) := by decide +kernel
theorem dX7_work_325 : decode cX7_work 325 = .ok (.lconst 0, 1) := by decide +kernel
theorem dX7_work_326 : decode cX7_work 326 = .ok (.lcmp, 1) := by decide +kernel
theorem dX7_work_327 : decode cX7_work 327 = .ok (.ifCond .ne 30, 3) := by decide +kernel
theorem dX7_work_330 : decode cX7_work 330 = .ok (.aload_n 0, 1) := by decide +kernel
theorem dX7_work_331 : decode cX7_work 331 = .ok (.getfield 13, 3) := by decide +kernel
theorem dX7_work_334 : decode cX7_work 334 = .ok (.iconst 5, 1) := by decide +kernel
theorem dX7_work_335 : decode cX7_work 335 = .ok (.iload_n 3, 1) := by decide +kernel
theorem dX7_work_336 : decode cX7_work 336 = .ok (.iadd, 1) := by decide +kernel
theorem dX7_work_337 : decode cX7_work 337 = .ok (.laload, 1) := by decide +kernel
theorem dX7_work_338 : decode cX7_work 338 = .ok (.lconst 0, 1) := by decide +kernel
theorem dX7_work_339 : decode cX7_work 339 = .ok (.lcmp, 1) := by decide +kernel
theorem dX7_work_340 : decode cX7_work 340 = .ok (.ifCond .ne 17, 3) := by decide +kernel
theorem dX7_work_343 : decode cX7_work 343 = .ok (.aload_n 0, 1) := by decide +kernel
theorem dX7_work_344 : decode cX7_work 344 = .ok (.getfield 13, 3) := by decide +kernel
theorem dX7_work_347 : decode cX7_work 347 = .ok (.bipush 10, 2) := by decide +kernel
theorem dX7_work_349 : decode cX7_work 349 = .ok (.iload_n 3, 1) := by decide +kernel
theorem dX7_work_350 : decode cX7_work 350 = .ok (.iadd, 1) := by decide +kernel
theorem dX7_work_351 : decode cX7_work 351 = .ok (.laload, 1) := by decide +kernel
theorem dX7_work_352 : decode cX7_work 352 = .ok (.lconst 0, 1) := by decide +kernel
theorem dX7_work_353 : decode cX7_work 353 = .ok (.lcmp, 1) := by decide +kernel
theorem dX7_work_354 : decode cX7_work 354 = .ok (.ifCond .eq 7, 3) := by decide +kernel
theorem dX7_work_357 : decode cX7_work 357 = .ok (.iload_n 3, 1) := by decide +kernel
theorem dX7_work_358 : decode cX7_work 358 = .ok (.goto 7, 3) := by decide +kernel
theorem dX7_work_361 : decode cX7_work 361 = .ok (.aload_n 0, 1) := by decide +kernel
theorem dX7_work_362 : decode cX7_work 362 = .ok (.getfield 77, 3) := by decide +kernel
theorem dX7_work_365 : decode cX7_work 365 = .ok (.putfield 77, 3) := by decide +kernel
theorem dX7_work_368 : decode cX7_work 368 = .ok (.iload_n 2, 1) := by decide +kernel
theorem dX7_work_369 : decode cX7_work 369 = .ok (.ifCond .ne 17, 3) := by decide +kernel
theorem dX7_work_372 : decode cX7_work 372 = .ok (.aload_n 0, 1) := by decide +kernel
theorem dX7_work_373 : decode cX7_work 373 = .ok (.getfield 13, 3) := by decide +kernel
theorem dX7_work_376 : decode cX7_work 376 = .ok (.bipush 10, 2) := by decide +kernel
theorem dX7_work_378 : decode cX7_work 378 = .ok (.iload_n 3, 1) := by decide +kernel
theorem dX7_work_379 : decode cX7_work 379 = .ok (.iadd, 1) := by decide +kernel
theorem dX7_work_380 : decode cX7_work 380 = .ok (.laload, 1) := by decide +kernel
theorem dX7_work_381 : decode cX7_work 381 = .ok (.lconst 0, 1) := by decide +kernel
theorem dX7_work_382 : decode cX7_work 382 = .ok (.lcmp, 1) := by decide +kernel
theorem dX7_work_383 : decode cX7_work 383 = .ok (.ifCond .eq 7, 3) := by decide +kernel
theorem dX7_work_386 : decode cX7_work 386 = .ok (.iconst 1, 1) := by decide +kernel
theorem dX7_work_387 : decode cX7_work 387 = .ok (.goto 4, 3) := by decide +kernel
theorem dX7_work_390 : decode cX7_work 390 = .ok (.iconst 0, 1) := by decide +kernel
theorem dX7_work_391 : decode cX7_work 391 = .ok (.istore_n 2, 1) := by decide +kernel
theorem dX7_work_392 : decode cX7_work 392 = .ok (.iinc 3 1, 3) := by decide +kernel
theorem dX7_work_395 : decode cX7_work 395 = .ok (.goto (-82), 3) := by decide +kernel
theorem dX7_work_398 : decode cX7_work 398 = .ok (.aload_n 0, 1) := by decide +kernel
theorem dX7_work_399 : decode cX7_work 399 = .ok (.getfield 17, 3) := by decide +kernel
theorem dX7_work_402 : decode cX7_work 402 = .ok (.iconst 0, 1) := by decide +kernel
theorem dX7_work_403 : decode cX7_work 403 = .ok (.iconst 0, 1) := by decide +kernel
theorem dX7_work_404 : decode cX7_work 404 = .ok (.bastore, 1) := by decide +kernel
theorem dX7_work_405 : decode cX7_work 405 = .ok (.aload_n 0, 1) := by decide +kernel
theorem dX7_work_406 : decode cX7_work 406 = .ok (.getfield 17, 3) := by decide +kernel
theorem dX7_work_409 : decode cX7_work 409 = .ok (.iconst 1, 1) := by decide +kernel
theorem dX7_work_410 : decode cX7_work 410 = .ok (.iconst 0, 1) := by decide +kernel
theorem dX7_work_411 : decode cX7_work 411 = .ok (.bastore, 1) := by decide +kernel
theorem dX7_work_412 : decode cX7_work 412 = .ok (.aload_n 0, 1) := by decide +kernel
theorem dX7_work_413 : decode cX7_work 413 = .ok (.getfield 77, 3) := by decide +kernel
theorem dX7_work_416 : decode cX7_work 416 = .ok (.ifCond .le 11, 3) := by decide +kernel
theorem dX7_work_419 : decode cX7_work 419 = .ok (.iload_n 2, 1) := by decide +kernel
theorem dX7_work_420 : decode cX7_work 420 = .ok (.ifCond .eq 7, 3) := by decide +kernel
theorem dX7_work_423 : decode cX7_work 423 = .ok (.aload_n 0, 1) := by decide +kernel
theorem dX7_work_424 : decode cX7_work 424 = .ok (.invokevirtual 80, 3) := by decide +kernel
theorem dX7_work_427 : decode cX7_work 427 = .ok (.aload_n 0, 1) := by decide +kernel
theorem dX7_work_428 : decode cX7_work 428 = .ok (.getfield 70, 3) := by decide +kernel
theorem dX7_work_431 : decode cX7_work 431 = .ok (.iconst 1, 1) := by decide +kernel
theorem dX7_work_432 : decode cX7_work 432 = .ok (.if_icmp .le 7, 3) := by decide +kernel
theorem dX7_work_435 : decode cX7_work 435 = .ok (.aload_n 0, 1) := by decide +kernel
theorem dX7_work_436 : decode cX7_work 436 = .ok (.invokevirtual 83, 3) := by decide +kernel
theorem dX7_work_439 : decode cX7_work 439 = .ok (.return_, 1) := by decide +kernel
set_option maxHeartbeats 4000000 in
set_option maxRecDepth 100000 in
theorem ct_X7_work (l : Launch) (D : va_G) (ce : Nat → ClassId) (h : Nat → Nat) (F : Nat → Int) (I : Nat → Nat → Int32) (J : Nat → Nat → Int64) (hok : rOK F I) : Ct l yX7_work cX7_work 7 none { frames := 5, cells := 0, slots := 0, locals := 148 } 0 0 D (TY ce) [.ref (h 0)] (rW ce h F I J) (QV D (TY ce) (fun w1 => ∃ F2 : Nat → Int, ∃ I2 : Nat → Nat → Int32, ∃ J2 : Nat → Nat → Int64, w1 = rW ce h F2 I2 J2 ∧ (rOK F2 I2) ∧ (F2 2 = 1 ∧ 0 ≤ F2 0 ∧ F2 0 ≤ 4 ∧ 0 ≤ F2 1 ∧ F2 1 ≤ 4) ∧ (F2 0 = moK (I 0) 5) ∧ (I2 0 = I 0) ∧ (DGok (I2 2)))) := by
  refine Ct.ofV (by decide) (Nat.le_of_ble_eq_true rfl) ?_
  intro p e s m args below meth c A Q hX hnm hR
  refine Z.pick (lv' := [(0, .ref (h 0))]) [0] rfl ?_
  have hmb := moK_b (I 0) 5
  obtain ⟨hF, hF2, hkn, hdg⟩ := id hok
  refine Z.aload_n hX dX7_work_0 rfl rfl ?_
  refine Z.getf hX 7 0 4 dX7_work_1 rfl rfl inX7 (by decide) fl_X7_54 rfl rfl ?_
  refine Z.if_eq hX 8 dX7_work_4 (by decide) ⟨by omega, by omega⟩ ?_ ?_
  · intro c1
    refine Z.aload_n hX dX7_work_8 rfl rfl ?_
    refine Z.iconst hX dX7_work_9 ?_
    refine Z.putf (ty := .boolean) hX 7 0 4 tyX7 dX7_work_10 rfl rfl inX7 tyX7_ok nmX7 (by decide) fl_X7_54 rfl rfl (by decide +kernel) rfl rfl (Nat.le_of_ble_eq_true rfl) ?_
    obtain ⟨F2, eF2⟩ : ∃ F' : Nat → Int, F' = va_up F 2 (1) := ⟨_, rfl⟩
    refine Z.toW (w' := rW ce h F2 I J) (by rw [eF2]; rfl) ?_
    have eF2_0 : F2 0 = F 0 := by rw [eF2]; rfl
    have eF2_1 : F2 1 = F 1 := by rw [eF2]; rfl
    have eF2_2 : F2 2 = 1 := by rw [eF2]; rfl
    refine Z.aload_n hX dX7_work_13 rfl rfl ?_
    refine Z.iconst hX dX7_work_14 ?_
    refine Z.putf (ty := .int) hX 7 0 2 tyX7 dX7_work_15 rfl rfl inX7 tyX7_ok nmX7 (by decide) fl_X7_70 rfl rfl (by decide +kernel) rfl rfl (Nat.le_of_ble_eq_true rfl) ?_
    obtain ⟨F3, eF3⟩ : ∃ F' : Nat → Int, F' = va_up F2 0 (0) := ⟨_, rfl⟩
    refine Z.toW (w' := rW ce h F3 I J) (by rw [eF3]; rfl) ?_
    have eF3_0 : F3 0 = 0 := by rw [eF3]; rfl
    have eF3_1 : F3 1 = F2 1 := by rw [eF3]; rfl
    have eF3_2 : F3 2 = F2 2 := by rw [eF3]; rfl
    refine Z.iconst hX dX7_work_18 ?_
    refine Z.istore_n (lv' := [(1, .int (zI 0)), (0, .ref (h 0))]) hX dX7_work_19 rfl (by decide) rfl ?_
    have key_20 : ∀ (N : Nat), ∀ (k : Int) (G : Nat → Int) (M : Nat → Nat → Int64), (5 - k).toNat < N → (hk : 0 ≤ k ∧ k ≤ 5) → (hG : G 2 = 1 ∧ 0 ≤ G 1 ∧ G 1 ≤ 4) → (hG0 : G 0 = moK (I 0) k.toNat) → Z p l e { frames := 5, cells := 0, slots := 0, locals := 148 } s m args below meth c D A 7 0 0 Q 20 [(1, .int (zI k)), (0, .ref (h 0))] [] (rW ce h G I M) := by
      intro N
      induction N with
      | zero => intro k G M hm; exact absurd hm (Nat.not_lt_zero _)
      | succ N ih_20 =>
        intro k G M hm hk hG hG0
        refine Z.iload_n hX dX7_work_20 rfl rfl ?_
        refine Z.iconst hX dX7_work_21 ?_
        refine Z.icmp_ge hX 103 dX7_work_22 (by decide) ⟨by omega, by omega⟩ ⟨by omega, by omega⟩ ?_ ?_
        · intro c4
          have hG5 : G 0 = moK (I 0) 5 := by rw [hG0, show k = 5 by omega]; rfl
          refine Z.aload_n hX dX7_work_103 rfl rfl ?_
          refine Z.callVfv (As := []) (rest := []) hX 7 0 rfl rfl (ct_X7_divisor l D ce h G I M ) mc_X7_divisor ml_X7_74 im_X7_divisor se_X7_divisor ini_X7 nd_X7_divisor ⟨Nat.le_of_ble_eq_true rfl, Nat.le_of_ble_eq_true rfl⟩ ⟨rfl, rfl⟩ ⟨Nat.le_refl _, Nat.le_refl _⟩ rfl (Nat.le_of_ble_eq_true rfl) dX7_work_104 ?_
          rintro w1 ⟨J26, hw_, hq7⟩
          subst hw_
          refine Z.iconst hX dX7_work_107 ?_
          refine Z.istore_n (lv' := [(1, .int (zI 0)), (0, .ref (h 0))]) hX dX7_work_108 rfl (by decide) rfl ?_
          have key_109 : ∀ (N : Nat), ∀ (k : Int) (M : Nat → Nat → Int64), (5 - k).toNat < N → (hk2 : 0 ≤ k ∧ k ≤ 5) → Z p l e { frames := 5, cells := 0, slots := 0, locals := 148 } s m args below meth c D A 7 0 0 Q 109 [(1, .int (zI k)), (0, .ref (h 0))] [] (rW ce h G I M) := by
            intro N
            induction N with
            | zero => intro k M hm; exact absurd hm (Nat.not_lt_zero _)
            | succ N ih_109 =>
              intro k M hm hk2
              refine Z.iload_n hX dX7_work_109 rfl rfl ?_
              refine Z.iconst hX dX7_work_110 ?_
              refine Z.icmp_ge hX 136 dX7_work_111 (by decide) ⟨by omega, by omega⟩ ⟨by omega, by omega⟩ ?_ ?_
              · intro c8
                refine Z.aload_n hX dX7_work_136 rfl rfl ?_
                refine Z.callVfv (As := []) (rest := []) hX 7 0 rfl rfl (ct_X7_divisor l D ce h G I M ) mc_X7_divisor ml_X7_74 im_X7_divisor se_X7_divisor ini_X7 nd_X7_divisor ⟨Nat.le_of_ble_eq_true rfl, Nat.le_of_ble_eq_true rfl⟩ ⟨rfl, rfl⟩ ⟨Nat.le_refl _, Nat.le_refl _⟩ rfl (Nat.le_of_ble_eq_true rfl) dX7_work_137 ?_
                rintro w1 ⟨Jd, hw_, hjd⟩
                subst hw_
                refine Z.aload_n hX dX7_work_140 rfl rfl ?_
                refine Z.getf hX 7 0 9 dX7_work_141 rfl rfl inX7 (by decide) fl_X7_30 rfl rfl ?_
                refine Z.callS1i (As := [.ref (h 7)]) (rest := []) hX 7 rfl (ct_X7_degreeOf l D ce ((h 7)) (Jd 2) ) mc_X7_degreeOf ml_X7_62 st_X7_degreeOf ini_X7 nd_X7_degreeOf ⟨Nat.le_of_ble_eq_true rfl, Nat.le_of_ble_eq_true rfl⟩ ⟨rfl, rfl⟩ ⟨Nat.le_refl _, Nat.le_refl _⟩ rfl (Nat.le_of_ble_eq_true rfl) dX7_work_144 ?_
                rintro r_10 w1 ⟨d, hr_, hw_, d1, d2, d3⟩
                subst hr_
                refine ⟨_, hw_, ?_⟩
                refine Z.toW (w' := rW ce h G I Jd) rfl ?_
                refine Z.istore_n (lv' := [(1, .int (zI d)), (0, .ref (h 0))]) hX dX7_work_147 rfl (by decide) rfl ?_
                refine Z.iconst hX dX7_work_148 ?_
                refine Z.istore_n (lv' := [(2, .int (zI 0)), (1, .int (zI d)), (0, .ref (h 0))]) hX dX7_work_149 rfl (by decide) rfl ?_
                have key_150 : ∀ (N : Nat), ∀ (wv : Int) (M : Nat → Nat → Int64), (3 - wv).toNat < N → (hw : 0 ≤ wv ∧ wv ≤ 3) → (ho : M 2 = Jd 2) → Z p l e { frames := 5, cells := 0, slots := 0, locals := 148 } s m args below meth c D A 7 0 0 Q 150 [(2, .int (zI wv)), (1, .int (zI d)), (0, .ref (h 0))] [] (rW ce h G I M) := by
                  intro N
                  induction N with
                  | zero => intro wv M hm; exact absurd hm (Nat.not_lt_zero _)
                  | succ N ih_150 =>
                    intro wv M hm hw ho
                    refine Z.iload_n hX dX7_work_150 rfl rfl ?_
                    refine Z.iconst hX dX7_work_151 ?_
                    refine Z.icmp_ge hX 304 dX7_work_152 (by decide) ⟨by omega, by omega⟩ ⟨by omega, by omega⟩ ?_ ?_
                    · intro c11
                      refine Z.aload_n hX dX7_work_304 rfl rfl ?_
                      refine Z.iconst hX dX7_work_305 ?_
                      refine Z.putf (ty := .int) hX 7 0 3 tyX7 dX7_work_306 rfl rfl inX7 tyX7_ok nmX7 (by decide) fl_X7_77 rfl rfl (by decide +kernel) rfl rfl (Nat.le_of_ble_eq_true rfl) ?_
                      obtain ⟨F12, eF12⟩ : ∃ F' : Nat → Int, F' = va_up G 1 (0) := ⟨_, rfl⟩
                      refine Z.toW (w' := rW ce h F12 I M) (by rw [eF12]; rfl) ?_
                      have eF12_0 : F12 0 = G 0 := by rw [eF12]; rfl
                      have eF12_1 : F12 1 = 0 := by rw [eF12]; rfl
                      have eF12_2 : F12 2 = G 2 := by rw [eF12]; rfl
                      refine Z.iconst hX dX7_work_309 ?_
                      refine Z.istore_n (lv' := [(2, .int (zI 0)), (1, .int (zI d)), (0, .ref (h 0))]) hX dX7_work_310 rfl (by decide) rfl ?_
                      refine Z.iconst hX dX7_work_311 ?_
                      refine Z.istore_n (lv' := [(3, .int (zI 0)), (2, .int (zI 0)), (1, .int (zI d)), (0, .ref (h 0))]) hX dX7_work_312 rfl (by decide) rfl ?_
                      have key_313 : ∀ (N : Nat), ∀ (k wt : Int) (G : Nat → Int), (5 - k).toNat < N → (hk5 : 0 ≤ k ∧ k ≤ 5) → (hwt : 0 ≤ wt ∧ wt ≤ 1) → (hG : G 2 = 1 ∧ 0 ≤ G 1 ∧ G 1 ≤ 4) → (hG0 : G 0 = moK (I 0) 5) → Z p l e { frames := 5, cells := 0, slots := 0, locals := 148 } s m args below meth c D A 7 0 0 Q 313 [(3, .int (zI k)), (2, .int (zI wt)), (0, .ref (h 0))] [] (rW ce h G I M) := by
                        intro N
                        induction N with
                        | zero => intro k wt G hm; exact absurd hm (Nat.not_lt_zero _)
                        | succ N ih_313 =>
                          intro k wt G hm hk5 hwt hG hG0
                          refine Z.iload_n hX dX7_work_313 rfl rfl ?_
                          refine Z.iconst hX dX7_work_314 ?_
                          refine Z.icmp_ge hX 398 dX7_work_315 (by decide) ⟨by omega, by omega⟩ ⟨by omega, by omega⟩ ?_ ?_
                          · intro c13
                            refine Z.aload_n hX dX7_work_398 rfl rfl ?_
                            refine Z.getf hX 7 0 5 dX7_work_399 rfl rfl inX7 (by decide) fl_X7_17 rfl rfl ?_
                            refine Z.iconst hX dX7_work_402 ?_
                            refine Z.iconst hX dX7_work_403 ?_
                            refine Z.zastore hX 3 2 dX7_work_404 rfl rfl (by omega) (by omega) (by decide) ?_
                            obtain ⟨I14, eI14⟩ : ∃ J' : Nat → Nat → Int32, J' = va_up I 1 (upd (I 1) (0 : Int).toNat (vp_nar .boolean (zI (0)))) := ⟨_, rfl⟩
                            refine Z.toW (w' := rW ce h G I14 M) (by rw [eI14]; rfl) ?_
                            have gI14 : I14 1 = upd (I 1) (0 : Int).toNat (vp_nar .boolean (zI (0))) := by rw [eI14]; exact up_eq
                            have fI14 : ∀ k, k ≠ 1 → I14 k = I k := fun k hk => by rw [eI14]; exact up_ne hk
                            refine Z.aload_n hX dX7_work_405 rfl rfl ?_
                            refine Z.getf hX 7 0 5 dX7_work_406 rfl rfl inX7 (by decide) fl_X7_17 rfl rfl ?_
                            refine Z.iconst hX dX7_work_409 ?_
                            refine Z.iconst hX dX7_work_410 ?_
                            refine Z.zastore hX 3 2 dX7_work_411 rfl rfl (by omega) (by omega) (by decide) ?_
                            obtain ⟨I15, eI15⟩ : ∃ J' : Nat → Nat → Int32, J' = va_up I14 1 (upd (I14 1) (1 : Int).toNat (vp_nar .boolean (zI (0)))) := ⟨_, rfl⟩
                            refine Z.toW (w' := rW ce h G I15 M) (by rw [eI15]; rfl) ?_
                            have gI15 : I15 1 = upd (I14 1) (1 : Int).toNat (vp_nar .boolean (zI (0))) := by rw [eI15]; exact up_eq
                            have fI15 : ∀ k, k ≠ 1 → I15 k = I14 k := fun k hk => by rw [eI15]; exact up_ne hk
                            have hdgB : DGok (I15 2) := by rw [fI15 2 (by decide), fI14 2 (by decide)]; exact hdg
                            have key_427 : ∀ (K : Nat → Nat → Int32) (M : Nat → Nat → Int64), (hK : ∀ k, k ≠ 1 → k ≠ 2 → k ≠ 3 → K k = I k) → (hdgC : DGok (K 2)) → Z p l e { frames := 5, cells := 0, slots := 0, locals := 148 } s m args below meth c D A 7 0 0 Q 427 [(0, .ref (h 0))] [] (rW ce h G K M) := by
                              intro K M hK hdgC
                              refine Z.aload_n hX dX7_work_427 rfl rfl ?_
                              refine Z.getf hX 7 0 2 dX7_work_428 rfl rfl inX7 (by decide) fl_X7_70 rfl rfl ?_
                              refine Z.iconst hX dX7_work_431 ?_
                              refine Z.icmp_le hX 439 dX7_work_432 (by decide) ⟨by omega, by omega⟩ ⟨by omega, by omega⟩ ?_ ?_
                              · intro c16
                                exact hR _ _ _ dX7_work_439 ⟨G, K, M, rfl, (rOK_i (by omega) (by omega) hG0 ((fun k h1 h2 h3 => (hK k h1 h2 h3)) 0 (by decide) (by decide) (by decide)) hdgC), (by omega), hG0, ((fun k h1 h2 h3 => (hK k h1 h2 h3)) 0 (by decide) (by decide) (by decide)), hdgC⟩
                              · intro c16
                                refine Z.aload_n hX dX7_work_435 rfl rfl ?_
                                refine Z.callVfv (As := []) (rest := []) hX 7 0 rfl rfl (ct_X7_envelope l D ce h G K M (by omega) hdgC) mc_X7_envelope ml_X7_83 im_X7_envelope se_X7_envelope ini_X7 nd_X7_envelope ⟨Nat.le_of_ble_eq_true rfl, Nat.le_of_ble_eq_true rfl⟩ ⟨rfl, rfl⟩ ⟨Nat.le_refl _, Nat.le_refl _⟩ rfl (Nat.le_of_ble_eq_true rfl) dX7_work_436 ?_
                                rintro w1 ⟨I218, J219, hw_, he1, he2, he3⟩
                                subst hw_
                                exact hR _ _ _ dX7_work_439 ⟨G, I218, J219, rfl, (rOK_i (by omega) (by omega) hG0 ((fun k h1 h2 h3 => ((he2 k h1 h2 h3).trans (hK k h1 h2 h3))) 0 (by decide) (by decide) (by decide)) he3), (by omega), hG0, ((fun k h1 h2 h3 => ((he2 k h1 h2 h3).trans (hK k h1 h2 h3))) 0 (by decide) (by decide) (by decide)), he3⟩
                            refine Z.aload_n hX dX7_work_412 rfl rfl ?_
                            refine Z.getf hX 7 0 3 dX7_work_413 rfl rfl inX7 (by decide) fl_X7_77 rfl rfl ?_
                            refine Z.if_le hX 427 dX7_work_416 (by decide) ⟨by omega, by omega⟩ ?_ ?_
                            · intro c20
                              refine Z.pick [2] rfl ?_
                              exact key_427 _ _ (fun k h1 h2 h3 => ((fI15 k h1).trans ((fI14 k h1).trans rfl))) hdgB
                            · intro c20
                              refine Z.iload_n hX dX7_work_419 rfl rfl ?_
                              refine Z.if_eq hX 427 dX7_work_420 (by decide) ⟨by omega, by omega⟩ ?_ ?_
                              · intro c21
                                refine Z.pick [2] rfl ?_
                                exact key_427 _ _ (fun k h1 h2 h3 => ((fI15 k h1).trans ((fI14 k h1).trans rfl))) hdgB
                              · intro c21
                                refine Z.aload_n hX dX7_work_423 rfl rfl ?_
                                refine Z.callVfv (As := []) (rest := []) hX 7 0 rfl rfl (ct_X7_locus l D ce h G I15 M (by omega) hdgB) mc_X7_locus ml_X7_80 im_X7_locus se_X7_locus ini_X7 nd_X7_locus ⟨Nat.le_of_ble_eq_true rfl, Nat.le_of_ble_eq_true rfl⟩ ⟨rfl, rfl⟩ ⟨Nat.le_refl _, Nat.le_refl _⟩ rfl (Nat.le_of_ble_eq_true rfl) dX7_work_424 ?_
                                rintro w1 ⟨I223, J224, hw_, hl1, hl2, hl3⟩
                                subst hw_
                                refine Z.pick [2] rfl ?_
                                exact key_427 _ _ (fun k h1 h2 h3 => ((hl2 k h1 h2 h3).trans ((fI15 k h1).trans ((fI14 k h1).trans rfl)))) hl3
                          · intro c13
                            have key_365 : ∀ (v : Int), (hv : 0 ≤ v ∧ v ≤ 4) → Z p l e { frames := 5, cells := 0, slots := 0, locals := 148 } s m args below meth c D A 7 0 0 Q 365 [(3, .int (zI k)), (2, .int (zI wt)), (0, .ref (h 0))] [.int (zI v), .ref (h 0)] (rW ce h G I M) := by
                              intro v hv
                              refine Z.putf (ty := .int) hX 7 0 3 tyX7 dX7_work_365 rfl rfl inX7 tyX7_ok nmX7 (by decide) fl_X7_77 rfl rfl (by decide +kernel) rfl rfl (Nat.le_of_ble_eq_true rfl) ?_
                              obtain ⟨F25, eF25⟩ : ∃ F' : Nat → Int, F' = va_up G 1 (v) := ⟨_, rfl⟩
                              refine Z.toW (w' := rW ce h F25 I M) (by rw [eF25]; rfl) ?_
                              have eF25_0 : F25 0 = G 0 := by rw [eF25]; rfl
                              have eF25_1 : F25 1 = v := by rw [eF25]; rfl
                              have eF25_2 : F25 2 = G 2 := by rw [eF25]; rfl
                              have key_391 : ∀ (b : Int), (hb : 0 ≤ b ∧ b ≤ 1) → Z p l e { frames := 5, cells := 0, slots := 0, locals := 148 } s m args below meth c D A 7 0 0 Q 391 [(3, .int (zI k)), (0, .ref (h 0))] [.int (zI b)] (rW ce h F25 I M) := by
                                intro b hb
                                refine Z.istore_n (lv' := [(2, .int (zI b)), (3, .int (zI k)), (0, .ref (h 0))]) hX dX7_work_391 rfl (by decide) rfl ?_
                                refine Z.iinc (lv' := [(3, .int (zI (k + 1))), (2, .int (zI b)), (0, .ref (h 0))]) hX dX7_work_392 rfl (by decide) rfl ?_
                                refine Z.goto hX 313 dX7_work_395 (by decide) ?_
                                refine Z.pick [0, 1, 2] rfl ?_
                                exact ih_313 _ _ _ (by omega) (by omega) (by omega) (by omega) (by rw [eF25_0]; exact hG0)
                              refine Z.iload_n hX dX7_work_368 rfl rfl ?_
                              refine Z.if_ne hX 386 dX7_work_369 (by decide) ⟨by omega, by omega⟩ ?_ ?_
                              · intro c26
                                refine Z.iconst hX dX7_work_386 ?_
                                refine Z.goto hX 391 dX7_work_387 (by decide) ?_
                                refine Z.pick [0, 2] rfl ?_
                                exact key_391 _ (by omega)
                              · intro c26
                                refine Z.aload_n hX dX7_work_372 rfl rfl ?_
                                refine Z.getf hX 7 0 1 dX7_work_373 rfl rfl inX7 (by decide) fl_X7_13 rfl rfl ?_
                                refine Z.bipush hX dX7_work_376 (by decide) ?_
                                refine Z.iload_n hX dX7_work_378 rfl rfl ?_
                                refine Z.iadd hX dX7_work_379 ?_
                                refine Z.laload hX 2 1 dX7_work_380 rfl rfl (by omega) (by omega) (by decide) ?_
                                refine Z.lconst (v := 0) hX dX7_work_381 rfl ?_
                                refine Z.lcmp_eq hX 390 dX7_work_382 dX7_work_383 (by decide) ?_ ?_
                                · intro c27
                                  refine Z.iconst hX dX7_work_390 ?_
                                  refine Z.pick [0, 2] rfl ?_
                                  exact key_391 _ (by omega)
                                · intro c27
                                  refine Z.iconst hX dX7_work_386 ?_
                                  refine Z.goto hX 391 dX7_work_387 (by decide) ?_
                                  refine Z.pick [0, 2] rfl ?_
                                  exact key_391 _ (by omega)
                            refine Z.aload_n hX dX7_work_318 rfl rfl ?_
                            refine Z.aload_n hX dX7_work_319 rfl rfl ?_
                            refine Z.getf hX 7 0 1 dX7_work_320 rfl rfl inX7 (by decide) fl_X7_13 rfl rfl ?_
                            refine Z.iload_n hX dX7_work_323 rfl rfl ?_
                            refine Z.laload hX 2 1 dX7_work_324 rfl rfl (by omega) (by omega) (by decide) ?_
                            refine Z.lconst (v := 0) hX dX7_work_325 rfl ?_
                            refine Z.lcmp_ne hX 357 dX7_work_326 dX7_work_327 (by decide) ?_ ?_
                            · intro c28
                              refine Z.iload_n hX dX7_work_357 rfl rfl ?_
                              refine Z.goto hX 365 dX7_work_358 (by decide) ?_
                              refine Z.pick [0, 1, 2] rfl ?_
                              exact key_365 _ (by omega)
                            · intro c28
                              refine Z.aload_n hX dX7_work_330 rfl rfl ?_
                              refine Z.getf hX 7 0 1 dX7_work_331 rfl rfl inX7 (by decide) fl_X7_13 rfl rfl ?_
                              refine Z.iconst hX dX7_work_334 ?_
                              refine Z.iload_n hX dX7_work_335 rfl rfl ?_
                              refine Z.iadd hX dX7_work_336 ?_
                              refine Z.laload hX 2 1 dX7_work_337 rfl rfl (by omega) (by omega) (by decide) ?_
                              refine Z.lconst (v := 0) hX dX7_work_338 rfl ?_
                              refine Z.lcmp_ne hX 357 dX7_work_339 dX7_work_340 (by decide) ?_ ?_
                              · intro c29
                                refine Z.iload_n hX dX7_work_357 rfl rfl ?_
                                refine Z.goto hX 365 dX7_work_358 (by decide) ?_
                                refine Z.pick [0, 1, 2] rfl ?_
                                exact key_365 _ (by omega)
                              · intro c29
                                refine Z.aload_n hX dX7_work_343 rfl rfl ?_
                                refine Z.getf hX 7 0 1 dX7_work_344 rfl rfl inX7 (by decide) fl_X7_13 rfl rfl ?_
                                refine Z.bipush hX dX7_work_347 (by decide) ?_
                                refine Z.iload_n hX dX7_work_349 rfl rfl ?_
                                refine Z.iadd hX dX7_work_350 ?_
                                refine Z.laload hX 2 1 dX7_work_351 rfl rfl (by omega) (by omega) (by decide) ?_
                                refine Z.lconst (v := 0) hX dX7_work_352 rfl ?_
                                refine Z.lcmp_eq hX 361 dX7_work_353 dX7_work_354 (by decide) ?_ ?_
                                · intro c30
                                  refine Z.aload_n hX dX7_work_361 rfl rfl ?_
                                  refine Z.getf hX 7 0 3 dX7_work_362 rfl rfl inX7 (by decide) fl_X7_77 rfl rfl ?_
                                  refine Z.pick [0, 1, 2] rfl ?_
                                  exact key_365 _ (by omega)
                                · intro c30
                                  refine Z.iload_n hX dX7_work_357 rfl rfl ?_
                                  refine Z.goto hX 365 dX7_work_358 (by decide) ?_
                                  refine Z.pick [0, 1, 2] rfl ?_
                                  exact key_365 _ (by omega)
                      refine Z.pick [0, 1, 3] rfl ?_
                      exact key_313 _ _ _ _ (Nat.lt_succ_self _) (by omega) (by omega) (by omega) (by rw [eF12_0]; exact hG5)
                    · intro c11
                      refine Z.iconst hX dX7_work_155 ?_
                      refine Z.istore_n (lv' := [(3, .int (zI 0)), (2, .int (zI wv)), (1, .int (zI d)), (0, .ref (h 0))]) hX dX7_work_156 rfl (by decide) rfl ?_
                      have key_157 : ∀ (N : Nat), ∀ (k : Int) (M : Nat → Nat → Int64), (5 - k).toNat < N → (hk3 : 0 ≤ k ∧ k ≤ 5) → (ho : M 2 = Jd 2) → Z p l e { frames := 5, cells := 0, slots := 0, locals := 148 } s m args below meth c D A 7 0 0 Q 157 [(3, .int (zI k)), (2, .int (zI wv)), (1, .int (zI d)), (0, .ref (h 0))] [] (rW ce h G I M) := by
                        intro N
                        induction N with
                        | zero => intro k M hm; exact absurd hm (Nat.not_lt_zero _)
                        | succ N ih_157 =>
                          intro k M hm hk3 ho
                          refine Z.iload_n hX dX7_work_157 rfl rfl ?_
                          refine Z.iconst hX dX7_work_158 ?_
                          refine Z.icmp_ge hX 214 dX7_work_159 (by decide) ⟨by omega, by omega⟩ ⟨by omega, by omega⟩ ?_ ?_
                          · intro c31
                            refine Z.iconst hX dX7_work_214 ?_
                            refine Z.iload_n hX dX7_work_215 rfl rfl ?_
                            refine Z.isub hX dX7_work_216 ?_
                            refine Z.istore_n (lv' := [(3, .int (zI (4 - d))), (2, .int (zI wv)), (1, .int (zI d)), (0, .ref (h 0))]) hX dX7_work_217 rfl (by decide) rfl ?_
                            have key_218 : ∀ (N : Nat), ∀ (ev : Int) (M : Nat → Nat → Int64), (ev + 1).toNat < N → (he : -1 ≤ ev ∧ ev ≤ 4 - d) → (ho : M 2 = Jd 2) → Z p l e { frames := 5, cells := 0, slots := 0, locals := 148 } s m args below meth c D A 7 0 0 Q 218 [(3, .int (zI ev)), (2, .int (zI wv)), (1, .int (zI d)), (0, .ref (h 0))] [] (rW ce h G I M) := by
                              intro N
                              induction N with
                              | zero => intro ev M hm; exact absurd hm (Nat.not_lt_zero _)
                              | succ N ih_218 =>
                                intro ev M hm he ho
                                refine Z.iload_n hX dX7_work_218 rfl rfl ?_
                                refine Z.if_lt hX 298 dX7_work_219 (by decide) ⟨by omega, by omega⟩ ?_ ?_
                                · intro c32
                                  refine Z.iinc (lv' := [(2, .int (zI (wv + 1))), (3, .int (zI ev)), (1, .int (zI d)), (0, .ref (h 0))]) hX dX7_work_298 rfl (by decide) rfl ?_
                                  refine Z.goto hX 150 dX7_work_301 (by decide) ?_
                                  refine Z.pick [0, 2, 3] rfl ?_
                                  exact ih_150 _ _ (by omega) (by omega) ho
                                · intro c32
                                  refine Z.iload_n hX dX7_work_222 rfl rfl ?_
                                  refine Z.if_le hX 298 dX7_work_223 (by decide) ⟨by omega, by omega⟩ ?_ ?_
                                  · intro c33
                                    refine Z.iinc (lv' := [(2, .int (zI (wv + 1))), (3, .int (zI ev)), (1, .int (zI d)), (0, .ref (h 0))]) hX dX7_work_298 rfl (by decide) rfl ?_
                                    refine Z.goto hX 150 dX7_work_301 (by decide) ?_
                                    refine Z.pick [0, 2, 3] rfl ?_
                                    exact ih_150 _ _ (by omega) (by omega) ho
                                  · intro c33
                                    refine Z.aload_n hX dX7_work_226 rfl rfl ?_
                                    refine Z.getf hX 7 0 10 dX7_work_227 rfl rfl inX7 (by decide) fl_X7_33 rfl rfl ?_
                                    refine Z.iload_n hX dX7_work_230 rfl rfl ?_
                                    refine Z.iload_n hX dX7_work_231 rfl rfl ?_
                                    refine Z.iadd hX dX7_work_232 ?_
                                    refine Z.laload hX 8 1 dX7_work_233 rfl rfl (by omega) (by omega) (by decide) ?_
                                    refine Z.aload_n hX dX7_work_234 rfl rfl ?_
                                    refine Z.getf hX 7 0 9 dX7_work_235 rfl rfl inX7 (by decide) fl_X7_30 rfl rfl ?_
                                    refine Z.iload_n hX dX7_work_238 rfl rfl ?_
                                    refine Z.laload hX 7 1 dX7_work_239 rfl rfl (by omega) (by omega) (by decide) ?_
                                    refine Z.ldiv hX dX7_work_240 (by rw [ho]; exact d3 (by omega)) ?_
                                    refine Z.lstore (lv' := [(4, .long ((M 3 (ev + d : Int).toNat) / (M 2 (d : Int).toNat))), (3, .int (zI ev)), (2, .int (zI wv)), (1, .int (zI d)), (0, .ref (h 0))]) hX dX7_work_241 (by decide) rfl ?_
                                    obtain ⟨qq, eqq⟩ : ∃ x : Int64, x = (M 3 (ev + d : Int).toNat) / (M 2 (d : Int).toNat) := ⟨_, rfl⟩
                                    rw [← eqq]
                                    refine Z.aload_n hX dX7_work_243 rfl rfl ?_
                                    refine Z.getf hX 7 0 1 dX7_work_244 rfl rfl inX7 (by decide) fl_X7_13 rfl rfl ?_
                                    refine Z.iconst hX dX7_work_247 ?_
                                    refine Z.iload_n hX dX7_work_248 rfl rfl ?_
                                    refine Z.imul hX dX7_work_249 ?_
                                    refine Z.iload_n hX dX7_work_250 rfl rfl ?_
                                    refine Z.iadd hX dX7_work_251 ?_
                                    refine Z.lload hX dX7_work_252 rfl ?_
                                    refine Z.lastore hX 2 1 dX7_work_254 rfl rfl (by omega) (by omega) (by decide) ?_
                                    obtain ⟨J34, eJ34⟩ : ∃ J' : Nat → Nat → Int64, J' = va_up M 0 (vp_updL (M 0) ((5 * wv) + ev : Int).toNat (qq)) := ⟨_, rfl⟩
                                    refine Z.toW (w' := rW ce h G I J34) (by rw [eJ34]; rfl) ?_
                                    have gJ34 : J34 0 = vp_updL (M 0) ((5 * wv) + ev : Int).toNat (qq) := by rw [eJ34]; exact up_eq
                                    have fJ34 : ∀ k, k ≠ 0 → J34 k = M k := fun k hk => by rw [eJ34]; exact up_ne hk
                                    refine Z.iconst hX dX7_work_255 ?_
                                    refine Z.istore (lv' := [(6, .int (zI 0)), (4, .long qq), (3, .int (zI ev)), (2, .int (zI wv)), (1, .int (zI d)), (0, .ref (h 0))]) hX dX7_work_256 (by decide) rfl ?_
                                    have key_258 : ∀ (N : Nat), ∀ (k : Int) (M : Nat → Nat → Int64), (d + 1 - k).toNat < N → (hk4 : 0 ≤ k ∧ k ≤ d + 1) → (ho : M 2 = Jd 2) → Z p l e { frames := 5, cells := 0, slots := 0, locals := 148 } s m args below meth c D A 7 0 0 Q 258 [(6, .int (zI k)), (4, .long qq), (3, .int (zI ev)), (2, .int (zI wv)), (1, .int (zI d)), (0, .ref (h 0))] [] (rW ce h G I M) := by
                                      intro N
                                      induction N with
                                      | zero => intro k M hm; exact absurd hm (Nat.not_lt_zero _)
                                      | succ N ih_258 =>
                                        intro k M hm hk4 ho
                                        refine Z.iload hX dX7_work_258 rfl ?_
                                        refine Z.iload_n hX dX7_work_260 rfl rfl ?_
                                        refine Z.icmp_gt hX 292 dX7_work_261 (by decide) ⟨by omega, by omega⟩ ⟨by omega, by omega⟩ ?_ ?_
                                        · intro c35
                                          refine Z.iinc (lv' := [(3, .int (zI (ev + -1))), (6, .int (zI k)), (4, .long qq), (2, .int (zI wv)), (1, .int (zI d)), (0, .ref (h 0))]) hX dX7_work_292 rfl (by decide) rfl ?_
                                          refine Z.goto hX 218 dX7_work_295 (by decide) ?_
                                          refine Z.pick [0, 3, 4, 5] rfl ?_
                                          exact ih_218 _ _ (by omega) (by omega) ho
                                        · intro c35
                                          refine Z.aload_n hX dX7_work_264 rfl rfl ?_
                                          refine Z.getf hX 7 0 10 dX7_work_265 rfl rfl inX7 (by decide) fl_X7_33 rfl rfl ?_
                                          refine Z.iload_n hX dX7_work_268 rfl rfl ?_
                                          refine Z.iload hX dX7_work_269 rfl ?_
                                          refine Z.iadd hX dX7_work_271 ?_
                                          refine Z.dup2 hX dX7_work_272 rfl rfl ?_
                                          refine Z.laload hX 8 1 dX7_work_273 rfl rfl (by omega) (by omega) (by decide) ?_
                                          refine Z.lload hX dX7_work_274 rfl ?_
                                          refine Z.aload_n hX dX7_work_276 rfl rfl ?_
                                          refine Z.getf hX 7 0 9 dX7_work_277 rfl rfl inX7 (by decide) fl_X7_30 rfl rfl ?_
                                          refine Z.iload hX dX7_work_280 rfl ?_
                                          refine Z.laload hX 7 1 dX7_work_282 rfl rfl (by omega) (by omega) (by decide) ?_
                                          refine Z.lmul hX dX7_work_283 ?_
                                          refine Z.lsub hX dX7_work_284 ?_
                                          refine Z.lastore hX 8 1 dX7_work_285 rfl rfl (by omega) (by omega) (by decide) ?_
                                          obtain ⟨J36, eJ36⟩ : ∃ J' : Nat → Nat → Int64, J' = va_up M 3 (vp_updL (M 3) (ev + k : Int).toNat ((M 3 (ev + k : Int).toNat) - (qq * (M 2 (k : Int).toNat)))) := ⟨_, rfl⟩
                                          refine Z.toW (w' := rW ce h G I J36) (by rw [eJ36]; rfl) ?_
                                          have gJ36 : J36 3 = vp_updL (M 3) (ev + k : Int).toNat ((M 3 (ev + k : Int).toNat) - (qq * (M 2 (k : Int).toNat))) := by rw [eJ36]; exact up_eq
                                          have fJ36 : ∀ k, k ≠ 3 → J36 k = M k := fun k hk => by rw [eJ36]; exact up_ne hk
                                          refine Z.iinc (lv' := [(6, .int (zI (k + 1))), (4, .long qq), (3, .int (zI ev)), (2, .int (zI wv)), (1, .int (zI d)), (0, .ref (h 0))]) hX dX7_work_286 rfl (by decide) rfl ?_
                                          refine Z.goto hX 258 dX7_work_289 (by decide) ?_
                                          refine Z.pick [0, 1, 2, 3, 4, 5] rfl ?_
                                          exact ih_258 _ _ (by omega) (by omega) ((fJ36 2 (by decide)).trans (ho))
                                    refine Z.pick [0, 1, 2, 3, 4, 5] rfl ?_
                                    exact key_258 _ _ _ (Nat.lt_succ_self _) (by omega) ((fJ34 2 (by decide)).trans (ho))
                            refine Z.pick [0, 1, 2, 3] rfl ?_
                            exact key_218 _ _ _ (Nat.lt_succ_self _) (by omega) ho
                          · intro c31
                            refine Z.aload_n hX dX7_work_162 rfl rfl ?_
                            refine Z.getf hX 7 0 10 dX7_work_163 rfl rfl inX7 (by decide) fl_X7_33 rfl rfl ?_
                            refine Z.iload_n hX dX7_work_166 rfl rfl ?_
                            refine Z.aload_n hX dX7_work_167 rfl rfl ?_
                            refine Z.getf hX 7 0 0 dX7_work_168 rfl rfl inX7 (by decide) fl_X7_7 rfl rfl ?_
                            refine Z.iconst hX dX7_work_171 ?_
                            refine Z.iload_n hX dX7_work_172 rfl rfl ?_
                            refine Z.imul hX dX7_work_173 ?_
                            refine Z.iload_n hX dX7_work_174 rfl rfl ?_
                            refine Z.iadd hX dX7_work_175 ?_
                            refine Z.iaload hX 1 0 dX7_work_176 rfl rfl (by omega) (by omega) (by decide) ?_
                            refine Z.topi (fun z37 hz37 kz37 ez37 => ?_)
                            refine Z.i2l hX dX7_work_177 ⟨by omega, by omega⟩ ?_
                            refine Z.lastore hX 8 1 dX7_work_178 rfl rfl (by omega) (by omega) (by decide) ?_
                            obtain ⟨J38, eJ38⟩ : ∃ J' : Nat → Nat → Int64, J' = va_up M 3 (vp_updL (M 3) (k : Int).toNat (zL z37)) := ⟨_, rfl⟩
                            refine Z.toW (w' := rW ce h G I J38) (by rw [eJ38]; rfl) ?_
                            have gJ38 : J38 3 = vp_updL (M 3) (k : Int).toNat (zL z37) := by rw [eJ38]; exact up_eq
                            have fJ38 : ∀ k, k ≠ 3 → J38 k = M k := fun k hk => by rw [eJ38]; exact up_ne hk
                            refine Z.aload_n hX dX7_work_179 rfl rfl ?_
                            refine Z.getf hX 7 0 1 dX7_work_180 rfl rfl inX7 (by decide) fl_X7_13 rfl rfl ?_
                            refine Z.iconst hX dX7_work_183 ?_
                            refine Z.iload_n hX dX7_work_184 rfl rfl ?_
                            refine Z.imul hX dX7_work_185 ?_
                            refine Z.iload_n hX dX7_work_186 rfl rfl ?_
                            refine Z.iadd hX dX7_work_187 ?_
                            refine Z.iload_n hX dX7_work_188 rfl rfl ?_
                            refine Z.if_le hX 196 dX7_work_189 (by decide) ⟨by omega, by omega⟩ ?_ ?_
                            · intro c39
                              refine Z.aload_n hX dX7_work_196 rfl rfl ?_
                              refine Z.getf hX 7 0 0 dX7_work_197 rfl rfl inX7 (by decide) fl_X7_7 rfl rfl ?_
                              refine Z.iconst hX dX7_work_200 ?_
                              refine Z.iload_n hX dX7_work_201 rfl rfl ?_
                              refine Z.imul hX dX7_work_202 ?_
                              refine Z.iload_n hX dX7_work_203 rfl rfl ?_
                              refine Z.iadd hX dX7_work_204 ?_
                              refine Z.iaload hX 1 0 dX7_work_205 rfl rfl (by omega) (by omega) (by decide) ?_
                              refine Z.topi (fun z40 hz40 kz40 ez40 => ?_)
                              refine Z.i2l hX dX7_work_206 ⟨by omega, by omega⟩ ?_
                              refine Z.lastore hX 2 1 dX7_work_207 rfl rfl (by omega) (by omega) (by decide) ?_
                              obtain ⟨J41, eJ41⟩ : ∃ J' : Nat → Nat → Int64, J' = va_up J38 0 (vp_updL (J38 0) ((5 * wv) + k : Int).toNat (zL z40)) := ⟨_, rfl⟩
                              refine Z.toW (w' := rW ce h G I J41) (by rw [eJ41]; rfl) ?_
                              have gJ41 : J41 0 = vp_updL (J38 0) ((5 * wv) + k : Int).toNat (zL z40) := by rw [eJ41]; exact up_eq
                              have fJ41 : ∀ k, k ≠ 0 → J41 k = J38 k := fun k hk => by rw [eJ41]; exact up_ne hk
                              refine Z.iinc (lv' := [(3, .int (zI (k + 1))), (2, .int (zI wv)), (1, .int (zI d)), (0, .ref (h 0))]) hX dX7_work_208 rfl (by decide) rfl ?_
                              refine Z.goto hX 157 dX7_work_211 (by decide) ?_
                              refine Z.pick [0, 1, 2, 3] rfl ?_
                              exact ih_157 _ _ (by omega) (by omega) ((fJ41 2 (by decide)).trans ((fJ38 2 (by decide)).trans (ho)))
                            · intro c39
                              refine Z.lconst (v := 0) hX dX7_work_192 rfl ?_
                              refine Z.goto hX 207 dX7_work_193 (by decide) ?_
                              refine Z.lastore hX 2 1 dX7_work_207 rfl rfl (by omega) (by omega) (by decide) ?_
                              obtain ⟨J42, eJ42⟩ : ∃ J' : Nat → Nat → Int64, J' = va_up J38 0 (vp_updL (J38 0) ((5 * wv) + k : Int).toNat (0)) := ⟨_, rfl⟩
                              refine Z.toW (w' := rW ce h G I J42) (by rw [eJ42]; rfl) ?_
                              have gJ42 : J42 0 = vp_updL (J38 0) ((5 * wv) + k : Int).toNat (0) := by rw [eJ42]; exact up_eq
                              have fJ42 : ∀ k, k ≠ 0 → J42 k = J38 k := fun k hk => by rw [eJ42]; exact up_ne hk
                              refine Z.iinc (lv' := [(3, .int (zI (k + 1))), (2, .int (zI wv)), (1, .int (zI d)), (0, .ref (h 0))]) hX dX7_work_208 rfl (by decide) rfl ?_
                              refine Z.goto hX 157 dX7_work_211 (by decide) ?_
                              refine Z.pick [0, 1, 2, 3] rfl ?_
                              exact ih_157 _ _ (by omega) (by omega) ((fJ42 2 (by decide)).trans ((fJ38 2 (by decide)).trans (ho)))
                      refine Z.pick [0, 1, 2, 3] rfl ?_
                      exact key_157 _ _ _ (Nat.lt_succ_self _) (by omega) ho
                refine Z.pick [0, 1, 2] rfl ?_
                exact key_150 _ _ _ (Nat.lt_succ_self _) (by omega) rfl
              · intro c8
                refine Z.aload_n hX dX7_work_114 rfl rfl ?_
                refine Z.getf hX 7 0 10 dX7_work_115 rfl rfl inX7 (by decide) fl_X7_33 rfl rfl ?_
                refine Z.iload_n hX dX7_work_118 rfl rfl ?_
                refine Z.aload_n hX dX7_work_119 rfl rfl ?_
                refine Z.getf hX 7 0 0 dX7_work_120 rfl rfl inX7 (by decide) fl_X7_7 rfl rfl ?_
                refine Z.bipush hX dX7_work_123 (by decide) ?_
                refine Z.iload_n hX dX7_work_125 rfl rfl ?_
                refine Z.iadd hX dX7_work_126 ?_
                refine Z.iaload hX 1 0 dX7_work_127 rfl rfl (by omega) (by omega) (by decide) ?_
                refine Z.topi (fun z43 hz43 kz43 ez43 => ?_)
                refine Z.i2l hX dX7_work_128 ⟨by omega, by omega⟩ ?_
                refine Z.lastore hX 8 1 dX7_work_129 rfl rfl (by omega) (by omega) (by decide) ?_
                obtain ⟨J44, eJ44⟩ : ∃ J' : Nat → Nat → Int64, J' = va_up M 3 (vp_updL (M 3) (k : Int).toNat (zL z43)) := ⟨_, rfl⟩
                refine Z.toW (w' := rW ce h G I J44) (by rw [eJ44]; rfl) ?_
                have gJ44 : J44 3 = vp_updL (M 3) (k : Int).toNat (zL z43) := by rw [eJ44]; exact up_eq
                have fJ44 : ∀ k, k ≠ 3 → J44 k = M k := fun k hk => by rw [eJ44]; exact up_ne hk
                refine Z.iinc (lv' := [(1, .int (zI (k + 1))), (0, .ref (h 0))]) hX dX7_work_130 rfl (by decide) rfl ?_
                refine Z.goto hX 109 dX7_work_133 (by decide) ?_
                refine Z.pick [0, 1] rfl ?_
                exact ih_109 _ _ (by omega) (by omega)
          refine Z.pick [0, 1] rfl ?_
          exact key_109 _ _ _ (Nat.lt_succ_self _) (by omega)
        · intro c4
          have key_66 : ∀ (v : Int), (hv : v = moK (I 0) (k + 1).toNat) → Z p l e { frames := 5, cells := 0, slots := 0, locals := 148 } s m args below meth c D A 7 0 0 Q 66 [(1, .int (zI k)), (0, .ref (h 0))] [.int (zI v), .ref (h 0)] (rW ce h G I M) := by
            intro v hv
            refine Z.putf (ty := .int) hX 7 0 2 tyX7 dX7_work_66 rfl rfl inX7 tyX7_ok nmX7 (by decide) fl_X7_70 rfl rfl (by decide +kernel) rfl rfl (Nat.le_of_ble_eq_true rfl) ?_
            obtain ⟨F45, eF45⟩ : ∃ F' : Nat → Int, F' = va_up G 0 (v) := ⟨_, rfl⟩
            refine Z.toW (w' := rW ce h F45 I M) (by rw [eF45]; rfl) ?_
            have eF45_0 : F45 0 = v := by rw [eF45]; rfl
            have eF45_1 : F45 1 = G 1 := by rw [eF45]; rfl
            have eF45_2 : F45 2 = G 2 := by rw [eF45]; rfl
            refine Z.aload_n hX dX7_work_69 rfl rfl ?_
            refine Z.getf hX 7 0 9 dX7_work_70 rfl rfl inX7 (by decide) fl_X7_30 rfl rfl ?_
            refine Z.iload_n hX dX7_work_73 rfl rfl ?_
            refine Z.aload_n hX dX7_work_74 rfl rfl ?_
            refine Z.getf hX 7 0 0 dX7_work_75 rfl rfl inX7 (by decide) fl_X7_7 rfl rfl ?_
            refine Z.iload_n hX dX7_work_78 rfl rfl ?_
            refine Z.iaload hX 1 0 dX7_work_79 rfl rfl (by omega) (by omega) (by decide) ?_
            refine Z.topi (fun z46 hz46 kz46 ez46 => ?_)
            refine Z.i2l hX dX7_work_80 ⟨by omega, by omega⟩ ?_
            refine Z.lastore hX 7 1 dX7_work_81 rfl rfl (by omega) (by omega) (by decide) ?_
            obtain ⟨J47, eJ47⟩ : ∃ J' : Nat → Nat → Int64, J' = va_up M 2 (vp_updL (M 2) (k : Int).toNat (zL z46)) := ⟨_, rfl⟩
            refine Z.toW (w' := rW ce h F45 I J47) (by rw [eJ47]; rfl) ?_
            have gJ47 : J47 2 = vp_updL (M 2) (k : Int).toNat (zL z46) := by rw [eJ47]; exact up_eq
            have fJ47 : ∀ k, k ≠ 2 → J47 k = M k := fun k hk => by rw [eJ47]; exact up_ne hk
            refine Z.aload_n hX dX7_work_82 rfl rfl ?_
            refine Z.getf hX 7 0 10 dX7_work_83 rfl rfl inX7 (by decide) fl_X7_33 rfl rfl ?_
            refine Z.iload_n hX dX7_work_86 rfl rfl ?_
            refine Z.aload_n hX dX7_work_87 rfl rfl ?_
            refine Z.getf hX 7 0 0 dX7_work_88 rfl rfl inX7 (by decide) fl_X7_7 rfl rfl ?_
            refine Z.iconst hX dX7_work_91 ?_
            refine Z.iload_n hX dX7_work_92 rfl rfl ?_
            refine Z.iadd hX dX7_work_93 ?_
            refine Z.iaload hX 1 0 dX7_work_94 rfl rfl (by omega) (by omega) (by decide) ?_
            refine Z.topi (fun z48 hz48 kz48 ez48 => ?_)
            refine Z.i2l hX dX7_work_95 ⟨by omega, by omega⟩ ?_
            refine Z.lastore hX 8 1 dX7_work_96 rfl rfl (by omega) (by omega) (by decide) ?_
            obtain ⟨J49, eJ49⟩ : ∃ J' : Nat → Nat → Int64, J' = va_up J47 3 (vp_updL (J47 3) (k : Int).toNat (zL z48)) := ⟨_, rfl⟩
            refine Z.toW (w' := rW ce h F45 I J49) (by rw [eJ49]; rfl) ?_
            have gJ49 : J49 3 = vp_updL (J47 3) (k : Int).toNat (zL z48) := by rw [eJ49]; exact up_eq
            have fJ49 : ∀ k, k ≠ 3 → J49 k = J47 k := fun k hk => by rw [eJ49]; exact up_ne hk
            refine Z.iinc (lv' := [(1, .int (zI (k + 1))), (0, .ref (h 0))]) hX dX7_work_97 rfl (by decide) rfl ?_
            refine Z.goto hX 20 dX7_work_100 (by decide) ?_
            refine Z.pick [0, 1] rfl ?_
            exact ih_20 _ _ _ (by omega) (by omega) (by omega) (by rw [eF45_0]; exact hv)
          refine Z.aload_n hX dX7_work_25 rfl rfl ?_
          refine Z.aload_n hX dX7_work_26 rfl rfl ?_
          refine Z.getf hX 7 0 0 dX7_work_27 rfl rfl inX7 (by decide) fl_X7_7 rfl rfl ?_
          refine Z.iload_n hX dX7_work_30 rfl rfl ?_
          refine Z.iaload hX 1 0 dX7_work_31 rfl rfl (by omega) (by omega) (by decide) ?_
          refine Z.topi (fun z50 hz50 kz50 ez50 => ?_)
          refine Z.if_ne hX 58 dX7_work_32 (by decide) ⟨by omega, by omega⟩ ?_ ?_
          · intro c51
            refine Z.iload_n hX dX7_work_58 rfl rfl ?_
            refine Z.goto hX 66 dX7_work_59 (by decide) ?_
            refine Z.pick [0, 1] rfl ?_
            exact key_66 _ (by first | exact mo_1 hk.1 (by assumption) ⟨by assumption, by assumption⟩ (by assumption) | exact mo_2 hk.1 (by assumption) ⟨by assumption, by assumption⟩ (by assumption) | exact mo_3 hk.1 (by assumption) ⟨by assumption, by assumption⟩ (by assumption))
          · intro c51
            refine Z.aload_n hX dX7_work_35 rfl rfl ?_
            refine Z.getf hX 7 0 0 dX7_work_36 rfl rfl inX7 (by decide) fl_X7_7 rfl rfl ?_
            refine Z.iconst hX dX7_work_39 ?_
            refine Z.iload_n hX dX7_work_40 rfl rfl ?_
            refine Z.iadd hX dX7_work_41 ?_
            refine Z.iaload hX 1 0 dX7_work_42 rfl rfl (by omega) (by omega) (by decide) ?_
            refine Z.topi (fun z52 hz52 kz52 ez52 => ?_)
            refine Z.if_ne hX 58 dX7_work_43 (by decide) ⟨by omega, by omega⟩ ?_ ?_
            · intro c53
              refine Z.iload_n hX dX7_work_58 rfl rfl ?_
              refine Z.goto hX 66 dX7_work_59 (by decide) ?_
              refine Z.pick [0, 1] rfl ?_
              exact key_66 _ (by first | exact mo_1 hk.1 (by assumption) ⟨by assumption, by assumption⟩ (by assumption) | exact mo_2 hk.1 (by assumption) ⟨by assumption, by assumption⟩ (by assumption) | exact mo_3 hk.1 (by assumption) ⟨by assumption, by assumption⟩ (by assumption))
            · intro c53
              refine Z.aload_n hX dX7_work_46 rfl rfl ?_
              refine Z.getf hX 7 0 0 dX7_work_47 rfl rfl inX7 (by decide) fl_X7_7 rfl rfl ?_
              refine Z.bipush hX dX7_work_50 (by decide) ?_
              refine Z.iload_n hX dX7_work_52 rfl rfl ?_
              refine Z.iadd hX dX7_work_53 ?_
              refine Z.iaload hX 1 0 dX7_work_54 rfl rfl (by omega) (by omega) (by decide) ?_
              refine Z.topi (fun z54 hz54 kz54 ez54 => ?_)
              refine Z.if_eq hX 62 dX7_work_55 (by decide) ⟨by omega, by omega⟩ ?_ ?_
              · intro c55
                refine Z.aload_n hX dX7_work_62 rfl rfl ?_
                refine Z.getf hX 7 0 2 dX7_work_63 rfl rfl inX7 (by decide) fl_X7_70 rfl rfl ?_
                refine Z.pick [0, 1] rfl ?_
                exact key_66 _ (mo_0 hk.1 (by assumption) (by assumption) (by assumption) (by assumption) (by assumption) (by assumption) hG0)
              · intro c55
                refine Z.iload_n hX dX7_work_58 rfl rfl ?_
                refine Z.goto hX 66 dX7_work_59 (by decide) ?_
                refine Z.pick [0, 1] rfl ?_
                exact key_66 _ (by first | exact mo_1 hk.1 (by assumption) ⟨by assumption, by assumption⟩ (by assumption) | exact mo_2 hk.1 (by assumption) ⟨by assumption, by assumption⟩ (by assumption) | exact mo_3 hk.1 (by assumption) ⟨by assumption, by assumption⟩ (by assumption))
    refine Z.pick [0, 1] rfl ?_
    exact key_20 _ _ _ _ (Nat.lt_succ_self _) (by omega) (by omega) (by rw [eF3_0]; rfl)
  · intro c1
    exact hR _ _ _ dX7_work_7 ⟨F, I, J, rfl, hok, (by omega), (hkn (by omega)), rfl, hdg⟩
end
section
theorem dX7_degree_0 : decode cX7_degree 0 = .ok (.iload_n 1, 1) := by decide +kernel
theorem dX7_degree_1 : decode cX7_degree 1 = .ok (.ifCond .lt 8, 3) := by decide +kernel
theorem dX7_degree_4 : decode cX7_degree 4 = .ok (.iload_n 1, 1) := by decide +kernel
theorem dX7_degree_5 : decode cX7_degree 5 = .ok (.iconst 2, 1) := by decide +kernel
theorem dX7_degree_6 : decode cX7_degree 6 = .ok (.if_icmp .le 5, 3) := by decide +kernel
theorem dX7_degree_9 : decode cX7_degree 9 = .ok (.iconst (-1), 1) := by decide +kernel
theorem dX7_degree_10 : decode cX7_degree 10 = .ok (.ireturn, 1) := by decide +kernel
theorem dX7_degree_11 : decode cX7_degree 11 = .ok (.aload_n 0, 1) := by decide +kernel
theorem dX7_degree_12 : decode cX7_degree 12 = .ok (.invokevirtual 130, 3) := by decide +kernel
theorem dX7_degree_15 : decode cX7_degree 15 = .ok (.iload_n 1, 1) := by decide +kernel
theorem dX7_degree_16 : decode cX7_degree 16 = .ok (.ifCond .ne 10, 3) := by decide +kernel
theorem dX7_degree_19 : decode cX7_degree 19 = .ok (.aload_n 0, 1) := by decide +kernel
theorem dX7_degree_20 : decode cX7_degree 20 = .ok (.getfield 70, 3) := by decide +kernel
theorem dX7_degree_23 : decode cX7_degree 23 = .ok (.goto 24, 3) := by decide +kernel
theorem dX7_degree_26 : decode cX7_degree 26 = .ok (.iload_n 1, 1) := by decide +kernel
theorem dX7_degree_27 : decode cX7_degree 27 = .ok (.iconst 1, 1) := by decide +kernel
theorem dX7_degree_28 : decode cX7_degree 28 = .ok (.if_icmp .ne 10, 3) := by decide +kernel
theorem dX7_degree_31 : decode cX7_degree 31 = .ok (.aload_n 0, 1) := by decide +kernel
theorem dX7_degree_32 : decode cX7_degree 32 = .ok (.getfield 77, 3) := by decide +kernel
theorem dX7_degree_35 : decode cX7_degree 35 = .ok (.goto 12, 3) := by decide +kernel
theorem dX7_degree_38 : decode cX7_degree 38 = .ok (.aload_n 0, 1) := by decide +kernel
theorem dX7_degree_39 : decode cX7_degree 39 = .ok (.getfield 70, 3) := by decide +kernel
theorem dX7_degree_42 : decode cX7_degree 42 = .ok (.aload_n 0, 1) := by decide +kernel
theorem dX7_degree_43 : decode cX7_degree 43 = .ok (.getfield 77, 3) := by decide +kernel
theorem dX7_degree_46 : decode cX7_degree 46 = .ok (.isub, 1) := by decide +kernel
theorem dX7_degree_47 : decode cX7_degree 47 = .ok (.ireturn, 1) := by decide +kernel
set_option maxHeartbeats 4000000 in
set_option maxRecDepth 100000 in
theorem ct_X7_degree (l : Launch) (D : va_G) (ce : Nat → ClassId) (h : Nat → Nat) (F : Nat → Int) (I : Nat → Nat → Int32) (J : Nat → Nat → Int64) (what : Int) (hok : rOK F I) (hw : -2147483648 ≤ what ∧ what < 2147483648) : Ct l yX7_degree cX7_degree 2 (some .int) { frames := 6, cells := 0, slots := 0, locals := 174 } 0 0 D (TY ce) [.ref (h 0), .int (zI what)] (rW ce h F I J) (QI D (TY ce) (fun r w1 => ∃ z : Int, ∃ F2 : Nat → Int, ∃ I2 : Nat → Nat → Int32, ∃ J2 : Nat → Nat → Int64, r = zI z ∧ w1 = rW ce h F2 I2 J2 ∧ (rOK F2 I2) ∧ (I2 0 = I 0) ∧ (¬ (0 ≤ what ∧ what ≤ 2) → z = -1) ∧ (what = 0 → z = moK (I 0) 5))) := by
  refine Ct.ofI (by decide) (Nat.le_of_ble_eq_true rfl) ?_
  intro p e s m args below meth c A Q hX hnm hR
  refine Z.pick (lv' := [(0, .ref (h 0)), (1, .int (zI what))]) [0, 1] rfl ?_
  refine Z.iload_n hX dX7_degree_0 rfl rfl ?_
  refine Z.if_lt hX 9 dX7_degree_1 (by decide) ⟨by omega, by omega⟩ ?_ ?_
  · intro c1
    refine Z.iconst hX dX7_degree_9 ?_
    exact hR _ _ _ _ dX7_degree_10 ⟨(-1), F, I, J, rfl, rfl, hok, rfl, (fun _ => rfl), (fun q => by omega)⟩
  · intro c1
    refine Z.iload_n hX dX7_degree_4 rfl rfl ?_
    refine Z.iconst hX dX7_degree_5 ?_
    refine Z.icmp_le hX 11 dX7_degree_6 (by decide) ⟨by omega, by omega⟩ ⟨by omega, by omega⟩ ?_ ?_
    · intro c2
      refine Z.aload_n hX dX7_degree_11 rfl rfl ?_
      refine Z.callVfv (As := []) (rest := []) hX 7 0 rfl rfl (ct_X7_work l D ce h F I J hok) mc_X7_work ml_X7_130 im_X7_work se_X7_work ini_X7 nd_X7_work ⟨Nat.le_of_ble_eq_true rfl, Nat.le_of_ble_eq_true rfl⟩ ⟨rfl, rfl⟩ ⟨Nat.le_refl _, Nat.le_refl _⟩ rfl (Nat.le_of_ble_eq_true rfl) dX7_degree_12 ?_
      rintro w1 ⟨Fw, Iw, Jw, hw_, hokw, hfw, hmow, hIw, hdgw⟩
      subst hw_
      refine Z.iload_n hX dX7_degree_15 rfl rfl ?_
      refine Z.if_ne hX 26 dX7_degree_16 (by decide) ⟨by omega, by omega⟩ ?_ ?_
      · intro c4
        refine Z.iload_n hX dX7_degree_26 rfl rfl ?_
        refine Z.iconst hX dX7_degree_27 ?_
        refine Z.icmp_ne hX 38 dX7_degree_28 (by decide) ⟨by omega, by omega⟩ ⟨by omega, by omega⟩ ?_ ?_
        · intro c5
          refine Z.aload_n hX dX7_degree_38 rfl rfl ?_
          refine Z.getf hX 7 0 2 dX7_degree_39 rfl rfl inX7 (by decide) fl_X7_70 rfl rfl ?_
          refine Z.aload_n hX dX7_degree_42 rfl rfl ?_
          refine Z.getf hX 7 0 3 dX7_degree_43 rfl rfl inX7 (by decide) fl_X7_77 rfl rfl ?_
          refine Z.isub hX dX7_degree_46 ?_
          exact hR _ _ _ _ dX7_degree_47 ⟨((Fw 0) - (Fw 1)), Fw, Iw, Jw, rfl, rfl, hokw, hIw, (fun q => by omega), (fun q => by first | omega | exact hmow)⟩
        · intro c5
          refine Z.aload_n hX dX7_degree_31 rfl rfl ?_
          refine Z.getf hX 7 0 3 dX7_degree_32 rfl rfl inX7 (by decide) fl_X7_77 rfl rfl ?_
          refine Z.goto hX 47 dX7_degree_35 (by decide) ?_
          exact hR _ _ _ _ dX7_degree_47 ⟨(Fw 1), Fw, Iw, Jw, rfl, rfl, hokw, hIw, (fun q => by omega), (fun q => by first | omega | exact hmow)⟩
      · intro c4
        refine Z.aload_n hX dX7_degree_19 rfl rfl ?_
        refine Z.getf hX 7 0 2 dX7_degree_20 rfl rfl inX7 (by decide) fl_X7_70 rfl rfl ?_
        refine Z.goto hX 47 dX7_degree_23 (by decide) ?_
        exact hR _ _ _ _ dX7_degree_47 ⟨(Fw 0), Fw, Iw, Jw, rfl, rfl, hokw, hIw, (fun q => by omega), (fun q => by first | omega | exact hmow)⟩
    · intro c2
      refine Z.iconst hX dX7_degree_9 ?_
      exact hR _ _ _ _ dX7_degree_10 ⟨(-1), F, I, J, rfl, rfl, hok, rfl, (fun _ => rfl), (fun q => by omega)⟩

theorem dX7_freed_0 : decode cX7_freed 0 = .ok (.iload_n 1, 1) := by decide +kernel
theorem dX7_freed_1 : decode cX7_freed 1 = .ok (.ifCond .lt 17, 3) := by decide +kernel
theorem dX7_freed_4 : decode cX7_freed 4 = .ok (.iload_n 1, 1) := by decide +kernel
theorem dX7_freed_5 : decode cX7_freed 5 = .ok (.iconst 2, 1) := by decide +kernel
theorem dX7_freed_6 : decode cX7_freed 6 = .ok (.if_icmp .gt 12, 3) := by decide +kernel
theorem dX7_freed_9 : decode cX7_freed 9 = .ok (.iload_n 2, 1) := by decide +kernel
theorem dX7_freed_10 : decode cX7_freed 10 = .ok (.ifCond .lt 8, 3) := by decide +kernel
theorem dX7_freed_13 : decode cX7_freed 13 = .ok (.iload_n 2, 1) := by decide +kernel
theorem dX7_freed_14 : decode cX7_freed 14 = .ok (.iconst 4, 1) := by decide +kernel
theorem dX7_freed_15 : decode cX7_freed 15 = .ok (.if_icmp .le 6, 3) := by decide +kernel
theorem dX7_freed_18 : decode cX7_freed 18 = .ok (.ldc 133, 2) := by decide +kernel
theorem dX7_freed_20 : decode cX7_freed 20 = .ok (.ireturn, 1) := by decide +kernel
theorem dX7_freed_21 : decode cX7_freed 21 = .ok (.aload_n 0, 1) := by decide +kernel
theorem dX7_freed_22 : decode cX7_freed 22 = .ok (.invokevirtual 130, 3) := by decide +kernel
theorem dX7_freed_25 : decode cX7_freed 25 = .ok (.aload_n 0, 1) := by decide +kernel
theorem dX7_freed_26 : decode cX7_freed 26 = .ok (.getfield 13, 3) := by decide +kernel
theorem dX7_freed_29 : decode cX7_freed 29 = .ok (.iconst 5, 1) := by decide +kernel
theorem dX7_freed_30 : decode cX7_freed 30 = .ok (.iload_n 1, 1) := by decide +kernel
theorem dX7_freed_31 : decode cX7_freed 31 = .ok (.imul, 1) := by decide +kernel
theorem dX7_freed_32 : decode cX7_freed 32 = .ok (.iload_n 2, 1) := by decide +kernel
theorem dX7_freed_33 : decode cX7_freed 33 = .ok (.iadd, 1) := by decide +kernel
theorem dX7_freed_34 : decode cX7_freed 34 = .ok (.laload, 1) := by decide +kernel
theorem dX7_freed_35 : decode cX7_freed 35 = .ok (.l2i, 1) := by decide +kernel
theorem dX7_freed_36 : decode cX7_freed 36 = .ok (.ireturn, 1) := by decide +kernel
set_option maxHeartbeats 4000000 in
set_option maxRecDepth 100000 in
theorem ct_X7_freed (l : Launch) (D : va_G) (ce : Nat → ClassId) (h : Nat → Nat) (F : Nat → Int) (I : Nat → Nat → Int32) (J : Nat → Nat → Int64) (wh i : Int) (hok : rOK F I) (hw : -2147483648 ≤ wh ∧ wh < 2147483648) (hi : -2147483648 ≤ i ∧ i < 2147483648) : Ct l yX7_freed cX7_freed 3 (some .int) { frames := 6, cells := 0, slots := 0, locals := 174 } 0 0 D (TY ce) [.ref (h 0), .int (zI wh), .int (zI i)] (rW ce h F I J) (QI D (TY ce) (fun r w1 => ∃ z : Int, ∃ F2 : Nat → Int, ∃ I2 : Nat → Nat → Int32, ∃ J2 : Nat → Nat → Int64, r = zI z ∧ w1 = rW ce h F2 I2 J2 ∧ (rOK F2 I2) ∧ (I2 0 = I 0) ∧ (¬ (0 ≤ wh ∧ wh ≤ 2 ∧ 0 ≤ i ∧ i ≤ 4) → z = -1000000))) := by
  refine Ct.ofI (by decide) (Nat.le_of_ble_eq_true rfl) ?_
  intro p e s m args below meth c A Q hX hnm hR
  refine Z.pick (lv' := [(0, .ref (h 0)), (1, .int (zI wh)), (2, .int (zI i))]) [0, 1, 2] rfl ?_
  refine Z.iload_n hX dX7_freed_0 rfl rfl ?_
  refine Z.if_lt hX 18 dX7_freed_1 (by decide) ⟨by omega, by omega⟩ ?_ ?_
  · intro c1
    refine Z.ldc hX (-1000000) dX7_freed_18 co_X7_133 rfl ?_
    exact hR _ _ _ _ dX7_freed_20 ⟨((-1000000)), F, I, J, rfl, rfl, hok, rfl, (fun _ => rfl)⟩
  · intro c1
    refine Z.iload_n hX dX7_freed_4 rfl rfl ?_
    refine Z.iconst hX dX7_freed_5 ?_
    refine Z.icmp_gt hX 18 dX7_freed_6 (by decide) ⟨by omega, by omega⟩ ⟨by omega, by omega⟩ ?_ ?_
    · intro c2
      refine Z.ldc hX (-1000000) dX7_freed_18 co_X7_133 rfl ?_
      exact hR _ _ _ _ dX7_freed_20 ⟨((-1000000)), F, I, J, rfl, rfl, hok, rfl, (fun _ => rfl)⟩
    · intro c2
      refine Z.iload_n hX dX7_freed_9 rfl rfl ?_
      refine Z.if_lt hX 18 dX7_freed_10 (by decide) ⟨by omega, by omega⟩ ?_ ?_
      · intro c3
        refine Z.ldc hX (-1000000) dX7_freed_18 co_X7_133 rfl ?_
        exact hR _ _ _ _ dX7_freed_20 ⟨((-1000000)), F, I, J, rfl, rfl, hok, rfl, (fun _ => rfl)⟩
      · intro c3
        refine Z.iload_n hX dX7_freed_13 rfl rfl ?_
        refine Z.iconst hX dX7_freed_14 ?_
        refine Z.icmp_le hX 21 dX7_freed_15 (by decide) ⟨by omega, by omega⟩ ⟨by omega, by omega⟩ ?_ ?_
        · intro c4
          refine Z.aload_n hX dX7_freed_21 rfl rfl ?_
          refine Z.callVfv (As := []) (rest := []) hX 7 0 rfl rfl (ct_X7_work l D ce h F I J hok) mc_X7_work ml_X7_130 im_X7_work se_X7_work ini_X7 nd_X7_work ⟨Nat.le_of_ble_eq_true rfl, Nat.le_of_ble_eq_true rfl⟩ ⟨rfl, rfl⟩ ⟨Nat.le_refl _, Nat.le_refl _⟩ rfl (Nat.le_of_ble_eq_true rfl) dX7_freed_22 ?_
          rintro w1 ⟨Fw, Iw, Jw, hw_, hokw, hfw, hmow, hIw, hdgw⟩
          subst hw_
          refine Z.aload_n hX dX7_freed_25 rfl rfl ?_
          refine Z.getf hX 7 0 1 dX7_freed_26 rfl rfl inX7 (by decide) fl_X7_13 rfl rfl ?_
          refine Z.iconst hX dX7_freed_29 ?_
          refine Z.iload_n hX dX7_freed_30 rfl rfl ?_
          refine Z.imul hX dX7_freed_31 ?_
          refine Z.iload_n hX dX7_freed_32 rfl rfl ?_
          refine Z.iadd hX dX7_freed_33 ?_
          refine Z.laload hX 2 1 dX7_freed_34 rfl rfl (by omega) (by omega) (by decide) ?_
          refine Z.l2i hX dX7_freed_35 ?_
          refine Z.topi (fun z6 hz6 kz6 ez6 => ?_)
          exact hR _ _ _ _ dX7_freed_36 ⟨z6, Fw, Iw, Jw, rfl, rfl, hokw, hIw, (fun q => by omega)⟩
        · intro c4
          refine Z.ldc hX (-1000000) dX7_freed_18 co_X7_133 rfl ?_
          exact hR _ _ _ _ dX7_freed_20 ⟨((-1000000)), F, I, J, rfl, rfl, hok, rfl, (fun _ => rfl)⟩

theorem dX7_valueOf_0 : decode cX7_valueOf 0 = .ok (.aload_n 0, 1) := by decide +kernel
theorem dX7_valueOf_1 : decode cX7_valueOf 1 = .ok (.invokevirtual 130, 3) := by decide +kernel
theorem dX7_valueOf_4 : decode cX7_valueOf 4 = .ok (.lconst 0, 1) := by decide +kernel
theorem dX7_valueOf_5 : decode cX7_valueOf 5 = .ok (.lstore 4, 2) := by decide +kernel
theorem dX7_valueOf_7 : decode cX7_valueOf 7 = .ok (.iconst 0, 1) := by decide +kernel
theorem dX7_valueOf_8 : decode cX7_valueOf 8 = .ok (.istore 6, 2) := by decide +kernel
theorem dX7_valueOf_10 : decode cX7_valueOf 10 = .ok (.iload 6, 2) := by decide +kernel
theorem dX7_valueOf_12 : decode cX7_valueOf 12 = .ok (.aload_n 0, 1) := by decide +kernel
theorem dX7_valueOf_13 : decode cX7_valueOf 13 = .ok (.getfield 70, 3) := by decide +kernel
theorem dX7_valueOf_16 : decode cX7_valueOf 16 = .ok (.if_icmp .gt 47, 3) := by decide +kernel
theorem dX7_valueOf_19 : decode cX7_valueOf 19 = .ok (.lload 4, 2) := by decide +kernel
theorem dX7_valueOf_21 : decode cX7_valueOf 21 = .ok (.aload_n 0, 1) := by decide +kernel
theorem dX7_valueOf_22 : decode cX7_valueOf 22 = .ok (.getfield 7, 3) := by decide +kernel
theorem dX7_valueOf_25 : decode cX7_valueOf 25 = .ok (.iconst 5, 1) := by decide +kernel
theorem dX7_valueOf_26 : decode cX7_valueOf 26 = .ok (.iload_n 1, 1) := by decide +kernel
theorem dX7_valueOf_27 : decode cX7_valueOf 27 = .ok (.imul, 1) := by decide +kernel
theorem dX7_valueOf_28 : decode cX7_valueOf 28 = .ok (.iload 6, 2) := by decide +kernel
theorem dX7_valueOf_30 : decode cX7_valueOf 30 = .ok (.iadd, 1) := by decide +kernel
theorem dX7_valueOf_31 : decode cX7_valueOf 31 = .ok (.iaload, 1) := by decide +kernel
theorem dX7_valueOf_32 : decode cX7_valueOf 32 = .ok (.i2l, 1) := by decide +kernel
theorem dX7_valueOf_33 : decode cX7_valueOf 33 = .ok (.iload_n 2, 1) := by decide +kernel
theorem dX7_valueOf_34 : decode cX7_valueOf 34 = .ok (.i2l, 1) := by decide +kernel
theorem dX7_valueOf_35 : decode cX7_valueOf 35 = .ok (.iload 6, 2) := by decide +kernel
theorem dX7_valueOf_37 : decode cX7_valueOf 37 = .ok (.invokestatic 134, 3) := by decide +kernel
theorem dX7_valueOf_40 : decode cX7_valueOf 40 = .ok (.lmul, 1) := by decide +kernel
theorem dX7_valueOf_41 : decode cX7_valueOf 41 = .ok (.iload_n 3, 1) := by decide +kernel
theorem dX7_valueOf_42 : decode cX7_valueOf 42 = .ok (.i2l, 1) := by decide +kernel
theorem dX7_valueOf_43 : decode cX7_valueOf 43 = .ok (.aload_n 0, 1) := by decide +kernel
theorem dX7_valueOf_44 : decode cX7_valueOf 44 = .ok (.getfield 70, 3) := by decide +kernel
theorem dX7_valueOf_47 : decode cX7_valueOf 47 = .ok (.iload 6, 2) := by decide +kernel
theorem dX7_valueOf_49 : decode cX7_valueOf 49 = .ok (.isub, 1) := by decide +kernel
theorem dX7_valueOf_50 : decode cX7_valueOf 50 = .ok (.invokestatic 134, 3) := by decide +kernel
theorem dX7_valueOf_53 : decode cX7_valueOf 53 = .ok (.lmul, 1) := by decide +kernel
theorem dX7_valueOf_54 : decode cX7_valueOf 54 = .ok (.ladd, 1) := by decide +kernel
theorem dX7_valueOf_55 : decode cX7_valueOf 55 = .ok (.lstore 4, 2) := by decide +kernel
theorem dX7_valueOf_57 : decode cX7_valueOf 57 = .ok (.iinc 6 1, 3) := by decide +kernel
theorem dX7_valueOf_60 : decode cX7_valueOf 60 = .ok (.goto (-50), 3) := by decide +kernel
theorem dX7_valueOf_63 : decode cX7_valueOf 63 = .ok (.lload 4, 2) := by decide +kernel
theorem dX7_valueOf_65 : decode cX7_valueOf 65 = .ok (.lreturn, 1) := by decide +kernel
set_option maxHeartbeats 4000000 in
set_option maxRecDepth 100000 in
theorem ct_X7_valueOf (l : Launch) (D : va_G) (ce : Nat → ClassId) (h : Nat → Nat) (F : Nat → Int) (I : Nat → Nat → Int32) (J : Nat → Nat → Int64) (wh u v : Int) (hok : rOK F I) (hw : 0 ≤ wh ∧ wh ≤ 2) (hu : -2147483648 ≤ u ∧ u < 2147483648) (hv : -2147483648 ≤ v ∧ v < 2147483648) : Ct l yX7_valueOf cX7_valueOf 7 (some .long) { frames := 6, cells := 0, slots := 0, locals := 174 } 0 0 D (TY ce) [.ref (h 0), .int (zI wh), .int (zI u), .int (zI v)] (rW ce h F I J) (QL D (TY ce) (fun r w1 => ∃ r0 : Int64, ∃ F2 : Nat → Int, ∃ I2 : Nat → Nat → Int32, ∃ J2 : Nat → Nat → Int64, r = r0 ∧ w1 = rW ce h F2 I2 J2 ∧ (rOK F2 I2) ∧ (I2 0 = I 0) ∧ (r0 = vOf (I 0) wh u v) ∧ (F2 2 = 1))) := by
  refine Ct.ofL (by decide) (Nat.le_of_ble_eq_true rfl) ?_
  intro p e s m args below meth c A Q hX hnm hR
  refine Z.pick (lv' := [(0, .ref (h 0)), (1, .int (zI wh)), (2, .int (zI u)), (3, .int (zI v))]) [0, 1, 2, 3] rfl ?_
  refine Z.aload_n hX dX7_valueOf_0 rfl rfl ?_
  refine Z.callVfv (As := []) (rest := []) hX 7 0 rfl rfl (ct_X7_work l D ce h F I J hok) mc_X7_work ml_X7_130 im_X7_work se_X7_work ini_X7 nd_X7_work ⟨Nat.le_of_ble_eq_true rfl, Nat.le_of_ble_eq_true rfl⟩ ⟨rfl, rfl⟩ ⟨Nat.le_refl _, Nat.le_refl _⟩ rfl (Nat.le_of_ble_eq_true rfl) dX7_valueOf_1 ?_
  rintro w1 ⟨Fw, Iw, Jw, hw_, hokw, hfw, hmow, hIw, hdgw⟩
  subst hw_
  refine Z.lconst (v := 0) hX dX7_valueOf_4 rfl ?_
  refine Z.lstore (lv' := [(4, .long 0), (0, .ref (h 0)), (1, .int (zI wh)), (2, .int (zI u)), (3, .int (zI v))]) hX dX7_valueOf_5 (by decide) rfl ?_
  refine Z.iconst hX dX7_valueOf_7 ?_
  refine Z.istore (lv' := [(6, .int (zI 0)), (4, .long 0), (0, .ref (h 0)), (1, .int (zI wh)), (2, .int (zI u)), (3, .int (zI v))]) hX dX7_valueOf_8 (by decide) rfl ?_
  have key_10 : ∀ (N : Nat), ∀ (k : Int) (x : Int64), (Fw 0 + 1 - k).toNat < N → (hk : 0 ≤ k ∧ k ≤ Fw 0 + 1) → (hx : x = vsum (I 0) wh (zL u) (zL v) (moK (I 0) 5) k.toNat) → Z p l e { frames := 6, cells := 0, slots := 0, locals := 174 } s m args below meth c D A 7 0 0 Q 10 [(6, .int (zI k)), (4, .long x), (1, .int (zI wh)), (2, .int (zI u)), (3, .int (zI v)), (0, .ref (h 0))] [] (rW ce h Fw Iw Jw) := by
    intro N
    induction N with
    | zero => intro k x hm; exact absurd hm (Nat.not_lt_zero _)
    | succ N ih_10 =>
      intro k x hm hk hx
      refine Z.iload hX dX7_valueOf_10 rfl ?_
      refine Z.aload_n hX dX7_valueOf_12 rfl rfl ?_
      refine Z.getf hX 7 0 2 dX7_valueOf_13 rfl rfl inX7 (by decide) fl_X7_70 rfl rfl ?_
      refine Z.icmp_gt hX 63 dX7_valueOf_16 (by decide) ⟨by omega, by omega⟩ ⟨by omega, by omega⟩ ?_ ?_
      · intro c2
        refine Z.lload hX dX7_valueOf_63 rfl ?_
        exact hR _ _ _ _ dX7_valueOf_65 ⟨x, Fw, Iw, Jw, rfl, rfl, hokw, hIw, (by rw [hx]; unfold vOf; congr 1; omega), hfw.1⟩
      · intro c2
        refine Z.lload hX dX7_valueOf_19 rfl ?_
        refine Z.aload_n hX dX7_valueOf_21 rfl rfl ?_
        refine Z.getf hX 7 0 0 dX7_valueOf_22 rfl rfl inX7 (by decide) fl_X7_7 rfl rfl ?_
        refine Z.iconst hX dX7_valueOf_25 ?_
        refine Z.iload_n hX dX7_valueOf_26 rfl rfl ?_
        refine Z.imul hX dX7_valueOf_27 ?_
        refine Z.iload hX dX7_valueOf_28 rfl ?_
        refine Z.iadd hX dX7_valueOf_30 ?_
        refine Z.iaload hX 1 0 dX7_valueOf_31 rfl rfl (by omega) (by omega) (by decide) ?_
        refine Z.topi (fun z3 hz3 kz3 ez3 => ?_)
        refine Z.i2l hX dX7_valueOf_32 ⟨by omega, by omega⟩ ?_
        refine Z.iload_n hX dX7_valueOf_33 rfl rfl ?_
        refine Z.i2l hX dX7_valueOf_34 ⟨by omega, by omega⟩ ?_
        refine Z.iload hX dX7_valueOf_35 rfl ?_
        refine Z.callS0l (As := [.long (zL u), .int (zI k)]) (rest := [.long (zL z3), .long x]) hX (ct_X7_raised l D ce (zL u) k (by omega)) mc_X7_raised ml_X7_134 st_X7_raised ini_X7 nd_X7_raised ⟨Nat.le_of_ble_eq_true rfl, Nat.le_of_ble_eq_true rfl⟩ ⟨rfl, rfl⟩ ⟨Nat.le_refl _, Nat.le_refl _⟩ rfl (Nat.le_of_ble_eq_true rfl) dX7_valueOf_37 ?_
        rintro ra w1 ⟨r05, hr_, hw_, hra⟩
        subst hr_
        refine ⟨hw_, ?_⟩
        refine Z.lmul hX dX7_valueOf_40 ?_
        refine Z.iload_n hX dX7_valueOf_41 rfl rfl ?_
        refine Z.i2l hX dX7_valueOf_42 ⟨by omega, by omega⟩ ?_
        refine Z.aload_n hX dX7_valueOf_43 rfl rfl ?_
        refine Z.getf hX 7 0 2 dX7_valueOf_44 rfl rfl inX7 (by decide) fl_X7_70 rfl rfl ?_
        refine Z.iload hX dX7_valueOf_47 rfl ?_
        refine Z.isub hX dX7_valueOf_49 ?_
        refine Z.callS0l (As := [.long (zL v), .int (zI ((Fw 0) - k))]) (rest := [.long ((zL z3) * ra), .long x]) hX (ct_X7_raised l D ce (zL v) ((Fw 0) - k) (by omega)) mc_X7_raised ml_X7_134 st_X7_raised ini_X7 nd_X7_raised ⟨Nat.le_of_ble_eq_true rfl, Nat.le_of_ble_eq_true rfl⟩ ⟨rfl, rfl⟩ ⟨Nat.le_refl _, Nat.le_refl _⟩ rfl (Nat.le_of_ble_eq_true rfl) dX7_valueOf_50 ?_
        rintro rb w1 ⟨r07, hr_, hw_, hrb⟩
        subst hr_
        refine ⟨hw_, ?_⟩
        refine Z.lmul hX dX7_valueOf_53 ?_
        refine Z.ladd hX dX7_valueOf_54 ?_
        refine Z.lstore (lv' := [(4, .long (x + (((zL z3) * ra) * rb))), (6, .int (zI k)), (1, .int (zI wh)), (2, .int (zI u)), (3, .int (zI v)), (0, .ref (h 0))]) hX dX7_valueOf_55 (by decide) rfl ?_
        refine Z.iinc (lv' := [(6, .int (zI (k + 1))), (4, .long (x + (((zL z3) * ra) * rb))), (1, .int (zI wh)), (2, .int (zI u)), (3, .int (zI v)), (0, .ref (h 0))]) hX dX7_valueOf_57 rfl (by decide) rfl ?_
        refine Z.goto hX 10 dX7_valueOf_60 (by decide) ?_
        refine Z.pick [0, 1, 2, 3, 4, 5] rfl ?_
        exact ih_10 _ _ (by omega) (by omega) (vsum_s hk.1 hx (by rw [← hIw]; assumption) ⟨by assumption, by assumption⟩ hra (by rw [hrb, hmow]))
  refine Z.pick [0, 1, 3, 4, 5, 2] rfl ?_
  exact key_10 _ _ _ (Nat.lt_succ_self _) (by omega) rfl

theorem dX7_value_0 : decode cX7_value 0 = .ok (.iload_n 1, 1) := by decide +kernel
theorem dX7_value_1 : decode cX7_value 1 = .ok (.iload_n 2, 1) := by decide +kernel
theorem dX7_value_2 : decode cX7_value 2 = .ok (.invokestatic 137, 3) := by decide +kernel
theorem dX7_value_5 : decode cX7_value 5 = .ok (.ifCond .eq 12, 3) := by decide +kernel
theorem dX7_value_8 : decode cX7_value 8 = .ok (.iload_n 3, 1) := by decide +kernel
theorem dX7_value_9 : decode cX7_value 9 = .ok (.ifCond .lt 8, 3) := by decide +kernel
theorem dX7_value_12 : decode cX7_value 12 = .ok (.iload_n 3, 1) := by decide +kernel
theorem dX7_value_13 : decode cX7_value 13 = .ok (.iconst 2, 1) := by decide +kernel
theorem dX7_value_14 : decode cX7_value 14 = .ok (.if_icmp .le 6, 3) := by decide +kernel
theorem dX7_value_17 : decode cX7_value 17 = .ok (.ldc 133, 2) := by decide +kernel
theorem dX7_value_19 : decode cX7_value 19 = .ok (.ireturn, 1) := by decide +kernel
theorem dX7_value_20 : decode cX7_value 20 = .ok (.aload_n 0, 1) := by decide +kernel
theorem dX7_value_21 : decode cX7_value 21 = .ok (.iconst 0, 1) := by decide +kernel
theorem dX7_value_22 : decode cX7_value 22 = .ok (.iload_n 1, 1) := by decide +kernel
theorem dX7_value_23 : decode cX7_value 23 = .ok (.iload_n 2, 1) := by decide +kernel
theorem dX7_value_24 : decode cX7_value 24 = .ok (.invokevirtual 140, 3) := by decide +kernel
theorem dX7_value_27 : decode cX7_value 27 = .ok (.aload_n 0, 1) := by decide +kernel
theorem dX7_value_28 : decode cX7_value 28 = .ok (.iconst 1, 1) := by decide +kernel
theorem dX7_value_29 : decode cX7_value 29 = .ok (.iload_n 1, 1) := by decide +kernel
theorem dX7_value_30 : decode cX7_value 30 = .ok (.iload_n 2, 1) := by decide +kernel
theorem dX7_value_31 : decode cX7_value 31 = .ok (.invokevirtual 140, 3) := by decide +kernel
theorem dX7_value_34 : decode cX7_value 34 = .ok (.aload_n 0, 1) := by decide +kernel
theorem dX7_value_35 : decode cX7_value 35 = .ok (.iconst 2, 1) := by decide +kernel
theorem dX7_value_36 : decode cX7_value 36 = .ok (.iload_n 1, 1) := by decide +kernel
theorem dX7_value_37 : decode cX7_value 37 = .ok (.iload_n 2, 1) := by decide +kernel
theorem dX7_value_38 : decode cX7_value 38 = .ok (.invokevirtual 140, 3) := by decide +kernel
theorem dX7_value_41 : decode cX7_value 41 = .ok (.invokestatic 58, 3) := by decide +kernel
theorem dX7_value_44 : decode cX7_value 44 = .ok (.invokestatic 58, 3) := by decide +kernel
theorem dX7_value_47 : decode cX7_value 47 = .ok (.lstore 4, 2) := by decide +kernel
theorem dX7_value_49 : decode cX7_value 49 = .ok (.lload 4, 2) := by decide +kernel
theorem dX7_value_51 : decode cX7_value 51 = .ok (.lconst 0, 1) := by decide +kernel
theorem dX7_value_52 : decode cX7_value 52 = .ok (.lcmp, 1) := by decide +kernel
theorem dX7_value_53 : decode cX7_value 53 = .ok (.ifCond .ne 7, 3) := by decide +kernel
theorem dX7_value_56 : decode cX7_value 56 = .ok (.iconst 0, 1) := by decide +kernel
theorem dX7_value_57 : decode cX7_value 57 = .ok (.goto 14, 3) := by decide +kernel
theorem dX7_value_60 : decode cX7_value 60 = .ok (.aload_n 0, 1) := by decide +kernel
theorem dX7_value_61 : decode cX7_value 61 = .ok (.iload_n 3, 1) := by decide +kernel
theorem dX7_value_62 : decode cX7_value 62 = .ok (.iload_n 1, 1) := by decide +kernel
theorem dX7_value_63 : decode cX7_value 63 = .ok (.iload_n 2, 1) := by decide +kernel
theorem dX7_value_64 : decode cX7_value 64 = .ok (.invokevirtual 140, 3) := by decide +kernel
theorem dX7_value_67 : decode cX7_value 67 = .ok (.lload 4, 2) := by decide +kernel
theorem dX7_value_69 : decode cX7_value 69 = .ok (.ldiv, 1) := by decide +kernel
theorem dX7_value_70 : decode cX7_value 70 = .ok (.l2i, 1) := by decide +kernel
theorem dX7_value_71 : decode cX7_value 71 = .ok (.ireturn, 1) := by decide +kernel
set_option maxHeartbeats 4000000 in
set_option maxRecDepth 100000 in
theorem ct_X7_value (l : Launch) (D : va_G) (ce : Nat → ClassId) (h : Nat → Nat) (F : Nat → Int) (I : Nat → Nat → Int32) (J : Nat → Nat → Int64) (u v part : Int) (hok : rOK F I) (hu : -2147483648 ≤ u ∧ u < 2147483648) (hv : -2147483648 ≤ v ∧ v < 2147483648) (hp : -2147483648 ≤ part ∧ part < 2147483648) : Ct l yX7_value cX7_value 6 (some .int) { frames := 7, cells := 0, slots := 0, locals := 200 } 0 0 D (TY ce) [.ref (h 0), .int (zI u), .int (zI v), .int (zI part)] (rW ce h F I J) (QI D (TY ce) (fun r w1 => ∃ z : Int, ∃ F2 : Nat → Int, ∃ I2 : Nat → Nat → Int32, ∃ J2 : Nat → Nat → Int64, r = zI z ∧ w1 = rW ce h F2 I2 J2 ∧ (rOK F2 I2) ∧ (I2 0 = I 0) ∧ (¬ ((-9 ≤ u ∧ u ≤ 9 ∧ -9 ≤ v ∧ v ≤ 9 ∧ ¬ (u = 0 ∧ v = 0)) ∧ 0 ≤ part ∧ part ≤ 2) → z = -1000000) ∧ (((-9 ≤ u ∧ u ≤ 9 ∧ -9 ≤ v ∧ v ≤ 9 ∧ ¬ (u = 0 ∧ v = 0)) ∧ 0 ≤ part ∧ part ≤ 2) → ∃ c1 c2 : Int64, cgE (vOf (I 0) 1 u v) (vOf (I 0) 2 u v) c1 ∧ cgE (vOf (I 0) 0 u v) c1 c2 ∧ ((c2 = 0 ∧ z = 0) ∨ (¬ c2 = 0 ∧ (vOf (I 0) part u v / c2).toInt32 = zI z))))) := by
  refine Ct.ofI (by decide) (Nat.le_of_ble_eq_true rfl) ?_
  intro p e s m args below meth c A Q hX hnm hR
  refine Z.pick (lv' := [(0, .ref (h 0)), (1, .int (zI u)), (2, .int (zI v)), (3, .int (zI part))]) [0, 1, 2, 3] rfl ?_
  refine Z.iload_n hX dX7_value_0 rfl rfl ?_
  refine Z.iload_n hX dX7_value_1 rfl rfl ?_
  refine Z.callS0i (As := [.int (zI u), .int (zI v)]) (rest := []) hX (ct_X7_isParameter l D ce u v (by omega) (by omega)) mc_X7_isParameter ml_X7_137 st_X7_isParameter ini_X7 nd_X7_isParameter ⟨Nat.le_of_ble_eq_true rfl, Nat.le_of_ble_eq_true rfl⟩ ⟨rfl, rfl⟩ ⟨Nat.le_refl _, Nat.le_refl _⟩ rfl (Nat.le_of_ble_eq_true rfl) dX7_value_2 ?_
  rintro r_1 w1 ⟨zp, hr_, hw_, hzp⟩
  subst hr_
  refine ⟨hw_, ?_⟩
  refine Z.if_eq hX 17 dX7_value_5 (by decide) ⟨by omega, by omega⟩ ?_ ?_
  · intro c2
    refine Z.ldc hX (-1000000) dX7_value_17 co_X7_133 rfl ?_
    exact hR _ _ _ _ dX7_value_19 ⟨((-1000000)), F, I, J, rfl, rfl, hok, rfl, (fun _ => rfl), (fun q => by omega)⟩
  · intro c2
    refine Z.iload_n hX dX7_value_8 rfl rfl ?_
    refine Z.if_lt hX 17 dX7_value_9 (by decide) ⟨by omega, by omega⟩ ?_ ?_
    · intro c3
      refine Z.ldc hX (-1000000) dX7_value_17 co_X7_133 rfl ?_
      exact hR _ _ _ _ dX7_value_19 ⟨((-1000000)), F, I, J, rfl, rfl, hok, rfl, (fun _ => rfl), (fun q => by omega)⟩
    · intro c3
      refine Z.iload_n hX dX7_value_12 rfl rfl ?_
      refine Z.iconst hX dX7_value_13 ?_
      refine Z.icmp_le hX 20 dX7_value_14 (by decide) ⟨by omega, by omega⟩ ⟨by omega, by omega⟩ ?_ ?_
      · intro c4
        refine Z.aload_n hX dX7_value_20 rfl rfl ?_
        refine Z.iconst hX dX7_value_21 ?_
        refine Z.iload_n hX dX7_value_22 rfl rfl ?_
        refine Z.iload_n hX dX7_value_23 rfl rfl ?_
        refine Z.callVfl (As := [.int (zI 0), .int (zI u), .int (zI v)]) (rest := []) hX 7 0 rfl rfl (ct_X7_valueOf l D ce h F I J 0 u v hok (by omega) hu hv) mc_X7_valueOf ml_X7_140 im_X7_valueOf se_X7_valueOf ini_X7 nd_X7_valueOf ⟨Nat.le_of_ble_eq_true rfl, Nat.le_of_ble_eq_true rfl⟩ ⟨rfl, rfl⟩ ⟨Nat.le_refl _, Nat.le_refl _⟩ rfl (Nat.le_of_ble_eq_true rfl) dX7_value_24 ?_
        rintro xa w1 ⟨r06, Fa, Ia, Ja, hr_, hw_, hoka, hIa, hxa, hka⟩
        subst hr_
        subst hw_
        refine Z.aload_n hX dX7_value_27 rfl rfl ?_
        refine Z.iconst hX dX7_value_28 ?_
        refine Z.iload_n hX dX7_value_29 rfl rfl ?_
        refine Z.iload_n hX dX7_value_30 rfl rfl ?_
        refine Z.callVfl (As := [.int (zI 1), .int (zI u), .int (zI v)]) (rest := [.long xa]) hX 7 0 rfl rfl (ct_X7_valueOf l D ce h Fa Ia Ja 1 u v hoka (by omega) hu hv) mc_X7_valueOf ml_X7_140 im_X7_valueOf se_X7_valueOf ini_X7 nd_X7_valueOf ⟨Nat.le_of_ble_eq_true rfl, Nat.le_of_ble_eq_true rfl⟩ ⟨rfl, rfl⟩ ⟨Nat.le_refl _, Nat.le_refl _⟩ rfl (Nat.le_of_ble_eq_true rfl) dX7_value_31 ?_
        rintro xb w1 ⟨r08, Fb, Ib, Jb, hr_, hw_, hokb, hIb, hxb, hkb⟩
        subst hr_
        subst hw_
        rw [hIa] at hxb
        refine Z.aload_n hX dX7_value_34 rfl rfl ?_
        refine Z.iconst hX dX7_value_35 ?_
        refine Z.iload_n hX dX7_value_36 rfl rfl ?_
        refine Z.iload_n hX dX7_value_37 rfl rfl ?_
        refine Z.callVfl (As := [.int (zI 2), .int (zI u), .int (zI v)]) (rest := [.long xb, .long xa]) hX 7 0 rfl rfl (ct_X7_valueOf l D ce h Fb Ib Jb 2 u v hokb (by omega) hu hv) mc_X7_valueOf ml_X7_140 im_X7_valueOf se_X7_valueOf ini_X7 nd_X7_valueOf ⟨Nat.le_of_ble_eq_true rfl, Nat.le_of_ble_eq_true rfl⟩ ⟨rfl, rfl⟩ ⟨Nat.le_refl _, Nat.le_refl _⟩ rfl (Nat.le_of_ble_eq_true rfl) dX7_value_38 ?_
        rintro xd w1 ⟨r010, Fd, Id, Jd, hr_, hw_, hokd, hId, hxd, hkd⟩
        subst hr_
        subst hw_
        rw [hIb, hIa] at hxd
        refine Z.callS0l (As := [.long xb, .long xd]) (rest := [.long xa]) hX (ct_X7_common l D ce xb xd ) mc_X7_common ml_X7_58 st_X7_common ini_X7 nd_X7_common ⟨Nat.le_of_ble_eq_true rfl, Nat.le_of_ble_eq_true rfl⟩ ⟨rfl, rfl⟩ ⟨Nat.le_refl _, Nat.le_refl _⟩ rfl (Nat.le_of_ble_eq_true rfl) dX7_value_41 ?_
        rintro c1 w1 ⟨r012, hr_, hw_, hc1⟩
        subst hr_
        refine ⟨hw_, ?_⟩
        refine Z.callS0l (As := [.long xa, .long c1]) (rest := []) hX (ct_X7_common l D ce xa c1 ) mc_X7_common ml_X7_58 st_X7_common ini_X7 nd_X7_common ⟨Nat.le_of_ble_eq_true rfl, Nat.le_of_ble_eq_true rfl⟩ ⟨rfl, rfl⟩ ⟨Nat.le_refl _, Nat.le_refl _⟩ rfl (Nat.le_of_ble_eq_true rfl) dX7_value_44 ?_
        rintro c2 w1 ⟨r014, hr_, hw_, hc2⟩
        subst hr_
        refine ⟨hw_, ?_⟩
        refine Z.lstore (lv' := [(4, .long c2), (0, .ref (h 0)), (1, .int (zI u)), (2, .int (zI v)), (3, .int (zI part))]) hX dX7_value_47 (by decide) rfl ?_
        refine Z.lload hX dX7_value_49 rfl ?_
        refine Z.lconst (v := 0) hX dX7_value_51 rfl ?_
        refine Z.lcmp_ne hX 60 dX7_value_52 dX7_value_53 (by decide) ?_ ?_
        · intro c15
          refine Z.aload_n hX dX7_value_60 rfl rfl ?_
          refine Z.iload_n hX dX7_value_61 rfl rfl ?_
          refine Z.iload_n hX dX7_value_62 rfl rfl ?_
          refine Z.iload_n hX dX7_value_63 rfl rfl ?_
          refine Z.callVfl (As := [.int (zI part), .int (zI u), .int (zI v)]) (rest := []) hX 7 0 rfl rfl (ct_X7_valueOf l D ce h Fd Id Jd part u v hokd (by omega) hu hv) mc_X7_valueOf ml_X7_140 im_X7_valueOf se_X7_valueOf ini_X7 nd_X7_valueOf ⟨Nat.le_of_ble_eq_true rfl, Nat.le_of_ble_eq_true rfl⟩ ⟨rfl, rfl⟩ ⟨Nat.le_refl _, Nat.le_refl _⟩ rfl (Nat.le_of_ble_eq_true rfl) dX7_value_64 ?_
          rintro xg w1 ⟨r017, Fg, Ig, Jg, hr_, hw_, hokg, hIg, hxg, hkg⟩
          subst hr_
          subst hw_
          rw [hId, hIb, hIa] at hxg
          refine Z.lload hX dX7_value_67 rfl ?_
          refine Z.ldiv hX dX7_value_69 (by assumption) ?_
          refine Z.l2i hX dX7_value_70 ?_
          refine Z.topi (fun z18 hz18 kz18 ez18 => ?_)
          exact hR _ _ _ _ dX7_value_71 ⟨z18, Fg, Ig, Jg, rfl, rfl, hokg, (hIg.trans (hId.trans (hIb.trans hIa))), (fun q => absurd (by omega) q), (fun _ => ⟨c1, c2, by rw [← hxb, ← hxd]; exact hc1, by rw [← hxa]; exact hc2, Or.inr ⟨by assumption, by rw [← hxg]; assumption⟩⟩)⟩
        · intro c15
          refine Z.iconst hX dX7_value_56 ?_
          refine Z.goto hX 71 dX7_value_57 (by decide) ?_
          exact hR _ _ _ _ dX7_value_71 ⟨0, Fd, Id, Jd, rfl, rfl, hokd, (hId.trans (hIb.trans hIa)), (fun q => absurd (by omega) q), (fun _ => ⟨c1, c2, by rw [← hxb, ← hxd]; exact hc1, by rw [← hxa]; exact hc2, Or.inl ⟨by assumption, rfl⟩⟩)⟩
      · intro c4
        refine Z.ldc hX (-1000000) dX7_value_17 co_X7_133 rfl ?_
        exact hR _ _ _ _ dX7_value_19 ⟨((-1000000)), F, I, J, rfl, rfl, hok, rfl, (fun _ => rfl), (fun q => by omega)⟩

theorem dX7_at_0 : decode cX7_at 0 = .ok (.iload_n 1, 1) := by decide +kernel
theorem dX7_at_1 : decode cX7_at 1 = .ok (.iload_n 2, 1) := by decide +kernel
theorem dX7_at_2 : decode cX7_at 2 = .ok (.invokestatic 137, 3) := by decide +kernel
theorem dX7_at_5 : decode cX7_at 5 = .ok (.ifCond .eq 14, 3) := by decide +kernel
theorem dX7_at_8 : decode cX7_at 8 = .ok (.iload_n 3, 1) := by decide +kernel
theorem dX7_at_9 : decode cX7_at 9 = .ok (.iload 4, 2) := by decide +kernel
theorem dX7_at_11 : decode cX7_at 11 = .ok (.iload 5, 2) := by decide +kernel
theorem dX7_at_13 : decode cX7_at 13 = .ok (.invokestatic 148, 3) := by decide +kernel
theorem dX7_at_16 : decode cX7_at 16 = .ok (.ifCond .ne 6, 3) := by decide +kernel
theorem dX7_at_19 : decode cX7_at 19 = .ok (.bipush (-9), 2) := by decide +kernel
theorem dX7_at_21 : decode cX7_at 21 = .ok (.ireturn, 1) := by decide +kernel
theorem dX7_at_22 : decode cX7_at 22 = .ok (.aload_n 0, 1) := by decide +kernel
theorem dX7_at_23 : decode cX7_at 23 = .ok (.iconst 2, 1) := by decide +kernel
theorem dX7_at_24 : decode cX7_at 24 = .ok (.iload_n 1, 1) := by decide +kernel
theorem dX7_at_25 : decode cX7_at 25 = .ok (.iload_n 2, 1) := by decide +kernel
theorem dX7_at_26 : decode cX7_at 26 = .ok (.invokevirtual 140, 3) := by decide +kernel
theorem dX7_at_29 : decode cX7_at 29 = .ok (.lstore 6, 2) := by decide +kernel
theorem dX7_at_31 : decode cX7_at 31 = .ok (.lload 6, 2) := by decide +kernel
theorem dX7_at_33 : decode cX7_at 33 = .ok (.lconst 0, 1) := by decide +kernel
theorem dX7_at_34 : decode cX7_at 34 = .ok (.lcmp, 1) := by decide +kernel
theorem dX7_at_35 : decode cX7_at 35 = .ok (.ifCond .eq 48, 3) := by decide +kernel
theorem dX7_at_38 : decode cX7_at 38 = .ok (.aload_n 0, 1) := by decide +kernel
theorem dX7_at_39 : decode cX7_at 39 = .ok (.iconst 0, 1) := by decide +kernel
theorem dX7_at_40 : decode cX7_at 40 = .ok (.iload_n 1, 1) := by decide +kernel
theorem dX7_at_41 : decode cX7_at 41 = .ok (.iload_n 2, 1) := by decide +kernel
theorem dX7_at_42 : decode cX7_at 42 = .ok (.invokevirtual 140, 3) := by decide +kernel
theorem dX7_at_45 : decode cX7_at 45 = .ok (.iload 5, 2) := by decide +kernel
theorem dX7_at_47 : decode cX7_at 47 = .ok (.i2l, 1) := by decide +kernel
theorem dX7_at_48 : decode cX7_at 48 = .ok (.lmul, 1) := by decide +kernel
theorem dX7_at_49 : decode cX7_at 49 = .ok (.iload_n 3, 1) := by decide +kernel
theorem dX7_at_50 : decode cX7_at 50 = .ok (.i2l, 1) := by decide +kernel
theorem dX7_at_51 : decode cX7_at 51 = .ok (.lload 6, 2) := by decide +kernel
theorem dX7_at_53 : decode cX7_at 53 = .ok (.lmul, 1) := by decide +kernel
theorem dX7_at_54 : decode cX7_at 54 = .ok (.lcmp, 1) := by decide +kernel
theorem dX7_at_55 : decode cX7_at 55 = .ok (.ifCond .ne 28, 3) := by decide +kernel
theorem dX7_at_58 : decode cX7_at 58 = .ok (.aload_n 0, 1) := by decide +kernel
theorem dX7_at_59 : decode cX7_at 59 = .ok (.iconst 1, 1) := by decide +kernel
theorem dX7_at_60 : decode cX7_at 60 = .ok (.iload_n 1, 1) := by decide +kernel
theorem dX7_at_61 : decode cX7_at 61 = .ok (.iload_n 2, 1) := by decide +kernel
theorem dX7_at_62 : decode cX7_at 62 = .ok (.invokevirtual 140, 3) := by decide +kernel
theorem dX7_at_65 : decode cX7_at 65 = .ok (.iload 5, 2) := by decide +kernel
theorem dX7_at_67 : decode cX7_at 67 = .ok (.i2l, 1) := by decide +kernel
theorem dX7_at_68 : decode cX7_at 68 = .ok (.lmul, 1) := by decide +kernel
theorem dX7_at_69 : decode cX7_at 69 = .ok (.iload 4, 2) := by decide +kernel
theorem dX7_at_71 : decode cX7_at 71 = .ok (.i2l, 1) := by decide +kernel
theorem dX7_at_72 : decode cX7_at 72 = .ok (.lload 6, 2) := by decide +kernel
theorem dX7_at_74 : decode cX7_at 74 = .ok (.lmul, 1) := by decide +kernel
theorem dX7_at_75 : decode cX7_at 75 = .ok (.lcmp, 1) := by decide +kernel
theorem dX7_at_76 : decode cX7_at 76 = .ok (.ifCond .ne 7, 3) := by decide +kernel
theorem dX7_at_79 : decode cX7_at 79 = .ok (.iconst 1, 1) := by decide +kernel
theorem dX7_at_80 : decode cX7_at 80 = .ok (.goto 4, 3) := by decide +kernel
theorem dX7_at_83 : decode cX7_at 83 = .ok (.iconst 0, 1) := by decide +kernel
theorem dX7_at_84 : decode cX7_at 84 = .ok (.ireturn, 1) := by decide +kernel
set_option maxHeartbeats 4000000 in
set_option maxRecDepth 100000 in
theorem ct_X7_at (l : Launch) (D : va_G) (ce : Nat → ClassId) (h : Nat → Nat) (F : Nat → Int) (I : Nat → Nat → Int32) (J : Nat → Nat → Int64) (u v pp qq ss : Int) (hok : rOK F I) (hu : -2147483648 ≤ u ∧ u < 2147483648) (hv : -2147483648 ≤ v ∧ v < 2147483648) (hp : -2147483648 ≤ pp ∧ pp < 2147483648) (hq : -2147483648 ≤ qq ∧ qq < 2147483648) (hs : -2147483648 ≤ ss ∧ ss < 2147483648) : Ct l yX7_at cX7_at 8 (some .int) { frames := 7, cells := 0, slots := 0, locals := 200 } 0 0 D (TY ce) [.ref (h 0), .int (zI u), .int (zI v), .int (zI pp), .int (zI qq), .int (zI ss)] (rW ce h F I J) (QI D (TY ce) (fun r w1 => ∃ z : Int, ∃ F2 : Nat → Int, ∃ I2 : Nat → Nat → Int32, ∃ J2 : Nat → Nat → Int64, r = zI z ∧ w1 = rW ce h F2 I2 J2 ∧ (rOK F2 I2) ∧ (I2 0 = I 0) ∧ (¬ ((-9 ≤ u ∧ u ≤ 9 ∧ -9 ≤ v ∧ v ≤ 9 ∧ ¬ (u = 0 ∧ v = 0)) ∧ (-20 ≤ pp ∧ pp ≤ 20 ∧ -20 ≤ qq ∧ qq ≤ 20 ∧ 1 ≤ ss ∧ ss ≤ 9)) → z = -9) ∧ (((-9 ≤ u ∧ u ≤ 9 ∧ -9 ≤ v ∧ v ≤ 9 ∧ ¬ (u = 0 ∧ v = 0)) ∧ (-20 ≤ pp ∧ pp ≤ 20 ∧ -20 ≤ qq ∧ qq ≤ 20 ∧ 1 ≤ ss ∧ ss ≤ 9)) → ((z = 1 ∧ (¬ vOf (I 0) 2 u v = 0 ∧ vOf (I 0) 0 u v * zL ss = zL pp * vOf (I 0) 2 u v ∧ vOf (I 0) 1 u v * zL ss = zL qq * vOf (I 0) 2 u v)) ∨ (z = 0 ∧ ¬ (¬ vOf (I 0) 2 u v = 0 ∧ vOf (I 0) 0 u v * zL ss = zL pp * vOf (I 0) 2 u v ∧ vOf (I 0) 1 u v * zL ss = zL qq * vOf (I 0) 2 u v)))))) := by
  refine Ct.ofI (by decide) (Nat.le_of_ble_eq_true rfl) ?_
  intro p e s m args below meth c A Q hX hnm hR
  refine Z.pick (lv' := [(0, .ref (h 0)), (1, .int (zI u)), (2, .int (zI v)), (3, .int (zI pp)), (4, .int (zI qq)), (5, .int (zI ss))]) [0, 1, 2, 3, 4, 5] rfl ?_
  refine Z.iload_n hX dX7_at_0 rfl rfl ?_
  refine Z.iload_n hX dX7_at_1 rfl rfl ?_
  refine Z.callS0i (As := [.int (zI u), .int (zI v)]) (rest := []) hX (ct_X7_isParameter l D ce u v (by omega) (by omega)) mc_X7_isParameter ml_X7_137 st_X7_isParameter ini_X7 nd_X7_isParameter ⟨Nat.le_of_ble_eq_true rfl, Nat.le_of_ble_eq_true rfl⟩ ⟨rfl, rfl⟩ ⟨Nat.le_refl _, Nat.le_refl _⟩ rfl (Nat.le_of_ble_eq_true rfl) dX7_at_2 ?_
  rintro r_1 w1 ⟨zp, hr_, hw_, hzp⟩
  subst hr_
  refine ⟨hw_, ?_⟩
  refine Z.if_eq hX 19 dX7_at_5 (by decide) ⟨by omega, by omega⟩ ?_ ?_
  · intro c2
    refine Z.bipush hX dX7_at_19 (by decide) ?_
    exact hR _ _ _ _ dX7_at_21 ⟨(-9), F, I, J, rfl, rfl, hok, rfl, (fun _ => rfl), (fun q => by omega)⟩
  · intro c2
    refine Z.iload_n hX dX7_at_8 rfl rfl ?_
    refine Z.iload hX dX7_at_9 rfl ?_
    refine Z.iload hX dX7_at_11 rfl ?_
    refine Z.callS0i (As := [.int (zI pp), .int (zI qq), .int (zI ss)]) (rest := []) hX (ct_X7_isPlace l D ce pp qq ss (by omega) (by omega) (by omega)) mc_X7_isPlace ml_X7_148 st_X7_isPlace ini_X7 nd_X7_isPlace ⟨Nat.le_of_ble_eq_true rfl, Nat.le_of_ble_eq_true rfl⟩ ⟨rfl, rfl⟩ ⟨Nat.le_refl _, Nat.le_refl _⟩ rfl (Nat.le_of_ble_eq_true rfl) dX7_at_13 ?_
    rintro r_3 w1 ⟨zq, hr_, hw_, hzq⟩
    subst hr_
    refine ⟨hw_, ?_⟩
    refine Z.if_ne hX 22 dX7_at_16 (by decide) ⟨by omega, by omega⟩ ?_ ?_
    · intro c4
      refine Z.aload_n hX dX7_at_22 rfl rfl ?_
      refine Z.iconst hX dX7_at_23 ?_
      refine Z.iload_n hX dX7_at_24 rfl rfl ?_
      refine Z.iload_n hX dX7_at_25 rfl rfl ?_
      refine Z.callVfl (As := [.int (zI 2), .int (zI u), .int (zI v)]) (rest := []) hX 7 0 rfl rfl (ct_X7_valueOf l D ce h F I J 2 u v hok (by omega) hu hv) mc_X7_valueOf ml_X7_140 im_X7_valueOf se_X7_valueOf ini_X7 nd_X7_valueOf ⟨Nat.le_of_ble_eq_true rfl, Nat.le_of_ble_eq_true rfl⟩ ⟨rfl, rfl⟩ ⟨Nat.le_refl _, Nat.le_refl _⟩ rfl (Nat.le_of_ble_eq_true rfl) dX7_at_26 ?_
      rintro xa w1 ⟨r06, Fa, Ia, Ja, hr_, hw_, hoka, hIa, hxa, hka⟩
      subst hr_
      subst hw_
      refine Z.lstore (lv' := [(6, .long xa), (0, .ref (h 0)), (1, .int (zI u)), (2, .int (zI v)), (3, .int (zI pp)), (4, .int (zI qq)), (5, .int (zI ss))]) hX dX7_at_29 (by decide) rfl ?_
      refine Z.lload hX dX7_at_31 rfl ?_
      refine Z.lconst (v := 0) hX dX7_at_33 rfl ?_
      refine Z.lcmp_eq hX 83 dX7_at_34 dX7_at_35 (by decide) ?_ ?_
      · intro c7
        refine Z.iconst hX dX7_at_83 ?_
        exact hR _ _ _ _ dX7_at_84 ⟨0, Fa, Ia, Ja, rfl, rfl, hoka, hIa, (fun q => absurd (by omega) q), (fun _ => Or.inr ⟨rfl, fun q => q.1 (by rw [← hxa]; assumption)⟩)⟩
      · intro c7
        refine Z.aload_n hX dX7_at_38 rfl rfl ?_
        refine Z.iconst hX dX7_at_39 ?_
        refine Z.iload_n hX dX7_at_40 rfl rfl ?_
        refine Z.iload_n hX dX7_at_41 rfl rfl ?_
        refine Z.callVfl (As := [.int (zI 0), .int (zI u), .int (zI v)]) (rest := []) hX 7 0 rfl rfl (ct_X7_valueOf l D ce h Fa Ia Ja 0 u v hoka (by omega) hu hv) mc_X7_valueOf ml_X7_140 im_X7_valueOf se_X7_valueOf ini_X7 nd_X7_valueOf ⟨Nat.le_of_ble_eq_true rfl, Nat.le_of_ble_eq_true rfl⟩ ⟨rfl, rfl⟩ ⟨Nat.le_refl _, Nat.le_refl _⟩ rfl (Nat.le_of_ble_eq_true rfl) dX7_at_42 ?_
        rintro xb w1 ⟨r09, Fb, Ib, Jb, hr_, hw_, hokb, hIb, hxb, hkb⟩
        subst hr_
        subst hw_
        rw [hIa] at hxb
        refine Z.iload hX dX7_at_45 rfl ?_
        refine Z.i2l hX dX7_at_47 ⟨by omega, by omega⟩ ?_
        refine Z.lmul hX dX7_at_48 ?_
        refine Z.iload_n hX dX7_at_49 rfl rfl ?_
        refine Z.i2l hX dX7_at_50 ⟨by omega, by omega⟩ ?_
        refine Z.lload hX dX7_at_51 rfl ?_
        refine Z.lmul hX dX7_at_53 ?_
        refine Z.lcmp_ne hX 83 dX7_at_54 dX7_at_55 (by decide) ?_ ?_
        · intro c10
          refine Z.iconst hX dX7_at_83 ?_
          exact hR _ _ _ _ dX7_at_84 ⟨0, Fb, Ib, Jb, rfl, rfl, hokb, (hIb.trans hIa), (fun q => absurd (by omega) q), (fun _ => Or.inr ⟨rfl, fun q => by have h2 := q.2.1; rw [← hxa, ← hxb] at h2; exact absurd h2 (by assumption)⟩)⟩
        · intro c10
          refine Z.aload_n hX dX7_at_58 rfl rfl ?_
          refine Z.iconst hX dX7_at_59 ?_
          refine Z.iload_n hX dX7_at_60 rfl rfl ?_
          refine Z.iload_n hX dX7_at_61 rfl rfl ?_
          refine Z.callVfl (As := [.int (zI 1), .int (zI u), .int (zI v)]) (rest := []) hX 7 0 rfl rfl (ct_X7_valueOf l D ce h Fb Ib Jb 1 u v hokb (by omega) hu hv) mc_X7_valueOf ml_X7_140 im_X7_valueOf se_X7_valueOf ini_X7 nd_X7_valueOf ⟨Nat.le_of_ble_eq_true rfl, Nat.le_of_ble_eq_true rfl⟩ ⟨rfl, rfl⟩ ⟨Nat.le_refl _, Nat.le_refl _⟩ rfl (Nat.le_of_ble_eq_true rfl) dX7_at_62 ?_
          rintro xd w1 ⟨r012, Fd, Id, Jd, hr_, hw_, hokd, hId, hxd, hkd⟩
          subst hr_
          subst hw_
          rw [hIb, hIa] at hxd
          refine Z.iload hX dX7_at_65 rfl ?_
          refine Z.i2l hX dX7_at_67 ⟨by omega, by omega⟩ ?_
          refine Z.lmul hX dX7_at_68 ?_
          refine Z.iload hX dX7_at_69 rfl ?_
          refine Z.i2l hX dX7_at_71 ⟨by omega, by omega⟩ ?_
          refine Z.lload hX dX7_at_72 rfl ?_
          refine Z.lmul hX dX7_at_74 ?_
          refine Z.lcmp_ne hX 83 dX7_at_75 dX7_at_76 (by decide) ?_ ?_
          · intro c13
            refine Z.iconst hX dX7_at_83 ?_
            exact hR _ _ _ _ dX7_at_84 ⟨0, Fd, Id, Jd, rfl, rfl, hokd, (hId.trans (hIb.trans hIa)), (fun q => absurd (by omega) q), (fun _ => Or.inr ⟨rfl, fun q => by have h2 := q.2.2; rw [← hxa, ← hxd] at h2; exact absurd h2 (by assumption)⟩)⟩
          · intro c13
            refine Z.iconst hX dX7_at_79 ?_
            refine Z.goto hX 84 dX7_at_80 (by decide) ?_
            exact hR _ _ _ _ dX7_at_84 ⟨1, Fd, Id, Jd, rfl, rfl, hokd, (hId.trans (hIb.trans hIa)), (fun q => absurd (by omega) q), (fun _ => Or.inl ⟨rfl, by rw [← hxa]; assumption, by rw [← hxa, ← hxb]; assumption, by rw [← hxa, ← hxd]; assumption⟩)⟩
    · intro c4
      refine Z.bipush hX dX7_at_19 (by decide) ?_
      exact hR _ _ _ _ dX7_at_21 ⟨(-9), F, I, J, rfl, rfl, hok, rfl, (fun _ => rfl), (fun q => by omega)⟩

theorem dX7_trace_0 : decode cX7_trace 0 = .ok (.iload_n 1, 1) := by decide +kernel
theorem dX7_trace_1 : decode cX7_trace 1 = .ok (.invokestatic 144, 3) := by decide +kernel
theorem dX7_trace_4 : decode cX7_trace 4 = .ok (.ifCond .ne 5, 3) := by decide +kernel
theorem dX7_trace_7 : decode cX7_trace 7 = .ok (.iconst (-1), 1) := by decide +kernel
theorem dX7_trace_8 : decode cX7_trace 8 = .ok (.ireturn, 1) := by decide +kernel
theorem dX7_trace_9 : decode cX7_trace 9 = .ok (.aload_n 0, 1) := by decide +kernel
theorem dX7_trace_10 : decode cX7_trace 10 = .ok (.invokevirtual 130, 3) := by decide +kernel
theorem dX7_trace_13 : decode cX7_trace 13 = .ok (.aload_n 0, 1) := by decide +kernel
theorem dX7_trace_14 : decode cX7_trace 14 = .ok (.getfield 17, 3) := by decide +kernel
theorem dX7_trace_17 : decode cX7_trace 17 = .ok (.iload_n 1, 1) := by decide +kernel
theorem dX7_trace_18 : decode cX7_trace 18 = .ok (.baload, 1) := by decide +kernel
theorem dX7_trace_19 : decode cX7_trace 19 = .ok (.ifCond .eq 12, 3) := by decide +kernel
theorem dX7_trace_22 : decode cX7_trace 22 = .ok (.aload_n 0, 1) := by decide +kernel
theorem dX7_trace_23 : decode cX7_trace 23 = .ok (.getfield 24, 3) := by decide +kernel
theorem dX7_trace_26 : decode cX7_trace 26 = .ok (.iload_n 1, 1) := by decide +kernel
theorem dX7_trace_27 : decode cX7_trace 27 = .ok (.iaload, 1) := by decide +kernel
theorem dX7_trace_28 : decode cX7_trace 28 = .ok (.goto 5, 3) := by decide +kernel
theorem dX7_trace_31 : decode cX7_trace 31 = .ok (.bipush (-2), 2) := by decide +kernel
theorem dX7_trace_33 : decode cX7_trace 33 = .ok (.ireturn, 1) := by decide +kernel
set_option maxHeartbeats 4000000 in
set_option maxRecDepth 100000 in
theorem ct_X7_trace (l : Launch) (D : va_G) (ce : Nat → ClassId) (h : Nat → Nat) (F : Nat → Int) (I : Nat → Nat → Int32) (J : Nat → Nat → Int64) (sort : Int) (hok : rOK F I) (hs : -2147483648 ≤ sort ∧ sort < 2147483648) : Ct l yX7_trace cX7_trace 2 (some .int) { frames := 6, cells := 0, slots := 0, locals := 174 } 0 0 D (TY ce) [.ref (h 0), .int (zI sort)] (rW ce h F I J) (QI D (TY ce) (fun r w1 => ∃ z : Int, ∃ F2 : Nat → Int, ∃ I2 : Nat → Nat → Int32, ∃ J2 : Nat → Nat → Int64, r = zI z ∧ w1 = rW ce h F2 I2 J2 ∧ (rOK F2 I2) ∧ (I2 0 = I 0) ∧ (¬ (sort = 0 ∨ sort = 1) → z = -1))) := by
  refine Ct.ofI (by decide) (Nat.le_of_ble_eq_true rfl) ?_
  intro p e s m args below meth c A Q hX hnm hR
  refine Z.pick (lv' := [(0, .ref (h 0)), (1, .int (zI sort))]) [0, 1] rfl ?_
  refine Z.iload_n hX dX7_trace_0 rfl rfl ?_
  refine Z.callS0i (As := [.int (zI sort)]) (rest := []) hX (ct_X7_isSort l D ce sort (by omega)) mc_X7_isSort ml_X7_144 st_X7_isSort ini_X7 nd_X7_isSort ⟨Nat.le_of_ble_eq_true rfl, Nat.le_of_ble_eq_true rfl⟩ ⟨rfl, rfl⟩ ⟨Nat.le_refl _, Nat.le_refl _⟩ rfl (Nat.le_of_ble_eq_true rfl) dX7_trace_1 ?_
  rintro r_1 w1 ⟨zp, hr_, hw_, hzp⟩
  subst hr_
  refine ⟨hw_, ?_⟩
  refine Z.if_ne hX 9 dX7_trace_4 (by decide) ⟨by omega, by omega⟩ ?_ ?_
  · intro c2
    refine Z.aload_n hX dX7_trace_9 rfl rfl ?_
    refine Z.callVfv (As := []) (rest := []) hX 7 0 rfl rfl (ct_X7_work l D ce h F I J hok) mc_X7_work ml_X7_130 im_X7_work se_X7_work ini_X7 nd_X7_work ⟨Nat.le_of_ble_eq_true rfl, Nat.le_of_ble_eq_true rfl⟩ ⟨rfl, rfl⟩ ⟨Nat.le_refl _, Nat.le_refl _⟩ rfl (Nat.le_of_ble_eq_true rfl) dX7_trace_10 ?_
    rintro w1 ⟨Fw, Iw, Jw, hw_, hokw, hfw, hmow, hIw, hdgw⟩
    subst hw_
    refine Z.aload_n hX dX7_trace_13 rfl rfl ?_
    refine Z.getf hX 7 0 5 dX7_trace_14 rfl rfl inX7 (by decide) fl_X7_17 rfl rfl ?_
    refine Z.iload_n hX dX7_trace_17 rfl rfl ?_
    refine Z.zaload hX 3 2 dX7_trace_18 rfl rfl (by omega) (by omega) (by decide) ?_
    refine Z.topi (fun z4 hz4 kz4 ez4 => ?_)
    refine Z.if_eq hX 31 dX7_trace_19 (by decide) ⟨by omega, by omega⟩ ?_ ?_
    · intro c5
      refine Z.bipush hX dX7_trace_31 (by decide) ?_
      exact hR _ _ _ _ dX7_trace_33 ⟨(-2), Fw, Iw, Jw, rfl, rfl, hokw, hIw, (fun q => absurd (by omega) q)⟩
    · intro c5
      refine Z.aload_n hX dX7_trace_22 rfl rfl ?_
      refine Z.getf hX 7 0 7 dX7_trace_23 rfl rfl inX7 (by decide) fl_X7_24 rfl rfl ?_
      refine Z.iload_n hX dX7_trace_26 rfl rfl ?_
      refine Z.iaload hX 5 0 dX7_trace_27 rfl rfl (by omega) (by omega) (by decide) ?_
      refine Z.topi (fun z6 hz6 kz6 ez6 => ?_)
      refine Z.goto hX 33 dX7_trace_28 (by decide) ?_
      exact hR _ _ _ _ dX7_trace_33 ⟨z6, Fw, Iw, Jw, rfl, rfl, hokw, hIw, (fun q => absurd (by omega) q)⟩
  · intro c2
    refine Z.iconst hX dX7_trace_7 ?_
    exact hR _ _ _ _ dX7_trace_8 ⟨(-1), F, I, J, rfl, rfl, hok, rfl, (fun _ => rfl)⟩

theorem dX7_times_0 : decode cX7_times 0 = .ok (.iload_n 1, 1) := by decide +kernel
theorem dX7_times_1 : decode cX7_times 1 = .ok (.invokestatic 144, 3) := by decide +kernel
theorem dX7_times_4 : decode cX7_times 4 = .ok (.ifCond .ne 5, 3) := by decide +kernel
theorem dX7_times_7 : decode cX7_times 7 = .ok (.iconst (-1), 1) := by decide +kernel
theorem dX7_times_8 : decode cX7_times 8 = .ok (.ireturn, 1) := by decide +kernel
theorem dX7_times_9 : decode cX7_times 9 = .ok (.aload_n 0, 1) := by decide +kernel
theorem dX7_times_10 : decode cX7_times 10 = .ok (.invokevirtual 130, 3) := by decide +kernel
theorem dX7_times_13 : decode cX7_times 13 = .ok (.aload_n 0, 1) := by decide +kernel
theorem dX7_times_14 : decode cX7_times 14 = .ok (.getfield 17, 3) := by decide +kernel
theorem dX7_times_17 : decode cX7_times 17 = .ok (.iload_n 1, 1) := by decide +kernel
theorem dX7_times_18 : decode cX7_times 18 = .ok (.baload, 1) := by decide +kernel
theorem dX7_times_19 : decode cX7_times 19 = .ok (.ifCond .eq 12, 3) := by decide +kernel
theorem dX7_times_22 : decode cX7_times 22 = .ok (.aload_n 0, 1) := by decide +kernel
theorem dX7_times_23 : decode cX7_times 23 = .ok (.getfield 27, 3) := by decide +kernel
theorem dX7_times_26 : decode cX7_times 26 = .ok (.iload_n 1, 1) := by decide +kernel
theorem dX7_times_27 : decode cX7_times 27 = .ok (.iaload, 1) := by decide +kernel
theorem dX7_times_28 : decode cX7_times 28 = .ok (.goto 5, 3) := by decide +kernel
theorem dX7_times_31 : decode cX7_times 31 = .ok (.bipush (-2), 2) := by decide +kernel
theorem dX7_times_33 : decode cX7_times 33 = .ok (.ireturn, 1) := by decide +kernel
set_option maxHeartbeats 4000000 in
set_option maxRecDepth 100000 in
theorem ct_X7_times (l : Launch) (D : va_G) (ce : Nat → ClassId) (h : Nat → Nat) (F : Nat → Int) (I : Nat → Nat → Int32) (J : Nat → Nat → Int64) (sort : Int) (hok : rOK F I) (hs : -2147483648 ≤ sort ∧ sort < 2147483648) : Ct l yX7_times cX7_times 2 (some .int) { frames := 6, cells := 0, slots := 0, locals := 174 } 0 0 D (TY ce) [.ref (h 0), .int (zI sort)] (rW ce h F I J) (QI D (TY ce) (fun r w1 => ∃ z : Int, ∃ F2 : Nat → Int, ∃ I2 : Nat → Nat → Int32, ∃ J2 : Nat → Nat → Int64, r = zI z ∧ w1 = rW ce h F2 I2 J2 ∧ (rOK F2 I2) ∧ (I2 0 = I 0) ∧ (¬ (sort = 0 ∨ sort = 1) → z = -1))) := by
  refine Ct.ofI (by decide) (Nat.le_of_ble_eq_true rfl) ?_
  intro p e s m args below meth c A Q hX hnm hR
  refine Z.pick (lv' := [(0, .ref (h 0)), (1, .int (zI sort))]) [0, 1] rfl ?_
  refine Z.iload_n hX dX7_times_0 rfl rfl ?_
  refine Z.callS0i (As := [.int (zI sort)]) (rest := []) hX (ct_X7_isSort l D ce sort (by omega)) mc_X7_isSort ml_X7_144 st_X7_isSort ini_X7 nd_X7_isSort ⟨Nat.le_of_ble_eq_true rfl, Nat.le_of_ble_eq_true rfl⟩ ⟨rfl, rfl⟩ ⟨Nat.le_refl _, Nat.le_refl _⟩ rfl (Nat.le_of_ble_eq_true rfl) dX7_times_1 ?_
  rintro r_1 w1 ⟨zp, hr_, hw_, hzp⟩
  subst hr_
  refine ⟨hw_, ?_⟩
  refine Z.if_ne hX 9 dX7_times_4 (by decide) ⟨by omega, by omega⟩ ?_ ?_
  · intro c2
    refine Z.aload_n hX dX7_times_9 rfl rfl ?_
    refine Z.callVfv (As := []) (rest := []) hX 7 0 rfl rfl (ct_X7_work l D ce h F I J hok) mc_X7_work ml_X7_130 im_X7_work se_X7_work ini_X7 nd_X7_work ⟨Nat.le_of_ble_eq_true rfl, Nat.le_of_ble_eq_true rfl⟩ ⟨rfl, rfl⟩ ⟨Nat.le_refl _, Nat.le_refl _⟩ rfl (Nat.le_of_ble_eq_true rfl) dX7_times_10 ?_
    rintro w1 ⟨Fw, Iw, Jw, hw_, hokw, hfw, hmow, hIw, hdgw⟩
    subst hw_
    refine Z.aload_n hX dX7_times_13 rfl rfl ?_
    refine Z.getf hX 7 0 5 dX7_times_14 rfl rfl inX7 (by decide) fl_X7_17 rfl rfl ?_
    refine Z.iload_n hX dX7_times_17 rfl rfl ?_
    refine Z.zaload hX 3 2 dX7_times_18 rfl rfl (by omega) (by omega) (by decide) ?_
    refine Z.topi (fun z4 hz4 kz4 ez4 => ?_)
    refine Z.if_eq hX 31 dX7_times_19 (by decide) ⟨by omega, by omega⟩ ?_ ?_
    · intro c5
      refine Z.bipush hX dX7_times_31 (by decide) ?_
      exact hR _ _ _ _ dX7_times_33 ⟨(-2), Fw, Iw, Jw, rfl, rfl, hokw, hIw, (fun q => absurd (by omega) q)⟩
    · intro c5
      refine Z.aload_n hX dX7_times_22 rfl rfl ?_
      refine Z.getf hX 7 0 8 dX7_times_23 rfl rfl inX7 (by decide) fl_X7_27 rfl rfl ?_
      refine Z.iload_n hX dX7_times_26 rfl rfl ?_
      refine Z.iaload hX 6 0 dX7_times_27 rfl rfl (by omega) (by omega) (by decide) ?_
      refine Z.topi (fun z6 hz6 kz6 ez6 => ?_)
      refine Z.goto hX 33 dX7_times_28 (by decide) ?_
      exact hR _ _ _ _ dX7_times_33 ⟨z6, Fw, Iw, Jw, rfl, rfl, hokw, hIw, (fun q => absurd (by omega) q)⟩
  · intro c2
    refine Z.iconst hX dX7_times_7 ?_
    exact hR _ _ _ _ dX7_times_8 ⟨(-1), F, I, J, rfl, rfl, hok, rfl, (fun _ => rfl)⟩

theorem dX7_coefficient_0 : decode cX7_coefficient 0 = .ok (.iload_n 1, 1) := by decide +kernel
theorem dX7_coefficient_1 : decode cX7_coefficient 1 = .ok (.invokestatic 144, 3) := by decide +kernel
theorem dX7_coefficient_4 : decode cX7_coefficient 4 = .ok (.ifCond .eq 23, 3) := by decide +kernel
theorem dX7_coefficient_7 : decode cX7_coefficient 7 = .ok (.iload_n 2, 1) := by decide +kernel
theorem dX7_coefficient_8 : decode cX7_coefficient 8 = .ok (.ifCond .lt 19, 3) := by decide +kernel
theorem dX7_coefficient_11 : decode cX7_coefficient 11 = .ok (.iload_n 2, 1) := by decide +kernel
theorem dX7_coefficient_12 : decode cX7_coefficient 12 = .ok (.bipush 6, 2) := by decide +kernel
theorem dX7_coefficient_14 : decode cX7_coefficient 14 = .ok (.if_icmp .gt 13, 3) := by decide +kernel
theorem dX7_coefficient_17 : decode cX7_coefficient 17 = .ok (.iload_n 3, 1) := by decide +kernel
theorem dX7_coefficient_18 : decode cX7_coefficient 18 = .ok (.ifCond .lt 9, 3) := by decide +kernel
theorem dX7_coefficient_21 : decode cX7_coefficient 21 = .ok (.iload_n 3, 1) := by decide +kernel
theorem dX7_coefficient_22 : decode cX7_coefficient 22 = .ok (.bipush 6, 2) := by decide +kernel
theorem dX7_coefficient_24 : decode cX7_coefficient 24 = .ok (.if_icmp .le 5, 3) := by decide +kernel
theorem dX7_coefficient_27 : decode cX7_coefficient 27 = .ok (.lconst 0, 1) := by decide +kernel
theorem dX7_coefficient_28 : decode cX7_coefficient 28 = .ok (.lreturn, 1) := by decide +kernel
theorem dX7_coefficient_29 : decode cX7_coefficient 29 = .ok (.aload_n 0, 1) := by decide +kernel
theorem dX7_coefficient_30 : decode cX7_coefficient 30 = .ok (.invokevirtual 130, 3) := by decide +kernel
theorem dX7_coefficient_33 : decode cX7_coefficient 33 = .ok (.aload_n 0, 1) := by decide +kernel
theorem dX7_coefficient_34 : decode cX7_coefficient 34 = .ok (.getfield 17, 3) := by decide +kernel
theorem dX7_coefficient_37 : decode cX7_coefficient 37 = .ok (.iload_n 1, 1) := by decide +kernel
theorem dX7_coefficient_38 : decode cX7_coefficient 38 = .ok (.baload, 1) := by decide +kernel
theorem dX7_coefficient_39 : decode cX7_coefficient 39 = .ok (.ifCond .eq 22, 3) := by decide +kernel
theorem dX7_coefficient_42 : decode cX7_coefficient 42 = .ok (.aload_n 0, 1) := by decide +kernel
theorem dX7_coefficient_43 : decode cX7_coefficient 43 = .ok (.getfield 21, 3) := by decide +kernel
theorem dX7_coefficient_46 : decode cX7_coefficient 46 = .ok (.bipush 49, 2) := by decide +kernel
theorem dX7_coefficient_48 : decode cX7_coefficient 48 = .ok (.iload_n 1, 1) := by decide +kernel
theorem dX7_coefficient_49 : decode cX7_coefficient 49 = .ok (.imul, 1) := by decide +kernel
theorem dX7_coefficient_50 : decode cX7_coefficient 50 = .ok (.bipush 7, 2) := by decide +kernel
theorem dX7_coefficient_52 : decode cX7_coefficient 52 = .ok (.iload_n 2, 1) := by decide +kernel
theorem dX7_coefficient_53 : decode cX7_coefficient 53 = .ok (.imul, 1) := by decide +kernel
theorem dX7_coefficient_54 : decode cX7_coefficient 54 = .ok (.iadd, 1) := by decide +kernel
theorem dX7_coefficient_55 : decode cX7_coefficient 55 = .ok (.iload_n 3, 1) := by decide +kernel
theorem dX7_coefficient_56 : decode cX7_coefficient 56 = .ok (.iadd, 1) := by decide +kernel
theorem dX7_coefficient_57 : decode cX7_coefficient 57 = .ok (.laload, 1) := by decide +kernel
theorem dX7_coefficient_58 : decode cX7_coefficient 58 = .ok (.goto 4, 3) := by decide +kernel
theorem dX7_coefficient_61 : decode cX7_coefficient 61 = .ok (.lconst 0, 1) := by decide +kernel
theorem dX7_coefficient_62 : decode cX7_coefficient 62 = .ok (.lreturn, 1) := by decide +kernel
set_option maxHeartbeats 4000000 in
set_option maxRecDepth 100000 in
theorem ct_X7_coefficient (l : Launch) (D : va_G) (ce : Nat → ClassId) (h : Nat → Nat) (F : Nat → Int) (I : Nat → Nat → Int32) (J : Nat → Nat → Int64) (sort i j : Int) (hok : rOK F I) (hs : -2147483648 ≤ sort ∧ sort < 2147483648) (hi : -2147483648 ≤ i ∧ i < 2147483648) (hj : -2147483648 ≤ j ∧ j < 2147483648) : Ct l yX7_coefficient cX7_coefficient 4 (some .long) { frames := 6, cells := 0, slots := 0, locals := 174 } 0 0 D (TY ce) [.ref (h 0), .int (zI sort), .int (zI i), .int (zI j)] (rW ce h F I J) (QL D (TY ce) (fun r w1 => ∃ r0 : Int64, ∃ F2 : Nat → Int, ∃ I2 : Nat → Nat → Int32, ∃ J2 : Nat → Nat → Int64, r = r0 ∧ w1 = rW ce h F2 I2 J2 ∧ (rOK F2 I2) ∧ (I2 0 = I 0) ∧ (¬ ((sort = 0 ∨ sort = 1) ∧ 0 ≤ i ∧ i ≤ 6 ∧ 0 ≤ j ∧ j ≤ 6) → r0 = 0))) := by
  refine Ct.ofL (by decide) (Nat.le_of_ble_eq_true rfl) ?_
  intro p e s m args below meth c A Q hX hnm hR
  refine Z.pick (lv' := [(0, .ref (h 0)), (1, .int (zI sort)), (2, .int (zI i)), (3, .int (zI j))]) [0, 1, 2, 3] rfl ?_
  refine Z.iload_n hX dX7_coefficient_0 rfl rfl ?_
  refine Z.callS0i (As := [.int (zI sort)]) (rest := []) hX (ct_X7_isSort l D ce sort (by omega)) mc_X7_isSort ml_X7_144 st_X7_isSort ini_X7 nd_X7_isSort ⟨Nat.le_of_ble_eq_true rfl, Nat.le_of_ble_eq_true rfl⟩ ⟨rfl, rfl⟩ ⟨Nat.le_refl _, Nat.le_refl _⟩ rfl (Nat.le_of_ble_eq_true rfl) dX7_coefficient_1 ?_
  rintro r_1 w1 ⟨zp, hr_, hw_, hzp⟩
  subst hr_
  refine ⟨hw_, ?_⟩
  refine Z.if_eq hX 27 dX7_coefficient_4 (by decide) ⟨by omega, by omega⟩ ?_ ?_
  · intro c2
    refine Z.lconst (v := 0) hX dX7_coefficient_27 rfl ?_
    exact hR _ _ _ _ dX7_coefficient_28 ⟨0, F, I, J, rfl, rfl, hok, rfl, (fun _ => rfl)⟩
  · intro c2
    refine Z.iload_n hX dX7_coefficient_7 rfl rfl ?_
    refine Z.if_lt hX 27 dX7_coefficient_8 (by decide) ⟨by omega, by omega⟩ ?_ ?_
    · intro c3
      refine Z.lconst (v := 0) hX dX7_coefficient_27 rfl ?_
      exact hR _ _ _ _ dX7_coefficient_28 ⟨0, F, I, J, rfl, rfl, hok, rfl, (fun _ => rfl)⟩
    · intro c3
      refine Z.iload_n hX dX7_coefficient_11 rfl rfl ?_
      refine Z.bipush hX dX7_coefficient_12 (by decide) ?_
      refine Z.icmp_gt hX 27 dX7_coefficient_14 (by decide) ⟨by omega, by omega⟩ ⟨by omega, by omega⟩ ?_ ?_
      · intro c4
        refine Z.lconst (v := 0) hX dX7_coefficient_27 rfl ?_
        exact hR _ _ _ _ dX7_coefficient_28 ⟨0, F, I, J, rfl, rfl, hok, rfl, (fun _ => rfl)⟩
      · intro c4
        refine Z.iload_n hX dX7_coefficient_17 rfl rfl ?_
        refine Z.if_lt hX 27 dX7_coefficient_18 (by decide) ⟨by omega, by omega⟩ ?_ ?_
        · intro c5
          refine Z.lconst (v := 0) hX dX7_coefficient_27 rfl ?_
          exact hR _ _ _ _ dX7_coefficient_28 ⟨0, F, I, J, rfl, rfl, hok, rfl, (fun _ => rfl)⟩
        · intro c5
          refine Z.iload_n hX dX7_coefficient_21 rfl rfl ?_
          refine Z.bipush hX dX7_coefficient_22 (by decide) ?_
          refine Z.icmp_le hX 29 dX7_coefficient_24 (by decide) ⟨by omega, by omega⟩ ⟨by omega, by omega⟩ ?_ ?_
          · intro c6
            refine Z.aload_n hX dX7_coefficient_29 rfl rfl ?_
            refine Z.callVfv (As := []) (rest := []) hX 7 0 rfl rfl (ct_X7_work l D ce h F I J hok) mc_X7_work ml_X7_130 im_X7_work se_X7_work ini_X7 nd_X7_work ⟨Nat.le_of_ble_eq_true rfl, Nat.le_of_ble_eq_true rfl⟩ ⟨rfl, rfl⟩ ⟨Nat.le_refl _, Nat.le_refl _⟩ rfl (Nat.le_of_ble_eq_true rfl) dX7_coefficient_30 ?_
            rintro w1 ⟨Fw, Iw, Jw, hw_, hokw, hfw, hmow, hIw, hdgw⟩
            subst hw_
            refine Z.aload_n hX dX7_coefficient_33 rfl rfl ?_
            refine Z.getf hX 7 0 5 dX7_coefficient_34 rfl rfl inX7 (by decide) fl_X7_17 rfl rfl ?_
            refine Z.iload_n hX dX7_coefficient_37 rfl rfl ?_
            refine Z.zaload hX 3 2 dX7_coefficient_38 rfl rfl (by omega) (by omega) (by decide) ?_
            refine Z.topi (fun z8 hz8 kz8 ez8 => ?_)
            refine Z.if_eq hX 61 dX7_coefficient_39 (by decide) ⟨by omega, by omega⟩ ?_ ?_
            · intro c9
              refine Z.lconst (v := 0) hX dX7_coefficient_61 rfl ?_
              exact hR _ _ _ _ dX7_coefficient_62 ⟨0, Fw, Iw, Jw, rfl, rfl, hokw, hIw, (fun q => absurd (by omega) q)⟩
            · intro c9
              refine Z.aload_n hX dX7_coefficient_42 rfl rfl ?_
              refine Z.getf hX 7 0 6 dX7_coefficient_43 rfl rfl inX7 (by decide) fl_X7_21 rfl rfl ?_
              refine Z.bipush hX dX7_coefficient_46 (by decide) ?_
              refine Z.iload_n hX dX7_coefficient_48 rfl rfl ?_
              refine Z.imul hX dX7_coefficient_49 ?_
              refine Z.bipush hX dX7_coefficient_50 (by decide) ?_
              refine Z.iload_n hX dX7_coefficient_52 rfl rfl ?_
              refine Z.imul hX dX7_coefficient_53 ?_
              refine Z.iadd hX dX7_coefficient_54 ?_
              refine Z.iload_n hX dX7_coefficient_55 rfl rfl ?_
              refine Z.iadd hX dX7_coefficient_56 ?_
              refine Z.laload hX 4 1 dX7_coefficient_57 rfl rfl (by omega) (by omega) (by decide) ?_
              refine Z.goto hX 62 dX7_coefficient_58 (by decide) ?_
              exact hR _ _ _ _ dX7_coefficient_62 ⟨(Jw 1 (((49 * sort) + (7 * i)) + j : Int).toNat), Fw, Iw, Jw, rfl, rfl, hokw, hIw, (fun q => absurd (by omega) q)⟩
          · intro c6
            refine Z.lconst (v := 0) hX dX7_coefficient_27 rfl ?_
            exact hR _ _ _ _ dX7_coefficient_28 ⟨0, F, I, J, rfl, rfl, hok, rfl, (fun _ => rfl)⟩

theorem dX7_side_0 : decode cX7_side 0 = .ok (.iload_n 1, 1) := by decide +kernel
theorem dX7_side_1 : decode cX7_side 1 = .ok (.invokestatic 144, 3) := by decide +kernel
theorem dX7_side_4 : decode cX7_side 4 = .ok (.ifCond .eq 13, 3) := by decide +kernel
theorem dX7_side_7 : decode cX7_side 7 = .ok (.iload_n 2, 1) := by decide +kernel
theorem dX7_side_8 : decode cX7_side 8 = .ok (.iload_n 3, 1) := by decide +kernel
theorem dX7_side_9 : decode cX7_side 9 = .ok (.iload 4, 2) := by decide +kernel
theorem dX7_side_11 : decode cX7_side 11 = .ok (.invokestatic 148, 3) := by decide +kernel
theorem dX7_side_14 : decode cX7_side 14 = .ok (.ifCond .ne 6, 3) := by decide +kernel
theorem dX7_side_17 : decode cX7_side 17 = .ok (.bipush (-9), 2) := by decide +kernel
theorem dX7_side_19 : decode cX7_side 19 = .ok (.ireturn, 1) := by decide +kernel
theorem dX7_side_20 : decode cX7_side 20 = .ok (.aload_n 0, 1) := by decide +kernel
theorem dX7_side_21 : decode cX7_side 21 = .ok (.invokevirtual 130, 3) := by decide +kernel
theorem dX7_side_24 : decode cX7_side 24 = .ok (.aload_n 0, 1) := by decide +kernel
theorem dX7_side_25 : decode cX7_side 25 = .ok (.getfield 17, 3) := by decide +kernel
theorem dX7_side_28 : decode cX7_side 28 = .ok (.iload_n 1, 1) := by decide +kernel
theorem dX7_side_29 : decode cX7_side 29 = .ok (.baload, 1) := by decide +kernel
theorem dX7_side_30 : decode cX7_side 30 = .ok (.ifCond .ne 6, 3) := by decide +kernel
theorem dX7_side_33 : decode cX7_side 33 = .ok (.bipush (-8), 2) := by decide +kernel
theorem dX7_side_35 : decode cX7_side 35 = .ok (.ireturn, 1) := by decide +kernel
theorem dX7_side_36 : decode cX7_side 36 = .ok (.lconst 0, 1) := by decide +kernel
theorem dX7_side_37 : decode cX7_side 37 = .ok (.lstore 5, 2) := by decide +kernel
theorem dX7_side_39 : decode cX7_side 39 = .ok (.lconst 0, 1) := by decide +kernel
theorem dX7_side_40 : decode cX7_side 40 = .ok (.lstore 7, 2) := by decide +kernel
theorem dX7_side_42 : decode cX7_side 42 = .ok (.iconst 0, 1) := by decide +kernel
theorem dX7_side_43 : decode cX7_side 43 = .ok (.istore 9, 2) := by decide +kernel
theorem dX7_side_45 : decode cX7_side 45 = .ok (.iload 9, 2) := by decide +kernel
theorem dX7_side_47 : decode cX7_side 47 = .ok (.bipush 7, 2) := by decide +kernel
theorem dX7_side_49 : decode cX7_side 49 = .ok (.if_icmp .ge 115, 3) := by decide +kernel
theorem dX7_side_52 : decode cX7_side 52 = .ok (.iconst 0, 1) := by decide +kernel
theorem dX7_side_53 : decode cX7_side 53 = .ok (.istore 10, 2) := by decide +kernel
theorem dX7_side_55 : decode cX7_side 55 = .ok (.iload 10, 2) := by decide +kernel
theorem dX7_side_57 : decode cX7_side 57 = .ok (.bipush 7, 2) := by decide +kernel
theorem dX7_side_59 : decode cX7_side 59 = .ok (.if_icmp .ge 99, 3) := by decide +kernel
theorem dX7_side_62 : decode cX7_side 62 = .ok (.aload_n 0, 1) := by decide +kernel
theorem dX7_side_63 : decode cX7_side 63 = .ok (.getfield 21, 3) := by decide +kernel
theorem dX7_side_66 : decode cX7_side 66 = .ok (.bipush 49, 2) := by decide +kernel
theorem dX7_side_68 : decode cX7_side 68 = .ok (.iload_n 1, 1) := by decide +kernel
theorem dX7_side_69 : decode cX7_side 69 = .ok (.imul, 1) := by decide +kernel
theorem dX7_side_70 : decode cX7_side 70 = .ok (.bipush 7, 2) := by decide +kernel
theorem dX7_side_72 : decode cX7_side 72 = .ok (.iload 9, 2) := by decide +kernel
theorem dX7_side_74 : decode cX7_side 74 = .ok (.imul, 1) := by decide +kernel
theorem dX7_side_75 : decode cX7_side 75 = .ok (.iadd, 1) := by decide +kernel
theorem dX7_side_76 : decode cX7_side 76 = .ok (.iload 10, 2) := by decide +kernel
theorem dX7_side_78 : decode cX7_side 78 = .ok (.iadd, 1) := by decide +kernel
theorem dX7_side_79 : decode cX7_side 79 = .ok (.laload, 1) := by decide +kernel
theorem dX7_side_80 : decode cX7_side 80 = .ok (.lstore 11, 2) := by decide +kernel
theorem dX7_side_82 : decode cX7_side 82 = .ok (.lload 11, 2) := by decide +kernel
theorem dX7_side_84 : decode cX7_side 84 = .ok (.lconst 0, 1) := by decide +kernel
theorem dX7_side_85 : decode cX7_side 85 = .ok (.lcmp, 1) := by decide +kernel
theorem dX7_side_86 : decode cX7_side 86 = .ok (.ifCond .eq 66, 3) := by decide +kernel
theorem dX7_side_89 : decode cX7_side 89 = .ok (.iload_n 2, 1) := by decide +kernel
theorem dX7_side_90 : decode cX7_side 90 = .ok (.i2l, 1) := by decide +kernel
theorem dX7_side_91 : decode cX7_side 91 = .ok (.iload 9, 2) := by decide +kernel
theorem dX7_side_93 : decode cX7_side 93 = .ok (.invokestatic 134, 3) := by decide +kernel
theorem dX7_side_96 : decode cX7_side 96 = .ok (.iload_n 3, 1) := by decide +kernel
theorem dX7_side_97 : decode cX7_side 97 = .ok (.i2l, 1) := by decide +kernel
theorem dX7_side_98 : decode cX7_side 98 = .ok (.iload 10, 2) := by decide +kernel
theorem dX7_side_100 : decode cX7_side 100 = .ok (.invokestatic 134, 3) := by decide +kernel
theorem dX7_side_103 : decode cX7_side 103 = .ok (.lmul, 1) := by decide +kernel
theorem dX7_side_104 : decode cX7_side 104 = .ok (.iload 4, 2) := by decide +kernel
theorem dX7_side_106 : decode cX7_side 106 = .ok (.i2l, 1) := by decide +kernel
theorem dX7_side_107 : decode cX7_side 107 = .ok (.aload_n 0, 1) := by decide +kernel
theorem dX7_side_108 : decode cX7_side 108 = .ok (.getfield 24, 3) := by decide +kernel
theorem dX7_side_111 : decode cX7_side 111 = .ok (.iload_n 1, 1) := by decide +kernel
theorem dX7_side_112 : decode cX7_side 112 = .ok (.iaload, 1) := by decide +kernel
theorem dX7_side_113 : decode cX7_side 113 = .ok (.iload 9, 2) := by decide +kernel
theorem dX7_side_115 : decode cX7_side 115 = .ok (.isub, 1) := by decide +kernel
theorem dX7_side_116 : decode cX7_side 116 = .ok (.iload 10, 2) := by decide +kernel
theorem dX7_side_118 : decode cX7_side 118 = .ok (.isub, 1) := by decide +kernel
theorem dX7_side_119 : decode cX7_side 119 = .ok (.invokestatic 134, 3) := by decide +kernel
theorem dX7_side_122 : decode cX7_side 122 = .ok (.lmul, 1) := by decide +kernel
theorem dX7_side_123 : decode cX7_side 123 = .ok (.lstore 13, 2) := by decide +kernel
theorem dX7_side_125 : decode cX7_side 125 = .ok (.lload 5, 2) := by decide +kernel
theorem dX7_side_127 : decode cX7_side 127 = .ok (.lload 11, 2) := by decide +kernel
theorem dX7_side_129 : decode cX7_side 129 = .ok (.bipush 30, 2) := by decide +kernel
theorem dX7_side_131 : decode cX7_side 131 = .ok (.lshr, 1) := by decide +kernel
theorem dX7_side_132 : decode cX7_side 132 = .ok (.lload 13, 2) := by decide +kernel
theorem dX7_side_134 : decode cX7_side 134 = .ok (.lmul, 1) := by decide +kernel
theorem dX7_side_135 : decode cX7_side 135 = .ok (.ladd, 1) := by decide +kernel
theorem dX7_side_136 : decode cX7_side 136 = .ok (.lstore 5, 2) := by decide +kernel
theorem dX7_side_138 : decode cX7_side 138 = .ok (.lload 7, 2) := by decide +kernel
theorem dX7_side_140 : decode cX7_side 140 = .ok (.lload 11, 2) := by decide +kernel
theorem dX7_side_142 : decode cX7_side 142 = .ok (.ldc2_w 152, 3) := by decide +kernel
theorem dX7_side_145 : decode cX7_side 145 = .ok (.land, 1) := by decide +kernel
theorem dX7_side_146 : decode cX7_side 146 = .ok (.lload 13, 2) := by decide +kernel
theorem dX7_side_148 : decode cX7_side 148 = .ok (.lmul, 1) := by decide +kernel
theorem dX7_side_149 : decode cX7_side 149 = .ok (.ladd, 1) := by decide +kernel
theorem dX7_side_150 : decode cX7_side 150 = .ok (.lstore 7, 2) := by decide +kernel
theorem dX7_side_152 : decode cX7_side 152 = .ok (.iinc 10 1, 3) := by decide +kernel
theorem dX7_side_155 : decode cX7_side 155 = .ok (.goto (-100), 3) := by decide +kernel
theorem dX7_side_158 : decode cX7_side 158 = .ok (.iinc 9 1, 3) := by decide +kernel
theorem dX7_side_161 : decode cX7_side 161 = .ok (.goto (-116), 3) := by decide +kernel
theorem dX7_side_164 : decode cX7_side 164 = .ok (.lload 5, 2) := by decide +kernel
theorem dX7_side_166 : decode cX7_side 166 = .ok (.lload 7, 2) := by decide +kernel
theorem dX7_side_168 : decode cX7_side 168 = .ok (.bipush 30, 2) := by decide +kernel
theorem dX7_side_170 : decode cX7_side 170 = .ok (.lshr, 1) := by decide +kernel
theorem dX7_side_171 : decode cX7_side 171 = .ok (.ladd, 1) := by decide +kernel
theorem dX7_side_172 : decode cX7_side 172 = .ok (.lstore 5, 2) := by decide +kernel
theorem dX7_side_174 : decode cX7_side 174 = .ok (.lload 7, 2) := by decide +kernel
theorem dX7_side_176 : decode cX7_side 176 = .ok (.ldc2_w 152, 3) := by decide +kernel
theorem dX7_side_179 : decode cX7_side 179 = .ok (.land, 1) := by decide +kernel
theorem dX7_side_180 : decode cX7_side 180 = .ok (.lstore 7, 2) := by decide +kernel
theorem dX7_side_182 : decode cX7_side 182 = .ok (.lload 5, 2) := by decide +kernel
theorem dX7_side_184 : decode cX7_side 184 = .ok (.lconst 0, 1) := by decide +kernel
theorem dX7_side_185 : decode cX7_side 185 = .ok (.lcmp, 1) := by decide +kernel
theorem dX7_side_186 : decode cX7_side 186 = .ok (.ifCond .le 7, 3) := by decide +kernel
theorem dX7_side_189 : decode cX7_side 189 = .ok (.iconst 1, 1) := by decide +kernel
theorem dX7_side_190 : decode cX7_side 190 = .ok (.goto 26, 3) := by decide +kernel
theorem dX7_side_193 : decode cX7_side 193 = .ok (.lload 5, 2) := by decide +kernel
theorem dX7_side_195 : decode cX7_side 195 = .ok (.lconst 0, 1) := by decide +kernel
theorem dX7_side_196 : decode cX7_side 196 = .ok (.lcmp, 1) := by decide +kernel
theorem dX7_side_197 : decode cX7_side 197 = .ok (.ifCond .ge 7, 3) := by decide +kernel
theorem dX7_side_200 : decode cX7_side 200 = .ok (.iconst (-1), 1) := by decide +kernel
theorem dX7_side_201 : decode cX7_side 201 = .ok (.goto 15, 3) := by decide +kernel
theorem dX7_side_204 : decode cX7_side 204 = .ok (.lload 7, 2) := by decide +kernel
theorem dX7_side_206 : decode cX7_side 206 = .ok (.lconst 0, 1) := by decide +kernel
theorem dX7_side_207 : decode cX7_side 207 = .ok (.lcmp, 1) := by decide +kernel
theorem dX7_side_208 : decode cX7_side 208 = .ok (.ifCond .le 7, 3) := by decide +kernel
theorem dX7_side_211 : decode cX7_side 211 = .ok (.iconst 1, 1) := by decide +kernel
theorem dX7_side_212 : decode cX7_side 212 = .ok (.goto 4, 3) := by decide +kernel
theorem dX7_side_215 : decode cX7_side 215 = .ok (.iconst 0, 1) := by decide +kernel
theorem dX7_side_216 : decode cX7_side 216 = .ok (.ireturn, 1) := by decide +kernel
set_option maxHeartbeats 4000000 in
set_option maxRecDepth 100000 in
theorem ct_X7_side (l : Launch) (D : va_G) (ce : Nat → ClassId) (h : Nat → Nat) (F : Nat → Int) (I : Nat → Nat → Int32) (J : Nat → Nat → Int64) (sort pp qq ss : Int) (hok : rOK F I) (hs : -2147483648 ≤ sort ∧ sort < 2147483648) (hp : -2147483648 ≤ pp ∧ pp < 2147483648) (hq : -2147483648 ≤ qq ∧ qq < 2147483648) (hss : -2147483648 ≤ ss ∧ ss < 2147483648) : Ct l yX7_side cX7_side 15 (some .int) { frames := 6, cells := 0, slots := 0, locals := 174 } 0 0 D (TY ce) [.ref (h 0), .int (zI sort), .int (zI pp), .int (zI qq), .int (zI ss)] (rW ce h F I J) (QI D (TY ce) (fun r w1 => ∃ z : Int, ∃ F2 : Nat → Int, ∃ I2 : Nat → Nat → Int32, ∃ J2 : Nat → Nat → Int64, r = zI z ∧ w1 = rW ce h F2 I2 J2 ∧ (rOK F2 I2) ∧ (I2 0 = I 0) ∧ (¬ ((sort = 0 ∨ sort = 1) ∧ (-20 ≤ pp ∧ pp ≤ 20 ∧ -20 ≤ qq ∧ qq ≤ 20 ∧ 1 ≤ ss ∧ ss ≤ 9)) → z = -9))) := by
  refine Ct.ofI (by decide) (Nat.le_of_ble_eq_true rfl) ?_
  intro p e s m args below meth c A Q hX hnm hR
  refine Z.pick (lv' := [(0, .ref (h 0)), (1, .int (zI sort)), (2, .int (zI pp)), (3, .int (zI qq)), (4, .int (zI ss))]) [0, 1, 2, 3, 4] rfl ?_
  refine Z.iload_n hX dX7_side_0 rfl rfl ?_
  refine Z.callS0i (As := [.int (zI sort)]) (rest := []) hX (ct_X7_isSort l D ce sort (by omega)) mc_X7_isSort ml_X7_144 st_X7_isSort ini_X7 nd_X7_isSort ⟨Nat.le_of_ble_eq_true rfl, Nat.le_of_ble_eq_true rfl⟩ ⟨rfl, rfl⟩ ⟨Nat.le_refl _, Nat.le_refl _⟩ rfl (Nat.le_of_ble_eq_true rfl) dX7_side_1 ?_
  rintro r_1 w1 ⟨zp, hr_, hw_, hzp⟩
  subst hr_
  refine ⟨hw_, ?_⟩
  refine Z.if_eq hX 17 dX7_side_4 (by decide) ⟨by omega, by omega⟩ ?_ ?_
  · intro c2
    refine Z.bipush hX dX7_side_17 (by decide) ?_
    exact hR _ _ _ _ dX7_side_19 ⟨(-9), F, I, J, rfl, rfl, hok, rfl, (fun _ => rfl)⟩
  · intro c2
    refine Z.iload_n hX dX7_side_7 rfl rfl ?_
    refine Z.iload_n hX dX7_side_8 rfl rfl ?_
    refine Z.iload hX dX7_side_9 rfl ?_
    refine Z.callS0i (As := [.int (zI pp), .int (zI qq), .int (zI ss)]) (rest := []) hX (ct_X7_isPlace l D ce pp qq ss (by omega) (by omega) (by omega)) mc_X7_isPlace ml_X7_148 st_X7_isPlace ini_X7 nd_X7_isPlace ⟨Nat.le_of_ble_eq_true rfl, Nat.le_of_ble_eq_true rfl⟩ ⟨rfl, rfl⟩ ⟨Nat.le_refl _, Nat.le_refl _⟩ rfl (Nat.le_of_ble_eq_true rfl) dX7_side_11 ?_
    rintro r_3 w1 ⟨zq, hr_, hw_, hzq⟩
    subst hr_
    refine ⟨hw_, ?_⟩
    refine Z.if_ne hX 20 dX7_side_14 (by decide) ⟨by omega, by omega⟩ ?_ ?_
    · intro c4
      refine Z.aload_n hX dX7_side_20 rfl rfl ?_
      refine Z.callVfv (As := []) (rest := []) hX 7 0 rfl rfl (ct_X7_work l D ce h F I J hok) mc_X7_work ml_X7_130 im_X7_work se_X7_work ini_X7 nd_X7_work ⟨Nat.le_of_ble_eq_true rfl, Nat.le_of_ble_eq_true rfl⟩ ⟨rfl, rfl⟩ ⟨Nat.le_refl _, Nat.le_refl _⟩ rfl (Nat.le_of_ble_eq_true rfl) dX7_side_21 ?_
      rintro w1 ⟨Fw, Iw, Jw, hw_, hokw, hfw, hmow, hIw, hdgw⟩
      subst hw_
      refine Z.aload_n hX dX7_side_24 rfl rfl ?_
      refine Z.getf hX 7 0 5 dX7_side_25 rfl rfl inX7 (by decide) fl_X7_17 rfl rfl ?_
      refine Z.iload_n hX dX7_side_28 rfl rfl ?_
      refine Z.zaload hX 3 2 dX7_side_29 rfl rfl (by omega) (by omega) (by decide) ?_
      refine Z.topi (fun z6 hz6 kz6 ez6 => ?_)
      refine Z.if_ne hX 36 dX7_side_30 (by decide) ⟨by omega, by omega⟩ ?_ ?_
      · intro c7
        refine Z.lconst (v := 0) hX dX7_side_36 rfl ?_
        refine Z.lstore (lv' := [(5, .long 0), (0, .ref (h 0)), (1, .int (zI sort)), (2, .int (zI pp)), (3, .int (zI qq)), (4, .int (zI ss))]) hX dX7_side_37 (by decide) rfl ?_
        refine Z.lconst (v := 0) hX dX7_side_39 rfl ?_
        refine Z.lstore (lv' := [(7, .long 0), (5, .long 0), (0, .ref (h 0)), (1, .int (zI sort)), (2, .int (zI pp)), (3, .int (zI qq)), (4, .int (zI ss))]) hX dX7_side_40 (by decide) rfl ?_
        refine Z.iconst hX dX7_side_42 ?_
        refine Z.istore (lv' := [(9, .int (zI 0)), (7, .long 0), (5, .long 0), (0, .ref (h 0)), (1, .int (zI sort)), (2, .int (zI pp)), (3, .int (zI qq)), (4, .int (zI ss))]) hX dX7_side_43 (by decide) rfl ?_
        have key_45 : ∀ (N : Nat), ∀ (i : Int) (hi_ lo_ : Int64), (7 - i).toNat < N → (hi1 : 0 ≤ i ∧ i ≤ 7) → Z p l e { frames := 6, cells := 0, slots := 0, locals := 174 } s m args below meth c D A 15 0 0 Q 45 [(9, .int (zI i)), (5, .long hi_), (7, .long lo_), (4, .int (zI ss)), (3, .int (zI qq)), (2, .int (zI pp)), (1, .int (zI sort)), (0, .ref (h 0))] [] (rW ce h Fw Iw Jw) := by
          intro N
          induction N with
          | zero => intro i hi_ lo_ hm; exact absurd hm (Nat.not_lt_zero _)
          | succ N ih_45 =>
            intro i hi_ lo_ hm hi1
            refine Z.iload hX dX7_side_45 rfl ?_
            refine Z.bipush hX dX7_side_47 (by decide) ?_
            refine Z.icmp_ge hX 164 dX7_side_49 (by decide) ⟨by omega, by omega⟩ ⟨by omega, by omega⟩ ?_ ?_
            · intro c8
              refine Z.lload hX dX7_side_164 rfl ?_
              refine Z.lload hX dX7_side_166 rfl ?_
              refine Z.bipush hX dX7_side_168 (by decide) ?_
              refine Z.lshr hX dX7_side_170 rfl ?_
              refine Z.topl (fun y9 ey9 => ?_)
              refine Z.ladd hX dX7_side_171 ?_
              refine Z.lstore (lv' := [(5, .long (hi_ + y9)), (9, .int (zI i)), (7, .long lo_), (4, .int (zI ss)), (3, .int (zI qq)), (2, .int (zI pp)), (1, .int (zI sort)), (0, .ref (h 0))]) hX dX7_side_172 (by decide) rfl ?_
              refine Z.lload hX dX7_side_174 rfl ?_
              refine Z.ldc2 hX dX7_side_176 co_X7_152 ?_
              refine Z.land hX dX7_side_179 ?_
              refine Z.lstore (lv' := [(7, .long (lo_ &&& 1073741823)), (5, .long (hi_ + y9)), (9, .int (zI i)), (4, .int (zI ss)), (3, .int (zI qq)), (2, .int (zI pp)), (1, .int (zI sort)), (0, .ref (h 0))]) hX dX7_side_180 (by decide) rfl ?_
              refine Z.lload hX dX7_side_182 rfl ?_
              refine Z.lconst (v := 0) hX dX7_side_184 rfl ?_
              refine Z.lcmp_le hX 193 dX7_side_185 dX7_side_186 (by decide) ?_ ?_
              · intro c10
                refine Z.lload hX dX7_side_193 rfl ?_
                refine Z.lconst (v := 0) hX dX7_side_195 rfl ?_
                refine Z.lcmp_ge hX 204 dX7_side_196 dX7_side_197 (by decide) ?_ ?_
                · intro c11
                  refine Z.lload hX dX7_side_204 rfl ?_
                  refine Z.lconst (v := 0) hX dX7_side_206 rfl ?_
                  refine Z.lcmp_le hX 215 dX7_side_207 dX7_side_208 (by decide) ?_ ?_
                  · intro c12
                    refine Z.iconst hX dX7_side_215 ?_
                    exact hR _ _ _ _ dX7_side_216 ⟨0, Fw, Iw, Jw, rfl, rfl, hokw, hIw, (fun q => absurd (by omega) q)⟩
                  · intro c12
                    refine Z.iconst hX dX7_side_211 ?_
                    refine Z.goto hX 216 dX7_side_212 (by decide) ?_
                    exact hR _ _ _ _ dX7_side_216 ⟨1, Fw, Iw, Jw, rfl, rfl, hokw, hIw, (fun q => absurd (by omega) q)⟩
                · intro c11
                  refine Z.iconst hX dX7_side_200 ?_
                  refine Z.goto hX 216 dX7_side_201 (by decide) ?_
                  exact hR _ _ _ _ dX7_side_216 ⟨(-1), Fw, Iw, Jw, rfl, rfl, hokw, hIw, (fun q => absurd (by omega) q)⟩
              · intro c10
                refine Z.iconst hX dX7_side_189 ?_
                refine Z.goto hX 216 dX7_side_190 (by decide) ?_
                exact hR _ _ _ _ dX7_side_216 ⟨1, Fw, Iw, Jw, rfl, rfl, hokw, hIw, (fun q => absurd (by omega) q)⟩
            · intro c8
              refine Z.iconst hX dX7_side_52 ?_
              refine Z.istore (lv' := [(10, .int (zI 0)), (9, .int (zI i)), (5, .long hi_), (7, .long lo_), (4, .int (zI ss)), (3, .int (zI qq)), (2, .int (zI pp)), (1, .int (zI sort)), (0, .ref (h 0))]) hX dX7_side_53 (by decide) rfl ?_
              have key_55 : ∀ (N : Nat), ∀ (j : Int) (hi_ lo_ : Int64), (7 - j).toNat < N → (hj1 : 0 ≤ j ∧ j ≤ 7) → Z p l e { frames := 6, cells := 0, slots := 0, locals := 174 } s m args below meth c D A 15 0 0 Q 55 [(10, .int (zI j)), (9, .int (zI i)), (5, .long hi_), (7, .long lo_), (4, .int (zI ss)), (3, .int (zI qq)), (2, .int (zI pp)), (1, .int (zI sort)), (0, .ref (h 0))] [] (rW ce h Fw Iw Jw) := by
                intro N
                induction N with
                | zero => intro j hi_ lo_ hm; exact absurd hm (Nat.not_lt_zero _)
                | succ N ih_55 =>
                  intro j hi_ lo_ hm hj1
                  refine Z.iload hX dX7_side_55 rfl ?_
                  refine Z.bipush hX dX7_side_57 (by decide) ?_
                  refine Z.icmp_ge hX 158 dX7_side_59 (by decide) ⟨by omega, by omega⟩ ⟨by omega, by omega⟩ ?_ ?_
                  · intro c13
                    refine Z.iinc (lv' := [(9, .int (zI (i + 1))), (10, .int (zI j)), (5, .long hi_), (7, .long lo_), (4, .int (zI ss)), (3, .int (zI qq)), (2, .int (zI pp)), (1, .int (zI sort)), (0, .ref (h 0))]) hX dX7_side_158 rfl (by decide) rfl ?_
                    refine Z.goto hX 45 dX7_side_161 (by decide) ?_
                    refine Z.pick [0, 2, 3, 4, 5, 6, 7, 8] rfl ?_
                    exact ih_45 _ _ _ (by omega) (by omega)
                  · intro c13
                    refine Z.aload_n hX dX7_side_62 rfl rfl ?_
                    refine Z.getf hX 7 0 6 dX7_side_63 rfl rfl inX7 (by decide) fl_X7_21 rfl rfl ?_
                    refine Z.bipush hX dX7_side_66 (by decide) ?_
                    refine Z.iload_n hX dX7_side_68 rfl rfl ?_
                    refine Z.imul hX dX7_side_69 ?_
                    refine Z.bipush hX dX7_side_70 (by decide) ?_
                    refine Z.iload hX dX7_side_72 rfl ?_
                    refine Z.imul hX dX7_side_74 ?_
                    refine Z.iadd hX dX7_side_75 ?_
                    refine Z.iload hX dX7_side_76 rfl ?_
                    refine Z.iadd hX dX7_side_78 ?_
                    refine Z.laload hX 4 1 dX7_side_79 rfl rfl (by omega) (by omega) (by decide) ?_
                    refine Z.lstore (lv' := [(11, .long (Jw 1 (((49 * sort) + (7 * i)) + j : Int).toNat)), (10, .int (zI j)), (9, .int (zI i)), (5, .long hi_), (7, .long lo_), (4, .int (zI ss)), (3, .int (zI qq)), (2, .int (zI pp)), (1, .int (zI sort)), (0, .ref (h 0))]) hX dX7_side_80 (by decide) rfl ?_
                    refine Z.lload hX dX7_side_82 rfl ?_
                    refine Z.lconst (v := 0) hX dX7_side_84 rfl ?_
                    refine Z.lcmp_eq hX 152 dX7_side_85 dX7_side_86 (by decide) ?_ ?_
                    · intro c14
                      refine Z.iinc (lv' := [(10, .int (zI (j + 1))), (11, .long (Jw 1 (((49 * sort) + (7 * i)) + j : Int).toNat)), (9, .int (zI i)), (5, .long hi_), (7, .long lo_), (4, .int (zI ss)), (3, .int (zI qq)), (2, .int (zI pp)), (1, .int (zI sort)), (0, .ref (h 0))]) hX dX7_side_152 rfl (by decide) rfl ?_
                      refine Z.goto hX 55 dX7_side_155 (by decide) ?_
                      refine Z.pick [0, 2, 3, 4, 5, 6, 7, 8, 9] rfl ?_
                      exact ih_55 _ _ _ (by omega) (by omega)
                    · intro c14
                      refine Z.iload_n hX dX7_side_89 rfl rfl ?_
                      refine Z.i2l hX dX7_side_90 ⟨by omega, by omega⟩ ?_
                      refine Z.iload hX dX7_side_91 rfl ?_
                      refine Z.callS0l (As := [.long (zL pp), .int (zI i)]) (rest := []) hX (ct_X7_raised l D ce (zL pp) i (by omega)) mc_X7_raised ml_X7_134 st_X7_raised ini_X7 nd_X7_raised ⟨Nat.le_of_ble_eq_true rfl, Nat.le_of_ble_eq_true rfl⟩ ⟨rfl, rfl⟩ ⟨Nat.le_refl _, Nat.le_refl _⟩ rfl (Nat.le_of_ble_eq_true rfl) dX7_side_93 ?_
                      rintro r_15 w1 ⟨r016, hr_, hw_, hq17⟩
                      subst hr_
                      refine ⟨hw_, ?_⟩
                      refine Z.iload_n hX dX7_side_96 rfl rfl ?_
                      refine Z.i2l hX dX7_side_97 ⟨by omega, by omega⟩ ?_
                      refine Z.iload hX dX7_side_98 rfl ?_
                      refine Z.callS0l (As := [.long (zL qq), .int (zI j)]) (rest := [.long r_15]) hX (ct_X7_raised l D ce (zL qq) j (by omega)) mc_X7_raised ml_X7_134 st_X7_raised ini_X7 nd_X7_raised ⟨Nat.le_of_ble_eq_true rfl, Nat.le_of_ble_eq_true rfl⟩ ⟨rfl, rfl⟩ ⟨Nat.le_refl _, Nat.le_refl _⟩ rfl (Nat.le_of_ble_eq_true rfl) dX7_side_100 ?_
                      rintro r_18 w1 ⟨r019, hr_, hw_, hq20⟩
                      subst hr_
                      refine ⟨hw_, ?_⟩
                      refine Z.lmul hX dX7_side_103 ?_
                      refine Z.iload hX dX7_side_104 rfl ?_
                      refine Z.i2l hX dX7_side_106 ⟨by omega, by omega⟩ ?_
                      refine Z.aload_n hX dX7_side_107 rfl rfl ?_
                      refine Z.getf hX 7 0 7 dX7_side_108 rfl rfl inX7 (by decide) fl_X7_24 rfl rfl ?_
                      refine Z.iload_n hX dX7_side_111 rfl rfl ?_
                      refine Z.iaload hX 5 0 dX7_side_112 rfl rfl (by omega) (by omega) (by decide) ?_
                      refine Z.topi (fun z21 hz21 kz21 ez21 => ?_)
                      have hdz := DG_z hdgw (by omega) ez21 hz21 kz21
                      refine Z.iload hX dX7_side_113 rfl ?_
                      refine Z.isub hX dX7_side_115 ?_
                      refine Z.iload hX dX7_side_116 rfl ?_
                      refine Z.isub hX dX7_side_118 ?_
                      refine Z.callS0l (As := [.long (zL ss), .int (zI ((z21 - i) - j))]) (rest := [.long (r_15 * r_18)]) hX (ct_X7_raised l D ce (zL ss) ((z21 - i) - j) (by omega)) mc_X7_raised ml_X7_134 st_X7_raised ini_X7 nd_X7_raised ⟨Nat.le_of_ble_eq_true rfl, Nat.le_of_ble_eq_true rfl⟩ ⟨rfl, rfl⟩ ⟨Nat.le_refl _, Nat.le_refl _⟩ rfl (Nat.le_of_ble_eq_true rfl) dX7_side_119 ?_
                      rintro r_22 w1 ⟨r023, hr_, hw_, hq24⟩
                      subst hr_
                      refine ⟨hw_, ?_⟩
                      refine Z.lmul hX dX7_side_122 ?_
                      refine Z.lstore (lv' := [(13, .long ((r_15 * r_18) * r_22)), (11, .long (Jw 1 (((49 * sort) + (7 * i)) + j : Int).toNat)), (10, .int (zI j)), (9, .int (zI i)), (5, .long hi_), (7, .long lo_), (4, .int (zI ss)), (3, .int (zI qq)), (2, .int (zI pp)), (1, .int (zI sort)), (0, .ref (h 0))]) hX dX7_side_123 (by decide) rfl ?_
                      refine Z.lload hX dX7_side_125 rfl ?_
                      refine Z.lload hX dX7_side_127 rfl ?_
                      refine Z.bipush hX dX7_side_129 (by decide) ?_
                      refine Z.lshr hX dX7_side_131 rfl ?_
                      refine Z.topl (fun y25 ey25 => ?_)
                      refine Z.lload hX dX7_side_132 rfl ?_
                      refine Z.lmul hX dX7_side_134 ?_
                      refine Z.ladd hX dX7_side_135 ?_
                      refine Z.lstore (lv' := [(5, .long (hi_ + (y25 * ((r_15 * r_18) * r_22)))), (13, .long ((r_15 * r_18) * r_22)), (11, .long (Jw 1 (((49 * sort) + (7 * i)) + j : Int).toNat)), (10, .int (zI j)), (9, .int (zI i)), (7, .long lo_), (4, .int (zI ss)), (3, .int (zI qq)), (2, .int (zI pp)), (1, .int (zI sort)), (0, .ref (h 0))]) hX dX7_side_136 (by decide) rfl ?_
                      refine Z.lload hX dX7_side_138 rfl ?_
                      refine Z.lload hX dX7_side_140 rfl ?_
                      refine Z.ldc2 hX dX7_side_142 co_X7_152 ?_
                      refine Z.land hX dX7_side_145 ?_
                      refine Z.lload hX dX7_side_146 rfl ?_
                      refine Z.lmul hX dX7_side_148 ?_
                      refine Z.ladd hX dX7_side_149 ?_
                      refine Z.lstore (lv' := [(7, .long (lo_ + (((Jw 1 (((49 * sort) + (7 * i)) + j : Int).toNat) &&& 1073741823) * ((r_15 * r_18) * r_22)))), (5, .long (hi_ + (y25 * ((r_15 * r_18) * r_22)))), (13, .long ((r_15 * r_18) * r_22)), (11, .long (Jw 1 (((49 * sort) + (7 * i)) + j : Int).toNat)), (10, .int (zI j)), (9, .int (zI i)), (4, .int (zI ss)), (3, .int (zI qq)), (2, .int (zI pp)), (1, .int (zI sort)), (0, .ref (h 0))]) hX dX7_side_150 (by decide) rfl ?_
                      refine Z.iinc (lv' := [(10, .int (zI (j + 1))), (7, .long (lo_ + (((Jw 1 (((49 * sort) + (7 * i)) + j : Int).toNat) &&& 1073741823) * ((r_15 * r_18) * r_22)))), (5, .long (hi_ + (y25 * ((r_15 * r_18) * r_22)))), (13, .long ((r_15 * r_18) * r_22)), (11, .long (Jw 1 (((49 * sort) + (7 * i)) + j : Int).toNat)), (9, .int (zI i)), (4, .int (zI ss)), (3, .int (zI qq)), (2, .int (zI pp)), (1, .int (zI sort)), (0, .ref (h 0))]) hX dX7_side_152 rfl (by decide) rfl ?_
                      refine Z.goto hX 55 dX7_side_155 (by decide) ?_
                      refine Z.pick [0, 5, 2, 1, 6, 7, 8, 9, 10] rfl ?_
                      exact ih_55 _ _ _ (by omega) (by omega)
              refine Z.pick [0, 1, 2, 3, 4, 5, 6, 7, 8] rfl ?_
              exact key_55 _ _ _ _ (Nat.lt_succ_self _) (by omega)
        refine Z.pick [0, 2, 1, 7, 6, 5, 4, 3] rfl ?_
        exact key_45 _ _ _ _ (Nat.lt_succ_self _) (by omega)
      · intro c7
        refine Z.bipush hX dX7_side_33 (by decide) ?_
        exact hR _ _ _ _ dX7_side_35 ⟨(-8), Fw, Iw, Jw, rfl, rfl, hokw, hIw, (fun q => absurd (by omega) q)⟩
    · intro c4
      refine Z.bipush hX dX7_side_17 (by decide) ?_
      exact hR _ _ _ _ dX7_side_19 ⟨(-9), F, I, J, rfl, rfl, hok, rfl, (fun _ => rfl)⟩

theorem dX7_traced_0 : decode cX7_traced 0 = .ok (.lconst 0, 1) := by decide +kernel
theorem dX7_traced_1 : decode cX7_traced 1 = .ok (.lstore 10, 2) := by decide +kernel
theorem dX7_traced_3 : decode cX7_traced 3 = .ok (.iconst 0, 1) := by decide +kernel
theorem dX7_traced_4 : decode cX7_traced 4 = .ok (.istore 12, 2) := by decide +kernel
theorem dX7_traced_6 : decode cX7_traced 6 = .ok (.iload 12, 2) := by decide +kernel
theorem dX7_traced_8 : decode cX7_traced 8 = .ok (.bipush 7, 2) := by decide +kernel
theorem dX7_traced_10 : decode cX7_traced 10 = .ok (.if_icmp .ge 132, 3) := by decide +kernel
theorem dX7_traced_13 : decode cX7_traced 13 = .ok (.iconst 0, 1) := by decide +kernel
theorem dX7_traced_14 : decode cX7_traced 14 = .ok (.istore 13, 2) := by decide +kernel
theorem dX7_traced_16 : decode cX7_traced 16 = .ok (.iload 13, 2) := by decide +kernel
theorem dX7_traced_18 : decode cX7_traced 18 = .ok (.bipush 7, 2) := by decide +kernel
theorem dX7_traced_20 : decode cX7_traced 20 = .ok (.if_icmp .ge 116, 3) := by decide +kernel
theorem dX7_traced_23 : decode cX7_traced 23 = .ok (.aload_n 0, 1) := by decide +kernel
theorem dX7_traced_24 : decode cX7_traced 24 = .ok (.getfield 21, 3) := by decide +kernel
theorem dX7_traced_27 : decode cX7_traced 27 = .ok (.bipush 49, 2) := by decide +kernel
theorem dX7_traced_29 : decode cX7_traced 29 = .ok (.iload_n 1, 1) := by decide +kernel
theorem dX7_traced_30 : decode cX7_traced 30 = .ok (.imul, 1) := by decide +kernel
theorem dX7_traced_31 : decode cX7_traced 31 = .ok (.bipush 7, 2) := by decide +kernel
theorem dX7_traced_33 : decode cX7_traced 33 = .ok (.iload 12, 2) := by decide +kernel
theorem dX7_traced_35 : decode cX7_traced 35 = .ok (.imul, 1) := by decide +kernel
theorem dX7_traced_36 : decode cX7_traced 36 = .ok (.iadd, 1) := by decide +kernel
theorem dX7_traced_37 : decode cX7_traced 37 = .ok (.iload 13, 2) := by decide +kernel
theorem dX7_traced_39 : decode cX7_traced 39 = .ok (.iadd, 1) := by decide +kernel
theorem dX7_traced_40 : decode cX7_traced 40 = .ok (.laload, 1) := by decide +kernel
theorem dX7_traced_41 : decode cX7_traced 41 = .ok (.lstore 14, 2) := by decide +kernel
theorem dX7_traced_43 : decode cX7_traced 43 = .ok (.lload 14, 2) := by decide +kernel
theorem dX7_traced_45 : decode cX7_traced 45 = .ok (.lconst 0, 1) := by decide +kernel
theorem dX7_traced_46 : decode cX7_traced 46 = .ok (.lcmp, 1) := by decide +kernel
theorem dX7_traced_47 : decode cX7_traced 47 = .ok (.ifCond .eq 83, 3) := by decide +kernel
theorem dX7_traced_50 : decode cX7_traced 50 = .ok (.lload 14, 2) := by decide +kernel
theorem dX7_traced_52 : decode cX7_traced 52 = .ok (.lload 8, 2) := by decide +kernel
theorem dX7_traced_54 : decode cX7_traced 54 = .ok (.invokestatic 154, 3) := by decide +kernel
theorem dX7_traced_57 : decode cX7_traced 57 = .ok (.lstore 16, 2) := by decide +kernel
theorem dX7_traced_59 : decode cX7_traced 59 = .ok (.iconst 0, 1) := by decide +kernel
theorem dX7_traced_60 : decode cX7_traced 60 = .ok (.istore 18, 2) := by decide +kernel
theorem dX7_traced_62 : decode cX7_traced 62 = .ok (.iload 18, 2) := by decide +kernel
theorem dX7_traced_64 : decode cX7_traced 64 = .ok (.aload_n 0, 1) := by decide +kernel
theorem dX7_traced_65 : decode cX7_traced 65 = .ok (.getfield 24, 3) := by decide +kernel
theorem dX7_traced_68 : decode cX7_traced 68 = .ok (.iload_n 1, 1) := by decide +kernel
theorem dX7_traced_69 : decode cX7_traced 69 = .ok (.iaload, 1) := by decide +kernel
theorem dX7_traced_70 : decode cX7_traced 70 = .ok (.if_icmp .ge 50, 3) := by decide +kernel
theorem dX7_traced_73 : decode cX7_traced 73 = .ok (.lload 16, 2) := by decide +kernel
theorem dX7_traced_75 : decode cX7_traced 75 = .ok (.iload 18, 2) := by decide +kernel
theorem dX7_traced_77 : decode cX7_traced 77 = .ok (.iload 12, 2) := by decide +kernel
theorem dX7_traced_79 : decode cX7_traced 79 = .ok (.if_icmp .ge 7, 3) := by decide +kernel
theorem dX7_traced_82 : decode cX7_traced 82 = .ok (.lload_n 2, 1) := by decide +kernel
theorem dX7_traced_83 : decode cX7_traced 83 = .ok (.goto 20, 3) := by decide +kernel
theorem dX7_traced_86 : decode cX7_traced 86 = .ok (.iload 18, 2) := by decide +kernel
theorem dX7_traced_88 : decode cX7_traced 88 = .ok (.iload 12, 2) := by decide +kernel
theorem dX7_traced_90 : decode cX7_traced 90 = .ok (.iload 13, 2) := by decide +kernel
theorem dX7_traced_92 : decode cX7_traced 92 = .ok (.iadd, 1) := by decide +kernel
theorem dX7_traced_93 : decode cX7_traced 93 = .ok (.if_icmp .ge 8, 3) := by decide +kernel
theorem dX7_traced_96 : decode cX7_traced 96 = .ok (.lload 4, 2) := by decide +kernel
theorem dX7_traced_98 : decode cX7_traced 98 = .ok (.goto 5, 3) := by decide +kernel
theorem dX7_traced_101 : decode cX7_traced 101 = .ok (.lload 6, 2) := by decide +kernel
theorem dX7_traced_103 : decode cX7_traced 103 = .ok (.lload 8, 2) := by decide +kernel
theorem dX7_traced_105 : decode cX7_traced 105 = .ok (.invokestatic 154, 3) := by decide +kernel
theorem dX7_traced_108 : decode cX7_traced 108 = .ok (.lmul, 1) := by decide +kernel
theorem dX7_traced_109 : decode cX7_traced 109 = .ok (.lload 8, 2) := by decide +kernel
theorem dX7_traced_111 : decode cX7_traced 111 = .ok (.lrem, 1) := by decide +kernel
theorem dX7_traced_112 : decode cX7_traced 112 = .ok (.lstore 16, 2) := by decide +kernel
theorem dX7_traced_114 : decode cX7_traced 114 = .ok (.iinc 18 1, 3) := by decide +kernel
theorem dX7_traced_117 : decode cX7_traced 117 = .ok (.goto (-55), 3) := by decide +kernel
theorem dX7_traced_120 : decode cX7_traced 120 = .ok (.lload 10, 2) := by decide +kernel
theorem dX7_traced_122 : decode cX7_traced 122 = .ok (.lload 16, 2) := by decide +kernel
theorem dX7_traced_124 : decode cX7_traced 124 = .ok (.ladd, 1) := by decide +kernel
theorem dX7_traced_125 : decode cX7_traced 125 = .ok (.lload 8, 2) := by decide +kernel
theorem dX7_traced_127 : decode cX7_traced 127 = .ok (.lrem, 1) := by decide +kernel
theorem dX7_traced_128 : decode cX7_traced 128 = .ok (.lstore 10, 2) := by decide +kernel
theorem dX7_traced_130 : decode cX7_traced 130 = .ok (.iinc 13 1, 3) := by decide +kernel
theorem dX7_traced_133 : decode cX7_traced 133 = .ok (.goto (-117), 3) := by decide +kernel
theorem dX7_traced_136 : decode cX7_traced 136 = .ok (.iinc 12 1, 3) := by decide +kernel
theorem dX7_traced_139 : decode cX7_traced 139 = .ok (.goto (-133), 3) := by decide +kernel
theorem dX7_traced_142 : decode cX7_traced 142 = .ok (.lload 10, 2) := by decide +kernel
theorem dX7_traced_144 : decode cX7_traced 144 = .ok (.lreturn, 1) := by decide +kernel
set_option maxHeartbeats 4000000 in
set_option maxRecDepth 100000 in
theorem ct_X7_traced (l : Launch) (D : va_G) (ce : Nat → ClassId) (h : Nat → Nat) (F : Nat → Int) (I : Nat → Nat → Int32) (J : Nat → Nat → Int64) (sort : Int) (xx yy ww md : Int64) (hs : 0 ≤ sort ∧ sort ≤ 1) (hmd : ¬ md = 0) (hdg : DGok (I 2)) : Ct l yX7_traced cX7_traced 19 (some .long) { frames := 1, cells := 0, slots := 0, locals := 23 } 0 0 D (TY ce) [.ref (h 0), .int (zI sort), .long xx, .long yy, .long ww, .long md] (rW ce h F I J) (QL D (TY ce) (fun r w1 => ∃ r0 : Int64, r = r0 ∧ w1 = rW ce h F I J)) := by
  refine Ct.ofL (by decide) (Nat.le_of_ble_eq_true rfl) ?_
  intro p e s m args below meth c A Q hX hnm hR
  refine Z.pick (lv' := [(0, .ref (h 0)), (1, .int (zI sort)), (2, .long xx), (4, .long yy), (6, .long ww), (8, .long md)]) [0, 1, 2, 3, 4, 5] rfl ?_
  refine Z.lconst (v := 0) hX dX7_traced_0 rfl ?_
  refine Z.lstore (lv' := [(10, .long 0), (0, .ref (h 0)), (1, .int (zI sort)), (2, .long xx), (4, .long yy), (6, .long ww), (8, .long md)]) hX dX7_traced_1 (by decide) rfl ?_
  refine Z.iconst hX dX7_traced_3 ?_
  refine Z.istore (lv' := [(12, .int (zI 0)), (10, .long 0), (0, .ref (h 0)), (1, .int (zI sort)), (2, .long xx), (4, .long yy), (6, .long ww), (8, .long md)]) hX dX7_traced_4 (by decide) rfl ?_
  have key_6 : ∀ (N : Nat), ∀ (i : Int) (al : Int64), (7 - i).toNat < N → (hi1 : 0 ≤ i ∧ i ≤ 7) → Z p l e { frames := 1, cells := 0, slots := 0, locals := 23 } s m args below meth c D A 19 0 0 Q 6 [(12, .int (zI i)), (10, .long al), (8, .long md), (6, .long ww), (4, .long yy), (2, .long xx), (1, .int (zI sort)), (0, .ref (h 0))] [] (rW ce h F I J) := by
    intro N
    induction N with
    | zero => intro i al hm; exact absurd hm (Nat.not_lt_zero _)
    | succ N ih_6 =>
      intro i al hm hi1
      refine Z.iload hX dX7_traced_6 rfl ?_
      refine Z.bipush hX dX7_traced_8 (by decide) ?_
      refine Z.icmp_ge hX 142 dX7_traced_10 (by decide) ⟨by omega, by omega⟩ ⟨by omega, by omega⟩ ?_ ?_
      · intro c1
        refine Z.lload hX dX7_traced_142 rfl ?_
        exact hR _ _ _ _ dX7_traced_144 ⟨al, rfl, rfl⟩
      · intro c1
        refine Z.iconst hX dX7_traced_13 ?_
        refine Z.istore (lv' := [(13, .int (zI 0)), (12, .int (zI i)), (10, .long al), (8, .long md), (6, .long ww), (4, .long yy), (2, .long xx), (1, .int (zI sort)), (0, .ref (h 0))]) hX dX7_traced_14 (by decide) rfl ?_
        have key_16 : ∀ (N : Nat), ∀ (j : Int) (al : Int64), (7 - j).toNat < N → (hj1 : 0 ≤ j ∧ j ≤ 7) → Z p l e { frames := 1, cells := 0, slots := 0, locals := 23 } s m args below meth c D A 19 0 0 Q 16 [(13, .int (zI j)), (12, .int (zI i)), (10, .long al), (8, .long md), (6, .long ww), (4, .long yy), (2, .long xx), (1, .int (zI sort)), (0, .ref (h 0))] [] (rW ce h F I J) := by
          intro N
          induction N with
          | zero => intro j al hm; exact absurd hm (Nat.not_lt_zero _)
          | succ N ih_16 =>
            intro j al hm hj1
            refine Z.iload hX dX7_traced_16 rfl ?_
            refine Z.bipush hX dX7_traced_18 (by decide) ?_
            refine Z.icmp_ge hX 136 dX7_traced_20 (by decide) ⟨by omega, by omega⟩ ⟨by omega, by omega⟩ ?_ ?_
            · intro c2
              refine Z.iinc (lv' := [(12, .int (zI (i + 1))), (13, .int (zI j)), (10, .long al), (8, .long md), (6, .long ww), (4, .long yy), (2, .long xx), (1, .int (zI sort)), (0, .ref (h 0))]) hX dX7_traced_136 rfl (by decide) rfl ?_
              refine Z.goto hX 6 dX7_traced_139 (by decide) ?_
              refine Z.pick [0, 2, 3, 4, 5, 6, 7, 8] rfl ?_
              exact ih_6 _ _ (by omega) (by omega)
            · intro c2
              refine Z.aload_n hX dX7_traced_23 rfl rfl ?_
              refine Z.getf hX 7 0 6 dX7_traced_24 rfl rfl inX7 (by decide) fl_X7_21 rfl rfl ?_
              refine Z.bipush hX dX7_traced_27 (by decide) ?_
              refine Z.iload_n hX dX7_traced_29 rfl rfl ?_
              refine Z.imul hX dX7_traced_30 ?_
              refine Z.bipush hX dX7_traced_31 (by decide) ?_
              refine Z.iload hX dX7_traced_33 rfl ?_
              refine Z.imul hX dX7_traced_35 ?_
              refine Z.iadd hX dX7_traced_36 ?_
              refine Z.iload hX dX7_traced_37 rfl ?_
              refine Z.iadd hX dX7_traced_39 ?_
              refine Z.laload hX 4 1 dX7_traced_40 rfl rfl (by omega) (by omega) (by decide) ?_
              refine Z.lstore (lv' := [(14, .long (J 1 (((49 * sort) + (7 * i)) + j : Int).toNat)), (13, .int (zI j)), (12, .int (zI i)), (10, .long al), (8, .long md), (6, .long ww), (4, .long yy), (2, .long xx), (1, .int (zI sort)), (0, .ref (h 0))]) hX dX7_traced_41 (by decide) rfl ?_
              refine Z.lload hX dX7_traced_43 rfl ?_
              refine Z.lconst (v := 0) hX dX7_traced_45 rfl ?_
              refine Z.lcmp_eq hX 130 dX7_traced_46 dX7_traced_47 (by decide) ?_ ?_
              · intro c3
                refine Z.iinc (lv' := [(13, .int (zI (j + 1))), (14, .long (J 1 (((49 * sort) + (7 * i)) + j : Int).toNat)), (12, .int (zI i)), (10, .long al), (8, .long md), (6, .long ww), (4, .long yy), (2, .long xx), (1, .int (zI sort)), (0, .ref (h 0))]) hX dX7_traced_130 rfl (by decide) rfl ?_
                refine Z.goto hX 16 dX7_traced_133 (by decide) ?_
                refine Z.pick [0, 2, 3, 4, 5, 6, 7, 8, 9] rfl ?_
                exact ih_16 _ _ (by omega) (by omega)
              · intro c3
                refine Z.lload hX dX7_traced_50 rfl ?_
                refine Z.lload hX dX7_traced_52 rfl ?_
                refine Z.callS0l (As := [.long (J 1 (((49 * sort) + (7 * i)) + j : Int).toNat), .long md]) (rest := []) hX (ct_X7_rest l D ce (J 1 (((49 * sort) + (7 * i)) + j : Int).toNat) md hmd) mc_X7_rest ml_X7_154 st_X7_rest ini_X7 nd_X7_rest ⟨Nat.le_of_ble_eq_true rfl, Nat.le_of_ble_eq_true rfl⟩ ⟨rfl, rfl⟩ ⟨Nat.le_refl _, Nat.le_refl _⟩ rfl (Nat.le_of_ble_eq_true rfl) dX7_traced_54 ?_
                rintro r_4 w1 ⟨r05, hr_, hw_⟩
                subst hr_
                refine ⟨hw_, ?_⟩
                refine Z.lstore (lv' := [(16, .long r_4), (14, .long (J 1 (((49 * sort) + (7 * i)) + j : Int).toNat)), (13, .int (zI j)), (12, .int (zI i)), (10, .long al), (8, .long md), (6, .long ww), (4, .long yy), (2, .long xx), (1, .int (zI sort)), (0, .ref (h 0))]) hX dX7_traced_57 (by decide) rfl ?_
                refine Z.iconst hX dX7_traced_59 ?_
                refine Z.istore (lv' := [(18, .int (zI 0)), (16, .long r_4), (14, .long (J 1 (((49 * sort) + (7 * i)) + j : Int).toNat)), (13, .int (zI j)), (12, .int (zI i)), (10, .long al), (8, .long md), (6, .long ww), (4, .long yy), (2, .long xx), (1, .int (zI sort)), (0, .ref (h 0))]) hX dX7_traced_60 (by decide) rfl ?_
                have key_62 : ∀ (N : Nat), ∀ (k : Int) (mm : Int64), (12 - k).toNat < N → (hk1 : 0 ≤ k ∧ k ≤ 12) → Z p l e { frames := 1, cells := 0, slots := 0, locals := 23 } s m args below meth c D A 19 0 0 Q 62 [(18, .int (zI k)), (16, .long mm), (13, .int (zI j)), (12, .int (zI i)), (10, .long al), (8, .long md), (6, .long ww), (4, .long yy), (2, .long xx), (1, .int (zI sort)), (0, .ref (h 0))] [] (rW ce h F I J) := by
                  intro N
                  induction N with
                  | zero => intro k mm hm; exact absurd hm (Nat.not_lt_zero _)
                  | succ N ih_62 =>
                    intro k mm hm hk1
                    refine Z.iload hX dX7_traced_62 rfl ?_
                    refine Z.aload_n hX dX7_traced_64 rfl rfl ?_
                    refine Z.getf hX 7 0 7 dX7_traced_65 rfl rfl inX7 (by decide) fl_X7_24 rfl rfl ?_
                    refine Z.iload_n hX dX7_traced_68 rfl rfl ?_
                    refine Z.iaload hX 5 0 dX7_traced_69 rfl rfl (by omega) (by omega) (by decide) ?_
                    refine Z.topi (fun z6 hz6 kz6 ez6 => ?_)
                    have hdz := DG_z hdg (by omega) ez6 hz6 kz6
                    refine Z.icmp_ge hX 120 dX7_traced_70 (by decide) ⟨by omega, by omega⟩ ⟨by omega, by omega⟩ ?_ ?_
                    · intro c7
                      refine Z.lload hX dX7_traced_120 rfl ?_
                      refine Z.lload hX dX7_traced_122 rfl ?_
                      refine Z.ladd hX dX7_traced_124 ?_
                      refine Z.lload hX dX7_traced_125 rfl ?_
                      refine Z.lrem hX dX7_traced_127 hmd ?_
                      refine Z.lstore (lv' := [(10, .long ((al + mm) - (al + mm) / md * md)), (18, .int (zI k)), (16, .long mm), (13, .int (zI j)), (12, .int (zI i)), (8, .long md), (6, .long ww), (4, .long yy), (2, .long xx), (1, .int (zI sort)), (0, .ref (h 0))]) hX dX7_traced_128 (by decide) rfl ?_
                      refine Z.iinc (lv' := [(13, .int (zI (j + 1))), (10, .long ((al + mm) - (al + mm) / md * md)), (18, .int (zI k)), (16, .long mm), (12, .int (zI i)), (8, .long md), (6, .long ww), (4, .long yy), (2, .long xx), (1, .int (zI sort)), (0, .ref (h 0))]) hX dX7_traced_130 rfl (by decide) rfl ?_
                      refine Z.goto hX 16 dX7_traced_133 (by decide) ?_
                      refine Z.pick [0, 4, 1, 5, 6, 7, 8, 9, 10] rfl ?_
                      exact ih_16 _ _ (by omega) (by omega)
                    · intro c7
                      have key_103 : ∀ (vv : Int64), Z p l e { frames := 1, cells := 0, slots := 0, locals := 23 } s m args below meth c D A 19 0 0 Q 103 [(18, .int (zI k)), (13, .int (zI j)), (12, .int (zI i)), (10, .long al), (8, .long md), (6, .long ww), (4, .long yy), (2, .long xx), (1, .int (zI sort)), (0, .ref (h 0))] [.long vv, .long mm] (rW ce h F I J) := by
                        intro vv 
                        refine Z.lload hX dX7_traced_103 rfl ?_
                        refine Z.callS0l (As := [.long vv, .long md]) (rest := [.long mm]) hX (ct_X7_rest l D ce vv md hmd) mc_X7_rest ml_X7_154 st_X7_rest ini_X7 nd_X7_rest ⟨Nat.le_of_ble_eq_true rfl, Nat.le_of_ble_eq_true rfl⟩ ⟨rfl, rfl⟩ ⟨Nat.le_refl _, Nat.le_refl _⟩ rfl (Nat.le_of_ble_eq_true rfl) dX7_traced_105 ?_
                        rintro r_8 w1 ⟨r09, hr_, hw_⟩
                        subst hr_
                        refine ⟨hw_, ?_⟩
                        refine Z.lmul hX dX7_traced_108 ?_
                        refine Z.lload hX dX7_traced_109 rfl ?_
                        refine Z.lrem hX dX7_traced_111 hmd ?_
                        refine Z.lstore (lv' := [(16, .long ((mm * r_8) - (mm * r_8) / md * md)), (18, .int (zI k)), (13, .int (zI j)), (12, .int (zI i)), (10, .long al), (8, .long md), (6, .long ww), (4, .long yy), (2, .long xx), (1, .int (zI sort)), (0, .ref (h 0))]) hX dX7_traced_112 (by decide) rfl ?_
                        refine Z.iinc (lv' := [(18, .int (zI (k + 1))), (16, .long ((mm * r_8) - (mm * r_8) / md * md)), (13, .int (zI j)), (12, .int (zI i)), (10, .long al), (8, .long md), (6, .long ww), (4, .long yy), (2, .long xx), (1, .int (zI sort)), (0, .ref (h 0))]) hX dX7_traced_114 rfl (by decide) rfl ?_
                        refine Z.goto hX 62 dX7_traced_117 (by decide) ?_
                        refine Z.pick [0, 1, 2, 3, 4, 5, 6, 7, 8, 9, 10] rfl ?_
                        exact ih_62 _ _ (by omega) (by omega)
                      refine Z.lload hX dX7_traced_73 rfl ?_
                      refine Z.iload hX dX7_traced_75 rfl ?_
                      refine Z.iload hX dX7_traced_77 rfl ?_
                      refine Z.icmp_ge hX 86 dX7_traced_79 (by decide) ⟨by omega, by omega⟩ ⟨by omega, by omega⟩ ?_ ?_
                      · intro c10
                        refine Z.iload hX dX7_traced_86 rfl ?_
                        refine Z.iload hX dX7_traced_88 rfl ?_
                        refine Z.iload hX dX7_traced_90 rfl ?_
                        refine Z.iadd hX dX7_traced_92 ?_
                        refine Z.icmp_ge hX 101 dX7_traced_93 (by decide) ⟨by omega, by omega⟩ ⟨by omega, by omega⟩ ?_ ?_
                        · intro c11
                          refine Z.lload hX dX7_traced_101 rfl ?_
                          refine Z.pick [0, 2, 3, 4, 5, 6, 7, 8, 9, 10] rfl ?_
                          exact key_103 _
                        · intro c11
                          refine Z.lload hX dX7_traced_96 rfl ?_
                          refine Z.goto hX 103 dX7_traced_98 (by decide) ?_
                          refine Z.pick [0, 2, 3, 4, 5, 6, 7, 8, 9, 10] rfl ?_
                          exact key_103 _
                      · intro c10
                        refine Z.lload_n hX dX7_traced_82 rfl rfl ?_
                        refine Z.goto hX 103 dX7_traced_83 (by decide) ?_
                        refine Z.pick [0, 2, 3, 4, 5, 6, 7, 8, 9, 10] rfl ?_
                        exact key_103 _
                refine Z.pick [0, 1, 3, 4, 5, 6, 7, 8, 9, 10, 11] rfl ?_
                exact key_62 _ _ _ (Nat.lt_succ_self _) (by omega)
        refine Z.pick [0, 1, 2, 3, 4, 5, 6, 7, 8] rfl ?_
        exact key_16 _ _ _ (Nat.lt_succ_self _) (by omega)
  refine Z.pick [0, 1, 7, 6, 5, 4, 3, 2] rfl ?_
  exact key_6 _ _ _ (Nat.lt_succ_self _) (by omega)

theorem dX7_isOn_0 : decode cX7_isOn 0 = .ok (.aload_n 0, 1) := by decide +kernel
theorem dX7_isOn_1 : decode cX7_isOn 1 = .ok (.iload_n 1, 1) := by decide +kernel
theorem dX7_isOn_2 : decode cX7_isOn 2 = .ok (.lload_n 2, 1) := by decide +kernel
theorem dX7_isOn_3 : decode cX7_isOn 3 = .ok (.lload 4, 2) := by decide +kernel
theorem dX7_isOn_5 : decode cX7_isOn 5 = .ok (.lload 6, 2) := by decide +kernel
theorem dX7_isOn_7 : decode cX7_isOn 7 = .ok (.ldc2_w 157, 3) := by decide +kernel
theorem dX7_isOn_10 : decode cX7_isOn 10 = .ok (.invokevirtual 159, 3) := by decide +kernel
theorem dX7_isOn_13 : decode cX7_isOn 13 = .ok (.lconst 0, 1) := by decide +kernel
theorem dX7_isOn_14 : decode cX7_isOn 14 = .ok (.lcmp, 1) := by decide +kernel
theorem dX7_isOn_15 : decode cX7_isOn 15 = .ok (.ifCond .ne 25, 3) := by decide +kernel
theorem dX7_isOn_18 : decode cX7_isOn 18 = .ok (.aload_n 0, 1) := by decide +kernel
theorem dX7_isOn_19 : decode cX7_isOn 19 = .ok (.iload_n 1, 1) := by decide +kernel
theorem dX7_isOn_20 : decode cX7_isOn 20 = .ok (.lload_n 2, 1) := by decide +kernel
theorem dX7_isOn_21 : decode cX7_isOn 21 = .ok (.lload 4, 2) := by decide +kernel
theorem dX7_isOn_23 : decode cX7_isOn 23 = .ok (.lload 6, 2) := by decide +kernel
theorem dX7_isOn_25 : decode cX7_isOn 25 = .ok (.ldc2_w 163, 3) := by decide +kernel
theorem dX7_isOn_28 : decode cX7_isOn 28 = .ok (.invokevirtual 159, 3) := by decide +kernel
theorem dX7_isOn_31 : decode cX7_isOn 31 = .ok (.lconst 0, 1) := by decide +kernel
theorem dX7_isOn_32 : decode cX7_isOn 32 = .ok (.lcmp, 1) := by decide +kernel
theorem dX7_isOn_33 : decode cX7_isOn 33 = .ok (.ifCond .ne 7, 3) := by decide +kernel
theorem dX7_isOn_36 : decode cX7_isOn 36 = .ok (.iconst 1, 1) := by decide +kernel
theorem dX7_isOn_37 : decode cX7_isOn 37 = .ok (.goto 4, 3) := by decide +kernel
theorem dX7_isOn_40 : decode cX7_isOn 40 = .ok (.iconst 0, 1) := by decide +kernel
theorem dX7_isOn_41 : decode cX7_isOn 41 = .ok (.ireturn, 1) := by decide +kernel
set_option maxHeartbeats 4000000 in
set_option maxRecDepth 100000 in
theorem ct_X7_isOn (l : Launch) (D : va_G) (ce : Nat → ClassId) (h : Nat → Nat) (F : Nat → Int) (I : Nat → Nat → Int32) (J : Nat → Nat → Int64) (sort : Int) (xx yy ww : Int64) (hs : 0 ≤ sort ∧ sort ≤ 1) (hdg : DGok (I 2)) : Ct l yX7_isOn cX7_isOn 8 (some .int) { frames := 2, cells := 0, slots := 0, locals := 61 } 0 0 D (TY ce) [.ref (h 0), .int (zI sort), .long xx, .long yy, .long ww] (rW ce h F I J) (QI D (TY ce) (fun r w1 => ∃ z : Int, r = zI z ∧ w1 = rW ce h F I J ∧ (z = 0 ∨ z = 1))) := by
  refine Ct.ofI (by decide) (Nat.le_of_ble_eq_true rfl) ?_
  intro p e s m args below meth c A Q hX hnm hR
  refine Z.pick (lv' := [(0, .ref (h 0)), (1, .int (zI sort)), (2, .long xx), (4, .long yy), (6, .long ww)]) [0, 1, 2, 3, 4] rfl ?_
  refine Z.aload_n hX dX7_isOn_0 rfl rfl ?_
  refine Z.iload_n hX dX7_isOn_1 rfl rfl ?_
  refine Z.lload_n hX dX7_isOn_2 rfl rfl ?_
  refine Z.lload hX dX7_isOn_3 rfl ?_
  refine Z.lload hX dX7_isOn_5 rfl ?_
  refine Z.ldc2 hX dX7_isOn_7 co_X7_157 ?_
  refine Z.callVfl (As := [.int (zI sort), .long xx, .long yy, .long ww, .long 2147483647]) (rest := []) hX 7 0 rfl rfl (ct_X7_traced l D ce h F I J sort xx yy ww 2147483647 hs (by decide) hdg) mc_X7_traced ml_X7_159 im_X7_traced se_X7_traced ini_X7 nd_X7_traced ⟨Nat.le_of_ble_eq_true rfl, Nat.le_of_ble_eq_true rfl⟩ ⟨rfl, rfl⟩ ⟨Nat.le_refl _, Nat.le_refl _⟩ rfl (Nat.le_of_ble_eq_true rfl) dX7_isOn_10 ?_
  rintro r_1 w1 ⟨r02, hr_, hw_⟩
  subst hr_
  subst hw_
  refine Z.lconst (v := 0) hX dX7_isOn_13 rfl ?_
  refine Z.lcmp_ne hX 40 dX7_isOn_14 dX7_isOn_15 (by decide) ?_ ?_
  · intro c3
    refine Z.iconst hX dX7_isOn_40 ?_
    exact hR _ _ _ _ dX7_isOn_41 ⟨0, rfl, rfl, (by omega)⟩
  · intro c3
    refine Z.aload_n hX dX7_isOn_18 rfl rfl ?_
    refine Z.iload_n hX dX7_isOn_19 rfl rfl ?_
    refine Z.lload_n hX dX7_isOn_20 rfl rfl ?_
    refine Z.lload hX dX7_isOn_21 rfl ?_
    refine Z.lload hX dX7_isOn_23 rfl ?_
    refine Z.ldc2 hX dX7_isOn_25 co_X7_163 ?_
    refine Z.callVfl (As := [.int (zI sort), .long xx, .long yy, .long ww, .long 2147483629]) (rest := []) hX 7 0 rfl rfl (ct_X7_traced l D ce h F I J sort xx yy ww 2147483629 hs (by decide) hdg) mc_X7_traced ml_X7_159 im_X7_traced se_X7_traced ini_X7 nd_X7_traced ⟨Nat.le_of_ble_eq_true rfl, Nat.le_of_ble_eq_true rfl⟩ ⟨rfl, rfl⟩ ⟨Nat.le_refl _, Nat.le_refl _⟩ rfl (Nat.le_of_ble_eq_true rfl) dX7_isOn_28 ?_
    rintro r_4 w1 ⟨r05, hr_, hw_⟩
    subst hr_
    subst hw_
    refine Z.lconst (v := 0) hX dX7_isOn_31 rfl ?_
    refine Z.lcmp_ne hX 40 dX7_isOn_32 dX7_isOn_33 (by decide) ?_ ?_
    · intro c6
      refine Z.iconst hX dX7_isOn_40 ?_
      exact hR _ _ _ _ dX7_isOn_41 ⟨0, rfl, rfl, (by omega)⟩
    · intro c6
      refine Z.iconst hX dX7_isOn_36 ?_
      refine Z.goto hX 41 dX7_isOn_37 (by decide) ?_
      exact hR _ _ _ _ dX7_isOn_41 ⟨1, rfl, rfl, (by omega)⟩

theorem dX7_follows_0 : decode cX7_follows 0 = .ok (.iload_n 1, 1) := by decide +kernel
theorem dX7_follows_1 : decode cX7_follows 1 = .ok (.iload_n 2, 1) := by decide +kernel
theorem dX7_follows_2 : decode cX7_follows 2 = .ok (.invokestatic 137, 3) := by decide +kernel
theorem dX7_follows_5 : decode cX7_follows 5 = .ok (.ifCond .ne 5, 3) := by decide +kernel
theorem dX7_follows_8 : decode cX7_follows 8 = .ok (.iconst (-1), 1) := by decide +kernel
theorem dX7_follows_9 : decode cX7_follows 9 = .ok (.ireturn, 1) := by decide +kernel
theorem dX7_follows_10 : decode cX7_follows 10 = .ok (.aload_n 0, 1) := by decide +kernel
theorem dX7_follows_11 : decode cX7_follows 11 = .ok (.iconst 2, 1) := by decide +kernel
theorem dX7_follows_12 : decode cX7_follows 12 = .ok (.iload_n 1, 1) := by decide +kernel
theorem dX7_follows_13 : decode cX7_follows 13 = .ok (.iload_n 2, 1) := by decide +kernel
theorem dX7_follows_14 : decode cX7_follows 14 = .ok (.invokevirtual 140, 3) := by decide +kernel
theorem dX7_follows_17 : decode cX7_follows 17 = .ok (.lstore_n 3, 1) := by decide +kernel
theorem dX7_follows_18 : decode cX7_follows 18 = .ok (.aload_n 0, 1) := by decide +kernel
theorem dX7_follows_19 : decode cX7_follows 19 = .ok (.getfield 17, 3) := by decide +kernel
theorem dX7_follows_22 : decode cX7_follows 22 = .ok (.iconst 0, 1) := by decide +kernel
theorem dX7_follows_23 : decode cX7_follows 23 = .ok (.baload, 1) := by decide +kernel
theorem dX7_follows_24 : decode cX7_follows 24 = .ok (.ifCond .eq 9, 3) := by decide +kernel
theorem dX7_follows_27 : decode cX7_follows 27 = .ok (.lload_n 3, 1) := by decide +kernel
theorem dX7_follows_28 : decode cX7_follows 28 = .ok (.lconst 0, 1) := by decide +kernel
theorem dX7_follows_29 : decode cX7_follows 29 = .ok (.lcmp, 1) := by decide +kernel
theorem dX7_follows_30 : decode cX7_follows 30 = .ok (.ifCond .ne 6, 3) := by decide +kernel
theorem dX7_follows_33 : decode cX7_follows 33 = .ok (.bipush (-2), 2) := by decide +kernel
theorem dX7_follows_35 : decode cX7_follows 35 = .ok (.ireturn, 1) := by decide +kernel
theorem dX7_follows_36 : decode cX7_follows 36 = .ok (.aload_n 0, 1) := by decide +kernel
theorem dX7_follows_37 : decode cX7_follows 37 = .ok (.iconst 0, 1) := by decide +kernel
theorem dX7_follows_38 : decode cX7_follows 38 = .ok (.aload_n 0, 1) := by decide +kernel
theorem dX7_follows_39 : decode cX7_follows 39 = .ok (.iconst 0, 1) := by decide +kernel
theorem dX7_follows_40 : decode cX7_follows 40 = .ok (.iload_n 1, 1) := by decide +kernel
theorem dX7_follows_41 : decode cX7_follows 41 = .ok (.iload_n 2, 1) := by decide +kernel
theorem dX7_follows_42 : decode cX7_follows 42 = .ok (.invokevirtual 140, 3) := by decide +kernel
theorem dX7_follows_45 : decode cX7_follows 45 = .ok (.aload_n 0, 1) := by decide +kernel
theorem dX7_follows_46 : decode cX7_follows 46 = .ok (.iconst 1, 1) := by decide +kernel
theorem dX7_follows_47 : decode cX7_follows 47 = .ok (.iload_n 1, 1) := by decide +kernel
theorem dX7_follows_48 : decode cX7_follows 48 = .ok (.iload_n 2, 1) := by decide +kernel
theorem dX7_follows_49 : decode cX7_follows 49 = .ok (.invokevirtual 140, 3) := by decide +kernel
theorem dX7_follows_52 : decode cX7_follows 52 = .ok (.lload_n 3, 1) := by decide +kernel
theorem dX7_follows_53 : decode cX7_follows 53 = .ok (.invokevirtual 165, 3) := by decide +kernel
theorem dX7_follows_56 : decode cX7_follows 56 = .ok (.ireturn, 1) := by decide +kernel
set_option maxHeartbeats 4000000 in
set_option maxRecDepth 100000 in
theorem ct_X7_follows (l : Launch) (D : va_G) (ce : Nat → ClassId) (h : Nat → Nat) (F : Nat → Int) (I : Nat → Nat → Int32) (J : Nat → Nat → Int64) (u v : Int) (hok : rOK F I) (hu : -2147483648 ≤ u ∧ u < 2147483648) (hv : -2147483648 ≤ v ∧ v < 2147483648) : Ct l yX7_follows cX7_follows 5 (some .int) { frames := 7, cells := 0, slots := 0, locals := 200 } 0 0 D (TY ce) [.ref (h 0), .int (zI u), .int (zI v)] (rW ce h F I J) (QI D (TY ce) (fun r w1 => ∃ z : Int, ∃ F2 : Nat → Int, ∃ I2 : Nat → Nat → Int32, ∃ J2 : Nat → Nat → Int64, r = zI z ∧ w1 = rW ce h F2 I2 J2 ∧ (rOK F2 I2) ∧ (I2 0 = I 0) ∧ (¬ (-9 ≤ u ∧ u ≤ 9 ∧ -9 ≤ v ∧ v ≤ 9 ∧ ¬ (u = 0 ∧ v = 0)) → z = -1))) := by
  refine Ct.ofI (by decide) (Nat.le_of_ble_eq_true rfl) ?_
  intro p e s m args below meth c A Q hX hnm hR
  refine Z.pick (lv' := [(0, .ref (h 0)), (1, .int (zI u)), (2, .int (zI v))]) [0, 1, 2] rfl ?_
  refine Z.iload_n hX dX7_follows_0 rfl rfl ?_
  refine Z.iload_n hX dX7_follows_1 rfl rfl ?_
  refine Z.callS0i (As := [.int (zI u), .int (zI v)]) (rest := []) hX (ct_X7_isParameter l D ce u v (by omega) (by omega)) mc_X7_isParameter ml_X7_137 st_X7_isParameter ini_X7 nd_X7_isParameter ⟨Nat.le_of_ble_eq_true rfl, Nat.le_of_ble_eq_true rfl⟩ ⟨rfl, rfl⟩ ⟨Nat.le_refl _, Nat.le_refl _⟩ rfl (Nat.le_of_ble_eq_true rfl) dX7_follows_2 ?_
  rintro r_1 w1 ⟨zp, hr_, hw_, hzp⟩
  subst hr_
  refine ⟨hw_, ?_⟩
  refine Z.if_ne hX 10 dX7_follows_5 (by decide) ⟨by omega, by omega⟩ ?_ ?_
  · intro c2
    refine Z.aload_n hX dX7_follows_10 rfl rfl ?_
    refine Z.iconst hX dX7_follows_11 ?_
    refine Z.iload_n hX dX7_follows_12 rfl rfl ?_
    refine Z.iload_n hX dX7_follows_13 rfl rfl ?_
    refine Z.callVfl (As := [.int (zI 2), .int (zI u), .int (zI v)]) (rest := []) hX 7 0 rfl rfl (ct_X7_valueOf l D ce h F I J 2 u v hok (by omega) hu hv) mc_X7_valueOf ml_X7_140 im_X7_valueOf se_X7_valueOf ini_X7 nd_X7_valueOf ⟨Nat.le_of_ble_eq_true rfl, Nat.le_of_ble_eq_true rfl⟩ ⟨rfl, rfl⟩ ⟨Nat.le_refl _, Nat.le_refl _⟩ rfl (Nat.le_of_ble_eq_true rfl) dX7_follows_14 ?_
    rintro xa w1 ⟨r04, Fa, Ia, Ja, hr_, hw_, hoka, hIa, hxa, hka⟩
    subst hr_
    subst hw_
    refine Z.lstore_n (lv' := [(3, .long xa), (0, .ref (h 0)), (1, .int (zI u)), (2, .int (zI v))]) hX dX7_follows_17 rfl (by decide) rfl ?_
    refine Z.aload_n hX dX7_follows_18 rfl rfl ?_
    refine Z.getf hX 7 0 5 dX7_follows_19 rfl rfl inX7 (by decide) fl_X7_17 rfl rfl ?_
    refine Z.iconst hX dX7_follows_22 ?_
    refine Z.zaload hX 3 2 dX7_follows_23 rfl rfl (by omega) (by omega) (by decide) ?_
    refine Z.topi (fun z5 hz5 kz5 ez5 => ?_)
    refine Z.if_eq hX 33 dX7_follows_24 (by decide) ⟨by omega, by omega⟩ ?_ ?_
    · intro c6
      refine Z.bipush hX dX7_follows_33 (by decide) ?_
      exact hR _ _ _ _ dX7_follows_35 ⟨(-2), Fa, Ia, Ja, rfl, rfl, hoka, hIa, (fun q => absurd (by omega) q)⟩
    · intro c6
      refine Z.lload_n hX dX7_follows_27 rfl rfl ?_
      refine Z.lconst (v := 0) hX dX7_follows_28 rfl ?_
      refine Z.lcmp_ne hX 36 dX7_follows_29 dX7_follows_30 (by decide) ?_ ?_
      · intro c7
        refine Z.aload_n hX dX7_follows_36 rfl rfl ?_
        refine Z.iconst hX dX7_follows_37 ?_
        refine Z.aload_n hX dX7_follows_38 rfl rfl ?_
        refine Z.iconst hX dX7_follows_39 ?_
        refine Z.iload_n hX dX7_follows_40 rfl rfl ?_
        refine Z.iload_n hX dX7_follows_41 rfl rfl ?_
        refine Z.callVfl (As := [.int (zI 0), .int (zI u), .int (zI v)]) (rest := [.int (zI 0), .ref (h 0)]) hX 7 0 rfl rfl (ct_X7_valueOf l D ce h Fa Ia Ja 0 u v hoka (by omega) hu hv) mc_X7_valueOf ml_X7_140 im_X7_valueOf se_X7_valueOf ini_X7 nd_X7_valueOf ⟨Nat.le_of_ble_eq_true rfl, Nat.le_of_ble_eq_true rfl⟩ ⟨rfl, rfl⟩ ⟨Nat.le_refl _, Nat.le_refl _⟩ rfl (Nat.le_of_ble_eq_true rfl) dX7_follows_42 ?_
        rintro xb w1 ⟨r09, Fb, Ib, Jb, hr_, hw_, hokb, hIb, hxb, hkb⟩
        subst hr_
        subst hw_
        refine Z.aload_n hX dX7_follows_45 rfl rfl ?_
        refine Z.iconst hX dX7_follows_46 ?_
        refine Z.iload_n hX dX7_follows_47 rfl rfl ?_
        refine Z.iload_n hX dX7_follows_48 rfl rfl ?_
        refine Z.callVfl (As := [.int (zI 1), .int (zI u), .int (zI v)]) (rest := [.long xb, .int (zI 0), .ref (h 0)]) hX 7 0 rfl rfl (ct_X7_valueOf l D ce h Fb Ib Jb 1 u v hokb (by omega) hu hv) mc_X7_valueOf ml_X7_140 im_X7_valueOf se_X7_valueOf ini_X7 nd_X7_valueOf ⟨Nat.le_of_ble_eq_true rfl, Nat.le_of_ble_eq_true rfl⟩ ⟨rfl, rfl⟩ ⟨Nat.le_refl _, Nat.le_refl _⟩ rfl (Nat.le_of_ble_eq_true rfl) dX7_follows_49 ?_
        rintro xd w1 ⟨r011, Fd, Id, Jd, hr_, hw_, hokd, hId, hxd, hkd⟩
        subst hr_
        subst hw_
        refine Z.lload_n hX dX7_follows_52 rfl rfl ?_
        refine Z.callVfi (As := [.int (zI 0), .long xb, .long xd, .long xa]) (rest := []) hX 7 0 rfl rfl (ct_X7_isOn l D ce h Fd Id Jd 0 xb xd xa (by omega) hokd.2.2.2) mc_X7_isOn ml_X7_165 im_X7_isOn se_X7_isOn ini_X7 nd_X7_isOn ⟨Nat.le_of_ble_eq_true rfl, Nat.le_of_ble_eq_true rfl⟩ ⟨rfl, rfl⟩ ⟨Nat.le_refl _, Nat.le_refl _⟩ rfl (Nat.le_of_ble_eq_true rfl) dX7_follows_53 ?_
        rintro r_12 w1 ⟨z13, hr_, hw_, hq14⟩
        subst hr_
        subst hw_
        exact hR _ _ _ _ dX7_follows_56 ⟨z13, Fd, Id, Jd, rfl, rfl, hokd, (hId.trans (hIb.trans hIa)), (fun q => absurd (by omega) q)⟩
      · intro c7
        refine Z.bipush hX dX7_follows_33 (by decide) ?_
        exact hR _ _ _ _ dX7_follows_35 ⟨(-2), Fa, Ia, Ja, rfl, rfl, hoka, hIa, (fun q => absurd (by omega) q)⟩
  · intro c2
    refine Z.iconst hX dX7_follows_8 ?_
    exact hR _ _ _ _ dX7_follows_9 ⟨(-1), F, I, J, rfl, rfl, hok, rfl, (fun _ => rfl)⟩

theorem dX7_slope_0 : decode cX7_slope 0 = .ok (.lconst 0, 1) := by decide +kernel
theorem dX7_slope_1 : decode cX7_slope 1 = .ok (.lstore 5, 2) := by decide +kernel
theorem dX7_slope_3 : decode cX7_slope 3 = .ok (.iconst 0, 1) := by decide +kernel
theorem dX7_slope_4 : decode cX7_slope 4 = .ok (.istore 7, 2) := by decide +kernel
theorem dX7_slope_6 : decode cX7_slope 6 = .ok (.iload 7, 2) := by decide +kernel
theorem dX7_slope_8 : decode cX7_slope 8 = .ok (.aload_n 0, 1) := by decide +kernel
theorem dX7_slope_9 : decode cX7_slope 9 = .ok (.getfield 70, 3) := by decide +kernel
theorem dX7_slope_12 : decode cX7_slope 12 = .ok (.if_icmp .ge 90, 3) := by decide +kernel
theorem dX7_slope_15 : decode cX7_slope 15 = .ok (.iload_n 2, 1) := by decide +kernel
theorem dX7_slope_16 : decode cX7_slope 16 = .ok (.ifCond .ne 26, 3) := by decide +kernel
theorem dX7_slope_19 : decode cX7_slope 19 = .ok (.iload 7, 2) := by decide +kernel
theorem dX7_slope_21 : decode cX7_slope 21 = .ok (.i2l, 1) := by decide +kernel
theorem dX7_slope_22 : decode cX7_slope 22 = .ok (.lconst 1, 1) := by decide +kernel
theorem dX7_slope_23 : decode cX7_slope 23 = .ok (.ladd, 1) := by decide +kernel
theorem dX7_slope_24 : decode cX7_slope 24 = .ok (.aload_n 0, 1) := by decide +kernel
theorem dX7_slope_25 : decode cX7_slope 25 = .ok (.getfield 7, 3) := by decide +kernel
theorem dX7_slope_28 : decode cX7_slope 28 = .ok (.iconst 5, 1) := by decide +kernel
theorem dX7_slope_29 : decode cX7_slope 29 = .ok (.iload_n 1, 1) := by decide +kernel
theorem dX7_slope_30 : decode cX7_slope 30 = .ok (.imul, 1) := by decide +kernel
theorem dX7_slope_31 : decode cX7_slope 31 = .ok (.iload 7, 2) := by decide +kernel
theorem dX7_slope_33 : decode cX7_slope 33 = .ok (.iadd, 1) := by decide +kernel
theorem dX7_slope_34 : decode cX7_slope 34 = .ok (.iconst 1, 1) := by decide +kernel
theorem dX7_slope_35 : decode cX7_slope 35 = .ok (.iadd, 1) := by decide +kernel
theorem dX7_slope_36 : decode cX7_slope 36 = .ok (.iaload, 1) := by decide +kernel
theorem dX7_slope_37 : decode cX7_slope 37 = .ok (.i2l, 1) := by decide +kernel
theorem dX7_slope_38 : decode cX7_slope 38 = .ok (.lmul, 1) := by decide +kernel
theorem dX7_slope_39 : decode cX7_slope 39 = .ok (.goto 24, 3) := by decide +kernel
theorem dX7_slope_42 : decode cX7_slope 42 = .ok (.aload_n 0, 1) := by decide +kernel
theorem dX7_slope_43 : decode cX7_slope 43 = .ok (.getfield 70, 3) := by decide +kernel
theorem dX7_slope_46 : decode cX7_slope 46 = .ok (.iload 7, 2) := by decide +kernel
theorem dX7_slope_48 : decode cX7_slope 48 = .ok (.isub, 1) := by decide +kernel
theorem dX7_slope_49 : decode cX7_slope 49 = .ok (.i2l, 1) := by decide +kernel
theorem dX7_slope_50 : decode cX7_slope 50 = .ok (.aload_n 0, 1) := by decide +kernel
theorem dX7_slope_51 : decode cX7_slope 51 = .ok (.getfield 7, 3) := by decide +kernel
theorem dX7_slope_54 : decode cX7_slope 54 = .ok (.iconst 5, 1) := by decide +kernel
theorem dX7_slope_55 : decode cX7_slope 55 = .ok (.iload_n 1, 1) := by decide +kernel
theorem dX7_slope_56 : decode cX7_slope 56 = .ok (.imul, 1) := by decide +kernel
theorem dX7_slope_57 : decode cX7_slope 57 = .ok (.iload 7, 2) := by decide +kernel
theorem dX7_slope_59 : decode cX7_slope 59 = .ok (.iadd, 1) := by decide +kernel
theorem dX7_slope_60 : decode cX7_slope 60 = .ok (.iaload, 1) := by decide +kernel
theorem dX7_slope_61 : decode cX7_slope 61 = .ok (.i2l, 1) := by decide +kernel
theorem dX7_slope_62 : decode cX7_slope 62 = .ok (.lmul, 1) := by decide +kernel
theorem dX7_slope_63 : decode cX7_slope 63 = .ok (.lstore 8, 2) := by decide +kernel
theorem dX7_slope_65 : decode cX7_slope 65 = .ok (.lload 5, 2) := by decide +kernel
theorem dX7_slope_67 : decode cX7_slope 67 = .ok (.lload 8, 2) := by decide +kernel
theorem dX7_slope_69 : decode cX7_slope 69 = .ok (.iload_n 3, 1) := by decide +kernel
theorem dX7_slope_70 : decode cX7_slope 70 = .ok (.i2l, 1) := by decide +kernel
theorem dX7_slope_71 : decode cX7_slope 71 = .ok (.iload 7, 2) := by decide +kernel
theorem dX7_slope_73 : decode cX7_slope 73 = .ok (.invokestatic 134, 3) := by decide +kernel
theorem dX7_slope_76 : decode cX7_slope 76 = .ok (.lmul, 1) := by decide +kernel
theorem dX7_slope_77 : decode cX7_slope 77 = .ok (.iload 4, 2) := by decide +kernel
theorem dX7_slope_79 : decode cX7_slope 79 = .ok (.i2l, 1) := by decide +kernel
theorem dX7_slope_80 : decode cX7_slope 80 = .ok (.aload_n 0, 1) := by decide +kernel
theorem dX7_slope_81 : decode cX7_slope 81 = .ok (.getfield 70, 3) := by decide +kernel
theorem dX7_slope_84 : decode cX7_slope 84 = .ok (.iconst 1, 1) := by decide +kernel
theorem dX7_slope_85 : decode cX7_slope 85 = .ok (.isub, 1) := by decide +kernel
theorem dX7_slope_86 : decode cX7_slope 86 = .ok (.iload 7, 2) := by decide +kernel
theorem dX7_slope_88 : decode cX7_slope 88 = .ok (.isub, 1) := by decide +kernel
theorem dX7_slope_89 : decode cX7_slope 89 = .ok (.invokestatic 134, 3) := by decide +kernel
theorem dX7_slope_92 : decode cX7_slope 92 = .ok (.lmul, 1) := by decide +kernel
theorem dX7_slope_93 : decode cX7_slope 93 = .ok (.ladd, 1) := by decide +kernel
theorem dX7_slope_94 : decode cX7_slope 94 = .ok (.lstore 5, 2) := by decide +kernel
theorem dX7_slope_96 : decode cX7_slope 96 = .ok (.iinc 7 1, 3) := by decide +kernel
theorem dX7_slope_99 : decode cX7_slope 99 = .ok (.goto (-93), 3) := by decide +kernel
theorem dX7_slope_102 : decode cX7_slope 102 = .ok (.lload 5, 2) := by decide +kernel
theorem dX7_slope_104 : decode cX7_slope 104 = .ok (.lreturn, 1) := by decide +kernel
set_option maxHeartbeats 4000000 in
set_option maxRecDepth 100000 in
theorem ct_X7_slope (l : Launch) (D : va_G) (ce : Nat → ClassId) (h : Nat → Nat) (F : Nat → Int) (I : Nat → Nat → Int32) (J : Nat → Nat → Int64) (wh by_ u v : Int) (hF2 : 0 ≤ F 0 ∧ F 0 ≤ 4) (hw : 0 ≤ wh ∧ wh ≤ 2) (hb : -2147483648 ≤ by_ ∧ by_ < 2147483648) (hu : -2147483648 ≤ u ∧ u < 2147483648) (hv : -2147483648 ≤ v ∧ v < 2147483648) : Ct l yX7_slope cX7_slope 10 (some .long) { frames := 1, cells := 0, slots := 0, locals := 25 } 0 0 D (TY ce) [.ref (h 0), .int (zI wh), .int (zI by_), .int (zI u), .int (zI v)] (rW ce h F I J) (QL D (TY ce) (fun r w1 => ∃ r0 : Int64, r = r0 ∧ w1 = rW ce h F I J)) := by
  refine Ct.ofL (by decide) (Nat.le_of_ble_eq_true rfl) ?_
  intro p e s m args below meth c A Q hX hnm hR
  refine Z.pick (lv' := [(0, .ref (h 0)), (1, .int (zI wh)), (2, .int (zI by_)), (3, .int (zI u)), (4, .int (zI v))]) [0, 1, 2, 3, 4] rfl ?_
  refine Z.lconst (v := 0) hX dX7_slope_0 rfl ?_
  refine Z.lstore (lv' := [(5, .long 0), (0, .ref (h 0)), (1, .int (zI wh)), (2, .int (zI by_)), (3, .int (zI u)), (4, .int (zI v))]) hX dX7_slope_1 (by decide) rfl ?_
  refine Z.iconst hX dX7_slope_3 ?_
  refine Z.istore (lv' := [(7, .int (zI 0)), (5, .long 0), (0, .ref (h 0)), (1, .int (zI wh)), (2, .int (zI by_)), (3, .int (zI u)), (4, .int (zI v))]) hX dX7_slope_4 (by decide) rfl ?_
  have key_6 : ∀ (N : Nat), ∀ (k : Int) (al : Int64), (F 0 - k).toNat < N → (hk : 0 ≤ k ∧ k ≤ F 0) → Z p l e { frames := 1, cells := 0, slots := 0, locals := 25 } s m args below meth c D A 10 0 0 Q 6 [(7, .int (zI k)), (5, .long al), (4, .int (zI v)), (3, .int (zI u)), (2, .int (zI by_)), (1, .int (zI wh)), (0, .ref (h 0))] [] (rW ce h F I J) := by
    intro N
    induction N with
    | zero => intro k al hm; exact absurd hm (Nat.not_lt_zero _)
    | succ N ih_6 =>
      intro k al hm hk
      refine Z.iload hX dX7_slope_6 rfl ?_
      refine Z.aload_n hX dX7_slope_8 rfl rfl ?_
      refine Z.getf hX 7 0 2 dX7_slope_9 rfl rfl inX7 (by decide) fl_X7_70 rfl rfl ?_
      refine Z.icmp_ge hX 102 dX7_slope_12 (by decide) ⟨by omega, by omega⟩ ⟨by omega, by omega⟩ ?_ ?_
      · intro c1
        refine Z.lload hX dX7_slope_102 rfl ?_
        exact hR _ _ _ _ dX7_slope_104 ⟨al, rfl, rfl⟩
      · intro c1
        have key_63 : ∀ (cc_ : Int64), Z p l e { frames := 1, cells := 0, slots := 0, locals := 25 } s m args below meth c D A 10 0 0 Q 63 [(7, .int (zI k)), (5, .long al), (4, .int (zI v)), (3, .int (zI u)), (2, .int (zI by_)), (1, .int (zI wh)), (0, .ref (h 0))] [.long cc_] (rW ce h F I J) := by
          intro cc_ 
          refine Z.lstore (lv' := [(8, .long cc_), (7, .int (zI k)), (5, .long al), (4, .int (zI v)), (3, .int (zI u)), (2, .int (zI by_)), (1, .int (zI wh)), (0, .ref (h 0))]) hX dX7_slope_63 (by decide) rfl ?_
          refine Z.lload hX dX7_slope_65 rfl ?_
          refine Z.lload hX dX7_slope_67 rfl ?_
          refine Z.iload_n hX dX7_slope_69 rfl rfl ?_
          refine Z.i2l hX dX7_slope_70 ⟨by omega, by omega⟩ ?_
          refine Z.iload hX dX7_slope_71 rfl ?_
          refine Z.callS0l (As := [.long (zL u), .int (zI k)]) (rest := [.long cc_, .long al]) hX (ct_X7_raised l D ce (zL u) k (by omega)) mc_X7_raised ml_X7_134 st_X7_raised ini_X7 nd_X7_raised ⟨Nat.le_of_ble_eq_true rfl, Nat.le_of_ble_eq_true rfl⟩ ⟨rfl, rfl⟩ ⟨Nat.le_refl _, Nat.le_refl _⟩ rfl (Nat.le_of_ble_eq_true rfl) dX7_slope_73 ?_
          rintro r_2 w1 ⟨r03, hr_, hw_, hq4⟩
          subst hr_
          refine ⟨hw_, ?_⟩
          refine Z.lmul hX dX7_slope_76 ?_
          refine Z.iload hX dX7_slope_77 rfl ?_
          refine Z.i2l hX dX7_slope_79 ⟨by omega, by omega⟩ ?_
          refine Z.aload_n hX dX7_slope_80 rfl rfl ?_
          refine Z.getf hX 7 0 2 dX7_slope_81 rfl rfl inX7 (by decide) fl_X7_70 rfl rfl ?_
          refine Z.iconst hX dX7_slope_84 ?_
          refine Z.isub hX dX7_slope_85 ?_
          refine Z.iload hX dX7_slope_86 rfl ?_
          refine Z.isub hX dX7_slope_88 ?_
          refine Z.callS0l (As := [.long (zL v), .int (zI (((F 0) - 1) - k))]) (rest := [.long (cc_ * r_2), .long al]) hX (ct_X7_raised l D ce (zL v) (((F 0) - 1) - k) (by omega)) mc_X7_raised ml_X7_134 st_X7_raised ini_X7 nd_X7_raised ⟨Nat.le_of_ble_eq_true rfl, Nat.le_of_ble_eq_true rfl⟩ ⟨rfl, rfl⟩ ⟨Nat.le_refl _, Nat.le_refl _⟩ rfl (Nat.le_of_ble_eq_true rfl) dX7_slope_89 ?_
          rintro r_5 w1 ⟨r06, hr_, hw_, hq7⟩
          subst hr_
          refine ⟨hw_, ?_⟩
          refine Z.lmul hX dX7_slope_92 ?_
          refine Z.ladd hX dX7_slope_93 ?_
          refine Z.lstore (lv' := [(5, .long (al + ((cc_ * r_2) * r_5))), (8, .long cc_), (7, .int (zI k)), (4, .int (zI v)), (3, .int (zI u)), (2, .int (zI by_)), (1, .int (zI wh)), (0, .ref (h 0))]) hX dX7_slope_94 (by decide) rfl ?_
          refine Z.iinc (lv' := [(7, .int (zI (k + 1))), (5, .long (al + ((cc_ * r_2) * r_5))), (8, .long cc_), (4, .int (zI v)), (3, .int (zI u)), (2, .int (zI by_)), (1, .int (zI wh)), (0, .ref (h 0))]) hX dX7_slope_96 rfl (by decide) rfl ?_
          refine Z.goto hX 6 dX7_slope_99 (by decide) ?_
          refine Z.pick [0, 1, 3, 4, 5, 6, 7] rfl ?_
          exact ih_6 _ _ (by omega) (by omega)
        refine Z.iload_n hX dX7_slope_15 rfl rfl ?_
        refine Z.if_ne hX 42 dX7_slope_16 (by decide) ⟨by omega, by omega⟩ ?_ ?_
        · intro c8
          refine Z.aload_n hX dX7_slope_42 rfl rfl ?_
          refine Z.getf hX 7 0 2 dX7_slope_43 rfl rfl inX7 (by decide) fl_X7_70 rfl rfl ?_
          refine Z.iload hX dX7_slope_46 rfl ?_
          refine Z.isub hX dX7_slope_48 ?_
          refine Z.i2l hX dX7_slope_49 ⟨by omega, by omega⟩ ?_
          refine Z.aload_n hX dX7_slope_50 rfl rfl ?_
          refine Z.getf hX 7 0 0 dX7_slope_51 rfl rfl inX7 (by decide) fl_X7_7 rfl rfl ?_
          refine Z.iconst hX dX7_slope_54 ?_
          refine Z.iload_n hX dX7_slope_55 rfl rfl ?_
          refine Z.imul hX dX7_slope_56 ?_
          refine Z.iload hX dX7_slope_57 rfl ?_
          refine Z.iadd hX dX7_slope_59 ?_
          refine Z.iaload hX 1 0 dX7_slope_60 rfl rfl (by omega) (by omega) (by decide) ?_
          refine Z.topi (fun z9 hz9 kz9 ez9 => ?_)
          refine Z.i2l hX dX7_slope_61 ⟨by omega, by omega⟩ ?_
          refine Z.lmul hX dX7_slope_62 ?_
          refine Z.pick [0, 1, 2, 3, 4, 5, 6] rfl ?_
          exact key_63 _
        · intro c8
          refine Z.iload hX dX7_slope_19 rfl ?_
          refine Z.i2l hX dX7_slope_21 ⟨by omega, by omega⟩ ?_
          refine Z.lconst (v := 1) hX dX7_slope_22 rfl ?_
          refine Z.ladd hX dX7_slope_23 ?_
          refine Z.aload_n hX dX7_slope_24 rfl rfl ?_
          refine Z.getf hX 7 0 0 dX7_slope_25 rfl rfl inX7 (by decide) fl_X7_7 rfl rfl ?_
          refine Z.iconst hX dX7_slope_28 ?_
          refine Z.iload_n hX dX7_slope_29 rfl rfl ?_
          refine Z.imul hX dX7_slope_30 ?_
          refine Z.iload hX dX7_slope_31 rfl ?_
          refine Z.iadd hX dX7_slope_33 ?_
          refine Z.iconst hX dX7_slope_34 ?_
          refine Z.iadd hX dX7_slope_35 ?_
          refine Z.iaload hX 1 0 dX7_slope_36 rfl rfl (by omega) (by omega) (by decide) ?_
          refine Z.topi (fun z10 hz10 kz10 ez10 => ?_)
          refine Z.i2l hX dX7_slope_37 ⟨by omega, by omega⟩ ?_
          refine Z.lmul hX dX7_slope_38 ?_
          refine Z.goto hX 63 dX7_slope_39 (by decide) ?_
          refine Z.pick [0, 1, 2, 3, 4, 5, 6] rfl ?_
          exact key_63 _
  refine Z.pick [0, 1, 6, 5, 4, 3, 2] rfl ?_
  exact key_6 _ _ _ (Nat.lt_succ_self _) (by omega)

theorem dX7_touches_0 : decode cX7_touches 0 = .ok (.iload_n 1, 1) := by decide +kernel
theorem dX7_touches_1 : decode cX7_touches 1 = .ok (.iload_n 2, 1) := by decide +kernel
theorem dX7_touches_2 : decode cX7_touches 2 = .ok (.invokestatic 137, 3) := by decide +kernel
theorem dX7_touches_5 : decode cX7_touches 5 = .ok (.ifCond .ne 5, 3) := by decide +kernel
theorem dX7_touches_8 : decode cX7_touches 8 = .ok (.iconst (-1), 1) := by decide +kernel
theorem dX7_touches_9 : decode cX7_touches 9 = .ok (.ireturn, 1) := by decide +kernel
theorem dX7_touches_10 : decode cX7_touches 10 = .ok (.aload_n 0, 1) := by decide +kernel
theorem dX7_touches_11 : decode cX7_touches 11 = .ok (.invokevirtual 130, 3) := by decide +kernel
theorem dX7_touches_14 : decode cX7_touches 14 = .ok (.aload_n 0, 1) := by decide +kernel
theorem dX7_touches_15 : decode cX7_touches 15 = .ok (.getfield 17, 3) := by decide +kernel
theorem dX7_touches_18 : decode cX7_touches 18 = .ok (.iconst 1, 1) := by decide +kernel
theorem dX7_touches_19 : decode cX7_touches 19 = .ok (.baload, 1) := by decide +kernel
theorem dX7_touches_20 : decode cX7_touches 20 = .ok (.ifCond .ne 6, 3) := by decide +kernel
theorem dX7_touches_23 : decode cX7_touches 23 = .ok (.bipush (-2), 2) := by decide +kernel
theorem dX7_touches_25 : decode cX7_touches 25 = .ok (.ireturn, 1) := by decide +kernel
theorem dX7_touches_26 : decode cX7_touches 26 = .ok (.aload_n 0, 1) := by decide +kernel
theorem dX7_touches_27 : decode cX7_touches 27 = .ok (.iconst 0, 1) := by decide +kernel
theorem dX7_touches_28 : decode cX7_touches 28 = .ok (.iconst 0, 1) := by decide +kernel
theorem dX7_touches_29 : decode cX7_touches 29 = .ok (.iload_n 1, 1) := by decide +kernel
theorem dX7_touches_30 : decode cX7_touches 30 = .ok (.iload_n 2, 1) := by decide +kernel
theorem dX7_touches_31 : decode cX7_touches 31 = .ok (.invokevirtual 169, 3) := by decide +kernel
theorem dX7_touches_34 : decode cX7_touches 34 = .ok (.lstore_n 3, 1) := by decide +kernel
theorem dX7_touches_35 : decode cX7_touches 35 = .ok (.aload_n 0, 1) := by decide +kernel
theorem dX7_touches_36 : decode cX7_touches 36 = .ok (.iconst 1, 1) := by decide +kernel
theorem dX7_touches_37 : decode cX7_touches 37 = .ok (.iconst 0, 1) := by decide +kernel
theorem dX7_touches_38 : decode cX7_touches 38 = .ok (.iload_n 1, 1) := by decide +kernel
theorem dX7_touches_39 : decode cX7_touches 39 = .ok (.iload_n 2, 1) := by decide +kernel
theorem dX7_touches_40 : decode cX7_touches 40 = .ok (.invokevirtual 169, 3) := by decide +kernel
theorem dX7_touches_43 : decode cX7_touches 43 = .ok (.lstore 5, 2) := by decide +kernel
theorem dX7_touches_45 : decode cX7_touches 45 = .ok (.aload_n 0, 1) := by decide +kernel
theorem dX7_touches_46 : decode cX7_touches 46 = .ok (.iconst 2, 1) := by decide +kernel
theorem dX7_touches_47 : decode cX7_touches 47 = .ok (.iconst 0, 1) := by decide +kernel
theorem dX7_touches_48 : decode cX7_touches 48 = .ok (.iload_n 1, 1) := by decide +kernel
theorem dX7_touches_49 : decode cX7_touches 49 = .ok (.iload_n 2, 1) := by decide +kernel
theorem dX7_touches_50 : decode cX7_touches 50 = .ok (.invokevirtual 169, 3) := by decide +kernel
theorem dX7_touches_53 : decode cX7_touches 53 = .ok (.lstore 7, 2) := by decide +kernel
theorem dX7_touches_55 : decode cX7_touches 55 = .ok (.aload_n 0, 1) := by decide +kernel
theorem dX7_touches_56 : decode cX7_touches 56 = .ok (.iconst 0, 1) := by decide +kernel
theorem dX7_touches_57 : decode cX7_touches 57 = .ok (.iconst 1, 1) := by decide +kernel
theorem dX7_touches_58 : decode cX7_touches 58 = .ok (.iload_n 1, 1) := by decide +kernel
theorem dX7_touches_59 : decode cX7_touches 59 = .ok (.iload_n 2, 1) := by decide +kernel
theorem dX7_touches_60 : decode cX7_touches 60 = .ok (.invokevirtual 169, 3) := by decide +kernel
theorem dX7_touches_63 : decode cX7_touches 63 = .ok (.lstore 9, 2) := by decide +kernel
theorem dX7_touches_65 : decode cX7_touches 65 = .ok (.aload_n 0, 1) := by decide +kernel
theorem dX7_touches_66 : decode cX7_touches 66 = .ok (.iconst 1, 1) := by decide +kernel
theorem dX7_touches_67 : decode cX7_touches 67 = .ok (.iconst 1, 1) := by decide +kernel
theorem dX7_touches_68 : decode cX7_touches 68 = .ok (.iload_n 1, 1) := by decide +kernel
theorem dX7_touches_69 : decode cX7_touches 69 = .ok (.iload_n 2, 1) := by decide +kernel
theorem dX7_touches_70 : decode cX7_touches 70 = .ok (.invokevirtual 169, 3) := by decide +kernel
theorem dX7_touches_73 : decode cX7_touches 73 = .ok (.lstore 11, 2) := by decide +kernel
theorem dX7_touches_75 : decode cX7_touches 75 = .ok (.aload_n 0, 1) := by decide +kernel
theorem dX7_touches_76 : decode cX7_touches 76 = .ok (.iconst 2, 1) := by decide +kernel
theorem dX7_touches_77 : decode cX7_touches 77 = .ok (.iconst 1, 1) := by decide +kernel
theorem dX7_touches_78 : decode cX7_touches 78 = .ok (.iload_n 1, 1) := by decide +kernel
theorem dX7_touches_79 : decode cX7_touches 79 = .ok (.iload_n 2, 1) := by decide +kernel
theorem dX7_touches_80 : decode cX7_touches 80 = .ok (.invokevirtual 169, 3) := by decide +kernel
theorem dX7_touches_83 : decode cX7_touches 83 = .ok (.lstore 13, 2) := by decide +kernel
theorem dX7_touches_85 : decode cX7_touches 85 = .ok (.lload_n 3, 1) := by decide +kernel
theorem dX7_touches_86 : decode cX7_touches 86 = .ok (.lload 11, 2) := by decide +kernel
theorem dX7_touches_88 : decode cX7_touches 88 = .ok (.lmul, 1) := by decide +kernel
theorem dX7_touches_89 : decode cX7_touches 89 = .ok (.lload 5, 2) := by decide +kernel
theorem dX7_touches_91 : decode cX7_touches 91 = .ok (.lload 9, 2) := by decide +kernel
theorem dX7_touches_93 : decode cX7_touches 93 = .ok (.lmul, 1) := by decide +kernel
theorem dX7_touches_94 : decode cX7_touches 94 = .ok (.lsub, 1) := by decide +kernel
theorem dX7_touches_95 : decode cX7_touches 95 = .ok (.lstore 15, 2) := by decide +kernel
theorem dX7_touches_97 : decode cX7_touches 97 = .ok (.lload 15, 2) := by decide +kernel
theorem dX7_touches_99 : decode cX7_touches 99 = .ok (.lconst 0, 1) := by decide +kernel
theorem dX7_touches_100 : decode cX7_touches 100 = .ok (.lcmp, 1) := by decide +kernel
theorem dX7_touches_101 : decode cX7_touches 101 = .ok (.ifCond .ne 6, 3) := by decide +kernel
theorem dX7_touches_104 : decode cX7_touches 104 = .ok (.bipush (-2), 2) := by decide +kernel
theorem dX7_touches_106 : decode cX7_touches 106 = .ok (.ireturn, 1) := by decide +kernel
theorem dX7_touches_107 : decode cX7_touches 107 = .ok (.aload_n 0, 1) := by decide +kernel
theorem dX7_touches_108 : decode cX7_touches 108 = .ok (.iconst 1, 1) := by decide +kernel
theorem dX7_touches_109 : decode cX7_touches 109 = .ok (.lload 5, 2) := by decide +kernel
theorem dX7_touches_111 : decode cX7_touches 111 = .ok (.lload 13, 2) := by decide +kernel
theorem dX7_touches_113 : decode cX7_touches 113 = .ok (.lmul, 1) := by decide +kernel
theorem dX7_touches_114 : decode cX7_touches 114 = .ok (.lload 7, 2) := by decide +kernel
theorem dX7_touches_116 : decode cX7_touches 116 = .ok (.lload 11, 2) := by decide +kernel
theorem dX7_touches_118 : decode cX7_touches 118 = .ok (.lmul, 1) := by decide +kernel
theorem dX7_touches_119 : decode cX7_touches 119 = .ok (.lsub, 1) := by decide +kernel
theorem dX7_touches_120 : decode cX7_touches 120 = .ok (.lload 7, 2) := by decide +kernel
theorem dX7_touches_122 : decode cX7_touches 122 = .ok (.lload 9, 2) := by decide +kernel
theorem dX7_touches_124 : decode cX7_touches 124 = .ok (.lmul, 1) := by decide +kernel
theorem dX7_touches_125 : decode cX7_touches 125 = .ok (.lload_n 3, 1) := by decide +kernel
theorem dX7_touches_126 : decode cX7_touches 126 = .ok (.lload 13, 2) := by decide +kernel
theorem dX7_touches_128 : decode cX7_touches 128 = .ok (.lmul, 1) := by decide +kernel
theorem dX7_touches_129 : decode cX7_touches 129 = .ok (.lsub, 1) := by decide +kernel
theorem dX7_touches_130 : decode cX7_touches 130 = .ok (.lload 15, 2) := by decide +kernel
theorem dX7_touches_132 : decode cX7_touches 132 = .ok (.invokevirtual 165, 3) := by decide +kernel
theorem dX7_touches_135 : decode cX7_touches 135 = .ok (.ireturn, 1) := by decide +kernel
set_option maxHeartbeats 4000000 in
set_option maxRecDepth 100000 in
theorem ct_X7_touches (l : Launch) (D : va_G) (ce : Nat → ClassId) (h : Nat → Nat) (F : Nat → Int) (I : Nat → Nat → Int32) (J : Nat → Nat → Int64) (u v : Int) (hok : rOK F I) (hu : -2147483648 ≤ u ∧ u < 2147483648) (hv : -2147483648 ≤ v ∧ v < 2147483648) : Ct l yX7_touches cX7_touches 17 (some .int) { frames := 6, cells := 0, slots := 0, locals := 174 } 0 0 D (TY ce) [.ref (h 0), .int (zI u), .int (zI v)] (rW ce h F I J) (QI D (TY ce) (fun r w1 => ∃ z : Int, ∃ F2 : Nat → Int, ∃ I2 : Nat → Nat → Int32, ∃ J2 : Nat → Nat → Int64, r = zI z ∧ w1 = rW ce h F2 I2 J2 ∧ (rOK F2 I2) ∧ (I2 0 = I 0) ∧ (¬ (-9 ≤ u ∧ u ≤ 9 ∧ -9 ≤ v ∧ v ≤ 9 ∧ ¬ (u = 0 ∧ v = 0)) → z = -1))) := by
  refine Ct.ofI (by decide) (Nat.le_of_ble_eq_true rfl) ?_
  intro p e s m args below meth c A Q hX hnm hR
  refine Z.pick (lv' := [(0, .ref (h 0)), (1, .int (zI u)), (2, .int (zI v))]) [0, 1, 2] rfl ?_
  refine Z.iload_n hX dX7_touches_0 rfl rfl ?_
  refine Z.iload_n hX dX7_touches_1 rfl rfl ?_
  refine Z.callS0i (As := [.int (zI u), .int (zI v)]) (rest := []) hX (ct_X7_isParameter l D ce u v (by omega) (by omega)) mc_X7_isParameter ml_X7_137 st_X7_isParameter ini_X7 nd_X7_isParameter ⟨Nat.le_of_ble_eq_true rfl, Nat.le_of_ble_eq_true rfl⟩ ⟨rfl, rfl⟩ ⟨Nat.le_refl _, Nat.le_refl _⟩ rfl (Nat.le_of_ble_eq_true rfl) dX7_touches_2 ?_
  rintro r_1 w1 ⟨zp, hr_, hw_, hzp⟩
  subst hr_
  refine ⟨hw_, ?_⟩
  refine Z.if_ne hX 10 dX7_touches_5 (by decide) ⟨by omega, by omega⟩ ?_ ?_
  · intro c2
    refine Z.aload_n hX dX7_touches_10 rfl rfl ?_
    refine Z.callVfv (As := []) (rest := []) hX 7 0 rfl rfl (ct_X7_work l D ce h F I J hok) mc_X7_work ml_X7_130 im_X7_work se_X7_work ini_X7 nd_X7_work ⟨Nat.le_of_ble_eq_true rfl, Nat.le_of_ble_eq_true rfl⟩ ⟨rfl, rfl⟩ ⟨Nat.le_refl _, Nat.le_refl _⟩ rfl (Nat.le_of_ble_eq_true rfl) dX7_touches_11 ?_
    rintro w1 ⟨Fw, Iw, Jw, hw_, hokw, hfw, hmow, hIw, hdgw⟩
    subst hw_
    refine Z.aload_n hX dX7_touches_14 rfl rfl ?_
    refine Z.getf hX 7 0 5 dX7_touches_15 rfl rfl inX7 (by decide) fl_X7_17 rfl rfl ?_
    refine Z.iconst hX dX7_touches_18 ?_
    refine Z.zaload hX 3 2 dX7_touches_19 rfl rfl (by omega) (by omega) (by decide) ?_
    refine Z.topi (fun z4 hz4 kz4 ez4 => ?_)
    refine Z.if_ne hX 26 dX7_touches_20 (by decide) ⟨by omega, by omega⟩ ?_ ?_
    · intro c5
      refine Z.aload_n hX dX7_touches_26 rfl rfl ?_
      refine Z.iconst hX dX7_touches_27 ?_
      refine Z.iconst hX dX7_touches_28 ?_
      refine Z.iload_n hX dX7_touches_29 rfl rfl ?_
      refine Z.iload_n hX dX7_touches_30 rfl rfl ?_
      refine Z.callVfl (As := [.int (zI 0), .int (zI 0), .int (zI u), .int (zI v)]) (rest := []) hX 7 0 rfl rfl (ct_X7_slope l D ce h Fw Iw Jw 0 0 u v (by omega) (by omega) (by omega) hu hv) mc_X7_slope ml_X7_169 im_X7_slope se_X7_slope ini_X7 nd_X7_slope ⟨Nat.le_of_ble_eq_true rfl, Nat.le_of_ble_eq_true rfl⟩ ⟨rfl, rfl⟩ ⟨Nat.le_refl _, Nat.le_refl _⟩ rfl (Nat.le_of_ble_eq_true rfl) dX7_touches_31 ?_
      rintro r_6 w1 ⟨r07, hr_, hw_⟩
      subst hr_
      subst hw_
      refine Z.lstore_n (lv' := [(3, .long r_6), (0, .ref (h 0)), (1, .int (zI u)), (2, .int (zI v))]) hX dX7_touches_34 rfl (by decide) rfl ?_
      refine Z.aload_n hX dX7_touches_35 rfl rfl ?_
      refine Z.iconst hX dX7_touches_36 ?_
      refine Z.iconst hX dX7_touches_37 ?_
      refine Z.iload_n hX dX7_touches_38 rfl rfl ?_
      refine Z.iload_n hX dX7_touches_39 rfl rfl ?_
      refine Z.callVfl (As := [.int (zI 1), .int (zI 0), .int (zI u), .int (zI v)]) (rest := []) hX 7 0 rfl rfl (ct_X7_slope l D ce h Fw Iw Jw 1 0 u v (by omega) (by omega) (by omega) hu hv) mc_X7_slope ml_X7_169 im_X7_slope se_X7_slope ini_X7 nd_X7_slope ⟨Nat.le_of_ble_eq_true rfl, Nat.le_of_ble_eq_true rfl⟩ ⟨rfl, rfl⟩ ⟨Nat.le_refl _, Nat.le_refl _⟩ rfl (Nat.le_of_ble_eq_true rfl) dX7_touches_40 ?_
      rintro r_8 w1 ⟨r09, hr_, hw_⟩
      subst hr_
      subst hw_
      refine Z.lstore (lv' := [(5, .long r_8), (3, .long r_6), (0, .ref (h 0)), (1, .int (zI u)), (2, .int (zI v))]) hX dX7_touches_43 (by decide) rfl ?_
      refine Z.aload_n hX dX7_touches_45 rfl rfl ?_
      refine Z.iconst hX dX7_touches_46 ?_
      refine Z.iconst hX dX7_touches_47 ?_
      refine Z.iload_n hX dX7_touches_48 rfl rfl ?_
      refine Z.iload_n hX dX7_touches_49 rfl rfl ?_
      refine Z.callVfl (As := [.int (zI 2), .int (zI 0), .int (zI u), .int (zI v)]) (rest := []) hX 7 0 rfl rfl (ct_X7_slope l D ce h Fw Iw Jw 2 0 u v (by omega) (by omega) (by omega) hu hv) mc_X7_slope ml_X7_169 im_X7_slope se_X7_slope ini_X7 nd_X7_slope ⟨Nat.le_of_ble_eq_true rfl, Nat.le_of_ble_eq_true rfl⟩ ⟨rfl, rfl⟩ ⟨Nat.le_refl _, Nat.le_refl _⟩ rfl (Nat.le_of_ble_eq_true rfl) dX7_touches_50 ?_
      rintro r_10 w1 ⟨r011, hr_, hw_⟩
      subst hr_
      subst hw_
      refine Z.lstore (lv' := [(7, .long r_10), (5, .long r_8), (3, .long r_6), (0, .ref (h 0)), (1, .int (zI u)), (2, .int (zI v))]) hX dX7_touches_53 (by decide) rfl ?_
      refine Z.aload_n hX dX7_touches_55 rfl rfl ?_
      refine Z.iconst hX dX7_touches_56 ?_
      refine Z.iconst hX dX7_touches_57 ?_
      refine Z.iload_n hX dX7_touches_58 rfl rfl ?_
      refine Z.iload_n hX dX7_touches_59 rfl rfl ?_
      refine Z.callVfl (As := [.int (zI 0), .int (zI 1), .int (zI u), .int (zI v)]) (rest := []) hX 7 0 rfl rfl (ct_X7_slope l D ce h Fw Iw Jw 0 1 u v (by omega) (by omega) (by omega) hu hv) mc_X7_slope ml_X7_169 im_X7_slope se_X7_slope ini_X7 nd_X7_slope ⟨Nat.le_of_ble_eq_true rfl, Nat.le_of_ble_eq_true rfl⟩ ⟨rfl, rfl⟩ ⟨Nat.le_refl _, Nat.le_refl _⟩ rfl (Nat.le_of_ble_eq_true rfl) dX7_touches_60 ?_
      rintro r_12 w1 ⟨r013, hr_, hw_⟩
      subst hr_
      subst hw_
      refine Z.lstore (lv' := [(9, .long r_12), (7, .long r_10), (5, .long r_8), (3, .long r_6), (0, .ref (h 0)), (1, .int (zI u)), (2, .int (zI v))]) hX dX7_touches_63 (by decide) rfl ?_
      refine Z.aload_n hX dX7_touches_65 rfl rfl ?_
      refine Z.iconst hX dX7_touches_66 ?_
      refine Z.iconst hX dX7_touches_67 ?_
      refine Z.iload_n hX dX7_touches_68 rfl rfl ?_
      refine Z.iload_n hX dX7_touches_69 rfl rfl ?_
      refine Z.callVfl (As := [.int (zI 1), .int (zI 1), .int (zI u), .int (zI v)]) (rest := []) hX 7 0 rfl rfl (ct_X7_slope l D ce h Fw Iw Jw 1 1 u v (by omega) (by omega) (by omega) hu hv) mc_X7_slope ml_X7_169 im_X7_slope se_X7_slope ini_X7 nd_X7_slope ⟨Nat.le_of_ble_eq_true rfl, Nat.le_of_ble_eq_true rfl⟩ ⟨rfl, rfl⟩ ⟨Nat.le_refl _, Nat.le_refl _⟩ rfl (Nat.le_of_ble_eq_true rfl) dX7_touches_70 ?_
      rintro r_14 w1 ⟨r015, hr_, hw_⟩
      subst hr_
      subst hw_
      refine Z.lstore (lv' := [(11, .long r_14), (9, .long r_12), (7, .long r_10), (5, .long r_8), (3, .long r_6), (0, .ref (h 0)), (1, .int (zI u)), (2, .int (zI v))]) hX dX7_touches_73 (by decide) rfl ?_
      refine Z.aload_n hX dX7_touches_75 rfl rfl ?_
      refine Z.iconst hX dX7_touches_76 ?_
      refine Z.iconst hX dX7_touches_77 ?_
      refine Z.iload_n hX dX7_touches_78 rfl rfl ?_
      refine Z.iload_n hX dX7_touches_79 rfl rfl ?_
      refine Z.callVfl (As := [.int (zI 2), .int (zI 1), .int (zI u), .int (zI v)]) (rest := []) hX 7 0 rfl rfl (ct_X7_slope l D ce h Fw Iw Jw 2 1 u v (by omega) (by omega) (by omega) hu hv) mc_X7_slope ml_X7_169 im_X7_slope se_X7_slope ini_X7 nd_X7_slope ⟨Nat.le_of_ble_eq_true rfl, Nat.le_of_ble_eq_true rfl⟩ ⟨rfl, rfl⟩ ⟨Nat.le_refl _, Nat.le_refl _⟩ rfl (Nat.le_of_ble_eq_true rfl) dX7_touches_80 ?_
      rintro r_16 w1 ⟨r017, hr_, hw_⟩
      subst hr_
      subst hw_
      refine Z.lstore (lv' := [(13, .long r_16), (11, .long r_14), (9, .long r_12), (7, .long r_10), (5, .long r_8), (3, .long r_6), (0, .ref (h 0)), (1, .int (zI u)), (2, .int (zI v))]) hX dX7_touches_83 (by decide) rfl ?_
      refine Z.lload_n hX dX7_touches_85 rfl rfl ?_
      refine Z.lload hX dX7_touches_86 rfl ?_
      refine Z.lmul hX dX7_touches_88 ?_
      refine Z.lload hX dX7_touches_89 rfl ?_
      refine Z.lload hX dX7_touches_91 rfl ?_
      refine Z.lmul hX dX7_touches_93 ?_
      refine Z.lsub hX dX7_touches_94 ?_
      refine Z.lstore (lv' := [(15, .long ((r_6 * r_14) - (r_8 * r_12))), (13, .long r_16), (11, .long r_14), (9, .long r_12), (7, .long r_10), (5, .long r_8), (3, .long r_6), (0, .ref (h 0)), (1, .int (zI u)), (2, .int (zI v))]) hX dX7_touches_95 (by decide) rfl ?_
      refine Z.lload hX dX7_touches_97 rfl ?_
      refine Z.lconst (v := 0) hX dX7_touches_99 rfl ?_
      refine Z.lcmp_ne hX 107 dX7_touches_100 dX7_touches_101 (by decide) ?_ ?_
      · intro c18
        refine Z.aload_n hX dX7_touches_107 rfl rfl ?_
        refine Z.iconst hX dX7_touches_108 ?_
        refine Z.lload hX dX7_touches_109 rfl ?_
        refine Z.lload hX dX7_touches_111 rfl ?_
        refine Z.lmul hX dX7_touches_113 ?_
        refine Z.lload hX dX7_touches_114 rfl ?_
        refine Z.lload hX dX7_touches_116 rfl ?_
        refine Z.lmul hX dX7_touches_118 ?_
        refine Z.lsub hX dX7_touches_119 ?_
        refine Z.lload hX dX7_touches_120 rfl ?_
        refine Z.lload hX dX7_touches_122 rfl ?_
        refine Z.lmul hX dX7_touches_124 ?_
        refine Z.lload_n hX dX7_touches_125 rfl rfl ?_
        refine Z.lload hX dX7_touches_126 rfl ?_
        refine Z.lmul hX dX7_touches_128 ?_
        refine Z.lsub hX dX7_touches_129 ?_
        refine Z.lload hX dX7_touches_130 rfl ?_
        refine Z.callVfi (As := [.int (zI 1), .long ((r_8 * r_16) - (r_10 * r_14)), .long ((r_10 * r_12) - (r_6 * r_16)), .long ((r_6 * r_14) - (r_8 * r_12))]) (rest := []) hX 7 0 rfl rfl (ct_X7_isOn l D ce h Fw Iw Jw 1 ((r_8 * r_16) - (r_10 * r_14)) ((r_10 * r_12) - (r_6 * r_16)) ((r_6 * r_14) - (r_8 * r_12)) (by omega) hdgw) mc_X7_isOn ml_X7_165 im_X7_isOn se_X7_isOn ini_X7 nd_X7_isOn ⟨Nat.le_of_ble_eq_true rfl, Nat.le_of_ble_eq_true rfl⟩ ⟨rfl, rfl⟩ ⟨Nat.le_refl _, Nat.le_refl _⟩ rfl (Nat.le_of_ble_eq_true rfl) dX7_touches_132 ?_
        rintro r_19 w1 ⟨z20, hr_, hw_, hq21⟩
        subst hr_
        subst hw_
        exact hR _ _ _ _ dX7_touches_135 ⟨z20, Fw, Iw, Jw, rfl, rfl, hokw, hIw, (fun q => absurd (by omega) q)⟩
      · intro c18
        refine Z.bipush hX dX7_touches_104 (by decide) ?_
        exact hR _ _ _ _ dX7_touches_106 ⟨(-2), Fw, Iw, Jw, rfl, rfl, hokw, hIw, (fun q => absurd (by omega) q)⟩
    · intro c5
      refine Z.bipush hX dX7_touches_23 (by decide) ?_
      exact hR _ _ _ _ dX7_touches_25 ⟨(-2), Fw, Iw, Jw, rfl, rfl, hokw, hIw, (fun q => absurd (by omega) q)⟩
  · intro c2
    refine Z.iconst hX dX7_touches_8 ?_
    exact hR _ _ _ _ dX7_touches_9 ⟨(-1), F, I, J, rfl, rfl, hok, rfl, (fun _ => rfl)⟩
end
