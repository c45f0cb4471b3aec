theorem dX4_raiseRoot_0 : decode cX4_raiseRoot 0 = .ok (.aload_n 0, 1) := by decide +kernel
theorem dX4_raiseRoot_1 : decode cX4_raiseRoot 1 = .ok (.getfield 19, 3) := by decide +kernel
theorem dX4_raiseRoot_4 : decode cX4_raiseRoot 4 = .ok (.aload_n 0, 1) := by decide +kernel
theorem dX4_raiseRoot_5 : decode cX4_raiseRoot 5 = .ok (.getfield 16, 3) := by decide +kernel
theorem dX4_raiseRoot_8 : decode cX4_raiseRoot 8 = .ok (.invokevirtual 25, 3) := by decide +kernel
theorem dX4_raiseRoot_11 : decode cX4_raiseRoot 11 = .ok (.iconst 1, 1) := by decide +kernel
theorem dX4_raiseRoot_12 : decode cX4_raiseRoot 12 = .ok (.istore_n 2, 1) := by decide +kernel
theorem dX4_raiseRoot_13 : decode cX4_raiseRoot 13 = .ok (.iload_n 2, 1) := by decide +kernel
theorem dX4_raiseRoot_14 : decode cX4_raiseRoot 14 = .ok (.iload_n 1, 1) := by decide +kernel
theorem dX4_raiseRoot_15 : decode cX4_raiseRoot 15 = .ok (.if_icmp .ge 43, 3) := by decide +kernel
theorem dX4_raiseRoot_18 : decode cX4_raiseRoot 18 = .ok (.aload_n 0, 1) := by decide +kernel
theorem dX4_raiseRoot_19 : decode cX4_raiseRoot 19 = .ok (.getfield 22, 3) := by decide +kernel
theorem dX4_raiseRoot_22 : decode cX4_raiseRoot 22 = .ok (.invokevirtual 71, 3) := by decide +kernel
theorem dX4_raiseRoot_25 : decode cX4_raiseRoot 25 = .ok (.aload_n 0, 1) := by decide +kernel
theorem dX4_raiseRoot_26 : decode cX4_raiseRoot 26 = .ok (.getfield 22, 3) := by decide +kernel
theorem dX4_raiseRoot_29 : decode cX4_raiseRoot 29 = .ok (.aload_n 0, 1) := by decide +kernel
theorem dX4_raiseRoot_30 : decode cX4_raiseRoot 30 = .ok (.getfield 19, 3) := by decide +kernel
theorem dX4_raiseRoot_33 : decode cX4_raiseRoot 33 = .ok (.aload_n 0, 1) := by decide +kernel
theorem dX4_raiseRoot_34 : decode cX4_raiseRoot 34 = .ok (.getfield 16, 3) := by decide +kernel
theorem dX4_raiseRoot_37 : decode cX4_raiseRoot 37 = .ok (.lconst 1, 1) := by decide +kernel
theorem dX4_raiseRoot_38 : decode cX4_raiseRoot 38 = .ok (.invokevirtual 85, 3) := by decide +kernel
theorem dX4_raiseRoot_41 : decode cX4_raiseRoot 41 = .ok (.aload_n 0, 1) := by decide +kernel
theorem dX4_raiseRoot_42 : decode cX4_raiseRoot 42 = .ok (.getfield 19, 3) := by decide +kernel
theorem dX4_raiseRoot_45 : decode cX4_raiseRoot 45 = .ok (.aload_n 0, 1) := by decide +kernel
theorem dX4_raiseRoot_46 : decode cX4_raiseRoot 46 = .ok (.getfield 22, 3) := by decide +kernel
theorem dX4_raiseRoot_49 : decode cX4_raiseRoot 49 = .ok (.invokevirtual 25, 3) := by decide +kernel
theorem dX4_raiseRoot_52 : decode cX4_raiseRoot 52 = .ok (.iinc 2 1, 3) := by decide +kernel
theorem dX4_raiseRoot_55 : decode cX4_raiseRoot 55 = .ok (.goto (-42), 3) := by decide +kernel
theorem dX4_raiseRoot_58 : decode cX4_raiseRoot 58 = .ok (.return_, 1) := by decide +kernel
set_option maxHeartbeats 4000000 in
set_option maxRecDepth 100000 in
theorem ct_X4_raiseRoot (l : Launch) (D : va_G) (ce : Nat → ClassId) (h pl ar : Nat → Nat) (G : Nat → Int) (L : Nat → Nat → Int64) (B : Nat → Int) (J : Nat → Nat → Int64) (pw : Int) (hB : BOK B) (hp : 1 ≤ pw ∧ pw ≤ 6) : Ct l yX4_raiseRoot cX4_raiseRoot 3 none { frames := 2, cells := 0, slots := 0, locals := 61 } 0 0 D (TY ce) [.ref (h 5), .int (zI pw)] (cW ce h pl ar G L B J) (QV D (TY ce) (fun w1 => ∃ B2 : Nat → Int, ∃ J2 : Nat → Nat → Int64, w1 = cW ce h pl ar G L B2 J2 ∧ (BOK B2) ∧ (∀ k, k ≠ 38 → k ≠ 39 → B2 k = B k))) := by
  refine Ct.ofV (by decide) (Nat.le_of_ble_eq_true rfl) ?_
  intro p e s m args below meth c A Q hX hnm hR
  refine Z.pick (lv' := [(0, .ref (h 5)), (1, .int (zI pw))]) [0, 1] rfl ?_
  refine Z.aload_n hX dX4_raiseRoot_0 rfl rfl ?_
  refine Z.getf hX 4 5 2 dX4_raiseRoot_1 rfl rfl inX4 (by decide) fl_X4_19 rfl rfl ?_
  refine Z.aload_n hX dX4_raiseRoot_4 rfl rfl ?_
  refine Z.getf hX 4 5 1 dX4_raiseRoot_5 rfl rfl inX4 (by decide) fl_X4_16 rfl rfl ?_
  refine Z.callVfv (As := [.ref (pl 37)]) (rest := []) hX 3 (24 + 38) rfl (cW_pl (by decide)) (ct_X3_copy l D ce h pl ar G L B J 38 37 (by decide) hB (by decide)) mc_X3_copy ml_X4_25 im_X3_copy se_X3_copy ini_X3 nd_X3_copy ⟨Nat.le_of_ble_eq_true rfl, Nat.le_of_ble_eq_true rfl⟩ ⟨rfl, rfl⟩ ⟨Nat.le_refl _, Nat.le_refl _⟩ rfl (Nat.le_of_ble_eq_true rfl) dX4_raiseRoot_8 ?_
  rintro w1 ⟨B22, J23, hw_, a1, a2, a3, a4⟩
  subst hw_
  refine Z.iconst hX dX4_raiseRoot_11 ?_
  refine Z.istore_n (lv' := [(2, .int (zI 1)), (0, .ref (h 5)), (1, .int (zI pw))]) hX dX4_raiseRoot_12 rfl (by decide) rfl ?_
  have key_13 : ∀ (N : Nat), ∀ (i : Int) (BB : Nat → Int) (MM : Nat → Nat → Int64), (pw - i).toNat < N → (hi : 1 ≤ i ∧ i ≤ pw) → (hM : BOK BB) → (hf : ∀ k, k ≠ 38 → k ≠ 39 → BB k = B k) → Z p l e { frames := 2, cells := 0, slots := 0, locals := 61 } s m args below meth c D A 3 0 0 Q 13 [(2, .int (zI i)), (1, .int (zI pw)), (0, .ref (h 5))] [] (cW ce h pl ar G L BB MM) := by
    intro N
    induction N with
    | zero => intro i BB MM hm; exact absurd hm (Nat.not_lt_zero _)
    | succ N ih_13 =>
      intro i BB MM hm hi hM hf
      refine Z.iload_n hX dX4_raiseRoot_13 rfl rfl ?_
      refine Z.iload_n hX dX4_raiseRoot_14 rfl rfl ?_
      refine Z.icmp_ge hX 58 dX4_raiseRoot_15 (by decide) ⟨by omega, by omega⟩ ⟨by omega, by omega⟩ ?_ ?_
      · intro c4
        exact hR _ _ _ dX4_raiseRoot_58 ⟨BB, MM, rfl, hM, hf⟩
      · intro c4
        refine Z.aload_n hX dX4_raiseRoot_18 rfl rfl ?_
        refine Z.getf hX 4 5 3 dX4_raiseRoot_19 rfl rfl inX4 (by decide) fl_X4_22 rfl rfl ?_
        refine Z.callVfv (As := []) (rest := []) hX 3 (24 + 39) rfl (cW_pl (by decide)) (ct_X3_erase l D ce h pl ar G L BB MM 39 (by decide) hM) mc_X3_erase ml_X4_71 im_X3_erase se_X3_erase ini_X3 nd_X3_erase ⟨Nat.le_of_ble_eq_true rfl, Nat.le_of_ble_eq_true rfl⟩ ⟨rfl, rfl⟩ ⟨Nat.le_refl _, Nat.le_refl _⟩ rfl (Nat.le_of_ble_eq_true rfl) dX4_raiseRoot_22 ?_
        rintro w1 ⟨B26, J27, hw_, b1, b2, b3, b4⟩
        subst hw_
        refine Z.aload_n hX dX4_raiseRoot_25 rfl rfl ?_
        refine Z.getf hX 4 5 3 dX4_raiseRoot_26 rfl rfl inX4 (by decide) fl_X4_22 rfl rfl ?_
        refine Z.aload_n hX dX4_raiseRoot_29 rfl rfl ?_
        refine Z.getf hX 4 5 2 dX4_raiseRoot_30 rfl rfl inX4 (by decide) fl_X4_19 rfl rfl ?_
        refine Z.aload_n hX dX4_raiseRoot_33 rfl rfl ?_
        refine Z.getf hX 4 5 1 dX4_raiseRoot_34 rfl rfl inX4 (by decide) fl_X4_16 rfl rfl ?_
        refine Z.lconst (v := 1) hX dX4_raiseRoot_37 rfl ?_
        refine Z.callVfv (As := [.ref (pl 38), .ref (pl 37), .long 1]) (rest := []) hX 3 (24 + 39) rfl (cW_pl (by decide)) (ct_X3_addProduct l D ce h pl ar G L B26 J27 39 38 37 1 (by decide) b3 (by decide) (by decide)) mc_X3_addProduct ml_X4_85 im_X3_addProduct se_X3_addProduct ini_X3 nd_X3_addProduct ⟨Nat.le_of_ble_eq_true rfl, Nat.le_of_ble_eq_true rfl⟩ ⟨rfl, rfl⟩ ⟨Nat.le_refl _, Nat.le_refl _⟩ rfl (Nat.le_of_ble_eq_true rfl) dX4_raiseRoot_38 ?_
        rintro w1 ⟨B29, J210, hw_, c1, c2, c3⟩
        subst hw_
        refine Z.aload_n hX dX4_raiseRoot_41 rfl rfl ?_
        refine Z.getf hX 4 5 2 dX4_raiseRoot_42 rfl rfl inX4 (by decide) fl_X4_19 rfl rfl ?_
        refine Z.aload_n hX dX4_raiseRoot_45 rfl rfl ?_
        refine Z.getf hX 4 5 3 dX4_raiseRoot_46 rfl rfl inX4 (by decide) fl_X4_22 rfl rfl ?_
        refine Z.callVfv (As := [.ref (pl 39)]) (rest := []) hX 3 (24 + 38) rfl (cW_pl (by decide)) (ct_X3_copy l D ce h pl ar G L B29 J210 38 39 (by decide) c3 (by decide)) mc_X3_copy ml_X4_25 im_X3_copy se_X3_copy ini_X3 nd_X3_copy ⟨Nat.le_of_ble_eq_true rfl, Nat.le_of_ble_eq_true rfl⟩ ⟨rfl, rfl⟩ ⟨Nat.le_refl _, Nat.le_refl _⟩ rfl (Nat.le_of_ble_eq_true rfl) dX4_raiseRoot_49 ?_
        rintro w1 ⟨B212, J213, hw_, d1, d2, d3, d4⟩
        subst hw_
        refine Z.iinc (lv' := [(2, .int (zI (i + 1))), (1, .int (zI pw)), (0, .ref (h 5))]) hX dX4_raiseRoot_52 rfl (by decide) rfl ?_
        refine Z.goto hX 13 dX4_raiseRoot_55 (by decide) ?_
        refine Z.pick [0, 1, 2] rfl ?_
        exact ih_13 _ _ _ (by omega) (by omega) d3 (fun j_ h_38 h_39 => ((d1 j_ h_38).trans ((c1 j_ h_39).trans ((b1 j_ h_39).trans (hf j_ h_38 h_39)))))
  refine Z.pick [0, 2, 1] rfl ?_
  exact key_13 _ _ _ _ (Nat.lt_succ_self _) (by omega) a3 (fun j_ h_38 h_39 => ((a1 j_ h_38).trans rfl))

theorem dX4_startRoot_0 : decode cX4_startRoot 0 = .ok (.aload_n 0, 1) := by decide +kernel
theorem dX4_startRoot_1 : decode cX4_startRoot 1 = .ok (.getfield 10, 3) := by decide +kernel
theorem dX4_startRoot_4 : decode cX4_startRoot 4 = .ok (.invokevirtual 53, 3) := by decide +kernel
theorem dX4_startRoot_7 : decode cX4_startRoot 7 = .ok (.istore_n 2, 1) := by decide +kernel
theorem dX4_startRoot_8 : decode cX4_startRoot 8 = .ok (.iload_n 1, 1) := by decide +kernel
theorem dX4_startRoot_9 : decode cX4_startRoot 9 = .ok (.iconst 1, 1) := by decide +kernel
theorem dX4_startRoot_10 : decode cX4_startRoot 10 = .ok (.if_icmp .lt 25, 3) := by decide +kernel
theorem dX4_startRoot_13 : decode cX4_startRoot 13 = .ok (.iload_n 2, 1) := by decide +kernel
theorem dX4_startRoot_14 : decode cX4_startRoot 14 = .ok (.ifCond .lt 21, 3) := by decide +kernel
theorem dX4_startRoot_17 : decode cX4_startRoot 17 = .ok (.aload_n 0, 1) := by decide +kernel
theorem dX4_startRoot_18 : decode cX4_startRoot 18 = .ok (.getfield 10, 3) := by decide +kernel
theorem dX4_startRoot_21 : decode cX4_startRoot 21 = .ok (.getfield 32, 3) := by decide +kernel
theorem dX4_startRoot_24 : decode cX4_startRoot 24 = .ok (.iload_n 1, 1) := by decide +kernel
theorem dX4_startRoot_25 : decode cX4_startRoot 25 = .ok (.irem, 1) := by decide +kernel
theorem dX4_startRoot_26 : decode cX4_startRoot 26 = .ok (.ifCond .ne 9, 3) := by decide +kernel
theorem dX4_startRoot_29 : decode cX4_startRoot 29 = .ok (.iload_n 2, 1) := by decide +kernel
theorem dX4_startRoot_30 : decode cX4_startRoot 30 = .ok (.iload_n 1, 1) := by decide +kernel
theorem dX4_startRoot_31 : decode cX4_startRoot 31 = .ok (.irem, 1) := by decide +kernel
theorem dX4_startRoot_32 : decode cX4_startRoot 32 = .ok (.ifCond .eq 5, 3) := by decide +kernel
theorem dX4_startRoot_35 : decode cX4_startRoot 35 = .ok (.iconst 0, 1) := by decide +kernel
theorem dX4_startRoot_36 : decode cX4_startRoot 36 = .ok (.ireturn, 1) := by decide +kernel
theorem dX4_startRoot_37 : decode cX4_startRoot 37 = .ok (.aload_n 0, 1) := by decide +kernel
theorem dX4_startRoot_38 : decode cX4_startRoot 38 = .ok (.getfield 10, 3) := by decide +kernel
theorem dX4_startRoot_41 : decode cX4_startRoot 41 = .ok (.getfield 57, 3) := by decide +kernel
theorem dX4_startRoot_44 : decode cX4_startRoot 44 = .ok (.aload_n 0, 1) := by decide +kernel
theorem dX4_startRoot_45 : decode cX4_startRoot 45 = .ok (.getfield 10, 3) := by decide +kernel
theorem dX4_startRoot_48 : decode cX4_startRoot 48 = .ok (.getfield 32, 3) := by decide +kernel
theorem dX4_startRoot_51 : decode cX4_startRoot 51 = .ok (.iload_n 2, 1) := by decide +kernel
theorem dX4_startRoot_52 : decode cX4_startRoot 52 = .ok (.invokestatic 61, 3) := by decide +kernel
theorem dX4_startRoot_55 : decode cX4_startRoot 55 = .ok (.laload, 1) := by decide +kernel
theorem dX4_startRoot_56 : decode cX4_startRoot 56 = .ok (.lstore_n 3, 1) := by decide +kernel
theorem dX4_startRoot_57 : decode cX4_startRoot 57 = .ok (.lload_n 3, 1) := by decide +kernel
theorem dX4_startRoot_58 : decode cX4_startRoot 58 = .ok (.iload_n 1, 1) := by decide +kernel
theorem dX4_startRoot_59 : decode cX4_startRoot 59 = .ok (.invokestatic 67, 3) := by decide +kernel
theorem dX4_startRoot_62 : decode cX4_startRoot 62 = .ok (.lstore 5, 2) := by decide +kernel
theorem dX4_startRoot_64 : decode cX4_startRoot 64 = .ok (.aload_n 0, 1) := by decide +kernel
theorem dX4_startRoot_65 : decode cX4_startRoot 65 = .ok (.getfield 16, 3) := by decide +kernel
theorem dX4_startRoot_68 : decode cX4_startRoot 68 = .ok (.invokevirtual 71, 3) := by decide +kernel
theorem dX4_startRoot_71 : decode cX4_startRoot 71 = .ok (.aload_n 0, 1) := by decide +kernel
theorem dX4_startRoot_72 : decode cX4_startRoot 72 = .ok (.getfield 16, 3) := by decide +kernel
theorem dX4_startRoot_75 : decode cX4_startRoot 75 = .ok (.aload_n 0, 1) := by decide +kernel
theorem dX4_startRoot_76 : decode cX4_startRoot 76 = .ok (.getfield 10, 3) := by decide +kernel
theorem dX4_startRoot_79 : decode cX4_startRoot 79 = .ok (.getfield 32, 3) := by decide +kernel
theorem dX4_startRoot_82 : decode cX4_startRoot 82 = .ok (.iload_n 1, 1) := by decide +kernel
theorem dX4_startRoot_83 : decode cX4_startRoot 83 = .ok (.idiv, 1) := by decide +kernel
theorem dX4_startRoot_84 : decode cX4_startRoot 84 = .ok (.putfield 32, 3) := by decide +kernel
theorem dX4_startRoot_87 : decode cX4_startRoot 87 = .ok (.aload_n 0, 1) := by decide +kernel
theorem dX4_startRoot_88 : decode cX4_startRoot 88 = .ok (.getfield 16, 3) := by decide +kernel
theorem dX4_startRoot_91 : decode cX4_startRoot 91 = .ok (.getfield 57, 3) := by decide +kernel
theorem dX4_startRoot_94 : decode cX4_startRoot 94 = .ok (.aload_n 0, 1) := by decide +kernel
theorem dX4_startRoot_95 : decode cX4_startRoot 95 = .ok (.getfield 16, 3) := by decide +kernel
theorem dX4_startRoot_98 : decode cX4_startRoot 98 = .ok (.getfield 32, 3) := by decide +kernel
theorem dX4_startRoot_101 : decode cX4_startRoot 101 = .ok (.iload_n 2, 1) := by decide +kernel
theorem dX4_startRoot_102 : decode cX4_startRoot 102 = .ok (.iload_n 1, 1) := by decide +kernel
theorem dX4_startRoot_103 : decode cX4_startRoot 103 = .ok (.idiv, 1) := by decide +kernel
theorem dX4_startRoot_104 : decode cX4_startRoot 104 = .ok (.invokestatic 61, 3) := by decide +kernel
theorem dX4_startRoot_107 : decode cX4_startRoot 107 = .ok (.lload 5, 2) := by decide +kernel
theorem dX4_startRoot_109 : decode cX4_startRoot 109 = .ok (.lastore, 1) := by decide +kernel
theorem dX4_startRoot_110 : decode cX4_startRoot 110 = .ok (.lload 5, 2) := by decide +kernel
theorem dX4_startRoot_112 : decode cX4_startRoot 112 = .ok (.iload_n 1, 1) := by decide +kernel
theorem dX4_startRoot_113 : decode cX4_startRoot 113 = .ok (.invokestatic 74, 3) := by decide +kernel
theorem dX4_startRoot_116 : decode cX4_startRoot 116 = .ok (.lload_n 3, 1) := by decide +kernel
theorem dX4_startRoot_117 : decode cX4_startRoot 117 = .ok (.lcmp, 1) := by decide +kernel
theorem dX4_startRoot_118 : decode cX4_startRoot 118 = .ok (.ifCond .ne 7, 3) := by decide +kernel
theorem dX4_startRoot_121 : decode cX4_startRoot 121 = .ok (.iconst 1, 1) := by decide +kernel
theorem dX4_startRoot_122 : decode cX4_startRoot 122 = .ok (.goto 4, 3) := by decide +kernel
theorem dX4_startRoot_125 : decode cX4_startRoot 125 = .ok (.iconst 0, 1) := by decide +kernel
theorem dX4_startRoot_126 : decode cX4_startRoot 126 = .ok (.ireturn, 1) := by decide +kernel
set_option maxHeartbeats 4000000 in
set_option maxRecDepth 100000 in
theorem ct_X4_startRoot (l : Launch) (D : va_G) (ce : Nat → ClassId) (h pl ar : Nat → Nat) (G : Nat → Int) (L : Nat → Nat → Int64) (B : Nat → Int) (J : Nat → Nat → Int64) (pw : Int) (hB : BOK B) (hp : 1 ≤ pw ∧ pw ≤ 6) : Ct l yX4_startRoot cX4_startRoot 7 (some .boolean) { frames := 2, cells := 0, slots := 0, locals := 54 } 0 0 D (TY ce) [.ref (h 5), .int (zI pw)] (cW ce h pl ar G L B J) (QI D (TY ce) (fun r w1 => ∃ z : Int, ∃ B2 : Nat → Int, ∃ J2 : Nat → Nat → Int64, r = zI z ∧ w1 = cW ce h pl ar G L B2 J2 ∧ (BOK B2) ∧ (∀ k, k ≠ 37 → B2 k = B k) ∧ (z = 0 ∨ (z = 1 ∧ B2 37 * pw ≤ 6)))) := by
  refine Ct.ofB (by decide) (Nat.le_of_ble_eq_true rfl) ?_
  intro p e s m args below meth c A Q hX hnm hR
  refine Z.pick (lv' := [(0, .ref (h 5)), (1, .int (zI pw))]) [0, 1] rfl ?_
  have hb36 := hB 36 (by decide)
  refine Z.aload_n hX dX4_startRoot_0 rfl rfl ?_
  refine Z.getf hX 4 5 0 dX4_startRoot_1 rfl rfl inX4 (by decide) fl_X4_10 rfl rfl ?_
  refine Z.callVfi (As := []) (rest := []) hX 3 (24 + 36) rfl (cW_pl (by decide)) (ct_X3_firstOfBound l D ce h pl ar G L B J 36 (by decide) hB) mc_X3_firstOfBound ml_X4_53 im_X3_firstOfBound se_X3_firstOfBound ini_X3 nd_X3_firstOfBound ⟨Nat.le_of_ble_eq_true rfl, Nat.le_of_ble_eq_true rfl⟩ ⟨rfl, rfl⟩ ⟨Nat.le_refl _, Nat.le_refl _⟩ rfl (Nat.le_of_ble_eq_true rfl) dX4_startRoot_4 ?_
  rintro r_1 w1 ⟨fb, hr_, hw_, hfb⟩
  subst hr_
  subst hw_
  refine Z.istore_n (lv' := [(2, .int (zI fb)), (0, .ref (h 5)), (1, .int (zI pw))]) hX dX4_startRoot_7 rfl (by decide) rfl ?_
  refine Z.iload_n hX dX4_startRoot_8 rfl rfl ?_
  refine Z.iconst hX dX4_startRoot_9 ?_
  refine Z.icmp_lt hX 35 dX4_startRoot_10 (by decide) ⟨by omega, by omega⟩ ⟨by omega, by omega⟩ ?_ ?_
  · intro c2
    refine Z.iconst hX dX4_startRoot_35 ?_
    exact hR _ _ _ _ dX4_startRoot_36 rfl ⟨0, B, J, rfl, rfl, hB, (fun _ _ => rfl), Or.inl rfl⟩
  · intro c2
    refine Z.iload_n hX dX4_startRoot_13 rfl rfl ?_
    refine Z.if_lt hX 35 dX4_startRoot_14 (by decide) ⟨by omega, by omega⟩ ?_ ?_
    · intro c3
      refine Z.iconst hX dX4_startRoot_35 ?_
      exact hR _ _ _ _ dX4_startRoot_36 rfl ⟨0, B, J, rfl, rfl, hB, (fun _ _ => rfl), Or.inl rfl⟩
    · intro c3
      refine Z.aload_n hX dX4_startRoot_17 rfl rfl ?_
      refine Z.getf hX 4 5 0 dX4_startRoot_18 rfl rfl inX4 (by decide) fl_X4_10 rfl rfl ?_
      refine Z.getf hX 3 (24 + 36) 1 dX4_startRoot_21 (cW_pl (by decide)) rfl inX3 (by decide) fl_X4_32 rfl rfl ?_
      refine Z.iload_n hX dX4_startRoot_24 rfl rfl ?_
      refine Z.irem hX dX4_startRoot_25 (by omega) (by omega) (by omega) (by omega) ?_
      refine Z.if_ne hX 35 dX4_startRoot_26 (by decide) (sr_mod hp) ?_ ?_
      · intro c4
        refine Z.iconst hX dX4_startRoot_35 ?_
        exact hR _ _ _ _ dX4_startRoot_36 rfl ⟨0, B, J, rfl, rfl, hB, (fun _ _ => rfl), Or.inl rfl⟩
      · intro c4
        refine Z.iload_n hX dX4_startRoot_29 rfl rfl ?_
        refine Z.iload_n hX dX4_startRoot_30 rfl rfl ?_
        refine Z.irem hX dX4_startRoot_31 (by omega) (by omega) (by omega) (by omega) ?_
        refine Z.if_eq hX 37 dX4_startRoot_32 (by decide) (sr_mod hp) ?_ ?_
        · intro c5
          refine Z.aload_n hX dX4_startRoot_37 rfl rfl ?_
          refine Z.getf hX 4 5 0 dX4_startRoot_38 rfl rfl inX4 (by decide) fl_X4_10 rfl rfl ?_
          refine Z.getf hX 3 (24 + 36) 0 dX4_startRoot_41 (cW_pl (by decide)) rfl inX3 (by decide) fl_X4_57 rfl rfl ?_
          refine Z.aload_n hX dX4_startRoot_44 rfl rfl ?_
          refine Z.getf hX 4 5 0 dX4_startRoot_45 rfl rfl inX4 (by decide) fl_X4_10 rfl rfl ?_
          refine Z.getf hX 3 (24 + 36) 1 dX4_startRoot_48 (cW_pl (by decide)) rfl inX3 (by decide) fl_X4_32 rfl rfl ?_
          refine Z.iload_n hX dX4_startRoot_51 rfl rfl ?_
          refine Z.callSNi (As := [.int (zI (B 36)), .int (zI fb)]) (rest := [.ref (ar 36)]) hX (ct_X6_slotOf l D ce (B 36) fb (by omega) (by omega)) mc_X6_slotOf ns_X4_61 st_X6_slotOf ini_X6 nd_X6_slotOf ⟨Nat.le_of_ble_eq_true rfl, Nat.le_of_ble_eq_true rfl⟩ ⟨rfl, rfl⟩ ⟨Nat.le_refl _, Nat.le_refl _⟩ rfl (Nat.le_of_ble_eq_true rfl) dX4_startRoot_52 ?_
          rintro r_6 w1 ⟨z7, hr_, hw_, hq8, hq9⟩
          subst hr_
          refine ⟨hw_, ?_⟩
          refine Z.laload hX (66 + 36) 1 dX4_startRoot_55 (cW_ar (by decide)) rfl (by omega) (by omega) (by decide) ?_
          refine Z.lstore_n (lv' := [(3, .long (J 36 (z7 : Int).toNat)), (2, .int (zI fb)), (0, .ref (h 5)), (1, .int (zI pw))]) hX dX4_startRoot_56 rfl (by decide) rfl ?_
          refine Z.lload_n hX dX4_startRoot_57 rfl rfl ?_
          refine Z.iload_n hX dX4_startRoot_58 rfl rfl ?_
          refine Z.callSNl (As := [.long (J 36 (z7 : Int).toNat), .int (zI pw)]) (rest := []) hX (ct_X6_rootOf l D ce (J 36 (z7 : Int).toNat) pw (by omega)) mc_X6_rootOf ns_X4_67 st_X6_rootOf ini_X6 nd_X6_rootOf ⟨Nat.le_of_ble_eq_true rfl, Nat.le_of_ble_eq_true rfl⟩ ⟨rfl, rfl⟩ ⟨Nat.le_refl _, Nat.le_refl _⟩ rfl (Nat.le_of_ble_eq_true rfl) dX4_startRoot_59 ?_
          rintro r_10 w1 ⟨r011, hr_, hw_⟩
          subst hr_
          refine ⟨hw_, ?_⟩
          refine Z.lstore (lv' := [(5, .long r_10), (3, .long (J 36 (z7 : Int).toNat)), (2, .int (zI fb)), (0, .ref (h 5)), (1, .int (zI pw))]) hX dX4_startRoot_62 (by decide) rfl ?_
          refine Z.aload_n hX dX4_startRoot_64 rfl rfl ?_
          refine Z.getf hX 4 5 1 dX4_startRoot_65 rfl rfl inX4 (by decide) fl_X4_16 rfl rfl ?_
          refine Z.callVfv (As := []) (rest := []) hX 3 (24 + 37) rfl (cW_pl (by decide)) (ct_X3_erase l D ce h pl ar G L B J 37 (by decide) hB) mc_X3_erase ml_X4_71 im_X3_erase se_X3_erase ini_X3 nd_X3_erase ⟨Nat.le_of_ble_eq_true rfl, Nat.le_of_ble_eq_true rfl⟩ ⟨rfl, rfl⟩ ⟨Nat.le_refl _, Nat.le_refl _⟩ rfl (Nat.le_of_ble_eq_true rfl) dX4_startRoot_68 ?_
          rintro w1 ⟨B213, J214, hw_, e1, e2, e3, e4⟩
          subst hw_
          have e36 : B213 36 = B 36 := e1 36 (by decide)
          refine Z.aload_n hX dX4_startRoot_71 rfl rfl ?_
          refine Z.getf hX 4 5 1 dX4_startRoot_72 rfl rfl inX4 (by decide) fl_X4_16 rfl rfl ?_
          refine Z.aload_n hX dX4_startRoot_75 rfl rfl ?_
          refine Z.getf hX 4 5 0 dX4_startRoot_76 rfl rfl inX4 (by decide) fl_X4_10 rfl rfl ?_
          refine Z.getf hX 3 (24 + 36) 1 dX4_startRoot_79 (cW_pl (by decide)) rfl inX3 (by decide) fl_X4_32 rfl rfl ?_
          refine Z.iload_n hX dX4_startRoot_82 rfl rfl ?_
          refine Z.idiv hX dX4_startRoot_83 (by omega) (by omega) (by omega) (by omega) ?_
          have hdv := sr_div (b := B213 36) (k := pw) (by omega) hp
          obtain ⟨rb, erb⟩ : ∃ x, x = B213 36 / pw := ⟨_, rfl⟩
          rw [← erb]
          rw [← erb] at hdv
          have hmn := sr_mono (a := fb) (b := B213 36) (k := pw) (by omega) (by omega) hp.1
          rw [← erb] at hmn
          have hfd := sr_div (b := fb) (k := pw) (by omega) hp
          refine Z.putf (ty := .int) hX 3 (24 + 37) 1 tyX3 dX4_startRoot_84 (cW_pl (by decide)) rfl inX3 tyX3_ok nmX3 (by decide) fl_X4_32 rfl rfl (by decide +kernel) rfl rfl (Nat.le_of_ble_eq_true rfl) ?_
          obtain ⟨B15, eB15⟩ : ∃ F' : Nat → Int, F' = va_up B213 37 (rb) := ⟨_, rfl⟩
          refine Z.toW (w' := cW ce h pl ar G L B15 J214) (by rw [eB15]; exact cW_setB (by decide)) ?_
          have gB15 : B15 37 = rb := by rw [eB15]; exact up_eq
          have fB15 : ∀ j_, j_ ≠ 37 → B15 j_ = B213 j_ := fun j_ hj_ => by rw [eB15]; exact up_ne hj_
          refine Z.aload_n hX dX4_startRoot_87 rfl rfl ?_
          refine Z.getf hX 4 5 1 dX4_startRoot_88 rfl rfl inX4 (by decide) fl_X4_16 rfl rfl ?_
          refine Z.getf hX 3 (24 + 37) 0 dX4_startRoot_91 (cW_pl (by decide)) rfl inX3 (by decide) fl_X4_57 rfl rfl ?_
          refine Z.aload_n hX dX4_startRoot_94 rfl rfl ?_
          refine Z.getf hX 4 5 1 dX4_startRoot_95 rfl rfl inX4 (by decide) fl_X4_16 rfl rfl ?_
          refine Z.getf hX 3 (24 + 37) 1 dX4_startRoot_98 (cW_pl (by decide)) rfl inX3 (by decide) fl_X4_32 rfl rfl ?_
          refine Z.iload_n hX dX4_startRoot_101 rfl rfl ?_
          refine Z.iload_n hX dX4_startRoot_102 rfl rfl ?_
          refine Z.idiv hX dX4_startRoot_103 (by omega) (by omega) (by omega) (by omega) ?_
          obtain ⟨rf, erf⟩ : ∃ x, x = fb / pw := ⟨_, rfl⟩
          rw [← erf]
          rw [← erf] at hmn hfd
          refine Z.callSNi (As := [.int (zI (B15 37)), .int (zI rf)]) (rest := [.ref (ar 37)]) hX (ct_X6_slotOf l D ce (B15 37) rf (by omega) (by omega)) mc_X6_slotOf ns_X4_61 st_X6_slotOf ini_X6 nd_X6_slotOf ⟨Nat.le_of_ble_eq_true rfl, Nat.le_of_ble_eq_true rfl⟩ ⟨rfl, rfl⟩ ⟨Nat.le_refl _, Nat.le_refl _⟩ rfl (Nat.le_of_ble_eq_true rfl) dX4_startRoot_104 ?_
          rintro r_16 w1 ⟨z17, hr_, hw_, hq18, hq19⟩
          subst hr_
          refine ⟨hw_, ?_⟩
          refine Z.lload hX dX4_startRoot_107 rfl ?_
          refine Z.lastore hX (66 + 37) 1 dX4_startRoot_109 (cW_ar (by decide)) rfl (by omega) (by omega) (by decide) ?_
          obtain ⟨J20, eJ20⟩ : ∃ J' : Nat → Nat → Int64, J' = va_up J214 37 (vp_updL (J214 37) (z17 : Int).toNat (r_10)) := ⟨_, rfl⟩
          refine Z.toW (w' := cW ce h pl ar G L B15 J20) (by rw [eJ20]; exact cW_setJ (by decide)) ?_
          have gJ20 : J20 37 = vp_updL (J214 37) (z17 : Int).toNat (r_10) := by rw [eJ20]; exact up_eq
          have fJ20 : ∀ j_, j_ ≠ 37 → J20 j_ = J214 j_ := fun j_ hj_ => by rw [eJ20]; exact up_ne hj_
          refine Z.lload hX dX4_startRoot_110 rfl ?_
          refine Z.iload_n hX dX4_startRoot_112 rfl rfl ?_
          refine Z.callSNl (As := [.long r_10, .int (zI pw)]) (rest := []) hX (ct_X6_powerOf l D ce r_10 pw (by omega)) mc_X6_powerOf ns_X4_74 st_X6_powerOf ini_X6 nd_X6_powerOf ⟨Nat.le_of_ble_eq_true rfl, Nat.le_of_ble_eq_true rfl⟩ ⟨rfl, rfl⟩ ⟨Nat.le_refl _, Nat.le_refl _⟩ rfl (Nat.le_of_ble_eq_true rfl) dX4_startRoot_113 ?_
          rintro r_21 w1 ⟨r022, hr_, hw_, hq23⟩
          subst hr_
          refine ⟨hw_, ?_⟩
          refine Z.lload_n hX dX4_startRoot_116 rfl rfl ?_
          refine Z.lcmp_ne hX 125 dX4_startRoot_117 dX4_startRoot_118 (by decide) ?_ ?_
          · intro c24
            refine Z.iconst hX dX4_startRoot_125 ?_
            exact hR _ _ _ _ dX4_startRoot_126 rfl ⟨0, B15, J20, rfl, rfl, (BOK_s (k := 37) hB (by omega) (fun j_ h_37 => ((fB15 j_ h_37).trans ((e1 j_ h_37).trans rfl)))), (fun j_ h_37 => ((fB15 j_ h_37).trans ((e1 j_ h_37).trans rfl))), Or.inl rfl⟩
          · intro c24
            refine Z.iconst hX dX4_startRoot_121 ?_
            refine Z.goto hX 126 dX4_startRoot_122 (by decide) ?_
            exact hR _ _ _ _ dX4_startRoot_126 rfl ⟨1, B15, J20, rfl, rfl, (BOK_s (k := 37) hB (by omega) (fun j_ h_37 => ((fB15 j_ h_37).trans ((e1 j_ h_37).trans rfl)))), (fun j_ h_37 => ((fB15 j_ h_37).trans ((e1 j_ h_37).trans rfl))), Or.inr ⟨rfl, by rw [gB15]; omega⟩⟩
        · intro c5
          refine Z.iconst hX dX4_startRoot_35 ?_
          exact hR _ _ _ _ dX4_startRoot_36 rfl ⟨0, B, J, rfl, rfl, hB, (fun _ _ => rfl), Or.inl rfl⟩

theorem dX4_completeRoot_0 : decode cX4_completeRoot 0 = .ok (.aload_n 0, 1) := by decide +kernel
theorem dX4_completeRoot_1 : decode cX4_completeRoot 1 = .ok (.getfield 16, 3) := by decide +kernel
theorem dX4_completeRoot_4 : decode cX4_completeRoot 4 = .ok (.invokevirtual 53, 3) := by decide +kernel
theorem dX4_completeRoot_7 : decode cX4_completeRoot 7 = .ok (.istore_n 2, 1) := by decide +kernel
theorem dX4_completeRoot_8 : decode cX4_completeRoot 8 = .ok (.iload_n 2, 1) := by decide +kernel
theorem dX4_completeRoot_9 : decode cX4_completeRoot 9 = .ok (.ifCond .ge 5, 3) := by decide +kernel
theorem dX4_completeRoot_12 : decode cX4_completeRoot 12 = .ok (.iconst 0, 1) := by decide +kernel
theorem dX4_completeRoot_13 : decode cX4_completeRoot 13 = .ok (.ireturn, 1) := by decide +kernel
theorem dX4_completeRoot_14 : decode cX4_completeRoot 14 = .ok (.iload_n 1, 1) := by decide +kernel
theorem dX4_completeRoot_15 : decode cX4_completeRoot 15 = .ok (.i2l, 1) := by decide +kernel
theorem dX4_completeRoot_16 : decode cX4_completeRoot 16 = .ok (.aload_n 0, 1) := by decide +kernel
theorem dX4_completeRoot_17 : decode cX4_completeRoot 17 = .ok (.getfield 16, 3) := by decide +kernel
theorem dX4_completeRoot_20 : decode cX4_completeRoot 20 = .ok (.getfield 57, 3) := by decide +kernel
theorem dX4_completeRoot_23 : decode cX4_completeRoot 23 = .ok (.aload_n 0, 1) := by decide +kernel
theorem dX4_completeRoot_24 : decode cX4_completeRoot 24 = .ok (.getfield 16, 3) := by decide +kernel
theorem dX4_completeRoot_27 : decode cX4_completeRoot 27 = .ok (.getfield 32, 3) := by decide +kernel
theorem dX4_completeRoot_30 : decode cX4_completeRoot 30 = .ok (.iload_n 2, 1) := by decide +kernel
theorem dX4_completeRoot_31 : decode cX4_completeRoot 31 = .ok (.invokestatic 61, 3) := by decide +kernel
theorem dX4_completeRoot_34 : decode cX4_completeRoot 34 = .ok (.laload, 1) := by decide +kernel
theorem dX4_completeRoot_35 : decode cX4_completeRoot 35 = .ok (.iload_n 1, 1) := by decide +kernel
theorem dX4_completeRoot_36 : decode cX4_completeRoot 36 = .ok (.iconst 1, 1) := by decide +kernel
theorem dX4_completeRoot_37 : decode cX4_completeRoot 37 = .ok (.isub, 1) := by decide +kernel
theorem dX4_completeRoot_38 : decode cX4_completeRoot 38 = .ok (.invokestatic 74, 3) := by decide +kernel
theorem dX4_completeRoot_41 : decode cX4_completeRoot 41 = .ok (.lmul, 1) := by decide +kernel
theorem dX4_completeRoot_42 : decode cX4_completeRoot 42 = .ok (.lstore_n 3, 1) := by decide +kernel
theorem dX4_completeRoot_43 : decode cX4_completeRoot 43 = .ok (.lload_n 3, 1) := by decide +kernel
theorem dX4_completeRoot_44 : decode cX4_completeRoot 44 = .ok (.lconst 0, 1) := by decide +kernel
theorem dX4_completeRoot_45 : decode cX4_completeRoot 45 = .ok (.lcmp, 1) := by decide +kernel
theorem dX4_completeRoot_46 : decode cX4_completeRoot 46 = .ok (.ifCond .ne 5, 3) := by decide +kernel
theorem dX4_completeRoot_49 : decode cX4_completeRoot 49 = .ok (.iconst 0, 1) := by decide +kernel
theorem dX4_completeRoot_50 : decode cX4_completeRoot 50 = .ok (.ireturn, 1) := by decide +kernel
theorem dX4_completeRoot_51 : decode cX4_completeRoot 51 = .ok (.aload_n 0, 1) := by decide +kernel
theorem dX4_completeRoot_52 : decode cX4_completeRoot 52 = .ok (.getfield 10, 3) := by decide +kernel
theorem dX4_completeRoot_55 : decode cX4_completeRoot 55 = .ok (.invokevirtual 77, 3) := by decide +kernel
theorem dX4_completeRoot_58 : decode cX4_completeRoot 58 = .ok (.iload_n 1, 1) := by decide +kernel
theorem dX4_completeRoot_59 : decode cX4_completeRoot 59 = .ok (.invokestatic 67, 3) := by decide +kernel
theorem dX4_completeRoot_62 : decode cX4_completeRoot 62 = .ok (.lstore 5, 2) := by decide +kernel
theorem dX4_completeRoot_64 : decode cX4_completeRoot 64 = .ok (.aload_n 0, 1) := by decide +kernel
theorem dX4_completeRoot_65 : decode cX4_completeRoot 65 = .ok (.iload_n 1, 1) := by decide +kernel
theorem dX4_completeRoot_66 : decode cX4_completeRoot 66 = .ok (.invokevirtual 81, 3) := by decide +kernel
theorem dX4_completeRoot_69 : decode cX4_completeRoot 69 = .ok (.aload_n 0, 1) := by decide +kernel
theorem dX4_completeRoot_70 : decode cX4_completeRoot 70 = .ok (.getfield 16, 3) := by decide +kernel
theorem dX4_completeRoot_73 : decode cX4_completeRoot 73 = .ok (.getfield 32, 3) := by decide +kernel
theorem dX4_completeRoot_76 : decode cX4_completeRoot 76 = .ok (.istore 7, 2) := by decide +kernel
theorem dX4_completeRoot_78 : decode cX4_completeRoot 78 = .ok (.iload 7, 2) := by decide +kernel
theorem dX4_completeRoot_80 : decode cX4_completeRoot 80 = .ok (.ifCond .lt 157, 3) := by decide +kernel
theorem dX4_completeRoot_83 : decode cX4_completeRoot 83 = .ok (.iload 7, 2) := by decide +kernel
theorem dX4_completeRoot_85 : decode cX4_completeRoot 85 = .ok (.aload_n 0, 1) := by decide +kernel
theorem dX4_completeRoot_86 : decode cX4_completeRoot 86 = .ok (.getfield 16, 3) := by decide +kernel
theorem dX4_completeRoot_89 : decode cX4_completeRoot 89 = .ok (.getfield 32, 3) := by decide +kernel
theorem dX4_completeRoot_92 : decode cX4_completeRoot 92 = .ok (.if_icmp .ne 9, 3) := by decide +kernel
theorem dX4_completeRoot_95 : decode cX4_completeRoot 95 = .ok (.iload_n 2, 1) := by decide +kernel
theorem dX4_completeRoot_96 : decode cX4_completeRoot 96 = .ok (.iconst 1, 1) := by decide +kernel
theorem dX4_completeRoot_97 : decode cX4_completeRoot 97 = .ok (.iadd, 1) := by decide +kernel
theorem dX4_completeRoot_98 : decode cX4_completeRoot 98 = .ok (.goto 4, 3) := by decide +kernel
theorem dX4_completeRoot_101 : decode cX4_completeRoot 101 = .ok (.iconst 0, 1) := by decide +kernel
theorem dX4_completeRoot_102 : decode cX4_completeRoot 102 = .ok (.istore 8, 2) := by decide +kernel
theorem dX4_completeRoot_104 : decode cX4_completeRoot 104 = .ok (.iload 8, 2) := by decide +kernel
theorem dX4_completeRoot_106 : decode cX4_completeRoot 106 = .ok (.iload 7, 2) := by decide +kernel
theorem dX4_completeRoot_108 : decode cX4_completeRoot 108 = .ok (.if_icmp .gt 123, 3) := by decide +kernel
theorem dX4_completeRoot_111 : decode cX4_completeRoot 111 = .ok (.iload 7, 2) := by decide +kernel
theorem dX4_completeRoot_113 : decode cX4_completeRoot 113 = .ok (.iload_n 1, 1) := by decide +kernel
theorem dX4_completeRoot_114 : decode cX4_completeRoot 114 = .ok (.iconst 1, 1) := by decide +kernel
theorem dX4_completeRoot_115 : decode cX4_completeRoot 115 = .ok (.isub, 1) := by decide +kernel
theorem dX4_completeRoot_116 : decode cX4_completeRoot 116 = .ok (.aload_n 0, 1) := by decide +kernel
theorem dX4_completeRoot_117 : decode cX4_completeRoot 117 = .ok (.getfield 16, 3) := by decide +kernel
theorem dX4_completeRoot_120 : decode cX4_completeRoot 120 = .ok (.getfield 32, 3) := by decide +kernel
theorem dX4_completeRoot_123 : decode cX4_completeRoot 123 = .ok (.imul, 1) := by decide +kernel
theorem dX4_completeRoot_124 : decode cX4_completeRoot 124 = .ok (.iadd, 1) := by decide +kernel
theorem dX4_completeRoot_125 : decode cX4_completeRoot 125 = .ok (.iload 8, 2) := by decide +kernel
theorem dX4_completeRoot_127 : decode cX4_completeRoot 127 = .ok (.iload_n 1, 1) := by decide +kernel
theorem dX4_completeRoot_128 : decode cX4_completeRoot 128 = .ok (.iconst 1, 1) := by decide +kernel
theorem dX4_completeRoot_129 : decode cX4_completeRoot 129 = .ok (.isub, 1) := by decide +kernel
theorem dX4_completeRoot_130 : decode cX4_completeRoot 130 = .ok (.iload_n 2, 1) := by decide +kernel
theorem dX4_completeRoot_131 : decode cX4_completeRoot 131 = .ok (.imul, 1) := by decide +kernel
theorem dX4_completeRoot_132 : decode cX4_completeRoot 132 = .ok (.iadd, 1) := by decide +kernel
theorem dX4_completeRoot_133 : decode cX4_completeRoot 133 = .ok (.invokestatic 61, 3) := by decide +kernel
theorem dX4_completeRoot_136 : decode cX4_completeRoot 136 = .ok (.istore 9, 2) := by decide +kernel
theorem dX4_completeRoot_138 : decode cX4_completeRoot 138 = .ok (.aload_n 0, 1) := by decide +kernel
theorem dX4_completeRoot_139 : decode cX4_completeRoot 139 = .ok (.getfield 10, 3) := by decide +kernel
theorem dX4_completeRoot_142 : decode cX4_completeRoot 142 = .ok (.getfield 57, 3) := by decide +kernel
theorem dX4_completeRoot_145 : decode cX4_completeRoot 145 = .ok (.iload 9, 2) := by decide +kernel
theorem dX4_completeRoot_147 : decode cX4_completeRoot 147 = .ok (.laload, 1) := by decide +kernel
theorem dX4_completeRoot_148 : decode cX4_completeRoot 148 = .ok (.aload_n 0, 1) := by decide +kernel
theorem dX4_completeRoot_149 : decode cX4_completeRoot 149 = .ok (.getfield 19, 3) := by decide +kernel
theorem dX4_completeRoot_152 : decode cX4_completeRoot 152 = .ok (.getfield 57, 3) := by decide +kernel
theorem dX4_completeRoot_155 : decode cX4_completeRoot 155 = .ok (.iload 9, 2) := by decide +kernel
theorem dX4_completeRoot_157 : decode cX4_completeRoot 157 = .ok (.laload, 1) := by decide +kernel
theorem dX4_completeRoot_158 : decode cX4_completeRoot 158 = .ok (.lsub, 1) := by decide +kernel
theorem dX4_completeRoot_159 : decode cX4_completeRoot 159 = .ok (.lstore 10, 2) := by decide +kernel
theorem dX4_completeRoot_161 : decode cX4_completeRoot 161 = .ok (.lload 10, 2) := by decide +kernel
theorem dX4_completeRoot_163 : decode cX4_completeRoot 163 = .ok (.lload_n 3, 1) := by decide +kernel
theorem dX4_completeRoot_164 : decode cX4_completeRoot 164 = .ok (.ldiv, 1) := by decide +kernel
theorem dX4_completeRoot_165 : decode cX4_completeRoot 165 = .ok (.lstore 12, 2) := by decide +kernel
theorem dX4_completeRoot_167 : decode cX4_completeRoot 167 = .ok (.lload 12, 2) := by decide +kernel
theorem dX4_completeRoot_169 : decode cX4_completeRoot 169 = .ok (.lload_n 3, 1) := by decide +kernel
theorem dX4_completeRoot_170 : decode cX4_completeRoot 170 = .ok (.lmul, 1) := by decide +kernel
theorem dX4_completeRoot_171 : decode cX4_completeRoot 171 = .ok (.lload 10, 2) := by decide +kernel
theorem dX4_completeRoot_173 : decode cX4_completeRoot 173 = .ok (.lcmp, 1) := by decide +kernel
theorem dX4_completeRoot_174 : decode cX4_completeRoot 174 = .ok (.ifCond .ne 20, 3) := by decide +kernel
theorem dX4_completeRoot_177 : decode cX4_completeRoot 177 = .ok (.lload 12, 2) := by decide +kernel
theorem dX4_completeRoot_179 : decode cX4_completeRoot 179 = .ok (.lload 5, 2) := by decide +kernel
theorem dX4_completeRoot_181 : decode cX4_completeRoot 181 = .ok (.lcmp, 1) := by decide +kernel
theorem dX4_completeRoot_182 : decode cX4_completeRoot 182 = .ok (.ifCond .gt 12, 3) := by decide +kernel
theorem dX4_completeRoot_185 : decode cX4_completeRoot 185 = .ok (.lload 12, 2) := by decide +kernel
theorem dX4_completeRoot_187 : decode cX4_completeRoot 187 = .ok (.lload 5, 2) := by decide +kernel
theorem dX4_completeRoot_189 : decode cX4_completeRoot 189 = .ok (.lneg, 1) := by decide +kernel
theorem dX4_completeRoot_190 : decode cX4_completeRoot 190 = .ok (.lcmp, 1) := by decide +kernel
theorem dX4_completeRoot_191 : decode cX4_completeRoot 191 = .ok (.ifCond .ge 5, 3) := by decide +kernel
theorem dX4_completeRoot_194 : decode cX4_completeRoot 194 = .ok (.iconst 0, 1) := by decide +kernel
theorem dX4_completeRoot_195 : decode cX4_completeRoot 195 = .ok (.ireturn, 1) := by decide +kernel
theorem dX4_completeRoot_196 : decode cX4_completeRoot 196 = .ok (.lload 12, 2) := by decide +kernel
theorem dX4_completeRoot_198 : decode cX4_completeRoot 198 = .ok (.lconst 0, 1) := by decide +kernel
theorem dX4_completeRoot_199 : decode cX4_completeRoot 199 = .ok (.lcmp, 1) := by decide +kernel
theorem dX4_completeRoot_200 : decode cX4_completeRoot 200 = .ok (.ifCond .eq 25, 3) := by decide +kernel
theorem dX4_completeRoot_203 : decode cX4_completeRoot 203 = .ok (.aload_n 0, 1) := by decide +kernel
theorem dX4_completeRoot_204 : decode cX4_completeRoot 204 = .ok (.getfield 16, 3) := by decide +kernel
theorem dX4_completeRoot_207 : decode cX4_completeRoot 207 = .ok (.getfield 57, 3) := by decide +kernel
theorem dX4_completeRoot_210 : decode cX4_completeRoot 210 = .ok (.iload 7, 2) := by decide +kernel
theorem dX4_completeRoot_212 : decode cX4_completeRoot 212 = .ok (.iload 8, 2) := by decide +kernel
theorem dX4_completeRoot_214 : decode cX4_completeRoot 214 = .ok (.invokestatic 61, 3) := by decide +kernel
theorem dX4_completeRoot_217 : decode cX4_completeRoot 217 = .ok (.lload 12, 2) := by decide +kernel
theorem dX4_completeRoot_219 : decode cX4_completeRoot 219 = .ok (.lastore, 1) := by decide +kernel
theorem dX4_completeRoot_220 : decode cX4_completeRoot 220 = .ok (.aload_n 0, 1) := by decide +kernel
theorem dX4_completeRoot_221 : decode cX4_completeRoot 221 = .ok (.iload_n 1, 1) := by decide +kernel
theorem dX4_completeRoot_222 : decode cX4_completeRoot 222 = .ok (.invokevirtual 81, 3) := by decide +kernel
theorem dX4_completeRoot_225 : decode cX4_completeRoot 225 = .ok (.iinc 8 1, 3) := by decide +kernel
theorem dX4_completeRoot_228 : decode cX4_completeRoot 228 = .ok (.goto (-124), 3) := by decide +kernel
theorem dX4_completeRoot_231 : decode cX4_completeRoot 231 = .ok (.iinc 7 (-1), 3) := by decide +kernel
theorem dX4_completeRoot_234 : decode cX4_completeRoot 234 = .ok (.goto (-156), 3) := by decide +kernel
theorem dX4_completeRoot_237 : decode cX4_completeRoot 237 = .ok (.iconst 1, 1) := by decide +kernel
theorem dX4_completeRoot_238 : decode cX4_completeRoot 238 = .ok (.ireturn, 1) := by decide +kernel
set_option maxHeartbeats 4000000 in
set_option maxRecDepth 100000 in
theorem ct_X4_completeRoot (l : Launch) (D : va_G) (ce : Nat → ClassId) (h pl ar : Nat → Nat) (G : Nat → Int) (L : Nat → Nat → Int64) (B : Nat → Int) (J : Nat → Nat → Int64) (pw : Int) (hB : BOK B) (hp : 2 ≤ pw ∧ pw ≤ 6) (hr : B 37 * pw ≤ 6) : Ct l yX4_completeRoot cX4_completeRoot 14 (some .boolean) { frames := 3, cells := 0, slots := 0, locals := 83 } 0 0 D (TY ce) [.ref (h 5), .int (zI pw)] (cW ce h pl ar G L B J) (QI D (TY ce) (fun r w1 => ∃ z : Int, ∃ B2 : Nat → Int, ∃ J2 : Nat → Nat → Int64, r = zI z ∧ w1 = cW ce h pl ar G L B2 J2 ∧ (BOK B2) ∧ (∀ k, k ≠ 38 → k ≠ 39 → B2 k = B k) ∧ (z = 0 ∨ z = 1))) := by
  refine Ct.ofB (by decide) (Nat.le_of_ble_eq_true rfl) ?_
  intro p e s m args below meth c A Q hX hnm hR
  refine Z.pick (lv' := [(0, .ref (h 5)), (1, .int (zI pw))]) [0, 1] rfl ?_
  have hb37 := hB 37 (by decide)
  refine Z.aload_n hX dX4_completeRoot_0 rfl rfl ?_
  refine Z.getf hX 4 5 1 dX4_completeRoot_1 rfl rfl inX4 (by decide) fl_X4_16 rfl rfl ?_
  refine Z.callVfi (As := []) (rest := []) hX 3 (24 + 37) rfl (cW_pl (by decide)) (ct_X3_firstOfBound l D ce h pl ar G L B J 37 (by decide) hB) mc_X3_firstOfBound ml_X4_53 im_X3_firstOfBound se_X3_firstOfBound ini_X3 nd_X3_firstOfBound ⟨Nat.le_of_ble_eq_true rfl, Nat.le_of_ble_eq_true rfl⟩ ⟨rfl, rfl⟩ ⟨Nat.le_refl _, Nat.le_refl _⟩ rfl (Nat.le_of_ble_eq_true rfl) dX4_completeRoot_4 ?_
  rintro r_1 w1 ⟨fb, hr_, hw_, hfb⟩
  subst hr_
  subst hw_
  refine Z.istore_n (lv' := [(2, .int (zI fb)), (0, .ref (h 5)), (1, .int (zI pw))]) hX dX4_completeRoot_7 rfl (by decide) rfl ?_
  refine Z.iload_n hX dX4_completeRoot_8 rfl rfl ?_
  refine Z.if_ge hX 14 dX4_completeRoot_9 (by decide) ⟨by omega, by omega⟩ ?_ ?_
  · intro c2
    refine Z.iload_n hX dX4_completeRoot_14 rfl rfl ?_
    refine Z.i2l hX dX4_completeRoot_15 ⟨by omega, by omega⟩ ?_
    refine Z.aload_n hX dX4_completeRoot_16 rfl rfl ?_
    refine Z.getf hX 4 5 1 dX4_completeRoot_17 rfl rfl inX4 (by decide) fl_X4_16 rfl rfl ?_
    refine Z.getf hX 3 (24 + 37) 0 dX4_completeRoot_20 (cW_pl (by decide)) rfl inX3 (by decide) fl_X4_57 rfl rfl ?_
    refine Z.aload_n hX dX4_completeRoot_23 rfl rfl ?_
    refine Z.getf hX 4 5 1 dX4_completeRoot_24 rfl rfl inX4 (by decide) fl_X4_16 rfl rfl ?_
    refine Z.getf hX 3 (24 + 37) 1 dX4_completeRoot_27 (cW_pl (by decide)) rfl inX3 (by decide) fl_X4_32 rfl rfl ?_
    refine Z.iload_n hX dX4_completeRoot_30 rfl rfl ?_
    refine Z.callSNi (As := [.int (zI (B 37)), .int (zI fb)]) (rest := [.ref (ar 37), .long (zL pw)]) hX (ct_X6_slotOf l D ce (B 37) fb (by omega) (by omega)) mc_X6_slotOf ns_X4_61 st_X6_slotOf ini_X6 nd_X6_slotOf ⟨Nat.le_of_ble_eq_true rfl, Nat.le_of_ble_eq_true rfl⟩ ⟨rfl, rfl⟩ ⟨Nat.le_refl _, Nat.le_refl _⟩ rfl (Nat.le_of_ble_eq_true rfl) dX4_completeRoot_31 ?_
    rintro r_3 w1 ⟨z4, hr_, hw_, hq5, hq6⟩
    subst hr_
    refine ⟨hw_, ?_⟩
    refine Z.laload hX (66 + 37) 1 dX4_completeRoot_34 (cW_ar (by decide)) rfl (by omega) (by omega) (by decide) ?_
    refine Z.iload_n hX dX4_completeRoot_35 rfl rfl ?_
    refine Z.iconst hX dX4_completeRoot_36 ?_
    refine Z.isub hX dX4_completeRoot_37 ?_
    refine Z.callSNl (As := [.long (J 37 (z4 : Int).toNat), .int (zI (pw - 1))]) (rest := [.long (zL pw)]) hX (ct_X6_powerOf l D ce (J 37 (z4 : Int).toNat) (pw - 1) (by omega)) mc_X6_powerOf ns_X4_74 st_X6_powerOf ini_X6 nd_X6_powerOf ⟨Nat.le_of_ble_eq_true rfl, Nat.le_of_ble_eq_true rfl⟩ ⟨rfl, rfl⟩ ⟨Nat.le_refl _, Nat.le_refl _⟩ rfl (Nat.le_of_ble_eq_true rfl) dX4_completeRoot_38 ?_
    rintro r_7 w1 ⟨r08, hr_, hw_, hq9⟩
    subst hr_
    refine ⟨hw_, ?_⟩
    refine Z.lmul hX dX4_completeRoot_41 ?_
    refine Z.lstore_n (lv' := [(3, .long ((zL pw) * r_7)), (2, .int (zI fb)), (0, .ref (h 5)), (1, .int (zI pw))]) hX dX4_completeRoot_42 rfl (by decide) rfl ?_
    obtain ⟨dv, edv⟩ : ∃ x : Int64, x = (zL pw) * r_7 := ⟨_, rfl⟩
    rw [← edv]
    refine Z.lload_n hX dX4_completeRoot_43 rfl rfl ?_
    refine Z.lconst (v := 0) hX dX4_completeRoot_44 rfl ?_
    refine Z.lcmp_ne hX 51 dX4_completeRoot_45 dX4_completeRoot_46 (by decide) ?_ ?_
    · intro c10
      have hdv0 : ¬ dv = 0 := by assumption
      refine Z.aload_n hX dX4_completeRoot_51 rfl rfl ?_
      refine Z.getf hX 4 5 0 dX4_completeRoot_52 rfl rfl inX4 (by decide) fl_X4_10 rfl rfl ?_
      refine Z.callVfl (As := []) (rest := []) hX 3 (24 + 36) rfl (cW_pl (by decide)) (ct_X3_sumOfSizes l D ce h pl ar G L B J 36 (by decide) hB) mc_X3_sumOfSizes ml_X4_77 im_X3_sumOfSizes se_X3_sumOfSizes ini_X3 nd_X3_sumOfSizes ⟨Nat.le_of_ble_eq_true rfl, Nat.le_of_ble_eq_true rfl⟩ ⟨rfl, rfl⟩ ⟨Nat.le_refl _, Nat.le_refl _⟩ rfl (Nat.le_of_ble_eq_true rfl) dX4_completeRoot_55 ?_
      rintro r_11 w1 ⟨r012, hr_, hw_⟩
      subst hr_
      subst hw_
      refine Z.iload_n hX dX4_completeRoot_58 rfl rfl ?_
      refine Z.callSNl (As := [.long r_11, .int (zI pw)]) (rest := []) hX (ct_X6_rootOf l D ce r_11 pw (by omega)) mc_X6_rootOf ns_X4_67 st_X6_rootOf ini_X6 nd_X6_rootOf ⟨Nat.le_of_ble_eq_true rfl, Nat.le_of_ble_eq_true rfl⟩ ⟨rfl, rfl⟩ ⟨Nat.le_refl _, Nat.le_refl _⟩ rfl (Nat.le_of_ble_eq_true rfl) dX4_completeRoot_59 ?_
      rintro li w1 ⟨r014, hr_, hw_⟩
      subst hr_
      refine ⟨hw_, ?_⟩
      refine Z.lstore (lv' := [(5, .long li), (3, .long dv), (2, .int (zI fb)), (0, .ref (h 5)), (1, .int (zI pw))]) hX dX4_completeRoot_62 (by decide) rfl ?_
      refine Z.aload_n hX dX4_completeRoot_64 rfl rfl ?_
      refine Z.iload_n hX dX4_completeRoot_65 rfl rfl ?_
      refine Z.callVfv (As := [.int (zI pw)]) (rest := []) hX 4 5 rfl rfl (ct_X4_raiseRoot l D ce h pl ar G L B J pw hB (by omega)) mc_X4_raiseRoot ml_X4_81 im_X4_raiseRoot se_X4_raiseRoot ini_X4 nd_X4_raiseRoot ⟨Nat.le_of_ble_eq_true rfl, Nat.le_of_ble_eq_true rfl⟩ ⟨rfl, rfl⟩ ⟨Nat.le_refl _, Nat.le_refl _⟩ rfl (Nat.le_of_ble_eq_true rfl) dX4_completeRoot_66 ?_
      rintro w1 ⟨B216, J217, hw_, r1, r2⟩
      subst hw_
      have e37r := r2 37 (by decide) (by decide)
      refine Z.aload_n hX dX4_completeRoot_69 rfl rfl ?_
      refine Z.getf hX 4 5 1 dX4_completeRoot_70 rfl rfl inX4 (by decide) fl_X4_16 rfl rfl ?_
      refine Z.getf hX 3 (24 + 37) 1 dX4_completeRoot_73 (cW_pl (by decide)) rfl inX3 (by decide) fl_X4_32 rfl rfl ?_
      refine Z.istore (lv' := [(7, .int (zI (B216 37))), (5, .long li), (3, .long dv), (2, .int (zI fb)), (0, .ref (h 5)), (1, .int (zI pw))]) hX dX4_completeRoot_76 (by decide) rfl ?_
      have key_78 : ∀ (N : Nat), ∀ (dd : Int) (BB : Nat → Int) (MM : Nat → Nat → Int64), (dd + 1).toNat < N → (hd : -1 ≤ dd ∧ dd ≤ B 37) → (hM : BOK BB) → (hf : ∀ k, k ≠ 38 → k ≠ 39 → BB k = B k) → Z p l e { frames := 3, cells := 0, slots := 0, locals := 83 } s m args below meth c D A 14 0 0 Q 78 [(7, .int (zI dd)), (5, .long li), (3, .long dv), (2, .int (zI fb)), (1, .int (zI pw)), (0, .ref (h 5))] [] (cW ce h pl ar G L BB MM) := by
        intro N
        induction N with
        | zero => intro dd BB MM hm; exact absurd hm (Nat.not_lt_zero _)
        | succ N ih_78 =>
          intro dd BB MM hm hd hM hf
          have e37 : BB 37 = B 37 := hf 37 (by decide) (by decide)
          refine Z.iload hX dX4_completeRoot_78 rfl ?_
          refine Z.if_lt hX 237 dX4_completeRoot_80 (by decide) ⟨by omega, by omega⟩ ?_ ?_
          · intro c18
            refine Z.iconst hX dX4_completeRoot_237 ?_
            exact hR _ _ _ _ dX4_completeRoot_238 rfl ⟨1, BB, MM, rfl, rfl, hM, (fun j_ h_38 h_39 => (hf j_ h_38 h_39)), (by omega)⟩
          · intro c18
            have key_102 : ∀ (j0 : Int), (hj0 : 0 ≤ j0 ∧ (j0 ≤ dd + 1)) → Z p l e { frames := 3, cells := 0, slots := 0, locals := 83 } s m args below meth c D A 14 0 0 Q 102 [(7, .int (zI dd)), (5, .long li), (3, .long dv), (2, .int (zI fb)), (1, .int (zI pw)), (0, .ref (h 5))] [.int (zI j0)] (cW ce h pl ar G L BB MM) := by
              intro j0 hj0
              refine Z.istore (lv' := [(8, .int (zI j0)), (7, .int (zI dd)), (5, .long li), (3, .long dv), (2, .int (zI fb)), (1, .int (zI pw)), (0, .ref (h 5))]) hX dX4_completeRoot_102 (by decide) rfl ?_
              have key_104 : ∀ (N : Nat), ∀ (j : Int) (BB : Nat → Int) (MM : Nat → Nat → Int64), (dd + 1 - j).toNat < N → (hj : 0 ≤ j ∧ j ≤ dd + 1) → (hM : BOK BB) → (hf : ∀ k, k ≠ 38 → k ≠ 39 → BB k = B k) → Z p l e { frames := 3, cells := 0, slots := 0, locals := 83 } s m args below meth c D A 14 0 0 Q 104 [(8, .int (zI j)), (7, .int (zI dd)), (5, .long li), (3, .long dv), (2, .int (zI fb)), (1, .int (zI pw)), (0, .ref (h 5))] [] (cW ce h pl ar G L BB MM) := by
                intro N
                induction N with
                | zero => intro j BB MM hm; exact absurd hm (Nat.not_lt_zero _)
                | succ N ih_104 =>
                  intro j BB MM hm hj hM hf
                  have e37 : BB 37 = B 37 := hf 37 (by decide) (by decide)
                  refine Z.iload hX dX4_completeRoot_104 rfl ?_
                  refine Z.iload hX dX4_completeRoot_106 rfl ?_
                  refine Z.icmp_gt hX 231 dX4_completeRoot_108 (by decide) ⟨by omega, by omega⟩ ⟨by omega, by omega⟩ ?_ ?_
                  · intro c19
                    refine Z.iinc (lv' := [(7, .int (zI (dd + -1))), (8, .int (zI j)), (5, .long li), (3, .long dv), (2, .int (zI fb)), (1, .int (zI pw)), (0, .ref (h 5))]) hX dX4_completeRoot_231 rfl (by decide) rfl ?_
                    refine Z.goto hX 78 dX4_completeRoot_234 (by decide) ?_
                    refine Z.pick [0, 2, 3, 4, 5, 6] rfl ?_
                    exact ih_78 _ _ _ (by omega) (by omega) hM hf
                  · intro c19
                    have e37 : BB 37 = B 37 := hf 37 (by decide) (by decide)
                    have hcb := cr_b (B := BB 37) (k := pw) (f := fb) (d := dd) (j := j) (by omega) ⟨by omega, by rw [e37]; exact hr⟩ (by omega) (by omega) (by omega)
                    refine Z.iload hX dX4_completeRoot_111 rfl ?_
                    refine Z.iload_n hX dX4_completeRoot_113 rfl rfl ?_
                    refine Z.iconst hX dX4_completeRoot_114 ?_
                    refine Z.isub hX dX4_completeRoot_115 ?_
                    refine Z.aload_n hX dX4_completeRoot_116 rfl rfl ?_
                    refine Z.getf hX 4 5 1 dX4_completeRoot_117 rfl rfl inX4 (by decide) fl_X4_16 rfl rfl ?_
                    refine Z.getf hX 3 (24 + 37) 1 dX4_completeRoot_120 (cW_pl (by decide)) rfl inX3 (by decide) fl_X4_32 rfl rfl ?_
                    refine Z.imul hX dX4_completeRoot_123 ?_
                    refine Z.iadd hX dX4_completeRoot_124 ?_
                    refine Z.iload hX dX4_completeRoot_125 rfl ?_
                    refine Z.iload_n hX dX4_completeRoot_127 rfl rfl ?_
                    refine Z.iconst hX dX4_completeRoot_128 ?_
                    refine Z.isub hX dX4_completeRoot_129 ?_
                    refine Z.iload_n hX dX4_completeRoot_130 rfl rfl ?_
                    refine Z.imul hX dX4_completeRoot_131 ?_
                    refine Z.iadd hX dX4_completeRoot_132 ?_
                    refine Z.callSNi (As := [.int (zI (dd + ((pw - 1) * (BB 37)))), .int (zI (j + ((pw - 1) * fb)))]) (rest := []) hX (ct_X6_slotOf l D ce (dd + ((pw - 1) * (BB 37))) (j + ((pw - 1) * fb)) (by omega) (by omega)) mc_X6_slotOf ns_X4_61 st_X6_slotOf ini_X6 nd_X6_slotOf ⟨Nat.le_of_ble_eq_true rfl, Nat.le_of_ble_eq_true rfl⟩ ⟨rfl, rfl⟩ ⟨Nat.le_refl _, Nat.le_refl _⟩ rfl (Nat.le_of_ble_eq_true rfl) dX4_completeRoot_133 ?_
                    rintro r_20 w1 ⟨z21, hr_, hw_, hq22, hq23⟩
                    subst hr_
                    refine ⟨hw_, ?_⟩
                    refine Z.istore (lv' := [(9, .int (zI z21)), (8, .int (zI j)), (7, .int (zI dd)), (5, .long li), (3, .long dv), (2, .int (zI fb)), (1, .int (zI pw)), (0, .ref (h 5))]) hX dX4_completeRoot_136 (by decide) rfl ?_
                    refine Z.aload_n hX dX4_completeRoot_138 rfl rfl ?_
                    refine Z.getf hX 4 5 0 dX4_completeRoot_139 rfl rfl inX4 (by decide) fl_X4_10 rfl rfl ?_
                    refine Z.getf hX 3 (24 + 36) 0 dX4_completeRoot_142 (cW_pl (by decide)) rfl inX3 (by decide) fl_X4_57 rfl rfl ?_
                    refine Z.iload hX dX4_completeRoot_145 rfl ?_
                    refine Z.laload hX (66 + 36) 1 dX4_completeRoot_147 (cW_ar (by decide)) rfl (by omega) (by omega) (by decide) ?_
                    refine Z.aload_n hX dX4_completeRoot_148 rfl rfl ?_
                    refine Z.getf hX 4 5 2 dX4_completeRoot_149 rfl rfl inX4 (by decide) fl_X4_19 rfl rfl ?_
                    refine Z.getf hX 3 (24 + 38) 0 dX4_completeRoot_152 (cW_pl (by decide)) rfl inX3 (by decide) fl_X4_57 rfl rfl ?_
                    refine Z.iload hX dX4_completeRoot_155 rfl ?_
                    refine Z.laload hX (66 + 38) 1 dX4_completeRoot_157 (cW_ar (by decide)) rfl (by omega) (by omega) (by decide) ?_
                    refine Z.lsub hX dX4_completeRoot_158 ?_
                    refine Z.lstore (lv' := [(10, .long ((MM 36 (z21 : Int).toNat) - (MM 38 (z21 : Int).toNat))), (9, .int (zI z21)), (8, .int (zI j)), (7, .int (zI dd)), (5, .long li), (3, .long dv), (2, .int (zI fb)), (1, .int (zI pw)), (0, .ref (h 5))]) hX dX4_completeRoot_159 (by decide) rfl ?_
                    obtain ⟨re, ere⟩ : ∃ x : Int64, x = (MM 36 (z21 : Int).toNat) - (MM 38 (z21 : Int).toNat) := ⟨_, rfl⟩
                    rw [← ere]
                    refine Z.lload hX dX4_completeRoot_161 rfl ?_
                    refine Z.lload_n hX dX4_completeRoot_163 rfl rfl ?_
                    refine Z.ldiv hX dX4_completeRoot_164 hdv0 ?_
                    refine Z.lstore (lv' := [(12, .long (re / dv)), (10, .long re), (9, .int (zI z21)), (8, .int (zI j)), (7, .int (zI dd)), (5, .long li), (3, .long dv), (2, .int (zI fb)), (1, .int (zI pw)), (0, .ref (h 5))]) hX dX4_completeRoot_165 (by decide) rfl ?_
                    obtain ⟨fo, efo⟩ : ∃ x : Int64, x = re / dv := ⟨_, rfl⟩
                    rw [← efo]
                    refine Z.lload hX dX4_completeRoot_167 rfl ?_
                    refine Z.lload_n hX dX4_completeRoot_169 rfl rfl ?_
                    refine Z.lmul hX dX4_completeRoot_170 ?_
                    refine Z.lload hX dX4_completeRoot_171 rfl ?_
                    refine Z.lcmp_ne hX 194 dX4_completeRoot_173 dX4_completeRoot_174 (by decide) ?_ ?_
                    · intro c24
                      refine Z.iconst hX dX4_completeRoot_194 ?_
                      exact hR _ _ _ _ dX4_completeRoot_195 rfl ⟨0, BB, MM, rfl, rfl, hM, (fun j_ h_38 h_39 => (hf j_ h_38 h_39)), (by omega)⟩
                    · intro c24
                      refine Z.lload hX dX4_completeRoot_177 rfl ?_
                      refine Z.lload hX dX4_completeRoot_179 rfl ?_
                      refine Z.lcmp_gt hX 194 dX4_completeRoot_181 dX4_completeRoot_182 (by decide) ?_ ?_
                      · intro c25
                        refine Z.iconst hX dX4_completeRoot_194 ?_
                        exact hR _ _ _ _ dX4_completeRoot_195 rfl ⟨0, BB, MM, rfl, rfl, hM, (fun j_ h_38 h_39 => (hf j_ h_38 h_39)), (by omega)⟩
                      · intro c25
                        refine Z.lload hX dX4_completeRoot_185 rfl ?_
                        refine Z.lload hX dX4_completeRoot_187 rfl ?_
                        refine Z.lneg hX dX4_completeRoot_189 ?_
                        refine Z.lcmp_ge hX 196 dX4_completeRoot_190 dX4_completeRoot_191 (by decide) ?_ ?_
                        · intro c26
                          refine Z.lload hX dX4_completeRoot_196 rfl ?_
                          refine Z.lconst (v := 0) hX dX4_completeRoot_198 rfl ?_
                          refine Z.lcmp_eq hX 225 dX4_completeRoot_199 dX4_completeRoot_200 (by decide) ?_ ?_
                          · intro c27
                            refine Z.iinc (lv' := [(8, .int (zI (j + 1))), (12, .long fo), (10, .long re), (9, .int (zI z21)), (7, .int (zI dd)), (5, .long li), (3, .long dv), (2, .int (zI fb)), (1, .int (zI pw)), (0, .ref (h 5))]) hX dX4_completeRoot_225 rfl (by decide) rfl ?_
                            refine Z.goto hX 104 dX4_completeRoot_228 (by decide) ?_
                            refine Z.pick [0, 4, 5, 6, 7, 8, 9] rfl ?_
                            exact ih_104 _ _ _ (by omega) (by omega) hM (fun j_ h_38 h_39 => (hf j_ h_38 h_39))
                          · intro c27
                            refine Z.aload_n hX dX4_completeRoot_203 rfl rfl ?_
                            refine Z.getf hX 4 5 1 dX4_completeRoot_204 rfl rfl inX4 (by decide) fl_X4_16 rfl rfl ?_
                            refine Z.getf hX 3 (24 + 37) 0 dX4_completeRoot_207 (cW_pl (by decide)) rfl inX3 (by decide) fl_X4_57 rfl rfl ?_
                            refine Z.iload hX dX4_completeRoot_210 rfl ?_
                            refine Z.iload hX dX4_completeRoot_212 rfl ?_
                            refine Z.callSNi (As := [.int (zI dd), .int (zI j)]) (rest := [.ref (ar 37)]) hX (ct_X6_slotOf l D ce dd j (by omega) (by omega)) mc_X6_slotOf ns_X4_61 st_X6_slotOf ini_X6 nd_X6_slotOf ⟨Nat.le_of_ble_eq_true rfl, Nat.le_of_ble_eq_true rfl⟩ ⟨rfl, rfl⟩ ⟨Nat.le_refl _, Nat.le_refl _⟩ rfl (Nat.le_of_ble_eq_true rfl) dX4_completeRoot_214 ?_
                            rintro r_28 w1 ⟨z29, hr_, hw_, hq30, hq31⟩
                            subst hr_
                            refine ⟨hw_, ?_⟩
                            refine Z.lload hX dX4_completeRoot_217 rfl ?_
                            refine Z.lastore hX (66 + 37) 1 dX4_completeRoot_219 (cW_ar (by decide)) rfl (by omega) (by omega) (by decide) ?_
                            obtain ⟨J32, eJ32⟩ : ∃ J' : Nat → Nat → Int64, J' = va_up MM 37 (vp_updL (MM 37) (z29 : Int).toNat (fo)) := ⟨_, rfl⟩
                            refine Z.toW (w' := cW ce h pl ar G L BB J32) (by rw [eJ32]; exact cW_setJ (by decide)) ?_
                            have gJ32 : J32 37 = vp_updL (MM 37) (z29 : Int).toNat (fo) := by rw [eJ32]; exact up_eq
                            have fJ32 : ∀ j_, j_ ≠ 37 → J32 j_ = MM j_ := fun j_ hj_ => by rw [eJ32]; exact up_ne hj_
                            refine Z.aload_n hX dX4_completeRoot_220 rfl rfl ?_
                            refine Z.iload_n hX dX4_completeRoot_221 rfl rfl ?_
                            refine Z.callVfv (As := [.int (zI pw)]) (rest := []) hX 4 5 rfl rfl (ct_X4_raiseRoot l D ce h pl ar G L BB J32 pw hM (by omega)) mc_X4_raiseRoot ml_X4_81 im_X4_raiseRoot se_X4_raiseRoot ini_X4 nd_X4_raiseRoot ⟨Nat.le_of_ble_eq_true rfl, Nat.le_of_ble_eq_true rfl⟩ ⟨rfl, rfl⟩ ⟨Nat.le_refl _, Nat.le_refl _⟩ rfl (Nat.le_of_ble_eq_true rfl) dX4_completeRoot_222 ?_
                            rintro w1 ⟨B234, J235, hw_, s1, s2⟩
                            subst hw_
                            refine Z.iinc (lv' := [(8, .int (zI (j + 1))), (12, .long fo), (10, .long re), (9, .int (zI z21)), (7, .int (zI dd)), (5, .long li), (3, .long dv), (2, .int (zI fb)), (1, .int (zI pw)), (0, .ref (h 5))]) hX dX4_completeRoot_225 rfl (by decide) rfl ?_
                            refine Z.goto hX 104 dX4_completeRoot_228 (by decide) ?_
                            refine Z.pick [0, 4, 5, 6, 7, 8, 9] rfl ?_
                            exact ih_104 _ _ _ (by omega) (by omega) s1 (fun j_ h_38 h_39 => ((s2 j_ h_38 h_39).trans (hf j_ h_38 h_39)))
                        · intro c26
                          refine Z.iconst hX dX4_completeRoot_194 ?_
                          exact hR _ _ _ _ dX4_completeRoot_195 rfl ⟨0, BB, MM, rfl, rfl, hM, (fun j_ h_38 h_39 => (hf j_ h_38 h_39)), (by omega)⟩
              refine Z.pick [0, 1, 2, 3, 4, 5, 6] rfl ?_
              exact key_104 _ _ _ _ (Nat.lt_succ_self _) (by omega) hM hf
            refine Z.iload hX dX4_completeRoot_83 rfl ?_
            refine Z.aload_n hX dX4_completeRoot_85 rfl rfl ?_
            refine Z.getf hX 4 5 1 dX4_completeRoot_86 rfl rfl inX4 (by decide) fl_X4_16 rfl rfl ?_
            refine Z.getf hX 3 (24 + 37) 1 dX4_completeRoot_89 (cW_pl (by decide)) rfl inX3 (by decide) fl_X4_32 rfl rfl ?_
            refine Z.icmp_ne hX 101 dX4_completeRoot_92 (by decide) ⟨by omega, by omega⟩ ⟨by omega, by omega⟩ ?_ ?_
            · intro c36
              refine Z.iconst hX dX4_completeRoot_101 ?_
              refine Z.pick [0, 1, 2, 3, 4, 5] rfl ?_
              exact key_102 _ (by omega)
            · intro c36
              refine Z.iload_n hX dX4_completeRoot_95 rfl rfl ?_
              refine Z.iconst hX dX4_completeRoot_96 ?_
              refine Z.iadd hX dX4_completeRoot_97 ?_
              refine Z.goto hX 102 dX4_completeRoot_98 (by decide) ?_
              refine Z.pick [0, 1, 2, 3, 4, 5] rfl ?_
              exact key_102 _ (by omega)
      refine Z.pick [0, 1, 2, 3, 5, 4] rfl ?_
      exact key_78 _ _ _ _ (Nat.lt_succ_self _) (by omega) r1 (fun j_ h_38 h_39 => ((r2 j_ h_38 h_39).trans rfl))
    · intro c10
      refine Z.iconst hX dX4_completeRoot_49 ?_
      exact hR _ _ _ _ dX4_completeRoot_50 rfl ⟨0, B, J, rfl, rfl, hB, (fun _ _ _ => rfl), (by omega)⟩
  · intro c2
    refine Z.iconst hX dX4_completeRoot_12 ?_
    exact hR _ _ _ _ dX4_completeRoot_13 rfl ⟨0, B, J, rfl, rfl, hB, (fun _ _ _ => rfl), (by omega)⟩

theorem dX4_findRoot_0 : decode cX4_findRoot 0 = .ok (.aload_n 0, 1) := by decide +kernel
theorem dX4_findRoot_1 : decode cX4_findRoot 1 = .ok (.getfield 10, 3) := by decide +kernel
theorem dX4_findRoot_4 : decode cX4_findRoot 4 = .ok (.aload_n 1, 1) := by decide +kernel
theorem dX4_findRoot_5 : decode cX4_findRoot 5 = .ok (.invokevirtual 25, 3) := by decide +kernel
theorem dX4_findRoot_8 : decode cX4_findRoot 8 = .ok (.aload_n 0, 1) := by decide +kernel
theorem dX4_findRoot_9 : decode cX4_findRoot 9 = .ok (.getfield 10, 3) := by decide +kernel
theorem dX4_findRoot_12 : decode cX4_findRoot 12 = .ok (.invokevirtual 29, 3) := by decide +kernel
theorem dX4_findRoot_15 : decode cX4_findRoot 15 = .ok (.aload_n 0, 1) := by decide +kernel
theorem dX4_findRoot_16 : decode cX4_findRoot 16 = .ok (.getfield 10, 3) := by decide +kernel
theorem dX4_findRoot_19 : decode cX4_findRoot 19 = .ok (.getfield 32, 3) := by decide +kernel
theorem dX4_findRoot_22 : decode cX4_findRoot 22 = .ok (.iconst 1, 1) := by decide +kernel
theorem dX4_findRoot_23 : decode cX4_findRoot 23 = .ok (.if_icmp .ge 5, 3) := by decide +kernel
theorem dX4_findRoot_26 : decode cX4_findRoot 26 = .ok (.iconst 0, 1) := by decide +kernel
theorem dX4_findRoot_27 : decode cX4_findRoot 27 = .ok (.ireturn, 1) := by decide +kernel
theorem dX4_findRoot_28 : decode cX4_findRoot 28 = .ok (.aload_n 0, 1) := by decide +kernel
theorem dX4_findRoot_29 : decode cX4_findRoot 29 = .ok (.getfield 10, 3) := by decide +kernel
theorem dX4_findRoot_32 : decode cX4_findRoot 32 = .ok (.getfield 32, 3) := by decide +kernel
theorem dX4_findRoot_35 : decode cX4_findRoot 35 = .ok (.istore_n 3, 1) := by decide +kernel
theorem dX4_findRoot_36 : decode cX4_findRoot 36 = .ok (.iload_n 3, 1) := by decide +kernel
theorem dX4_findRoot_37 : decode cX4_findRoot 37 = .ok (.iconst 1, 1) := by decide +kernel
theorem dX4_findRoot_38 : decode cX4_findRoot 38 = .ok (.if_icmp .le 39, 3) := by decide +kernel
theorem dX4_findRoot_41 : decode cX4_findRoot 41 = .ok (.aload_n 0, 1) := by decide +kernel
theorem dX4_findRoot_42 : decode cX4_findRoot 42 = .ok (.iload_n 3, 1) := by decide +kernel
theorem dX4_findRoot_43 : decode cX4_findRoot 43 = .ok (.invokevirtual 36, 3) := by decide +kernel
theorem dX4_findRoot_46 : decode cX4_findRoot 46 = .ok (.ifCond .eq 25, 3) := by decide +kernel
theorem dX4_findRoot_49 : decode cX4_findRoot 49 = .ok (.aload_n 0, 1) := by decide +kernel
theorem dX4_findRoot_50 : decode cX4_findRoot 50 = .ok (.iload_n 3, 1) := by decide +kernel
theorem dX4_findRoot_51 : decode cX4_findRoot 51 = .ok (.invokevirtual 40, 3) := by decide +kernel
theorem dX4_findRoot_54 : decode cX4_findRoot 54 = .ok (.ifCond .eq 17, 3) := by decide +kernel
theorem dX4_findRoot_57 : decode cX4_findRoot 57 = .ok (.aload_n 0, 1) := by decide +kernel
theorem dX4_findRoot_58 : decode cX4_findRoot 58 = .ok (.getfield 19, 3) := by decide +kernel
theorem dX4_findRoot_61 : decode cX4_findRoot 61 = .ok (.aload_n 0, 1) := by decide +kernel
theorem dX4_findRoot_62 : decode cX4_findRoot 62 = .ok (.getfield 10, 3) := by decide +kernel
theorem dX4_findRoot_65 : decode cX4_findRoot 65 = .ok (.invokevirtual 43, 3) := by decide +kernel
theorem dX4_findRoot_68 : decode cX4_findRoot 68 = .ok (.ifCond .ne 9, 3) := by decide +kernel
theorem dX4_findRoot_71 : decode cX4_findRoot 71 = .ok (.iinc 3 (-1), 3) := by decide +kernel
theorem dX4_findRoot_74 : decode cX4_findRoot 74 = .ok (.goto (-38), 3) := by decide +kernel
theorem dX4_findRoot_77 : decode cX4_findRoot 77 = .ok (.aload_n 2, 1) := by decide +kernel
theorem dX4_findRoot_78 : decode cX4_findRoot 78 = .ok (.getfield 47, 3) := by decide +kernel
theorem dX4_findRoot_81 : decode cX4_findRoot 81 = .ok (.iload_n 3, 1) := by decide +kernel
theorem dX4_findRoot_82 : decode cX4_findRoot 82 = .ok (.iconst 1, 1) := by decide +kernel
theorem dX4_findRoot_83 : decode cX4_findRoot 83 = .ok (.if_icmp .le 10, 3) := by decide +kernel
theorem dX4_findRoot_86 : decode cX4_findRoot 86 = .ok (.aload_n 0, 1) := by decide +kernel
theorem dX4_findRoot_87 : decode cX4_findRoot 87 = .ok (.getfield 16, 3) := by decide +kernel
theorem dX4_findRoot_90 : decode cX4_findRoot 90 = .ok (.goto 7, 3) := by decide +kernel
theorem dX4_findRoot_93 : decode cX4_findRoot 93 = .ok (.aload_n 0, 1) := by decide +kernel
theorem dX4_findRoot_94 : decode cX4_findRoot 94 = .ok (.getfield 10, 3) := by decide +kernel
theorem dX4_findRoot_97 : decode cX4_findRoot 97 = .ok (.invokevirtual 25, 3) := by decide +kernel
theorem dX4_findRoot_100 : decode cX4_findRoot 100 = .ok (.aload_n 2, 1) := by decide +kernel
theorem dX4_findRoot_101 : decode cX4_findRoot 101 = .ok (.iload_n 3, 1) := by decide +kernel
theorem dX4_findRoot_102 : decode cX4_findRoot 102 = .ok (.putfield 50, 3) := by decide +kernel
theorem dX4_findRoot_105 : decode cX4_findRoot 105 = .ok (.iconst 1, 1) := by decide +kernel
theorem dX4_findRoot_106 : decode cX4_findRoot 106 = .ok (.ireturn, 1) := by decide +kernel
set_option maxHeartbeats 4000000 in
set_option maxRecDepth 100000 in
theorem ct_X4_findRoot_l (l : Launch) (D : va_G) (ce : Nat → ClassId) (h pl ar : Nat → Nat) (G : Nat → Int) (L : Nat → Nat → Int64) (B : Nat → Int) (J : Nat → Nat → Int64) (k : Nat) (hB : BOK B) (hk : 20 ≤ k ∧ k < 36) : Ct l yX4_findRoot cX4_findRoot 4 (some .boolean) { frames := 4, cells := 0, slots := 0, locals := 116 } 0 0 D (TY ce) [.ref (h 5), .ref (pl k), .ref (h 6)] (cW ce h pl ar G L B J) (QI D (TY ce) (fun r w1 => ∃ z : Int, ∃ G2 : Nat → Int, ∃ B2 : Nat → Int, ∃ J2 : Nat → Nat → Int64, r = zI z ∧ w1 = cW ce h pl ar G2 L B2 J2 ∧ (z = 0 ∨ z = 1) ∧ (BOK B2) ∧ (∀ k, k ≠ 1 → G2 k = G k) ∧ (G2 1 = G 1 ∨ (1 ≤ G2 1 ∧ G2 1 ≤ 6)))) := by
  refine Ct.ofB (by decide) (Nat.le_of_ble_eq_true rfl) ?_
  intro p e s m args below meth c A Q hX hnm hR
  refine Z.pick (lv' := [(0, .ref (h 5)), (1, .ref (pl k)), (2, .ref (h 6))]) [0, 1, 2] rfl ?_
  refine Z.aload_n hX dX4_findRoot_0 rfl rfl ?_
  refine Z.getf hX 4 5 0 dX4_findRoot_1 rfl rfl inX4 (by decide) fl_X4_10 rfl rfl ?_
  refine Z.aload_n hX dX4_findRoot_4 rfl rfl ?_
  refine Z.callVfv (As := [.ref (pl k)]) (rest := []) hX 3 (24 + 36) rfl (cW_pl (by decide)) (ct_X3_copy l D ce h pl ar G L B J 36 k (by decide) hB (by omega)) mc_X3_copy ml_X4_25 im_X3_copy se_X3_copy ini_X3 nd_X3_copy ⟨Nat.le_of_ble_eq_true rfl, Nat.le_of_ble_eq_true rfl⟩ ⟨rfl, rfl⟩ ⟨Nat.le_refl _, Nat.le_refl _⟩ rfl (Nat.le_of_ble_eq_true rfl) dX4_findRoot_5 ?_
  rintro w1 ⟨B22, J23, hw_, a1, a2, a3, a4⟩
  subst hw_
  refine Z.aload_n hX dX4_findRoot_8 rfl rfl ?_
  refine Z.getf hX 4 5 0 dX4_findRoot_9 rfl rfl inX4 (by decide) fl_X4_10 rfl rfl ?_
  refine Z.callVfv (As := []) (rest := []) hX 3 (24 + 36) rfl (cW_pl (by decide)) (ct_X3_makePrimitive l D ce h pl ar G L B22 J23 36 (by decide) a3) mc_X3_makePrimitive ml_X4_29 im_X3_makePrimitive se_X3_makePrimitive ini_X3 nd_X3_makePrimitive ⟨Nat.le_of_ble_eq_true rfl, Nat.le_of_ble_eq_true rfl⟩ ⟨rfl, rfl⟩ ⟨Nat.le_refl _, Nat.le_refl _⟩ rfl (Nat.le_of_ble_eq_true rfl) dX4_findRoot_12 ?_
  rintro w1 ⟨Bp, J25, hw_, b1, b2, b3, b4⟩
  subst hw_
  have hb36 := b3 36 (by decide)
  refine Z.aload_n hX dX4_findRoot_15 rfl rfl ?_
  refine Z.getf hX 4 5 0 dX4_findRoot_16 rfl rfl inX4 (by decide) fl_X4_10 rfl rfl ?_
  refine Z.getf hX 3 (24 + 36) 1 dX4_findRoot_19 (cW_pl (by decide)) rfl inX3 (by decide) fl_X4_32 rfl rfl ?_
  refine Z.iconst hX dX4_findRoot_22 ?_
  refine Z.icmp_ge hX 28 dX4_findRoot_23 (by decide) ⟨by omega, by omega⟩ ⟨by omega, by omega⟩ ?_ ?_
  · intro c6
    have key_77 : ∀ (pw : Int) (BB : Nat → Int) (MM : Nat → Nat → Int64), (hp : 1 ≤ pw ∧ pw ≤ 6) → (hM : BOK BB) → Z p l e { frames := 4, cells := 0, slots := 0, locals := 116 } s m args below meth c D A 4 0 0 Q 77 [(3, .int (zI pw)), (2, .ref (h 6)), (0, .ref (h 5))] [] (cW ce h pl ar G L BB MM) := by
      intro pw BB MM hp hM
      refine Z.aload_n hX dX4_findRoot_77 rfl rfl ?_
      refine Z.getf hX 0 6 0 dX4_findRoot_78 rfl rfl inX0 (by decide) fl_X4_47 rfl rfl ?_
      refine Z.iload_n hX dX4_findRoot_81 rfl rfl ?_
      refine Z.iconst hX dX4_findRoot_82 ?_
      refine Z.icmp_le hX 93 dX4_findRoot_83 (by decide) ⟨by omega, by omega⟩ ⟨by omega, by omega⟩ ?_ ?_
      · intro c7
        refine Z.aload_n hX dX4_findRoot_93 rfl rfl ?_
        refine Z.getf hX 4 5 0 dX4_findRoot_94 rfl rfl inX4 (by decide) fl_X4_10 rfl rfl ?_
        refine Z.callVfv (As := [.ref (pl 36)]) (rest := []) hX 3 (24 + 40) rfl (cW_pl (by decide)) (ct_X3_copy l D ce h pl ar G L BB MM 40 36 (by decide) hM (by decide)) mc_X3_copy ml_X4_25 im_X3_copy se_X3_copy ini_X3 nd_X3_copy ⟨Nat.le_of_ble_eq_true rfl, Nat.le_of_ble_eq_true rfl⟩ ⟨rfl, rfl⟩ ⟨Nat.le_refl _, Nat.le_refl _⟩ rfl (Nat.le_of_ble_eq_true rfl) dX4_findRoot_97 ?_
        rintro w1 ⟨B29, J210, hw_, f1, f2, f3, f4⟩
        subst hw_
        refine Z.aload_n hX dX4_findRoot_100 rfl rfl ?_
        refine Z.iload_n hX dX4_findRoot_101 rfl rfl ?_
        refine Z.putf (ty := .int) hX 0 6 1 tyX0 dX4_findRoot_102 rfl rfl inX0 tyX0_ok nmX0 (by decide) fl_X4_50 rfl rfl (by decide +kernel) rfl rfl (Nat.le_of_ble_eq_true rfl) ?_
        obtain ⟨G11, eG11⟩ : ∃ F' : Nat → Int, F' = va_up G 1 (pw) := ⟨_, rfl⟩
        refine Z.toW (w' := cW ce h pl ar G11 L B29 J210) (by rw [eG11]; rfl) ?_
        have gG11 : G11 1 = pw := by rw [eG11]; exact up_eq
        have fG11 : ∀ j_, j_ ≠ 1 → G11 j_ = G j_ := fun j_ hj_ => by rw [eG11]; exact up_ne hj_
        refine Z.iconst hX dX4_findRoot_105 ?_
        exact hR _ _ _ _ dX4_findRoot_106 rfl ⟨1, G11, B29, J210, rfl, rfl, (by omega), f3, (fun j_ h_1 => ((fG11 j_ h_1).trans rfl)), Or.inr (by omega)⟩
      · intro c7
        refine Z.aload_n hX dX4_findRoot_86 rfl rfl ?_
        refine Z.getf hX 4 5 1 dX4_findRoot_87 rfl rfl inX4 (by decide) fl_X4_16 rfl rfl ?_
        refine Z.goto hX 97 dX4_findRoot_90 (by decide) ?_
        refine Z.callVfv (As := [.ref (pl 37)]) (rest := []) hX 3 (24 + 40) rfl (cW_pl (by decide)) (ct_X3_copy l D ce h pl ar G L BB MM 40 37 (by decide) hM (by decide)) mc_X3_copy ml_X4_25 im_X3_copy se_X3_copy ini_X3 nd_X3_copy ⟨Nat.le_of_ble_eq_true rfl, Nat.le_of_ble_eq_true rfl⟩ ⟨rfl, rfl⟩ ⟨Nat.le_refl _, Nat.le_refl _⟩ rfl (Nat.le_of_ble_eq_true rfl) dX4_findRoot_97 ?_
        rintro w1 ⟨B213, J214, hw_, f1, f2, f3, f4⟩
        subst hw_
        refine Z.aload_n hX dX4_findRoot_100 rfl rfl ?_
        refine Z.iload_n hX dX4_findRoot_101 rfl rfl ?_
        refine Z.putf (ty := .int) hX 0 6 1 tyX0 dX4_findRoot_102 rfl rfl inX0 tyX0_ok nmX0 (by decide) fl_X4_50 rfl rfl (by decide +kernel) rfl rfl (Nat.le_of_ble_eq_true rfl) ?_
        obtain ⟨G15, eG15⟩ : ∃ F' : Nat → Int, F' = va_up G 1 (pw) := ⟨_, rfl⟩
        refine Z.toW (w' := cW ce h pl ar G15 L B213 J214) (by rw [eG15]; rfl) ?_
        have gG15 : G15 1 = pw := by rw [eG15]; exact up_eq
        have fG15 : ∀ j_, j_ ≠ 1 → G15 j_ = G j_ := fun j_ hj_ => by rw [eG15]; exact up_ne hj_
        refine Z.iconst hX dX4_findRoot_105 ?_
        exact hR _ _ _ _ dX4_findRoot_106 rfl ⟨1, G15, B213, J214, rfl, rfl, (by omega), f3, (fun j_ h_1 => ((fG15 j_ h_1).trans rfl)), Or.inr (by omega)⟩
    refine Z.aload_n hX dX4_findRoot_28 rfl rfl ?_
    refine Z.getf hX 4 5 0 dX4_findRoot_29 rfl rfl inX4 (by decide) fl_X4_10 rfl rfl ?_
    refine Z.getf hX 3 (24 + 36) 1 dX4_findRoot_32 (cW_pl (by decide)) rfl inX3 (by decide) fl_X4_32 rfl rfl ?_
    refine Z.istore_n (lv' := [(3, .int (zI (Bp 36))), (0, .ref (h 5)), (1, .ref (pl k)), (2, .ref (h 6))]) hX dX4_findRoot_35 rfl (by decide) rfl ?_
    have key_36 : ∀ (N : Nat), ∀ (pw : Int) (BB : Nat → Int) (MM : Nat → Nat → Int64), pw.toNat < N → (hp : 1 ≤ pw ∧ pw ≤ 6) → (hM : BOK BB) → Z p l e { frames := 4, cells := 0, slots := 0, locals := 116 } s m args below meth c D A 4 0 0 Q 36 [(3, .int (zI pw)), (2, .ref (h 6)), (0, .ref (h 5))] [] (cW ce h pl ar G L BB MM) := by
      intro N
      induction N with
      | zero => intro pw BB MM hm; exact absurd hm (Nat.not_lt_zero _)
      | succ N ih_36 =>
        intro pw BB MM hm hp hM
        refine Z.iload_n hX dX4_findRoot_36 rfl rfl ?_
        refine Z.iconst hX dX4_findRoot_37 ?_
        refine Z.icmp_le hX 77 dX4_findRoot_38 (by decide) ⟨by omega, by omega⟩ ⟨by omega, by omega⟩ ?_ ?_
        · intro c16
          refine Z.pick [0, 1, 2] rfl ?_
          exact key_77 _ _ _ (by omega) hM
        · intro c16
          refine Z.aload_n hX dX4_findRoot_41 rfl rfl ?_
          refine Z.iload_n hX dX4_findRoot_42 rfl rfl ?_
          refine Z.callVfi (As := [.int (zI pw)]) (rest := []) hX 4 5 rfl rfl (ct_X4_startRoot l D ce h pl ar G L BB MM pw hM (by omega)) mc_X4_startRoot ml_X4_36 im_X4_startRoot se_X4_startRoot ini_X4 nd_X4_startRoot ⟨Nat.le_of_ble_eq_true rfl, Nat.le_of_ble_eq_true rfl⟩ ⟨rfl, rfl⟩ ⟨Nat.le_refl _, Nat.le_refl _⟩ rfl (Nat.le_of_ble_eq_true rfl) dX4_findRoot_43 ?_
          rintro r_17 w1 ⟨z18, B219, J220, hr_, hw_, c1, c2, c3⟩
          subst hr_
          subst hw_
          refine Z.if_eq hX 71 dX4_findRoot_46 (by decide) ⟨by omega, by omega⟩ ?_ ?_
          · intro c21
            refine Z.iinc (lv' := [(3, .int (zI (pw + -1))), (2, .ref (h 6)), (0, .ref (h 5))]) hX dX4_findRoot_71 rfl (by decide) rfl ?_
            refine Z.goto hX 36 dX4_findRoot_74 (by decide) ?_
            refine Z.pick [0, 1, 2] rfl ?_
            exact ih_36 _ _ _ (by omega) (by omega) c1
          · intro c21
            refine Z.aload_n hX dX4_findRoot_49 rfl rfl ?_
            refine Z.iload_n hX dX4_findRoot_50 rfl rfl ?_
            refine Z.callVfi (As := [.int (zI pw)]) (rest := []) hX 4 5 rfl rfl (ct_X4_completeRoot l D ce h pl ar G L B219 J220 pw c1 (by omega) (by omega)) mc_X4_completeRoot ml_X4_40 im_X4_completeRoot se_X4_completeRoot ini_X4 nd_X4_completeRoot ⟨Nat.le_of_ble_eq_true rfl, Nat.le_of_ble_eq_true rfl⟩ ⟨rfl, rfl⟩ ⟨Nat.le_refl _, Nat.le_refl _⟩ rfl (Nat.le_of_ble_eq_true rfl) dX4_findRoot_51 ?_
            rintro r_22 w1 ⟨z23, B224, J225, hr_, hw_, d1, d2, d3⟩
            subst hr_
            subst hw_
            refine Z.if_eq hX 71 dX4_findRoot_54 (by decide) ⟨by omega, by omega⟩ ?_ ?_
            · intro c26
              refine Z.iinc (lv' := [(3, .int (zI (pw + -1))), (2, .ref (h 6)), (0, .ref (h 5))]) hX dX4_findRoot_71 rfl (by decide) rfl ?_
              refine Z.goto hX 36 dX4_findRoot_74 (by decide) ?_
              refine Z.pick [0, 1, 2] rfl ?_
              exact ih_36 _ _ _ (by omega) (by omega) d1
            · intro c26
              refine Z.aload_n hX dX4_findRoot_57 rfl rfl ?_
              refine Z.getf hX 4 5 2 dX4_findRoot_58 rfl rfl inX4 (by decide) fl_X4_19 rfl rfl ?_
              refine Z.aload_n hX dX4_findRoot_61 rfl rfl ?_
              refine Z.getf hX 4 5 0 dX4_findRoot_62 rfl rfl inX4 (by decide) fl_X4_10 rfl rfl ?_
              refine Z.callVfi (As := [.ref (pl 36)]) (rest := []) hX 3 (24 + 38) rfl (cW_pl (by decide)) (ct_X3_isSame l D ce h pl ar G L B224 J225 38 36 (by decide) d1 (by decide)) mc_X3_isSame ml_X4_43 im_X3_isSame se_X3_isSame ini_X3 nd_X3_isSame ⟨Nat.le_of_ble_eq_true rfl, Nat.le_of_ble_eq_true rfl⟩ ⟨rfl, rfl⟩ ⟨Nat.le_refl _, Nat.le_refl _⟩ rfl (Nat.le_of_ble_eq_true rfl) dX4_findRoot_65 ?_
              rintro r_27 w1 ⟨z28, hr_, hw_, hq29⟩
              subst hr_
              subst hw_
              refine Z.if_ne hX 77 dX4_findRoot_68 (by decide) ⟨by omega, by omega⟩ ?_ ?_
              · intro c30
                refine Z.pick [0, 1, 2] rfl ?_
                exact key_77 _ _ _ (by omega) d1
              · intro c30
                refine Z.iinc (lv' := [(3, .int (zI (pw + -1))), (2, .ref (h 6)), (0, .ref (h 5))]) hX dX4_findRoot_71 rfl (by decide) rfl ?_
                refine Z.goto hX 36 dX4_findRoot_74 (by decide) ?_
                refine Z.pick [0, 1, 2] rfl ?_
                exact ih_36 _ _ _ (by omega) (by omega) d1
    refine Z.pick [0, 3, 1] rfl ?_
    exact key_36 _ _ _ _ (Nat.lt_succ_self _) (by omega) b3
  · intro c6
    refine Z.iconst hX dX4_findRoot_26 ?_
    exact hR _ _ _ _ dX4_findRoot_27 rfl ⟨0, G, Bp, J25, rfl, rfl, (by omega), b3, (fun _ _ => rfl), Or.inl rfl⟩

set_option maxHeartbeats 4000000 in
set_option maxRecDepth 100000 in
theorem ct_X4_findRoot_e (l : Launch) (D : va_G) (ce : Nat → ClassId) (h pl ar : Nat → Nat) (G : Nat → Int) (L : Nat → Nat → Int64) (B : Nat → Int) (J : Nat → Nat → Int64) (k : Nat) (hB : BOK B) (hk : 20 ≤ k ∧ k < 36) : Ct l yX4_findRoot cX4_findRoot 4 (some .boolean) { frames := 4, cells := 0, slots := 0, locals := 116 } 0 0 D (TY ce) [.ref (h 5), .ref (pl k), .ref (h 7)] (cW ce h pl ar G L B J) (QI D (TY ce) (fun r w1 => ∃ z : Int, ∃ G2 : Nat → Int, ∃ B2 : Nat → Int, ∃ J2 : Nat → Nat → Int64, r = zI z ∧ w1 = cW ce h pl ar G2 L B2 J2 ∧ (z = 0 ∨ z = 1) ∧ (BOK B2) ∧ (∀ k, k ≠ 4 → G2 k = G k) ∧ (G2 4 = G 4 ∨ (1 ≤ G2 4 ∧ G2 4 ≤ 6)))) := by
  refine Ct.ofB (by decide) (Nat.le_of_ble_eq_true rfl) ?_
  intro p e s m args below meth c A Q hX hnm hR
  refine Z.pick (lv' := [(0, .ref (h 5)), (1, .ref (pl k)), (2, .ref (h 7))]) [0, 1, 2] rfl ?_
  refine Z.aload_n hX dX4_findRoot_0 rfl rfl ?_
  refine Z.getf hX 4 5 0 dX4_findRoot_1 rfl rfl inX4 (by decide) fl_X4_10 rfl rfl ?_
  refine Z.aload_n hX dX4_findRoot_4 rfl rfl ?_
  refine Z.callVfv (As := [.ref (pl k)]) (rest := []) hX 3 (24 + 36) rfl (cW_pl (by decide)) (ct_X3_copy l D ce h pl ar G L B J 36 k (by decide) hB (by omega)) mc_X3_copy ml_X4_25 im_X3_copy se_X3_copy ini_X3 nd_X3_copy ⟨Nat.le_of_ble_eq_true rfl, Nat.le_of_ble_eq_true rfl⟩ ⟨rfl, rfl⟩ ⟨Nat.le_refl _, Nat.le_refl _⟩ rfl (Nat.le_of_ble_eq_true rfl) dX4_findRoot_5 ?_
  rintro w1 ⟨B22, J23, hw_, a1, a2, a3, a4⟩
  subst hw_
  refine Z.aload_n hX dX4_findRoot_8 rfl rfl ?_
  refine Z.getf hX 4 5 0 dX4_findRoot_9 rfl rfl inX4 (by decide) fl_X4_10 rfl rfl ?_
  refine Z.callVfv (As := []) (rest := []) hX 3 (24 + 36) rfl (cW_pl (by decide)) (ct_X3_makePrimitive l D ce h pl ar G L B22 J23 36 (by decide) a3) mc_X3_makePrimitive ml_X4_29 im_X3_makePrimitive se_X3_makePrimitive ini_X3 nd_X3_makePrimitive ⟨Nat.le_of_ble_eq_true rfl, Nat.le_of_ble_eq_true rfl⟩ ⟨rfl, rfl⟩ ⟨Nat.le_refl _, Nat.le_refl _⟩ rfl (Nat.le_of_ble_eq_true rfl) dX4_findRoot_12 ?_
  rintro w1 ⟨Bp, J25, hw_, b1, b2, b3, b4⟩
  subst hw_
  have hb36 := b3 36 (by decide)
  refine Z.aload_n hX dX4_findRoot_15 rfl rfl ?_
  refine Z.getf hX 4 5 0 dX4_findRoot_16 rfl rfl inX4 (by decide) fl_X4_10 rfl rfl ?_
  refine Z.getf hX 3 (24 + 36) 1 dX4_findRoot_19 (cW_pl (by decide)) rfl inX3 (by decide) fl_X4_32 rfl rfl ?_
  refine Z.iconst hX dX4_findRoot_22 ?_
  refine Z.icmp_ge hX 28 dX4_findRoot_23 (by decide) ⟨by omega, by omega⟩ ⟨by omega, by omega⟩ ?_ ?_
  · intro c6
    have key_77 : ∀ (pw : Int) (BB : Nat → Int) (MM : Nat → Nat → Int64), (hp : 1 ≤ pw ∧ pw ≤ 6) → (hM : BOK BB) → Z p l e { frames := 4, cells := 0, slots := 0, locals := 116 } s m args below meth c D A 4 0 0 Q 77 [(3, .int (zI pw)), (2, .ref (h 7)), (0, .ref (h 5))] [] (cW ce h pl ar G L BB MM) := by
      intro pw BB MM hp hM
      refine Z.aload_n hX dX4_findRoot_77 rfl rfl ?_
      refine Z.getf hX 0 7 0 dX4_findRoot_78 rfl rfl inX0 (by decide) fl_X4_47 rfl rfl ?_
      refine Z.iload_n hX dX4_findRoot_81 rfl rfl ?_
      refine Z.iconst hX dX4_findRoot_82 ?_
      refine Z.icmp_le hX 93 dX4_findRoot_83 (by decide) ⟨by omega, by omega⟩ ⟨by omega, by omega⟩ ?_ ?_
      · intro c7
        refine Z.aload_n hX dX4_findRoot_93 rfl rfl ?_
        refine Z.getf hX 4 5 0 dX4_findRoot_94 rfl rfl inX4 (by decide) fl_X4_10 rfl rfl ?_
        refine Z.callVfv (As := [.ref (pl 36)]) (rest := []) hX 3 (24 + 41) rfl (cW_pl (by decide)) (ct_X3_copy l D ce h pl ar G L BB MM 41 36 (by decide) hM (by decide)) mc_X3_copy ml_X4_25 im_X3_copy se_X3_copy ini_X3 nd_X3_copy ⟨Nat.le_of_ble_eq_true rfl, Nat.le_of_ble_eq_true rfl⟩ ⟨rfl, rfl⟩ ⟨Nat.le_refl _, Nat.le_refl _⟩ rfl (Nat.le_of_ble_eq_true rfl) dX4_findRoot_97 ?_
        rintro w1 ⟨B29, J210, hw_, f1, f2, f3, f4⟩
        subst hw_
        refine Z.aload_n hX dX4_findRoot_100 rfl rfl ?_
        refine Z.iload_n hX dX4_findRoot_101 rfl rfl ?_
        refine Z.putf (ty := .int) hX 0 7 1 tyX0 dX4_findRoot_102 rfl rfl inX0 tyX0_ok nmX0 (by decide) fl_X4_50 rfl rfl (by decide +kernel) rfl rfl (Nat.le_of_ble_eq_true rfl) ?_
        obtain ⟨G11, eG11⟩ : ∃ F' : Nat → Int, F' = va_up G 4 (pw) := ⟨_, rfl⟩
        refine Z.toW (w' := cW ce h pl ar G11 L B29 J210) (by rw [eG11]; rfl) ?_
        have gG11 : G11 4 = pw := by rw [eG11]; exact up_eq
        have fG11 : ∀ j_, j_ ≠ 4 → G11 j_ = G j_ := fun j_ hj_ => by rw [eG11]; exact up_ne hj_
        refine Z.iconst hX dX4_findRoot_105 ?_
        exact hR _ _ _ _ dX4_findRoot_106 rfl ⟨1, G11, B29, J210, rfl, rfl, (by omega), f3, (fun j_ h_4 => ((fG11 j_ h_4).trans rfl)), Or.inr (by omega)⟩
      · intro c7
        refine Z.aload_n hX dX4_findRoot_86 rfl rfl ?_
        refine Z.getf hX 4 5 1 dX4_findRoot_87 rfl rfl inX4 (by decide) fl_X4_16 rfl rfl ?_
        refine Z.goto hX 97 dX4_findRoot_90 (by decide) ?_
        refine Z.callVfv (As := [.ref (pl 37)]) (rest := []) hX 3 (24 + 41) rfl (cW_pl (by decide)) (ct_X3_copy l D ce h pl ar G L BB MM 41 37 (by decide) hM (by decide)) mc_X3_copy ml_X4_25 im_X3_copy se_X3_copy ini_X3 nd_X3_copy ⟨Nat.le_of_ble_eq_true rfl, Nat.le_of_ble_eq_true rfl⟩ ⟨rfl, rfl⟩ ⟨Nat.le_refl _, Nat.le_refl _⟩ rfl (Nat.le_of_ble_eq_true rfl) dX4_findRoot_97 ?_
        rintro w1 ⟨B213, J214, hw_, f1, f2, f3, f4⟩
        subst hw_
        refine Z.aload_n hX dX4_findRoot_100 rfl rfl ?_
        refine Z.iload_n hX dX4_findRoot_101 rfl rfl ?_
        refine Z.putf (ty := .int) hX 0 7 1 tyX0 dX4_findRoot_102 rfl rfl inX0 tyX0_ok nmX0 (by decide) fl_X4_50 rfl rfl (by decide +kernel) rfl rfl (Nat.le_of_ble_eq_true rfl) ?_
        obtain ⟨G15, eG15⟩ : ∃ F' : Nat → Int, F' = va_up G 4 (pw) := ⟨_, rfl⟩
        refine Z.toW (w' := cW ce h pl ar G15 L B213 J214) (by rw [eG15]; rfl) ?_
        have gG15 : G15 4 = pw := by rw [eG15]; exact up_eq
        have fG15 : ∀ j_, j_ ≠ 4 → G15 j_ = G j_ := fun j_ hj_ => by rw [eG15]; exact up_ne hj_
        refine Z.iconst hX dX4_findRoot_105 ?_
        exact hR _ _ _ _ dX4_findRoot_106 rfl ⟨1, G15, B213, J214, rfl, rfl, (by omega), f3, (fun j_ h_4 => ((fG15 j_ h_4).trans rfl)), Or.inr (by omega)⟩
    refine Z.aload_n hX dX4_findRoot_28 rfl rfl ?_
    refine Z.getf hX 4 5 0 dX4_findRoot_29 rfl rfl inX4 (by decide) fl_X4_10 rfl rfl ?_
    refine Z.getf hX 3 (24 + 36) 1 dX4_findRoot_32 (cW_pl (by decide)) rfl inX3 (by decide) fl_X4_32 rfl rfl ?_
    refine Z.istore_n (lv' := [(3, .int (zI (Bp 36))), (0, .ref (h 5)), (1, .ref (pl k)), (2, .ref (h 7))]) hX dX4_findRoot_35 rfl (by decide) rfl ?_
    have key_36 : ∀ (N : Nat), ∀ (pw : Int) (BB : Nat → Int) (MM : Nat → Nat → Int64), pw.toNat < N → (hp : 1 ≤ pw ∧ pw ≤ 6) → (hM : BOK BB) → Z p l e { frames := 4, cells := 0, slots := 0, locals := 116 } s m args below meth c D A 4 0 0 Q 36 [(3, .int (zI pw)), (2, .ref (h 7)), (0, .ref (h 5))] [] (cW ce h pl ar G L BB MM) := by
      intro N
      induction N with
      | zero => intro pw BB MM hm; exact absurd hm (Nat.not_lt_zero _)
      | succ N ih_36 =>
        intro pw BB MM hm hp hM
        refine Z.iload_n hX dX4_findRoot_36 rfl rfl ?_
        refine Z.iconst hX dX4_findRoot_37 ?_
        refine Z.icmp_le hX 77 dX4_findRoot_38 (by decide) ⟨by omega, by omega⟩ ⟨by omega, by omega⟩ ?_ ?_
        · intro c16
          refine Z.pick [0, 1, 2] rfl ?_
          exact key_77 _ _ _ (by omega) hM
        · intro c16
          refine Z.aload_n hX dX4_findRoot_41 rfl rfl ?_
          refine Z.iload_n hX dX4_findRoot_42 rfl rfl ?_
          refine Z.callVfi (As := [.int (zI pw)]) (rest := []) hX 4 5 rfl rfl (ct_X4_startRoot l D ce h pl ar G L BB MM pw hM (by omega)) mc_X4_startRoot ml_X4_36 im_X4_startRoot se_X4_startRoot ini_X4 nd_X4_startRoot ⟨Nat.le_of_ble_eq_true rfl, Nat.le_of_ble_eq_true rfl⟩ ⟨rfl, rfl⟩ ⟨Nat.le_refl _, Nat.le_refl _⟩ rfl (Nat.le_of_ble_eq_true rfl) dX4_findRoot_43 ?_
          rintro r_17 w1 ⟨z18, B219, J220, hr_, hw_, c1, c2, c3⟩
          subst hr_
          subst hw_
          refine Z.if_eq hX 71 dX4_findRoot_46 (by decide) ⟨by omega, by omega⟩ ?_ ?_
          · intro c21
            refine Z.iinc (lv' := [(3, .int (zI (pw + -1))), (2, .ref (h 7)), (0, .ref (h 5))]) hX dX4_findRoot_71 rfl (by decide) rfl ?_
            refine Z.goto hX 36 dX4_findRoot_74 (by decide) ?_
            refine Z.pick [0, 1, 2] rfl ?_
            exact ih_36 _ _ _ (by omega) (by omega) c1
          · intro c21
            refine Z.aload_n hX dX4_findRoot_49 rfl rfl ?_
            refine Z.iload_n hX dX4_findRoot_50 rfl rfl ?_
            refine Z.callVfi (As := [.int (zI pw)]) (rest := []) hX 4 5 rfl rfl (ct_X4_completeRoot l D ce h pl ar G L B219 J220 pw c1 (by omega) (by omega)) mc_X4_completeRoot ml_X4_40 im_X4_completeRoot se_X4_completeRoot ini_X4 nd_X4_completeRoot ⟨Nat.le_of_ble_eq_true rfl, Nat.le_of_ble_eq_true rfl⟩ ⟨rfl, rfl⟩ ⟨Nat.le_refl _, Nat.le_refl _⟩ rfl (Nat.le_of_ble_eq_true rfl) dX4_findRoot_51 ?_
            rintro r_22 w1 ⟨z23, B224, J225, hr_, hw_, d1, d2, d3⟩
            subst hr_
            subst hw_
            refine Z.if_eq hX 71 dX4_findRoot_54 (by decide) ⟨by omega, by omega⟩ ?_ ?_
            · intro c26
              refine Z.iinc (lv' := [(3, .int (zI (pw + -1))), (2, .ref (h 7)), (0, .ref (h 5))]) hX dX4_findRoot_71 rfl (by decide) rfl ?_
              refine Z.goto hX 36 dX4_findRoot_74 (by decide) ?_
              refine Z.pick [0, 1, 2] rfl ?_
              exact ih_36 _ _ _ (by omega) (by omega) d1
            · intro c26
              refine Z.aload_n hX dX4_findRoot_57 rfl rfl ?_
              refine Z.getf hX 4 5 2 dX4_findRoot_58 rfl rfl inX4 (by decide) fl_X4_19 rfl rfl ?_
              refine Z.aload_n hX dX4_findRoot_61 rfl rfl ?_
              refine Z.getf hX 4 5 0 dX4_findRoot_62 rfl rfl inX4 (by decide) fl_X4_10 rfl rfl ?_
              refine Z.callVfi (As := [.ref (pl 36)]) (rest := []) hX 3 (24 + 38) rfl (cW_pl (by decide)) (ct_X3_isSame l D ce h pl ar G L B224 J225 38 36 (by decide) d1 (by decide)) mc_X3_isSame ml_X4_43 im_X3_isSame se_X3_isSame ini_X3 nd_X3_isSame ⟨Nat.le_of_ble_eq_true rfl, Nat.le_of_ble_eq_true rfl⟩ ⟨rfl, rfl⟩ ⟨Nat.le_refl _, Nat.le_refl _⟩ rfl (Nat.le_of_ble_eq_true rfl) dX4_findRoot_65 ?_
              rintro r_27 w1 ⟨z28, hr_, hw_, hq29⟩
              subst hr_
              subst hw_
              refine Z.if_ne hX 77 dX4_findRoot_68 (by decide) ⟨by omega, by omega⟩ ?_ ?_
              · intro c30
                refine Z.pick [0, 1, 2] rfl ?_
                exact key_77 _ _ _ (by omega) d1
              · intro c30
                refine Z.iinc (lv' := [(3, .int (zI (pw + -1))), (2, .ref (h 7)), (0, .ref (h 5))]) hX dX4_findRoot_71 rfl (by decide) rfl ?_
                refine Z.goto hX 36 dX4_findRoot_74 (by decide) ?_
                refine Z.pick [0, 1, 2] rfl ?_
                exact ih_36 _ _ _ (by omega) (by omega) d1
    refine Z.pick [0, 3, 1] rfl ?_
    exact key_36 _ _ _ _ (Nat.lt_succ_self _) (by omega) b3
  · intro c6
    refine Z.iconst hX dX4_findRoot_26 ?_
    exact hR _ _ _ _ dX4_findRoot_27 rfl ⟨0, G, Bp, J25, rfl, rfl, (by omega), b3, (fun _ _ => rfl), Or.inl rfl⟩

