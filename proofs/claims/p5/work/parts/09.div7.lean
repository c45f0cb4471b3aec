theorem dX7_reduce_0 : decode cX7_reduce 0 = .ok (.lconst 0, 1) := by decide +kernel
theorem dX7_reduce_1 : decode cX7_reduce 1 = .ok (.lstore_n 1, 1) := by decide +kernel
theorem dX7_reduce_2 : decode cX7_reduce 2 = .ok (.iconst 0, 1) := by decide +kernel
theorem dX7_reduce_3 : decode cX7_reduce 3 = .ok (.istore_n 3, 1) := by decide +kernel
theorem dX7_reduce_4 : decode cX7_reduce 4 = .ok (.iload_n 3, 1) := by decide +kernel
theorem dX7_reduce_5 : decode cX7_reduce 5 = .ok (.iconst 5, 1) := by decide +kernel
theorem dX7_reduce_6 : decode cX7_reduce 6 = .ok (.if_icmp .ge 17, 3) := by decide +kernel
theorem dX7_reduce_9 : decode cX7_reduce 9 = .ok (.lload_n 1, 1) := by decide +kernel
theorem dX7_reduce_10 : decode cX7_reduce 10 = .ok (.aload_n 0, 1) := by decide +kernel
theorem dX7_reduce_11 : decode cX7_reduce 11 = .ok (.iload_n 3, 1) := by decide +kernel
theorem dX7_reduce_12 : decode cX7_reduce 12 = .ok (.laload, 1) := by decide +kernel
theorem dX7_reduce_13 : decode cX7_reduce 13 = .ok (.invokestatic 58, 3) := by decide +kernel
theorem dX7_reduce_16 : decode cX7_reduce 16 = .ok (.lstore_n 1, 1) := by decide +kernel
theorem dX7_reduce_17 : decode cX7_reduce 17 = .ok (.iinc 3 1, 3) := by decide +kernel
theorem dX7_reduce_20 : decode cX7_reduce 20 = .ok (.goto (-16), 3) := by decide +kernel
theorem dX7_reduce_23 : decode cX7_reduce 23 = .ok (.aload_n 0, 1) := by decide +kernel
theorem dX7_reduce_24 : decode cX7_reduce 24 = .ok (.invokestatic 62, 3) := by decide +kernel
theorem dX7_reduce_27 : decode cX7_reduce 27 = .ok (.istore_n 3, 1) := by decide +kernel
theorem dX7_reduce_28 : decode cX7_reduce 28 = .ok (.iload_n 3, 1) := by decide +kernel
theorem dX7_reduce_29 : decode cX7_reduce 29 = .ok (.ifCond .lt 14, 3) := by decide +kernel
theorem dX7_reduce_32 : decode cX7_reduce 32 = .ok (.aload_n 0, 1) := by decide +kernel
theorem dX7_reduce_33 : decode cX7_reduce 33 = .ok (.iload_n 3, 1) := by decide +kernel
theorem dX7_reduce_34 : decode cX7_reduce 34 = .ok (.laload, 1) := by decide +kernel
theorem dX7_reduce_35 : decode cX7_reduce 35 = .ok (.lconst 0, 1) := by decide +kernel
theorem dX7_reduce_36 : decode cX7_reduce 36 = .ok (.lcmp, 1) := by decide +kernel
theorem dX7_reduce_37 : decode cX7_reduce 37 = .ok (.ifCond .ge 6, 3) := by decide +kernel
theorem dX7_reduce_40 : decode cX7_reduce 40 = .ok (.lload_n 1, 1) := by decide +kernel
theorem dX7_reduce_41 : decode cX7_reduce 41 = .ok (.lneg, 1) := by decide +kernel
theorem dX7_reduce_42 : decode cX7_reduce 42 = .ok (.lstore_n 1, 1) := by decide +kernel
theorem dX7_reduce_43 : decode cX7_reduce 43 = .ok (.iconst 0, 1) := by decide +kernel
theorem dX7_reduce_44 : decode cX7_reduce 44 = .ok (.istore 4, 2) := by decide +kernel
theorem dX7_reduce_46 : decode cX7_reduce 46 = .ok (.iload 4, 2) := by decide +kernel
theorem dX7_reduce_48 : decode cX7_reduce 48 = .ok (.iconst 5, 1) := by decide +kernel
theorem dX7_reduce_49 : decode cX7_reduce 49 = .ok (.if_icmp .ge 23, 3) := by decide +kernel
theorem dX7_reduce_52 : decode cX7_reduce 52 = .ok (.lload_n 1, 1) := by decide +kernel
theorem dX7_reduce_53 : decode cX7_reduce 53 = .ok (.lconst 0, 1) := by decide +kernel
theorem dX7_reduce_54 : decode cX7_reduce 54 = .ok (.lcmp, 1) := by decide +kernel
theorem dX7_reduce_55 : decode cX7_reduce 55 = .ok (.ifCond .eq 17, 3) := by decide +kernel
theorem dX7_reduce_58 : decode cX7_reduce 58 = .ok (.aload_n 0, 1) := by decide +kernel
theorem dX7_reduce_59 : decode cX7_reduce 59 = .ok (.iload 4, 2) := by decide +kernel
theorem dX7_reduce_61 : decode cX7_reduce 61 = .ok (.dup2, 1) := by decide +kernel
theorem dX7_reduce_62 : decode cX7_reduce 62 = .ok (.laload, 1) := by decide +kernel
theorem dX7_reduce_63 : decode cX7_reduce 63 = .ok (.lload_n 1, 1) := by decide +kernel
theorem dX7_reduce_64 : decode cX7_reduce 64 = .ok (.ldiv, 1) := by decide +kernel
theorem dX7_reduce_65 : decode cX7_reduce 65 = .ok (.lastore, 1) := by decide +kernel
theorem dX7_reduce_66 : decode cX7_reduce 66 = .ok (.iinc 4 1, 3) := by decide +kernel
theorem dX7_reduce_69 : decode cX7_reduce 69 = .ok (.goto (-23), 3) := by decide +kernel
theorem dX7_reduce_72 : decode cX7_reduce 72 = .ok (.return_, 1) := by decide +kernel
set_option maxHeartbeats 4000000 in
set_option maxRecDepth 100000 in
theorem ct_X7_reduce (l : Launch) (D : va_G) (ce : Nat → ClassId) (ad : Nat) (f : Nat → Int64)  : Ct l yX7_reduce cX7_reduce 5 none { frames := 1, cells := 0, slots := 0, locals := 29 } 0 0 D (TY ce) [.ref ad] ([(ad, .inl (ce 1, 5, .inr (.inl f)))]) (QV D (TY ce) (fun w1 => ∃ f2 : Nat → Int64, w1 = [(ad, .inl (ce 1, 5, .inr (.inl f2)))] ∧ (∀ j : Int, 0 ≤ j → j < 5 → f j.toNat = 0 → f2 j.toNat = 0))) := by
  refine Ct.ofV (by decide) (Nat.le_of_ble_eq_true rfl) ?_
  intro p e s m args below meth c A Q hX hnm hR
  refine Z.pick (lv' := [(0, .ref ad)]) [0] rfl ?_
  refine Z.lconst (v := 0) hX dX7_reduce_0 rfl ?_
  refine Z.lstore_n (lv' := [(1, .long 0), (0, .ref ad)]) hX dX7_reduce_1 rfl (by decide) rfl ?_
  refine Z.iconst hX dX7_reduce_2 ?_
  refine Z.istore_n (lv' := [(3, .int (zI 0)), (1, .long 0), (0, .ref ad)]) hX dX7_reduce_3 rfl (by decide) rfl ?_
  have key_4 : ∀ (N : Nat), ∀ (k : Int) (x : Int64), (5 - k).toNat < N → (hk : 0 ≤ k ∧ k ≤ 5) → Z p l e { frames := 1, cells := 0, slots := 0, locals := 29 } s m args below meth c D A 5 0 0 Q 4 [(3, .int (zI k)), (1, .long x), (0, .ref ad)] [] ([(ad, .inl (ce 1, 5, .inr (.inl f)))]) := by
    intro N
    induction N with
    | zero => intro k x hm; exact absurd hm (Nat.not_lt_zero _)
    | succ N ih_4 =>
      intro k x hm hk
      refine Z.iload_n hX dX7_reduce_4 rfl rfl ?_
      refine Z.iconst hX dX7_reduce_5 ?_
      refine Z.icmp_ge hX 23 dX7_reduce_6 (by decide) ⟨by omega, by omega⟩ ⟨by omega, by omega⟩ ?_ ?_
      · intro c1
        refine Z.aload_n hX dX7_reduce_23 rfl rfl ?_
        refine Z.callS1i (As := [.ref ad]) (rest := []) hX 0 rfl (ct_X7_degreeOf l D ce ad f ) mc_X7_degreeOf ml_X7_62 st_X7_degreeOf ini_X7 nd_X7_degreeOf ⟨Nat.le_of_ble_eq_true rfl, Nat.le_of_ble_eq_true rfl⟩ ⟨rfl, rfl⟩ ⟨Nat.le_refl _, Nat.le_refl _⟩ rfl (Nat.le_of_ble_eq_true rfl) dX7_reduce_24 ?_
        rintro r_2 w1 ⟨z3, hr_, hw_, hq4, hq5, hq6⟩
        subst hr_
        refine ⟨_, hw_, ?_⟩
        refine Z.toW (w' := [(ad, .inl (ce 1, 5, .inr (.inl f)))]) rfl ?_
        refine Z.istore_n (lv' := [(3, .int (zI z3)), (1, .long x), (0, .ref ad)]) hX dX7_reduce_27 rfl (by decide) rfl ?_
        have key_43 : ∀ (x : Int64), Z p l e { frames := 1, cells := 0, slots := 0, locals := 29 } s m args below meth c D A 5 0 0 Q 43 [(1, .long x), (0, .ref ad)] [] ([(ad, .inl (ce 1, 5, .inr (.inl f)))]) := by
          intro x 
          refine Z.iconst hX dX7_reduce_43 ?_
          refine Z.istore (lv' := [(4, .int (zI 0)), (1, .long x), (0, .ref ad)]) hX dX7_reduce_44 (by decide) rfl ?_
          have key_46 : ∀ (N : Nat), ∀ (k : Int) (g : Nat → Int64), (5 - k).toNat < N → (hk2 : 0 ≤ k ∧ k ≤ 5) → (hz : ∀ j : Int, 0 ≤ j → j < 5 → f j.toNat = 0 → g j.toNat = 0) → Z p l e { frames := 1, cells := 0, slots := 0, locals := 29 } s m args below meth c D A 5 0 0 Q 46 [(4, .int (zI k)), (1, .long x), (0, .ref ad)] [] ([(ad, .inl (ce 1, 5, .inr (.inl g)))]) := by
            intro N
            induction N with
            | zero => intro k g hm; exact absurd hm (Nat.not_lt_zero _)
            | succ N ih_46 =>
              intro k g hm hk2 hz
              refine Z.iload hX dX7_reduce_46 rfl ?_
              refine Z.iconst hX dX7_reduce_48 ?_
              refine Z.icmp_ge hX 72 dX7_reduce_49 (by decide) ⟨by omega, by omega⟩ ⟨by omega, by omega⟩ ?_ ?_
              · intro c7
                exact hR _ _ _ dX7_reduce_72 ⟨g, rfl, hz⟩
              · intro c7
                refine Z.lload_n hX dX7_reduce_52 rfl rfl ?_
                refine Z.lconst (v := 0) hX dX7_reduce_53 rfl ?_
                refine Z.lcmp_eq hX 72 dX7_reduce_54 dX7_reduce_55 (by decide) ?_ ?_
                · intro c8
                  exact hR _ _ _ dX7_reduce_72 ⟨g, rfl, hz⟩
                · intro c8
                  refine Z.aload_n hX dX7_reduce_58 rfl rfl ?_
                  refine Z.iload hX dX7_reduce_59 rfl ?_
                  refine Z.dup2 hX dX7_reduce_61 rfl rfl ?_
                  refine Z.laload hX 0 1 dX7_reduce_62 rfl rfl (by omega) (by omega) (by decide) ?_
                  refine Z.lload_n hX dX7_reduce_63 rfl rfl ?_
                  refine Z.ldiv hX dX7_reduce_64 (by assumption) ?_
                  refine Z.lastore hX 0 1 dX7_reduce_65 rfl rfl (by omega) (by omega) (by decide) ?_
                  obtain ⟨f9, ef9⟩ : ∃ J' : Nat → Int64, J' = vp_updL (g) (k : Int).toNat ((g (k : Int).toNat) / x) := ⟨_, rfl⟩
                  refine Z.toW (w' := [(ad, .inl (ce 1, 5, .inr (.inl f9)))]) (by rw [ef9]; rfl) ?_
                  refine Z.iinc (lv' := [(4, .int (zI (k + 1))), (1, .long x), (0, .ref ad)]) hX dX7_reduce_66 rfl (by decide) rfl ?_
                  refine Z.goto hX 46 dX7_reduce_69 (by decide) ?_
                  refine Z.pick [0, 1, 2] rfl ?_
                  exact ih_46 _ _ (by omega) (by omega) (by rw [ef9]; exact red_z hk2.1 hz)
          refine Z.pick [0, 1, 2] rfl ?_
          exact key_46 _ _ _ (Nat.lt_succ_self _) (by omega) (fun _ _ _ h => h)
        refine Z.iload_n hX dX7_reduce_28 rfl rfl ?_
        refine Z.if_lt hX 43 dX7_reduce_29 (by decide) ⟨by omega, by omega⟩ ?_ ?_
        · intro c10
          refine Z.pick [1, 2] rfl ?_
          exact key_43 _
        · intro c10
          refine Z.aload_n hX dX7_reduce_32 rfl rfl ?_
          refine Z.iload_n hX dX7_reduce_33 rfl rfl ?_
          refine Z.laload hX 0 1 dX7_reduce_34 rfl rfl (by omega) (by omega) (by decide) ?_
          refine Z.lconst (v := 0) hX dX7_reduce_35 rfl ?_
          refine Z.lcmp_ge hX 43 dX7_reduce_36 dX7_reduce_37 (by decide) ?_ ?_
          · intro c11
            refine Z.pick [1, 2] rfl ?_
            exact key_43 _
          · intro c11
            refine Z.lload_n hX dX7_reduce_40 rfl rfl ?_
            refine Z.lneg hX dX7_reduce_41 ?_
            refine Z.lstore_n (lv' := [(1, .long (-x)), (3, .int (zI z3)), (0, .ref ad)]) hX dX7_reduce_42 rfl (by decide) rfl ?_
            refine Z.pick [0, 2] rfl ?_
            exact key_43 _
      · intro c1
        refine Z.lload_n hX dX7_reduce_9 rfl rfl ?_
        refine Z.aload_n hX dX7_reduce_10 rfl rfl ?_
        refine Z.iload_n hX dX7_reduce_11 rfl rfl ?_
        refine Z.laload hX 0 1 dX7_reduce_12 rfl rfl (by omega) (by omega) (by decide) ?_
        refine Z.callS0l (As := [.long x, .long (f (k : Int).toNat)]) (rest := []) hX (ct_X7_common l D ce x (f (k : Int).toNat) ) mc_X7_common ml_X7_58 st_X7_common ini_X7 nd_X7_common ⟨Nat.le_of_ble_eq_true rfl, Nat.le_of_ble_eq_true rfl⟩ ⟨rfl, rfl⟩ ⟨Nat.le_refl _, Nat.le_refl _⟩ rfl (Nat.le_of_ble_eq_true rfl) dX7_reduce_13 ?_
        rintro r_12 w1 ⟨r013, hr_, hw_, hq14⟩
        subst hr_
        refine ⟨hw_, ?_⟩
        refine Z.lstore_n (lv' := [(1, .long r_12), (3, .int (zI k)), (0, .ref ad)]) hX dX7_reduce_16 rfl (by decide) rfl ?_
        refine Z.iinc (lv' := [(3, .int (zI (k + 1))), (1, .long r_12), (0, .ref ad)]) hX dX7_reduce_17 rfl (by decide) rfl ?_
        refine Z.goto hX 4 dX7_reduce_20 (by decide) ?_
        refine Z.pick [0, 1, 2] rfl ?_
        exact ih_4 _ _ (by omega) (by omega)
  refine Z.pick [0, 1, 2] rfl ?_
  exact key_4 _ _ _ (Nat.lt_succ_self _) (by omega)

theorem dX7_divisor_0 : decode cX7_divisor 0 = .ok (.aload_n 0, 1) := by decide +kernel
theorem dX7_divisor_1 : decode cX7_divisor 1 = .ok (.getfield 30, 3) := by decide +kernel
theorem dX7_divisor_4 : decode cX7_divisor 4 = .ok (.invokestatic 66, 3) := by decide +kernel
theorem dX7_divisor_7 : decode cX7_divisor 7 = .ok (.aload_n 0, 1) := by decide +kernel
theorem dX7_divisor_8 : decode cX7_divisor 8 = .ok (.getfield 33, 3) := by decide +kernel
theorem dX7_divisor_11 : decode cX7_divisor 11 = .ok (.invokestatic 66, 3) := by decide +kernel
theorem dX7_divisor_14 : decode cX7_divisor 14 = .ok (.aload_n 0, 1) := by decide +kernel
theorem dX7_divisor_15 : decode cX7_divisor 15 = .ok (.getfield 33, 3) := by decide +kernel
theorem dX7_divisor_18 : decode cX7_divisor 18 = .ok (.invokestatic 62, 3) := by decide +kernel
theorem dX7_divisor_21 : decode cX7_divisor 21 = .ok (.ifCond .lt 162, 3) := by decide +kernel
theorem dX7_divisor_24 : decode cX7_divisor 24 = .ok (.aload_n 0, 1) := by decide +kernel
theorem dX7_divisor_25 : decode cX7_divisor 25 = .ok (.getfield 33, 3) := by decide +kernel
theorem dX7_divisor_28 : decode cX7_divisor 28 = .ok (.invokestatic 62, 3) := by decide +kernel
theorem dX7_divisor_31 : decode cX7_divisor 31 = .ok (.istore_n 1, 1) := by decide +kernel
theorem dX7_divisor_32 : decode cX7_divisor 32 = .ok (.aload_n 0, 1) := by decide +kernel
theorem dX7_divisor_33 : decode cX7_divisor 33 = .ok (.getfield 30, 3) := by decide +kernel
theorem dX7_divisor_36 : decode cX7_divisor 36 = .ok (.invokestatic 62, 3) := by decide +kernel
theorem dX7_divisor_39 : decode cX7_divisor 39 = .ok (.iload_n 1, 1) := by decide +kernel
theorem dX7_divisor_40 : decode cX7_divisor 40 = .ok (.if_icmp .lt 101, 3) := by decide +kernel
theorem dX7_divisor_43 : decode cX7_divisor 43 = .ok (.aload_n 0, 1) := by decide +kernel
theorem dX7_divisor_44 : decode cX7_divisor 44 = .ok (.getfield 30, 3) := by decide +kernel
theorem dX7_divisor_47 : decode cX7_divisor 47 = .ok (.invokestatic 62, 3) := by decide +kernel
theorem dX7_divisor_50 : decode cX7_divisor 50 = .ok (.istore_n 2, 1) := by decide +kernel
theorem dX7_divisor_51 : decode cX7_divisor 51 = .ok (.aload_n 0, 1) := by decide +kernel
theorem dX7_divisor_52 : decode cX7_divisor 52 = .ok (.getfield 30, 3) := by decide +kernel
theorem dX7_divisor_55 : decode cX7_divisor 55 = .ok (.iload_n 2, 1) := by decide +kernel
theorem dX7_divisor_56 : decode cX7_divisor 56 = .ok (.laload, 1) := by decide +kernel
theorem dX7_divisor_57 : decode cX7_divisor 57 = .ok (.lstore_n 3, 1) := by decide +kernel
theorem dX7_divisor_58 : decode cX7_divisor 58 = .ok (.aload_n 0, 1) := by decide +kernel
theorem dX7_divisor_59 : decode cX7_divisor 59 = .ok (.getfield 33, 3) := by decide +kernel
theorem dX7_divisor_62 : decode cX7_divisor 62 = .ok (.iload_n 1, 1) := by decide +kernel
theorem dX7_divisor_63 : decode cX7_divisor 63 = .ok (.laload, 1) := by decide +kernel
theorem dX7_divisor_64 : decode cX7_divisor 64 = .ok (.lstore 5, 2) := by decide +kernel
theorem dX7_divisor_66 : decode cX7_divisor 66 = .ok (.iconst 0, 1) := by decide +kernel
theorem dX7_divisor_67 : decode cX7_divisor 67 = .ok (.istore 7, 2) := by decide +kernel
theorem dX7_divisor_69 : decode cX7_divisor 69 = .ok (.iload 7, 2) := by decide +kernel
theorem dX7_divisor_71 : decode cX7_divisor 71 = .ok (.iconst 5, 1) := by decide +kernel
theorem dX7_divisor_72 : decode cX7_divisor 72 = .ok (.if_icmp .ge 21, 3) := by decide +kernel
theorem dX7_divisor_75 : decode cX7_divisor 75 = .ok (.aload_n 0, 1) := by decide +kernel
theorem dX7_divisor_76 : decode cX7_divisor 76 = .ok (.getfield 30, 3) := by decide +kernel
theorem dX7_divisor_79 : decode cX7_divisor 79 = .ok (.iload 7, 2) := by decide +kernel
theorem dX7_divisor_81 : decode cX7_divisor 81 = .ok (.dup2, 1) := by decide +kernel
theorem dX7_divisor_82 : decode cX7_divisor 82 = .ok (.laload, 1) := by decide +kernel
theorem dX7_divisor_83 : decode cX7_divisor 83 = .ok (.lload 5, 2) := by decide +kernel
theorem dX7_divisor_85 : decode cX7_divisor 85 = .ok (.lmul, 1) := by decide +kernel
theorem dX7_divisor_86 : decode cX7_divisor 86 = .ok (.lastore, 1) := by decide +kernel
theorem dX7_divisor_87 : decode cX7_divisor 87 = .ok (.iinc 7 1, 3) := by decide +kernel
theorem dX7_divisor_90 : decode cX7_divisor 90 = .ok (.goto (-21), 3) := by decide +kernel
theorem dX7_divisor_93 : decode cX7_divisor 93 = .ok (.iconst 0, 1) := by decide +kernel
theorem dX7_divisor_94 : decode cX7_divisor 94 = .ok (.istore 7, 2) := by decide +kernel
theorem dX7_divisor_96 : decode cX7_divisor 96 = .ok (.iload 7, 2) := by decide +kernel
theorem dX7_divisor_98 : decode cX7_divisor 98 = .ok (.iload_n 1, 1) := by decide +kernel
theorem dX7_divisor_99 : decode cX7_divisor 99 = .ok (.if_icmp .gt 32, 3) := by decide +kernel
theorem dX7_divisor_102 : decode cX7_divisor 102 = .ok (.aload_n 0, 1) := by decide +kernel
theorem dX7_divisor_103 : decode cX7_divisor 103 = .ok (.getfield 30, 3) := by decide +kernel
theorem dX7_divisor_106 : decode cX7_divisor 106 = .ok (.iload_n 2, 1) := by decide +kernel
theorem dX7_divisor_107 : decode cX7_divisor 107 = .ok (.iload_n 1, 1) := by decide +kernel
theorem dX7_divisor_108 : decode cX7_divisor 108 = .ok (.isub, 1) := by decide +kernel
theorem dX7_divisor_109 : decode cX7_divisor 109 = .ok (.iload 7, 2) := by decide +kernel
theorem dX7_divisor_111 : decode cX7_divisor 111 = .ok (.iadd, 1) := by decide +kernel
theorem dX7_divisor_112 : decode cX7_divisor 112 = .ok (.dup2, 1) := by decide +kernel
theorem dX7_divisor_113 : decode cX7_divisor 113 = .ok (.laload, 1) := by decide +kernel
theorem dX7_divisor_114 : decode cX7_divisor 114 = .ok (.lload_n 3, 1) := by decide +kernel
theorem dX7_divisor_115 : decode cX7_divisor 115 = .ok (.aload_n 0, 1) := by decide +kernel
theorem dX7_divisor_116 : decode cX7_divisor 116 = .ok (.getfield 33, 3) := by decide +kernel
theorem dX7_divisor_119 : decode cX7_divisor 119 = .ok (.iload 7, 2) := by decide +kernel
theorem dX7_divisor_121 : decode cX7_divisor 121 = .ok (.laload, 1) := by decide +kernel
theorem dX7_divisor_122 : decode cX7_divisor 122 = .ok (.lmul, 1) := by decide +kernel
theorem dX7_divisor_123 : decode cX7_divisor 123 = .ok (.lsub, 1) := by decide +kernel
theorem dX7_divisor_124 : decode cX7_divisor 124 = .ok (.lastore, 1) := by decide +kernel
theorem dX7_divisor_125 : decode cX7_divisor 125 = .ok (.iinc 7 1, 3) := by decide +kernel
theorem dX7_divisor_128 : decode cX7_divisor 128 = .ok (.goto (-32), 3) := by decide +kernel
theorem dX7_divisor_131 : decode cX7_divisor 131 = .ok (.aload_n 0, 1) := by decide +kernel
theorem dX7_divisor_132 : decode cX7_divisor 132 = .ok (.getfield 30, 3) := by decide +kernel
theorem dX7_divisor_135 : decode cX7_divisor 135 = .ok (.invokestatic 66, 3) := by decide +kernel
theorem dX7_divisor_138 : decode cX7_divisor 138 = .ok (.goto (-106), 3) := by decide +kernel
theorem dX7_divisor_141 : decode cX7_divisor 141 = .ok (.iconst 0, 1) := by decide +kernel
theorem dX7_divisor_142 : decode cX7_divisor 142 = .ok (.istore_n 2, 1) := by decide +kernel
theorem dX7_divisor_143 : decode cX7_divisor 143 = .ok (.iload_n 2, 1) := by decide +kernel
theorem dX7_divisor_144 : decode cX7_divisor 144 = .ok (.iconst 5, 1) := by decide +kernel
theorem dX7_divisor_145 : decode cX7_divisor 145 = .ok (.if_icmp .ge 35, 3) := by decide +kernel
theorem dX7_divisor_148 : decode cX7_divisor 148 = .ok (.aload_n 0, 1) := by decide +kernel
theorem dX7_divisor_149 : decode cX7_divisor 149 = .ok (.getfield 30, 3) := by decide +kernel
theorem dX7_divisor_152 : decode cX7_divisor 152 = .ok (.iload_n 2, 1) := by decide +kernel
theorem dX7_divisor_153 : decode cX7_divisor 153 = .ok (.laload, 1) := by decide +kernel
theorem dX7_divisor_154 : decode cX7_divisor 154 = .ok (.lstore_n 3, 1) := by decide +kernel
theorem dX7_divisor_155 : decode cX7_divisor 155 = .ok (.aload_n 0, 1) := by decide +kernel
theorem dX7_divisor_156 : decode cX7_divisor 156 = .ok (.getfield 30, 3) := by decide +kernel
theorem dX7_divisor_159 : decode cX7_divisor 159 = .ok (.iload_n 2, 1) := by decide +kernel
theorem dX7_divisor_160 : decode cX7_divisor 160 = .ok (.aload_n 0, 1) := by decide +kernel
theorem dX7_divisor_161 : decode cX7_divisor 161 = .ok (.getfield 33, 3) := by decide +kernel
theorem dX7_divisor_164 : decode cX7_divisor 164 = .ok (.iload_n 2, 1) := by decide +kernel
theorem dX7_divisor_165 : decode cX7_divisor 165 = .ok (.laload, 1) := by decide +kernel
theorem dX7_divisor_166 : decode cX7_divisor 166 = .ok (.lastore, 1) := by decide +kernel
theorem dX7_divisor_167 : decode cX7_divisor 167 = .ok (.aload_n 0, 1) := by decide +kernel
theorem dX7_divisor_168 : decode cX7_divisor 168 = .ok (.getfield 33, 3) := by decide +kernel
theorem dX7_divisor_171 : decode cX7_divisor 171 = .ok (.iload_n 2, 1) := by decide +kernel
theorem dX7_divisor_172 : decode cX7_divisor 172 = .ok (.lload_n 3, 1) := by decide +kernel
theorem dX7_divisor_173 : decode cX7_divisor 173 = .ok (.lastore, 1) := by decide +kernel
theorem dX7_divisor_174 : decode cX7_divisor 174 = .ok (.iinc 2 1, 3) := by decide +kernel
theorem dX7_divisor_177 : decode cX7_divisor 177 = .ok (.goto (-34), 3) := by decide +kernel
theorem dX7_divisor_180 : decode cX7_divisor 180 = .ok (.goto (-166), 3) := by decide +kernel
theorem dX7_divisor_183 : decode cX7_divisor 183 = .ok (.return_, 1) := by decide +kernel
set_option maxHeartbeats 4000000 in
set_option maxRecDepth 100000 in
theorem ct_X7_divisor (l : Launch) (D : va_G) (ce : Nat → ClassId) (h : Nat → Nat) (F : Nat → Int) (I : Nat → Nat → Int32) (J : Nat → Nat → Int64)  : Ct l yX7_divisor cX7_divisor 8 none { frames := 2, cells := 0, slots := 0, locals := 53 } 0 0 D (TY ce) [.ref (h 0)] (rW ce h F I J) (QV D (TY ce) (fun w1 => ∃ J2 : Nat → Nat → Int64, w1 = rW ce h F I J2 ∧ (∀ k, k ≠ 2 → k ≠ 3 → J2 k = J k))) := by
  refine Ct.ofV (by decide) (Nat.le_of_ble_eq_true rfl) ?_
  intro p e s m args below meth c A Q hX hnm hR
  refine Z.pick (lv' := [(0, .ref (h 0))]) [0] rfl ?_
  refine Z.aload_n hX dX7_divisor_0 rfl rfl ?_
  refine Z.getf hX 7 0 9 dX7_divisor_1 rfl rfl inX7 (by decide) fl_X7_30 rfl rfl ?_
  refine Z.callS1v (As := [.ref (h 7)]) (rest := []) hX 7 rfl (ct_X7_reduce l D ce ((h 7)) (J 2) ) mc_X7_reduce ml_X7_66 st_X7_reduce ini_X7 nd_X7_reduce ⟨Nat.le_of_ble_eq_true rfl, Nat.le_of_ble_eq_true rfl⟩ ⟨rfl, rfl⟩ ⟨Nat.le_refl _, Nat.le_refl _⟩ rfl (Nat.le_of_ble_eq_true rfl) dX7_divisor_4 ?_
  rintro w1 ⟨f22, hw_, hq3⟩
  refine ⟨_, hw_, ?_⟩
  obtain ⟨J4, eJ4⟩ : ∃ J' : Nat → Nat → Int64, J' = va_up J 2 (f22) := ⟨_, rfl⟩
  refine Z.toW (w' := rW ce h F I J4) (by rw [eJ4]; rfl) ?_
  have gJ4 : J4 2 = f22 := by rw [eJ4]; exact up_eq
  have fJ4 : ∀ k, k ≠ 2 → J4 k = J k := fun k hk => by rw [eJ4]; exact up_ne hk
  refine Z.aload_n hX dX7_divisor_7 rfl rfl ?_
  refine Z.getf hX 7 0 10 dX7_divisor_8 rfl rfl inX7 (by decide) fl_X7_33 rfl rfl ?_
  refine Z.callS1v (As := [.ref (h 8)]) (rest := []) hX 8 rfl (ct_X7_reduce l D ce ((h 8)) (J4 3) ) mc_X7_reduce ml_X7_66 st_X7_reduce ini_X7 nd_X7_reduce ⟨Nat.le_of_ble_eq_true rfl, Nat.le_of_ble_eq_true rfl⟩ ⟨rfl, rfl⟩ ⟨Nat.le_refl _, Nat.le_refl _⟩ rfl (Nat.le_of_ble_eq_true rfl) dX7_divisor_11 ?_
  rintro w1 ⟨f26, hw_, hq7⟩
  refine ⟨_, hw_, ?_⟩
  obtain ⟨J8, eJ8⟩ : ∃ J' : Nat → Nat → Int64, J' = va_up J4 3 (f26) := ⟨_, rfl⟩
  refine Z.toW (w' := rW ce h F I J8) (by rw [eJ8]; rfl) ?_
  have gJ8 : J8 3 = f26 := by rw [eJ8]; exact up_eq
  have fJ8 : ∀ k, k ≠ 3 → J8 k = J4 k := fun k hk => by rw [eJ8]; exact up_ne hk
  have key_14 : ∀ (N : Nat), ∀ (t : Int) (M : Nat → Nat → Int64), (t + 1).toNat < N → (ht : -1 ≤ t ∧ t ≤ 4) → (hz : ∀ j : Int, t < j → j ≤ 4 → M 3 j.toNat = 0) → (hM : ∀ k, k ≠ 2 → k ≠ 3 → M k = J k) → Z p l e { frames := 2, cells := 0, slots := 0, locals := 53 } s m args below meth c D A 8 0 0 Q 14 [(0, .ref (h 0))] [] (rW ce h F I M) := by
    intro N
    induction N with
    | zero => intro t M hm; exact absurd hm (Nat.not_lt_zero _)
    | succ N ih_14 =>
      intro t M hm ht hz hM
      refine Z.aload_n hX dX7_divisor_14 rfl rfl ?_
      refine Z.getf hX 7 0 10 dX7_divisor_15 rfl rfl inX7 (by decide) fl_X7_33 rfl rfl ?_
      refine Z.callS1i (As := [.ref (h 8)]) (rest := []) hX 8 rfl (ct_X7_degreeOf l D ce ((h 8)) (M 3) ) mc_X7_degreeOf ml_X7_62 st_X7_degreeOf ini_X7 nd_X7_degreeOf ⟨Nat.le_of_ble_eq_true rfl, Nat.le_of_ble_eq_true rfl⟩ ⟨rfl, rfl⟩ ⟨Nat.le_refl _, Nat.le_refl _⟩ rfl (Nat.le_of_ble_eq_true rfl) dX7_divisor_18 ?_
      rintro r_9 w1 ⟨z1, hr_, hw_, p1, p2, p3⟩
      subst hr_
      refine ⟨_, hw_, ?_⟩
      refine Z.toW (w' := rW ce h F I M) rfl ?_
      refine Z.if_lt hX 183 dX7_divisor_21 (by decide) ⟨by omega, by omega⟩ ?_ ?_
      · intro c10
        exact hR _ _ _ dX7_divisor_183 ⟨M, rfl, (fun k h2 h3 => (hM k h2 h3))⟩
      · intro c10
        refine Z.aload_n hX dX7_divisor_24 rfl rfl ?_
        refine Z.getf hX 7 0 10 dX7_divisor_25 rfl rfl inX7 (by decide) fl_X7_33 rfl rfl ?_
        refine Z.callS1i (As := [.ref (h 8)]) (rest := []) hX 8 rfl (ct_X7_degreeOf l D ce ((h 8)) (M 3) ) mc_X7_degreeOf ml_X7_62 st_X7_degreeOf ini_X7 nd_X7_degreeOf ⟨Nat.le_of_ble_eq_true rfl, Nat.le_of_ble_eq_true rfl⟩ ⟨rfl, rfl⟩ ⟨Nat.le_refl _, Nat.le_refl _⟩ rfl (Nat.le_of_ble_eq_true rfl) dX7_divisor_28 ?_
        rintro r_11 w1 ⟨d, hr_, hw_, d1, d2, d3⟩
        subst hr_
        refine ⟨_, hw_, ?_⟩
        refine Z.toW (w' := rW ce h F I M) rfl ?_
        have ed : z1 = d := dg_uq p1 p2 p3 d1 d2 d3
        refine Z.istore_n (lv' := [(1, .int (zI d)), (0, .ref (h 0))]) hX dX7_divisor_31 rfl (by decide) rfl ?_
        have key_32 : ∀ (N : Nat), ∀ (u : Int) (M1 : Nat → Nat → Int64), (u + 1).toNat < N → (hu0 : -1 ≤ u ∧ u ≤ 4) → (hu1 : ∀ j : Int, u < j → j ≤ 4 → M1 2 j.toNat = 0) → (h3 : M1 3 = M 3) → (hM1 : ∀ k, k ≠ 2 → k ≠ 3 → M1 k = J k) → Z p l e { frames := 2, cells := 0, slots := 0, locals := 53 } s m args below meth c D A 8 0 0 Q 32 [(1, .int (zI d)), (0, .ref (h 0))] [] (rW ce h F I M1) := by
          intro N
          induction N with
          | zero => intro u M1 hm; exact absurd hm (Nat.not_lt_zero _)
          | succ N ih_32 =>
            intro u M1 hm hu0 hu1 h3 hM1
            refine Z.aload_n hX dX7_divisor_32 rfl rfl ?_
            refine Z.getf hX 7 0 9 dX7_divisor_33 rfl rfl inX7 (by decide) fl_X7_30 rfl rfl ?_
            refine Z.callS1i (As := [.ref (h 7)]) (rest := []) hX 7 rfl (ct_X7_degreeOf l D ce ((h 7)) (M1 2) ) mc_X7_degreeOf ml_X7_62 st_X7_degreeOf ini_X7 nd_X7_degreeOf ⟨Nat.le_of_ble_eq_true rfl, Nat.le_of_ble_eq_true rfl⟩ ⟨rfl, rfl⟩ ⟨Nat.le_refl _, Nat.le_refl _⟩ rfl (Nat.le_of_ble_eq_true rfl) dX7_divisor_36 ?_
            rintro r_12 w1 ⟨ea, hr_, hw_, a1, a2, a3⟩
            subst hr_
            refine ⟨_, hw_, ?_⟩
            refine Z.toW (w' := rW ce h F I M1) rfl ?_
            refine Z.iload_n hX dX7_divisor_39 rfl rfl ?_
            refine Z.icmp_lt hX 141 dX7_divisor_40 (by decide) ⟨by omega, by omega⟩ ⟨by omega, by omega⟩ ?_ ?_
            · intro c13
              refine Z.iconst hX dX7_divisor_141 ?_
              refine Z.istore_n (lv' := [(2, .int (zI 0)), (1, .int (zI d)), (0, .ref (h 0))]) hX dX7_divisor_142 rfl (by decide) rfl ?_
              have key_143 : ∀ (N : Nat), ∀ (k : Int) (M4 : Nat → Nat → Int64), (5 - k).toNat < N → (hk4 : 0 ≤ k ∧ k ≤ 5) → (hs0 : ∀ j : Int, k ≤ j → j ≤ 4 → M4 2 j.toNat = M1 2 j.toNat ∧ M4 3 j.toNat = M1 3 j.toNat) → (hs : ∀ j : Int, 0 ≤ j → j < k → M4 2 j.toNat = M1 3 j.toNat ∧ M4 3 j.toNat = M1 2 j.toNat) → (hM4 : ∀ k, k ≠ 2 → k ≠ 3 → M4 k = J k) → Z p l e { frames := 2, cells := 0, slots := 0, locals := 53 } s m args below meth c D A 8 0 0 Q 143 [(2, .int (zI k)), (0, .ref (h 0))] [] (rW ce h F I M4) := by
                intro N
                induction N with
                | zero => intro k M4 hm; exact absurd hm (Nat.not_lt_zero _)
                | succ N ih_143 =>
                  intro k M4 hm hk4 hs0 hs hM4
                  refine Z.iload_n hX dX7_divisor_143 rfl rfl ?_
                  refine Z.iconst hX dX7_divisor_144 ?_
                  refine Z.icmp_ge hX 180 dX7_divisor_145 (by decide) ⟨by omega, by omega⟩ ⟨by omega, by omega⟩ ?_ ?_
                  · intro c14
                    refine Z.goto hX 14 dX7_divisor_180 (by decide) ?_
                    refine Z.pick [1] rfl ?_
                    exact ih_14 (d - 1) _ (by have hdt : d ≤ t := dg_le d1 d3 hz (by omega); omega) (by omega) (fun j h1 h2 => by rw [(hs j (by omega) (by omega)).2]; exact a2 j (by omega) h2) (fun k h2 h3 => (hM4 k h2 h3))
                  · intro c14
                    refine Z.aload_n hX dX7_divisor_148 rfl rfl ?_
                    refine Z.getf hX 7 0 9 dX7_divisor_149 rfl rfl inX7 (by decide) fl_X7_30 rfl rfl ?_
                    refine Z.iload_n hX dX7_divisor_152 rfl rfl ?_
                    refine Z.laload hX 7 1 dX7_divisor_153 rfl rfl (by omega) (by omega) (by decide) ?_
                    refine Z.lstore_n (lv' := [(3, .long (M4 2 (k : Int).toNat)), (2, .int (zI k)), (0, .ref (h 0))]) hX dX7_divisor_154 rfl (by decide) rfl ?_
                    refine Z.aload_n hX dX7_divisor_155 rfl rfl ?_
                    refine Z.getf hX 7 0 9 dX7_divisor_156 rfl rfl inX7 (by decide) fl_X7_30 rfl rfl ?_
                    refine Z.iload_n hX dX7_divisor_159 rfl rfl ?_
                    refine Z.aload_n hX dX7_divisor_160 rfl rfl ?_
                    refine Z.getf hX 7 0 10 dX7_divisor_161 rfl rfl inX7 (by decide) fl_X7_33 rfl rfl ?_
                    refine Z.iload_n hX dX7_divisor_164 rfl rfl ?_
                    refine Z.laload hX 8 1 dX7_divisor_165 rfl rfl (by omega) (by omega) (by decide) ?_
                    refine Z.lastore hX 7 1 dX7_divisor_166 rfl rfl (by omega) (by omega) (by decide) ?_
                    obtain ⟨J15, eJ15⟩ : ∃ J' : Nat → Nat → Int64, J' = va_up M4 2 (vp_updL (M4 2) (k : Int).toNat (M4 3 (k : Int).toNat)) := ⟨_, rfl⟩
                    refine Z.toW (w' := rW ce h F I J15) (by rw [eJ15]; rfl) ?_
                    have gJ15 : J15 2 = vp_updL (M4 2) (k : Int).toNat (M4 3 (k : Int).toNat) := by rw [eJ15]; exact up_eq
                    have fJ15 : ∀ k, k ≠ 2 → J15 k = M4 k := fun k hk => by rw [eJ15]; exact up_ne hk
                    refine Z.aload_n hX dX7_divisor_167 rfl rfl ?_
                    refine Z.getf hX 7 0 10 dX7_divisor_168 rfl rfl inX7 (by decide) fl_X7_33 rfl rfl ?_
                    refine Z.iload_n hX dX7_divisor_171 rfl rfl ?_
                    refine Z.lload_n hX dX7_divisor_172 rfl rfl ?_
                    refine Z.lastore hX 8 1 dX7_divisor_173 rfl rfl (by omega) (by omega) (by decide) ?_
                    obtain ⟨J16, eJ16⟩ : ∃ J' : Nat → Nat → Int64, J' = va_up J15 3 (vp_updL (J15 3) (k : Int).toNat (M4 2 (k : Int).toNat)) := ⟨_, rfl⟩
                    refine Z.toW (w' := rW ce h F I J16) (by rw [eJ16]; rfl) ?_
                    have gJ16 : J16 3 = vp_updL (J15 3) (k : Int).toNat (M4 2 (k : Int).toNat) := by rw [eJ16]; exact up_eq
                    have fJ16 : ∀ k, k ≠ 3 → J16 k = J15 k := fun k hk => by rw [eJ16]; exact up_ne hk
                    refine Z.iinc (lv' := [(2, .int (zI (k + 1))), (3, .long (M4 2 (k : Int).toNat)), (0, .ref (h 0))]) hX dX7_divisor_174 rfl (by decide) rfl ?_
                    refine Z.goto hX 143 dX7_divisor_177 (by decide) ?_
                    refine Z.pick [0, 2] rfl ?_
                    exact ih_143 _ _ (by omega) (by omega) (dv_sw hk4.1 ((fJ16 2 (by decide)).trans gJ15) (by rw [gJ16, fJ15 3 (by decide)]) (by omega) hs0 hs).1 (dv_sw hk4.1 ((fJ16 2 (by decide)).trans gJ15) (by rw [gJ16, fJ15 3 (by decide)]) (by omega) hs0 hs).2 (fun k h2 h3 => ((fJ16 k h3).trans ((fJ15 k h2).trans (hM4 k h2 h3))))
              refine Z.pick [0, 2] rfl ?_
              exact key_143 _ _ _ (Nat.lt_succ_self _) (by omega) (fun j _ _ => ⟨rfl, rfl⟩) (fun j h1 h2 => by omega) (fun k h2 h3 => (hM1 k h2 h3))
            · intro c13
              refine Z.aload_n hX dX7_divisor_43 rfl rfl ?_
              refine Z.getf hX 7 0 9 dX7_divisor_44 rfl rfl inX7 (by decide) fl_X7_30 rfl rfl ?_
              refine Z.callS1i (As := [.ref (h 7)]) (rest := []) hX 7 rfl (ct_X7_degreeOf l D ce ((h 7)) (M1 2) ) mc_X7_degreeOf ml_X7_62 st_X7_degreeOf ini_X7 nd_X7_degreeOf ⟨Nat.le_of_ble_eq_true rfl, Nat.le_of_ble_eq_true rfl⟩ ⟨rfl, rfl⟩ ⟨Nat.le_refl _, Nat.le_refl _⟩ rfl (Nat.le_of_ble_eq_true rfl) dX7_divisor_47 ?_
              rintro r_17 w1 ⟨e0, hr_, hw_, e1, e2, e3⟩
              subst hr_
              refine ⟨_, hw_, ?_⟩
              refine Z.toW (w' := rW ce h F I M1) rfl ?_
              have ee : ea = e0 := dg_uq a1 a2 a3 e1 e2 e3
              refine Z.istore_n (lv' := [(2, .int (zI e0)), (1, .int (zI d)), (0, .ref (h 0))]) hX dX7_divisor_50 rfl (by decide) rfl ?_
              refine Z.aload_n hX dX7_divisor_51 rfl rfl ?_
              refine Z.getf hX 7 0 9 dX7_divisor_52 rfl rfl inX7 (by decide) fl_X7_30 rfl rfl ?_
              refine Z.iload_n hX dX7_divisor_55 rfl rfl ?_
              refine Z.laload hX 7 1 dX7_divisor_56 rfl rfl (by omega) (by omega) (by decide) ?_
              refine Z.lstore_n (lv' := [(3, .long (M1 2 (e0 : Int).toNat)), (2, .int (zI e0)), (1, .int (zI d)), (0, .ref (h 0))]) hX dX7_divisor_57 rfl (by decide) rfl ?_
              refine Z.aload_n hX dX7_divisor_58 rfl rfl ?_
              refine Z.getf hX 7 0 10 dX7_divisor_59 rfl rfl inX7 (by decide) fl_X7_33 rfl rfl ?_
              refine Z.iload_n hX dX7_divisor_62 rfl rfl ?_
              refine Z.laload hX 8 1 dX7_divisor_63 rfl rfl (by omega) (by omega) (by decide) ?_
              refine Z.lstore (lv' := [(5, .long (M1 3 (d : Int).toNat)), (3, .long (M1 2 (e0 : Int).toNat)), (2, .int (zI e0)), (1, .int (zI d)), (0, .ref (h 0))]) hX dX7_divisor_64 (by decide) rfl ?_
              refine Z.iconst hX dX7_divisor_66 ?_
              refine Z.istore (lv' := [(7, .int (zI 0)), (5, .long (M1 3 (d : Int).toNat)), (3, .long (M1 2 (e0 : Int).toNat)), (2, .int (zI e0)), (1, .int (zI d)), (0, .ref (h 0))]) hX dX7_divisor_67 (by decide) rfl ?_
              have key_69 : ∀ (N : Nat), ∀ (k : Int) (M2 : Nat → Nat → Int64), (5 - k).toNat < N → (hk : 0 ≤ k ∧ k ≤ 5) → (hp : ∀ j : Int, 0 ≤ j → j ≤ 4 → M2 2 j.toNat = if j < k then M1 2 j.toNat * (M1 3 (d).toNat) else M1 2 j.toNat) → (h32 : M2 3 = M1 3) → (hM2 : ∀ k, k ≠ 2 → k ≠ 3 → M2 k = J k) → Z p l e { frames := 2, cells := 0, slots := 0, locals := 53 } s m args below meth c D A 8 0 0 Q 69 [(7, .int (zI k)), (5, .long (M1 3 (d).toNat)), (3, .long (M1 2 (e0).toNat)), (2, .int (zI e0)), (1, .int (zI d)), (0, .ref (h 0))] [] (rW ce h F I M2) := by
                intro N
                induction N with
                | zero => intro k M2 hm; exact absurd hm (Nat.not_lt_zero _)
                | succ N ih_69 =>
                  intro k M2 hm hk hp h32 hM2
                  refine Z.iload hX dX7_divisor_69 rfl ?_
                  refine Z.iconst hX dX7_divisor_71 ?_
                  refine Z.icmp_ge hX 93 dX7_divisor_72 (by decide) ⟨by omega, by omega⟩ ⟨by omega, by omega⟩ ?_ ?_
                  · intro c18
                    refine Z.iconst hX dX7_divisor_93 ?_
                    refine Z.istore (lv' := [(7, .int (zI 0)), (5, .long (M1 3 (d).toNat)), (3, .long (M1 2 (e0).toNat)), (2, .int (zI e0)), (1, .int (zI d)), (0, .ref (h 0))]) hX dX7_divisor_94 (by decide) rfl ?_
                    have key_96 : ∀ (N : Nat), ∀ (k : Int) (M3 : Nat → Nat → Int64), (d + 1 - k).toNat < N → (hk3 : 0 ≤ k ∧ k ≤ d + 1) → (hk9 : (k ≤ d → M3 2 e0.toNat = M1 2 (e0).toNat * M1 3 (d).toNat) ∧ (d < k → M3 2 e0.toNat = 0)) → (hz3 : ∀ j : Int, e0 < j → j ≤ 4 → M3 2 j.toNat = 0) → (h33 : M3 3 = M1 3) → (hM3 : ∀ k, k ≠ 2 → k ≠ 3 → M3 k = J k) → Z p l e { frames := 2, cells := 0, slots := 0, locals := 53 } s m args below meth c D A 8 0 0 Q 96 [(7, .int (zI k)), (3, .long (M1 2 (e0).toNat)), (2, .int (zI e0)), (1, .int (zI d)), (0, .ref (h 0))] [] (rW ce h F I M3) := by
                      intro N
                      induction N with
                      | zero => intro k M3 hm; exact absurd hm (Nat.not_lt_zero _)
                      | succ N ih_96 =>
                        intro k M3 hm hk3 hk9 hz3 h33 hM3
                        refine Z.iload hX dX7_divisor_96 rfl ?_
                        refine Z.iload_n hX dX7_divisor_98 rfl rfl ?_
                        refine Z.icmp_gt hX 131 dX7_divisor_99 (by decide) ⟨by omega, by omega⟩ ⟨by omega, by omega⟩ ?_ ?_
                        · intro c19
                          refine Z.aload_n hX dX7_divisor_131 rfl rfl ?_
                          refine Z.getf hX 7 0 9 dX7_divisor_132 rfl rfl inX7 (by decide) fl_X7_30 rfl rfl ?_
                          refine Z.callS1v (As := [.ref (h 7)]) (rest := []) hX 7 rfl (ct_X7_reduce l D ce ((h 7)) (M3 2) ) mc_X7_reduce ml_X7_66 st_X7_reduce ini_X7 nd_X7_reduce ⟨Nat.le_of_ble_eq_true rfl, Nat.le_of_ble_eq_true rfl⟩ ⟨rfl, rfl⟩ ⟨Nat.le_refl _, Nat.le_refl _⟩ rfl (Nat.le_of_ble_eq_true rfl) dX7_divisor_135 ?_
                          rintro w1 ⟨fr, hw_, hfr⟩
                          refine ⟨_, hw_, ?_⟩
                          obtain ⟨J21, eJ21⟩ : ∃ J' : Nat → Nat → Int64, J' = va_up M3 2 (fr) := ⟨_, rfl⟩
                          refine Z.toW (w' := rW ce h F I J21) (by rw [eJ21]; rfl) ?_
                          have gJ21 : J21 2 = fr := by rw [eJ21]; exact up_eq
                          have fJ21 : ∀ k, k ≠ 2 → J21 k = M3 k := fun k hk => by rw [eJ21]; exact up_ne hk
                          refine Z.goto hX 32 dX7_divisor_138 (by decide) ?_
                          refine Z.pick [3, 4] rfl ?_
                          exact ih_32 (e0 - 1) _ (by have hdu : e0 ≤ u := dg_le e1 e3 hu1 (by omega); omega) (by omega) (fun j h1 h2 => by rw [gJ21]; exact hfr j (by omega) (by omega) (dv_top (hk9.2 (by omega)) hz3 (by omega) h2)) ((fJ21 3 (by decide)).trans (h33.trans h3)) (fun k h2 h3 => ((fJ21 k h2).trans (hM3 k h2 h3)))
                        · intro c19
                          refine Z.aload_n hX dX7_divisor_102 rfl rfl ?_
                          refine Z.getf hX 7 0 9 dX7_divisor_103 rfl rfl inX7 (by decide) fl_X7_30 rfl rfl ?_
                          refine Z.iload_n hX dX7_divisor_106 rfl rfl ?_
                          refine Z.iload_n hX dX7_divisor_107 rfl rfl ?_
                          refine Z.isub hX dX7_divisor_108 ?_
                          refine Z.iload hX dX7_divisor_109 rfl ?_
                          refine Z.iadd hX dX7_divisor_111 ?_
                          refine Z.dup2 hX dX7_divisor_112 rfl rfl ?_
                          refine Z.laload hX 7 1 dX7_divisor_113 rfl rfl (by omega) (by omega) (by decide) ?_
                          refine Z.lload_n hX dX7_divisor_114 rfl rfl ?_
                          refine Z.aload_n hX dX7_divisor_115 rfl rfl ?_
                          refine Z.getf hX 7 0 10 dX7_divisor_116 rfl rfl inX7 (by decide) fl_X7_33 rfl rfl ?_
                          refine Z.iload hX dX7_divisor_119 rfl ?_
                          refine Z.laload hX 8 1 dX7_divisor_121 rfl rfl (by omega) (by omega) (by decide) ?_
                          refine Z.lmul hX dX7_divisor_122 ?_
                          refine Z.lsub hX dX7_divisor_123 ?_
                          refine Z.lastore hX 7 1 dX7_divisor_124 rfl rfl (by omega) (by omega) (by decide) ?_
                          obtain ⟨J22, eJ22⟩ : ∃ J' : Nat → Nat → Int64, J' = va_up M3 2 (vp_updL (M3 2) ((e0 - d) + k : Int).toNat ((M3 2 ((e0 - d) + k : Int).toNat) - ((M1 2 (e0).toNat) * (M3 3 (k : Int).toNat)))) := ⟨_, rfl⟩
                          refine Z.toW (w' := rW ce h F I J22) (by rw [eJ22]; rfl) ?_
                          have gJ22 : J22 2 = vp_updL (M3 2) ((e0 - d) + k : Int).toNat ((M3 2 ((e0 - d) + k : Int).toNat) - ((M1 2 (e0).toNat) * (M3 3 (k : Int).toNat))) := by rw [eJ22]; exact up_eq
                          have fJ22 : ∀ k, k ≠ 2 → J22 k = M3 k := fun k hk => by rw [eJ22]; exact up_ne hk
                          refine Z.iinc (lv' := [(7, .int (zI (k + 1))), (3, .long (M1 2 (e0).toNat)), (2, .int (zI e0)), (1, .int (zI d)), (0, .ref (h 0))]) hX dX7_divisor_125 rfl (by decide) rfl ?_
                          refine Z.goto hX 96 dX7_divisor_128 (by decide) ?_
                          refine Z.pick [0, 1, 2, 3, 4] rfl ?_
                          exact ih_96 _ _ (by omega) (by omega) (dv_sub (T := M1 3) (by omega) (by omega) (by omega) (by rw [gJ22, h33]) hk9) (fun j h1 h2 => by rw [gJ22, up_at (by omega) (by omega), if_neg (by omega)]; exact hz3 j h1 h2) ((fJ22 3 (by decide)).trans h33) (fun k h2 h3 => ((fJ22 k h2).trans (hM3 k h2 h3)))
                    refine Z.pick [0, 2, 3, 4, 5] rfl ?_
                    exact key_96 _ _ _ (Nat.lt_succ_self _) (by omega) ⟨fun _ => by rw [hp e0 (by omega) (by omega), if_pos (by omega)], fun h => by omega⟩ (fun j h1 h2 => by rw [hp j (by omega) h2, if_pos (by omega), e2 j (by omega) h2]; exact Int64.zero_mul) h32 (fun k h2 h3 => (hM2 k h2 h3))
                  · intro c18
                    refine Z.aload_n hX dX7_divisor_75 rfl rfl ?_
                    refine Z.getf hX 7 0 9 dX7_divisor_76 rfl rfl inX7 (by decide) fl_X7_30 rfl rfl ?_
                    refine Z.iload hX dX7_divisor_79 rfl ?_
                    refine Z.dup2 hX dX7_divisor_81 rfl rfl ?_
                    refine Z.laload hX 7 1 dX7_divisor_82 rfl rfl (by omega) (by omega) (by decide) ?_
                    refine Z.lload hX dX7_divisor_83 rfl ?_
                    refine Z.lmul hX dX7_divisor_85 ?_
                    refine Z.lastore hX 7 1 dX7_divisor_86 rfl rfl (by omega) (by omega) (by decide) ?_
                    obtain ⟨J23, eJ23⟩ : ∃ J' : Nat → Nat → Int64, J' = va_up M2 2 (vp_updL (M2 2) (k : Int).toNat ((M2 2 (k : Int).toNat) * (M1 3 (d).toNat))) := ⟨_, rfl⟩
                    refine Z.toW (w' := rW ce h F I J23) (by rw [eJ23]; rfl) ?_
                    have gJ23 : J23 2 = vp_updL (M2 2) (k : Int).toNat ((M2 2 (k : Int).toNat) * (M1 3 (d).toNat)) := by rw [eJ23]; exact up_eq
                    have fJ23 : ∀ k, k ≠ 2 → J23 k = M2 k := fun k hk => by rw [eJ23]; exact up_ne hk
                    refine Z.iinc (lv' := [(7, .int (zI (k + 1))), (5, .long (M1 3 (d).toNat)), (3, .long (M1 2 (e0).toNat)), (2, .int (zI e0)), (1, .int (zI d)), (0, .ref (h 0))]) hX dX7_divisor_87 rfl (by decide) rfl ?_
                    refine Z.goto hX 69 dX7_divisor_90 (by decide) ?_
                    refine Z.pick [0, 1, 2, 3, 4, 5] rfl ?_
                    exact ih_69 _ _ (by omega) (by omega) (dv_mul hk.1 gJ23 hp) ((fJ23 3 (by decide)).trans h32) (fun k h2 h3 => ((fJ23 k h2).trans (hM2 k h2 h3)))
              refine Z.pick [0, 1, 2, 3, 4, 5] rfl ?_
              exact key_69 _ _ _ (Nat.lt_succ_self _) (by omega) (fun j h1 h2 => (if_neg (by omega)).symm) rfl (fun k h2 h3 => (hM1 k h2 h3))
        refine Z.pick [0, 1] rfl ?_
        exact key_32 _ 4 _ (Nat.lt_succ_self _) (by omega) (fun j h1 h2 => by omega) rfl (fun k h2 h3 => (hM k h2 h3))
  refine Z.pick [0] rfl ?_
  exact key_14 _ 4 _ (Nat.lt_succ_self _) (by omega) (fun j h1 h2 => by omega) (fun k h2 h3 => ((fJ8 k h3).trans ((fJ4 k h2).trans rfl)))

