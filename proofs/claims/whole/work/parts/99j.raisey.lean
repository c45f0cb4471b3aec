set_option maxHeartbeats 4000000 in
set_option maxRecDepth 100000 in
theorem ct_X7_raise_y (l : Launch) (D : va_G) (ce : Nat → ClassId) (h : Nat → Nat) (F : Nat → Int) (I : Nat → Nat → Int32) (J : Nat → Nat → Int64) (k Dg : Int) (hk : 0 ≤ k ∧ k ≤ 12) (hD : 0 ≤ Dg ∧ k * Dg ≤ 6) (hsu : SU (J 7) Dg) : Ct l yX7_raise cX7_raise 5 none { frames := 0, cells := 0, slots := 0, locals := 0 } 0 0 D (TY ce) [.ref (h 0), .int (zI k)] (rW ce h F I J) (QV D (TY ce) (fun w1 => ∃ J2 : Nat → Nat → Int64, w1 = rW ce h F I J2 ∧ (∀ k, k ≠ 8 → k ≠ 9 → J2 k = J k) ∧ (CG (pw id (J2 8) 49) (fun z => pw id (J 7) 49 z ^ k.toNat)))) := by
  refine Ct.ofV (by decide) (Nat.le_of_ble_eq_true rfl) ?_
  intro p e s m args below meth c A Q hX hnm hR
  refine Z.pick (lv' := [(0, .ref (h 0)), (1, .int (zI k))]) [0, 1] rfl ?_
  refine Z.iconst hX dX7_raise_0 ?_
  refine Z.istore_n (lv' := [(2, .int (zI 0)), (0, .ref (h 0)), (1, .int (zI k))]) hX dX7_raise_1 rfl (by decide) rfl ?_
  have key_2 : ∀ (N : Nat), ∀ (i : Int) (M : Nat → Nat → Int64), (49 - i).toNat < N → (hi : 0 ≤ i ∧ i ≤ 49) → (hM : ∀ k, k ≠ 8 → k ≠ 9 → M k = J k) → (hP : ∀ q : Int, 0 ≤ q → q < i → M 8 q.toNat = if q = 0 then 1 else 0) → Z p l e { frames := 0, cells := 0, slots := 0, locals := 0 } s m args below meth c D A 5 0 0 Q 2 [(2, .int (zI i)), (1, .int (zI k)), (0, .ref (h 0))] [] (rW ce h F I M) := by
    intro N
    induction N with
    | zero => intro i M hm; exact absurd hm (Nat.not_lt_zero _)
    | succ N ih_2 =>
      intro i M hm hi hM hP
      refine Z.iload_n hX dX7_raise_2 rfl rfl ?_
      refine Z.bipush hX dX7_raise_3 (by decide) ?_
      refine Z.icmp_ge hX 29 dX7_raise_5 (by decide) ⟨by omega, by omega⟩ ⟨by omega, by omega⟩ ?_ ?_
      · intro c1
        refine Z.iconst hX dX7_raise_29 ?_
        refine Z.istore_n (lv' := [(2, .int (zI 0)), (1, .int (zI k)), (0, .ref (h 0))]) hX dX7_raise_30 rfl (by decide) rfl ?_
        have key_31 : ∀ (N : Nat), ∀ (n : Int) (M : Nat → Nat → Int64), (k - n).toNat < N → (hn : 0 ≤ n ∧ n ≤ k) → (hM : ∀ k, k ≠ 8 → k ≠ 9 → M k = J k) → (hC : CG (pw id (M 8) 49) (fun z => pw id (J 7) 49 z ^ n.toNat)) → (hS : SU (M 8) (n * Dg)) → Z p l e { frames := 0, cells := 0, slots := 0, locals := 0 } s m args below meth c D A 5 0 0 Q 31 [(2, .int (zI n)), (1, .int (zI k)), (0, .ref (h 0))] [] (rW ce h F I M) := by
          intro N
          induction N with
          | zero => intro n M hm; exact absurd hm (Nat.not_lt_zero _)
          | succ N ih_31 =>
            intro n M hm hn hM hC hS
            refine Z.iload_n hX dX7_raise_31 rfl rfl ?_
            refine Z.iload_n hX dX7_raise_32 rfl rfl ?_
            refine Z.icmp_ge hX 198 dX7_raise_33 (by decide) ⟨by omega, by omega⟩ ⟨by omega, by omega⟩ ?_ ?_
            · intro c2
              exact hR _ _ _ dX7_raise_198 ⟨M, rfl, (fun j_ h_8 h_9 => (hM j_ h_8 h_9)), (by rw [show k = n by omega]; exact hC)⟩
            · intro c2
              refine Z.iconst hX dX7_raise_36 ?_
              refine Z.istore_n (lv' := [(3, .int (zI 0)), (2, .int (zI n)), (1, .int (zI k)), (0, .ref (h 0))]) hX dX7_raise_37 rfl (by decide) rfl ?_
              have key_38 : ∀ (N : Nat), ∀ (i : Int) (Mz : Nat → Nat → Int64), (49 - i).toNat < N → (hi : 0 ≤ i ∧ i ≤ 49) → (hM : ∀ k, k ≠ 8 → k ≠ 9 → Mz k = J k) → (h8 : Mz 8 = M 8) → (hz : ∀ q : Int, 0 ≤ q → q < i → Mz 9 q.toNat = 0) → Z p l e { frames := 0, cells := 0, slots := 0, locals := 0 } s m args below meth c D A 5 0 0 Q 38 [(3, .int (zI i)), (2, .int (zI n)), (1, .int (zI k)), (0, .ref (h 0))] [] (rW ce h F I Mz) := by
                intro N
                induction N with
                | zero => intro i Mz hm; exact absurd hm (Nat.not_lt_zero _)
                | succ N ih_38 =>
                  intro i Mz hm hi hM h8 hz
                  have hnd := rz_nd (n := n) (by omega) hD
                  refine Z.iload_n hX dX7_raise_38 rfl rfl ?_
                  refine Z.bipush hX dX7_raise_39 (by decide) ?_
                  refine Z.icmp_ge hX 57 dX7_raise_41 (by decide) ⟨by omega, by omega⟩ ⟨by omega, by omega⟩ ?_ ?_
                  · intro c3
                    refine Z.iconst hX dX7_raise_57 ?_
                    refine Z.istore_n (lv' := [(3, .int (zI 0)), (2, .int (zI n)), (1, .int (zI k)), (0, .ref (h 0))]) hX dX7_raise_58 rfl (by decide) rfl ?_
                    have key_59 : ∀ (N : Nat), ∀ (a : Int) (Ma : Nat → Nat → Int64), (49 - a).toNat < N → (ha : 0 ≤ a ∧ a ≤ 49) → (hM : ∀ k, k ≠ 8 → k ≠ 9 → Ma k = J k) → (h8 : Ma 8 = M 8) → (hA : CG (pw id (Ma 9) 49) (fun z => pw id (M 8) a.toNat z * pw id (J 7) 49 z)) → (hS9 : SU (Ma 9) (n * Dg + Dg)) → Z p l e { frames := 0, cells := 0, slots := 0, locals := 0 } s m args below meth c D A 5 0 0 Q 59 [(3, .int (zI a)), (2, .int (zI n)), (1, .int (zI k)), (0, .ref (h 0))] [] (rW ce h F I Ma) := by
                      intro N
                      induction N with
                      | zero => intro a Ma hm; exact absurd hm (Nat.not_lt_zero _)
                      | succ N ih_59 =>
                        intro a Ma hm ha hM h8 hA hS9
                        refine Z.iload_n hX dX7_raise_59 rfl rfl ?_
                        refine Z.bipush hX dX7_raise_60 (by decide) ?_
                        refine Z.icmp_ge hX 166 dX7_raise_62 (by decide) ⟨by omega, by omega⟩ ⟨by omega, by omega⟩ ?_ ?_
                        · intro c4
                          refine Z.iconst hX dX7_raise_166 ?_
                          refine Z.istore_n (lv' := [(3, .int (zI 0)), (2, .int (zI n)), (1, .int (zI k)), (0, .ref (h 0))]) hX dX7_raise_167 rfl (by decide) rfl ?_
                          have key_168 : ∀ (N : Nat), ∀ (i : Int) (Mc : Nat → Nat → Int64), (49 - i).toNat < N → (hi : 0 ≤ i ∧ i ≤ 49) → (hM : ∀ k, k ≠ 8 → k ≠ 9 → Mc k = J k) → (h9 : Mc 9 = Ma 9) → (hcp : ∀ q : Int, 0 ≤ q → q < i → Mc 8 q.toNat = Ma 9 q.toNat) → Z p l e { frames := 0, cells := 0, slots := 0, locals := 0 } s m args below meth c D A 5 0 0 Q 168 [(3, .int (zI i)), (2, .int (zI n)), (1, .int (zI k)), (0, .ref (h 0))] [] (rW ce h F I Mc) := by
                            intro N
                            induction N with
                            | zero => intro i Mc hm; exact absurd hm (Nat.not_lt_zero _)
                            | succ N ih_168 =>
                              intro i Mc hm hi hM h9 hcp
                              refine Z.iload_n hX dX7_raise_168 rfl rfl ?_
                              refine Z.bipush hX dX7_raise_169 (by decide) ?_
                              refine Z.icmp_ge hX 192 dX7_raise_171 (by decide) ⟨by omega, by omega⟩ ⟨by omega, by omega⟩ ?_ ?_
                              · intro c5
                                refine Z.iinc (lv' := [(2, .int (zI (n + 1))), (3, .int (zI i)), (1, .int (zI k)), (0, .ref (h 0))]) hX dX7_raise_192 rfl (by decide) rfl ?_
                                refine Z.goto hX 31 dX7_raise_195 (by decide) ?_
                                refine Z.pick [0, 2, 3] rfl ?_
                                exact ih_31 _ _ (by omega) (by omega) (fun j_ h_8 h_9 => (hM j_ h_8 h_9)) (rz_n (by omega) (fun q x y => hcp q x (by omega)) hC (by rw [show (49 : Int) = a by omega]; exact hA)) (SU_c (by rw [Int.add_mul, Int.one_mul]) (fun q x y => hcp q x (by omega)) hS9)
                              · intro c5
                                refine Z.aload_n hX dX7_raise_174 rfl rfl ?_
                                refine Z.getf hX 7 0 15 dX7_raise_175 rfl rfl inX7 (by decide) fl_X7_48 rfl rfl ?_
                                refine Z.iload_n hX dX7_raise_178 rfl rfl ?_
                                refine Z.aload_n hX dX7_raise_179 rfl rfl ?_
                                refine Z.getf hX 7 0 16 dX7_raise_180 rfl rfl inX7 (by decide) fl_X7_51 rfl rfl ?_
                                refine Z.iload_n hX dX7_raise_183 rfl rfl ?_
                                refine Z.laload hX 14 1 dX7_raise_184 rfl rfl (by omega) (by omega) (by decide) ?_
                                refine Z.lastore hX 13 1 dX7_raise_185 rfl rfl (by omega) (by omega) (by decide) ?_
                                obtain ⟨J6, eJ6⟩ : ∃ J' : Nat → Nat → Int64, J' = va_up Mc 8 (vp_updL (Mc 8) (i : Int).toNat (Mc 9 (i : Int).toNat)) := ⟨_, rfl⟩
                                refine Z.toW (w' := rW ce h F I J6) (by rw [eJ6]; rfl) ?_
                                have gJ6 : J6 8 = vp_updL (Mc 8) (i : Int).toNat (Mc 9 (i : Int).toNat) := by rw [eJ6]; exact up_eq
                                have fJ6 : ∀ j_, j_ ≠ 8 → J6 j_ = Mc j_ := fun j_ hj_ => by rw [eJ6]; exact up_ne hj_
                                refine Z.iinc (lv' := [(3, .int (zI (i + 1))), (2, .int (zI n)), (1, .int (zI k)), (0, .ref (h 0))]) hX dX7_raise_186 rfl (by decide) rfl ?_
                                refine Z.goto hX 168 dX7_raise_189 (by decide) ?_
                                refine Z.pick [0, 1, 2, 3] rfl ?_
                                exact ih_168 _ _ (by omega) (by omega) (fun j_ h_8 h_9 => ((fJ6 j_ h_8).trans (hM j_ h_8 h_9))) ((fJ6 9 (by decide)).trans h9) (cp_s hi.1 (by rw [← h9]; exact gJ6) hcp)
                          refine Z.pick [0, 1, 2, 3] rfl ?_
                          exact key_168 _ _ _ (Nat.lt_succ_self _) (by omega) (fun j_ h_8 h_9 => (hM j_ h_8 h_9)) rfl (fun q x y => by omega)
                        · intro c4
                          refine Z.iconst hX dX7_raise_65 ?_
                          refine Z.istore (lv' := [(4, .int (zI 0)), (3, .int (zI a)), (2, .int (zI n)), (1, .int (zI k)), (0, .ref (h 0))]) hX dX7_raise_66 (by decide) rfl ?_
                          have key_68 : ∀ (N : Nat), ∀ (b : Int) (Mb : Nat → Nat → Int64), (49 - b).toNat < N → (hb : 0 ≤ b ∧ b ≤ 49) → (hM : ∀ k, k ≠ 8 → k ≠ 9 → Mb k = J k) → (h8 : Mb 8 = M 8) → (hB : CG (pw id (Mb 9) 49) (fun z => pw id (M 8) a.toNat z * pw id (J 7) 49 z + (M 8 a.toNat).toInt * z ^ a.toNat * pw id (J 7) b.toNat z)) → (hS9 : SU (Mb 9) (n * Dg + Dg)) → Z p l e { frames := 0, cells := 0, slots := 0, locals := 0 } s m args below meth c D A 5 0 0 Q 68 [(4, .int (zI b)), (3, .int (zI a)), (2, .int (zI n)), (1, .int (zI k)), (0, .ref (h 0))] [] (rW ce h F I Mb) := by
                            intro N
                            induction N with
                            | zero => intro b Mb hm; exact absurd hm (Nat.not_lt_zero _)
                            | succ N ih_68 =>
                              intro b Mb hm hb hM h8 hB hS9
                              refine Z.iload hX dX7_raise_68 rfl ?_
                              refine Z.bipush hX dX7_raise_70 (by decide) ?_
                              refine Z.icmp_ge hX 160 dX7_raise_72 (by decide) ⟨by omega, by omega⟩ ⟨by omega, by omega⟩ ?_ ?_
                              · intro c7
                                refine Z.iinc (lv' := [(3, .int (zI (a + 1))), (4, .int (zI b)), (2, .int (zI n)), (1, .int (zI k)), (0, .ref (h 0))]) hX dX7_raise_160 rfl (by decide) rfl ?_
                                refine Z.goto hX 59 dX7_raise_163 (by decide) ?_
                                refine Z.pick [0, 2, 3, 4] rfl ?_
                                exact ih_59 _ _ (by omega) (by omega) (fun j_ h_8 h_9 => (hM j_ h_8 h_9)) h8 (rz_ae (by omega) (by first | exact Or.inl (by omega) | exact Or.inr (by rw [← h8]; assumption)) hB) hS9
                              · intro c7
                                refine Z.aload_n hX dX7_raise_75 rfl rfl ?_
                                refine Z.getf hX 7 0 15 dX7_raise_76 rfl rfl inX7 (by decide) fl_X7_48 rfl rfl ?_
                                refine Z.iload_n hX dX7_raise_79 rfl rfl ?_
                                refine Z.laload hX 13 1 dX7_raise_80 rfl rfl (by omega) (by omega) (by decide) ?_
                                refine Z.lconst (v := 0) hX dX7_raise_81 rfl ?_
                                refine Z.lcmp_eq hX 160 dX7_raise_82 dX7_raise_83 (by decide) ?_ ?_
                                · intro c8
                                  refine Z.iinc (lv' := [(3, .int (zI (a + 1))), (4, .int (zI b)), (2, .int (zI n)), (1, .int (zI k)), (0, .ref (h 0))]) hX dX7_raise_160 rfl (by decide) rfl ?_
                                  refine Z.goto hX 59 dX7_raise_163 (by decide) ?_
                                  refine Z.pick [0, 2, 3, 4] rfl ?_
                                  exact ih_59 _ _ (by omega) (by omega) (fun j_ h_8 h_9 => (hM j_ h_8 h_9)) h8 (rz_ae (by omega) (by first | exact Or.inl (by omega) | exact Or.inr (by rw [← h8]; assumption)) hB) hS9
                                · intro c8
                                  have key_154 : ∀ (Md : Nat → Nat → Int64), (hM : ∀ k, k ≠ 8 → k ≠ 9 → Md k = J k) → (h8 : Md 8 = M 8) → (hB2 : CG (pw id (Md 9) 49) (fun z => pw id (M 8) a.toNat z * pw id (J 7) 49 z + (M 8 a.toNat).toInt * z ^ a.toNat * pw id (J 7) (b + 1).toNat z)) → (hS9 : SU (Md 9) (n * Dg + Dg)) → Z p l e { frames := 0, cells := 0, slots := 0, locals := 0 } s m args below meth c D A 5 0 0 Q 154 [(4, .int (zI b)), (3, .int (zI a)), (2, .int (zI n)), (1, .int (zI k)), (0, .ref (h 0))] [] (rW ce h F I Md) := by
                                    intro Md hM h8 hB2 hS9
                                    refine Z.iinc (lv' := [(4, .int (zI (b + 1))), (3, .int (zI a)), (2, .int (zI n)), (1, .int (zI k)), (0, .ref (h 0))]) hX dX7_raise_154 rfl (by decide) rfl ?_
                                    refine Z.goto hX 68 dX7_raise_157 (by decide) ?_
                                    refine Z.pick [0, 1, 2, 3, 4] rfl ?_
                                    exact ih_68 _ _ (by omega) (by omega) (fun j_ h_8 h_9 => (hM j_ h_8 h_9)) h8 hB2 hS9
                                  refine Z.aload_n hX dX7_raise_86 rfl rfl ?_
                                  refine Z.getf hX 7 0 14 dX7_raise_87 rfl rfl inX7 (by decide) fl_X7_45 rfl rfl ?_
                                  refine Z.iload hX dX7_raise_90 rfl ?_
                                  refine Z.laload hX 12 1 dX7_raise_92 rfl rfl (by omega) (by omega) (by decide) ?_
                                  refine Z.lconst (v := 0) hX dX7_raise_93 rfl ?_
                                  refine Z.lcmp_eq hX 154 dX7_raise_94 dX7_raise_95 (by decide) ?_ ?_
                                  · intro c9
                                    refine Z.pick [0, 1, 2, 3, 4] rfl ?_
                                    exact key_154 _ (fun j_ h_8 h_9 => (hM j_ h_8 h_9)) h8 (rz_bk (by omega) (by rw [← hM 7 (by decide) (by decide)]; assumption) hB) hS9
                                  · intro c9
                                    refine Z.iload_n hX dX7_raise_98 rfl rfl ?_
                                    refine Z.bipush hX dX7_raise_99 (by decide) ?_
                                    refine Z.idiv hX dX7_raise_101 (by omega) (by omega) (by omega) (by omega) ?_
                                    refine Z.iload hX dX7_raise_102 rfl ?_
                                    refine Z.bipush hX dX7_raise_104 (by decide) ?_
                                    refine Z.idiv hX dX7_raise_106 (by omega) (by omega) (by omega) (by omega) ?_
                                    refine Z.iadd hX dX7_raise_107 ?_
                                    refine Z.bipush hX dX7_raise_108 (by decide) ?_
                                    refine Z.icmp_ge hX 154 dX7_raise_110 (by decide) ⟨by omega, by omega⟩ ⟨by omega, by omega⟩ ?_ ?_
                                    · intro c10
                                      refine Z.pick [0, 1, 2, 3, 4] rfl ?_
                                      exact key_154 _ (fun j_ h_8 h_9 => (hM j_ h_8 h_9)) h8 (by exfalso; have s1 := SU_le hS (q := a) (by omega) (by omega) (by rw [← h8]; assumption); have s2 := SU_le hsu (q := b) (by omega) (by omega) (by rw [← hM 7 (by decide) (by decide)]; assumption); omega) hS9
                                    · intro c10
                                      refine Z.iload_n hX dX7_raise_113 rfl rfl ?_
                                      refine Z.bipush hX dX7_raise_114 (by decide) ?_
                                      refine Z.irem hX dX7_raise_116 (by omega) (by omega) (by omega) (by omega) ?_
                                      refine Z.iload hX dX7_raise_117 rfl ?_
                                      refine Z.bipush hX dX7_raise_119 (by decide) ?_
                                      refine Z.irem hX dX7_raise_121 (by omega) (by omega) (by omega) (by omega) ?_
                                      refine Z.iadd hX dX7_raise_122 ?_
                                      refine Z.bipush hX dX7_raise_123 (by decide) ?_
                                      refine Z.icmp_ge hX 154 dX7_raise_125 (by decide) ⟨by omega, by omega⟩ ⟨by omega, by omega⟩ ?_ ?_
                                      · intro c11
                                        refine Z.pick [0, 1, 2, 3, 4] rfl ?_
                                        exact key_154 _ (fun j_ h_8 h_9 => (hM j_ h_8 h_9)) h8 (by exfalso; have s1 := SU_le hS (q := a) (by omega) (by omega) (by rw [← h8]; assumption); have s2 := SU_le hsu (q := b) (by omega) (by omega) (by rw [← hM 7 (by decide) (by decide)]; assumption); omega) hS9
                                      · intro c11
                                        refine Z.aload_n hX dX7_raise_128 rfl rfl ?_
                                        refine Z.getf hX 7 0 16 dX7_raise_129 rfl rfl inX7 (by decide) fl_X7_51 rfl rfl ?_
                                        refine Z.iload_n hX dX7_raise_132 rfl rfl ?_
                                        refine Z.iload hX dX7_raise_133 rfl ?_
                                        refine Z.iadd hX dX7_raise_135 ?_
                                        refine Z.dup2 hX dX7_raise_136 rfl rfl ?_
                                        refine Z.laload hX 14 1 dX7_raise_137 rfl rfl (by omega) (by omega) (by decide) ?_
                                        refine Z.aload_n hX dX7_raise_138 rfl rfl ?_
                                        refine Z.getf hX 7 0 15 dX7_raise_139 rfl rfl inX7 (by decide) fl_X7_48 rfl rfl ?_
                                        refine Z.iload_n hX dX7_raise_142 rfl rfl ?_
                                        refine Z.laload hX 13 1 dX7_raise_143 rfl rfl (by omega) (by omega) (by decide) ?_
                                        refine Z.aload_n hX dX7_raise_144 rfl rfl ?_
                                        refine Z.getf hX 7 0 14 dX7_raise_145 rfl rfl inX7 (by decide) fl_X7_45 rfl rfl ?_
                                        refine Z.iload hX dX7_raise_148 rfl ?_
                                        refine Z.laload hX 12 1 dX7_raise_150 rfl rfl (by omega) (by omega) (by decide) ?_
                                        refine Z.lmul hX dX7_raise_151 ?_
                                        refine Z.ladd hX dX7_raise_152 ?_
                                        refine Z.lastore hX 14 1 dX7_raise_153 rfl rfl (by omega) (by omega) (by decide) ?_
                                        obtain ⟨J12, eJ12⟩ : ∃ J' : Nat → Nat → Int64, J' = va_up Mb 9 (vp_updL (Mb 9) (a + b : Int).toNat ((Mb 9 (a + b : Int).toNat) + ((Mb 8 (a : Int).toNat) * (Mb 7 (b : Int).toNat)))) := ⟨_, rfl⟩
                                        refine Z.toW (w' := rW ce h F I J12) (by rw [eJ12]; rfl) ?_
                                        have gJ12 : J12 9 = vp_updL (Mb 9) (a + b : Int).toNat ((Mb 9 (a + b : Int).toNat) + ((Mb 8 (a : Int).toNat) * (Mb 7 (b : Int).toNat))) := by rw [eJ12]; exact up_eq
                                        have fJ12 : ∀ j_, j_ ≠ 9 → J12 j_ = Mb j_ := fun j_ hj_ => by rw [eJ12]; exact up_ne hj_
                                        refine Z.pick [0, 1, 2, 3, 4] rfl ?_
                                        exact key_154 _ (fun j_ h_8 h_9 => ((fJ12 j_ h_9).trans (hM j_ h_8 h_9))) ((fJ12 8 (by decide)).trans h8) (rz_bw (by omega) (by omega) (by omega) (by rw [← h8, ← hM 7 (by decide) (by decide)]; exact gJ12) hB) (SU_u (by omega) (by have s1 := SU_le hS (q := a) (by omega) (by omega) (by rw [← h8]; assumption); have s2 := SU_le hsu (q := b) (by omega) (by omega) (by rw [← hM 7 (by decide) (by decide)]; assumption); omega) gJ12 hS9)
                          refine Z.pick [0, 1, 2, 3, 4] rfl ?_
                          exact key_68 _ _ _ (Nat.lt_succ_self _) (by omega) (fun j_ h_8 h_9 => (hM j_ h_8 h_9)) h8 (rz_b0 hA) hS9
                    refine Z.pick [0, 1, 2, 3] rfl ?_
                    exact key_59 _ _ _ (Nat.lt_succ_self _) (by omega) (fun j_ h_8 h_9 => (hM j_ h_8 h_9)) h8 (rz_z (S := n * Dg + Dg) (fun q x y => hz q x (by omega))).1 (rz_z (P := M 8) (R := J 7) (fun q x y => hz q x (by omega))).2
                  · intro c3
                    refine Z.aload_n hX dX7_raise_44 rfl rfl ?_
                    refine Z.getf hX 7 0 16 dX7_raise_45 rfl rfl inX7 (by decide) fl_X7_51 rfl rfl ?_
                    refine Z.iload_n hX dX7_raise_48 rfl rfl ?_
                    refine Z.lconst (v := 0) hX dX7_raise_49 rfl ?_
                    refine Z.lastore hX 14 1 dX7_raise_50 rfl rfl (by omega) (by omega) (by decide) ?_
                    obtain ⟨J13, eJ13⟩ : ∃ J' : Nat → Nat → Int64, J' = va_up Mz 9 (vp_updL (Mz 9) (i : Int).toNat (0)) := ⟨_, rfl⟩
                    refine Z.toW (w' := rW ce h F I J13) (by rw [eJ13]; rfl) ?_
                    have gJ13 : J13 9 = vp_updL (Mz 9) (i : Int).toNat (0) := by rw [eJ13]; exact up_eq
                    have fJ13 : ∀ j_, j_ ≠ 9 → J13 j_ = Mz j_ := fun j_ hj_ => by rw [eJ13]; exact up_ne hj_
                    refine Z.iinc (lv' := [(3, .int (zI (i + 1))), (2, .int (zI n)), (1, .int (zI k)), (0, .ref (h 0))]) hX dX7_raise_51 rfl (by decide) rfl ?_
                    refine Z.goto hX 38 dX7_raise_54 (by decide) ?_
                    refine Z.pick [0, 1, 2, 3] rfl ?_
                    exact ih_38 _ _ (by omega) (by omega) (fun j_ h_8 h_9 => ((fJ13 j_ h_9).trans (hM j_ h_8 h_9))) ((fJ13 8 (by decide)).trans h8) (z_fill hi.1 gJ13 hz)
              refine Z.pick [0, 1, 2, 3] rfl ?_
              exact key_38 _ _ _ (Nat.lt_succ_self _) (by omega) (fun j_ h_8 h_9 => (hM j_ h_8 h_9)) rfl (fun q x y => by omega)
        refine Z.pick [0, 1, 2] rfl ?_
        exact key_31 _ _ _ (Nat.lt_succ_self _) (by omega) (fun j_ h_8 h_9 => (hM j_ h_8 h_9)) (rz_i (R := fun z => pw id (J 7) 49 z) (D := Dg) (fun q a b => hP q a (by omega))).1 (rz_i (R := fun z => pw id (J 7) 49 z) (D := Dg) (fun q a b => hP q a (by omega))).2
      · intro c1
        refine Z.aload_n hX dX7_raise_8 rfl rfl ?_
        refine Z.getf hX 7 0 15 dX7_raise_9 rfl rfl inX7 (by decide) fl_X7_48 rfl rfl ?_
        refine Z.iload_n hX dX7_raise_12 rfl rfl ?_
        refine Z.iload_n hX dX7_raise_13 rfl rfl ?_
        refine Z.if_ne hX 21 dX7_raise_14 (by decide) ⟨by omega, by omega⟩ ?_ ?_
        · intro c14
          refine Z.lconst (v := 0) hX dX7_raise_21 rfl ?_
          refine Z.lastore hX 13 1 dX7_raise_22 rfl rfl (by omega) (by omega) (by decide) ?_
          obtain ⟨J15, eJ15⟩ : ∃ J' : Nat → Nat → Int64, J' = va_up M 8 (vp_updL (M 8) (i : Int).toNat (0)) := ⟨_, rfl⟩
          refine Z.toW (w' := rW ce h F I J15) (by rw [eJ15]; rfl) ?_
          have gJ15 : J15 8 = vp_updL (M 8) (i : Int).toNat (0) := by rw [eJ15]; exact up_eq
          have fJ15 : ∀ j_, j_ ≠ 8 → J15 j_ = M j_ := fun j_ hj_ => by rw [eJ15]; exact up_ne hj_
          refine Z.iinc (lv' := [(2, .int (zI (i + 1))), (1, .int (zI k)), (0, .ref (h 0))]) hX dX7_raise_23 rfl (by decide) rfl ?_
          refine Z.goto hX 2 dX7_raise_26 (by decide) ?_
          refine Z.pick [0, 1, 2] rfl ?_
          exact ih_2 _ _ (by omega) (by omega) (fun j_ h_8 h_9 => ((fJ15 j_ h_8).trans (hM j_ h_8 h_9))) (pi_s hi.1 gJ15 (by first | exact (if_pos (by omega)).symm | exact (if_neg (by omega)).symm) hP)
        · intro c14
          refine Z.lconst (v := 1) hX dX7_raise_17 rfl ?_
          refine Z.goto hX 22 dX7_raise_18 (by decide) ?_
          refine Z.lastore hX 13 1 dX7_raise_22 rfl rfl (by omega) (by omega) (by decide) ?_
          obtain ⟨J16, eJ16⟩ : ∃ J' : Nat → Nat → Int64, J' = va_up M 8 (vp_updL (M 8) (i : Int).toNat (1)) := ⟨_, rfl⟩
          refine Z.toW (w' := rW ce h F I J16) (by rw [eJ16]; rfl) ?_
          have gJ16 : J16 8 = vp_updL (M 8) (i : Int).toNat (1) := by rw [eJ16]; exact up_eq
          have fJ16 : ∀ j_, j_ ≠ 8 → J16 j_ = M j_ := fun j_ hj_ => by rw [eJ16]; exact up_ne hj_
          refine Z.iinc (lv' := [(2, .int (zI (i + 1))), (1, .int (zI k)), (0, .ref (h 0))]) hX dX7_raise_23 rfl (by decide) rfl ?_
          refine Z.goto hX 2 dX7_raise_26 (by decide) ?_
          refine Z.pick [0, 1, 2] rfl ?_
          exact ih_2 _ _ (by omega) (by omega) (fun j_ h_8 h_9 => ((fJ16 j_ h_8).trans (hM j_ h_8 h_9))) (pi_s hi.1 gJ16 (by first | exact (if_pos (by omega)).symm | exact (if_neg (by omega)).symm) hP)
  refine Z.pick [0, 2, 1] rfl ?_
  exact key_2 _ _ _ (Nat.lt_succ_self _) (by omega) (fun j_ h_8 h_9 => rfl) (fun q a b => by omega)

