set_option maxHeartbeats 4000000 in
set_option maxRecDepth 100000 in
theorem ct_X7_tell_z (l : Launch) (D : va_G) (ce : Nat → ClassId) (h : Nat → Nat) (F : Nat → Int) (I : Nat → Nat → Int32) (J : Nat → Nat → Int64) (fr : Int) (hfr : 0 ≤ fr ∧ fr ≤ 12495) (hdg : DGok (I 2)) (hsz : sz60 (fun i => J 5 (fr.toNat + i))) (hs6 : SU (fun i => J 5 (fr.toNat + i)) 6) : Ct l yX7_tell cX7_tell 9 none { frames := 3, cells := 0, slots := 0, locals := 93 } 0 0 D (TY ce) [.ref (h 0), .int (zI 1), .int (zI fr)] (rW ce h F I J) (QV D (TY ce) (fun w1 => ∃ I2 : Nat → Nat → Int32, ∃ J2 : Nat → Nat → Int64, w1 = rW ce h F I2 J2 ∧ (∀ k, k ≠ 1 → k ≠ 6 → k ≠ 7 → k ≠ 8 → k ≠ 9 → J2 k = J k) ∧ (∀ k, k ≠ 1 → k ≠ 2 → k ≠ 3 → I2 k = I k) ∧ (DGok (I2 2)) ∧ ((∀ q : Int, 1 ≤ q → q < 49 → J 5 (fr + q).toNat = 0) → I2 1 = I 1) ∧ ((∃ q : Int, 1 ≤ q ∧ q < 49 ∧ J 5 (fr + q).toNat ≠ 0) → I2 1 1 = 1 ∧ TZ (fun i => J 5 (fr.toNat + i)) (fun i => J2 1 (49 + i)) (I2 2 1)) ∧ (∀ q : Int, 0 ≤ q → q < 49 → J2 1 q.toNat = J 1 q.toNat) ∧ (I2 1 0 = I 1 0 ∧ I2 2 0 = I 2 0))) := by
  refine Ct.ofV (by decide) (Nat.le_of_ble_eq_true rfl) ?_
  intro p e s m args below meth c A Q hX hnm hR
  refine Z.pick (lv' := [(0, .ref (h 0)), (1, .int (zI 1)), (2, .int (zI fr))]) [0, 1, 2] rfl ?_
  refine Z.lconst (v := 0) hX dX7_tell_0 rfl ?_
  refine Z.lstore_n (lv' := [(3, .long 0), (0, .ref (h 0)), (1, .int (zI 1)), (2, .int (zI fr))]) hX dX7_tell_1 rfl (by decide) rfl ?_
  refine Z.iconst hX dX7_tell_2 ?_
  refine Z.istore (lv' := [(5, .int (zI 0)), (3, .long 0), (0, .ref (h 0)), (1, .int (zI 1)), (2, .int (zI fr))]) hX dX7_tell_3 (by decide) rfl ?_
  have key_5 : ∀ (N : Nat), ∀ (i : Int) (x : Int64) (M : Nat → Nat → Int64), (49 - i).toNat < N → (hi : 0 ≤ i ∧ i ≤ 49) → (hx : CGr (M 6) i.toNat x) → (hw : ∀ q : Int, 0 ≤ q → q < i → M 6 q.toNat = J 5 (fr + q).toNat) → (hM : ∀ k, k ≠ 1 → k ≠ 6 → k ≠ 7 → k ≠ 8 → k ≠ 9 → M k = J k) → (h1 : M 1 = J 1) → Z p l e { frames := 3, cells := 0, slots := 0, locals := 93 } s m args below meth c D A 9 0 0 Q 5 [(5, .int (zI i)), (3, .long x), (2, .int (zI fr)), (1, .int (zI 1)), (0, .ref (h 0))] [] (rW ce h F I M) := by
    intro N
    induction N with
    | zero => intro i x M hm; exact absurd hm (Nat.not_lt_zero _)
    | succ N ih_5 =>
      intro i x M hm hi hx hw hM h1
      refine Z.iload hX dX7_tell_5 rfl ?_
      refine Z.bipush hX dX7_tell_7 (by decide) ?_
      refine Z.icmp_ge hX 46 dX7_tell_9 (by decide) ⟨by omega, by omega⟩ ⟨by omega, by omega⟩ ?_ ?_
      · intro c1
        refine Z.aload_n hX dX7_tell_46 rfl rfl ?_
        have hw49 : ∀ q : Int, 0 ≤ q → q < 49 → M 6 q.toNat = J 5 (fr + q).toNat := fun q a b => hw q a (by omega)
        have hn49 : ∀ q : Int, 0 ≤ q → q < 49 → M 6 q.toNat = (fun i => J 5 (fr.toNat + i)) q.toNat := fun q a b => (hw49 q a b).trans (by show _ = J 5 (fr.toNat + q.toNat); congr 1; omega)
        have hs49 : sz60 (M 6) := fun q a b => by rw [hn49 q a b]; exact hsz q a b
        have hsu6 : SU (M 6) 6 := SU_c rfl hn49 hs6
        have hx49 : CGr (M 6) 49 x := (show i.toNat = 49 by omega) ▸ hx
        refine Z.getf hX 7 0 13 dX7_tell_47 rfl rfl inX7 (by decide) fl_X7_42 rfl rfl ?_
        refine Z.callS1i (As := [.ref (h 11)]) (rest := []) hX 11 rfl (ct_X7_degree2 l D ce ((h 11)) (M 6) ) mc_X7_degree2 ml_X7_105 st_X7_degree2 ini_X7 nd_X7_degree2 ⟨Nat.le_of_ble_eq_true rfl, Nat.le_of_ble_eq_true rfl⟩ ⟨rfl, rfl⟩ ⟨Nat.le_refl _, Nat.le_refl _⟩ rfl (Nat.le_of_ble_eq_true rfl) dX7_tell_50 ?_
        rintro r_2 w1 ⟨d, hr_, hw_, d1, d2, d3⟩
        subst hr_
        refine ⟨_, hw_, ?_⟩
        refine Z.toW (w' := rW ce h F I M) rfl ?_
        refine Z.istore (lv' := [(5, .int (zI d)), (3, .long x), (2, .int (zI fr)), (1, .int (zI 1)), (0, .ref (h 0))]) hX dX7_tell_53 (by decide) rfl ?_
        refine Z.iload hX dX7_tell_55 rfl ?_
        refine Z.iconst hX dX7_tell_57 ?_
        refine Z.icmp_ge hX 62 dX7_tell_58 (by decide) ⟨by omega, by omega⟩ ⟨by omega, by omega⟩ ?_ ?_
        · intro c3
          refine Z.aload_n hX dX7_tell_62 rfl rfl ?_
          refine Z.getf hX 7 0 13 dX7_tell_63 rfl rfl inX7 (by decide) fl_X7_42 rfl rfl ?_
          refine Z.callS1i (As := [.ref (h 11)]) (rest := []) hX 11 rfl (ct_X7_firstOf_z l D ce ((h 11)) (M 6) ) mc_X7_firstOf ml_X7_108 st_X7_firstOf ini_X7 nd_X7_firstOf ⟨Nat.le_of_ble_eq_true rfl, Nat.le_of_ble_eq_true rfl⟩ ⟨rfl, rfl⟩ ⟨Nat.le_refl _, Nat.le_refl _⟩ rfl (Nat.le_of_ble_eq_true rfl) dX7_tell_66 ?_
          rintro r_4 w1 ⟨fi, hr_, hw_, hfi⟩
          subst hr_
          refine ⟨_, hw_, ?_⟩
          refine Z.toW (w' := rW ce h F I M) rfl ?_
          refine Z.istore (lv' := [(6, .int (zI fi)), (5, .int (zI d)), (3, .long x), (2, .int (zI fr)), (1, .int (zI 1)), (0, .ref (h 0))]) hX dX7_tell_69 (by decide) rfl ?_
          obtain ⟨hf1, hf2, hf3, hf4, hf5⟩ := fo_z hfi d2 (by omega) d3
          have hx0 : ¬ x = 0 := sz_x hs49 hx49 (by omega) hf3
          have hd6 : d ≤ 6 := d2_6 d2 (by omega) hsu6
          have key_89 : ∀ (y : Int64), (hy0 : ¬ y = 0) → (hys : y = x ∨ y = -x) → Z p l e { frames := 3, cells := 0, slots := 0, locals := 93 } s m args below meth c D A 9 0 0 Q 89 [(6, .int (zI fi)), (5, .int (zI d)), (1, .int (zI 1)), (0, .ref (h 0))] [.long y] (rW ce h F I M) := by
            intro y hy0 hys
            refine Z.lstore_n (lv' := [(3, .long y), (6, .int (zI fi)), (5, .int (zI d)), (1, .int (zI 1)), (0, .ref (h 0))]) hX dX7_tell_89 rfl (by decide) rfl ?_
            refine Z.iconst hX dX7_tell_90 ?_
            refine Z.istore (lv' := [(7, .int (zI 0)), (3, .long y), (6, .int (zI fi)), (5, .int (zI d)), (1, .int (zI 1)), (0, .ref (h 0))]) hX dX7_tell_91 (by decide) rfl ?_
            have key_93 : ∀ (N : Nat), ∀ (iv : Int) (Mv : Nat → Nat → Int64), (49 - iv).toNat < N → (hiv : 0 ≤ iv ∧ iv ≤ 49) → (hM : ∀ k, k ≠ 1 → k ≠ 6 → k ≠ 7 → k ≠ 8 → k ≠ 9 → Mv k = J k) → (hdv : ∀ q : Int, 0 ≤ q → q < 49 → Mv 6 q.toNat = if q < iv then M 6 q.toNat / y else M 6 q.toNat) → (h1 : Mv 1 = J 1) → Z p l e { frames := 3, cells := 0, slots := 0, locals := 93 } s m args below meth c D A 9 0 0 Q 93 [(7, .int (zI iv)), (6, .int (zI fi)), (5, .int (zI d)), (3, .long y), (1, .int (zI 1)), (0, .ref (h 0))] [] (rW ce h F I Mv) := by
              intro N
              induction N with
              | zero => intro iv Mv hm; exact absurd hm (Nat.not_lt_zero _)
              | succ N ih_93 =>
                intro iv Mv hm hiv hM hdv h1
                refine Z.iload hX dX7_tell_93 rfl ?_
                refine Z.bipush hX dX7_tell_95 (by decide) ?_
                refine Z.icmp_ge hX 117 dX7_tell_97 (by decide) ⟨by omega, by omega⟩ ⟨by omega, by omega⟩ ?_ ?_
                · intro c5
                  have key_144 : ∀ (k : Int) (Mt : Nat → Nat → Int64), (hk : 1 ≤ k ∧ k ≤ d) → (hM : ∀ k, k ≠ 1 → k ≠ 6 → k ≠ 7 → k ≠ 8 → k ≠ 9 → Mt k = J k) → (h6 : Mt 6 = Mv 6) → (hrt : k = 1 ∨ (2 ≤ k ∧ PWz (Mt 7) (Mv 6) k fi)) → (h1 : Mt 1 = J 1) → Z p l e { frames := 3, cells := 0, slots := 0, locals := 93 } s m args below meth c D A 9 0 0 Q 144 [(7, .int (zI k)), (5, .int (zI d)), (1, .int (zI 1)), (0, .ref (h 0))] [] (rW ce h F I Mt) := by
                    intro k Mt hk hM h6 hrt h1
                    refine Z.aload_n hX dX7_tell_144 rfl rfl ?_
                    refine Z.getf hX 7 0 5 dX7_tell_145 rfl rfl inX7 (by decide) fl_X7_17 rfl rfl ?_
                    refine Z.iload_n hX dX7_tell_148 rfl rfl ?_
                    refine Z.iconst hX dX7_tell_149 ?_
                    refine Z.zastore hX 3 2 dX7_tell_150 rfl rfl (by omega) (by omega) (by decide) ?_
                    obtain ⟨I6, eI6⟩ : ∃ J' : Nat → Nat → Int32, J' = va_up I 1 (upd (I 1) (1 : Int).toNat (vp_nar .boolean (zI (1)))) := ⟨_, rfl⟩
                    refine Z.toW (w' := rW ce h F I6 Mt) (by rw [eI6]; rfl) ?_
                    have gI6 : I6 1 = upd (I 1) (1 : Int).toNat (vp_nar .boolean (zI (1))) := by rw [eI6]; exact up_eq
                    have fI6 : ∀ j_, j_ ≠ 1 → I6 j_ = I j_ := fun j_ hj_ => by rw [eI6]; exact up_ne hj_
                    refine Z.aload_n hX dX7_tell_151 rfl rfl ?_
                    refine Z.getf hX 7 0 8 dX7_tell_152 rfl rfl inX7 (by decide) fl_X7_27 rfl rfl ?_
                    refine Z.iload_n hX dX7_tell_155 rfl rfl ?_
                    refine Z.iload hX dX7_tell_156 rfl ?_
                    refine Z.iastore hX 6 0 dX7_tell_158 rfl rfl (by omega) (by omega) (by decide) ?_
                    obtain ⟨I7, eI7⟩ : ∃ J' : Nat → Nat → Int32, J' = va_up I6 3 (upd (I6 3) (1 : Int).toNat (zI (k))) := ⟨_, rfl⟩
                    refine Z.toW (w' := rW ce h F I7 Mt) (by rw [eI7]; rfl) ?_
                    have gI7 : I7 3 = upd (I6 3) (1 : Int).toNat (zI (k)) := by rw [eI7]; exact up_eq
                    have fI7 : ∀ j_, j_ ≠ 3 → I7 j_ = I6 j_ := fun j_ hj_ => by rw [eI7]; exact up_ne hj_
                    refine Z.aload_n hX dX7_tell_159 rfl rfl ?_
                    refine Z.getf hX 7 0 7 dX7_tell_160 rfl rfl inX7 (by decide) fl_X7_24 rfl rfl ?_
                    refine Z.iload_n hX dX7_tell_163 rfl rfl ?_
                    refine Z.iload hX dX7_tell_164 rfl ?_
                    refine Z.iload hX dX7_tell_166 rfl ?_
                    refine Z.idiv hX dX7_tell_168 (by omega) (by omega) (by omega) (by omega) ?_
                    refine Z.iastore hX 5 0 dX7_tell_169 rfl rfl (by omega) (by omega) (by decide) ?_
                    obtain ⟨I8, eI8⟩ : ∃ J' : Nat → Nat → Int32, J' = va_up I7 2 (upd (I7 2) (1 : Int).toNat (zI (d / k))) := ⟨_, rfl⟩
                    refine Z.toW (w' := rW ce h F I8 Mt) (by rw [eI8]; rfl) ?_
                    have gI8 : I8 2 = upd (I7 2) (1 : Int).toNat (zI (d / k)) := by rw [eI8]; exact up_eq
                    have fI8 : ∀ j_, j_ ≠ 2 → I8 j_ = I7 j_ := fun j_ hj_ => by rw [eI8]; exact up_ne hj_
                    have hdgN : DGok (I8 2) := DG_s (k := 1) hdg (by omega) hk (by omega) (by rw [gI8, fI7 2 (by decide), fI6 2 (by decide)])
                    have hI1 : I8 1 1 = 1 := by rw [fI8 1 (by decide), fI7 1 (by decide), gI6]; exact if_pos rfl
                    have hI2 : I8 2 1 = zI (d / k) := by rw [gI8]; exact if_pos rfl
                    have hI10 : I8 1 0 = I 1 0 := by rw [fI8 1 (by decide), fI7 1 (by decide), gI6]; exact if_neg (by decide)
                    have hI20 : I8 2 0 = I 2 0 := by rw [gI8, fI7 2 (by decide), fI6 2 (by decide)]; exact if_neg (by decide)
                    refine Z.iconst hX dX7_tell_170 ?_
                    refine Z.istore (lv' := [(8, .int (zI 0)), (7, .int (zI k)), (5, .int (zI d)), (1, .int (zI 1)), (0, .ref (h 0))]) hX dX7_tell_171 (by decide) rfl ?_
                    have key_173 : ∀ (N : Nat), ∀ (iv : Int) (Mr : Nat → Nat → Int64), (49 - iv).toNat < N → (hi2 : 0 ≤ iv ∧ iv ≤ 49) → (hM : ∀ k, k ≠ 1 → k ≠ 6 → k ≠ 7 → k ≠ 8 → k ≠ 9 → Mr k = J k) → (htr : ∀ q : Int, 0 ≤ q → q < iv → Mr 1 (49 + q).toNat = if 1 < k then Mt 7 q.toNat else Mt 6 q.toNat) → (h67 : Mr 6 = Mt 6 ∧ Mr 7 = Mt 7) → (h1c : ∀ q : Int, 0 ≤ q → q < 49 → Mr 1 q.toNat = J 1 q.toNat) → Z p l e { frames := 3, cells := 0, slots := 0, locals := 93 } s m args below meth c D A 9 0 0 Q 173 [(8, .int (zI iv)), (7, .int (zI k)), (1, .int (zI 1)), (0, .ref (h 0))] [] (rW ce h F I8 Mr) := by
                      intro N
                      induction N with
                      | zero => intro iv Mr hm; exact absurd hm (Nat.not_lt_zero _)
                      | succ N ih_173 =>
                        intro iv Mr hm hi2 hM htr h67 h1c
                        refine Z.iload hX dX7_tell_173 rfl ?_
                        refine Z.bipush hX dX7_tell_175 (by decide) ?_
                        refine Z.icmp_ge hX 221 dX7_tell_177 (by decide) ⟨by omega, by omega⟩ ⟨by omega, by omega⟩ ?_ ?_
                        · intro c9
                          exact hR _ _ _ dX7_tell_221 ⟨I8, Mr, rfl, (fun j_ h_1 h_6 h_7 h_8 h_9 => (hM j_ h_1 h_6 h_7 h_8 h_9)), (fun j_ h_1 h_2 h_3 => ((fI8 j_ h_2).trans ((fI7 j_ h_3).trans ((fI6 j_ h_1).trans rfl)))), hdgN, (fun hq => by obtain ⟨q, q1, q2, q3⟩ := te_1 (by omega) d2; exact absurd ((hw49 q (by omega) q2).trans (hq q q1 q2)) q3), (fun _ => ⟨hI1, te_endz (r := Mt 7) hs49 hx49 hy0 hys (f := Mt 6) (fun q a b => by rw [h6, hdv q a b, if_pos (by omega)]) (by omega) d3 hk.1 hI2 ⟨hf1, hf2, hf3, hf4, hf5⟩ (by rw [h6]; exact hrt) (tz_t (T := fun i => if 1 < k then Mt 7 i else Mt 6 i) (fun q a b => htr q a (by omega))) hn49⟩), h1c, ⟨hI10, hI20⟩⟩
                        · intro c9
                          refine Z.aload_n hX dX7_tell_180 rfl rfl ?_
                          refine Z.getf hX 7 0 6 dX7_tell_181 rfl rfl inX7 (by decide) fl_X7_21 rfl rfl ?_
                          refine Z.bipush hX dX7_tell_184 (by decide) ?_
                          refine Z.iload_n hX dX7_tell_186 rfl rfl ?_
                          refine Z.imul hX dX7_tell_187 ?_
                          refine Z.iload hX dX7_tell_188 rfl ?_
                          refine Z.iadd hX dX7_tell_190 ?_
                          refine Z.iload hX dX7_tell_191 rfl ?_
                          refine Z.iconst hX dX7_tell_193 ?_
                          refine Z.icmp_le hX 207 dX7_tell_194 (by decide) ⟨by omega, by omega⟩ ⟨by omega, by omega⟩ ?_ ?_
                          · intro c10
                            refine Z.aload_n hX dX7_tell_207 rfl rfl ?_
                            refine Z.getf hX 7 0 13 dX7_tell_208 rfl rfl inX7 (by decide) fl_X7_42 rfl rfl ?_
                            refine Z.iload hX dX7_tell_211 rfl ?_
                            refine Z.laload hX 11 1 dX7_tell_213 rfl rfl (by omega) (by omega) (by decide) ?_
                            refine Z.lastore hX 4 1 dX7_tell_214 rfl rfl (by omega) (by omega) (by decide) ?_
                            obtain ⟨J11, eJ11⟩ : ∃ J' : Nat → Nat → Int64, J' = va_up Mr 1 (vp_updL (Mr 1) ((49 * 1) + iv : Int).toNat (Mr 6 (iv : Int).toNat)) := ⟨_, rfl⟩
                            refine Z.toW (w' := rW ce h F I8 J11) (by rw [eJ11]; rfl) ?_
                            have gJ11 : J11 1 = vp_updL (Mr 1) ((49 * 1) + iv : Int).toNat (Mr 6 (iv : Int).toNat) := by rw [eJ11]; exact up_eq
                            have fJ11 : ∀ j_, j_ ≠ 1 → J11 j_ = Mr j_ := fun j_ hj_ => by rw [eJ11]; exact up_ne hj_
                            refine Z.iinc (lv' := [(8, .int (zI (iv + 1))), (7, .int (zI k)), (1, .int (zI 1)), (0, .ref (h 0))]) hX dX7_tell_215 rfl (by decide) rfl ?_
                            refine Z.goto hX 173 dX7_tell_218 (by decide) ?_
                            refine Z.pick [0, 1, 2, 3] rfl ?_
                            exact ih_173 _ _ (by omega) (by omega) (fun j_ h_1 h_6 h_7 h_8 h_9 => ((fJ11 j_ h_1).trans (hM j_ h_1 h_6 h_7 h_8 h_9))) (tr_z hi2.1 gJ11 (by first | exact (by rw [if_pos (by omega), h67.2]) | exact (by rw [if_neg (by omega), h67.1])) htr) ⟨(fJ11 6 (by decide)).trans h67.1, (fJ11 7 (by decide)).trans h67.2⟩ (t1_s hi2.1 gJ11 h1c)
                          · intro c10
                            refine Z.aload_n hX dX7_tell_197 rfl rfl ?_
                            refine Z.getf hX 7 0 14 dX7_tell_198 rfl rfl inX7 (by decide) fl_X7_45 rfl rfl ?_
                            refine Z.iload hX dX7_tell_201 rfl ?_
                            refine Z.laload hX 12 1 dX7_tell_203 rfl rfl (by omega) (by omega) (by decide) ?_
                            refine Z.goto hX 214 dX7_tell_204 (by decide) ?_
                            refine Z.lastore hX 4 1 dX7_tell_214 rfl rfl (by omega) (by omega) (by decide) ?_
                            obtain ⟨J12, eJ12⟩ : ∃ J' : Nat → Nat → Int64, J' = va_up Mr 1 (vp_updL (Mr 1) ((49 * 1) + iv : Int).toNat (Mr 7 (iv : Int).toNat)) := ⟨_, rfl⟩
                            refine Z.toW (w' := rW ce h F I8 J12) (by rw [eJ12]; rfl) ?_
                            have gJ12 : J12 1 = vp_updL (Mr 1) ((49 * 1) + iv : Int).toNat (Mr 7 (iv : Int).toNat) := by rw [eJ12]; exact up_eq
                            have fJ12 : ∀ j_, j_ ≠ 1 → J12 j_ = Mr j_ := fun j_ hj_ => by rw [eJ12]; exact up_ne hj_
                            refine Z.iinc (lv' := [(8, .int (zI (iv + 1))), (7, .int (zI k)), (1, .int (zI 1)), (0, .ref (h 0))]) hX dX7_tell_215 rfl (by decide) rfl ?_
                            refine Z.goto hX 173 dX7_tell_218 (by decide) ?_
                            refine Z.pick [0, 1, 2, 3] rfl ?_
                            exact ih_173 _ _ (by omega) (by omega) (fun j_ h_1 h_6 h_7 h_8 h_9 => ((fJ12 j_ h_1).trans (hM j_ h_1 h_6 h_7 h_8 h_9))) (tr_z hi2.1 gJ12 (by first | exact (by rw [if_pos (by omega), h67.2]) | exact (by rw [if_neg (by omega), h67.1])) htr) ⟨(fJ12 6 (by decide)).trans h67.1, (fJ12 7 (by decide)).trans h67.2⟩ (t1_s hi2.1 gJ12 h1c)
                    refine Z.pick [0, 1, 3, 4] rfl ?_
                    exact key_173 _ _ _ (Nat.lt_succ_self _) (by omega) (fun j_ h_1 h_6 h_7 h_8 h_9 => (hM j_ h_1 h_6 h_7 h_8 h_9)) (fun q a b => by omega) ⟨rfl, rfl⟩ (fun q _ _ => by rw [h1])
                  refine Z.iload hX dX7_tell_117 rfl ?_
                  refine Z.istore (lv' := [(7, .int (zI d)), (6, .int (zI fi)), (5, .int (zI d)), (3, .long y), (1, .int (zI 1)), (0, .ref (h 0))]) hX dX7_tell_119 (by decide) rfl ?_
                  have key_121 : ∀ (N : Nat), ∀ (k : Int) (Mk : Nat → Nat → Int64), k.toNat < N → (hk : 1 ≤ k ∧ k ≤ d) → (hM : ∀ k, k ≠ 1 → k ≠ 6 → k ≠ 7 → k ≠ 8 → k ≠ 9 → Mk k = J k) → (h6 : Mk 6 = Mv 6) → (h1 : Mk 1 = J 1) → Z p l e { frames := 3, cells := 0, slots := 0, locals := 93 } s m args below meth c D A 9 0 0 Q 121 [(7, .int (zI k)), (6, .int (zI fi)), (5, .int (zI d)), (1, .int (zI 1)), (0, .ref (h 0))] [] (rW ce h F I Mk) := by
                    intro N
                    induction N with
                    | zero => intro k Mk hm; exact absurd hm (Nat.not_lt_zero _)
                    | succ N ih_121 =>
                      intro k Mk hm hk hM h6 h1
                      refine Z.iload hX dX7_tell_121 rfl ?_
                      refine Z.iconst hX dX7_tell_123 ?_
                      refine Z.icmp_le hX 144 dX7_tell_124 (by decide) ⟨by omega, by omega⟩ ⟨by omega, by omega⟩ ?_ ?_
                      · intro c13
                        refine Z.pick [0, 2, 3, 4] rfl ?_
                        exact key_144 _ _ (by omega) (fun j_ h_1 h_6 h_7 h_8 h_9 => (hM j_ h_1 h_6 h_7 h_8 h_9)) h6 (Or.inl (by omega)) h1
                      · intro c13
                        refine Z.aload_n hX dX7_tell_127 rfl rfl ?_
                        refine Z.iload hX dX7_tell_128 rfl ?_
                        refine Z.iload hX dX7_tell_130 rfl ?_
                        refine Z.callVfi (As := [.int (zI k), .int (zI fi)]) (rest := []) hX 7 0 rfl rfl (ct_X7_isPower_z l D ce h F I Mk k fi (by omega) (by omega) (by omega)) mc_X7_isPower ml_X7_111 im_X7_isPower se_X7_isPower ini_X7 nd_X7_isPower ⟨Nat.le_of_ble_eq_true rfl, Nat.le_of_ble_eq_true rfl⟩ ⟨rfl, rfl⟩ ⟨Nat.le_refl _, Nat.le_refl _⟩ rfl (Nat.le_of_ble_eq_true rfl) dX7_tell_132 ?_
                        rintro r_14 w1 ⟨zp, Jp, hr_, hw_, hp1, hp2, hp3⟩
                        subst hr_
                        subst hw_
                        refine Z.if_ne hX 144 dX7_tell_135 (by decide) ⟨by omega, by omega⟩ ?_ ?_
                        · intro c15
                          refine Z.pick [0, 2, 3, 4] rfl ?_
                          exact key_144 _ _ (by omega) (fun j_ h_1 h_6 h_7 h_8 h_9 => ((hp2 j_ h_7 h_8 h_9).trans (hM j_ h_1 h_6 h_7 h_8 h_9))) ((hp2 6 (by decide) (by decide) (by decide)).trans h6) (Or.inr ⟨by omega, by have hp4 := hp3 (by omega); rw [h6] at hp4; exact hp4⟩) ((hp2 1 (by decide) (by decide) (by decide)).trans h1)
                        · intro c15
                          refine Z.iinc (lv' := [(7, .int (zI (k + -1))), (6, .int (zI fi)), (5, .int (zI d)), (1, .int (zI 1)), (0, .ref (h 0))]) hX dX7_tell_138 rfl (by decide) rfl ?_
                          refine Z.goto hX 121 dX7_tell_141 (by decide) ?_
                          refine Z.pick [0, 1, 2, 3, 4] rfl ?_
                          exact ih_121 _ _ (by omega) (by omega) (fun j_ h_1 h_6 h_7 h_8 h_9 => ((hp2 j_ h_7 h_8 h_9).trans (hM j_ h_1 h_6 h_7 h_8 h_9))) ((hp2 6 (by decide) (by decide) (by decide)).trans h6) ((hp2 1 (by decide) (by decide) (by decide)).trans h1)
                  refine Z.pick [0, 1, 2, 4, 5] rfl ?_
                  exact key_121 _ _ _ (Nat.lt_succ_self _) (by omega) (fun j_ h_1 h_6 h_7 h_8 h_9 => (hM j_ h_1 h_6 h_7 h_8 h_9)) rfl h1
                · intro c5
                  refine Z.aload_n hX dX7_tell_100 rfl rfl ?_
                  refine Z.getf hX 7 0 13 dX7_tell_101 rfl rfl inX7 (by decide) fl_X7_42 rfl rfl ?_
                  refine Z.iload hX dX7_tell_104 rfl ?_
                  refine Z.dup2 hX dX7_tell_106 rfl rfl ?_
                  refine Z.laload hX 11 1 dX7_tell_107 rfl rfl (by omega) (by omega) (by decide) ?_
                  refine Z.lload_n hX dX7_tell_108 rfl rfl ?_
                  refine Z.ldiv hX dX7_tell_109 hy0 ?_
                  refine Z.lastore hX 11 1 dX7_tell_110 rfl rfl (by omega) (by omega) (by decide) ?_
                  obtain ⟨J16, eJ16⟩ : ∃ J' : Nat → Nat → Int64, J' = va_up Mv 6 (vp_updL (Mv 6) (iv : Int).toNat ((Mv 6 (iv : Int).toNat) / y)) := ⟨_, rfl⟩
                  refine Z.toW (w' := rW ce h F I J16) (by rw [eJ16]; rfl) ?_
                  have gJ16 : J16 6 = vp_updL (Mv 6) (iv : Int).toNat ((Mv 6 (iv : Int).toNat) / y) := by rw [eJ16]; exact up_eq
                  have fJ16 : ∀ j_, j_ ≠ 6 → J16 j_ = Mv j_ := fun j_ hj_ => by rw [eJ16]; exact up_ne hj_
                  refine Z.iinc (lv' := [(7, .int (zI (iv + 1))), (6, .int (zI fi)), (5, .int (zI d)), (3, .long y), (1, .int (zI 1)), (0, .ref (h 0))]) hX dX7_tell_111 rfl (by decide) rfl ?_
                  refine Z.goto hX 93 dX7_tell_114 (by decide) ?_
                  refine Z.pick [0, 1, 2, 3, 4, 5] rfl ?_
                  exact ih_93 _ _ (by omega) (by omega) (fun j_ h_1 h_6 h_7 h_8 h_9 => ((fJ16 j_ h_6).trans (hM j_ h_1 h_6 h_7 h_8 h_9))) (dv_s hiv.1 (by omega) gJ16 hdv) ((fJ16 1 (by decide)).trans h1)
            refine Z.pick [0, 2, 3, 1, 4, 5] rfl ?_
            exact key_93 _ _ _ (Nat.lt_succ_self _) (by omega) (fun j_ h_1 h_6 h_7 h_8 h_9 => (hM j_ h_1 h_6 h_7 h_8 h_9)) (fun q a b => (if_neg (by omega)).symm) h1
          refine Z.aload_n hX dX7_tell_71 rfl rfl ?_
          refine Z.getf hX 7 0 13 dX7_tell_72 rfl rfl inX7 (by decide) fl_X7_42 rfl rfl ?_
          refine Z.iload hX dX7_tell_75 rfl ?_
          refine Z.laload hX 11 1 dX7_tell_77 rfl rfl (by omega) (by omega) (by decide) ?_
          refine Z.lconst (v := 0) hX dX7_tell_78 rfl ?_
          refine Z.lcmp_ge hX 88 dX7_tell_79 dX7_tell_80 (by decide) ?_ ?_
          · intro c17
            refine Z.lload_n hX dX7_tell_88 rfl rfl ?_
            refine Z.pick [0, 1, 4, 5] rfl ?_
            exact key_89 _ hx0 (Or.inl rfl)
          · intro c17
            refine Z.lload_n hX dX7_tell_83 rfl rfl ?_
            refine Z.lneg hX dX7_tell_84 ?_
            refine Z.goto hX 89 dX7_tell_85 (by decide) ?_
            refine Z.pick [0, 1, 4, 5] rfl ?_
            exact key_89 _ (tl_n hx0) (Or.inr rfl)
        · intro c3
          exact hR _ _ _ dX7_tell_61 ⟨I, M, rfl, (fun j_ h_1 h_6 h_7 h_8 h_9 => (hM j_ h_1 h_6 h_7 h_8 h_9)), (fun j_ h_1 h_2 h_3 => rfl), hdg, (fun _ => rfl), (fun hq => by obtain ⟨q, q1, q2, q3⟩ := hq; exact absurd ((hw49 q (by omega) q2).symm.trans (te_0 (by omega) d3 q q1 q2)) q3), (fun q _ _ => by rw [h1]), ⟨rfl, rfl⟩⟩
      · intro c1
        refine Z.aload_n hX dX7_tell_12 rfl rfl ?_
        refine Z.getf hX 7 0 13 dX7_tell_13 rfl rfl inX7 (by decide) fl_X7_42 rfl rfl ?_
        refine Z.iload hX dX7_tell_16 rfl ?_
        refine Z.aload_n hX dX7_tell_18 rfl rfl ?_
        refine Z.getf hX 7 0 12 dX7_tell_19 rfl rfl inX7 (by decide) fl_X7_39 rfl rfl ?_
        refine Z.iload_n hX dX7_tell_22 rfl rfl ?_
        refine Z.iload hX dX7_tell_23 rfl ?_
        refine Z.iadd hX dX7_tell_25 ?_
        refine Z.laload hX 10 1 dX7_tell_26 rfl rfl (by omega) (by omega) (by decide) ?_
        refine Z.lastore hX 11 1 dX7_tell_27 rfl rfl (by omega) (by omega) (by decide) ?_
        obtain ⟨J18, eJ18⟩ : ∃ J' : Nat → Nat → Int64, J' = va_up M 6 (vp_updL (M 6) (i : Int).toNat (M 5 (fr + i : Int).toNat)) := ⟨_, rfl⟩
        refine Z.toW (w' := rW ce h F I J18) (by rw [eJ18]; rfl) ?_
        have gJ18 : J18 6 = vp_updL (M 6) (i : Int).toNat (M 5 (fr + i : Int).toNat) := by rw [eJ18]; exact up_eq
        have fJ18 : ∀ j_, j_ ≠ 6 → J18 j_ = M j_ := fun j_ hj_ => by rw [eJ18]; exact up_ne hj_
        refine Z.lload_n hX dX7_tell_28 rfl rfl ?_
        refine Z.aload_n hX dX7_tell_29 rfl rfl ?_
        refine Z.getf hX 7 0 13 dX7_tell_30 rfl rfl inX7 (by decide) fl_X7_42 rfl rfl ?_
        refine Z.iload hX dX7_tell_33 rfl ?_
        refine Z.laload hX 11 1 dX7_tell_35 rfl rfl (by omega) (by omega) (by decide) ?_
        refine Z.callS0l (As := [.long x, .long (J18 6 (i : Int).toNat)]) (rest := []) hX (ct_X7_common_x l D ce x (J18 6 (i : Int).toNat) ) mc_X7_common ml_X7_58 st_X7_common ini_X7 nd_X7_common ⟨Nat.le_of_ble_eq_true rfl, Nat.le_of_ble_eq_true rfl⟩ ⟨rfl, rfl⟩ ⟨Nat.le_refl _, Nat.le_refl _⟩ rfl (Nat.le_of_ble_eq_true rfl) dX7_tell_36 ?_
        rintro cg w1 ⟨r020, hr_, hw_, hcg⟩
        subst hr_
        refine ⟨hw_, ?_⟩
        refine Z.lstore_n (lv' := [(3, .long cg), (5, .int (zI i)), (2, .int (zI fr)), (1, .int (zI 1)), (0, .ref (h 0))]) hX dX7_tell_39 rfl (by decide) rfl ?_
        refine Z.iinc (lv' := [(5, .int (zI (i + 1))), (3, .long cg), (2, .int (zI fr)), (1, .int (zI 1)), (0, .ref (h 0))]) hX dX7_tell_40 rfl (by decide) rfl ?_
        refine Z.goto hX 5 dX7_tell_43 (by decide) ?_
        refine Z.pick [0, 1, 2, 3, 4] rfl ?_
        exact ih_5 _ _ _ (by omega) (by omega) (cgr_u hi.1 gJ18 hx hcg) (wc_s (M := J 5) hi.1 (by rw [← hM 5 (by decide) (by decide) (by decide) (by decide) (by decide)]; exact gJ18) hw) (fun j_ h_1 h_6 h_7 h_8 h_9 => ((fJ18 j_ h_6).trans (hM j_ h_1 h_6 h_7 h_8 h_9))) ((fJ18 1 (by decide)).trans h1)
  refine Z.pick [0, 1, 4, 3, 2] rfl ?_
  exact key_5 _ _ _ _ (Nat.lt_succ_self _) (by omega) rfl (fun q a b => by omega) (fun j_ h_1 h_6 h_7 h_8 h_9 => rfl) rfl

