theorem law_end {p : Program} {e : Env} {s : State} {m : MethodId} {below : List Frame} {meth : Method} {c : Code} {l : Launch} {b L0 : Nat} {xs : Nat → Int32} {cells slots : Nat} {D : va_G} {lv : List (Nat × Value)} {w : va_W} {pc : Nat} (C0 : lw_At p s m meth c b L0 xs) (hd : decode code pc = .ok (.ireturn, 1)) (hc : cells ≤ 600000 := by decide) (hs : slots ≤ 7302250 := by decide) : Z p l e room_1 s m #[Value.ref b] below meth c D (fun q : Nat => s.heap.size ≤ q) 4 cells slots (lw_Z below #[Value.ref b] s) pc lv [.int (zI 1)] w := by
  intro H locs ls hP hD hS hv
  obtain ⟨hx, hb, hr, hml, hown, hts, hXs, hbl, hlocks, hgv⟩ := id C0
  refine va_forget (fun q hq => hS.2.2 q hq) ?_
  refine W.widen hc hs ?_
  exact lw_ret hx hb hr hlocks hd
set_option maxHeartbeats 4000000 in
set_option maxRecDepth 100000 in
theorem law_loop {p : Program} {e : Env} {s : State} {m : MethodId} {below : List Frame} {meth : Method} {c : Code} (l : Launch) {b L0 : Nat} {xs : Nat → Int32} {D : va_G} {ce : Nat → ClassId} {h pl ar hm : Nat → Nat} (hL : L0 ≤ 3072) (C0 : lw_At p s m meth c b L0 xs) (hX : Zf p m c code 4 s #[Value.ref b] R_law D (TY ce) (fun q : Nat => s.heap.size ≤ q)) : ∀ (n : Nat) (i : Int) (G : Nat → Int) (L : Nat → Nat → Int64) (B : Nat → Int) (J : Nat → Nat → Int64) (F : Nat → Int) (I : Nat → Nat → Int32) (K : Nat → Nat → Int64), (L0 + 1 - i).toNat < n → (0 ≤ i ∧ i ≤ L0 + 6) → cOK G B → rOK F I → rel L (I 0) → FI G L → RI F (I 0) (K 0) → LI G L → TI F I K → LIe G L → TIe F I K → LIw G L B J → LIx G L B J → TIw F I K → Z p l e room_1 s m #[Value.ref b] below meth c D (fun q : Nat => s.heap.size ≤ q) 4 123 14479 (lw_Z below #[Value.ref b] s) 18 [(3, .int (zI i)), (1, .ref (h 0)), (2, .ref (hm 0)), (0, .ref b)] [] (cW ce h pl ar G L B J ++ rW ce hm F I K) := by
  obtain ⟨hx0, hb0, hr0, hml0, hown0, hts0, hXs, hbl, hlocks0, hgv0⟩ := id C0
  have hbA : ¬ (fun q : Nat => s.heap.size ≤ q) b := Nat.not_le.mpr hbl
  intro n
  induction n with
  | zero => intro i G L B J F I K hm0; exact absurd hm0 (Nat.not_lt_zero _)
  | succ n ih =>
    intro i G L B J F I K hm0 hi0 hok hokr hrel hfi hri hli hti hle hte hlw hlx htw
    refine Z.iload_n hX dL_law_18 rfl rfl ?_
    refine Z.aload_n hX dL_law_19 rfl rfl ?_
    refine Z.slen hX hXs hbl hbA dL_law_20 ?_
    refine Z.bipush hX dL_law_21 (by decide) ?_
    refine Z.isub hX dL_law_23 ?_
    refine Z.icmp_gt hX 529 dL_law_24 (by decide) ⟨by omega, by omega⟩ ⟨by omega, by omega⟩ ?_ ?_
    · intro hc
      refine Z.iconst hX dL_law_529 ?_
      exact law_end C0 dL_law_530
    · intro hc
      obtain ⟨z0, a0, b0, e0⟩ := zI_ex (xs (i : Int).toNat)
      refine Z.aload_n hX dL_law_27 rfl rfl ?_
      refine Z.iload_n hX dL_law_28 rfl rfl ?_
      refine Z.sld hX hXs hbl hbA dL_law_29 (by omega) (by omega) (by omega) e0 ?_
      refine Z.bipush hX dL_law_30 (by decide) ?_
      refine Z.iand hX dL_law_32 ?_
      generalize zI z0 &&& zI 15 = sw
      by_cases s0 : sw.toInt = 0
      · refine Z.tsIn hX 96 dL_law_33 (by omega) (by omega) (by rw [s0]; rfl) (by decide) ?_
        obtain ⟨z1, a1, b1, e1⟩ := zI_ex (xs (i + 1).toNat)
        obtain ⟨z2, a2, b2, e2⟩ := zI_ex (xs (i + 2).toNat)
        obtain ⟨z3, a3, b3, e3⟩ := zI_ex (xs (i + 3).toNat)
        refine Z.aload_n hX dL_law_96 rfl rfl ?_
        refine Z.aload_n hX dL_law_97 rfl rfl ?_
        refine Z.iload_n hX dL_law_98 rfl rfl ?_
        refine Z.iconst hX dL_law_99 ?_
        refine Z.iadd hX dL_law_100 ?_
        refine Z.sld hX hXs hbl hbA dL_law_101 (by omega) (by omega) (by omega) e1 ?_
        refine Z.aload_n hX dL_law_102 rfl rfl ?_
        refine Z.iload_n hX dL_law_103 rfl rfl ?_
        refine Z.iconst hX dL_law_104 ?_
        refine Z.iadd hX dL_law_105 ?_
        refine Z.sld hX hXs hbl hbA dL_law_106 (by omega) (by omega) (by omega) e2 ?_
        refine Z.aload_n hX dL_law_107 rfl rfl ?_
        refine Z.iload_n hX dL_law_108 rfl rfl ?_
        refine Z.iconst hX dL_law_109 ?_
        refine Z.iadd hX dL_law_110 ?_
        refine Z.sld hX hXs hbl hbA dL_law_111 (by omega) (by omega) (by omega) e3 ?_
        refine Z.callPi (As := [.int (zI z1), .int (zI z2), .int (zI z3)]) (rest := []) (wc := (cW ce h pl ar G L B J)) (wr := (rW ce hm F I K)) hX 6 rfl rfl (ct_X6_term_w l D ce h pl ar G L B J z1 z2 z3 hok (rel_bL hrel) hfi ⟨a1, b1⟩ ⟨a2, b2⟩ ⟨a3, b3⟩ hli hle hlw hlx) mc_X6_term ml_L_13 im_X6_term se_X6_term ini_X6 nd_X6_term ⟨Nat.le_of_ble_eq_true rfl, Nat.le_of_ble_eq_true rfl⟩ ⟨rfl, rfl⟩ ⟨Nat.le_of_ble_eq_true rfl, Nat.le_of_ble_eq_true rfl⟩ rfl (Nat.le_of_ble_eq_true rfl) dL_law_112 ?_
        rintro r1 w1 ⟨x1, G2, L2, B2, J2, hr1, hw_, hok2, c0, c1, hfi2, hli2, hle2, hlw2, hlx2⟩
        subst hw_
        subst hr1
        refine Z.aload_n hX dL_law_115 rfl rfl ?_
        refine Z.aload_n hX dL_law_116 rfl rfl ?_
        refine Z.iload_n hX dL_law_117 rfl rfl ?_
        refine Z.iconst hX dL_law_118 ?_
        refine Z.iadd hX dL_law_119 ?_
        refine Z.sld hX hXs hbl hbA dL_law_120 (by omega) (by omega) (by omega) e1 ?_
        refine Z.aload_n hX dL_law_121 rfl rfl ?_
        refine Z.iload_n hX dL_law_122 rfl rfl ?_
        refine Z.iconst hX dL_law_123 ?_
        refine Z.iadd hX dL_law_124 ?_
        refine Z.sld hX hXs hbl hbA dL_law_125 (by omega) (by omega) (by omega) e2 ?_
        refine Z.aload_n hX dL_law_126 rfl rfl ?_
        refine Z.iload_n hX dL_law_127 rfl rfl ?_
        refine Z.iconst hX dL_law_128 ?_
        refine Z.iadd hX dL_law_129 ?_
        refine Z.sld hX hXs hbl hbA dL_law_130 (by omega) (by omega) (by omega) e3 ?_
        refine Z.callPi (As := [.int (zI z1), .int (zI z2), .int (zI z3)]) (rest := [.int (zI x1)]) (wc := (rW ce hm F I K)) (wr := (cW ce h pl ar G2 L2 B2 J2)) hX 7 rfl rfl (ct_X7_term_w l D ce hm F I K z1 z2 z3 hokr hrel.2 hri hti hte htw ⟨a1, b1⟩ ⟨a2, b2⟩ ⟨a3, b3⟩) mc_X7_term ml_L_17 im_X7_term se_X7_term ini_X7 nd_X7_term ⟨Nat.le_of_ble_eq_true rfl, Nat.le_of_ble_eq_true rfl⟩ ⟨rfl, rfl⟩ ⟨Nat.le_of_ble_eq_true rfl, Nat.le_of_ble_eq_true rfl⟩ rfl (Nat.le_of_ble_eq_true rfl) dL_law_131 ?_
        rintro r2 w2 ⟨x2, F2, I2, K2, hr2, hw_, hok3, m0, m1, hri2, hti2, hte2, htw2⟩
        subst hw_
        subst hr2
        refine Z.jeq hX 523 dL_law_134 (by decide) (term_rel hrel c0 c1 m0 m1).1 ?_
        refine Z.iinc (lv' := [(3, .int (zI (i + 6))), (1, .ref (h 0)), (2, .ref (hm 0)), (0, .ref b)]) hX dL_law_523 rfl (by decide) rfl ?_
        refine Z.goto hX 18 dL_law_526 (by decide) ?_
        exact Z.pick [0, 1, 2, 3] rfl (ih (i + 6) _ _ _ _ _ _ _ (by omega) (by omega) hok2 hok3 (term_rel hrel c0 c1 m0 m1).2 hfi2 hri2 hli2 hti2 hle2 hte2 hlw2 hlx2 htw2)
      by_cases s1 : sw.toInt = 1
      · refine Z.tsIn hX 139 dL_law_33 (by omega) (by omega) (by rw [s1]; rfl) (by decide) ?_
        refine Z.aload_n hX dL_law_139 rfl rfl ?_
        refine Z.callPi (As := []) (rest := []) (wc := (cW ce h pl ar G L B J)) (wr := (rW ce hm F I K)) hX 6 rfl rfl (ct_X6_clear_w l D ce h pl ar G L B J  hok (rel_bL hrel) hfi  hli hle hlw hlx) mc_X6_clear ml_L_18 im_X6_clear se_X6_clear ini_X6 nd_X6_clear ⟨Nat.le_of_ble_eq_true rfl, Nat.le_of_ble_eq_true rfl⟩ ⟨rfl, rfl⟩ ⟨Nat.le_of_ble_eq_true rfl, Nat.le_of_ble_eq_true rfl⟩ rfl (Nat.le_of_ble_eq_true rfl) dL_law_140 ?_
        rintro r1 w1 ⟨x1, G2, L2, B2, J2, hr1, hw_, hok2, c0, c1, hfi2, hli2, hle2, hlw2, hlx2⟩
        subst hw_
        subst hr1
        refine Z.aload_n hX dL_law_143 rfl rfl ?_
        refine Z.callPi (As := []) (rest := [.int (zI x1)]) (wc := (rW ce hm F I K)) (wr := (cW ce h pl ar G2 L2 B2 J2)) hX 7 rfl rfl (ct_X7_clear_w l D ce hm F I K  hokr hrel.2 hri hti hte htw ) mc_X7_clear ml_L_22 im_X7_clear se_X7_clear ini_X7 nd_X7_clear ⟨Nat.le_of_ble_eq_true rfl, Nat.le_of_ble_eq_true rfl⟩ ⟨rfl, rfl⟩ ⟨Nat.le_of_ble_eq_true rfl, Nat.le_of_ble_eq_true rfl⟩ rfl (Nat.le_of_ble_eq_true rfl) dL_law_144 ?_
        rintro r2 w2 ⟨x2, F2, I2, K2, hr2, hw_, hok3, m0, m1, hri2, hti2, hte2, htw2⟩
        subst hw_
        subst hr2
        refine Z.jeq hX 523 dL_law_147 (by decide) (by rw [c0, m0, cnt_eq hrel 15 (Nat.le_refl _)]) ?_
        refine Z.iinc (lv' := [(3, .int (zI (i + 6))), (1, .ref (h 0)), (2, .ref (hm 0)), (0, .ref b)]) hX dL_law_523 rfl (by decide) rfl ?_
        refine Z.goto hX 18 dL_law_526 (by decide) ?_
        exact Z.pick [0, 1, 2, 3] rfl (ih (i + 6) _ _ _ _ _ _ _ (by omega) (by omega) hok2 hok3 (rel_zero c1 m1) hfi2 hri2 hli2 hti2 hle2 hte2 hlw2 hlx2 htw2)
      by_cases s2 : sw.toInt = 2
      · refine Z.tsIn hX 152 dL_law_33 (by omega) (by omega) (by rw [s2]; rfl) (by decide) ?_
        obtain ⟨z1, a1, b1, e1⟩ := zI_ex (xs (i + 1).toNat)
        refine Z.aload_n hX dL_law_152 rfl rfl ?_
        refine Z.aload_n hX dL_law_153 rfl rfl ?_
        refine Z.iload_n hX dL_law_154 rfl rfl ?_
        refine Z.iconst hX dL_law_155 ?_
        refine Z.iadd hX dL_law_156 ?_
        refine Z.sld hX hXs hbl hbA dL_law_157 (by omega) (by omega) (by omega) e1 ?_
        refine Z.callPi (As := [.int (zI z1)]) (rest := []) (wc := (cW ce h pl ar G L B J)) (wr := (rW ce hm F I K)) hX 6 rfl rfl (ct_X6_degree_w l D ce h pl ar G L B J z1 hok (rel_bL hrel) hfi ⟨a1, b1⟩ hli hle hlw hlx) mc_X6_degree ml_L_23 im_X6_degree se_X6_degree ini_X6 nd_X6_degree ⟨Nat.le_of_ble_eq_true rfl, Nat.le_of_ble_eq_true rfl⟩ ⟨rfl, rfl⟩ ⟨Nat.le_of_ble_eq_true rfl, Nat.le_of_ble_eq_true rfl⟩ rfl (Nat.le_of_ble_eq_true rfl) dL_law_158 ?_
        rintro r1 w1 ⟨x1, G2, L2, B2, J2, hr1, hw_, hok2, hPR, c0, c1, hfi2, c2, hli2, hle2, hlw2, hlx2⟩
        subst hw_
        subst hr1
        refine Z.aload_n hX dL_law_161 rfl rfl ?_
        refine Z.aload_n hX dL_law_162 rfl rfl ?_
        refine Z.iload_n hX dL_law_163 rfl rfl ?_
        refine Z.iconst hX dL_law_164 ?_
        refine Z.iadd hX dL_law_165 ?_
        refine Z.sld hX hXs hbl hbA dL_law_166 (by omega) (by omega) (by omega) e1 ?_
        refine Z.callPi (As := [.int (zI z1)]) (rest := [.int (zI x1)]) (wc := (rW ce hm F I K)) (wr := (cW ce h pl ar G2 L2 B2 J2)) hX 7 rfl rfl (ct_X7_degree_w l D ce hm F I K z1 hokr hrel.2 hri hti hte htw ⟨a1, b1⟩) mc_X7_degree ml_L_27 im_X7_degree se_X7_degree ini_X7 nd_X7_degree ⟨Nat.le_of_ble_eq_true rfl, Nat.le_of_ble_eq_true rfl⟩ ⟨rfl, rfl⟩ ⟨Nat.le_of_ble_eq_true rfl, Nat.le_of_ble_eq_true rfl⟩ rfl (Nat.le_of_ble_eq_true rfl) dL_law_167 ?_
        rintro r2 w2 ⟨x2, F2, I2, K2, hr2, hw_, hok3, hI, m0, m1, hri2, hti2, hte2, htw2, m2, m3⟩
        subst hw_
        subst hr2
        refine Z.jeq hX 523 dL_law_170 (by decide) (degree_rel hrel c0 c1 c2 m0 m1 m2 m3) ?_
        refine Z.iinc (lv' := [(3, .int (zI (i + 6))), (1, .ref (h 0)), (2, .ref (hm 0)), (0, .ref b)]) hX dL_law_523 rfl (by decide) rfl ?_
        refine Z.goto hX 18 dL_law_526 (by decide) ?_
        exact Z.pick [0, 1, 2, 3] rfl (ih (i + 6) _ _ _ _ _ _ _ (by omega) (by omega) hok2 hok3 (rel_same hrel hPR hI) hfi2 hri2 hli2 hti2 hle2 hte2 hlw2 hlx2 htw2)
      by_cases s3 : sw.toInt = 3
      · refine Z.tsIn hX 175 dL_law_33 (by omega) (by omega) (by rw [s3]; rfl) (by decide) ?_
        obtain ⟨z1, a1, b1, e1⟩ := zI_ex (xs (i + 1).toNat)
        obtain ⟨z2, a2, b2, e2⟩ := zI_ex (xs (i + 2).toNat)
        refine Z.aload_n hX dL_law_175 rfl rfl ?_
        refine Z.aload_n hX dL_law_176 rfl rfl ?_
        refine Z.iload_n hX dL_law_177 rfl rfl ?_
        refine Z.iconst hX dL_law_178 ?_
        refine Z.iadd hX dL_law_179 ?_
        refine Z.sld hX hXs hbl hbA dL_law_180 (by omega) (by omega) (by omega) e1 ?_
        refine Z.aload_n hX dL_law_181 rfl rfl ?_
        refine Z.iload_n hX dL_law_182 rfl rfl ?_
        refine Z.iconst hX dL_law_183 ?_
        refine Z.iadd hX dL_law_184 ?_
        refine Z.sld hX hXs hbl hbA dL_law_185 (by omega) (by omega) (by omega) e2 ?_
        refine Z.callPi (As := [.int (zI z1), .int (zI z2)]) (rest := []) (wc := (cW ce h pl ar G L B J)) (wr := (rW ce hm F I K)) hX 6 rfl rfl (ct_X6_freed_w l D ce h pl ar G L B J z1 z2 hok (rel_bL hrel) hfi ⟨a1, b1⟩ ⟨a2, b2⟩ hli hle hlw hlx) mc_X6_freed ml_L_28 im_X6_freed se_X6_freed ini_X6 nd_X6_freed ⟨Nat.le_of_ble_eq_true rfl, Nat.le_of_ble_eq_true rfl⟩ ⟨rfl, rfl⟩ ⟨Nat.le_of_ble_eq_true rfl, Nat.le_of_ble_eq_true rfl⟩ rfl (Nat.le_of_ble_eq_true rfl) dL_law_186 ?_
        rintro r1 w1 ⟨x1, G2, L2, B2, J2, hr1, hw_, hok2, hPR, c0, hfi2, c1, hli2, hle2, hlw2, hlx2⟩
        subst hw_
        subst hr1
        refine Z.aload_n hX dL_law_189 rfl rfl ?_
        refine Z.aload_n hX dL_law_190 rfl rfl ?_
        refine Z.iload_n hX dL_law_191 rfl rfl ?_
        refine Z.iconst hX dL_law_192 ?_
        refine Z.iadd hX dL_law_193 ?_
        refine Z.sld hX hXs hbl hbA dL_law_194 (by omega) (by omega) (by omega) e1 ?_
        refine Z.aload_n hX dL_law_195 rfl rfl ?_
        refine Z.iload_n hX dL_law_196 rfl rfl ?_
        refine Z.iconst hX dL_law_197 ?_
        refine Z.iadd hX dL_law_198 ?_
        refine Z.sld hX hXs hbl hbA dL_law_199 (by omega) (by omega) (by omega) e2 ?_
        refine Z.callPi (As := [.int (zI z1), .int (zI z2)]) (rest := [.int (zI x1)]) (wc := (rW ce hm F I K)) (wr := (cW ce h pl ar G2 L2 B2 J2)) hX 7 rfl rfl (ct_X7_freed_w l D ce hm F I K z1 z2 hokr hrel.2 hri hti hte htw ⟨a1, b1⟩ ⟨a2, b2⟩) mc_X7_freed ml_L_32 im_X7_freed se_X7_freed ini_X7 nd_X7_freed ⟨Nat.le_of_ble_eq_true rfl, Nat.le_of_ble_eq_true rfl⟩ ⟨rfl, rfl⟩ ⟨Nat.le_of_ble_eq_true rfl, Nat.le_of_ble_eq_true rfl⟩ rfl (Nat.le_of_ble_eq_true rfl) dL_law_200 ?_
        rintro r2 w2 ⟨x2, F2, I2, K2, hr2, hw_, hok3, hI, m0, hri2, hti2, hte2, htw2, m1⟩
        subst hw_
        subst hr2
        refine Z.jeq hX 523 dL_law_203 (by decide) (freed_rel hrel c0 c1 m0 m1) ?_
        refine Z.iinc (lv' := [(3, .int (zI (i + 6))), (1, .ref (h 0)), (2, .ref (hm 0)), (0, .ref b)]) hX dL_law_523 rfl (by decide) rfl ?_
        refine Z.goto hX 18 dL_law_526 (by decide) ?_
        exact Z.pick [0, 1, 2, 3] rfl (ih (i + 6) _ _ _ _ _ _ _ (by omega) (by omega) hok2 hok3 (rel_same hrel hPR hI) hfi2 hri2 hli2 hti2 hle2 hte2 hlw2 hlx2 htw2)
      by_cases s4 : sw.toInt = 4
      · refine Z.tsIn hX 208 dL_law_33 (by omega) (by omega) (by rw [s4]; rfl) (by decide) ?_
        obtain ⟨z1, a1, b1, e1⟩ := zI_ex (xs (i + 1).toNat)
        obtain ⟨z2, a2, b2, e2⟩ := zI_ex (xs (i + 2).toNat)
        obtain ⟨z3, a3, b3, e3⟩ := zI_ex (xs (i + 3).toNat)
        refine Z.aload_n hX dL_law_208 rfl rfl ?_
        refine Z.aload_n hX dL_law_209 rfl rfl ?_
        refine Z.iload_n hX dL_law_210 rfl rfl ?_
        refine Z.iconst hX dL_law_211 ?_
        refine Z.iadd hX dL_law_212 ?_
        refine Z.sld hX hXs hbl hbA dL_law_213 (by omega) (by omega) (by omega) e1 ?_
        refine Z.aload_n hX dL_law_214 rfl rfl ?_
        refine Z.iload_n hX dL_law_215 rfl rfl ?_
        refine Z.iconst hX dL_law_216 ?_
        refine Z.iadd hX dL_law_217 ?_
        refine Z.sld hX hXs hbl hbA dL_law_218 (by omega) (by omega) (by omega) e2 ?_
        refine Z.aload_n hX dL_law_219 rfl rfl ?_
        refine Z.iload_n hX dL_law_220 rfl rfl ?_
        refine Z.iconst hX dL_law_221 ?_
        refine Z.iadd hX dL_law_222 ?_
        refine Z.sld hX hXs hbl hbA dL_law_223 (by omega) (by omega) (by omega) e3 ?_
        refine Z.callPi (As := [.int (zI z1), .int (zI z2), .int (zI z3)]) (rest := []) (wc := (cW ce h pl ar G L B J)) (wr := (rW ce hm F I K)) hX 6 rfl rfl (ct_X6_value_w l D ce h pl ar G L B J z1 z2 z3 hok (rel_bL hrel) hfi ⟨a1, b1⟩ ⟨a2, b2⟩ ⟨a3, b3⟩ hli hle hlw hlx) mc_X6_value ml_L_33 im_X6_value se_X6_value ini_X6 nd_X6_value ⟨Nat.le_of_ble_eq_true rfl, Nat.le_of_ble_eq_true rfl⟩ ⟨rfl, rfl⟩ ⟨Nat.le_of_ble_eq_true rfl, Nat.le_of_ble_eq_true rfl⟩ rfl (Nat.le_of_ble_eq_true rfl) dL_law_224 ?_
        rintro r1 w1 ⟨x1, G2, L2, B2, J2, hr1, hw_, hok2, hPR, c0, c1, hfi2, hli2, hle2, hlw2, hlx2⟩
        subst hw_
        subst hr1
        refine Z.aload_n hX dL_law_227 rfl rfl ?_
        refine Z.aload_n hX dL_law_228 rfl rfl ?_
        refine Z.iload_n hX dL_law_229 rfl rfl ?_
        refine Z.iconst hX dL_law_230 ?_
        refine Z.iadd hX dL_law_231 ?_
        refine Z.sld hX hXs hbl hbA dL_law_232 (by omega) (by omega) (by omega) e1 ?_
        refine Z.aload_n hX dL_law_233 rfl rfl ?_
        refine Z.iload_n hX dL_law_234 rfl rfl ?_
        refine Z.iconst hX dL_law_235 ?_
        refine Z.iadd hX dL_law_236 ?_
        refine Z.sld hX hXs hbl hbA dL_law_237 (by omega) (by omega) (by omega) e2 ?_
        refine Z.aload_n hX dL_law_238 rfl rfl ?_
        refine Z.iload_n hX dL_law_239 rfl rfl ?_
        refine Z.iconst hX dL_law_240 ?_
        refine Z.iadd hX dL_law_241 ?_
        refine Z.sld hX hXs hbl hbA dL_law_242 (by omega) (by omega) (by omega) e3 ?_
        refine Z.callPi (As := [.int (zI z1), .int (zI z2), .int (zI z3)]) (rest := [.int (zI x1)]) (wc := (rW ce hm F I K)) (wr := (cW ce h pl ar G2 L2 B2 J2)) hX 7 rfl rfl (ct_X7_value_w l D ce hm F I K z1 z2 z3 hokr hrel.2 hri hti hte htw ⟨a1, b1⟩ ⟨a2, b2⟩ ⟨a3, b3⟩) mc_X7_value ml_L_36 im_X7_value se_X7_value ini_X7 nd_X7_value ⟨Nat.le_of_ble_eq_true rfl, Nat.le_of_ble_eq_true rfl⟩ ⟨rfl, rfl⟩ ⟨Nat.le_of_ble_eq_true rfl, Nat.le_of_ble_eq_true rfl⟩ rfl (Nat.le_of_ble_eq_true rfl) dL_law_243 ?_
        rintro r2 w2 ⟨x2, F2, I2, K2, hr2, hw_, hok3, hI, m0, m1, hri2, hti2, hte2, htw2⟩
        subst hw_
        subst hr2
        refine Z.jeq hX 523 dL_law_246 (by decide) (value_rel hrel c0 c1 m0 m1) ?_
        refine Z.iinc (lv' := [(3, .int (zI (i + 6))), (1, .ref (h 0)), (2, .ref (hm 0)), (0, .ref b)]) hX dL_law_523 rfl (by decide) rfl ?_
        refine Z.goto hX 18 dL_law_526 (by decide) ?_
        exact Z.pick [0, 1, 2, 3] rfl (ih (i + 6) _ _ _ _ _ _ _ (by omega) (by omega) hok2 hok3 (rel_same hrel hPR hI) hfi2 hri2 hli2 hti2 hle2 hte2 hlw2 hlx2 htw2)
      by_cases s5 : sw.toInt = 5
      · refine Z.tsIn hX 251 dL_law_33 (by omega) (by omega) (by rw [s5]; rfl) (by decide) ?_
        obtain ⟨z1, a1, b1, e1⟩ := zI_ex (xs (i + 1).toNat)
        refine Z.aload_n hX dL_law_251 rfl rfl ?_
        refine Z.aload_n hX dL_law_252 rfl rfl ?_
        refine Z.iload_n hX dL_law_253 rfl rfl ?_
        refine Z.iconst hX dL_law_254 ?_
        refine Z.iadd hX dL_law_255 ?_
        refine Z.sld hX hXs hbl hbA dL_law_256 (by omega) (by omega) (by omega) e1 ?_
        refine Z.callPi (As := [.int (zI z1)]) (rest := []) (wc := (cW ce h pl ar G L B J)) (wr := (rW ce hm F I K)) hX 6 rfl rfl (ct_X6_trace_w l D ce h pl ar G L B J z1 hok (rel_bL hrel) hfi ⟨a1, b1⟩ hli hle hlw hlx) mc_X6_trace ml_L_37 im_X6_trace se_X6_trace ini_X6 nd_X6_trace ⟨Nat.le_of_ble_eq_true rfl, Nat.le_of_ble_eq_true rfl⟩ ⟨rfl, rfl⟩ ⟨Nat.le_of_ble_eq_true rfl, Nat.le_of_ble_eq_true rfl⟩ rfl (Nat.le_of_ble_eq_true rfl) dL_law_257 ?_
        rintro r1 w1 ⟨x1, G2, L2, B2, J2, hr1, hw_, hok2, hPR, c0, hfi2, hli2, hle2, hlw2, hlx2, c1⟩
        subst hw_
        subst hr1
        refine Z.aload_n hX dL_law_260 rfl rfl ?_
        refine Z.aload_n hX dL_law_261 rfl rfl ?_
        refine Z.iload_n hX dL_law_262 rfl rfl ?_
        refine Z.iconst hX dL_law_263 ?_
        refine Z.iadd hX dL_law_264 ?_
        refine Z.sld hX hXs hbl hbA dL_law_265 (by omega) (by omega) (by omega) e1 ?_
        refine Z.callPi (As := [.int (zI z1)]) (rest := [.int (zI x1)]) (wc := (rW ce hm F I K)) (wr := (cW ce h pl ar G2 L2 B2 J2)) hX 7 rfl rfl (ct_X7_trace_w l D ce hm F I K z1 hokr hrel.2 hri hti hte htw ⟨a1, b1⟩) mc_X7_trace ml_L_40 im_X7_trace se_X7_trace ini_X7 nd_X7_trace ⟨Nat.le_of_ble_eq_true rfl, Nat.le_of_ble_eq_true rfl⟩ ⟨rfl, rfl⟩ ⟨Nat.le_of_ble_eq_true rfl, Nat.le_of_ble_eq_true rfl⟩ rfl (Nat.le_of_ble_eq_true rfl) dL_law_266 ?_
        rintro r2 w2 ⟨x2, F2, I2, K2, hr2, hw_, hok3, hI, m0, hri2, hti2, hte2, htw2, m1⟩
        subst hw_
        subst hr2
        refine Z.jeq hX 523 dL_law_269 (by decide) (trace_rel hrel c0 c1 m0 m1) ?_
        refine Z.iinc (lv' := [(3, .int (zI (i + 6))), (1, .ref (h 0)), (2, .ref (hm 0)), (0, .ref b)]) hX dL_law_523 rfl (by decide) rfl ?_
        refine Z.goto hX 18 dL_law_526 (by decide) ?_
        exact Z.pick [0, 1, 2, 3] rfl (ih (i + 6) _ _ _ _ _ _ _ (by omega) (by omega) hok2 hok3 (rel_same hrel hPR hI) hfi2 hri2 hli2 hti2 hle2 hte2 hlw2 hlx2 htw2)
      by_cases s6 : sw.toInt = 6
      · refine Z.tsIn hX 274 dL_law_33 (by omega) (by omega) (by rw [s6]; rfl) (by decide) ?_
        obtain ⟨z1, a1, b1, e1⟩ := zI_ex (xs (i + 1).toNat)
        refine Z.aload_n hX dL_law_274 rfl rfl ?_
        refine Z.aload_n hX dL_law_275 rfl rfl ?_
        refine Z.iload_n hX dL_law_276 rfl rfl ?_
        refine Z.iconst hX dL_law_277 ?_
        refine Z.iadd hX dL_law_278 ?_
        refine Z.sld hX hXs hbl hbA dL_law_279 (by omega) (by omega) (by omega) e1 ?_
        refine Z.callPi (As := [.int (zI z1)]) (rest := []) (wc := (cW ce h pl ar G L B J)) (wr := (rW ce hm F I K)) hX 6 rfl rfl (ct_X6_times_w l D ce h pl ar G L B J z1 hok (rel_bL hrel) hfi ⟨a1, b1⟩ hli hle hlw hlx) mc_X6_times ml_L_41 im_X6_times se_X6_times ini_X6 nd_X6_times ⟨Nat.le_of_ble_eq_true rfl, Nat.le_of_ble_eq_true rfl⟩ ⟨rfl, rfl⟩ ⟨Nat.le_of_ble_eq_true rfl, Nat.le_of_ble_eq_true rfl⟩ rfl (Nat.le_of_ble_eq_true rfl) dL_law_280 ?_
        rintro r1 w1 ⟨x1, G2, L2, B2, J2, hr1, hw_, hok2, hPR, c0, hfi2, hli2, hle2, hlw2, hlx2, c1⟩
        subst hw_
        subst hr1
        refine Z.aload_n hX dL_law_283 rfl rfl ?_
        refine Z.aload_n hX dL_law_284 rfl rfl ?_
        refine Z.iload_n hX dL_law_285 rfl rfl ?_
        refine Z.iconst hX dL_law_286 ?_
        refine Z.iadd hX dL_law_287 ?_
        refine Z.sld hX hXs hbl hbA dL_law_288 (by omega) (by omega) (by omega) e1 ?_
        refine Z.callPi (As := [.int (zI z1)]) (rest := [.int (zI x1)]) (wc := (rW ce hm F I K)) (wr := (cW ce h pl ar G2 L2 B2 J2)) hX 7 rfl rfl (ct_X7_times_w l D ce hm F I K z1 hokr hrel.2 hri hti hte htw ⟨a1, b1⟩) mc_X7_times ml_L_44 im_X7_times se_X7_times ini_X7 nd_X7_times ⟨Nat.le_of_ble_eq_true rfl, Nat.le_of_ble_eq_true rfl⟩ ⟨rfl, rfl⟩ ⟨Nat.le_of_ble_eq_true rfl, Nat.le_of_ble_eq_true rfl⟩ rfl (Nat.le_of_ble_eq_true rfl) dL_law_289 ?_
        rintro r2 w2 ⟨x2, F2, I2, K2, hr2, hw_, hok3, hI, m0, hri2, hti2, hte2, htw2, m1⟩
        subst hw_
        subst hr2
        refine Z.jeq hX 523 dL_law_292 (by decide) (times_rel hrel c0 c1 m0 m1) ?_
        refine Z.iinc (lv' := [(3, .int (zI (i + 6))), (1, .ref (h 0)), (2, .ref (hm 0)), (0, .ref b)]) hX dL_law_523 rfl (by decide) rfl ?_
        refine Z.goto hX 18 dL_law_526 (by decide) ?_
        exact Z.pick [0, 1, 2, 3] rfl (ih (i + 6) _ _ _ _ _ _ _ (by omega) (by omega) hok2 hok3 (rel_same hrel hPR hI) hfi2 hri2 hli2 hti2 hle2 hte2 hlw2 hlx2 htw2)
      by_cases s7 : sw.toInt = 7
      · refine Z.tsIn hX 297 dL_law_33 (by omega) (by omega) (by rw [s7]; rfl) (by decide) ?_
        obtain ⟨z1, a1, b1, e1⟩ := zI_ex (xs (i + 1).toNat)
        obtain ⟨z2, a2, b2, e2⟩ := zI_ex (xs (i + 2).toNat)
        obtain ⟨z3, a3, b3, e3⟩ := zI_ex (xs (i + 3).toNat)
        refine Z.aload_n hX dL_law_297 rfl rfl ?_
        refine Z.aload_n hX dL_law_298 rfl rfl ?_
        refine Z.iload_n hX dL_law_299 rfl rfl ?_
        refine Z.iconst hX dL_law_300 ?_
        refine Z.iadd hX dL_law_301 ?_
        refine Z.sld hX hXs hbl hbA dL_law_302 (by omega) (by omega) (by omega) e1 ?_
        refine Z.aload_n hX dL_law_303 rfl rfl ?_
        refine Z.iload_n hX dL_law_304 rfl rfl ?_
        refine Z.iconst hX dL_law_305 ?_
        refine Z.iadd hX dL_law_306 ?_
        refine Z.sld hX hXs hbl hbA dL_law_307 (by omega) (by omega) (by omega) e2 ?_
        refine Z.aload_n hX dL_law_308 rfl rfl ?_
        refine Z.iload_n hX dL_law_309 rfl rfl ?_
        refine Z.iconst hX dL_law_310 ?_
        refine Z.iadd hX dL_law_311 ?_
        refine Z.sld hX hXs hbl hbA dL_law_312 (by omega) (by omega) (by omega) e3 ?_
        refine Z.callPl (As := [.int (zI z1), .int (zI z2), .int (zI z3)]) (rest := []) (wc := (cW ce h pl ar G L B J)) (wr := (rW ce hm F I K)) hX 6 rfl rfl (ct_X6_coefficient_w l D ce h pl ar G L B J z1 z2 z3 hok (rel_bL hrel) hfi ⟨a1, b1⟩ ⟨a2, b2⟩ ⟨a3, b3⟩ hli hle hlw hlx) mc_X6_coefficient ml_L_45 im_X6_coefficient se_X6_coefficient ini_X6 nd_X6_coefficient ⟨Nat.le_of_ble_eq_true rfl, Nat.le_of_ble_eq_true rfl⟩ ⟨rfl, rfl⟩ ⟨Nat.le_of_ble_eq_true rfl, Nat.le_of_ble_eq_true rfl⟩ rfl (Nat.le_of_ble_eq_true rfl) dL_law_313 ?_
        rintro r1 w1 ⟨x1, G2, L2, B2, J2, hr1, hw_, hok2, hPR, c0, hfi2, hli2, hle2, hlw2, hlx2, c1⟩
        subst hw_
        subst hr1
        refine Z.aload_n hX dL_law_316 rfl rfl ?_
        refine Z.aload_n hX dL_law_317 rfl rfl ?_
        refine Z.iload_n hX dL_law_318 rfl rfl ?_
        refine Z.iconst hX dL_law_319 ?_
        refine Z.iadd hX dL_law_320 ?_
        refine Z.sld hX hXs hbl hbA dL_law_321 (by omega) (by omega) (by omega) e1 ?_
        refine Z.aload_n hX dL_law_322 rfl rfl ?_
        refine Z.iload_n hX dL_law_323 rfl rfl ?_
        refine Z.iconst hX dL_law_324 ?_
        refine Z.iadd hX dL_law_325 ?_
        refine Z.sld hX hXs hbl hbA dL_law_326 (by omega) (by omega) (by omega) e2 ?_
        refine Z.aload_n hX dL_law_327 rfl rfl ?_
        refine Z.iload_n hX dL_law_328 rfl rfl ?_
        refine Z.iconst hX dL_law_329 ?_
        refine Z.iadd hX dL_law_330 ?_
        refine Z.sld hX hXs hbl hbA dL_law_331 (by omega) (by omega) (by omega) e3 ?_
        refine Z.callPl (As := [.int (zI z1), .int (zI z2), .int (zI z3)]) (rest := [.long r1]) (wc := (rW ce hm F I K)) (wr := (cW ce h pl ar G2 L2 B2 J2)) hX 7 rfl rfl (ct_X7_coefficient_w l D ce hm F I K z1 z2 z3 hokr hrel.2 hri hti hte htw ⟨a1, b1⟩ ⟨a2, b2⟩ ⟨a3, b3⟩) mc_X7_coefficient ml_L_49 im_X7_coefficient se_X7_coefficient ini_X7 nd_X7_coefficient ⟨Nat.le_of_ble_eq_true rfl, Nat.le_of_ble_eq_true rfl⟩ ⟨rfl, rfl⟩ ⟨Nat.le_of_ble_eq_true rfl, Nat.le_of_ble_eq_true rfl⟩ rfl (Nat.le_of_ble_eq_true rfl) dL_law_332 ?_
        rintro r2 w2 ⟨x2, F2, I2, K2, hr2, hw_, hok3, hI, m0, hri2, hti2, hte2, htw2, m1⟩
        subst hw_
        subst hr2
        refine Z.lcmp_eq hX 523 dL_law_335 dL_law_336 (by decide) (fun _ => ?_) (fun hc => absurd (coef_rel hrel c0 c1 m0 m1) hc)
        refine Z.iinc (lv' := [(3, .int (zI (i + 6))), (1, .ref (h 0)), (2, .ref (hm 0)), (0, .ref b)]) hX dL_law_523 rfl (by decide) rfl ?_
        refine Z.goto hX 18 dL_law_526 (by decide) ?_
        exact Z.pick [0, 1, 2, 3] rfl (ih (i + 6) _ _ _ _ _ _ _ (by omega) (by omega) hok2 hok3 (rel_same hrel hPR hI) hfi2 hri2 hli2 hti2 hle2 hte2 hlw2 hlx2 htw2)
      by_cases s8 : sw.toInt = 8
      · refine Z.tsIn hX 341 dL_law_33 (by omega) (by omega) (by rw [s8]; rfl) (by decide) ?_
        obtain ⟨z1, a1, b1, e1⟩ := zI_ex (xs (i + 1).toNat)
        obtain ⟨z2, a2, b2, e2⟩ := zI_ex (xs (i + 2).toNat)
        obtain ⟨z3, a3, b3, e3⟩ := zI_ex (xs (i + 3).toNat)
        obtain ⟨z4, a4, b4, e4⟩ := zI_ex (xs (i + 4).toNat)
        refine Z.aload_n hX dL_law_341 rfl rfl ?_
        refine Z.aload_n hX dL_law_342 rfl rfl ?_
        refine Z.iload_n hX dL_law_343 rfl rfl ?_
        refine Z.iconst hX dL_law_344 ?_
        refine Z.iadd hX dL_law_345 ?_
        refine Z.sld hX hXs hbl hbA dL_law_346 (by omega) (by omega) (by omega) e1 ?_
        refine Z.aload_n hX dL_law_347 rfl rfl ?_
        refine Z.iload_n hX dL_law_348 rfl rfl ?_
        refine Z.iconst hX dL_law_349 ?_
        refine Z.iadd hX dL_law_350 ?_
        refine Z.sld hX hXs hbl hbA dL_law_351 (by omega) (by omega) (by omega) e2 ?_
        refine Z.aload_n hX dL_law_352 rfl rfl ?_
        refine Z.iload_n hX dL_law_353 rfl rfl ?_
        refine Z.iconst hX dL_law_354 ?_
        refine Z.iadd hX dL_law_355 ?_
        refine Z.sld hX hXs hbl hbA dL_law_356 (by omega) (by omega) (by omega) e3 ?_
        refine Z.aload_n hX dL_law_357 rfl rfl ?_
        refine Z.iload_n hX dL_law_358 rfl rfl ?_
        refine Z.iconst hX dL_law_359 ?_
        refine Z.iadd hX dL_law_360 ?_
        refine Z.sld hX hXs hbl hbA dL_law_361 (by omega) (by omega) (by omega) e4 ?_
        refine Z.callPi (As := [.int (zI z1), .int (zI z2), .int (zI z3), .int (zI z4)]) (rest := []) (wc := (cW ce h pl ar G L B J)) (wr := (rW ce hm F I K)) hX 6 rfl rfl (ct_X6_side_w l D ce h pl ar G L B J z1 z2 z3 z4 hok (rel_bL hrel) hfi ⟨a1, b1⟩ ⟨a2, b2⟩ ⟨a3, b3⟩ ⟨a4, b4⟩ hli hle hlw hlx) mc_X6_side ml_L_50 im_X6_side se_X6_side ini_X6 nd_X6_side ⟨Nat.le_of_ble_eq_true rfl, Nat.le_of_ble_eq_true rfl⟩ ⟨rfl, rfl⟩ ⟨Nat.le_of_ble_eq_true rfl, Nat.le_of_ble_eq_true rfl⟩ rfl (Nat.le_of_ble_eq_true rfl) dL_law_362 ?_
        rintro r1 w1 ⟨x1, G2, L2, B2, J2, hr1, hw_, hok2, hPR, c0, hfi2, hli2, hle2, hlw2, hlx2, c1⟩
        subst hw_
        subst hr1
        refine Z.aload_n hX dL_law_365 rfl rfl ?_
        refine Z.aload_n hX dL_law_366 rfl rfl ?_
        refine Z.iload_n hX dL_law_367 rfl rfl ?_
        refine Z.iconst hX dL_law_368 ?_
        refine Z.iadd hX dL_law_369 ?_
        refine Z.sld hX hXs hbl hbA dL_law_370 (by omega) (by omega) (by omega) e1 ?_
        refine Z.aload_n hX dL_law_371 rfl rfl ?_
        refine Z.iload_n hX dL_law_372 rfl rfl ?_
        refine Z.iconst hX dL_law_373 ?_
        refine Z.iadd hX dL_law_374 ?_
        refine Z.sld hX hXs hbl hbA dL_law_375 (by omega) (by omega) (by omega) e2 ?_
        refine Z.aload_n hX dL_law_376 rfl rfl ?_
        refine Z.iload_n hX dL_law_377 rfl rfl ?_
        refine Z.iconst hX dL_law_378 ?_
        refine Z.iadd hX dL_law_379 ?_
        refine Z.sld hX hXs hbl hbA dL_law_380 (by omega) (by omega) (by omega) e3 ?_
        refine Z.aload_n hX dL_law_381 rfl rfl ?_
        refine Z.iload_n hX dL_law_382 rfl rfl ?_
        refine Z.iconst hX dL_law_383 ?_
        refine Z.iadd hX dL_law_384 ?_
        refine Z.sld hX hXs hbl hbA dL_law_385 (by omega) (by omega) (by omega) e4 ?_
        refine Z.callPi (As := [.int (zI z1), .int (zI z2), .int (zI z3), .int (zI z4)]) (rest := [.int (zI x1)]) (wc := (rW ce hm F I K)) (wr := (cW ce h pl ar G2 L2 B2 J2)) hX 7 rfl rfl (ct_X7_side_w l D ce hm F I K z1 z2 z3 z4 hokr hrel.2 hri hti hte htw ⟨a1, b1⟩ ⟨a2, b2⟩ ⟨a3, b3⟩ ⟨a4, b4⟩) mc_X7_side ml_L_54 im_X7_side se_X7_side ini_X7 nd_X7_side ⟨Nat.le_of_ble_eq_true rfl, Nat.le_of_ble_eq_true rfl⟩ ⟨rfl, rfl⟩ ⟨Nat.le_of_ble_eq_true rfl, Nat.le_of_ble_eq_true rfl⟩ rfl (Nat.le_of_ble_eq_true rfl) dL_law_386 ?_
        rintro r2 w2 ⟨x2, F2, I2, K2, hr2, hw_, hok3, hI, m0, hri2, hti2, hte2, htw2, m1⟩
        subst hw_
        subst hr2
        refine Z.jeq hX 523 dL_law_389 (by decide) (side_rel hrel c0 c1 m0 m1) ?_
        refine Z.iinc (lv' := [(3, .int (zI (i + 6))), (1, .ref (h 0)), (2, .ref (hm 0)), (0, .ref b)]) hX dL_law_523 rfl (by decide) rfl ?_
        refine Z.goto hX 18 dL_law_526 (by decide) ?_
        exact Z.pick [0, 1, 2, 3] rfl (ih (i + 6) _ _ _ _ _ _ _ (by omega) (by omega) hok2 hok3 (rel_same hrel hPR hI) hfi2 hri2 hli2 hti2 hle2 hte2 hlw2 hlx2 htw2)
      by_cases s9 : sw.toInt = 9
      · refine Z.tsIn hX 394 dL_law_33 (by omega) (by omega) (by rw [s9]; rfl) (by decide) ?_
        obtain ⟨z1, a1, b1, e1⟩ := zI_ex (xs (i + 1).toNat)
        obtain ⟨z2, a2, b2, e2⟩ := zI_ex (xs (i + 2).toNat)
        obtain ⟨z3, a3, b3, e3⟩ := zI_ex (xs (i + 3).toNat)
        obtain ⟨z4, a4, b4, e4⟩ := zI_ex (xs (i + 4).toNat)
        obtain ⟨z5, a5, b5, e5⟩ := zI_ex (xs (i + 5).toNat)
        refine Z.aload_n hX dL_law_394 rfl rfl ?_
        refine Z.aload_n hX dL_law_395 rfl rfl ?_
        refine Z.iload_n hX dL_law_396 rfl rfl ?_
        refine Z.iconst hX dL_law_397 ?_
        refine Z.iadd hX dL_law_398 ?_
        refine Z.sld hX hXs hbl hbA dL_law_399 (by omega) (by omega) (by omega) e1 ?_
        refine Z.aload_n hX dL_law_400 rfl rfl ?_
        refine Z.iload_n hX dL_law_401 rfl rfl ?_
        refine Z.iconst hX dL_law_402 ?_
        refine Z.iadd hX dL_law_403 ?_
        refine Z.sld hX hXs hbl hbA dL_law_404 (by omega) (by omega) (by omega) e2 ?_
        refine Z.aload_n hX dL_law_405 rfl rfl ?_
        refine Z.iload_n hX dL_law_406 rfl rfl ?_
        refine Z.iconst hX dL_law_407 ?_
        refine Z.iadd hX dL_law_408 ?_
        refine Z.sld hX hXs hbl hbA dL_law_409 (by omega) (by omega) (by omega) e3 ?_
        refine Z.aload_n hX dL_law_410 rfl rfl ?_
        refine Z.iload_n hX dL_law_411 rfl rfl ?_
        refine Z.iconst hX dL_law_412 ?_
        refine Z.iadd hX dL_law_413 ?_
        refine Z.sld hX hXs hbl hbA dL_law_414 (by omega) (by omega) (by omega) e4 ?_
        refine Z.aload_n hX dL_law_415 rfl rfl ?_
        refine Z.iload_n hX dL_law_416 rfl rfl ?_
        refine Z.iconst hX dL_law_417 ?_
        refine Z.iadd hX dL_law_418 ?_
        refine Z.sld hX hXs hbl hbA dL_law_419 (by omega) (by omega) (by omega) e5 ?_
        refine Z.callPi (As := [.int (zI z1), .int (zI z2), .int (zI z3), .int (zI z4), .int (zI z5)]) (rest := []) (wc := (cW ce h pl ar G L B J)) (wr := (rW ce hm F I K)) hX 6 rfl rfl (ct_X6_at_w l D ce h pl ar G L B J z1 z2 z3 z4 z5 hok (rel_bL hrel) hfi ⟨a1, b1⟩ ⟨a2, b2⟩ ⟨a3, b3⟩ ⟨a4, b4⟩ ⟨a5, b5⟩ hli hle hlw hlx) mc_X6_at ml_L_55 im_X6_at se_X6_at ini_X6 nd_X6_at ⟨Nat.le_of_ble_eq_true rfl, Nat.le_of_ble_eq_true rfl⟩ ⟨rfl, rfl⟩ ⟨Nat.le_of_ble_eq_true rfl, Nat.le_of_ble_eq_true rfl⟩ rfl (Nat.le_of_ble_eq_true rfl) dL_law_420 ?_
        rintro r1 w1 ⟨x1, G2, L2, B2, J2, hr1, hw_, hok2, hPR, c0, c1, hfi2, hli2, hle2, hlw2, hlx2⟩
        subst hw_
        subst hr1
        refine Z.aload_n hX dL_law_423 rfl rfl ?_
        refine Z.aload_n hX dL_law_424 rfl rfl ?_
        refine Z.iload_n hX dL_law_425 rfl rfl ?_
        refine Z.iconst hX dL_law_426 ?_
        refine Z.iadd hX dL_law_427 ?_
        refine Z.sld hX hXs hbl hbA dL_law_428 (by omega) (by omega) (by omega) e1 ?_
        refine Z.aload_n hX dL_law_429 rfl rfl ?_
        refine Z.iload_n hX dL_law_430 rfl rfl ?_
        refine Z.iconst hX dL_law_431 ?_
        refine Z.iadd hX dL_law_432 ?_
        refine Z.sld hX hXs hbl hbA dL_law_433 (by omega) (by omega) (by omega) e2 ?_
        refine Z.aload_n hX dL_law_434 rfl rfl ?_
        refine Z.iload_n hX dL_law_435 rfl rfl ?_
        refine Z.iconst hX dL_law_436 ?_
        refine Z.iadd hX dL_law_437 ?_
        refine Z.sld hX hXs hbl hbA dL_law_438 (by omega) (by omega) (by omega) e3 ?_
        refine Z.aload_n hX dL_law_439 rfl rfl ?_
        refine Z.iload_n hX dL_law_440 rfl rfl ?_
        refine Z.iconst hX dL_law_441 ?_
        refine Z.iadd hX dL_law_442 ?_
        refine Z.sld hX hXs hbl hbA dL_law_443 (by omega) (by omega) (by omega) e4 ?_
        refine Z.aload_n hX dL_law_444 rfl rfl ?_
        refine Z.iload_n hX dL_law_445 rfl rfl ?_
        refine Z.iconst hX dL_law_446 ?_
        refine Z.iadd hX dL_law_447 ?_
        refine Z.sld hX hXs hbl hbA dL_law_448 (by omega) (by omega) (by omega) e5 ?_
        refine Z.callPi (As := [.int (zI z1), .int (zI z2), .int (zI z3), .int (zI z4), .int (zI z5)]) (rest := [.int (zI x1)]) (wc := (rW ce hm F I K)) (wr := (cW ce h pl ar G2 L2 B2 J2)) hX 7 rfl rfl (ct_X7_at_w l D ce hm F I K z1 z2 z3 z4 z5 hokr hrel.2 hri hti hte htw ⟨a1, b1⟩ ⟨a2, b2⟩ ⟨a3, b3⟩ ⟨a4, b4⟩ ⟨a5, b5⟩) mc_X7_at ml_L_59 im_X7_at se_X7_at ini_X7 nd_X7_at ⟨Nat.le_of_ble_eq_true rfl, Nat.le_of_ble_eq_true rfl⟩ ⟨rfl, rfl⟩ ⟨Nat.le_of_ble_eq_true rfl, Nat.le_of_ble_eq_true rfl⟩ rfl (Nat.le_of_ble_eq_true rfl) dL_law_449 ?_
        rintro r2 w2 ⟨x2, F2, I2, K2, hr2, hw_, hok3, hI, m0, m1, hri2, hti2, hte2, htw2⟩
        subst hw_
        subst hr2
        refine Z.jeq hX 523 dL_law_452 (by decide) (at_rel hrel c0 c1 m0 m1) ?_
        refine Z.iinc (lv' := [(3, .int (zI (i + 6))), (1, .ref (h 0)), (2, .ref (hm 0)), (0, .ref b)]) hX dL_law_523 rfl (by decide) rfl ?_
        refine Z.goto hX 18 dL_law_526 (by decide) ?_
        exact Z.pick [0, 1, 2, 3] rfl (ih (i + 6) _ _ _ _ _ _ _ (by omega) (by omega) hok2 hok3 (rel_same hrel hPR hI) hfi2 hri2 hli2 hti2 hle2 hte2 hlw2 hlx2 htw2)
      by_cases s10 : sw.toInt = 10
      · refine Z.tsIn hX 457 dL_law_33 (by omega) (by omega) (by rw [s10]; rfl) (by decide) ?_
        obtain ⟨z1, a1, b1, e1⟩ := zI_ex (xs (i + 1).toNat)
        obtain ⟨z2, a2, b2, e2⟩ := zI_ex (xs (i + 2).toNat)
        refine Z.aload_n hX dL_law_457 rfl rfl ?_
        refine Z.aload_n hX dL_law_458 rfl rfl ?_
        refine Z.iload_n hX dL_law_459 rfl rfl ?_
        refine Z.iconst hX dL_law_460 ?_
        refine Z.iadd hX dL_law_461 ?_
        refine Z.sld hX hXs hbl hbA dL_law_462 (by omega) (by omega) (by omega) e1 ?_
        refine Z.aload_n hX dL_law_463 rfl rfl ?_
        refine Z.iload_n hX dL_law_464 rfl rfl ?_
        refine Z.iconst hX dL_law_465 ?_
        refine Z.iadd hX dL_law_466 ?_
        refine Z.sld hX hXs hbl hbA dL_law_467 (by omega) (by omega) (by omega) e2 ?_
        refine Z.callPi (As := [.int (zI z1), .int (zI z2)]) (rest := []) (wc := (cW ce h pl ar G L B J)) (wr := (rW ce hm F I K)) hX 6 rfl rfl (ct_X6_follows_w l D ce h pl ar G L B J z1 z2 hok (rel_bL hrel) hfi ⟨a1, b1⟩ ⟨a2, b2⟩ hli hle hlw hlx) mc_X6_follows ml_L_60 im_X6_follows se_X6_follows ini_X6 nd_X6_follows ⟨Nat.le_of_ble_eq_true rfl, Nat.le_of_ble_eq_true rfl⟩ ⟨rfl, rfl⟩ ⟨Nat.le_of_ble_eq_true rfl, Nat.le_of_ble_eq_true rfl⟩ rfl (Nat.le_of_ble_eq_true rfl) dL_law_468 ?_
        rintro r1 w1 ⟨x1, G2, L2, B2, J2, hr1, hw_, hok2, hPR, c0, hfi2, hli2, c1, hle2, hlw2, hlx2⟩
        subst hw_
        subst hr1
        refine Z.aload_n hX dL_law_471 rfl rfl ?_
        refine Z.aload_n hX dL_law_472 rfl rfl ?_
        refine Z.iload_n hX dL_law_473 rfl rfl ?_
        refine Z.iconst hX dL_law_474 ?_
        refine Z.iadd hX dL_law_475 ?_
        refine Z.sld hX hXs hbl hbA dL_law_476 (by omega) (by omega) (by omega) e1 ?_
        refine Z.aload_n hX dL_law_477 rfl rfl ?_
        refine Z.iload_n hX dL_law_478 rfl rfl ?_
        refine Z.iconst hX dL_law_479 ?_
        refine Z.iadd hX dL_law_480 ?_
        refine Z.sld hX hXs hbl hbA dL_law_481 (by omega) (by omega) (by omega) e2 ?_
        refine Z.callPi (As := [.int (zI z1), .int (zI z2)]) (rest := [.int (zI x1)]) (wc := (rW ce hm F I K)) (wr := (cW ce h pl ar G2 L2 B2 J2)) hX 7 rfl rfl (ct_X7_follows_w l D ce hm F I K z1 z2 hokr hrel.2 hri hti hte htw ⟨a1, b1⟩ ⟨a2, b2⟩) mc_X7_follows ml_L_63 im_X7_follows se_X7_follows ini_X7 nd_X7_follows ⟨Nat.le_of_ble_eq_true rfl, Nat.le_of_ble_eq_true rfl⟩ ⟨rfl, rfl⟩ ⟨Nat.le_of_ble_eq_true rfl, Nat.le_of_ble_eq_true rfl⟩ rfl (Nat.le_of_ble_eq_true rfl) dL_law_482 ?_
        rintro r2 w2 ⟨x2, F2, I2, K2, hr2, hw_, hok3, hI, m0, hri2, hti2, hte2, htw2, m1⟩
        subst hw_
        subst hr2
        refine Z.jeq hX 523 dL_law_485 (by decide) (follows_rel hrel c0 c1 m0 m1) ?_
        refine Z.iinc (lv' := [(3, .int (zI (i + 6))), (1, .ref (h 0)), (2, .ref (hm 0)), (0, .ref b)]) hX dL_law_523 rfl (by decide) rfl ?_
        refine Z.goto hX 18 dL_law_526 (by decide) ?_
        exact Z.pick [0, 1, 2, 3] rfl (ih (i + 6) _ _ _ _ _ _ _ (by omega) (by omega) hok2 hok3 (rel_same hrel hPR hI) hfi2 hri2 hli2 hti2 hle2 hte2 hlw2 hlx2 htw2)
      by_cases s11 : sw.toInt = 11
      · refine Z.tsIn hX 490 dL_law_33 (by omega) (by omega) (by rw [s11]; rfl) (by decide) ?_
        obtain ⟨z1, a1, b1, e1⟩ := zI_ex (xs (i + 1).toNat)
        obtain ⟨z2, a2, b2, e2⟩ := zI_ex (xs (i + 2).toNat)
        refine Z.aload_n hX dL_law_490 rfl rfl ?_
        refine Z.aload_n hX dL_law_491 rfl rfl ?_
        refine Z.iload_n hX dL_law_492 rfl rfl ?_
        refine Z.iconst hX dL_law_493 ?_
        refine Z.iadd hX dL_law_494 ?_
        refine Z.sld hX hXs hbl hbA dL_law_495 (by omega) (by omega) (by omega) e1 ?_
        refine Z.aload_n hX dL_law_496 rfl rfl ?_
        refine Z.iload_n hX dL_law_497 rfl rfl ?_
        refine Z.iconst hX dL_law_498 ?_
        refine Z.iadd hX dL_law_499 ?_
        refine Z.sld hX hXs hbl hbA dL_law_500 (by omega) (by omega) (by omega) e2 ?_
        refine Z.callPi (As := [.int (zI z1), .int (zI z2)]) (rest := []) (wc := (cW ce h pl ar G L B J)) (wr := (rW ce hm F I K)) hX 6 rfl rfl (ct_X6_touches_w l D ce h pl ar G L B J z1 z2 hok (rel_bL hrel) hfi ⟨a1, b1⟩ ⟨a2, b2⟩ hli hle hlw hlx) mc_X6_touches ml_L_64 im_X6_touches se_X6_touches ini_X6 nd_X6_touches ⟨Nat.le_of_ble_eq_true rfl, Nat.le_of_ble_eq_true rfl⟩ ⟨rfl, rfl⟩ ⟨Nat.le_of_ble_eq_true rfl, Nat.le_of_ble_eq_true rfl⟩ rfl (Nat.le_of_ble_eq_true rfl) dL_law_501 ?_
        rintro r1 w1 ⟨x1, G2, L2, B2, J2, hr1, hw_, hok2, hPR, c0, hfi2, hli2, hle2, c1, hlw2, hlx2⟩
        subst hw_
        subst hr1
        refine Z.aload_n hX dL_law_504 rfl rfl ?_
        refine Z.aload_n hX dL_law_505 rfl rfl ?_
        refine Z.iload_n hX dL_law_506 rfl rfl ?_
        refine Z.iconst hX dL_law_507 ?_
        refine Z.iadd hX dL_law_508 ?_
        refine Z.sld hX hXs hbl hbA dL_law_509 (by omega) (by omega) (by omega) e1 ?_
        refine Z.aload_n hX dL_law_510 rfl rfl ?_
        refine Z.iload_n hX dL_law_511 rfl rfl ?_
        refine Z.iconst hX dL_law_512 ?_
        refine Z.iadd hX dL_law_513 ?_
        refine Z.sld hX hXs hbl hbA dL_law_514 (by omega) (by omega) (by omega) e2 ?_
        refine Z.callPi (As := [.int (zI z1), .int (zI z2)]) (rest := [.int (zI x1)]) (wc := (rW ce hm F I K)) (wr := (cW ce h pl ar G2 L2 B2 J2)) hX 7 rfl rfl (ct_X7_touches_w l D ce hm F I K z1 z2 hokr hrel.2 hri hti hte htw ⟨a1, b1⟩ ⟨a2, b2⟩) mc_X7_touches ml_L_67 im_X7_touches se_X7_touches ini_X7 nd_X7_touches ⟨Nat.le_of_ble_eq_true rfl, Nat.le_of_ble_eq_true rfl⟩ ⟨rfl, rfl⟩ ⟨Nat.le_of_ble_eq_true rfl, Nat.le_of_ble_eq_true rfl⟩ rfl (Nat.le_of_ble_eq_true rfl) dL_law_515 ?_
        rintro r2 w2 ⟨x2, F2, I2, K2, hr2, hw_, hok3, hI, m0, hri2, hti2, hte2, htw2, m1⟩
        subst hw_
        subst hr2
        refine Z.jeq hX 523 dL_law_518 (by decide) (touches_rel hrel c0 c1 m0 m1) ?_
        refine Z.iinc (lv' := [(3, .int (zI (i + 6))), (1, .ref (h 0)), (2, .ref (hm 0)), (0, .ref b)]) hX dL_law_523 rfl (by decide) rfl ?_
        refine Z.goto hX 18 dL_law_526 (by decide) ?_
        exact Z.pick [0, 1, 2, 3] rfl (ih (i + 6) _ _ _ _ _ _ _ (by omega) (by omega) hok2 hok3 (rel_same hrel hPR hI) hfi2 hri2 hli2 hti2 hle2 hte2 hlw2 hlx2 htw2)
      refine Z.tsOut hX 523 dL_law_33 (by omega) (by decide) ?_
      refine Z.iinc (lv' := [(3, .int (zI (i + 6))), (1, .ref (h 0)), (2, .ref (hm 0)), (0, .ref b)]) hX dL_law_523 rfl (by decide) rfl ?_
      refine Z.goto hX 18 dL_law_526 (by decide) ?_
      exact Z.pick [0, 1, 2, 3] rfl (ih (i + 6) _ _ _ _ _ _ _ (by omega) (by omega) hok hokr hrel hfi hri hli hti hle hte hlw hlx htw)
set_option maxHeartbeats 4000000 in
set_option maxRecDepth 100000 in
theorem whole_start {p : Program} {e : Env} {s : State} {m : MethodId} {below : List Frame} {meth : Method} {c : Code} (l : Launch) {b L0 : Nat} {xs : Nat → Int32} (hL : L0 ≤ 3072) (C0 : lw_At p s m meth c b L0 xs) : W p l e room_1 s m #[Value.ref b] below meth c s.heap [] 0 0 (lw_Z below #[Value.ref b] s) (entryFrame m ([Value.ref b] : List Value).toArray 4) := by
  obtain ⟨hx, hb, hr, hml, hown, hts, hXs, hbl, hlocks, hgv⟩ := id C0
  obtain ⟨c0, i0, k0⟩ := u_known (C := RX0) (T := TX0) (N := 4) (n := 4) hts (fun x hx => (List.mem_filter.mp (inX0 x hx)).1) (hts _ (List.mem_filter.mp ins_X0).1)
  obtain ⟨c1, i1, k1⟩ := u_known (C := RX1) (T := TX1) (N := 3) (n := 3) hts (fun x hx => (List.mem_filter.mp (inX1 x hx)).1) (hts _ (List.mem_filter.mp ins_X1).1)
  obtain ⟨c2, i2, k2⟩ := u_known (C := RX2) (T := TX2) (N := 4) (n := 4) hts (fun x hx => (List.mem_filter.mp (inX2 x hx)).1) (hts _ (List.mem_filter.mp ins_X2).1)
  obtain ⟨c3, i3, k3⟩ := u_known (C := RX3) (T := TX3) (N := 2) (n := 2) hts (fun x hx => (List.mem_filter.mp (inX3 x hx)).1) (hts _ (List.mem_filter.mp ins_X3).1)
  obtain ⟨c4, i4, k4⟩ := u_known (C := RX4) (T := TX4) (N := 4) (n := 4) hts (fun x hx => (List.mem_filter.mp (inX4 x hx)).1) (hts _ (List.mem_filter.mp ins_X4).1)
  obtain ⟨c5, i5, k5⟩ := u_known (C := RX5) (T := TX5) (N := 1) (n := 1) hts (fun x hx => (List.mem_filter.mp (inX5 x hx)).1) (hts _ (List.mem_filter.mp ins_X5).1)
  obtain ⟨c6, i6, k6⟩ := u_known (C := RX6) (T := TX6) (N := 9) (n := 9) hts (fun x hx => (List.mem_filter.mp (inX6 x hx)).1) (hts _ (List.mem_filter.mp ins_X6).1)
  obtain ⟨c7, i7, k7⟩ := u_known (C := RX7) (T := TX7) (N := 17) (n := 17) hts (fun x hx => (List.mem_filter.mp (inX7 x hx)).1) (hts _ (List.mem_filter.mp ins_X7).1)
  obtain ⟨D, hKc⟩ : ∃ D : va_G, ∀ (k : Nat) (q : vw_C), vwCl[k]? = some q → u_Kn s q.1 q.2.1 q.2.2 (D.1 k) (D.2 k) := by
    refine ⟨(fun k => if k = 0 then c0 else if k = 1 then c1 else if k = 2 then c2 else if k = 3 then c3 else if k = 4 then c4 else if k = 5 then c5 else if k = 6 then c6 else c7, fun k => if k = 0 then i0 else if k = 1 then i1 else if k = 2 then i2 else if k = 3 then i3 else if k = 4 then i4 else if k = 5 then i5 else if k = 6 then i6 else i7), ?_⟩
    intro k q hq
    match k, hq with
    | 0, hq => cases hq; exact k0
    | 1, hq => cases hq; exact k1
    | 2, hq => cases hq; exact k2
    | 3, hq => cases hq; exact k3
    | 4, hq => cases hq; exact k4
    | 5, hq => cases hq; exact k5
    | 6, hq => cases hq; exact k6
    | 7, hq => cases hq; exact k7
    | k + 8, hq => simp [vwCl] at hq
  obtain ⟨t0, u0⟩ := ty_of (ty := .int) (fun C => by intro q; cases q) (hts _ (List.mem_filter.mp ac_0).1)
  obtain ⟨t1, u1⟩ := ty_of (ty := .long) (fun C => by intro q; cases q) (hts _ (List.mem_filter.mp ac_1).1)
  obtain ⟨t2, u2⟩ := ty_of (ty := .boolean) (fun C => by intro q; cases q) (hts _ (List.mem_filter.mp ac_2).1)
  have hAA : (Cond.arrayOver (.array .long)).before #[Value.ref b] s = true := hts _ (by decide +kernel)
  have hAO : (Cond.arrayOver (.object "EliminateLoci$Plane")).before #[Value.ref b] s = true := hts _ (by decide +kernel)
  obtain ⟨t3, u3⟩ := ty_ofA hAA
  obtain ⟨t4, u4⟩ := ty_ofO hAO
  obtain ⟨ce, hce⟩ : ∃ ce : Nat → ClassId, ce = fun k => if k = 0 then t0 else if k = 1 then t1 else if k = 2 then t2 else if k = 3 then t3 else t4 := ⟨_, rfl⟩
  have hK : va_K D vwCl (TY ce) s := by
    refine ⟨hKc, fun k q hq => ?_⟩
    subst hce
    match k, hq with
    | 0, hq => cases hq; exact u0
    | 1, hq => cases hq; exact u1
    | 2, hq => cases hq; exact u2
    | 3, hq => cases hq; exact u3
    | 4, hq => cases hq; exact u4
    | k + 5, hq => simp [TY] at hq
  have hN : NW s := ⟨fun q hq => va_Nw.of rfl (hts _ (nst_in q hq)), va_AO.of hAO, hAA⟩
  have hX : Zf p m c code 4 s #[Value.ref b] R_law D (TY ce) (fun q : Nat => s.heap.size ≤ q) := ⟨hx, hb, hml, hown, fun w hw => hts w (List.mem_filter.mp hw).1, hK, fun q h => h, hN⟩
  have hl := lv_entry ([.ref b]) (n := 4) (Nat.le_of_ble_eq_true rfl)
  rw [lg_entry_eq]
  have key : Z p l e room_1 s m #[Value.ref b] below meth c D (fun q : Nat => s.heap.size ≤ q) 4 0 0 (lw_Z below #[Value.ref b] s) 0 [(0, .ref b)] [] [] := by
    refine Z.newO (fs := [.null, .null, .null, .null, .null, .null, .null, .null, .int (zI 0)]) hX 6 tyX6 dL_law_0 rfl inX6 tyX6_ok cl_L_7 ins_X6 ini_X6 df_X6 (Nat.le_of_ble_eq_true rfl) (Nat.le_of_ble_eq_true rfl) ?_
    intro x0
    refine Z.dup hX dL_law_3 rfl ?_
    refine Z.initP (wr := []) hX (ct_X6_init l D ce x0) mc_X6_init ml_L_9 rfl im_X6_init ini_X6 nd_X6_init ⟨Nat.le_of_ble_eq_true rfl, Nat.le_of_ble_eq_true rfl⟩ ⟨rfl, rfl⟩ ⟨Nat.le_of_ble_eq_true rfl, Nat.le_of_ble_eq_true rfl⟩ (Nat.le_of_ble_eq_true rfl) dL_law_4 ?_
    rintro w1 ⟨h, pl, ar, hw_, hh0⟩
    subst hw_
    subst hh0
    refine Z.toW (w' := cW ce h pl ar (fun _ => 0) (fun _ _ => 0) (fun _ => 0) (fun _ _ => 0)) rfl ?_
    refine Z.astore_n (lv' := [(1, .ref (h 0)), (0, .ref b)]) hX dL_law_7 rfl (by decide) rfl ?_
    refine Z.newO (fs := [.null, .null, .int (zI 0), .int (zI 0), .int (zI 0), .null, .null, .null, .null, .null, .null, .null, .null, .null, .null, .null, .null]) hX 7 tyX7 dL_law_8 rfl inX7 tyX7_ok cl_L_10 ins_X7 ini_X7 df_X7 (Nat.le_of_ble_eq_true rfl) (Nat.le_of_ble_eq_true rfl) ?_
    intro x1
    refine Z.dup hX dL_law_11 rfl ?_
    refine Z.initP (wr := cW ce h pl ar (fun _ => 0) (fun _ _ => 0) (fun _ => 0) (fun _ _ => 0)) hX (ct_X7_init l D ce x1) mc_X7_init ml_L_12 rfl im_X7_init ini_X7 nd_X7_init ⟨Nat.le_of_ble_eq_true rfl, Nat.le_of_ble_eq_true rfl⟩ ⟨rfl, rfl⟩ ⟨Nat.le_of_ble_eq_true rfl, Nat.le_of_ble_eq_true rfl⟩ (Nat.le_of_ble_eq_true rfl) dL_law_12 ?_
    rintro w1 ⟨hm, hw_, hh1⟩
    subst hw_
    subst hh1
    refine Z.astore_n (lv' := [(2, .ref (hm 0)), (1, .ref (h 0)), (0, .ref b)]) hX dL_law_15 rfl (by decide) rfl ?_
    refine Z.iconst hX dL_law_16 ?_
    refine Z.istore_n (lv' := [(3, .int (zI 0)), (2, .ref (hm 0)), (1, .ref (h 0)), (0, .ref b)]) hX dL_law_17 rfl (by decide) rfl ?_
    exact Z.pick [0, 2, 1, 3] rfl (law_loop l hL C0 hX _ 0 _ _ _ _ _ _ _ (Nat.lt_succ_self _) (by omega) cOK_0 rOK_0 rel_0 (fun q => absurd q (by decide)) (fun q => absurd q (by decide)) (fun q => absurd q (by decide)) (fun q => absurd q (by decide)) (fun q => absurd q (by decide)) (fun q => absurd q (by decide)) (fun q => absurd q (by decide)) (fun q => absurd q (by decide)) (fun q => absurd q (by decide)))
  exact key s.heap [] _ (fun k q h => by simp at h) ⟨fun i j p q h => by simp at h, fun k q h => by simp at h⟩ va_S.rf hl
