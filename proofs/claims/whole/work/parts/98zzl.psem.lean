/-! what the test of pairs says -/
def bx14 (V : Nat → Int) : Prop := ∀ k, (V k).natAbs ≤ 14
theorem b14I (V : Nat → Int) (h : bx14 V) : (qI V).natAbs ≤ 3136 :=
  na_le (ns_le (nmul_le k12 (nmul_le (h 0) (h 4))) (nmul_le k3 (nmul_le (h 1) (h 3)))) (nmul_le (h 2) (h 2))
theorem b14J (V : Nat → Int) (h : bx14 V) : (qJ V).natAbs ≤ 375928 :=
  ns_le (ns_le (ns_le (na_le (nmul_le k72 (nmul_le (h 0) (nmul_le (h 2) (h 4)))) (nmul_le k9 (nmul_le (h 1) (nmul_le (h 2) (h 3))))) (nmul_le k27 (nmul_le (h 0) (nmul_le (h 3) (h 3))))) (nmul_le k27 (nmul_le (h 4) (nmul_le (h 1) (h 1))))) (nmul_le k2 (nmul_le (h 2) (nmul_le (h 2) (h 2))))
theorem b14Jd (V : Nat → Int) (h : bx14 V) : (qJd V 0).natAbs ≤ 19404 ∧ (qJd V 1).natAbs ≤ 12348 ∧ (qJd V 2).natAbs ≤ 17052 ∧ (qJd V 3).natAbs ≤ 12348 ∧ (qJd V 4).natAbs ≤ 19404 :=
  ⟨ns_le (nmul_le k72 (nmul_le (h 2) (h 4))) (nmul_le k27 (nmul_le (h 3) (h 3))), ns_le (nmul_le k9 (nmul_le (h 2) (h 3))) (nmul_le k54 (nmul_le (h 4) (h 1))), ns_le (na_le (nmul_le k72 (nmul_le (h 0) (h 4))) (nmul_le k9 (nmul_le (h 1) (h 3)))) (nmul_le k6 (nmul_le (h 2) (h 2))), ns_le (nmul_le k9 (nmul_le (h 1) (h 2))) (nmul_le k54 (nmul_le (h 0) (h 3))), ns_le (nmul_le k72 (nmul_le (h 0) (h 2))) (nmul_le k27 (nmul_le (h 1) (h 1)))⟩
theorem b14g (I J u v : Int) (hI : I.natAbs ≤ 3136) (hJ : J.natAbs ≤ 375928) (hu : u.natAbs ≤ 168) (hv : v.natAbs ≤ 19404) : (12 * (I * I) * u - 2 * J * v).natAbs ≤ 9223372036854775807 :=
  Nat.le_trans (ns_le (nmul_le (nmul_le k12 (nmul_le hI hI)) hu) (nmul_le (nmul_le k2 hJ) hv)) (by decide)
theorem evt_cd (X : Nat → Int) (h : bx14 X) : evt (cd (X 0)) (cd (X 1)) (cd (X 2)) (cd (X 3)) (cd (X 4)) = vK X := by
  have s7 : ∀ k, (X k).natAbs ≤ 9223372036854775807 := fun k => Nat.le_trans (h k) (by decide)
  obtain ⟨a, b, c, d, e⟩ := b14Jd X h
  have a' : (qJd X 0).natAbs ≤ 9223372036854775807 := Nat.le_trans a (by decide)
  have b' : (qJd X 1).natAbs ≤ 9223372036854775807 := Nat.le_trans b (by decide)
  have c' : (qJd X 2).natAbs ≤ 9223372036854775807 := Nat.le_trans c (by decide)
  have d' : (qJd X 3).natAbs ≤ 9223372036854775807 := Nat.le_trans d (by decide)
  have e' : (qJd X 4).natAbs ≤ 9223372036854775807 := Nat.le_trans e (by decide)
  have hi : eI (cd (X 0)) (cd (X 1)) (cd (X 2)) (cd (X 3)) (cd (X 4)) = cd (qI X) := eI_cd _ _ _ _ _
  have hj : eJ (cd (X 0)) (cd (X 1)) (cd (X 2)) (cd (X 3)) (cd (X 4)) = cd (qJ X) := eJ_cd _ _ _ _ _
  have j0 : eJ0 (cd (X 2)) (cd (X 3)) (cd (X 4)) = cd (qJd X 0) := eJ0_cd _ _ _
  have j1 : eJ1 (cd (X 1)) (cd (X 2)) (cd (X 3)) (cd (X 4)) = cd (qJd X 1) := eJ1_cd _ _ _ _
  have j2 : eJ2 (cd (X 0)) (cd (X 1)) (cd (X 2)) (cd (X 3)) (cd (X 4)) = cd (qJd X 2) := eJ2_cd _ _ _ _ _
  have j3 : eJ3 (cd (X 0)) (cd (X 1)) (cd (X 2)) (cd (X 3)) = cd (qJd X 3) := eJ3_cd _ _ _ _
  have j4 : eJ4 (cd (X 0)) (cd (X 1)) (cd (X 2)) = cd (qJd X 4) := eJ4_cd _ _ _
  have hA : nB (nS (nP 4 (nP (cd (qI X)) (nP (cd (qI X)) (cd (qI X))))) (nP (cd (qJ X)) (cd (qJ X)))) = (qD X).natAbs := by
    rw [show (4 : Nat) = cd 4 from by decide]
    simp only [nP_cd, nS_cd]
    refine nB_cd _ ?_
    refine Nat.le_trans (ns_le (nmul_le k4 (nmul_le (b14I X h) (nmul_le (b14I X h) (b14I X h)))) (nmul_le (b14J X h) (b14J X h))) (by decide)
  have hp : nP 12 (nP (cd (qI X)) (cd (qI X))) = cd (12 * (qI X * qI X)) := by
    rw [show (12 : Nat) = cd 12 from by decide]
    simp only [nP_cd]
  have hq : nP 2 (cd (qJ X)) = cd (2 * qJ X) := by
    rw [show (2 : Nat) = cd 2 from by decide]
    simp only [nP_cd]
  have hg : eG (cd (X 0)) (cd (X 1)) (cd (X 2)) (cd (X 3)) (cd (X 4)) (cd (12 * (qI X * qI X))) (cd (2 * qJ X)) = gs X := by
    unfold eG
    rw [j0, j1, j2, j3, j4]
    rw [p12_cd, p12_cd, p2_cd, pm3_cd, pm3_cd]
    have bi := b14I X h
    have bj := b14J X h
    have g0 : eg (cd (12 * (qI X * qI X))) (cd (2 * qJ X)) (cd (12 * X 4)) (cd (qJd X 0)) = (qgr X 0).natAbs := eg_cd _ _ _ _ (b14g _ _ _ _ bi bj (nmul_le k12 (h 4)) a)
    have g1 : eg (cd (12 * (qI X * qI X))) (cd (2 * qJ X)) (cd (-3 * X 3)) (cd (qJd X 1)) = (qgr X 1).natAbs := eg_cd _ _ _ _ (b14g _ _ _ _ bi bj (Nat.le_trans (nmul_le (show (-3 : Int).natAbs ≤ 3 by decide) (h 3)) (by decide)) (Nat.le_trans b (by decide)))
    have g2 : eg (cd (12 * (qI X * qI X))) (cd (2 * qJ X)) (cd (2 * X 2)) (cd (qJd X 2)) = (qgr X 2).natAbs := eg_cd _ _ _ _ (b14g _ _ _ _ bi bj (Nat.le_trans (nmul_le k2 (h 2)) (by decide)) (Nat.le_trans c (by decide)))
    have g3 : eg (cd (12 * (qI X * qI X))) (cd (2 * qJ X)) (cd (-3 * X 1)) (cd (qJd X 3)) = (qgr X 3).natAbs := eg_cd _ _ _ _ (b14g _ _ _ _ bi bj (Nat.le_trans (nmul_le (show (-3 : Int).natAbs ≤ 3 by decide) (h 1)) (by decide)) (Nat.le_trans d (by decide)))
    have g4 : eg (cd (12 * (qI X * qI X))) (cd (2 * qJ X)) (cd (12 * X 0)) (cd (qJd X 4)) = (qgr X 4).natAbs := eg_cd _ _ _ _ (b14g _ _ _ _ bi bj (nmul_le k12 (h 0)) e)
    rw [g0, g1, g2, g3, g4]
    rfl
  unfold evt evt1
  rw [hi, hj, hA, hp, hq, hg]
  have hK : eK (cd (X 0)) (cd (X 1)) (cd (X 2)) (cd (X 3)) (cd (X 4)) = js1 X := by
    unfold eK
    rw [j0, j1, j2, j3, j4, nB_cd _ a', nB_cd _ b', nB_cd _ c', nB_cd _ d', nB_cd _ e']
    rfl
  have hL : eLs (cd (X 0)) (cd (X 1)) (cd (X 2)) (cd (X 3)) (cd (X 4)) = is1 X := by
    unfold eLs
    rw [nB_cd _ (s7 0), nB_cd _ (s7 1), nB_cd _ (s7 2), nB_cd _ (s7 3), nB_cd _ (s7 4)]
    rfl
  have hM : eM (cd (X 0)) (cd (X 1)) (cd (X 2)) (cd (X 3)) (cd (X 4)) = js2 X := by
    unfold eM
    rw [nB_cd _ (s7 0), nB_cd _ (s7 1), nB_cd _ (s7 2), nB_cd _ (s7 3), nB_cd _ (s7 4)]
    rfl
  rw [hK, hL, hM, nB_cd _ (Nat.le_trans (b14I X h) (by decide)), nB_cd _ (Nat.le_trans (b14J X h) (by decide))]
  rfl
theorem eG3_cd (i j i1 i2 j1 j2 j3 : Int) : eG3 (cd i) (cd j) (cd i1) (cd i2) (cd j1) (cd j2) (cd j3) = cd (24 * (i * (i1 * i2)) + 4 * (i1 * (i1 * i1)) - 2 * (j * j3) - 2 * (j1 * j2)) := by
  unfold eG3
  rw [show (24 : Nat) = cd 24 from by decide, show (4 : Nat) = cd 4 from by decide, show (2 : Nat) = cd 2 from by decide]
  simp only [nP_cd, nA_cd, nS_cd]
theorem eG4_cd (i i1 i2 j1 j2 j3 : Int) : eG4 (cd i) (cd i1) (cd i2) (cd j1) (cd j2) (cd j3) = cd (12 * (i2 * (i2 * i)) + 12 * (i2 * (i1 * i1)) - 2 * (j3 * j1) - j2 * j2) := by
  unfold eG4
  rw [show (12 : Nat) = cd 12 from by decide, show (2 : Nat) = cd 2 from by decide]
  simp only [nP_cd, nA_cd, nS_cd]
theorem p4_cd (x : Int) : nP 4 (cd x) = cd (4 * x) := by
  rw [show (4 : Nat) = cd 4 from by decide, nP_cd]
def pkF (X Y : Nat → Int) : Prop := pk (cd (X 0)) (cd (X 1)) (cd (X 2)) (cd (X 3)) (cd (X 4)) (cd (Y 0)) (cd (Y 1)) (cd (Y 2)) (cd (Y 3)) (cd (Y 4)) = true
theorem pk_mean (X Y : Nat → Int) (hX : bx7 X) (hY : bx7 Y) (h : pkF X Y) (g2 : qG X Y 2 ≠ 0) (sq : qG X Y 3 * qG X Y 3 = 4 * (qG X Y 2 * qG X Y 4)) : vK (fun k => X k + 1 * Y k) = true ∨ vK (fun k => X k + (-1) * Y k) = true := by
  unfold pkF pk pk1 at h
  have hi1 : eI1 (cd (X 0)) (cd (X 1)) (cd (X 2)) (cd (X 3)) (cd (X 4)) (cd (Y 0)) (cd (Y 1)) (cd (Y 2)) (cd (Y 3)) (cd (Y 4)) = cd (qI1 X Y) := eI1_cd _ _ _ _ _ _ _ _ _ _
  have hi : ∀ X : Nat → Int, eI (cd (X 0)) (cd (X 1)) (cd (X 2)) (cd (X 3)) (cd (X 4)) = cd (qI X) := fun X => eI_cd _ _ _ _ _
  have hj : ∀ X : Nat → Int, eJ (cd (X 0)) (cd (X 1)) (cd (X 2)) (cd (X 3)) (cd (X 4)) = cd (qJ X) := fun X => eJ_cd _ _ _ _ _
  rw [hi1, hi, hi, hj, hj, eJ5_cd, eJ5_cd, eG2_cd, eG3_cd, eG4_cd] at h
  have q2 : 12 * (qI X * (qI X * qI Y)) + 12 * (qI X * (qI1 X Y * qI1 X Y)) - 2 * (qJ X * qJ1 Y X) - qJ1 X Y * qJ1 X Y = qG X Y 2 := rfl
  have q3 : 24 * (qI X * (qI1 X Y * qI Y)) + 4 * (qI1 X Y * (qI1 X Y * qI1 X Y)) - 2 * (qJ X * qJ Y) - 2 * (qJ1 X Y * qJ1 Y X) = qG X Y 3 := rfl
  have q4 : 12 * (qI Y * (qI Y * qI X)) + 12 * (qI Y * (qI1 X Y * qI1 X Y)) - 2 * (qJ Y * qJ1 X Y) - qJ1 Y X * qJ1 Y X = qG X Y 4 := rfl
  rw [q2, q3, q4] at h
  unfold pk2 at h
  rw [Bool.or_eq_true] at h
  rcases h with h | h
  · exfalso
    apply g2
    refine cd_inj _ 0 ?_ (by decide) ?_
    · rw [← (tT_xy X Y Y).2.2.1]
      exact Nat.le_trans (tT420_le X Y Y hX hY hY) (by decide)
    · exact h
  · have e4 : nP (cd (qG X Y 3)) (cd (qG X Y 3)) = nP 4 (nP (cd (qG X Y 2)) (cd (qG X Y 4))) := by
      rw [nP_cd, nP_cd, p4_cd, sq]
    rw [e4, Nat.beq_refl, cond_true] at h
    unfold pk3 at h
    rw [Bool.or_eq_true] at h
    simp only [nA_cd, nS_cd] at h
    have b : ∀ s : Int, s.natAbs ≤ 1 → bx14 (fun k => X k + s * Y k) := fun s hs k => Nat.le_trans (na_le (hX k) (nmul_le hs (hY k))) (by decide)
    rcases h with h | h
    · left
      rw [← evt_cd _ (b 1 (by decide))]
      simp only [Int.one_mul]
      exact h
    · right
      rw [← evt_cd _ (b (-1) (by decide))]
      have m : ∀ k, X k + (-1) * Y k = X k - Y k := fun k => by omega
      simp only [m]
      exact h
/-! the moves of the second quartic -/
theorem qz_iff (X : Nat → Int) : qz X ↔ ∀ Z : Nat → Int, qG X Z 1 = 0 := by
  constructor
  · intro ⟨a, b, c, d, e⟩ Z
    have g : qG X Z 1 = qgr X 0 * Z 0 + qgr X 1 * Z 1 + qgr X 2 * Z 2 + qgr X 3 * Z 3 + qgr X 4 * Z 4 := qG1_lin X Z
    rw [g, a, b, c, d, e]
    omega
  · intro h
    have g : ∀ Z : Nat → Int, qgr X 0 * Z 0 + qgr X 1 * Z 1 + qgr X 2 * Z 2 + qgr X 3 * Z 3 + qgr X 4 * Z 4 = 0 := fun Z => (qG1_lin X Z).symm.trans (h Z)
    have g0 := g (v5 1 0 0 0 0)
    have g1 := g (v5 0 1 0 0 0)
    have g2 := g (v5 0 0 1 0 0)
    have g3 := g (v5 0 0 0 1 0)
    have g4 := g (v5 0 0 0 0 1)
    have k0 : qgr X 0 * 1 + qgr X 1 * 0 + qgr X 2 * 0 + qgr X 3 * 0 + qgr X 4 * 0 = 0 := g0
    have k1 : qgr X 0 * 0 + qgr X 1 * 1 + qgr X 2 * 0 + qgr X 3 * 0 + qgr X 4 * 0 = 0 := g1
    have k2 : qgr X 0 * 0 + qgr X 1 * 0 + qgr X 2 * 1 + qgr X 3 * 0 + qgr X 4 * 0 = 0 := g2
    have k3 : qgr X 0 * 0 + qgr X 1 * 0 + qgr X 2 * 0 + qgr X 3 * 1 + qgr X 4 * 0 = 0 := g3
    have k4 : qgr X 0 * 0 + qgr X 1 * 0 + qgr X 2 * 0 + qgr X 3 * 0 + qgr X 4 * 1 = 0 := g4
    exact ⟨by omega, by omega, by omega, by omega, by omega⟩
theorem qG1_vals (X Z Z' : Nat → Int) (h0 : Z' 0 = Z 0) (h1 : Z' 1 = Z 1) (h2 : Z' 2 = Z 2) (h3 : Z' 3 = Z 3) (h4 : Z' 4 = Z 4) : qG X Z' 1 = qG X Z 1 := by
  rw [qG1_lin, qG1_lin, h0, h1, h2, h3, h4]
theorem qz_rv (X : Nat → Int) (h : qz X) : qz (rvq X) := by
  rw [qz_iff] at h ⊢
  intro Z
  rw [← qG1_vals (rvq X) Z (rvq (rvq Z)) rfl rfl rfl rfl rfl, qG_rv]
  exact h _
theorem qz_ng (X : Nat → Int) (h : qz X) : qz (ngq X) := by
  rw [qz_iff] at h ⊢
  intro Z
  rw [← qG1_vals (ngq X) Z (ngq (ngq Z)) (Int.neg_neg _) (Int.neg_neg _) (Int.neg_neg _) (Int.neg_neg _) (Int.neg_neg _), qG_ng]
  exact h _
theorem qz_al (X : Nat → Int) (h : qz X) : qz (alq X) := by
  rw [qz_iff] at h ⊢
  intro Z
  rw [← qG1_vals (alq X) Z (alq (alq Z)) rfl (Int.neg_neg _) rfl (Int.neg_neg _) rfl, qG_al]
  exact h _
theorem zc_cd (Y : Nat → Int) (h : bx7 Y) (h0 : 0 ≤ Y 0) (h1 : 0 ≤ Y 1) : zc0 (qcode Y) = cd (Y 0) ∧ zc1 (qcode Y) = cd (Y 1) ∧ zc2 (qcode Y) = cd (Y 2) ∧ zc3 (qcode Y) = cd (Y 3) ∧ zc4 (qcode Y) = cd (Y 4) := by
  have a0 := h 0
  have a1 := h 1
  have a2 := h 2
  have a3 := h 3
  have a4 := h 4
  unfold zc0 zc1 zc2 zc3 zc4 qcode qc5
  have e : ∀ a b c d e : Nat, a < 16 → b < 16 → c < 16 → d < 16 → e < 16 → Nat.div (Nat.add (Nat.mul (Nat.add (Nat.mul (Nat.add (Nat.mul (Nat.add (Nat.mul a 16) b) 16) c) 16) d) 16) e) 65536 = a ∧ Nat.mod (Nat.div (Nat.add (Nat.mul (Nat.add (Nat.mul (Nat.add (Nat.mul (Nat.add (Nat.mul a 16) b) 16) c) 16) d) 16) e) 4096) 16 = b ∧ Nat.mod (Nat.div (Nat.add (Nat.mul (Nat.add (Nat.mul (Nat.add (Nat.mul (Nat.add (Nat.mul a 16) b) 16) c) 16) d) 16) e) 256) 16 = c ∧ Nat.mod (Nat.div (Nat.add (Nat.mul (Nat.add (Nat.mul (Nat.add (Nat.mul (Nat.add (Nat.mul a 16) b) 16) c) 16) d) 16) e) 16) 16 = d ∧ Nat.mod (Nat.add (Nat.mul (Nat.add (Nat.mul (Nat.add (Nat.mul (Nat.add (Nat.mul a 16) b) 16) c) 16) d) 16) e) 16 = e := by
    intro a b c d e ha hb hc hd he
    show ((((a * 16 + b) * 16 + c) * 16 + d) * 16 + e) / 65536 = a ∧ ((((a * 16 + b) * 16 + c) * 16 + d) * 16 + e) / 4096 % 16 = b ∧ ((((a * 16 + b) * 16 + c) * 16 + d) * 16 + e) / 256 % 16 = c ∧ ((((a * 16 + b) * 16 + c) * 16 + d) * 16 + e) / 16 % 16 = d ∧ ((((a * 16 + b) * 16 + c) * 16 + d) * 16 + e) % 16 = e
    omega
  obtain ⟨e0, e1, e2, e3, e4⟩ := e (Y 0).toNat (Y 1).toNat (Y 2 + 7).toNat (Y 3 + 7).toNat (Y 4 + 7).toNat (by omega) (by omega) (by omega) (by omega) (by omega)
  rw [e0, e1, e2, e3, e4]
  have s : ∀ y : Int, y.natAbs ≤ 7 → nS (y + 7).toNat 7 = cd y := by
    intro y hy
    rw [← cd_small (y + 7) (y + 7).toNat (by omega) (by omega), show (7 : Nat) = cd 7 from by decide, nS_cd, show y + 7 - 7 = y by omega]
  exact ⟨(cd_small _ _ (by omega) (by omega)).symm, (cd_small _ _ (by omega) (by omega)).symm, s _ a2, s _ a3, s _ a4⟩
def pk4 (X Y : Nat → Int) : Prop := pkF X Y ∧ pkF X (ngq Y) ∧ pkF X (rvq Y) ∧ pkF X (ngq (rvq Y))
def pk8 (X Y : Nat → Int) : Prop := pkr (cd (X 0)) (cd (X 1)) (cd (X 2)) (cd (X 3)) (cd (X 4)) (cd (Y 0)) (cd (Y 1)) (cd (Y 2)) (cd (Y 3)) (cd (Y 4)) = true
theorem ns0_cd (v : Int) : nS 0 (cd v) = cd (-v) := by
  rw [show (0 : Nat) = cd 0 from by decide, nS_cd, Int.zero_sub]
theorem pk8_mean (X Y : Nat → Int) (h : pk8 X Y) : pk4 X Y ∧ pk4 X (alq Y) := by
  unfold pk8 pkr pkn pka at h
  simp only [Bool.and_eq_true, ns0_cd] at h
  obtain ⟨⟨⟨a1, a2⟩, a3, a4⟩, ⟨a5, a6⟩, a7, a8⟩ := h
  exact ⟨⟨a1, a3, a5, a7⟩, a2, a4, a6, a8⟩
theorem pkF_vals (X Y Z : Nat → Int) (h0 : Z 0 = Y 0) (h1 : Z 1 = Y 1) (h2 : Z 2 = Y 2) (h3 : Z 3 = Y 3) (h4 : Z 4 = Y 4) (h : pkF X Z) : pkF X Y := by
  unfold pkF at *
  rw [h0, h1, h2, h3, h4] at h
  exact h
theorem pk_list (X Y : Nat → Int) (hX : bx7 X) (x0 : 0 ≤ X 0) (x1 : 0 ≤ X 1) (x4 : (X 4).natAbs ≤ (X 0).natAbs) (zX : qz X) (hY : bx7 Y) (y0 : 0 ≤ Y 0) (y1 : 0 ≤ Y 1) (y4 : (Y 4).natAbs ≤ (Y 0).natAbs) (zY : qz Y) : pk8 X Y := by
  have a := qall_mem pkB _ _ (qz_list X hX x0 x1 x4 zX) pkB_all
  have b := qall_mem (fun m => pkP (qcode X) m) _ _ (qz_list Y hY y0 y1 y4 zY) a
  obtain ⟨p0, p1, p2, p3, p4⟩ := zc_cd X hX x0 x1
  obtain ⟨q0, q1, q2, q3, q4⟩ := zc_cd Y hY y0 y1
  have b' : pkP (qcode X) (qcode Y) = true := b
  unfold pkP at b'
  rw [p0, p1, p2, p3, p4, q0, q1, q2, q3, q4] at b'
  exact b'
theorem pk_any (X Y : Nat → Int) (hX : bx7 X) (x0 : 0 ≤ X 0) (x1 : 0 ≤ X 1) (x4 : (X 4).natAbs ≤ (X 0).natAbs) (zX : qz X) (hY : bx7 Y) (zY : qz Y) : pkF X Y := by
  have s1 : ∀ Y : Nat → Int, bx7 Y → qz Y → 0 ≤ Y 0 → (Y 4).natAbs ≤ (Y 0).natAbs → pk4 X Y := by
    intro Y hY zY y0 y4
    rcases Int.le_total 0 (Y 1) with r | r
    · exact (pk8_mean X Y (pk_list X Y hX x0 x1 x4 zX hY y0 r y4 zY)).1
    · have t := (pk8_mean X (alq Y) (pk_list X (alq Y) hX x0 x1 x4 zX (bx_al hY) y0 (by show 0 ≤ -Y 1; omega) y4 (qz_al Y zY))).2
      obtain ⟨t1, t2, t3, t4⟩ := t
      have nn : ∀ v : Int, - -v = v := Int.neg_neg
      exact ⟨pkF_vals X Y (alq (alq Y)) rfl (nn (Y 1)) rfl (nn (Y 3)) rfl t1, pkF_vals X (ngq Y) (ngq (alq (alq Y))) rfl (nn (-Y 1)) rfl (nn (-Y 3)) rfl t2, pkF_vals X (rvq Y) (rvq (alq (alq Y))) rfl (nn (Y 3)) rfl (nn (Y 1)) rfl t3, pkF_vals X (ngq (rvq Y)) (ngq (rvq (alq (alq Y)))) rfl (nn (-Y 3)) rfl (nn (-Y 1)) rfl t4⟩
  have nn : ∀ v : Int, - -v = v := Int.neg_neg
  have s2 : ∀ Y : Nat → Int, bx7 Y → qz Y → (Y 4).natAbs ≤ (Y 0).natAbs → pkF X Y ∧ pkF X (rvq Y) := by
    intro Y hY zY y4
    rcases Int.le_total 0 (Y 0) with r | r
    · obtain ⟨t1, t2, t3, t4⟩ := s1 Y hY zY r y4
      exact ⟨t1, t3⟩
    · obtain ⟨t1, t2, t3, t4⟩ := s1 (ngq Y) (bx_ng hY) (qz_ng Y zY) (by show 0 ≤ -Y 0; omega) (by show (-Y 4).natAbs ≤ (-Y 0).natAbs; omega)
      exact ⟨pkF_vals X Y (ngq (ngq Y)) (nn _) (nn _) (nn _) (nn _) (nn _) t2, pkF_vals X (rvq Y) (ngq (rvq (ngq Y))) (nn _) (nn _) (nn _) (nn _) (nn _) t4⟩
  rcases Nat.le_total (Y 4).natAbs (Y 0).natAbs with r | r
  · exact (s2 Y hY zY r).1
  · exact pkF_vals X Y (rvq (rvq Y)) rfl rfl rfl rfl rfl (s2 (rvq Y) (bx_rv hY) (qz_rv Y zY) r).2
