/-! the curve's own bounds -/
def VBw (w : Nat → Int64) : Prop := ∀ (f : Nat → Int64) (c : Int) (d : Nat), c ≠ 0 → (∀ i, i < 49 → (w i).toInt = c * (f i).toInt) → lprim (lsf f 49) → d ≤ 6 → SUi (ci f) d → (∃ i, i < 49 ∧ i / 7 + i % 7 = d ∧ f i ≠ 0) → ∀ p q s : Int, PLc p q s → (Vl (ci f) d p q s).natAbs ≤ 9000000000000000000
theorem div_b {A B V : Int} (hA : A ≠ 0) (e : A * V = B) : V.natAbs ≤ B.natAbs := by
  rw [← e, Int.natAbs_mul]
  have := Nat.mul_le_mul (show 1 ≤ A.natAbs by omega) (Nat.le_refl V.natAbs)
  omega
theorem vb_loc {X Y W : Nat → Int} {n : Nat} {w : Nat → Int64} {σ : Int} (h1 : 1 ≤ n) (hn : n ≤ 4) (hr : RowOK X Y W n) (h56 : n = 3 → ∀ i, (X i).natAbs ≤ 56 ∧ (Y i).natAbs ≤ 56 ∧ (W i).natAbs ≤ 56) (hs : σ = 1 ∨ σ = -1) (h : CG (pw id w 49) (fun t => σ * Fz n X Y W (t7 t) t 1)) : VBw w := fun f c d c0 hw hp d6 sud hd p q s hpl => by
  obtain ⟨ev, sz, su⟩ := sl_ex h1 hn hr hs h
  have hsq : σ * σ = 1 := by rcases hs with e | e <;> rw [e] <;> rfl
  have sc0 : σ * c ≠ 0 := fun z => by
    rcases Int.mul_eq_zero.mp z with y | y
    · rcases hs with e | e <;> omega
    · exact c0 y
  have hf : ∀ t, σ * c * evl (lfi (ci f) 49) t = Fz n X Y W (t7 t) t 1 := fun t => by
    have e1 : evl (lsf w 49) t = c * evl (lfi (ci f) 49) t := by
      rw [← evl_map]
      exact evl_gd (fun i => by
        rw [gd_map, gd_lsf, gd_lfi]
        by_cases hi : i < 49
        · rw [if_pos hi, if_pos hi]
          exact hw i hi
        · rw [if_neg hi, if_neg hi, Int.mul_zero]) t
    rw [Int.mul_assoc, ← e1, ev t, ← Int.mul_assoc, hsq, Int.one_mul]
  have sun : SU f n := fun q a b d => by
    have e := hw q.toNat (by omega)
    rw [su q a b d, show (0 : Int64).toInt = 0 from rfl] at e
    exact i64_z ((Int.mul_eq_zero.mp e.symm).resolve_left c0)
  have dn : d ≤ n := by
    obtain ⟨i, hi, ed, fe⟩ := hd
    rcases Nat.lt_or_ge n d with z | z
    · exact absurd (sun (i : Nat) (by omega) (by omega) (by omega)) (by rw [Int.toNat_natCast]; exact fe)
    · exact z
  have s4 : SUi (ci f) 4 := SUi_le (by omega) (SU_ci (by omega) sun)
  have eF := Fz_f hf p q s
  have eV := V_hom d6 sud p q s
  rw [qg_h6w s4] at eV
  have k1 : σ * c * (s ^ (6 - d) * Vl (ci f) d p q s) = s * s * Fz n X Y W p q s := by
    rw [eV, eF]
    generalize qg (c15 (ci f)) p q s = g
    grind
  have sp : ∀ m : Nat, s ^ m ≠ 0 := fun m => by
    have : 0 < s ^ m := Int.pow_pos (by have := hpl.2.2.1; omega)
    omega
  have fin : ∀ Fn : Int, Vb Fn 9000000000000000000 → s * s * Fz n X Y W p q s = s ^ (6 - n) * Fn → (Vl (ci f) d p q s).natAbs ≤ 9000000000000000000 := fun Fn hb e => by
    have k2 : s ^ (6 - n) * (σ * c * s ^ (n - d) * Vl (ci f) d p q s) = s ^ (6 - n) * Fn := by
      rw [← e, ← k1, show 6 - d = (6 - n) + (n - d) by omega, Int.pow_add]
      generalize s ^ (6 - n) = u
      generalize s ^ (n - d) = v
      grind
    exact Nat.le_trans (div_b (Int.mul_ne_zero sc0 (sp _)) (Int.eq_of_mul_eq_mul_left (sp _) k2)) hb
  have : n = 1 ∨ n = 2 ∨ n = 3 ∨ n = 4 := by omega
  rcases this with rfl | rfl | rfl | rfl
  · refine fin (m3 X Y W p q s 0 1) ((Vb_m3 hr.2.1 hpl 0 1).le (by decide)) ?_
    show s * s * (m3 X Y W p q s 0 1 * s * (s * s)) = s ^ 5 * m3 X Y W p q s 0 1
    grind
  · refine fin (F2 X Y W p q s) (Vb_F2 hr.2.1 (Nat.le_refl _) hpl) ?_
    show s * s * (F2 X Y W p q s * (s * s)) = s ^ 4 * F2 X Y W p q s
    grind
  · refine fin (F3 X Y W p q s) (Vb_F3 (h56 rfl) (Nat.le_refl _) hpl) ?_
    show s * s * (F3 X Y W p q s * s) = s ^ 3 * F3 X Y W p q s
    grind
  · refine fin (FF X Y W p q s) (Vb_FF (hr.2.2.1 rfl) hpl) ?_
    show s * s * FF X Y W p q s = s ^ 2 * FF X Y W p q s
    grind
theorem Vb_z {X Y W : Nat → Int} (hX : bx7 X) (hY : bx7 Y) (hW : bx7 W) {p q s : Int} (hp : PLc p q s) (k : Nat) : Vb (p * X k + q * Y k + s * W k) 343 := by
  have P : Vb p 20 := hp.1
  have Q : Vb q 20 := hp.2.1
  have S : Vb s 9 := by
    unfold Vb
    have := hp.2.2
    omega
  have x : Vb (X k) 7 := hX k
  have y : Vb (Y k) 7 := hY k
  have z : Vb (W k) 7 := hW k
  exact (((P.mul x).add (Q.mul y)).add (S.mul z)).le (by decide)
theorem Vb_c (a : Int) : Vb a a.natAbs := Nat.le_refl _
theorem vb_env {N : Nat} {X Y W : Nat → Int} {T : Nat → Nat → Int} (hN : 2 ≤ N ∧ N ≤ 4) (hX : bx7 X) (hY : bx7 Y) (hW : bx7 W) (hT : TN N X Y W T) {w : Nat → Int64} {σ : Int} (hs : σ = 1 ∨ σ = -1) (h : CG (pw id w 49) (fun t => σ * Fe N X Y W (t7 t) t 1)) : VBw w := fun f c d c0 hw hp d6 sud hd p q s hpl => by
  obtain ⟨ex, sz, su⟩ := sl_ez hT hs h
  have hsq : σ * σ = 1 := by rcases hs with e | e <;> rw [e] <;> rfl
  have sc0 : σ * c ≠ 0 := fun z => by
    rcases Int.mul_eq_zero.mp z with y | y
    · rcases hs with e | e <;> omega
    · exact c0 y
  have hTf : ∀ a b, a + b ≤ 6 → T a b = σ * c * ci f (7 * a + b) := fun a b hab => by
    have e := ex (7 * a + b) (by omega)
    rw [hw _ (by omega), gd_l6 T a b hab] at e
    show T a b = σ * c * (f (7 * a + b)).toInt
    rw [Int.mul_assoc, e, ← Int.mul_assoc, hsq, Int.one_mul]
  have eV := V_hom d6 sud p q s
  have eT : hom6 T p q s = σ * c * (s ^ (6 - d) * Vl (ci f) d p q s) := by
    rw [eV]
    exact hom6_mul hTf p q s
  have sp : ∀ m : Nat, s ^ m ≠ 0 := fun m => by
    have : 0 < s ^ m := Int.pow_pos (by have := hpl.2.2.1; omega)
    omega
  have S : Vb s 9 := by
    unfold Vb
    have := hpl.2.2
    omega
  have low : Vb (hom6 T p q s) 9000000000000000000 → (Vl (ci f) d p q s).natAbs ≤ 9000000000000000000 := fun hb => by
    rw [eT, ← Int.mul_assoc] at hb
    exact Nat.le_trans (div_b (Int.mul_ne_zero sc0 (sp _)) rfl) hb
  have z := Vb_z hX hY hW hpl
  have : N = 2 ∨ N = 3 ∨ N = 4 := by omega
  rcases this with rfl | rfl | rfl
  · apply low
    have e : ∀ a b, a + b ≤ 6 → T a b = s2n X Y W a b := hom6_uq (fun x y => by rw [← hT.2.1 x y, s2n_e]; omega)
    rw [hom6_eq e, s2n_e, Fe_2]
    exact (((S.mul S).mul (S.mul S)).mul (((z 1).mul (z 1)).sub ((Vb_c 4).mul ((z 0).mul (z 2))))).le (by decide)
  · apply low
    have e : ∀ a b, a + b ≤ 6 → T a b = 3 * s3n X Y W a b := hom6_uq (fun x y => by rw [← hT.2.1 x y, hom6_l, s3n_e, Fe_3]; omega)
    rw [hom6_eq e, hom6_l, s3n_e]
    refine ((Vb_c 3).mul ((S.mul S).mul ?_)).le (show 3 * (9 * 9 * 1000000000000) ≤ _ by decide)
    unfold dc
    exact (((((((z 1).mul (z 1)).mul ((z 2).mul (z 2))).sub (((Vb_c 4).mul (z 3)).mul (((z 1).mul (z 1)).mul (z 1)))).sub (((Vb_c 4).mul (z 0)).mul (((z 2).mul (z 2)).mul (z 2)))).sub (((Vb_c 27).mul ((z 0).mul (z 0))).mul ((z 3).mul (z 3)))).add (((Vb_c 18).mul ((z 0).mul (z 1))).mul ((z 2).mul (z 3)))).le (by decide)
  · have e : ∀ a b, a + b ≤ 6 → 27 * T a b = 16 * tTf X Y W a b := hom6_uq (fun x y => by rw [hom6_l, hom6_l, ← hT.2.1 x y, Fe_4, env_hom])
    have s6 : SUi (ci f) 6 := SUi_le d6 sud
    have e2 : ∀ a b, a + b ≤ 6 → 27 * (σ * c * ci f (7 * a + b)) = 16 * tTf X Y W a b := fun a b hab => by rw [← hTf a b hab]; exact e a b hab
    obtain ⟨c1, hc1⟩ : (16 : Int) ∣ σ * c := lp_dvd (f := ci f) hp s6 (fun a b hab => d1627 (e2 a b hab))
    have c10 : c1 ≠ 0 := fun y => sc0 (by rw [hc1, y, Int.mul_zero])
    have e3 : ∀ a b, a + b ≤ 6 → tTf X Y W a b = 27 * c1 * ci f (7 * a + b) := fun a b hab => by
      have t := e2 a b hab
      rw [hc1, Int.mul_assoc 16 c1] at t
      rw [Int.mul_assoc 27 c1]
      omega
    have e4 := hom6_mul e3 p q s
    rw [← env_hom, ← eV] at e4
    have hI : Vb (qI (fun k => p * X k + q * Y k + s * W k)) (16 * 117649) := ((((Vb_c 12).mul ((z 0).mul (z 4))).sub ((Vb_c 3).mul ((z 1).mul (z 3)))).add ((z 2).mul (z 2))).le (by decide)
    have hJ : Vb (qJ (fun k => p * X k + q * Y k + s * W k)) (137 * 40353607) := ((((((Vb_c 72).mul ((z 0).mul ((z 2).mul (z 4)))).add ((Vb_c 9).mul ((z 1).mul ((z 2).mul (z 3))))).sub ((Vb_c 27).mul ((z 0).mul ((z 3).mul (z 3))))).sub ((Vb_c 27).mul ((z 4).mul ((z 1).mul (z 1))))).sub ((Vb_c 2).mul ((z 2).mul ((z 2).mul (z 2))))).le (by decide)
    have hD : Vb (qD (fun k => p * X k + q * Y k + s * W k)) (27 * 3000000000000000000) := (((Vb_c 4).mul (hI.mul (hI.mul hI))).sub (hJ.mul hJ)).le (by decide)
    rw [e4, Int.mul_assoc 27 c1, ← Int.mul_assoc c1] at hD
    unfold Vb at hD
    rw [Int.natAbs_mul] at hD
    have h27 : (27 : Int).natAbs = 27 := rfl
    rw [h27] at hD
    have := div_b (B := c1 * s ^ (6 - d) * Vl (ci f) d p q s) (Int.mul_ne_zero c10 (sp (6 - d))) rfl
    omega
