/-! the envelope's eliminant as a form; its numbers; every root of it is a true one -/
def zf (X Y W : Nat → Int) (x y w : Int) (k : Nat) : Int := x * X k + y * Y k + w * W k
def dvn (N : Nat) (z : Nat → Int) (k : Nat) : Int := ((N : Int) - (k : Int)) * z k
/-- the eliminant of the envelope of a row of degree N -/
def Fe (N : Nat) (X Y W : Nat → Int) (x y w : Int) : Int := Fq (dva (zf X Y W x y w)) (dvn N (zf X Y W x y w)) (N - 1)
theorem Fe_4 (X Y W : Nat → Int) (x y w : Int) : 27 * Fe 4 X Y W x y w = 16 * qD (fun k => x * X k + y * Y k + w * W k) := by
  have e := env_res (zf X Y W x y w)
  have e2 : Fe 4 X Y W x y w = dq3 (mdv (zf X Y W x y w) 0 1) (mdv (zf X Y W x y w) 0 2) (mdv (zf X Y W x y w) 0 3) (mdv (zf X Y W x y w) 0 3 + mdv (zf X Y W x y w) 1 2) (mdv (zf X Y W x y w) 1 3) (mdv (zf X Y W x y w) 2 3) := rfl
  rw [e2, e]
  rfl
theorem Fq_3 (z : Nat → Int) : Fq (dva z) (dvn 3 z) 2 = 3 * dc z := by
  have e : Fq (dva z) (dvn 3 z) 2 = mij (dva z) (dvn 3 z) 0 1 * mij (dva z) (dvn 3 z) 1 2 - mij (dva z) (dvn 3 z) 0 2 * mij (dva z) (dvn 3 z) 0 2 := rfl
  have e01 : mij (dva z) (dvn 3 z) 0 1 = 1 * z 1 * (2 * z 1) - 2 * z 2 * (3 * z 0) := rfl
  have e02 : mij (dva z) (dvn 3 z) 0 2 = 1 * z 1 * (1 * z 2) - 3 * z 3 * (3 * z 0) := rfl
  have e12 : mij (dva z) (dvn 3 z) 1 2 = 2 * z 2 * (1 * z 2) - 3 * z 3 * (2 * z 1) := rfl
  rw [e, e01, e02, e12]
  unfold dc
  generalize z 0 = a
  generalize z 1 = b
  generalize z 2 = c
  generalize z 3 = d
  grind
theorem Fe_3 (X Y W : Nat → Int) (x y w : Int) : Fe 3 X Y W x y w = 3 * dc (fun k => x * X k + y * Y k + w * W k) := Fq_3 (zf X Y W x y w)
theorem Fe_2 (X Y W : Nat → Int) (x y w : Int) : Fe 2 X Y W x y w = zf X Y W x y w 1 * zf X Y W x y w 1 - 4 * (zf X Y W x y w 0 * zf X Y W x y w 2) := by
  have e : Fe 2 X Y W x y w = 1 * zf X Y W x y w 1 * (1 * zf X Y W x y w 1) - 2 * zf X Y W x y w 2 * (2 * zf X Y W x y w 0) := rfl
  rw [e]
  generalize zf X Y W x y w 0 = a
  generalize zf X Y W x y w 1 = b
  generalize zf X Y W x y w 2 = c
  grind
def s3n (a b d : Nat → Int) : Nat → Nat → Int
  | 4, 0 => dc a
  | 3, 1 => dp a b
  | 3, 0 => dp a d
  | 2, 2 => dr a b
  | 2, 1 => dt a b d
  | 2, 0 => dr a d
  | 1, 3 => dp b a
  | 1, 2 => dt b a d
  | 1, 1 => dt d a b
  | 1, 0 => dp d a
  | 0, 4 => dc b
  | 0, 3 => dp b d
  | 0, 2 => dr b d
  | 0, 1 => dp d b
  | 0, 0 => dc d
  | _, _ => 0
theorem s3n_e (a b d : Nat → Int) (x y w : Int) : hom6 (s3n a b d) x y w = w * w * dc (fun k => x * a k + y * b k + w * d k) := by
  rw [dc_net]
  unfold hom6
  simp only [s3n]
  generalize dc a = u40
  generalize dp a b = u31
  generalize dp a d = u30
  generalize dr a b = u22
  generalize dt a b d = u21
  generalize dr a d = u20
  generalize dp b a = u13
  generalize dt b a d = u12
  generalize dt d a b = u11
  generalize dp d a = u10
  generalize dc b = u04
  generalize dp b d = u03
  generalize dr b d = u02
  generalize dp d b = u01
  generalize dc d = u00
  grind
theorem bc_7 {X : Nat → Int} (h : bx7 X) : bc X := ⟨h 0, Nat.le_trans (h 1) (by decide), Nat.le_trans (h 2) (by decide), h 3⟩
theorem s3n_le {a b d : Nat → Int} (ha : bx7 a) (hb : bx7 b) (hd : bx7 d) : ∀ p q, (s3n a b d p q).natAbs ≤ 5157348 := by
  intro p q
  have A := bc_7 ha
  have B := bc_7 hb
  have D := bc_7 hd
  unfold s3n
  split
  · exact Nat.le_trans (dc_le a A) (by decide)
  · exact Nat.le_trans (dp_le a b A B) (by decide)
  · exact Nat.le_trans (dp_le a d A D) (by decide)
  · exact Nat.le_trans (dr_le a b A B) (by decide)
  · exact Nat.le_trans (dt_le a b d A B D) (by decide)
  · exact Nat.le_trans (dr_le a d A D) (by decide)
  · exact Nat.le_trans (dp_le b a B A) (by decide)
  · exact Nat.le_trans (dt_le b a d B A D) (by decide)
  · exact Nat.le_trans (dt_le d a b D A B) (by decide)
  · exact Nat.le_trans (dp_le d a D A) (by decide)
  · exact Nat.le_trans (dc_le b B) (by decide)
  · exact Nat.le_trans (dp_le b d B D) (by decide)
  · exact Nat.le_trans (dr_le b d B D) (by decide)
  · exact Nat.le_trans (dp_le d b D B) (by decide)
  · exact Nat.le_trans (dc_le d D) (by decide)
  · decide
def s2n (a b d : Nat → Int) : Nat → Nat → Int
  | 2, 0 => a 1 * a 1 - 4 * (a 0 * a 2)
  | 1, 1 => 2 * (a 1 * b 1) - 4 * (a 0 * b 2) - 4 * (b 0 * a 2)
  | 1, 0 => 2 * (a 1 * d 1) - 4 * (a 0 * d 2) - 4 * (d 0 * a 2)
  | 0, 2 => b 1 * b 1 - 4 * (b 0 * b 2)
  | 0, 1 => 2 * (b 1 * d 1) - 4 * (b 0 * d 2) - 4 * (d 0 * b 2)
  | 0, 0 => d 1 * d 1 - 4 * (d 0 * d 2)
  | _, _ => 0
theorem s2n_e (a b d : Nat → Int) (x y w : Int) : hom6 (s2n a b d) x y w = w * w * (w * w) * Fe 2 a b d x y w := by
  rw [Fe_2]
  unfold hom6 zf
  simp only [s2n]
  generalize a 0 = a0
  generalize a 1 = a1
  generalize a 2 = a2
  generalize b 0 = b0
  generalize b 1 = b1
  generalize b 2 = b2
  generalize d 0 = d0
  generalize d 1 = d1
  generalize d 2 = d2
  grind
theorem m49 {a b : Int} (ha : a.natAbs ≤ 7) (hb : b.natAbs ≤ 7) : (a * b).natAbs ≤ 49 := by
  rw [Int.natAbs_mul]
  exact Nat.mul_le_mul ha hb
theorem s2n_le {a b d : Nat → Int} (ha : bx7 a) (hb : bx7 b) (hd : bx7 d) : ∀ p q, (s2n a b d p q).natAbs ≤ 5157348 := by
  intro p q
  unfold s2n
  split
  · have := m49 (ha 1) (ha 1)
    have := m49 (ha 0) (ha 2)
    omega
  · have := m49 (ha 1) (hb 1)
    have := m49 (ha 0) (hb 2)
    have := m49 (hb 0) (ha 2)
    omega
  · have := m49 (ha 1) (hd 1)
    have := m49 (ha 0) (hd 2)
    have := m49 (hd 0) (ha 2)
    omega
  · have := m49 (hb 1) (hb 1)
    have := m49 (hb 0) (hb 2)
    omega
  · have := m49 (hb 1) (hd 1)
    have := m49 (hb 0) (hd 2)
    have := m49 (hd 0) (hb 2)
    omega
  · have := m49 (hd 1) (hd 1)
    have := m49 (hd 0) (hd 2)
    omega
  · decide
theorem tTf_le {X Y W : Nat → Int} (hX : bx7 X) (hY : bx7 Y) (hW : bx7 W) : ∀ p q, (tTf X Y W p q).natAbs ≤ 372214376730 := by
  intro p q
  unfold tTf
  split
  · exact Nat.le_trans (tT600_le X Y W hX hY hW) (by decide)
  · exact Nat.le_trans (tT510_le X Y W hX hY hW) (by decide)
  · exact Nat.le_trans (tT501_le X Y W hX hY hW) (by decide)
  · exact Nat.le_trans (tT420_le X Y W hX hY hW) (by decide)
  · exact Nat.le_trans (tT411_le X Y W hX hY hW) (by decide)
  · exact Nat.le_trans (tT402_le X Y W hX hY hW) (by decide)
  · exact Nat.le_trans (tT330_le X Y W hX hY hW) (by decide)
  · exact Nat.le_trans (tT321_le X Y W hX hY hW) (by decide)
  · exact Nat.le_trans (tT312_le X Y W hX hY hW) (by decide)
  · exact Nat.le_trans (tT303_le X Y W hX hY hW) (by decide)
  · exact Nat.le_trans (tT240_le X Y W hX hY hW) (by decide)
  · exact Nat.le_trans (tT231_le X Y W hX hY hW) (by decide)
  · exact Nat.le_trans (tT222_le X Y W hX hY hW) (by decide)
  · exact Nat.le_trans (tT213_le X Y W hX hY hW) (by decide)
  · exact Nat.le_trans (tT204_le X Y W hX hY hW) (by decide)
  · exact Nat.le_trans (tT150_le X Y W hX hY hW) (by decide)
  · exact Nat.le_trans (tT141_le X Y W hX hY hW) (by decide)
  · exact Nat.le_trans (tT132_le X Y W hX hY hW) (by decide)
  · exact Nat.le_trans (tT123_le X Y W hX hY hW) (by decide)
  · exact Nat.le_trans (tT114_le X Y W hX hY hW) (by decide)
  · exact Nat.le_trans (tT105_le X Y W hX hY hW) (by decide)
  · exact Nat.le_trans (tT060_le X Y W hX hY hW) (by decide)
  · exact Nat.le_trans (tT051_le X Y W hX hY hW) (by decide)
  · exact Nat.le_trans (tT042_le X Y W hX hY hW) (by decide)
  · exact Nat.le_trans (tT033_le X Y W hX hY hW) (by decide)
  · exact Nat.le_trans (tT024_le X Y W hX hY hW) (by decide)
  · exact Nat.le_trans (tT015_le X Y W hX hY hW) (by decide)
  · exact Nat.le_trans (tT006_le X Y W hX hY hW) (by decide)
  · decide
theorem gd_l6z (t : Nat → Nat → Int) : ∀ i, 6 < i / 7 + i % 7 → gd (l6 t) i = 0 := by
  intro i hi
  rcases Nat.lt_or_ge i 49 with h | h
  · have : i = 13 ∨ i = 19 ∨ i = 20 ∨ i = 25 ∨ i = 26 ∨ i = 27 ∨ i = 31 ∨ i = 32 ∨ i = 33 ∨ i = 34 ∨ i = 37 ∨ i = 38 ∨ i = 39 ∨ i = 40 ∨ i = 41 ∨ i = 43 ∨ i = 44 ∨ i = 45 ∨ i = 46 ∨ i = 47 ∨ i = 48 := by omega
    rcases this with e | e | e | e | e | e | e | e | e | e | e | e | e | e | e | e | e | e | e | e | e <;> subst e <;> rfl
  · exact gd_fin _ _ (by show 43 ≤ i; omega)
theorem gd_l6c (t : Nat → Nat → Int) (i : Nat) : gd (l6 t) i = 0 ∨ (i / 7 + i % 7 ≤ 6 ∧ gd (l6 t) i = t (i / 7) (i % 7)) := by
  rcases Nat.lt_or_ge 6 (i / 7 + i % 7) with h | h
  · exact Or.inl (gd_l6z t i h)
  · refine Or.inr ⟨h, ?_⟩
    have := gd_l6 t (i / 7) (i % 7) h
    rw [show 7 * (i / 7) + i % 7 = i by omega] at this
    exact this
theorem hom6_l (t : Nat → Nat → Int) (k x y w : Int) : hom6 (fun a b => k * t a b) x y w = k * hom6 t x y w := hom6_mul (fun _ _ _ => rfl) x y w
theorem Pf_F4 (X Y W : Nat → Int) : Pf (fun t => Fe 4 X Y W (t7 t) t 1) := by
  have z : ∀ k, Pf (fun t => zf X Y W (t7 t) t 1 k) := fun k => ((Pf_t7.mul (Pf.con (X k))).add (Pf.var.mul (Pf.con (Y k)))).add ((Pf.con 1).mul (Pf.con (W k)))
  have f : ∀ k, Pf (fun t => dva (zf X Y W (t7 t) t 1) k) := fun k => (Pf.con _).mul (z (k + 1))
  have g : ∀ k, Pf (fun t => dvn 4 (zf X Y W (t7 t) t 1) k) := fun k => (Pf.con _).mul (z k)
  have m : ∀ i j, Pf (fun t => mij (dva (zf X Y W (t7 t) t 1)) (dvn 4 (zf X Y W (t7 t) t 1)) i j) := fun i j => ((f i).mul (g j)).sub ((f j).mul (g i))
  have d := (m 0 3).add (m 1 2)
  exact (((m 0 1).mul ((d.mul (m 2 3)).sub ((m 1 3).mul (m 1 3)))).sub ((m 0 2).mul (((m 0 2).mul (m 2 3)).sub ((m 1 3).mul (m 0 3))))).add ((m 0 3).mul (((m 0 2).mul (m 1 3)).sub (d.mul (m 0 3))))
/-- the eliminant's numbers, and what they say of every root that the search leaves -/
def RT (T : Nat → Nat → Int) : Prop := ∀ (c : Int) (f : Nat → Int), c ≠ 0 → lprim (lfi f 49) → SUi f 6 → (∀ a b, a + b ≤ 6 → T a b = c * f (7 * a + b)) → ∀ (E : Nat → Int) (k i0 j0 : Nat), 2 ≤ k → i0 % k = 0 → j0 % k = 0 → 1 ≤ i0 + j0 → i0 + j0 ≤ 6 → zr k i0 j0 f E → TP k f E
def TN (N : Nat) (X Y W : Nat → Int) (T : Nat → Nat → Int) : Prop := (∀ x y w : Int, Fe N X Y W x y w = 0 → hom6 T x y w = 0) ∧ (∀ x y : Int, Fe N X Y W x y 1 = hom6 T x y 1) ∧ (∀ a b, (T a b).natAbs ≤ 1000000000000) ∧ RT T
theorem zr_f {k i0 j0 : Nat} {f E : Nat → Int} (h : zr k i0 j0 f E) : f (7 * i0 + j0) ≠ 0 := by
  obtain ⟨_, hl, hne, _⟩ := h
  rw [← hl]
  have p : ∀ (x : Int), x ≠ 0 → ∀ n, ipw x n ≠ 0 := fun x hx n => by
    induction n with
    | zero => exact Int.one_ne_zero
    | succ n ih => exact Int.mul_ne_zero hx ih
  exact p _ hne _
theorem lp_dvd {f : Nat → Int} (hp : lprim (lfi f 49)) (su : SUi f 6) {n c : Int} (h : ∀ a b, a + b ≤ 6 → n ∣ c * f (7 * a + b)) : n ∣ c := by
  refine lprim_dvd hp n.natAbs n c (Nat.le_refl _) (fun j => ?_)
  rw [gd_lfi]
  by_cases hj : j < 49
  · rw [if_pos hj]
    by_cases h6 : j / 7 + j % 7 ≤ 6
    · have := h (j / 7) (j % 7) h6
      rw [show 7 * (j / 7) + j % 7 = j by omega] at this
      exact this
    · rw [SUi_at su hj (by omega), Int.mul_zero]
      exact Int.dvd_zero _
  · rw [if_neg hj, Int.mul_zero]
    exact Int.dvd_zero _
theorem RT_s {S : Nat → Nat → Int} (kp : Int) (bS : ∀ a b, (S a b).natAbs ≤ 5157348) (zS : ∀ a b, 4 < a + b → S a b = 0) (hk : kp ≠ 0) : RT (fun a b => kp * S a b) := by
  intro c f hc hp su hT E k i0 j0 h1 h2 h3 h4 h5 z
  obtain ⟨c1, hc1⟩ : kp ∣ c := lp_dvd hp su (fun a b hab => ⟨S a b, (hT a b hab).symm⟩)
  have c10 : c1 ≠ 0 := fun e => hc (by rw [hc1, e, Int.mul_zero])
  have hS : ∀ a b, a + b ≤ 6 → S a b = c1 * f (7 * a + b) := fun a b hab => by
    have e := hT a b hab
    rw [hc1, Int.mul_assoc] at e
    exact Int.eq_of_mul_eq_mul_left hk e
  have le4 : i0 + j0 ≤ 4 := Classical.byContradiction fun q => by
    have e := hS i0 j0 h5
    rw [zS i0 j0 (by omega)] at e
    rcases Int.mul_eq_zero.mp e.symm with r | r
    · exact c10 r
    · exact zr_f z r
  exact ew_all c10 bS (fun a b hab => hS a b (by omega)) k i0 j0 h1 h2 h3 h4 le4 z
theorem TN_2 {X Y W : Nat → Int} (hX : bx7 X) (hY : bx7 Y) (hW : bx7 W) : ∃ T, TN 2 X Y W T := by
  refine ⟨fun a b => 1 * s2n X Y W a b, fun x y w h => ?_, fun x y => ?_, fun a b => ?_, RT_s 1 (s2n_le hX hY hW) (fun a b h => ?_) (by decide)⟩
  · rw [hom6_l, s2n_e, h, Int.mul_zero, Int.mul_zero]
  · rw [hom6_l, s2n_e]
    omega
  · have := s2n_le hX hY hW a b
    show (1 * s2n X Y W a b).natAbs ≤ 1000000000000
    omega
  · unfold s2n
    split <;> first | (exfalso; omega) | rfl
theorem TN_3 {X Y W : Nat → Int} (hX : bx7 X) (hY : bx7 Y) (hW : bx7 W) : ∃ T, TN 3 X Y W T := by
  refine ⟨fun a b => 3 * s3n X Y W a b, fun x y w h => ?_, fun x y => ?_, fun a b => ?_, RT_s 3 (s3n_le hX hY hW) (fun a b h => ?_) (by decide)⟩
  · rw [Fe_3] at h
    rw [hom6_l, s3n_e, (Int.mul_eq_zero.mp h).resolve_left (by decide), Int.mul_zero, Int.mul_zero]
  · rw [hom6_l, s3n_e, Fe_3]
    omega
  · have := s3n_le hX hY hW a b
    show (3 * s3n X Y W a b).natAbs ≤ 1000000000000
    omega
  · unfold s3n
    split <;> first | (exfalso; omega) | rfl
theorem d1627 {a b : Int} (h : 27 * a = 16 * b) : (16 : Int) ∣ a := ⟨3 * b - 5 * a, by omega⟩
theorem TN_4 {X Y W : Nat → Int} (hX : bx7 X) (hY : bx7 Y) (hW : bx7 W) : ∃ T, TN 4 X Y W T := by
  obtain ⟨l, hl⟩ := Pf_F4 X Y W
  have u := evl_uq (l := l.map (fun x => 27 * x)) (m := (l6 (tTf X Y W)).map (fun x => 16 * x)) (fun t => by
    rw [evl_map, evl_map, evl_l6, ← env_hom, ← Fe_4]
    exact congrArg (fun v => 27 * v) (hl t).symm)
  have ht : ∀ a b, a + b ≤ 6 → 27 * gd l (7 * a + b) = 16 * tTf X Y W a b := fun a b hab => by
    have := u (7 * a + b)
    rw [gd_map, gd_map, gd_l6 _ a b hab] at this
    exact this
  have ft : ∀ x y w : Int, Fe 4 X Y W x y w = hom6 (fun a b => if a + b ≤ 6 then gd l (7 * a + b) else 0) x y w := fun x y w => by
    have e1 := hom6_l (fun a b => if a + b ≤ 6 then gd l (7 * a + b) else 0) 27 x y w
    have e2 := hom6_l (tTf X Y W) 16 x y w
    have e3 : hom6 (fun a b => 27 * (if a + b ≤ 6 then gd l (7 * a + b) else 0)) x y w = hom6 (fun a b => 16 * tTf X Y W a b) x y w := hom6_eq (fun a b hab => by rw [if_pos hab]; exact ht a b hab) x y w
    have e4 := Fe_4 X Y W x y w
    rw [env_hom, ← e2, ← e3, e1] at e4
    exact Int.eq_of_mul_eq_mul_left (by decide) e4
  refine ⟨fun a b => if a + b ≤ 6 then gd l (7 * a + b) else 0, fun x y w h => by rw [← ft]; exact h, fun x y => ft x y 1, fun a b => ?_, ?_⟩
  · show (if a + b ≤ 6 then gd l (7 * a + b) else 0).natAbs ≤ 1000000000000
    by_cases hab : a + b ≤ 6
    · rw [if_pos hab]
      have e := ht a b hab
      have := tTf_le hX hY hW a b
      omega
    · rw [if_neg hab]
      decide
  · intro c f hc hp su hT E k i0 j0 h1 h2 h3 h4 h5 z
    have hT' : ∀ a b, a + b ≤ 6 → 27 * (c * f (7 * a + b)) = 16 * tTf X Y W a b := fun a b hab => by
      have e : (if a + b ≤ 6 then gd l (7 * a + b) else 0) = c * f (7 * a + b) := hT a b hab
      rw [if_pos hab] at e
      rw [← e]
      exact ht a b hab
    obtain ⟨c1, hc1⟩ : (16 : Int) ∣ c := lp_dvd hp su (fun a b hab => d1627 (hT' a b hab))
    have c10 : c1 ≠ 0 := fun e => hc (by rw [hc1, e, Int.mul_zero])
    have hq : ∀ a b, a + b ≤ 6 → tTf X Y W a b = 27 * c1 * f (7 * a + b) := fun a b hab => by
      have e := hT' a b hab
      rw [hc1, Int.mul_assoc 16 c1] at e
      rw [Int.mul_assoc 27 c1]
      omega
    have hcont : cont X Y W c1 := by
      intro n
      intro h600 h510 h501 h420 h411 h402 h330 h321 h312 h303 h240 h231 h222 h213 h204 h150 h141 h132 h123 h114 h105 h060 h051 h042 h033 h024 h015 h006
      refine lp_dvd hp su (fun a b hab => ?_)
      have all : 27 * n ∣ tTf X Y W a b := by
        have ha : a = 0 ∨ a = 1 ∨ a = 2 ∨ a = 3 ∨ a = 4 ∨ a = 5 ∨ a = 6 := by omega
        have hb : b = 0 ∨ b = 1 ∨ b = 2 ∨ b = 3 ∨ b = 4 ∨ b = 5 ∨ b = 6 := by omega
        clear hq hT' hT ft ht u
        rcases ha with ha | ha | ha | ha | ha | ha | ha <;> rcases hb with hb | hb | hb | hb | hb | hb | hb <;> subst ha <;> subst hb <;> first | (exfalso; omega) | assumption
      rw [hq a b hab, Int.mul_assoc] at all
      exact Int.dvd_of_mul_dvd_mul_left (by decide) all
    exact ev_all X Y W hX hY hW c1 c10 hcont f E hq k i0 j0 h1 h2 h3 h4 h5 z
theorem TN_ex {N : Nat} {X Y W : Nat → Int} (hN : 2 ≤ N ∧ N ≤ 4) (hX : bx7 X) (hY : bx7 Y) (hW : bx7 W) : ∃ T, TN N X Y W T := by
  have : N = 2 ∨ N = 3 ∨ N = 4 := by omega
  rcases this with rfl | rfl | rfl
  · exact TN_2 hX hY hW
  · exact TN_3 hX hY hW
  · exact TN_4 hX hY hW
/-- a common zero of both -/
theorem cz3 {a b c p q r u v : Int} (h1 : a * (v * v) + b * (u * v) + c * (u * u) = 0) (h2 : b * (v * v) + p * (u * v) + q * (u * u) = 0) (h3 : c * (v * v) + q * (u * v) + r * (u * u) = 0) (hu : u ≠ 0) : dd3 a b c p q r = 0 := by
  have e : u * u * dd3 a b c p q r = (a * (v * v) + b * (u * v) + c * (u * u)) * (b * q - p * c) - (b * (v * v) + p * (u * v) + q * (u * u)) * (a * q - b * c) + (c * (v * v) + q * (u * v) + r * (u * u)) * (a * p - b * b) := by
    unfold dd3
    grind
  rw [h1, h2, h3, Int.zero_mul, Int.zero_mul, Int.zero_mul] at e
  rcases Int.mul_eq_zero.mp e with z | z
  · exact absurd z (Int.mul_ne_zero hu hu)
  · exact z
theorem nz0 {x y z : Int} (hx : x ≠ 0) (e : x * y = z) (h : z = 0) : y = 0 := (Int.mul_eq_zero.mp (e.trans h)).resolve_left hx
theorem lc0 {a b F G : Int} (hF : F = 0) (hG : G = 0) : a * F - b * G = 0 := by
  rw [hF, hG, Int.mul_zero, Int.mul_zero, Int.sub_zero]
theorem Fq_01 {f0 f1 g0 g1 u v : Int} (huv : ¬ (u = 0 ∧ v = 0)) (hf : f0 * v + f1 * u = 0) (hg : g0 * v + g1 * u = 0) : f0 * g1 - f1 * g0 = 0 := by
  by_cases hu : u = 0
  · have hv0 : v ≠ 0 := fun z => huv ⟨hu, z⟩
    exact nz0 hv0 (show v * (f0 * g1 - f1 * g0) = g1 * (f0 * v + f1 * u) - f1 * (g0 * v + g1 * u) by grind) (lc0 hf hg)
  · exact nz0 hu (show u * (f0 * g1 - f1 * g0) = f0 * (g0 * v + g1 * u) - g0 * (f0 * v + f1 * u) by grind) (lc0 hg hf)
theorem Fq_02 {f0 f1 f2 g0 g1 g2 u v : Int} (huv : ¬ (u = 0 ∧ v = 0)) (hf : f0 * (v * v) + f1 * (u * v) + f2 * (u * u) = 0) (hg : g0 * (v * v) + g1 * (u * v) + g2 * (u * u) = 0) : (f0 * g1 - f1 * g0) * (f1 * g2 - f2 * g1) - (f0 * g2 - f2 * g0) * (f0 * g2 - f2 * g0) = 0 := by
  by_cases hu : u = 0
  · have hv0 : v ≠ 0 := fun z => huv ⟨hu, z⟩
    subst hu
    have a0 : f0 = 0 := nz0 (Int.mul_ne_zero hv0 hv0) (show v * v * f0 = f0 * (v * v) + f1 * (0 * v) + f2 * (0 * 0) by grind) hf
    have b0 : g0 = 0 := nz0 (Int.mul_ne_zero hv0 hv0) (show v * v * g0 = g0 * (v * v) + g1 * (0 * v) + g2 * (0 * 0) by grind) hg
    clear hf hg huv
    subst a0
    subst b0
    grind
  · by_cases hv0 : v = 0
    · subst hv0
      have a0 : f2 = 0 := nz0 (Int.mul_ne_zero hu hu) (show u * u * f2 = f0 * (0 * 0) + f1 * (u * 0) + f2 * (u * u) by grind) hf
      have b0 : g2 = 0 := nz0 (Int.mul_ne_zero hu hu) (show u * u * g2 = g0 * (0 * 0) + g1 * (u * 0) + g2 * (u * u) by grind) hg
      clear hf hg huv
      subst a0
      subst b0
      grind
    · have r1 : (f0 * g1 - f1 * g0) * v + (f0 * g2 - f2 * g0) * u = 0 := nz0 hu (show u * ((f0 * g1 - f1 * g0) * v + (f0 * g2 - f2 * g0) * u) = f0 * (g0 * (v * v) + g1 * (u * v) + g2 * (u * u)) - g0 * (f0 * (v * v) + f1 * (u * v) + f2 * (u * u)) by grind) (lc0 hg hf)
      have r2 : (f0 * g2 - f2 * g0) * v + (f1 * g2 - f2 * g1) * u = 0 := nz0 hv0 (show v * ((f0 * g2 - f2 * g0) * v + (f1 * g2 - f2 * g1) * u) = g2 * (f0 * (v * v) + f1 * (u * v) + f2 * (u * u)) - f2 * (g0 * (v * v) + g1 * (u * v) + g2 * (u * u)) by grind) (lc0 hf hg)
      clear hf hg
      generalize f0 * g1 - f1 * g0 = a at *
      generalize f0 * g2 - f2 * g0 = b at *
      generalize f1 * g2 - f2 * g1 = c at *
      exact nz0 hu (show u * (a * c - b * b) = a * (b * v + c * u) - b * (a * v + b * u) by grind) (lc0 r2 r1)
theorem Fq_03 {f0 f1 f2 f3 g0 g1 g2 g3 u v : Int} (huv : ¬ (u = 0 ∧ v = 0)) (hf : f0 * (v * v * v) + f1 * (u * (v * v)) + f2 * (u * u * v) + f3 * (u * u * u) = 0) (hg : g0 * (v * v * v) + g1 * (u * (v * v)) + g2 * (u * u * v) + g3 * (u * u * u) = 0) : dd3 (f0 * g1 - f1 * g0) (f0 * g2 - f2 * g0) (f0 * g3 - f3 * g0) ((f0 * g3 - f3 * g0) + (f1 * g2 - f2 * g1)) (f1 * g3 - f3 * g1) (f2 * g3 - f3 * g2) = 0 := by
  by_cases hu : u = 0
  · have hv0 : v ≠ 0 := fun z => huv ⟨hu, z⟩
    subst hu
    have a0 : f0 = 0 := nz0 (Int.mul_ne_zero (Int.mul_ne_zero hv0 hv0) hv0) (show v * v * v * f0 = f0 * (v * v * v) + f1 * (0 * (v * v)) + f2 * (0 * 0 * v) + f3 * (0 * 0 * 0) by grind) hf
    have b0 : g0 = 0 := nz0 (Int.mul_ne_zero (Int.mul_ne_zero hv0 hv0) hv0) (show v * v * v * g0 = g0 * (v * v * v) + g1 * (0 * (v * v)) + g2 * (0 * 0 * v) + g3 * (0 * 0 * 0) by grind) hg
    clear hf hg huv
    subst a0
    subst b0
    unfold dd3
    grind
  · by_cases hv0 : v = 0
    · subst hv0
      have a0 : f3 = 0 := nz0 (Int.mul_ne_zero (Int.mul_ne_zero hu hu) hu) (show u * u * u * f3 = f0 * (0 * 0 * 0) + f1 * (u * (0 * 0)) + f2 * (u * u * 0) + f3 * (u * u * u) by grind) hf
      have b0 : g3 = 0 := nz0 (Int.mul_ne_zero (Int.mul_ne_zero hu hu) hu) (show u * u * u * g3 = g0 * (0 * 0 * 0) + g1 * (u * (0 * 0)) + g2 * (u * u * 0) + g3 * (u * u * u) by grind) hg
      clear hf hg huv
      subst a0
      subst b0
      unfold dd3
      grind
    · have i1 : u * ((f0 * g1 - f1 * g0) * (v * v) + (f0 * g2 - f2 * g0) * (u * v) + (f0 * g3 - f3 * g0) * (u * u)) = f0 * (g0 * (v * v * v) + g1 * (u * (v * v)) + g2 * (u * u * v) + g3 * (u * u * u)) - g0 * (f0 * (v * v * v) + f1 * (u * (v * v)) + f2 * (u * u * v) + f3 * (u * u * u)) := by
        clear hf hg
        grind
      have i2 : u * u * ((f0 * g2 - f2 * g0) * (v * v) + ((f0 * g3 - f3 * g0) + (f1 * g2 - f2 * g1)) * (u * v) + (f1 * g3 - f3 * g1) * (u * u)) = (f0 * v + f1 * u) * (g0 * (v * v * v) + g1 * (u * (v * v)) + g2 * (u * u * v) + g3 * (u * u * u)) - (g0 * v + g1 * u) * (f0 * (v * v * v) + f1 * (u * (v * v)) + f2 * (u * u * v) + f3 * (u * u * u)) := by
        clear hf hg
        grind
      have i3 : v * ((f0 * g3 - f3 * g0) * (v * v) + (f1 * g3 - f3 * g1) * (u * v) + (f2 * g3 - f3 * g2) * (u * u)) = g3 * (f0 * (v * v * v) + f1 * (u * (v * v)) + f2 * (u * u * v) + f3 * (u * u * u)) - f3 * (g0 * (v * v * v) + g1 * (u * (v * v)) + g2 * (u * u * v) + g3 * (u * u * u)) := by
        clear hf hg
        grind
      exact cz3 (nz0 hu i1 (lc0 hg hf)) (nz0 (Int.mul_ne_zero hu hu) i2 (lc0 hg hf)) (nz0 hv0 i3 (lc0 hf hg)) hu
theorem Fq_0 {f g : Nat → Int} {n : Nat} (h1 : 1 ≤ n) (h3 : n ≤ 3) {u v : Int} (huv : ¬ (u = 0 ∧ v = 0)) (hf : hv f n u v = 0) (hg : hv g n u v = 0) : Fq f g n = 0 := by
  have : n = 1 ∨ n = 2 ∨ n = 3 := by omega
  rcases this with rfl | rfl | rfl
  · exact Fq_01 huv hf hg
  · exact Fq_02 huv hf hg
  · exact Fq_03 huv hf hg
