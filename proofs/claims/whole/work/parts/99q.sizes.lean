/-! sizes: the sum of all numbers of a polynomial -/
def l1 : List Int → Nat
  | [] => 0
  | a :: l => a.natAbs + l1 l
theorem l1_add : ∀ l m : List Int, l1 (ladd l m) ≤ l1 l + l1 m
  | [], m => by
    show l1 m ≤ 0 + l1 m
    omega
  | a :: l, [] => by
    show l1 (a :: l) ≤ l1 (a :: l) + 0
    omega
  | a :: l, b :: m => by
    show (a + b).natAbs + l1 (ladd l m) ≤ (a.natAbs + l1 l) + (b.natAbs + l1 m)
    have := l1_add l m
    omega
theorem l1_map (k : Int) : ∀ l : List Int, l1 (l.map (fun x => k * x)) = k.natAbs * l1 l
  | [] => rfl
  | a :: l => by
    show (k * a).natAbs + l1 (l.map (fun x => k * x)) = k.natAbs * (a.natAbs + l1 l)
    rw [l1_map k l, Int.natAbs_mul, Nat.mul_add]
theorem l1_mul (m : List Int) : ∀ l : List Int, l1 (lmul l m) ≤ l1 l * l1 m
  | [] => Nat.zero_le _
  | a :: l => by
    have h := l1_add (m.map (fun x => a * x)) (0 :: lmul l m)
    have h2 := l1_mul m l
    rw [l1_map] at h
    have h3 : l1 (0 :: lmul l m) = l1 (lmul l m) := Nat.zero_add _
    show l1 (ladd (m.map (fun x => a * x)) (0 :: lmul l m)) ≤ (a.natAbs + l1 l) * l1 m
    rw [Nat.add_mul]
    omega
theorem gd_l1 : ∀ (l : List Int) (i : Nat), (gd l i).natAbs ≤ l1 l
  | [], i => Nat.zero_le _
  | a :: l, 0 => Nat.le_add_right _ _
  | a :: l, i + 1 => by
    have := gd_l1 l i
    show (gd l i).natAbs ≤ a.natAbs + l1 l
    omega
def Nb (F : Int → Int) (B : Nat) : Prop := ∃ l : List Int, (∀ t, F t = evl l t) ∧ l1 l ≤ B
theorem Nb.le {F : Int → Int} {A B : Nat} (h : Nb F A) (hab : A ≤ B) : Nb F B := by
  obtain ⟨l, h1, h2⟩ := h
  exact ⟨l, h1, Nat.le_trans h2 hab⟩
theorem Nb.add {F G : Int → Int} {A B : Nat} (h1 : Nb F A) (h2 : Nb G B) : Nb (fun t => F t + G t) (A + B) := by
  obtain ⟨l, a1, a2⟩ := h1
  obtain ⟨m, b1, b2⟩ := h2
  exact ⟨ladd l m, fun t => by rw [evl_add, ← a1, ← b1], Nat.le_trans (l1_add l m) (Nat.add_le_add a2 b2)⟩
theorem Nb.sub {F G : Int → Int} {A B : Nat} (h1 : Nb F A) (h2 : Nb G B) : Nb (fun t => F t - G t) (A + B) := by
  obtain ⟨l, a1, a2⟩ := h1
  obtain ⟨m, b1, b2⟩ := h2
  refine ⟨ladd l (lneg m), fun t => by rw [evl_add, evl_neg, ← a1, ← b1]; dsimp only; omega, Nat.le_trans (l1_add l _) (Nat.add_le_add a2 ?_)⟩
  unfold lneg
  rw [l1_map, show (-1 : Int).natAbs = 1 from rfl, Nat.one_mul]
  exact b2
theorem Nb.mul {F G : Int → Int} {A B : Nat} (h1 : Nb F A) (h2 : Nb G B) : Nb (fun t => F t * G t) (A * B) := by
  obtain ⟨l, a1, a2⟩ := h1
  obtain ⟨m, b1, b2⟩ := h2
  exact ⟨lmul l m, fun t => by rw [evl_mul, ← a1, ← b1], Nat.le_trans (l1_mul m l) (Nat.mul_le_mul a2 b2)⟩
theorem mn2 {a b c d : Int} {M : Nat} (h1 : a.natAbs ≤ M) (h2 : b.natAbs ≤ M) (h3 : c.natAbs ≤ M) (h4 : d.natAbs ≤ M) : (a * b - c * d).natAbs ≤ 2 * (M * M) := by
  have := nm_b h1 h2
  have := nm_b h3 h4
  omega
theorem Nb_m3 {X Y W : Nat → Int} {M : Nat} (h : ∀ i, (X i).natAbs ≤ M ∧ (Y i).natAbs ≤ M ∧ (W i).natAbs ≤ M) (i j : Nat) : Nb (fun t => m3 X Y W (t7 t) t 1 i j) (6 * (M * M)) := by
  obtain ⟨x1, y1, w1⟩ := h i
  obtain ⟨x2, y2, w2⟩ := h j
  refine ⟨lk (Y i * W j - Y j * W i) (-(X i * W j - X j * W i)) (X i * Y j - X j * Y i), fun t => ?_, ?_⟩
  · rw [evl_lk]
    unfold m3
    grind
  · have a := mn2 y1 w2 y2 w1
    have b := mn2 x1 w2 x2 w1
    have c := mn2 x1 y2 x2 y1
    show (X i * Y j - X j * Y i).natAbs + ((-(X i * W j - X j * W i)).natAbs + (0 + (0 + (0 + (0 + (0 + ((Y i * W j - Y j * W i).natAbs + 0))))))) ≤ _
    omega
theorem Nb_F2 {X Y W : Nat → Int} {M : Nat} (h : ∀ i, (X i).natAbs ≤ M ∧ (Y i).natAbs ≤ M ∧ (W i).natAbs ≤ M) (hM : M ≤ 105) : Nb (fun t => F2 X Y W (t7 t) t 1) 1000000000000000000 := by
  have m := fun i j => (Nb_m3 h i j).le (show 6 * (M * M) ≤ 66150 by have := Nat.mul_le_mul hM hM; omega)
  exact (((m 0 1).mul (m 1 2)).sub ((m 0 2).mul (m 0 2))).le (by decide)
theorem Nb_F3 {X Y W : Nat → Int} {M : Nat} (h : ∀ i, (X i).natAbs ≤ M ∧ (Y i).natAbs ≤ M ∧ (W i).natAbs ≤ M) (hM : M ≤ 105) : Nb (fun t => F3 X Y W (t7 t) t 1) 1000000000000000000 := by
  have m := fun i j => (Nb_m3 h i j).le (show 6 * (M * M) ≤ 66150 by have := Nat.mul_le_mul hM hM; omega)
  have d := (m 0 3).add (m 1 2)
  exact ((((m 0 1).mul ((d.mul (m 2 3)).sub ((m 1 3).mul (m 1 3)))).sub ((m 0 2).mul (((m 0 2).mul (m 2 3)).sub ((m 1 3).mul (m 0 3))))).add ((m 0 3).mul (((m 0 2).mul (m 1 3)).sub (d.mul (m 0 3))))).le (by decide)
theorem Nb_FF {X Y W : Nat → Int} (h : ∀ i, (X i).natAbs ≤ 7 ∧ (Y i).natAbs ≤ 7 ∧ (W i).natAbs ≤ 7) : Nb (fun t => FF X Y W (t7 t) t 1) 1000000000000000000 := by
  have m := fun i j => (Nb_m3 h i j).le (show 6 * (7 * 7) ≤ 588 by decide)
  have s := fun i j k l => ((Nb_m3 h i j).add (Nb_m3 h k l)).le (show 6 * (7 * 7) + 6 * (7 * 7) ≤ 588 by decide)
  have a := m 0 1
  have b := m 0 2
  have c := m 0 3
  have d := m 0 4
  have e := s 0 3 1 2
  have f := s 0 4 1 3
  have g := m 1 4
  have h := s 1 4 2 3
  have i := m 2 4
  have j := m 3 4
  obtain ⟨l, l1_, l2_⟩ := ((((((((a.mul e).sub (b.mul b)).mul ((h.mul j).sub (i.mul i))).sub (((a.mul f).sub (c.mul b)).mul ((f.mul j).sub (i.mul g)))).add (((a.mul g).sub (d.mul b)).mul ((f.mul i).sub (h.mul g)))).add (((b.mul f).sub (c.mul e)).mul ((c.mul j).sub (i.mul d)))).sub (((b.mul g).sub (d.mul e)).mul ((c.mul i).sub (h.mul d)))).add (((c.mul g).sub (d.mul f)).mul ((c.mul g).sub (f.mul d)))).le (show _ ≤ 1000000000000000000 by decide)
  refine ⟨l, fun t => ?_, l2_⟩
  rw [← l1_]
  show FF X Y W (t7 t) t 1 = _
  unfold FF
  rw [dS_lap]
theorem Nb_Fz {n : Nat} {X Y W : Nat → Int} (h1 : 1 ≤ n) (hn : n ≤ 4) (h : ∀ i, (X i).natAbs ≤ 105 ∧ (Y i).natAbs ≤ 105 ∧ (W i).natAbs ≤ 105) (h4 : n = 4 → ∀ i, (X i).natAbs ≤ 7 ∧ (Y i).natAbs ≤ 7 ∧ (W i).natAbs ≤ 7) : Nb (fun t => Fz n X Y W (t7 t) t 1) 1000000000000000000 := by
  have : n = 1 ∨ n = 2 ∨ n = 3 ∨ n = 4 := by omega
  rcases this with rfl | rfl | rfl | rfl
  · obtain ⟨l, a, b⟩ := (Nb_m3 h 0 1).le (show 6 * (105 * 105) ≤ 1000000000000000000 by decide)
    exact ⟨l, fun t => by rw [← a]; show m3 X Y W (t7 t) t 1 0 1 * 1 * (1 * 1) = _; dsimp only; omega, b⟩
  · obtain ⟨l, a, b⟩ := Nb_F2 h (Nat.le_refl _)
    exact ⟨l, fun t => by rw [← a]; show F2 X Y W (t7 t) t 1 * (1 * 1) = _; dsimp only; omega, b⟩
  · obtain ⟨l, a, b⟩ := Nb_F3 h (Nat.le_refl _)
    exact ⟨l, fun t => by rw [← a]; show F3 X Y W (t7 t) t 1 * 1 = _; dsimp only; omega, b⟩
  · exact Nb_FF (h4 rfl)
/-! degrees -/
def Qd (n : Nat) (F : Int → Int → Int → Int) : Prop := ∃ φ : Nat → Int, (∀ x y w : Int, F x y w = qg φ x y w) ∧ ∀ m, m < 15 → n < ix15 m / 7 + ix15 m % 7 → φ m = 0
theorem Qd.add {n : Nat} {F G : Int → Int → Int → Int} (h1 : Qd n F) (h2 : Qd n G) : Qd n (fun x y w => F x y w + G x y w) := by
  obtain ⟨P, hP, zP⟩ := h1
  obtain ⟨Q, hQ, zQ⟩ := h2
  refine ⟨fun i => P i + Q i, fun x y w => ?_, fun m h1 h2 => by dsimp only; rw [zP m h1 h2, zQ m h1 h2]; rfl⟩
  show F x y w + G x y w = _
  rw [hP, hQ]
  unfold qg
  clear hP hQ zP zQ
  grind
theorem Qd.sub {n : Nat} {F G : Int → Int → Int → Int} (h1 : Qd n F) (h2 : Qd n G) : Qd n (fun x y w => F x y w - G x y w) := by
  obtain ⟨P, hP, zP⟩ := h1
  obtain ⟨Q, hQ, zQ⟩ := h2
  refine ⟨fun i => P i - Q i, fun x y w => ?_, fun m h1 h2 => by dsimp only; rw [zP m h1 h2, zQ m h1 h2]; rfl⟩
  show F x y w - G x y w = _
  rw [hP, hQ]
  unfold qg
  clear hP hQ zP zQ
  grind
theorem Qd_3 {L G : Int → Int → Int → Int} (h1 : Lm L) (h2 : Fm G) : Qd 3 (fun x y w => L x y w * w * G x y w) := by
  obtain ⟨α, β, γ, hL⟩ := h1
  obtain ⟨Q, hQ⟩ := h2
  refine ⟨cc2 (q1l α β γ) Q, fun x y w => by rw [← cc2_e, q1l_e, ← hL, ← hQ], fun m hm hd => ?_⟩
  match m, hm with
  | 0, _ => simp [cc2, q1l]
  | 1, _ => simp [cc2, q1l]
  | 2, _ => simp [cc2, q1l]
  | 3, _ => simp [cc2, q1l]
  | 4, _ => simp [cc2, q1l]
  | 5, _ => exact absurd hd (by decide)
  | 6, _ => exact absurd hd (by decide)
  | 7, _ => exact absurd hd (by decide)
  | 8, _ => exact absurd hd (by decide)
  | 9, _ => exact absurd hd (by decide)
  | 10, _ => exact absurd hd (by decide)
  | 11, _ => exact absurd hd (by decide)
  | 12, _ => exact absurd hd (by decide)
  | 13, _ => exact absurd hd (by decide)
  | 14, _ => exact absurd hd (by decide)
theorem Qd_2 {G : Int → Int → Int → Int} (h2 : Fm G) : Qd 2 (fun x y w => G x y w * (w * w)) := by
  obtain ⟨Q, hQ⟩ := h2
  refine ⟨cc2 Q q0l, fun x y w => by rw [← cc2_e, q0l_e, ← hQ], fun m hm hd => ?_⟩
  match m, hm with
  | 0, _ => simp [cc2, q0l]
  | 1, _ => simp [cc2, q0l]
  | 2, _ => simp [cc2, q0l]
  | 3, _ => simp [cc2, q0l]
  | 4, _ => simp [cc2, q0l]
  | 5, _ => simp [cc2, q0l]
  | 6, _ => simp [cc2, q0l]
  | 7, _ => simp [cc2, q0l]
  | 8, _ => simp [cc2, q0l]
  | 9, _ => exact absurd hd (by decide)
  | 10, _ => exact absurd hd (by decide)
  | 11, _ => exact absurd hd (by decide)
  | 12, _ => exact absurd hd (by decide)
  | 13, _ => exact absurd hd (by decide)
  | 14, _ => exact absurd hd (by decide)
theorem Qd_1 {L : Int → Int → Int → Int} (h1 : Lm L) : Qd 1 (fun x y w => L x y w * w * (w * w)) := by
  obtain ⟨α, β, γ, hL⟩ := h1
  refine ⟨cc2 (q1l α β γ) q0l, fun x y w => by rw [← cc2_e, q1l_e, q0l_e, ← hL], fun m hm hd => ?_⟩
  match m, hm with
  | 0, _ => simp [cc2, q0l]
  | 1, _ => simp [cc2, q0l]
  | 2, _ => simp [cc2, q0l]
  | 3, _ => simp [cc2, q0l]
  | 4, _ => simp [cc2, q0l]
  | 5, _ => simp [cc2, q0l]
  | 6, _ => simp [cc2, q0l]
  | 7, _ => simp [cc2, q0l]
  | 8, _ => simp [cc2, q0l]
  | 9, _ => simp [cc2, q0l, q1l]
  | 10, _ => simp [cc2, q0l, q1l]
  | 11, _ => simp [cc2, q0l, q1l]
  | 12, _ => exact absurd hd (by decide)
  | 13, _ => exact absurd hd (by decide)
  | 14, _ => exact absurd hd (by decide)
theorem Qd_Fz {n : Nat} (h1 : 1 ≤ n) (hn : n ≤ 4) (X Y W : Nat → Int) : Qd n (fun x y w => Fz n X Y W x y w) := by
  have m := fun i j => Lm_m3 X Y W i j
  have : n = 1 ∨ n = 2 ∨ n = 3 ∨ n = 4 := by omega
  rcases this with rfl | rfl | rfl | rfl
  · exact Qd_1 (m 0 1)
  · exact Qd_2 (((m 0 1).mul (m 1 2)).sub ((m 0 2).mul (m 0 2)))
  · have d := (m 0 3).add (m 1 2)
    obtain ⟨φ, hφ, zφ⟩ := ((Qd_3 (m 0 1) ((d.mul (m 2 3)).sub ((m 1 3).mul (m 1 3)))).sub (Qd_3 (m 0 2) (((m 0 2).mul (m 2 3)).sub ((m 1 3).mul (m 0 3))))).add (Qd_3 (m 0 3) (((m 0 2).mul (m 1 3)).sub (d.mul (m 0 3))))
    refine ⟨φ, fun x y w => ?_, zφ⟩
    rw [← hφ]
    show F3 X Y W x y w * w = _
    unfold F3
    rw [dd3_w]
  · obtain ⟨φ, hφ⟩ := Qm_FF X Y W
    refine ⟨φ, hφ, fun k hk hd => ?_⟩
    exfalso
    match k, hk with
    | 0, _ => exact absurd hd (by decide)
    | 1, _ => exact absurd hd (by decide)
    | 2, _ => exact absurd hd (by decide)
    | 3, _ => exact absurd hd (by decide)
    | 4, _ => exact absurd hd (by decide)
    | 5, _ => exact absurd hd (by decide)
    | 6, _ => exact absurd hd (by decide)
    | 7, _ => exact absurd hd (by decide)
    | 8, _ => exact absurd hd (by decide)
    | 9, _ => exact absurd hd (by decide)
    | 10, _ => exact absurd hd (by decide)
    | 11, _ => exact absurd hd (by decide)
    | 12, _ => exact absurd hd (by decide)
    | 13, _ => exact absurd hd (by decide)
    | 14, _ => exact absurd hd (by decide)
theorem lr_su {φ : Nat → Int} {n : Nat} (h : ∀ m, m < 15 → n < ix15 m / 7 + ix15 m % 7 → φ m = 0) : ∀ i, n < i / 7 + i % 7 → gd (lr φ) i = 0
  | 0, hi => h 14 (by decide) hi
  | 1, hi => h 13 (by decide) hi
  | 2, hi => h 11 (by decide) hi
  | 3, hi => h 8 (by decide) hi
  | 4, hi => h 4 (by decide) hi
  | 5, _ => rfl
  | 6, _ => rfl
  | 7, hi => h 12 (by decide) hi
  | 8, hi => h 10 (by decide) hi
  | 9, hi => h 7 (by decide) hi
  | 10, hi => h 3 (by decide) hi
  | 11, _ => rfl
  | 12, _ => rfl
  | 13, _ => rfl
  | 14, hi => h 9 (by decide) hi
  | 15, hi => h 6 (by decide) hi
  | 16, hi => h 2 (by decide) hi
  | 17, _ => rfl
  | 18, _ => rfl
  | 19, _ => rfl
  | 20, _ => rfl
  | 21, hi => h 5 (by decide) hi
  | 22, hi => h 1 (by decide) hi
  | 23, _ => rfl
  | 24, _ => rfl
  | 25, _ => rfl
  | 26, _ => rfl
  | 27, _ => rfl
  | 28, hi => h 0 (by decide) hi
  | i + 29, _ => rfl
