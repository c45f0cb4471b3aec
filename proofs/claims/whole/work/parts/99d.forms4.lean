/-! quartic forms -/
def Lm (F : Int → Int → Int → Int) : Prop := ∃ p q r : Int, ∀ x y w : Int, F x y w = p * x + q * y + r * w
theorem Lm_m3 (X Y W : Nat → Int) (i j : Nat) : Lm (fun x y w => m3 X Y W x y w i j) := ⟨Y i * W j - Y j * W i, -(X i * W j - X j * W i), X i * Y j - X j * Y i, fun x y w => by
  unfold m3
  grind⟩
theorem Lm_w : Lm (fun _ _ w => w) := ⟨0, 0, 1, fun x y w => by grind⟩
theorem Lm.add {F G : Int → Int → Int → Int} (h1 : Lm F) (h2 : Lm G) : Lm (fun x y w => F x y w + G x y w) := by
  obtain ⟨p, q, r, h1⟩ := h1
  obtain ⟨a, b, c, h2⟩ := h2
  exact ⟨p + a, q + b, r + c, fun x y w => by dsimp only; rw [h1, h2]; clear h1 h2; grind⟩
theorem Lm.mul {F G : Int → Int → Int → Int} (h1 : Lm F) (h2 : Lm G) : Fm (fun x y w => F x y w * G x y w) := by
  obtain ⟨p, q, r, h1⟩ := h1
  obtain ⟨a, b, c, h2⟩ := h2
  obtain ⟨Q, hQ⟩ := form2 p q r a b c
  exact ⟨Q, fun x y w => by dsimp only; rw [h1, h2, hQ]⟩
theorem Fm.sub {F G : Int → Int → Int → Int} (h1 : Fm F) (h2 : Fm G) : Fm (fun x y w => F x y w - G x y w) := by
  obtain ⟨P, hP⟩ := h1
  obtain ⟨Q, hQ⟩ := h2
  refine ⟨fun i => P i - Q i, fun x y w => ?_⟩
  show F x y w - G x y w = _
  rw [hP, hQ]
  unfold cE
  clear hP hQ
  grind
def Qm (F : Int → Int → Int → Int) : Prop := ∃ φ : Nat → Int, ∀ x y w : Int, F x y w = qg φ x y w
theorem Qm.add {F G : Int → Int → Int → Int} (h1 : Qm F) (h2 : Qm G) : Qm (fun x y w => F x y w + G x y w) := by
  obtain ⟨P, hP⟩ := h1
  obtain ⟨Q, hQ⟩ := h2
  refine ⟨fun i => P i + Q i, fun x y w => ?_⟩
  show F x y w + G x y w = _
  rw [hP, hQ]
  unfold qg
  clear hP hQ
  grind
theorem Qm.sub {F G : Int → Int → Int → Int} (h1 : Qm F) (h2 : Qm G) : Qm (fun x y w => F x y w - G x y w) := by
  obtain ⟨P, hP⟩ := h1
  obtain ⟨Q, hQ⟩ := h2
  refine ⟨fun i => P i - Q i, fun x y w => ?_⟩
  show F x y w - G x y w = _
  rw [hP, hQ]
  unfold qg
  clear hP hQ
  grind
def cc2 (P Q : Nat → Int) (m : Nat) : Int := match m with
  | 0 => P 0 * Q 0
  | 1 => P 0 * Q 1 + P 1 * Q 0
  | 2 => P 0 * Q 2 + P 1 * Q 1 + P 2 * Q 0
  | 3 => P 1 * Q 2 + P 2 * Q 1
  | 4 => P 2 * Q 2
  | 5 => P 0 * Q 3 + P 3 * Q 0
  | 6 => P 0 * Q 4 + P 1 * Q 3 + P 3 * Q 1 + P 4 * Q 0
  | 7 => P 1 * Q 4 + P 2 * Q 3 + P 3 * Q 2 + P 4 * Q 1
  | 8 => P 2 * Q 4 + P 4 * Q 2
  | 9 => P 0 * Q 5 + P 3 * Q 3 + P 5 * Q 0
  | 10 => P 1 * Q 5 + P 3 * Q 4 + P 4 * Q 3 + P 5 * Q 1
  | 11 => P 2 * Q 5 + P 4 * Q 4 + P 5 * Q 2
  | 12 => P 3 * Q 5 + P 5 * Q 3
  | 13 => P 4 * Q 5 + P 5 * Q 4
  | _ => P 5 * Q 5
theorem cc2_e (P Q : Nat → Int) (x y w : Int) : cE P x y w * cE Q x y w = qg (cc2 P Q) x y w := by
  unfold cE qg
  simp only [cc2]
  grind
theorem Fm.mul {F G : Int → Int → Int → Int} (h1 : Fm F) (h2 : Fm G) : Qm (fun x y w => F x y w * G x y w) := by
  obtain ⟨P, hP⟩ := h1
  obtain ⟨Q, hQ⟩ := h2
  exact ⟨cc2 P Q, fun x y w => by dsimp only; rw [hP, hQ, cc2_e]⟩
theorem dS_lap (a b c d e f g h i j : Int) : dS a b c d e f g h i j = (((((a * e - b * b) * (h * j - i * i) - (a * f - c * b) * (f * j - i * g)) + (a * g - d * b) * (f * i - h * g)) + (b * f - c * e) * (c * j - i * d)) - (b * g - d * e) * (c * i - h * d)) + (c * g - d * f) * (c * g - f * d) := by
  unfold dS det4
  grind
theorem dd3_w (a b c d e f w : Int) : dd3 a b c d e f * w = ((a * w) * (d * f - e * e) - (b * w) * (b * f - e * c)) + (c * w) * (b * e - d * c) := by
  unfold dd3
  grind
theorem Qm_FF (X Y W : Nat → Int) : Qm (fun x y w => FF X Y W x y w) := by
  have m := fun i j => Lm_m3 X Y W i j
  have a := m 0 1
  have b := m 0 2
  have c := m 0 3
  have d := m 0 4
  have e := (m 0 3).add (m 1 2)
  have f := (m 0 4).add (m 1 3)
  have g := m 1 4
  have h := (m 1 4).add (m 2 3)
  have i := m 2 4
  have j := m 3 4
  obtain ⟨φ, hφ⟩ := (((((((a.mul e).sub (b.mul b)).mul ((h.mul j).sub (i.mul i))).sub (((a.mul f).sub (c.mul b)).mul ((f.mul j).sub (i.mul g)))).add (((a.mul g).sub (d.mul b)).mul ((f.mul i).sub (h.mul g)))).add (((b.mul f).sub (c.mul e)).mul ((c.mul j).sub (i.mul d)))).sub (((b.mul g).sub (d.mul e)).mul ((c.mul i).sub (h.mul d)))).add (((c.mul g).sub (d.mul f)).mul ((c.mul g).sub (f.mul d)))
  refine ⟨φ, fun x y w => ?_⟩
  rw [← hφ]
  show FF X Y W x y w = _
  unfold FF
  rw [dS_lap]
theorem Qm_F3 (X Y W : Nat → Int) : Qm (fun x y w => F3 X Y W x y w * w) := by
  have m := fun i j => Lm_m3 X Y W i j
  have a := m 0 1
  have b := m 0 2
  have c := m 0 3
  have d := (m 0 3).add (m 1 2)
  have e := m 1 3
  have f := m 2 3
  obtain ⟨φ, hφ⟩ := (((a.mul Lm_w).mul ((d.mul f).sub (e.mul e))).sub ((b.mul Lm_w).mul ((b.mul f).sub (e.mul c)))).add ((c.mul Lm_w).mul ((b.mul e).sub (d.mul c)))
  refine ⟨φ, fun x y w => ?_⟩
  rw [← hφ]
  show F3 X Y W x y w * w = _
  unfold F3
  rw [dd3_w]
theorem Qm_F2 (X Y W : Nat → Int) : Qm (fun x y w => F2 X Y W x y w * (w * w)) := by
  have m := fun i j => Lm_m3 X Y W i j
  exact (((m 0 1).mul (m 1 2)).sub ((m 0 2).mul (m 0 2))).mul (Lm_w.mul Lm_w)
theorem Qm_F1 (X Y W : Nat → Int) : Qm (fun x y w => m3 X Y W x y w 0 1 * w * (w * w)) := ((Lm_m3 X Y W 0 1).mul Lm_w).mul (Lm_w.mul Lm_w)
/-- the eliminant, of degree 4 by powers of w -/
def Fz (n : Nat) (X Y W : Nat → Int) (x y w : Int) : Int := match n with
  | 1 => m3 X Y W x y w 0 1 * w * (w * w)
  | 2 => F2 X Y W x y w * (w * w)
  | 3 => F3 X Y W x y w * w
  | _ => FF X Y W x y w
theorem Qm_Fz (n : Nat) (X Y W : Nat → Int) : Qm (fun x y w => Fz n X Y W x y w) := by
  unfold Fz
  split
  · exact Qm_F1 X Y W
  · exact Qm_F2 X Y W
  · exact Qm_F3 X Y W
  · exact Qm_FF X Y W
def lr (φ : Nat → Int) : List Int := [φ 14, φ 13, φ 11, φ 8, φ 4, 0, 0, φ 12, φ 10, φ 7, φ 3, 0, 0, 0, φ 9, φ 6, φ 2, 0, 0, 0, 0, φ 5, φ 1, 0, 0, 0, 0, 0, φ 0]
theorem evl_lr (φ : Nat → Int) (t : Int) : evl (lr φ) t = qg φ (t7 t) t 1 := by
  unfold lr qg t7
  simp only [evl]
  grind
def ix15 (m : Nat) : Nat := match m with
  | 0 => 28
  | 1 => 22
  | 2 => 16
  | 3 => 10
  | 4 => 4
  | 5 => 21
  | 6 => 15
  | 7 => 9
  | 8 => 3
  | 9 => 14
  | 10 => 8
  | 11 => 2
  | 12 => 7
  | 13 => 1
  | _ => 0
def c15 (p : Nat → Int) (m : Nat) : Int := p (ix15 m)
def lfi (f : Nat → Int) (N : Nat) : List Int := (List.range N).map f
theorem gd_lfi (f : Nat → Int) (N i : Nat) : gd (lfi f N) i = if i < N then f i else 0 := by
  unfold gd lfi
  rw [List.getD_eq_getElem?_getD, List.getElem?_map]
  by_cases h : i < N
  · rw [if_pos h, List.getElem?_range h]
    rfl
  · rw [if_neg h, List.getElem?_eq_none (by rw [List.length_range]; omega)]
    rfl
theorem qg_15 {φ ψ : Nat → Int} {c : Int} (h : ∀ m, m < 15 → φ m = c * ψ m) (x y w : Int) : qg φ x y w = c * qg ψ x y w := by
  unfold qg
  rw [h 0 (by decide), h 1 (by decide), h 2 (by decide), h 3 (by decide), h 4 (by decide), h 5 (by decide), h 6 (by decide), h 7 (by decide), h 8 (by decide), h 9 (by decide), h 10 (by decide), h 11 (by decide), h 12 (by decide), h 13 (by decide), h 14 (by decide)]
  clear h
  grind
theorem lr_ix (φ : Nat → Int) : ∀ m, m < 15 → gd (lr φ) (ix15 m) = φ m := fun m hm => by
  match m, hm with
  | 0, _ => rfl
  | 1, _ => rfl
  | 2, _ => rfl
  | 3, _ => rfl
  | 4, _ => rfl
  | 5, _ => rfl
  | 6, _ => rfl
  | 7, _ => rfl
  | 8, _ => rfl
  | 9, _ => rfl
  | 10, _ => rfl
  | 11, _ => rfl
  | 12, _ => rfl
  | 13, _ => rfl
  | 14, _ => rfl
theorem ix15_lt (m : Nat) : ix15 m < 49 := by
  unfold ix15
  split <;> decide
/-- the eliminant by the numbers of f -/
theorem Fz_f {n : Nat} {X Y W f : Nat → Int} {c : Int} (h : ∀ t, c * evl (lfi f 49) t = Fz n X Y W (t7 t) t 1) (x y w : Int) : Fz n X Y W x y w = c * qg (c15 f) x y w := by
  obtain ⟨φ, hφ⟩ := Qm_Fz n X Y W
  dsimp only at hφ
  rw [hφ]
  have u := evl_uq (l := (lfi f 49).map (fun x => c * x)) (m := lr φ) (fun t => by rw [evl_map, h t, hφ, evl_lr])
  exact qg_15 (fun m hm => by rw [← lr_ix φ m hm, ← u, gd_map, gd_lfi, if_pos (ix15_lt m)]; rfl) x y w
theorem Fz_curve {n : Nat} (h1 : 1 ≤ n) (hn : n ≤ 4) {X Y W : Nat → Int} (hz : ∀ i, n < i → i < 5 → X i = 0 ∧ Y i = 0 ∧ W i = 0) (t : Int) : Fz n X Y W (pv X t) (pv Y t) (pv W t) = 0 := by
  have : n = 1 ∨ n = 2 ∨ n = 3 ∨ n = 4 := by omega
  rcases this with rfl | rfl | rfl | rfl
  · show m3 X Y W (pv X t) (pv Y t) (pv W t) 0 1 * _ * _ = 0
    have : m3 X Y W (pv X t) (pv Y t) (pv W t) 0 1 = 0 := by
      obtain ⟨a1, a2, a3⟩ := hz 2 (by decide) (by decide)
      obtain ⟨b1, b2, b3⟩ := hz 3 (by decide) (by decide)
      obtain ⟨c1, c2, c3⟩ := hz 4 (by decide) (by decide)
      unfold m3 pv
      rw [a1, a2, a3, b1, b2, b3, c1, c2, c3]
      clear a1 a2 a3 b1 b2 b3 c1 c2 c3 hz
      grind
    rw [this, Int.zero_mul, Int.zero_mul]
  · show F2 X Y W _ _ _ * _ = 0
    rw [F2_curve (hz 3 (by decide) (by decide)) (hz 4 (by decide) (by decide)), Int.zero_mul]
  · show F3 X Y W _ _ _ * _ = 0
    rw [F3_curve (hz 4 (by decide) (by decide)), Int.zero_mul]
  · exact FF_g X Y W t
/-- no divisors of nothing -/
theorem evl_big : ∀ (l : List Int), (∃ i, gd l i ≠ 0) → ∃ N : Int, ∀ t, N ≤ t → evl l t ≠ 0
  | [], ⟨i, h⟩ => absurd rfl h
  | a :: l, ⟨i, h⟩ => by
    by_cases q : ∃ i, gd l i ≠ 0
    · obtain ⟨N, hN⟩ := evl_big l q
      refine ⟨N.natAbs + a.natAbs + 1, fun t ht z => ?_⟩
      have h1 := hN t (by omega)
      have h2 : a + t * evl l t = 0 := z
      have h3 : (t * evl l t).natAbs = t.natAbs * (evl l t).natAbs := Int.natAbs_mul _ _
      have h4 : 1 ≤ (evl l t).natAbs := by omega
      have h5 := Nat.mul_le_mul (Nat.le_refl t.natAbs) h4
      omega
    · refine ⟨0, fun t _ z => ?_⟩
      have hl := evl_gd0 l (fun i => Classical.byContradiction fun y => q ⟨i, y⟩) t
      have h2 : a + t * evl l t = 0 := z
      rw [hl, Int.mul_zero, Int.add_zero] at h2
      match i with
      | 0 => exact h h2
      | i + 1 => exact q ⟨i, h⟩
theorem no_div {F V : Int → Int} (hF : Pf F) (hV : Pf V) (h0 : ∃ t, V t ≠ 0) (h : ∀ t, V t * F t = 0) (t : Int) : F t = 0 := by
  obtain ⟨l, hl⟩ := hF
  obtain ⟨m, hm⟩ := hV
  obtain ⟨N, hN⟩ := evl_big m (Classical.byContradiction fun q => by
    obtain ⟨t, ht⟩ := h0
    apply ht
    rw [hm]
    exact evl_gd0 m (fun i => Classical.byContradiction fun y => q ⟨i, y⟩) t)
  rw [hl]
  refine evl_gd0 l (evl_zero l N (fun t ht => ?_)) t
  have h1 := h t
  rcases Int.mul_eq_zero.mp h1 with z | z
  · rw [hm] at z
    exact absurd z (hN t ht)
  · rw [← hl]
    exact z
