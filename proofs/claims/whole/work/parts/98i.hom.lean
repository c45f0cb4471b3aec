/-! from w = 1 to every w -/
def lsc (w : Int) : List Int → List Int
  | [] => []
  | a :: l => a :: (lsc w l).map (fun x => w * x)
theorem evl_lsc (w : Int) : ∀ (l : List Int) (s : Int), evl (lsc w l) s = evl l (w * s)
  | [], s => rfl
  | a :: l, s => by
    show a + s * evl ((lsc w l).map (fun x => w * x)) s = a + w * s * evl l (w * s)
    rw [evl_map, evl_lsc w l s]
    grind
theorem lsc_zero {w : Int} (hw : w ≠ 0) : ∀ (l : List Int), (∀ i, gd (lsc w l) i = 0) → ∀ i, gd l i = 0
  | [], _, i => rfl
  | a :: l, h, 0 => h 0
  | a :: l, h, i + 1 => by
    refine lsc_zero hw l (fun j => ?_) i
    have h1 : gd ((lsc w l).map (fun x => w * x)) j = 0 := h (j + 1)
    rw [gd_map] at h1
    rcases Int.mul_eq_zero.mp h1 with z | z
    · exact absurd z hw
    · exact z
theorem evl_gd0 : ∀ (l : List Int), (∀ i, gd l i = 0) → ∀ t, evl l t = 0
  | [], _, _ => rfl
  | a :: l, h, t => by
    show a + t * evl l t = 0
    have h0 : a = 0 := h 0
    rw [h0, evl_gd0 l (fun i => h (i + 1)) t]
    omega
theorem van {Q : Int → Int} (hQ : Pf Q) {w : Int} (hw : w ≠ 0) (h : ∀ s, Q (w * s) = 0) (u : Int) : Q u = 0 := by
  obtain ⟨l, hl⟩ := hQ
  have h1 := evl_zero (lsc w l) 0 (fun t _ => by rw [evl_lsc, ← hl, h])
  rw [hl]
  exact evl_gd0 l (lsc_zero hw l h1) u
theorem van1 {Q : Int → Int} (hQ : Pf Q) (h : ∀ s, 1 ≤ s → Q s = 0) (u : Int) : Q u = 0 := by
  obtain ⟨l, hl⟩ := hQ
  have h1 := evl_zero l 1 (fun t ht => by rw [← hl, h t ht])
  rw [hl]
  exact evl_gd0 l h1 u
theorem hom_ext {P : Int → Int → Int → Int} (n : Nat) (px : ∀ y w, Pf (fun x => P x y w)) (py : ∀ x w, Pf (fun y => P x y w)) (pw : ∀ x y, Pf (fun w => P x y w)) (hs : ∀ s x y w, P (s * x) (s * y) (s * w) = s ^ n * P x y w) (h1 : ∀ x y, P x y 1 = 0) (x y w : Int) : P x y w = 0 := by
  refine van1 (pw x y) (fun s hs1 => ?_) w
  have s0 : s ≠ 0 := by omega
  refine van (py x s) s0 (fun y' => ?_) y
  refine van (px (s * y') s) s0 (fun x' => ?_) x
  have := hs s x' y' 1
  rw [Int.mul_one] at this
  rw [this, h1, Int.mul_zero]
theorem Pf.lin (a b : Int) : Pf (fun t => a * t + b) := ((Pf.con a).mul Pf.var).add (Pf.con b)
theorem Pf.con' {F : Int → Int} (c : Int) (h : ∀ t, F t = c) : Pf F := ⟨[c], fun t => by rw [h t]; show c = c + t * 0; omega⟩
theorem pf_m3x (X Y W : Nat → Int) (y w : Int) (i j : Nat) : Pf (fun x => m3 X Y W x y w i j) := (((Pf.var).mul (Pf.con _)).sub (Pf.con _)).add (Pf.con _)
theorem pf_m3y (X Y W : Nat → Int) (x w : Int) (i j : Nat) : Pf (fun y => m3 X Y W x y w i j) := ((Pf.con _).sub ((Pf.var).mul (Pf.con _))).add (Pf.con _)
theorem pf_m3w (X Y W : Nat → Int) (x y : Int) (i j : Nat) : Pf (fun w => m3 X Y W x y w i j) := ((Pf.con _).sub (Pf.con _)).add ((Pf.var).mul (Pf.con _))
theorem pf_F2 {m : Int → Nat → Nat → Int} (h : ∀ i j, Pf (fun t => m t i j)) : Pf (fun t => m t 0 1 * m t 1 2 - m t 0 2 * m t 0 2) := ((h 0 1).mul (h 1 2)).sub ((h 0 2).mul (h 0 2))
theorem pf_dd3 {a b c d e f : Int → Int} (ha : Pf a) (hb : Pf b) (hc : Pf c) (hd : Pf d) (he : Pf e) (hf : Pf f) : Pf (fun t => dd3 (a t) (b t) (c t) (d t) (e t) (f t)) := ((ha.mul ((hd.mul hf).sub (he.mul he))).sub (hb.mul ((hb.mul hf).sub (he.mul hc)))).add (hc.mul ((hb.mul he).sub (hd.mul hc)))
theorem m3_s (X Y W : Nat → Int) (s x y w : Int) (i j : Nat) : m3 X Y W (s * x) (s * y) (s * w) i j = m3 X Y W x y w i j * s := by
  unfold m3
  grind
theorem F2_s (X Y W : Nat → Int) (s x y w : Int) : F2 X Y W (s * x) (s * y) (s * w) = s ^ 2 * F2 X Y W x y w := by
  unfold F2
  simp only [m3_s]
  grind
theorem F3_s (X Y W : Nat → Int) (s x y w : Int) : F3 X Y W (s * x) (s * y) (s * w) = s ^ 3 * F3 X Y W x y w := by
  unfold F3
  simp only [m3_s]
  rw [← Int.add_mul, dd3_h]
  grind
theorem FF_s (X Y W : Nat → Int) (s x y w : Int) : FF X Y W (s * x) (s * y) (s * w) = s ^ 4 * FF X Y W x y w := by
  unfold FF
  simp only [m3_s]
  rw [← Int.add_mul, ← Int.add_mul, ← Int.add_mul, dS_h]
  grind
theorem F2_curve {X Y W : Nat → Int} (h3 : X 3 = 0 ∧ Y 3 = 0 ∧ W 3 = 0) (h4 : X 4 = 0 ∧ Y 4 = 0 ∧ W 4 = 0) (t : Int) : F2 X Y W (pv X t) (pv Y t) (pv W t) = 0 := by
  have e1 : m3 X Y W (pv X t) (pv Y t) (pv W t) 0 1 = t * t * d3 X Y W 0 1 2 := by
    unfold m3 pv d3
    rw [h3.1, h3.2.1, h3.2.2, h4.1, h4.2.1, h4.2.2]
    clear h3 h4
    grind
  have e2 : m3 X Y W (pv X t) (pv Y t) (pv W t) 0 2 = -(t * d3 X Y W 0 1 2) := by
    unfold m3 pv d3
    rw [h3.1, h3.2.1, h3.2.2, h4.1, h4.2.1, h4.2.2]
    clear h3 h4 e1
    grind
  have e3 : m3 X Y W (pv X t) (pv Y t) (pv W t) 1 2 = d3 X Y W 0 1 2 := by
    unfold m3 pv d3
    rw [h3.1, h3.2.1, h3.2.2, h4.1, h4.2.1, h4.2.2]
    clear h3 h4 e1 e2
    grind
  unfold F2
  rw [e1, e2, e3]
  clear e1 e2 e3
  grind
