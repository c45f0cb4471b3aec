/-! a root mod 2 ^ 64 is nothing on the curve: all cases -/
theorem evl_gd {l m : List Int} (h : ∀ i, gd l i = gd m i) (t : Int) : evl l t = evl m t := by
  have := evl_gd0 (ladd l (lneg m)) (fun i => by rw [gd_add, gd_neg, h i]; omega) t
  rw [evl_add, evl_neg] at this
  omega
def SUi (E : Nat → Int) (D : Nat) : Prop := ∀ a b, a < 7 → b < 7 → D < a + b → E (7 * a + b) = 0
theorem SUi_at {E : Nat → Int} {D i : Nat} (h : SUi E D) (hi : i < 49) (hd : D < i / 7 + i % 7) : E i = 0 := by
  have := h (i / 7) (i % 7) (by omega) (by omega) hd
  rw [show 7 * (i / 7) + i % 7 = i by omega] at this
  exact this
theorem odd_root {f e : List Int} {k : Nat} {H : Int → Int} (hf : lprim f) (hk : 1 ≤ k) (hH : Pf H) (h : ∀ t, evl e t ^ k = evl f t + 18446744073709551616 * H t) : lodd e := by
  apply Classical.byContradiction
  intro q
  obtain ⟨d, _, hd⟩ := div_ls (n := 2) e (fun j => by
    have : ¬ gd e j % 2 = 1 := fun z => q ⟨j, z⟩
    omega)
  obtain ⟨r, hr⟩ := hH
  obtain ⟨p, hp⟩ : Pf (fun t => evl d t * evl e t ^ (k - 1)) := (Pf_evl d).mul (by
    have : ∀ m : Nat, Pf (fun t => evl e t ^ m) := fun m => by
      induction m with
      | zero => exact ⟨[1], fun t => by show evl e t ^ 0 = 1 + t * 0; rw [Int.pow_zero]; omega⟩
      | succ m ih =>
        obtain ⟨l, hl⟩ := ih.mul (Pf_evl e)
        exact ⟨l, fun t => by rw [← hl t]; dsimp only; rw [Int.pow_succ]⟩
    exact this (k - 1))
  obtain ⟨j, hj⟩ := hf 2 irr2
  apply hj
  have u := evl_uq (l := f) (m := (ladd p (r.map (fun x => -9223372036854775808 * x))).map (fun x => 2 * x)) (fun t => by
    rw [evl_map, evl_add, evl_map, ← hp t, ← hr t]
    dsimp only
    have h1 := h t
    have h2 : evl e t ^ k = evl e t ^ (k - 1) * evl e t := by rw [← Int.pow_succ]; congr 1; omega
    have h3 : evl e t = 2 * evl d t := by rw [hd, evl_map]
    have h4 : evl e t ^ k = 2 * (evl d t * evl e t ^ (k - 1)) := by
      rw [h2, Int.mul_comm (evl e t ^ (k - 1)) (evl e t)]
      conv => lhs; arg 1; rw [h3]
      rw [Int.mul_assoc]
    omega) j
  rw [u, gd_map]
  exact ⟨_, rfl⟩
def q2l (α β γ : Int) (m : Nat) : Int := match m with
  | 0 => α * α
  | 1 => 2 * (α * β)
  | 2 => β * β
  | 3 => 2 * (α * γ)
  | 4 => 2 * (β * γ)
  | _ => γ * γ
def q1l (α β γ : Int) (m : Nat) : Int := match m with
  | 0 => 0
  | 1 => 0
  | 2 => 0
  | 3 => α
  | 4 => β
  | _ => γ
def q0l (m : Nat) : Int := match m with
  | 5 => 1
  | _ => 0
theorem q2l_e (α β γ x y w : Int) : cE (q2l α β γ) x y w = (α * x + β * y + γ * w) * (α * x + β * y + γ * w) := by
  unfold cE
  simp only [q2l]
  grind
theorem q1l_e (α β γ x y w : Int) : cE (q1l α β γ) x y w = (α * x + β * y + γ * w) * w := by
  unfold cE
  simp only [q1l]
  grind
theorem q0l_e (x y w : Int) : cE q0l x y w = w * w := by
  unfold cE
  simp only [q0l]
  grind
/-- the numbers of a form that is f mod 2 ^ 64 -/
theorem form_f {f ψ : Nat → Int} {H : Int → Int} (hH : Pf H) (h : ∀ t, qg ψ (t7 t) t 1 = evl (lfi f 49) t + 18446744073709551616 * H t) : ∃ G : Nat → Int, ∀ m, m < 15 → ψ m = c15 f m + 18446744073709551616 * G m := by
  obtain ⟨r, hr⟩ := hH
  have u := evl_uq (l := lr ψ) (m := ladd (lfi f 49) (r.map (fun x => 18446744073709551616 * x))) (fun t => by rw [evl_lr, evl_add, evl_map, h t, hr t])
  exact ⟨fun m => gd r (ix15 m), fun m hm => by
    have := u (ix15 m)
    rw [lr_ix ψ m hm, gd_add, gd_map, gd_lfi, if_pos (ix15_lt m)] at this
    exact this⟩
theorem qg_add {φ ψ G : Nat → Int} {c : Int} (h : ∀ m, m < 15 → φ m = ψ m + c * G m) (x y w : Int) : qg φ x y w = qg ψ x y w + c * qg G x y w := by
  unfold qg
  rw [h 0 (by decide), h 1 (by decide), h 2 (by decide), h 3 (by decide), h 4 (by decide), h 5 (by decide), h 6 (by decide), h 7 (by decide), h 8 (by decide), h 9 (by decide), h 10 (by decide), h 11 (by decide), h 12 (by decide), h 13 (by decide), h 14 (by decide)]
  clear h
  grind
theorem Pf_qG {x y w : Int → Int} (G : Nat → Int) (hx : Pf x) (hy : Pf y) (hw : Pf w) : Pf (fun t => qg G (x t) (y t) (w t)) := by
  unfold qg
  repeat (first | exact hx | exact hy | exact hw | exact Pf.con _ | apply Pf.add | apply Pf.mul)
def g3 (G : Nat → Int) (x y w : Int) : Int := G 5 * (x * x * x) + G 6 * (x * x * y) + G 7 * (x * y * y) + G 8 * (y * y * y) + w * (G 9 * (x * x) + G 10 * (x * y) + G 11 * (y * y)) + w * w * (G 12 * x + G 13 * y + G 14 * w)
theorem qg_g3 {G : Nat → Int} (h : ∀ m, m < 5 → G m = 0) (x y w : Int) : qg G x y w = w * g3 G x y w := by
  unfold qg g3
  rw [h 0 (by decide), h 1 (by decide), h 2 (by decide), h 3 (by decide), h 4 (by decide)]
  clear h
  grind
def g2 (G : Nat → Int) (x y w : Int) : Int := G 9 * (x * x) + G 10 * (x * y) + G 11 * (y * y) + w * (G 12 * x + G 13 * y + G 14 * w)
theorem qg_g2 {G : Nat → Int} (h : ∀ m, m < 9 → G m = 0) (x y w : Int) : qg G x y w = w * w * g2 G x y w := by
  unfold qg g2
  rw [h 0 (by decide), h 1 (by decide), h 2 (by decide), h 3 (by decide), h 4 (by decide), h 5 (by decide), h 6 (by decide), h 7 (by decide), h 8 (by decide)]
  clear h
  grind
theorem Pf_g3 {x y w : Int → Int} (G : Nat → Int) (hx : Pf x) (hy : Pf y) (hw : Pf w) : Pf (fun t => g3 G (x t) (y t) (w t)) := by
  unfold g3
  repeat (first | exact hx | exact hy | exact hw | exact Pf.con _ | apply Pf.add | apply Pf.mul)
theorem Pf_g2 {x y w : Int → Int} (G : Nat → Int) (hx : Pf x) (hy : Pf y) (hw : Pf w) : Pf (fun t => g2 G (x t) (y t) (w t)) := by
  unfold g2
  repeat (first | exact hx | exact hy | exact hw | exact Pf.con _ | apply Pf.add | apply Pf.mul)
theorem Pf_lv (a b c : Int) (X Y W : Nat → Int) : Pf (fun t => lv a b c X Y W t) := by
  unfold lv
  exact (((Pf.con a).mul (Pf_pv X)).add ((Pf.con b).mul (Pf_pv Y))).add ((Pf.con c).mul (Pf_pv W))
/-- the line's minors -/
theorem line_min {n k : Nat} {X Y W f : Nat → Int} {c α β γ : Int} {H : Int → Int} (h1 : 1 ≤ n) (hn : n ≤ 4) (hz : ∀ i, n < i → i < 5 → X i = 0 ∧ Y i = 0 ∧ W i = 0) (hW : ∃ t, pv W t ≠ 0) (hc : c ≠ 0) (hf : ∀ t, c * evl (lfi f 49) t = Fz n X Y W (t7 t) t 1) (hd : SUi f k) (hk : k = 2 ∨ k = 3 ∨ k = 4) (hkn : k ≤ n) (hb4 : n = 4 → ∀ i j l, i < 5 → j < 5 → l < 5 → (d3 X Y W i j l).natAbs < 2 ^ 16) (hb : ∀ i j l, i < 5 → j < 5 → l < 5 → (d3 X Y W i j l).natAbs < 2 ^ 21) (ho : lodd (lk α β γ)) (hH : Pf H) (h : ∀ t, evl (lk α β γ) t ^ k = evl (lfi f 49) t + 18446744073709551616 * H t) : ∀ i j l, i < 5 → j < 5 → l < 5 → d3 X Y W i j l = 0 := by
  have hA := Fz_f hf
  have hcur : ∀ t, qg (c15 f) (pv X t) (pv Y t) (pv W t) = 0 := fun t => by
    have := hA (pv X t) (pv Y t) (pv W t)
    rw [Fz_curve h1 hn hz] at this
    rcases Int.mul_eq_zero.mp this.symm with z | z
    · exact absurd z hc
    · exact z
  have hz15 : ∀ m, m < 15 → k < ix15 m / 7 + ix15 m % 7 → c15 f m = 0 := fun m _ hm => SUi_at (E := f) hd (ix15_lt m) hm
  rcases hk with rfl | rfl | rfl
  · obtain ⟨G, hG⟩ := form_f (ψ := cc2 (q2l α β γ) q0l) hH (fun t => by
      rw [← cc2_e, q2l_e, q0l_e, ← h t, evl_lk]
      generalize α * t7 t + β * t + γ * 1 = z
      grind)
    have hG0 : ∀ m, m < 9 → G m = 0 := fun m hm => by
      have g1 := hG m (by omega)
      have g2 : c15 f m = 0 := hz15 m (by omega) (by match m, hm with | 0, _ => decide | 1, _ => decide | 2, _ => decide | 3, _ => decide | 4, _ => decide | 5, _ => decide | 6, _ => decide | 7, _ => decide | 8, _ => decide)
      have g3 : cc2 (q2l α β γ) q0l m = 0 := by
        match m, hm with
        | 0, _ => simp [cc2, q0l]
        | 1, _ => simp [cc2, q0l]
        | 2, _ => simp [cc2, q0l]
        | 3, _ => simp [cc2, q0l]
        | 4, _ => simp [cc2, q0l]
        | 5, _ => simp [cc2, q0l]
        | 6, _ => simp [cc2, q0l]
        | 7, _ => simp [cc2, q0l]
        | 8, _ => simp [cc2, q0l]
      omega
    have key := no_div (F := fun t => lv α β γ X Y W t * lv α β γ X Y W t - 18446744073709551616 * g2 G (pv X t) (pv Y t) (pv W t)) (V := fun t => pv W t * pv W t) (((Pf_lv _ _ _ _ _ _).mul (Pf_lv _ _ _ _ _ _)).sub ((Pf.con _).mul (Pf_g2 G (Pf_pv X) (Pf_pv Y) (Pf_pv W)))) ((Pf_pv W).mul (Pf_pv W)) (by
      obtain ⟨t, ht⟩ := hW
      exact ⟨t, fun z => by rcases Int.mul_eq_zero.mp z with y | y <;> exact ht y⟩) (fun t => by
      have e1 := qg_add hG (pv X t) (pv Y t) (pv W t)
      rw [← cc2_e, q2l_e, q0l_e, hcur t, qg_g2 hG0] at e1
      unfold lv
      generalize g2 G (pv X t) (pv Y t) (pv W t) = g at *
      generalize α * pv X t + β * pv Y t + γ * pv W t = z at *
      generalize pv W t = w at *
      clear hG hG0 hA hcur hz15 h hf hb4 hb
      grind)
    exact minors0 (lodd_lk ho) (line2 (Pf_g2 G (Pf_pv X) (Pf_pv Y) (Pf_pv W)) (fun t => by
      have := key t
      omega)) (fun i j l hi hj hl => by
      have := hb i j l hi hj hl
      omega)
  · obtain ⟨G, hG⟩ := form_f (ψ := cc2 (q2l α β γ) (q1l α β γ)) hH (fun t => by
      rw [← cc2_e, q2l_e, q1l_e, ← h t, evl_lk]
      generalize α * t7 t + β * t + γ * 1 = z
      grind)
    have hG0 : ∀ m, m < 5 → G m = 0 := fun m hm => by
      have g1 := hG m (by omega)
      have g2 : c15 f m = 0 := hz15 m (by omega) (by match m, hm with | 0, _ => decide | 1, _ => decide | 2, _ => decide | 3, _ => decide | 4, _ => decide)
      have g3 : cc2 (q2l α β γ) (q1l α β γ) m = 0 := by
        match m, hm with
        | 0, _ => simp [cc2, q1l]
        | 1, _ => simp [cc2, q1l]
        | 2, _ => simp [cc2, q1l]
        | 3, _ => simp [cc2, q1l]
        | 4, _ => simp [cc2, q1l]
      omega
    have key := no_div (F := fun t => lv α β γ X Y W t * lv α β γ X Y W t * lv α β γ X Y W t - 18446744073709551616 * g3 G (pv X t) (pv Y t) (pv W t)) (V := fun t => pv W t) ((((Pf_lv _ _ _ _ _ _).mul (Pf_lv _ _ _ _ _ _)).mul (Pf_lv _ _ _ _ _ _)).sub ((Pf.con _).mul (Pf_g3 G (Pf_pv X) (Pf_pv Y) (Pf_pv W)))) (Pf_pv W) hW (fun t => by
      have e1 := qg_add hG (pv X t) (pv Y t) (pv W t)
      rw [← cc2_e, q2l_e, q1l_e, hcur t, qg_g3 hG0] at e1
      unfold lv
      generalize g3 G (pv X t) (pv Y t) (pv W t) = g at *
      generalize α * pv X t + β * pv Y t + γ * pv W t = z at *
      generalize pv W t = w at *
      clear hG hG0 hA hcur hz15 h hf hb4 hb
      grind)
    exact minors0 (lodd_lk ho) (line3 (Pf_g3 G (Pf_pv X) (Pf_pv Y) (Pf_pv W)) (fun t => by
      have := key t
      omega)) hb
  · have n4 : n = 4 := by omega
    obtain ⟨G, hG⟩ := form_f (ψ := cc2 (q2l α β γ) (q2l α β γ)) hH (fun t => by
      rw [← cc2_e, q2l_e, ← h t, evl_lk]
      generalize α * t7 t + β * t + γ * 1 = z
      grind)
    exact minors0 (lodd_lk ho) (line4 (Pf_qG G (Pf_pv X) (Pf_pv Y) (Pf_pv W)) (fun t => by
      have e1 := qg_add hG (pv X t) (pv Y t) (pv W t)
      rw [← cc2_e, q2l_e, hcur t] at e1
      unfold lv
      omega)) (hb4 n4)
