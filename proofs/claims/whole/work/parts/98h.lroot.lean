def lk (a b c : Int) : List Int := [c, b, 0, 0, 0, 0, 0, a]
def t7 (t : Int) : Int := t * (t * (t * (t * (t * (t * t)))))
theorem evl_lk (a b c t : Int) : evl (lk a b c) t = a * t7 t + b * t + c * 1 := by
  unfold lk t7
  simp only [evl]
  grind
theorem lprim_mul {l m : List Int} (hl : lprim l) (hm : lprim m) : lprim (lmul l m) := fun p hp => by
  apply Classical.byContradiction
  intro q
  have h : ∀ i, (p : Int) ∣ conv l (gd m) i := fun i => by
    rw [← gd_mul]
    exact Classical.byContradiction fun z => q ⟨i, z⟩
  obtain ⟨j0, hj⟩ := hm p hp
  obtain ⟨i0, h0, h1⟩ := first_ex (P := fun i => ¬ (p : Int) ∣ gd m i) j0 j0 (Nat.le_refl _) hj
  obtain ⟨d, hd⟩ := conv_pm hp h0 (fun k hk => Classical.byContradiction fun q => h1 k hk q) l h
  obtain ⟨j, hj2⟩ := hl p hp
  apply hj2
  rw [hd, gd_map]
  exact ⟨_, rfl⟩
theorem lprim_lk {a b c : Int} (h : pr3 a b c) : lprim (lk a b c) := fun p hp => by
  apply Classical.byContradiction
  intro q
  have hj : ∀ j, (p : Int) ∣ gd (lk a b c) j := fun j => Classical.byContradiction fun z => q ⟨j, z⟩
  exact h p hp ⟨hj 7, hj 1, hj 0⟩
theorem lprim_ne {f : List Int} (hf : lprim f) {N : Int} (hN : N ≠ 0) (h : ∀ t, N * evl f t = 0) : False := by
  obtain ⟨j, hj⟩ := hf 2 irr2
  apply hj
  have u := evl_uq (l := f) (m := []) (fun t => by
    rcases Int.mul_eq_zero.mp (h t) with z | z
    · exact absurd z hN
    · exact z) j
  rw [u]
  exact ⟨0, rfl⟩
theorem lodd_sq {e : List Int} (he : lodd e) : lodd (lmul e e) := by
  apply Classical.byContradiction
  intro q
  obtain ⟨j, hj⟩ := he
  have := all_even (c := e) (fun i => by
    rw [← gd_mul]
    have h1 : ¬ gd (lmul e e) i % 2 = 1 := fun z => q ⟨i, z⟩
    have h2 := Int.emod_two_eq (gd (lmul e e) i)
    omega) j
  omega
/-- what the line's numbers are once they are near -/
theorem near_line {K : Nat} {α β γ a b c : Int} (h : (∀ i, (2 ^ K : Int) ∣ gd (lk α β γ) i - gd (lk a b c) i) ∨ ∀ i, (2 ^ K : Int) ∣ gd (lk α β γ) i + gd (lk a b c) i) (h1 : α.natAbs + a.natAbs < 2 ^ K) (h2 : β.natAbs + b.natAbs < 2 ^ K) (h3 : γ.natAbs + c.natAbs < 2 ^ K) : (α = a ∧ β = b ∧ γ = c) ∨ (α = -a ∧ β = -b ∧ γ = -c) := by
  rcases h with h | h
  · left
    have q1 : α - a = 0 := small_zero (h 7) (show (α - a).natAbs < 2 ^ K by omega)
    have q2 : β - b = 0 := small_zero (h 1) (show (β - b).natAbs < 2 ^ K by omega)
    have q3 : γ - c = 0 := small_zero (h 0) (show (γ - c).natAbs < 2 ^ K by omega)
    omega
  · right
    have q1 : α + a = 0 := small_zero (h 7) (show (α + a).natAbs < 2 ^ K by omega)
    have q2 : β + b = 0 := small_zero (h 1) (show (β + b).natAbs < 2 ^ K by omega)
    have q3 : γ + c = 0 := small_zero (h 0) (show (γ + c).natAbs < 2 ^ K by omega)
    omega
theorem sg_zero {α β γ a b c x y w : Int} (h : (α = a ∧ β = b ∧ γ = c) ∨ (α = -a ∧ β = -b ∧ γ = -c)) (h0 : a * x + b * y + c * w = 0) : α * x + β * y + γ * w = 0 := by
  rcases h with ⟨h1, h2, h3⟩ | ⟨h1, h2, h3⟩
  · rw [h1, h2, h3]
    exact h0
  · rw [h1, h2, h3]
    have : -a * x + -b * y + -c * w = -(a * x + b * y + c * w) := by clear h0; grind
    rw [this, h0]
    rfl
theorem sq_le {a : Int} {n : Nat} (h : (a * a).natAbs < n) : a.natAbs < n := by
  rw [Int.natAbs_mul] at h
  by_cases z : a.natAbs = 0
  · omega
  · have := Nat.mul_le_mul (Nat.le_refl a.natAbs) (Nat.one_le_iff_ne_zero.mpr z)
    omega
theorem cu_le {a : Int} {n : Nat} (h : (a * a * a).natAbs < n) : a.natAbs < n := by
  rw [Int.natAbs_mul] at h
  by_cases z : a.natAbs = 0
  · omega
  · have h1 : 1 ≤ (a * a).natAbs := by
      rw [Int.natAbs_mul]
      exact Nat.mul_le_mul (Nat.one_le_iff_ne_zero.mpr z) (Nat.one_le_iff_ne_zero.mpr z)
    have := Nat.mul_le_mul h1 (Nat.le_refl a.natAbs)
    omega
theorem line_zero2 {X Y W : Nat → Int} {f : List Int} {N α β γ : Int} {F : Int → Int} (hm : ∀ i j k, i < 5 → j < 5 → k < 5 → d3 X Y W i j k = 0) (hf : lprim f) (hN : N ≠ 0) (hv : ∀ t, N * evl f t = F2 X Y W (t7 t) t 1) (hF : Pf F) (ho : lodd (lk α β γ)) (h : ∀ t, evl (lk α β γ) t * evl (lk α β γ) t - evl f t = 2 ^ 64 * F t) (be : α.natAbs ≤ 2 ^ 62 ∧ β.natAbs ≤ 2 ^ 62 ∧ γ.natAbs ≤ 2 ^ 62) (bf : ∀ i, (gd f i).natAbs < 2 ^ 60) (i : Nat) (hi : i < 5) : α * X i + β * Y i + γ * W i = 0 := by
  by_cases hx : ∃ i j, i < 5 ∧ j < 5 ∧ ∃ x y w : Int, m3 X Y W x y w i j ≠ 0
  · obtain ⟨a, b, c, hp, hL, μ, hμ⟩ := plane_mu hm hx
    obtain ⟨k, hk⟩ := (plane_F hμ).1
    have hq := cont_eq hf (lprim_mul (lprim_lk hp) (lprim_lk hp)) _ N k (Nat.le_refl _) hN (fun t => by rw [hv t, hk, evl_mul, evl_lk])
    rcases hq with hq | hq
    · have u := evl_uq hq
      have n1 := bf 14
      have n2 := bf 2
      have n3 := bf 0
      rw [u 14] at n1
      rw [u 2] at n2
      rw [u 0] at n3
      have e1 : gd (lmul (lk a b c) (lk a b c)) 14 = a * a := by simp [lk, lmul, ladd, gd]
      have e2 : gd (lmul (lk a b c) (lk a b c)) 2 = b * b := by simp [lk, lmul, ladd, gd]
      have e3 : gd (lmul (lk a b c) (lk a b c)) 0 = c * c := by simp [lk, lmul, ladd, gd]
      rw [e1] at n1
      rw [e2] at n2
      rw [e3] at n3
      have n1 := sq_le n1
      have n2 := sq_le n2
      have n3 := sq_le n3
      have r := uq2 (A := 64) (by decide) hF ho (g := lk a b c) (fun t => by rw [← evl_mul (lk a b c), ← hq t]; exact h t)
      exact sg_zero (near_line (K := 63) r (by omega) (by omega) (by omega)) (hL i hi)
    · exfalso
      obtain ⟨r, hr⟩ := hF
      refine sum_sq (g := lk a b c) ho fun j => ?_
      have u := evl_uq (l := ladd (lmul (lk α β γ) (lk α β γ)) (lmul (lk a b c) (lk a b c))) (m := r.map (fun x => 2 ^ 64 * x)) (fun t => by
        have q1 := hq t
        have q2 := h t
        rw [evl_mul] at q1
        rw [evl_add, evl_mul, evl_mul, evl_map, ← hr t, ← q2]
        omega) j
      rw [u, gd_map]
      exact Int.dvd_trans (pw_le_dvd (i := 1 + 1) (j := 64) (by decide) ⟨1, by rw [Int.mul_one]⟩) (Int.dvd_mul_right _ _)
  · exfalso
    refine lprim_ne hf hN fun t => ?_
    have z : ∀ i j, i < 5 → j < 5 → ∀ x y w : Int, m3 X Y W x y w i j = 0 := fun i j hi hj x y w => Classical.byContradiction fun y' => hx ⟨i, j, hi, hj, x, y, w, y'⟩
    rw [hv t]
    unfold F2
    rw [z 0 1 (by decide) (by decide), z 0 2 (by decide) (by decide)]
    omega
theorem line_zero3 {X Y W : Nat → Int} {f : List Int} {N α β γ : Int} {F : Int → Int} (hm : ∀ i j k, i < 5 → j < 5 → k < 5 → d3 X Y W i j k = 0) (hf : lprim f) (hN : N ≠ 0) (hv : ∀ t, N * evl f t = F3 X Y W (t7 t) t 1) (hF : Pf F) (ho : lodd (lk α β γ)) (h : ∀ t, evl (lk α β γ) t * evl (lk α β γ) t * evl (lk α β γ) t - evl f t = 2 ^ 64 * F t) (be : α.natAbs ≤ 2 ^ 62 ∧ β.natAbs ≤ 2 ^ 62 ∧ γ.natAbs ≤ 2 ^ 62) (bf : ∀ i, (gd f i).natAbs < 2 ^ 60) (i : Nat) (hi : i < 5) : α * X i + β * Y i + γ * W i = 0 := by
  by_cases hx : ∃ i j, i < 5 ∧ j < 5 ∧ ∃ x y w : Int, m3 X Y W x y w i j ≠ 0
  · obtain ⟨a, b, c, hp, hL, μ, hμ⟩ := plane_mu hm hx
    obtain ⟨k, hk⟩ := (plane_F hμ).2.1
    have hq := cont_eq hf (lprim_mul (lprim_mul (lprim_lk hp) (lprim_lk hp)) (lprim_lk hp)) _ N k (Nat.le_refl _) hN (fun t => by rw [hv t, hk, evl_mul, evl_mul, evl_lk])
    have go : ∀ a b c : Int, a * X i + b * Y i + c * W i = 0 → (∀ t, evl f t = evl (lmul (lmul (lk a b c) (lk a b c)) (lk a b c)) t) → α * X i + β * Y i + γ * W i = 0 := fun a b c hL hq => by
      have u := evl_uq hq
      have n1 := bf 21
      have n2 := bf 3
      have n3 := bf 0
      rw [u 21] at n1
      rw [u 3] at n2
      rw [u 0] at n3
      have e1 : gd (lmul (lmul (lk a b c) (lk a b c)) (lk a b c)) 21 = a * a * a := by simp [lk, lmul, ladd, gd]
      have e2 : gd (lmul (lmul (lk a b c) (lk a b c)) (lk a b c)) 3 = b * b * b := by simp [lk, lmul, ladd, gd]
      have e3 : gd (lmul (lmul (lk a b c) (lk a b c)) (lk a b c)) 0 = c * c * c := by simp [lk, lmul, ladd, gd]
      rw [e1] at n1
      rw [e2] at n2
      rw [e3] at n3
      have n1 := cu_le n1
      have n2 := cu_le n2
      have n3 := cu_le n3
      have r := uq3 (A := 64) (e := lk α β γ) (g := lk a b c) rfl hF ho (fun t => by rw [← evl_mul (lk a b c), ← evl_mul _ (lk a b c), ← hq t]; exact h t)
      exact sg_zero (near_line (K := 64) (Or.inl r) (by omega) (by omega) (by omega)) hL
    rcases hq with hq | hq
    · exact go a b c (hL i hi) hq
    · refine go (-a) (-b) (-c) ?_ (fun t => ?_)
      · have e : -a * X i + -b * Y i + -c * W i = -(a * X i + b * Y i + c * W i) := by clear hL hq h; grind
        rw [e, hL i hi]
        rfl
      · rw [hq t, evl_mul, evl_mul, evl_mul, evl_mul, evl_lk, evl_lk]
        clear hL hq h
        grind
  · exfalso
    refine lprim_ne hf hN fun t => ?_
    have z : ∀ i j, i < 5 → j < 5 → ∀ x y w : Int, m3 X Y W x y w i j = 0 := fun i j hi hj x y w => Classical.byContradiction fun y' => hx ⟨i, j, hi, hj, x, y, w, y'⟩
    rw [hv t]
    unfold F3 dd3
    rw [z 0 1 (by decide) (by decide), z 0 2 (by decide) (by decide), z 0 3 (by decide) (by decide)]
    omega
theorem line_zero4 {X Y W : Nat → Int} {f : List Int} {N α β γ : Int} {F : Int → Int} (hm : ∀ i j k, i < 5 → j < 5 → k < 5 → d3 X Y W i j k = 0) (hf : lprim f) (hN : N ≠ 0) (hv : ∀ t, N * evl f t = FF X Y W (t7 t) t 1) (hF : Pf F) (ho : lodd (lk α β γ)) (h : ∀ t, evl (lk α β γ) t * evl (lk α β γ) t * (evl (lk α β γ) t * evl (lk α β γ) t) - evl f t = 2 ^ 64 * F t) (be : α.natAbs ≤ 2 ^ 61 ∧ β.natAbs ≤ 2 ^ 61 ∧ γ.natAbs ≤ 2 ^ 61) (bf : ∀ i, (gd f i).natAbs < 2 ^ 60) (i : Nat) (hi : i < 5) : α * X i + β * Y i + γ * W i = 0 := by
  by_cases hx : ∃ i j, i < 5 ∧ j < 5 ∧ ∃ x y w : Int, m3 X Y W x y w i j ≠ 0
  · obtain ⟨a, b, c, hp, hL, μ, hμ⟩ := plane_mu hm hx
    obtain ⟨k, hk⟩ := (plane_F hμ).2.2
    have hq := cont_eq hf (lprim_mul (lprim_mul (lprim_lk hp) (lprim_lk hp)) (lprim_mul (lprim_lk hp) (lprim_lk hp))) _ N k (Nat.le_refl _) hN (fun t => by rw [hv t, hk, evl_mul, evl_mul, evl_lk])
    rcases hq with hq | hq
    · have u := evl_uq hq
      have n1 := bf 28
      have n2 := bf 4
      have n3 := bf 0
      rw [u 28] at n1
      rw [u 4] at n2
      rw [u 0] at n3
      have e1 : gd (lmul (lmul (lk a b c) (lk a b c)) (lmul (lk a b c) (lk a b c))) 28 = a * a * (a * a) := by simp [lk, lmul, ladd, gd]
      have e2 : gd (lmul (lmul (lk a b c) (lk a b c)) (lmul (lk a b c) (lk a b c))) 4 = b * b * (b * b) := by simp [lk, lmul, ladd, gd]
      have e3 : gd (lmul (lmul (lk a b c) (lk a b c)) (lmul (lk a b c) (lk a b c))) 0 = c * c * (c * c) := by simp [lk, lmul, ladd, gd]
      rw [e1] at n1
      rw [e2] at n2
      rw [e3] at n3
      have n1 := sq_le (sq_le n1)
      have n2 := sq_le (sq_le n2)
      have n3 := sq_le (sq_le n3)
      have r := uq4 (A := 64) (by decide) hF ho (g := lk a b c) (fun t => by rw [← evl_mul (lk a b c), ← evl_mul (lmul (lk a b c) (lk a b c)), ← hq t]; exact h t)
      exact sg_zero (near_line (K := 62) r (by omega) (by omega) (by omega)) (hL i hi)
    · exfalso
      obtain ⟨r, hr⟩ := hF
      refine sum_sq (g := lmul (lk a b c) (lk a b c)) (lodd_sq ho) fun j => ?_
      have u := evl_uq (l := ladd (lmul (lmul (lk α β γ) (lk α β γ)) (lmul (lk α β γ) (lk α β γ))) (lmul (lmul (lk a b c) (lk a b c)) (lmul (lk a b c) (lk a b c)))) (m := r.map (fun x => 2 ^ 64 * x)) (fun t => by
        have q1 := hq t
        have q2 := h t
        rw [evl_add, evl_map, ← hr t, ← q2, evl_mul (lmul (lk α β γ) (lk α β γ)), evl_mul (lk α β γ)]
        omega) j
      rw [u, gd_map]
      exact Int.dvd_trans (pw_le_dvd (i := 1 + 1) (j := 64) (by decide) ⟨1, by rw [Int.mul_one]⟩) (Int.dvd_mul_right _ _)
  · exfalso
    refine lprim_ne hf hN fun t => ?_
    have z : ∀ i j, i < 5 → j < 5 → ∀ x y w : Int, m3 X Y W x y w i j = 0 := fun i j hi hj x y w => Classical.byContradiction fun y' => hx ⟨i, j, hi, hj, x, y, w, y'⟩
    rw [hv t]
    unfold FF
    rw [z 0 1 (by decide) (by decide), z 0 2 (by decide) (by decide), z 0 3 (by decide) (by decide), z 0 4 (by decide) (by decide)]
    unfold dS det4
    grind
