/-! the locus: a root mod 2^64 is a true root -/
theorem conic_true {X Y W e G Q : Nat → Int} {c N : Int} {f : List Int} (hS : SQ X Y W e G c) (hc : c ≠ 0) (hN : N ≠ 0) (hQ : ∀ x y w : Int, N * FF X Y W x y w = cE Q x y w * cE Q x y w) (hf : lprim f) (hv : ∀ t, evl f t = cE e (t7 t) t 1 * cE e (t7 t) t 1 - 2 ^ 64 * qg G (t7 t) t 1) (bf : ∀ i, (gd f i).natAbs < 2 ^ 60) (be : ∀ i, i < 6 → (e i).natAbs ≤ 2 ^ 62) (ho : lodd (lq e)) : ∀ t, evl f t = evl (lq e) t * evl (lq e) t := by
  have hNc : N * c ≠ 0 := fun z => by
    rcases Int.mul_eq_zero.mp z with y | y
    · exact hN y
    · exact hc y
  have h1 : ∀ t, N * c * evl f t = evl (lq Q) t * evl (lq Q) t := fun t => by
    rw [evl_lq, ← hQ, hS, hv t, Int.mul_assoc]
  obtain ⟨m, g, hm, hg, hs⟩ := sq_fac hf _ (N * c) (lq Q) (Nat.le_refl _) hNc h1
  obtain ⟨q, hq⟩ : ∃ q : Nat → Int, ∀ i, i < 6 → Q i = m * q i := by
    have k : ∀ i, gd (lq Q) i = m * gd g i := fun i => by rw [hg, gd_map]
    refine ⟨fun i => match i with | 0 => gd g 14 | 1 => gd g 8 | 2 => gd g 2 | 3 => gd g 7 | 4 => gd g 1 | _ => gd g 0, fun i hi => ?_⟩
    match i, hi with
    | 0, _ => exact k 14
    | 1, _ => exact k 8
    | 2, _ => exact k 2
    | 3, _ => exact k 7
    | 4, _ => exact k 1
    | 5, _ => exact k 0
  have hmm : m * m ≠ 0 := fun z => by
    rcases Int.mul_eq_zero.mp z with y | y <;> exact hm y
  have h2 : ∀ t, N * c * evl f t = m * m * (evl (lq q) t * evl (lq q) t) := fun t => by
    rw [h1 t, evl_lq, evl_lq, cE_mul hq]
    clear hS hQ hv h1 hg hq
    grind
  have hsq : ∀ t, evl f t = evl (lq q) t * evl (lq q) t := by
    rcases hs with z | z
    · intro t
      apply Int.eq_of_mul_eq_mul_left hmm
      rw [← h2 t, z]
    · exfalso
      have h4 : ∀ t, evl f t = -(evl (lq q) t * evl (lq q) t) := fun t => by
        apply Int.eq_of_mul_eq_mul_left hmm
        have := h2 t
        rw [z, Int.neg_mul] at this
        rw [Int.mul_neg, ← this, Int.neg_neg]
      obtain ⟨r, hr⟩ := Pf_q7 G
      refine sum_sq (g := lq q) ho fun j => ?_
      have u := evl_uq (l := ladd (lmul (lq e) (lq e)) (lmul (lq q) (lq q))) (m := r.map (fun x => 2 ^ 64 * x)) (fun t => by
        have q1 := h4 t
        have q2 := hv t
        have q3 : qg G (t7 t) t 1 = evl r t := hr t
        rw [evl_add, evl_mul, evl_mul, evl_map, ← q3, evl_lq e]
        clear hS hQ hv h1 h2 hg
        omega) j
      rw [u, gd_map]
      exact Int.dvd_trans (pw_le_dvd (i := 1 + 1) (j := 64) (by decide) ⟨1, by rw [Int.mul_one]⟩) (Int.dvd_mul_right _ _)
  have bq : ∀ i, i < 6 → (q i).natAbs < 2 ^ 31 := lq_bound fun i => by
    have u := evl_uq (l := f) (m := lmul (lq q) (lq q)) (fun t => by rw [evl_mul]; exact hsq t) i
    rw [← u]
    exact bf i
  have r := uq2 (A := 64) (by decide) (Pf_q7 G) ho (g := lq q) (fun t => by
    rw [← hsq t, hv t, evl_lq]
    omega)
  have fin : ∀ s : Int, (s = 1 ∨ s = -1) → (∀ i, (2 ^ 63 : Int) ∣ gd (lq e) i - s * gd (lq q) i) → ∀ t, evl f t = evl (lq e) t * evl (lq e) t := fun s hs1 hd => by
    have k : ∀ {i j}, j < 6 → gd (lq e) i = e j → gd (lq q) i = q j → e j = s * q j := fun {i j} hj e1 e2 => by
      have d := hd i
      rw [e1, e2] at d
      have b1 := be j hj
      have b2 := bq j hj
      have : e j - s * q j = 0 := small_zero d (by rcases hs1 with y | y <;> rw [y] <;> omega)
      omega
    have eq6 : ∀ i, i < 6 → e i = s * q i := fun i hi => by
      match i, hi with
      | 0, _ => exact k (i := 14) (by decide) rfl rfl
      | 1, _ => exact k (i := 8) (by decide) rfl rfl
      | 2, _ => exact k (i := 2) (by decide) rfl rfl
      | 3, _ => exact k (i := 7) (by decide) rfl rfl
      | 4, _ => exact k (i := 1) (by decide) rfl rfl
      | 5, _ => exact k (i := 0) (by decide) rfl rfl
    intro t
    rw [hsq t, evl_lq e, cE_mul (q := q) (m := s) eq6, ← evl_lq q]
    generalize evl (lq q) t = z
    clear hd k eq6
    rcases hs1 with y | y <;> rw [y] <;> grind
  rcases r with r | r
  · exact fin 1 (Or.inl rfl) (fun i => by rw [Int.one_mul]; exact r i)
  · exact fin (-1) (Or.inr rfl) (fun i => by
      have e1 : gd (lq e) i - -1 * gd (lq q) i = gd (lq e) i + gd (lq q) i := by omega
      rw [e1]
      exact r i)
theorem conic_endt {X Y W e G : Nat → Int} {c : Int} {f : List Int} (hS : SQ X Y W e G c) (hc : c ≠ 0) (he : ∃ i, i < 6 ∧ e i % 2 = 1) (h7 : b7 X Y W) (hp : ∃ i j k, i < 5 ∧ j < 5 ∧ k < 5 ∧ d3 X Y W i j k ≠ 0) (hf : lprim f) (hv : ∀ t, evl f t = cE e (t7 t) t 1 * cE e (t7 t) t 1 - 2 ^ 64 * qg G (t7 t) t 1) (bf : ∀ i, (gd f i).natAbs < 2 ^ 60) (be : ∀ i, i < 6 → (e i).natAbs ≤ 2 ^ 62) (ho : lodd (lq e)) : ∀ t, evl f t = evl (lq e) t * evl (lq e) t := by
  rcases conic_all hS hc he h7 hp with ⟨z1, z2⟩ | ⟨z1, z2⟩ | z | ⟨a1, a2, a3, a4, a5, a6⟩
  · obtain ⟨Q, hQ⟩ := Fm_GG0 X Y W
    exact conic_true hS hc (pw16n z1) (fun x y w => by rw [truth012 z2, ← hQ]) hf hv bf be ho
  · obtain ⟨Q, hQ⟩ := Fm_GG0 (rv X) (rv Y) (rv W)
    exact conic_true hS hc (pw16n z1) (fun x y w => by rw [← FF_rv, truth012 z2, ← hQ]) hf hv bf be ho
  · exfalso
    exact lprim_ne hf hc (fun t => by rw [hv t, ← hS, z])
  · obtain ⟨Q, hQ⟩ := (Fm_mm X Y W 0 2 2 4).add ((Fm_mm X Y W 0 4 0 4).sc (-1))
    refine conic_true (N := 1) (Q := Q) hS hc (by decide) (fun x y w => ?_) hf hv bf be ho
    rw [Int.one_mul, FF_even ⟨a1, a2, a3⟩ ⟨a4, a5, a6⟩, ← hQ]
    dsimp only
    have e1 : m3 X Y W x y w 0 2 * m3 X Y W x y w 2 4 + -1 * (m3 X Y W x y w 0 4 * m3 X Y W x y w 0 4) = m3 X Y W x y w 0 2 * m3 X Y W x y w 2 4 - m3 X Y W x y w 0 4 * m3 X Y W x y w 0 4 := by omega
    rw [e1]
theorem near1 {K : Nat} {α β γ a b c : Int} (h : ∀ i, (2 ^ K : Int) ∣ gd (lk α β γ) i - gd (lk a b c) i) (h1 : α.natAbs + a.natAbs < 2 ^ K) (h2 : β.natAbs + b.natAbs < 2 ^ K) (h3 : γ.natAbs + c.natAbs < 2 ^ K) : α = a ∧ β = b ∧ γ = c := by
  have k : ∀ {x y : Int}, (2 ^ K : Int) ∣ x - y → x.natAbs + y.natAbs < 2 ^ K → x = y := fun {x y} d s => by
    have z : x - y = 0 := small_zero d (by omega)
    omega
  have e7 := h 7
  have e1 := h 1
  have e0 := h 0
  rw [lk_gd, lk_gd] at e7 e1 e0
  exact ⟨k e7 h1, k e1 h2, k e0 h3⟩
theorem lk_sg {α β γ a b c : Int} (h : (α = a ∧ β = b ∧ γ = c) ∨ (α = -a ∧ β = -b ∧ γ = -c)) (t : Int) : evl (lk α β γ) t = evl (lk a b c) t ∨ evl (lk α β γ) t = -evl (lk a b c) t := by
  rcases h with ⟨r1, r2, r3⟩ | ⟨r1, r2, r3⟩
  · left
    rw [r1, r2, r3]
  · right
    rw [r1, r2, r3, evl_lk, evl_lk]
    generalize t7 t = z
    clear r1 r2 r3
    grind
theorem line_true2 {X Y W : Nat → Int} {f : List Int} {N α β γ : Int} {F : Int → Int} (hm : ∀ i j k, i < 5 → j < 5 → k < 5 → d3 X Y W i j k = 0) (hf : lprim f) (hN : N ≠ 0) (hv : ∀ t, N * evl f t = F2 X Y W (t7 t) t 1) (hF : Pf F) (ho : lodd (lk α β γ)) (h : ∀ t, evl (lk α β γ) t * evl (lk α β γ) t - evl f t = 2 ^ 64 * F t) (be : α.natAbs ≤ 2 ^ 62 ∧ β.natAbs ≤ 2 ^ 62 ∧ γ.natAbs ≤ 2 ^ 62) (bf : ∀ i, (gd f i).natAbs < 2 ^ 60) : ∀ t, evl f t = evl (lk α β γ) t * evl (lk α β γ) t := by
  by_cases hx : ∃ i j, i < 5 ∧ j < 5 ∧ ∃ x y w : Int, m3 X Y W x y w i j ≠ 0
  · obtain ⟨a, b, c, hp, hL, μ, hμ⟩ := plane_mu hm hx
    obtain ⟨k, hk⟩ := (plane_F hμ).1
    have hq := cont_eq hf (lprim_mul (lprim_lk hp) (lprim_lk hp)) _ N k (Nat.le_refl _) hN (fun t => by rw [hv t, hk, evl_mul, evl_lk])
    rcases hq with hq | hq
    · have u := evl_uq hq
      have n1 := bf 14
      have n2 := bf 2
      have n3 := bf 0
      rw [u 14] at n1
      rw [u 2] at n2
      rw [u 0] at n3
      have e1 : gd (lmul (lk a b c) (lk a b c)) 14 = a * a := by simp [lk, lmul, ladd, gd]
      have e2 : gd (lmul (lk a b c) (lk a b c)) 2 = b * b := by simp [lk, lmul, ladd, gd]
      have e3 : gd (lmul (lk a b c) (lk a b c)) 0 = c * c := by simp [lk, lmul, ladd, gd]
      rw [e1] at n1
      rw [e2] at n2
      rw [e3] at n3
      have n1 := sq_le n1
      have n2 := sq_le n2
      have n3 := sq_le n3
      have r := uq2 (A := 64) (by decide) hF ho (g := lk a b c) (fun t => by rw [← evl_mul (lk a b c), ← hq t]; exact h t)
      intro t
      rw [hq t, evl_mul]
      rcases lk_sg (near_line (K := 63) r (by omega) (by omega) (by omega)) t with y | y <;> rw [y]
      generalize evl (lk a b c) t = z
      clear y
      grind
    · exfalso
      obtain ⟨r, hr⟩ := hF
      refine sum_sq (g := lk a b c) ho fun j => ?_
      have u := evl_uq (l := ladd (lmul (lk α β γ) (lk α β γ)) (lmul (lk a b c) (lk a b c))) (m := r.map (fun x => 2 ^ 64 * x)) (fun t => by
        have q1 := hq t
        have q2 := h t
        rw [evl_mul] at q1
        rw [evl_add, evl_mul, evl_mul, evl_map, ← hr t, ← q2]
        omega) j
      rw [u, gd_map]
      exact Int.dvd_trans (pw_le_dvd (i := 1 + 1) (j := 64) (by decide) ⟨1, by rw [Int.mul_one]⟩) (Int.dvd_mul_right _ _)
  · exfalso
    refine lprim_ne hf hN fun t => ?_
    have z : ∀ i j, i < 5 → j < 5 → ∀ x y w : Int, m3 X Y W x y w i j = 0 := fun i j hi hj x y w => Classical.byContradiction fun y' => hx ⟨i, j, hi, hj, x, y, w, y'⟩
    rw [hv t]
    unfold F2
    rw [z 0 1 (by decide) (by decide), z 0 2 (by decide) (by decide)]
    omega
theorem line_true3 {X Y W : Nat → Int} {f : List Int} {N α β γ : Int} {F : Int → Int} (hm : ∀ i j k, i < 5 → j < 5 → k < 5 → d3 X Y W i j k = 0) (hf : lprim f) (hN : N ≠ 0) (hv : ∀ t, N * evl f t = F3 X Y W (t7 t) t 1) (hF : Pf F) (ho : lodd (lk α β γ)) (h : ∀ t, evl (lk α β γ) t * evl (lk α β γ) t * evl (lk α β γ) t - evl f t = 2 ^ 64 * F t) (be : α.natAbs ≤ 2 ^ 62 ∧ β.natAbs ≤ 2 ^ 62 ∧ γ.natAbs ≤ 2 ^ 62) (bf : ∀ i, (gd f i).natAbs < 2 ^ 60) : ∀ t, evl f t = evl (lk α β γ) t * evl (lk α β γ) t * evl (lk α β γ) t := by
  by_cases hx : ∃ i j, i < 5 ∧ j < 5 ∧ ∃ x y w : Int, m3 X Y W x y w i j ≠ 0
  · obtain ⟨a, b, c, hp, hL, μ, hμ⟩ := plane_mu hm hx
    obtain ⟨k, hk⟩ := (plane_F hμ).2.1
    have hq := cont_eq hf (lprim_mul (lprim_mul (lprim_lk hp) (lprim_lk hp)) (lprim_lk hp)) _ N k (Nat.le_refl _) hN (fun t => by rw [hv t, hk, evl_mul, evl_mul, evl_lk])
    have go : ∀ a b c : Int, (∀ t, evl f t = evl (lmul (lmul (lk a b c) (lk a b c)) (lk a b c)) t) → ∀ t, evl f t = evl (lk α β γ) t * evl (lk α β γ) t * evl (lk α β γ) t := fun a b c hq => by
      have u := evl_uq hq
      have n1 := bf 21
      have n2 := bf 3
      have n3 := bf 0
      rw [u 21] at n1
      rw [u 3] at n2
      rw [u 0] at n3
      have e1 : gd (lmul (lmul (lk a b c) (lk a b c)) (lk a b c)) 21 = a * a * a := by simp [lk, lmul, ladd, gd]
      have e2 : gd (lmul (lmul (lk a b c) (lk a b c)) (lk a b c)) 3 = b * b * b := by simp [lk, lmul, ladd, gd]
      have e3 : gd (lmul (lmul (lk a b c) (lk a b c)) (lk a b c)) 0 = c * c * c := by simp [lk, lmul, ladd, gd]
      rw [e1] at n1
      rw [e2] at n2
      rw [e3] at n3
      have n1 := cu_le n1
      have n2 := cu_le n2
      have n3 := cu_le n3
      have r := uq3 (A := 64) (e := lk α β γ) (g := lk a b c) rfl hF ho (fun t => by rw [← evl_mul (lk a b c), ← evl_mul _ (lk a b c), ← hq t]; exact h t)
      obtain ⟨y1, y2, y3⟩ := near1 (K := 64) r (by omega) (by omega) (by omega)
      intro t
      rw [hq t, evl_mul, evl_mul, y1, y2, y3]
    rcases hq with hq | hq
    · exact go a b c hq
    · refine go (-a) (-b) (-c) (fun t => ?_)
      rw [hq t, evl_mul, evl_mul, evl_mul, evl_mul, evl_lk, evl_lk]
      clear hL hq h
      grind
  · exfalso
    refine lprim_ne hf hN fun t => ?_
    have z : ∀ i j, i < 5 → j < 5 → ∀ x y w : Int, m3 X Y W x y w i j = 0 := fun i j hi hj x y w => Classical.byContradiction fun y' => hx ⟨i, j, hi, hj, x, y, w, y'⟩
    rw [hv t]
    unfold F3 dd3
    rw [z 0 1 (by decide) (by decide), z 0 2 (by decide) (by decide), z 0 3 (by decide) (by decide)]
    omega
theorem line_true4 {X Y W : Nat → Int} {f : List Int} {N α β γ : Int} {F : Int → Int} (hm : ∀ i j k, i < 5 → j < 5 → k < 5 → d3 X Y W i j k = 0) (hf : lprim f) (hN : N ≠ 0) (hv : ∀ t, N * evl f t = FF X Y W (t7 t) t 1) (hF : Pf F) (ho : lodd (lk α β γ)) (h : ∀ t, evl (lk α β γ) t * evl (lk α β γ) t * (evl (lk α β γ) t * evl (lk α β γ) t) - evl f t = 2 ^ 64 * F t) (be : α.natAbs ≤ 2 ^ 61 ∧ β.natAbs ≤ 2 ^ 61 ∧ γ.natAbs ≤ 2 ^ 61) (bf : ∀ i, (gd f i).natAbs < 2 ^ 60) : ∀ t, evl f t = evl (lk α β γ) t * evl (lk α β γ) t * (evl (lk α β γ) t * evl (lk α β γ) t) := by
  by_cases hx : ∃ i j, i < 5 ∧ j < 5 ∧ ∃ x y w : Int, m3 X Y W x y w i j ≠ 0
  · obtain ⟨a, b, c, hp, hL, μ, hμ⟩ := plane_mu hm hx
    obtain ⟨k, hk⟩ := (plane_F hμ).2.2
    have hq := cont_eq hf (lprim_mul (lprim_mul (lprim_lk hp) (lprim_lk hp)) (lprim_mul (lprim_lk hp) (lprim_lk hp))) _ N k (Nat.le_refl _) hN (fun t => by rw [hv t, hk, evl_mul, evl_mul, evl_lk])
    rcases hq with hq | hq
    · have u := evl_uq hq
      have n1 := bf 28
      have n2 := bf 4
      have n3 := bf 0
      rw [u 28] at n1
      rw [u 4] at n2
      rw [u 0] at n3
      have e1 : gd (lmul (lmul (lk a b c) (lk a b c)) (lmul (lk a b c) (lk a b c))) 28 = a * a * (a * a) := by simp [lk, lmul, ladd, gd]
      have e2 : gd (lmul (lmul (lk a b c) (lk a b c)) (lmul (lk a b c) (lk a b c))) 4 = b * b * (b * b) := by simp [lk, lmul, ladd, gd]
      have e3 : gd (lmul (lmul (lk a b c) (lk a b c)) (lmul (lk a b c) (lk a b c))) 0 = c * c * (c * c) := by simp [lk, lmul, ladd, gd]
      rw [e1] at n1
      rw [e2] at n2
      rw [e3] at n3
      have n1 := sq_le (sq_le n1)
      have n2 := sq_le (sq_le n2)
      have n3 := sq_le (sq_le n3)
      have r := uq4 (A := 64) (by decide) hF ho (g := lk a b c) (fun t => by rw [← evl_mul (lk a b c), ← evl_mul (lmul (lk a b c) (lk a b c)), ← hq t]; exact h t)
      intro t
      rw [hq t, evl_mul, evl_mul]
      rcases lk_sg (near_line (K := 62) r (by omega) (by omega) (by omega)) t with y | y <;> rw [y]
      generalize evl (lk a b c) t = z
      clear y
      grind
    · exfalso
      obtain ⟨r, hr⟩ := hF
      refine sum_sq (g := lmul (lk a b c) (lk a b c)) (lodd_sq ho) fun j => ?_
      have u := evl_uq (l := ladd (lmul (lmul (lk α β γ) (lk α β γ)) (lmul (lk α β γ) (lk α β γ))) (lmul (lmul (lk a b c) (lk a b c)) (lmul (lk a b c) (lk a b c)))) (m := r.map (fun x => 2 ^ 64 * x)) (fun t => by
        have q1 := hq t
        have q2 := h t
        rw [evl_add, evl_map, ← hr t, ← q2, evl_mul (lmul (lk α β γ) (lk α β γ)), evl_mul (lk α β γ)]
        omega) j
      rw [u, gd_map]
      exact Int.dvd_trans (pw_le_dvd (i := 1 + 1) (j := 64) (by decide) ⟨1, by rw [Int.mul_one]⟩) (Int.dvd_mul_right _ _)
  · exfalso
    refine lprim_ne hf hN fun t => ?_
    have z : ∀ i j, i < 5 → j < 5 → ∀ x y w : Int, m3 X Y W x y w i j = 0 := fun i j hi hj x y w => Classical.byContradiction fun y' => hx ⟨i, j, hi, hj, x, y, w, y'⟩
    rw [hv t]
    unfold FF
    rw [z 0 1 (by decide) (by decide), z 0 2 (by decide) (by decide), z 0 3 (by decide) (by decide), z 0 4 (by decide) (by decide)]
    unfold dS det4
    grind
theorem trace_true {n d k : Nat} {X Y W f E : Nat → Int} {c : Int} (h1 : 1 ≤ n) (hn : n ≤ 4) (hz : ∀ i, n < i → i < 5 → X i = 0 ∧ Y i = 0 ∧ W i = 0) (hW : ∃ t, pv W t ≠ 0) (hc : c ≠ 0) (hf : ∀ t, c * evl (lfi f 49) t = Fz n X Y W (t7 t) t 1) (hp : lprim (lfi f 49)) (bf : ∀ i, (gd (lfi f 49) i).natAbs < 2 ^ 60) (hd1 : 1 ≤ d) (hdn : d ≤ n) (hsu : SUi f d) (hne : ∃ i, 1 ≤ i ∧ i < 49 ∧ f i ≠ 0) (h7 : n = 4 → b7 X Y W) (hb : ∀ i j l, i < 5 → j < 5 → l < 5 → (d3 X Y W i j l).natAbs < 2 ^ 21) (hk : kroot k d f E) (hk2 : 2 ≤ k) : ∀ t, evl (lfi E 49) t ^ k = evl (lfi f 49) t := by
  have hb4 : n = 4 → ∀ i j l, i < 5 → j < 5 → l < 5 → (d3 X Y W i j l).natAbs < 2 ^ 16 := fun e i j l hi hj hl => by
    have := b7_P (h7 e) i j l hi hj hl
    omega
  rcases hk with ⟨k1, _⟩ | ⟨k2, hkd, hsE, bE, H, hH, hr⟩
  · omega
  · have hcase : (k = 2 ∧ d = 2) ∨ (k = 3 ∧ d = 3) ∨ (k = 4 ∧ d = 4) ∨ (k = 2 ∧ d = 4) := by
      obtain ⟨q, hq⟩ := hkd
      have : d ≤ 4 := by omega
      have hkle : k ≤ d := Nat.le_of_dvd (by omega) ⟨q, hq⟩
      have : k = 2 ∨ k = 3 ∨ k = 4 := by omega
      rcases this with rfl | rfl | rfl <;> omega
    have line : (k = 2 ∨ k = 3 ∨ k = 4) → d = k → ∀ t, evl (lfi E 49) t ^ k = evl (lfi f 49) t := fun hk hdk => by
      subst hdk
      rw [Nat.div_self (by omega)] at hsE
      have hr' : ∀ t, evl (lk (E 7) (E 1) (E 0)) t ^ d = evl (lfi f 49) t + 18446744073709551616 * H t := fun t => by
        rw [← E_lk hsE]
        exact hr t
      have ho := odd_root hp hd1 hH hr'
      have hm := line_min h1 hn hz hW hc hf hsu hk hdn hb4 hb ho hH hr'
      have be7 := bE 7 (by decide)
      have be1 := bE 1 (by decide)
      have be0 := bE 0 (by decide)
      by_cases hnd : n = d
      · subst hnd
        rcases hk with rfl | rfl | rfl
        · intro t
          have := line_true2 hm hp hc (fun t => by
            rw [hf t]
            show F2 X Y W (t7 t) t 1 * (1 * 1) = _
            omega) hH ho (fun t => by
            have := hr' t
            generalize evl (lk (E 7) (E 1) (E 0)) t = z at *
            rw [show z ^ 2 = z * z by grind] at this
            omega) ⟨by omega, by omega, by omega⟩ bf t
          rw [E_lk hsE, this]
          generalize evl (lk (E 7) (E 1) (E 0)) t = z
          grind
        · intro t
          have := line_true3 hm hp hc (fun t => by
            rw [hf t]
            show F3 X Y W (t7 t) t 1 * 1 = _
            omega) hH ho (fun t => by
            have := hr' t
            generalize evl (lk (E 7) (E 1) (E 0)) t = z at *
            rw [show z ^ 3 = z * z * z by grind] at this
            omega) ⟨by omega, by omega, by omega⟩ bf t
          rw [E_lk hsE, this]
          generalize evl (lk (E 7) (E 1) (E 0)) t = z
          grind
        · intro t
          have := line_true4 hm hp hc (fun t => by
            rw [hf t]
            rfl) hH ho (fun t => by
            have := hr' t
            generalize evl (lk (E 7) (E 1) (E 0)) t = z at *
            rw [show z ^ 4 = z * z * (z * z) by grind] at this
            omega) ⟨by omega, by omega, by omega⟩ bf t
          rw [E_lk hsE, this]
          generalize evl (lk (E 7) (E 1) (E 0)) t = z
          grind
      · exfalso
        obtain ⟨i, hi1, hi2, hi3⟩ := hne
        have hn34 : n = 3 ∨ n = 4 := by omega
        have s1 : f (7 * n) = 0 := by
          have := hsu n 0 (by omega) (by decide) (by omega)
          exact this
        have s2 : f n = 0 := by
          have := hsu 0 n (by decide) (by omega) (by omega)
          rw [show 7 * 0 + n = n by omega] at this
          exact this
        exact plane_deg hn34 hm hc hf s1 s2 hi1 hi2 hi3
    rcases hcase with ⟨rfl, rfl⟩ | ⟨rfl, rfl⟩ | ⟨rfl, rfl⟩ | ⟨rfl, rfl⟩
    · exact line (by decide) rfl
    · exact line (by decide) rfl
    · exact line (by decide) rfl
    · have n4 : n = 4 := by omega
      subst n4
      have hsE : SUi E 2 := hsE
      have hr' : ∀ t, evl (lq (eE E)) t ^ 2 = evl (lfi f 49) t + 18446744073709551616 * H t := fun t => by
        rw [← E_lq hsE]
        exact hr t
      have ho := odd_root hp (by decide) hH hr'
      obtain ⟨G, hG⟩ := form_f (ψ := cc2 (eE E) (eE E)) hH (fun t => by
        rw [← cc2_e, ← evl_lq, ← hr' t]
        generalize evl (lq (eE E)) t = z
        grind)
      have hq : ∀ x y w : Int, qg (c15 f) x y w = cE (eE E) x y w * cE (eE E) x y w - 2 ^ 64 * qg G x y w := fun x y w => by
        have := qg_add hG x y w
        rw [← cc2_e] at this
        omega
      have hS : SQ X Y W (eE E) G c := fun x y w => by
        rw [← hq]
        exact Fz_f hf x y w
      have hv : ∀ t, evl (lfi f 49) t = cE (eE E) (t7 t) t 1 * cE (eE E) (t7 t) t 1 - 2 ^ 64 * qg G (t7 t) t 1 := fun t => by
        apply Int.eq_of_mul_eq_mul_left hc
        rw [hf t]
        exact hS (t7 t) t 1
      have be : ∀ i, i < 6 → (eE E i).natAbs ≤ 2 ^ 62 := fun i hi => by
        match i, hi with
        | 0, _ => have := bE 14 (by decide); show (E 14).natAbs ≤ _; omega
        | 1, _ => have := bE 8 (by decide); show (E 8).natAbs ≤ _; omega
        | 2, _ => have := bE 2 (by decide); show (E 2).natAbs ≤ _; omega
        | 3, _ => have := bE 7 (by decide); show (E 7).natAbs ≤ _; omega
        | 4, _ => have := bE 1 (by decide); show (E 1).natAbs ≤ _; omega
        | 5, _ => have := bE 0 (by decide); show (E 0).natAbs ≤ _; omega
      have he : ∃ i, i < 6 ∧ eE E i % 2 = 1 := by
        obtain ⟨j, hj⟩ := ho
        rw [lq_gd] at hj
        split at hj
        · exact ⟨5, by decide, hj⟩
        split at hj
        · exact ⟨4, by decide, hj⟩
        split at hj
        · exact ⟨2, by decide, hj⟩
        split at hj
        · exact ⟨3, by decide, hj⟩
        split at hj
        · exact ⟨1, by decide, hj⟩
        split at hj
        · exact ⟨0, by decide, hj⟩
        · exact absurd hj (by decide)
      have fin : ∀ t, evl (lfi f 49) t = evl (lq (eE E)) t * evl (lq (eE E)) t := by
        by_cases hp3 : ∃ i j k, i < 5 ∧ j < 5 ∧ k < 5 ∧ d3 X Y W i j k ≠ 0
        · exact conic_endt hS hc he (h7 rfl) hp3 hp hv bf be ho
        · have hm : ∀ i j l, i < 5 → j < 5 → l < 5 → d3 X Y W i j l = 0 := fun i j l hi hj hl => Classical.byContradiction fun z => hp3 ⟨i, j, l, hi, hj, hl, z⟩
          by_cases hx : ∃ i j, i < 5 ∧ j < 5 ∧ ∃ x y w : Int, m3 X Y W x y w i j ≠ 0
          · obtain ⟨a, b, c0, _, _, μ, hμ⟩ := plane_mu hm hx
            obtain ⟨κ, hκ⟩ := (plane_F hμ).2.2
            by_cases k0 : κ = 0
            · exfalso
              exact lprim_ne hp hc (fun t => by
                rw [hf t]
                show FF X Y W (t7 t) t 1 = 0
                rw [hκ, k0, Int.zero_mul])
            · refine conic_true (N := κ) (Q := fun m => κ * q2l a b c0 m) hS hc k0 (fun x y w => ?_) hp hv bf be ho
              rw [hκ, cE_mul (q := q2l a b c0) (m := κ) (fun _ _ => rfl), q2l_e]
              generalize a * x + b * y + c0 * w = z
              grind
          · exfalso
            have z : ∀ i j, i < 5 → j < 5 → ∀ x y w : Int, m3 X Y W x y w i j = 0 := fun i j hi hj x y w => Classical.byContradiction fun y' => hx ⟨i, j, hi, hj, x, y, w, y'⟩
            exact lprim_ne hp hc (fun t => by
              rw [hf t]
              show FF X Y W (t7 t) t 1 = 0
              unfold FF
              rw [z 0 1 (by decide) (by decide), z 0 2 (by decide) (by decide), z 0 3 (by decide) (by decide), z 0 4 (by decide) (by decide)]
              unfold dS det4
              grind)
      intro t
      rw [E_lq hsE, fin t]
      generalize evl (lq (eE E)) t = z
      grind
