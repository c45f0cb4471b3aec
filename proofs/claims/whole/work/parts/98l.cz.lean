theorem conic_zero {X Y W e G Q : Nat → Int} {c N : Int} {f : List Int} (hS : SQ X Y W e G c) (hc : c ≠ 0) (hN : N ≠ 0) (hQ : ∀ x y w : Int, N * FF X Y W x y w = cE Q x y w * cE Q x y w) (hf : lprim f) (hv : ∀ t, evl f t = cE e (t7 t) t 1 * cE e (t7 t) t 1 - 2 ^ 64 * qg G (t7 t) t 1) (bf : ∀ i, (gd f i).natAbs < 2 ^ 60) (be : ∀ i, i < 6 → (e i).natAbs ≤ 2 ^ 62) (ho : lodd (lq e)) (t : Int) : cE e (pv X t) (pv Y t) (pv W t) = 0 := by
  have hNc : N * c ≠ 0 := fun z => by
    rcases Int.mul_eq_zero.mp z with y | y
    · exact hN y
    · exact hc y
  have h1 : ∀ t, N * c * evl f t = evl (lq Q) t * evl (lq Q) t := fun t => by
    rw [evl_lq, ← hQ, hS, hv t, Int.mul_assoc]
  obtain ⟨m, g, hm, hg, hs⟩ := sq_fac hf _ (N * c) (lq Q) (Nat.le_refl _) hNc h1
  obtain ⟨q, hq⟩ : ∃ q : Nat → Int, ∀ i, i < 6 → Q i = m * q i := by
    have k : ∀ i, gd (lq Q) i = m * gd g i := fun i => by rw [hg, gd_map]
    refine ⟨fun i => match i with | 0 => gd g 14 | 1 => gd g 8 | 2 => gd g 2 | 3 => gd g 7 | 4 => gd g 1 | _ => gd g 0, fun i hi => ?_⟩
    match i, hi with
    | 0, _ => exact k 14
    | 1, _ => exact k 8
    | 2, _ => exact k 2
    | 3, _ => exact k 7
    | 4, _ => exact k 1
    | 5, _ => exact k 0
  have hmm : m * m ≠ 0 := fun z => by
    rcases Int.mul_eq_zero.mp z with y | y <;> exact hm y
  have h2 : ∀ t, N * c * evl f t = m * m * (evl (lq q) t * evl (lq q) t) := fun t => by
    rw [h1 t, evl_lq, evl_lq, cE_mul hq]
    clear hS hQ hv h1 hg hq
    grind
  have hz : cE q (pv X t) (pv Y t) (pv W t) = 0 := by
    have h3 := hQ (pv X t) (pv Y t) (pv W t)
    rw [FF_g, Int.mul_zero, cE_mul hq] at h3
    rcases Int.mul_eq_zero.mp h3.symm with y | y <;> rcases Int.mul_eq_zero.mp y with y | y
    · exact absurd y hm
    · exact y
    · exact absurd y hm
    · exact y
  have hsq : ∀ t, evl f t = evl (lq q) t * evl (lq q) t := by
    rcases hs with z | z
    · intro t
      apply Int.eq_of_mul_eq_mul_left hmm
      rw [← h2 t, z]
    · exfalso
      have h4 : ∀ t, evl f t = -(evl (lq q) t * evl (lq q) t) := fun t => by
        apply Int.eq_of_mul_eq_mul_left hmm
        have := h2 t
        rw [z, Int.neg_mul] at this
        rw [Int.mul_neg, ← this, Int.neg_neg]
      obtain ⟨r, hr⟩ := Pf_q7 G
      refine sum_sq (g := lq q) ho fun j => ?_
      have u := evl_uq (l := ladd (lmul (lq e) (lq e)) (lmul (lq q) (lq q))) (m := r.map (fun x => 2 ^ 64 * x)) (fun t => by
        have q1 := h4 t
        have q2 := hv t
        have q3 : qg G (t7 t) t 1 = evl r t := hr t
        rw [evl_add, evl_mul, evl_mul, evl_map, ← q3, evl_lq e]
        clear hS hQ hv h1 h2 hg
        omega) j
      rw [u, gd_map]
      exact Int.dvd_trans (pw_le_dvd (i := 1 + 1) (j := 64) (by decide) ⟨1, by rw [Int.mul_one]⟩) (Int.dvd_mul_right _ _)
  have bq : ∀ i, i < 6 → (q i).natAbs < 2 ^ 31 := lq_bound fun i => by
    have u := evl_uq (l := f) (m := lmul (lq q) (lq q)) (fun t => by rw [evl_mul]; exact hsq t) i
    rw [← u]
    exact bf i
  have r := uq2 (A := 64) (by decide) (Pf_q7 G) ho (g := lq q) (fun t => by
    rw [← hsq t, hv t, evl_lq]
    omega)
  have fin : ∀ s : Int, (s = 1 ∨ s = -1) → (∀ i, (2 ^ 63 : Int) ∣ gd (lq e) i - s * gd (lq q) i) → cE e (pv X t) (pv Y t) (pv W t) = 0 := fun s hs1 hd => by
    have k : ∀ {i j}, j < 6 → gd (lq e) i = e j → gd (lq q) i = q j → e j = s * q j := fun {i j} hj e1 e2 => by
      have d := hd i
      rw [e1, e2] at d
      have b1 := be j hj
      have b2 := bq j hj
      have : e j - s * q j = 0 := small_zero d (by rcases hs1 with y | y <;> rw [y] <;> omega)
      omega
    rw [cE_mul (q := q) (m := s) (fun i hi => by
      match i, hi with
      | 0, _ => exact k (i := 14) (by decide) rfl rfl
      | 1, _ => exact k (i := 8) (by decide) rfl rfl
      | 2, _ => exact k (i := 2) (by decide) rfl rfl
      | 3, _ => exact k (i := 7) (by decide) rfl rfl
      | 4, _ => exact k (i := 1) (by decide) rfl rfl
      | 5, _ => exact k (i := 0) (by decide) rfl rfl), hz, Int.mul_zero]
  rcases r with r | r
  · exact fin 1 (Or.inl rfl) (fun i => by rw [Int.one_mul]; exact r i)
  · exact fin (-1) (Or.inr rfl) (fun i => by
      have e1 : gd (lq e) i - -1 * gd (lq q) i = gd (lq e) i + gd (lq q) i := by omega
      rw [e1]
      exact r i)
