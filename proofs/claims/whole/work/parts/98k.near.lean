theorem cE_mul {Q q : Nat → Int} {m : Int} (h : ∀ i, i < 6 → Q i = m * q i) (x y w : Int) : cE Q x y w = m * cE q x y w := by
  unfold cE
  rw [h 0 (by decide), h 1 (by decide), h 2 (by decide), h 3 (by decide), h 4 (by decide), h 5 (by decide)]
  clear h
  grind
theorem mm_mul (m a : Int) : m * a * (m * a) = m * m * (a * a) := by grind
theorem lq_div {Q : Nat → Int} {m : Int} {g : List Int} (hg : lq Q = g.map (fun x => m * x)) : ∃ q : Nat → Int, ∀ i, i < 6 → Q i = m * q i := by
  have k : ∀ i, gd (lq Q) i = m * gd g i := fun i => by rw [hg, gd_map]
  refine ⟨fun i => if i = 0 then gd g 14 else if i = 1 then gd g 8 else if i = 2 then gd g 2 else if i = 3 then gd g 7 else if i = 4 then gd g 1 else gd g 0, fun i hi => ?_⟩
  match i, hi with
  | 0, _ => exact k 14
  | 1, _ => exact k 8
  | 2, _ => exact k 2
  | 3, _ => exact k 7
  | 4, _ => exact k 1
  | 5, _ => exact k 0
theorem lq_near {e q : Nat → Int} {s : Int} (hs1 : s = 1 ∨ s = -1) (be : ∀ i, i < 6 → (e i).natAbs ≤ 2 ^ 62) (bq : ∀ i, i < 6 → (q i).natAbs < 2 ^ 31) (hd : ∀ i, (2 ^ 63 : Int) ∣ gd (lq e) i - s * gd (lq q) i) : ∀ i, i < 6 → e i = s * q i := by
  have k : ∀ {i j}, j < 6 → gd (lq e) i = e j → gd (lq q) i = q j → e j = s * q j := fun {i j} hj e1 e2 => by
    have d := hd i
    rw [e1, e2] at d
    have b1 := be j hj
    have b2 := bq j hj
    have z : e j - s * q j = 0 := small_zero d (by
      clear d hd be bq e1 e2
      rcases hs1 with y | y <;> rw [y] <;> omega)
    clear d hd be bq e1 e2
    omega
  intro i hi
  match i, hi with
  | 0, _ => exact k (i := 14) (by decide) rfl rfl
  | 1, _ => exact k (i := 8) (by decide) rfl rfl
  | 2, _ => exact k (i := 2) (by decide) rfl rfl
  | 3, _ => exact k (i := 7) (by decide) rfl rfl
  | 4, _ => exact k (i := 1) (by decide) rfl rfl
  | 5, _ => exact k (i := 0) (by decide) rfl rfl
