/-! roots mod a power of two are the true ones -/
def lneg (l : List Int) : List Int := l.map (fun x => -1 * x)
theorem evl_neg (l : List Int) (t : Int) : evl (lneg l) t = -evl l t := by
  unfold lneg
  rw [evl_map]
  omega
theorem gd_neg (l : List Int) (i : Nat) : gd (lneg l) i = -gd l i := by
  unfold lneg
  rw [gd_map]
  omega
def lodd (e : List Int) : Prop := ∃ j, gd e j % 2 = 1
theorem uq2 {A : Nat} {e g : List Int} {F : Int → Int} (hA : 1 ≤ A) (hF : Pf F) (he : lodd e) (h : ∀ t, evl e t * evl e t - evl g t * evl g t = 2 ^ A * F t) : (∀ i, (2 ^ (A - 1) : Int) ∣ gd e i - gd g i) ∨ ∀ i, (2 ^ (A - 1) : Int) ∣ gd e i + gd g i := by
  have h1 : ∀ t, evl (ladd e (lneg g)) t * evl (ladd e g) t = 2 ^ A * F t := fun t => by
    rw [evl_add, evl_add, evl_neg, ← h t]
    grind
  have h2 : ∀ t, evl (ladd e g) t * evl (ladd e (lneg g)) t = 2 ^ A * F t := fun t => by
    rw [Int.mul_comm]
    exact h1 t
  by_cases q : ∀ j, (2 ^ (1 + 1) : Int) ∣ gd (ladd e g) j
  · right
    obtain ⟨j, hj⟩ := he
    have hn : ¬ ∀ j, (2 ^ (1 + 1) : Int) ∣ gd (ladd e (lneg g)) j := fun z => by
      have z1 := z j
      have z2 := q j
      rw [gd_add, gd_neg] at z1
      rw [gd_add] at z2
      omega
    intro i
    have h3 := gauss3 hA hn (prod_dvd hF h2) i
    rw [gd_add] at h3
    exact h3
  · left
    intro i
    have h3 := gauss3 hA q (prod_dvd hF h1) i
    rw [gd_add, gd_neg] at h3
    have e1 : gd e i - gd g i = gd e i + -gd g i := by omega
    rw [e1]
    exact h3
theorem Pf_evl (l : List Int) : Pf (evl l) := ⟨l, fun _ => rfl⟩
/-- the lowest odd term of e^2 + e g + g^2 -/
theorem low3 : ∀ (n : Nat) (e g : List Int), e.length = n → g.length = n → (∀ j, (2 : Int) ∣ gd (ladd (ladd (lmul e e) (lmul e g)) (lmul g g)) j) → ∀ j, (2 : Int) ∣ gd e j ∧ (2 : Int) ∣ gd g j
  | 0, [], [], _, _, _, j => ⟨⟨0, rfl⟩, ⟨0, rfl⟩⟩
  | 0, _ :: _, _, h, _, _, _ => absurd h (by simp)
  | 0, [], _ :: _, _, h, _, _ => absurd h (by simp)
  | n + 1, [], _, h, _, _, _ => absurd h (by simp)
  | n + 1, _ :: _, [], _, h, _, _ => absurd h (by simp)
  | n + 1, a :: e, b :: g, h1, h2, h, j => by
    have e1 : ∀ t, evl (ladd (ladd (lmul (a :: e) (a :: e)) (lmul (a :: e) (b :: g))) (lmul (b :: g) (b :: g))) t = (a * a + a * b + b * b) + t * ((2 * a + b) * evl e t + (a + 2 * b) * evl g t + t * evl (ladd (ladd (lmul e e) (lmul e g)) (lmul g g)) t) := fun t => by
      simp only [evl_add, evl_mul]
      show (a + t * evl e t) * (a + t * evl e t) + (a + t * evl e t) * (b + t * evl g t) + (b + t * evl g t) * (b + t * evl g t) = _
      grind
    have e2 : ∀ t, evl (ladd (ladd (lmul (a :: e) (a :: e)) (lmul (a :: e) (b :: g))) (lmul (b :: g) (b :: g))) t = evl ((a * a + a * b + b * b) :: ladd (ladd (e.map (fun x => (2 * a + b) * x)) (g.map (fun x => (a + 2 * b) * x))) (0 :: ladd (ladd (lmul e e) (lmul e g)) (lmul g g))) t := fun t => by
      rw [e1 t]
      generalize ladd (ladd (lmul e e) (lmul e g)) (lmul g g) = M
      show _ = (a * a + a * b + b * b) + t * evl (ladd (ladd (e.map (fun x => (2 * a + b) * x)) (g.map (fun x => (a + 2 * b) * x))) (0 :: M)) t
      rw [evl_add, evl_add, evl_map, evl_map]
      show _ = (a * a + a * b + b * b) + t * ((2 * a + b) * evl e t + (a + 2 * b) * evl g t + (0 + t * evl M t))
      rw [Int.zero_add]
    have u := evl_uq e2
    have h0 : (2 : Int) ∣ a * a + a * b + b * b := by
      have := h 0
      rw [u 0] at this
      exact this
    have ab : a % 2 = 0 ∧ b % 2 = 0 := by
      rcases Int.emod_two_eq a with x | x <;> rcases Int.emod_two_eq b with y | y
      · exact ⟨x, y⟩
      · exfalso
        obtain ⟨p, hp⟩ : ∃ p, a = 2 * p := ⟨a / 2, by omega⟩
        obtain ⟨q, hq⟩ : ∃ q, b = 2 * q + 1 := ⟨b / 2, by omega⟩
        obtain ⟨w, hw⟩ := h0
        have : a * a + a * b + b * b = 2 * (2 * p * p + p * b + 2 * q * q + 2 * q) + 1 := by rw [hp, hq]; clear hw u e1 e2; grind
        omega
      · exfalso
        obtain ⟨p, hp⟩ : ∃ p, a = 2 * p + 1 := ⟨a / 2, by omega⟩
        obtain ⟨q, hq⟩ : ∃ q, b = 2 * q := ⟨b / 2, by omega⟩
        obtain ⟨w, hw⟩ := h0
        have : a * a + a * b + b * b = 2 * (2 * p * p + 2 * p + a * q + 2 * q * q) + 1 := by rw [hp, hq]; clear hw u e1 e2; grind
        omega
      · exfalso
        obtain ⟨p, hp⟩ : ∃ p, a = 2 * p + 1 := ⟨a / 2, by omega⟩
        obtain ⟨q, hq⟩ : ∃ q, b = 2 * q + 1 := ⟨b / 2, by omega⟩
        obtain ⟨w, hw⟩ := h0
        have : a * a + a * b + b * b = 2 * (2 * p * p + 2 * p + 2 * p * q + p + q + 2 * q * q + 2 * q + 1) + 1 := by rw [hp, hq]; clear hw u e1 e2; grind
        omega
    obtain ⟨a2, ha2⟩ : ∃ p, a = 2 * p := ⟨a / 2, by omega⟩
    obtain ⟨b2, hb2⟩ : ∃ p, b = 2 * p := ⟨b / 2, by omega⟩
    have ih := low3 n e g (by simpa using h1) (by simpa using h2) (fun i => by
      have h3 := h (i + 2)
      rw [u (i + 2)] at h3
      have h4 : (2 : Int) ∣ gd (ladd (ladd (e.map (fun x => (2 * a + b) * x)) (g.map (fun x => (a + 2 * b) * x))) (0 :: ladd (ladd (lmul e e) (lmul e g)) (lmul g g))) (i + 1) := h3
      rw [gd_add, gd_add, gd_map, gd_map] at h4
      have h5 : (2 : Int) ∣ (2 * a + b) * gd e (i + 1) + (a + 2 * b) * gd g (i + 1) + gd (ladd (ladd (lmul e e) (lmul e g)) (lmul g g)) i := h4
      obtain ⟨w, hw⟩ := h5
      refine ⟨w - (a + b2) * gd e (i + 1) - (a2 + b) * gd g (i + 1), ?_⟩
      rw [ha2, hb2] at hw ⊢
      clear u e1 e2 h3 h4 h h0 ha2 hb2 ab
      grind)
    match j with
    | 0 => exact ⟨⟨a2, ha2⟩, ⟨b2, hb2⟩⟩
    | j + 1 => exact ih j
theorem uq3 {A : Nat} {e g : List Int} {F : Int → Int} (hl : e.length = g.length) (hF : Pf F) (he : lodd e) (h : ∀ t, evl e t * evl e t * evl e t - evl g t * evl g t * evl g t = 2 ^ A * F t) (i : Nat) : (2 ^ A : Int) ∣ gd e i - gd g i := by
  have h1 : ∀ t, evl (ladd e (lneg g)) t * evl (ladd (ladd (lmul e e) (lmul e g)) (lmul g g)) t = 2 ^ A * F t := fun t => by
    simp only [evl_add, evl_mul, evl_neg]
    rw [← h t]
    grind
  have hn : ¬ ∀ j, (2 ^ (0 + 1) : Int) ∣ gd (ladd (ladd (lmul e e) (lmul e g)) (lmul g g)) j := fun z => by
    obtain ⟨j, hj⟩ := he
    have := (low3 _ e g rfl hl.symm z j).1
    omega
  have h3 := gauss3 (B := 0) (Nat.zero_le A) hn (prod_dvd hF h1) i
  rw [gd_add, gd_neg] at h3
  have e1 : gd e i - gd g i = gd e i + -gd g i := by omega
  rw [e1]
  exact h3
theorem all_even {c : List Int} (h : ∀ i, (2 : Int) ∣ conv c (gd c) i) (j : Nat) : (2 : Int) ∣ gd c j := by
  by_cases q : ∃ j, ¬ (2 : Int) ∣ gd c j
  · obtain ⟨d, hd⟩ := even_ls q h
    rw [hd, gd_map]
    exact ⟨_, rfl⟩
  · exact Classical.byContradiction fun z => q ⟨j, z⟩
theorem uq4 {A : Nat} {e g : List Int} {F : Int → Int} (hA : 2 ≤ A) (hF : Pf F) (he : lodd e) (h : ∀ t, evl e t * evl e t * (evl e t * evl e t) - evl g t * evl g t * (evl g t * evl g t) = 2 ^ A * F t) : (∀ i, (2 ^ (A - 2) : Int) ∣ gd e i - gd g i) ∨ ∀ i, (2 ^ (A - 2) : Int) ∣ gd e i + gd g i := by
  have h1 : ∀ t, evl (ladd (lmul e e) (lneg (lmul g g))) t * evl (ladd (lmul e e) (lmul g g)) t = 2 ^ A * F t := fun t => by
    simp only [evl_add, evl_mul, evl_neg]
    rw [← h t]
    grind
  have hn : ¬ ∀ j, (2 ^ (1 + 1) : Int) ∣ gd (ladd (lmul e e) (lmul g g)) j := fun z => by
    have s : ∀ j, (2 : Int) ∣ gd (ladd e g) j := all_even fun i => by
      have u := evl_uq (l := lmul (ladd e g) (ladd e g)) (m := ladd (ladd (lmul e e) (lmul g g)) ((lmul e g).map (fun x => 2 * x))) (fun t => by
        simp only [evl_add, evl_mul, evl_map]
        grind) i
      rw [← gd_mul, u, gd_add, gd_map]
      have := z i
      omega
    have s2 : ∀ j, (2 : Int) ∣ conv e (gd e) j := fun j => by
      have hm : ladd e g = ((ladd e g).map (fun x => x / 2)).map (fun x => 2 * x) := by
        rw [List.map_map]
        have : (ladd e g).map ((fun x => 2 * x) ∘ fun x => x / 2) = (ladd e g).map id := List.map_congr_left (fun x hx => by
          obtain ⟨i, hi, ei⟩ := List.mem_iff_getElem.mp hx
          have h2 := s i
          have e2 : gd (ladd e g) i = x := by unfold gd; rw [List.getD_eq_getElem?_getD, List.getElem?_eq_getElem hi]; exact ei
          rw [e2] at h2
          show 2 * (x / 2) = x
          omega)
        rw [this, List.map_id]
      generalize (ladd e g).map (fun x => x / 2) = d at hm
      have u := evl_uq (l := ladd (lmul e e) (lmul g g)) (m := ladd ((lmul e e).map (fun x => 2 * x)) ((ladd (lmul d d) (lneg (lmul e d))).map (fun x => 4 * x))) (fun t => by
        have hv : evl e t + evl g t = 2 * evl d t := by rw [← evl_add, hm, evl_map]
        simp only [evl_add, evl_mul, evl_map, evl_neg]
        have hg : evl g t = 2 * evl d t - evl e t := by omega
        rw [hg]
        grind) j
      have z2 := z j
      rw [u, gd_add, gd_map, gd_map, gd_mul] at z2
      omega
    obtain ⟨j, hj⟩ := he
    have := all_even s2 j
    omega
  have h3 : ∀ i, (2 ^ (A - 1) : Int) ∣ gd (ladd (lmul e e) (lneg (lmul g g))) i := fun i => gauss3 (B := 1) (by omega) hn (prod_dvd hF h1) i
  have hm : ladd (lmul e e) (lneg (lmul g g)) = ((ladd (lmul e e) (lneg (lmul g g))).map (fun x => x / 2 ^ (A - 1))).map (fun x => 2 ^ (A - 1) * x) := by
    generalize ladd (lmul e e) (lneg (lmul g g)) = m at *
    rw [List.map_map]
    have : m.map ((fun x => 2 ^ (A - 1) * x) ∘ fun x => x / 2 ^ (A - 1)) = m.map id := List.map_congr_left (fun x hx => by
      obtain ⟨i, hi, ei⟩ := List.mem_iff_getElem.mp hx
      have h2 := h3 i
      have e2 : gd m i = x := by unfold gd; rw [List.getD_eq_getElem?_getD, List.getElem?_eq_getElem hi]; exact ei
      rw [e2] at h2
      exact Int.mul_ediv_cancel' h2)
    rw [this, List.map_id]
  have h4 := uq2 (A := A - 1) (e := e) (g := g) (by omega) (Pf_evl ((ladd (lmul e e) (lneg (lmul g g))).map (fun x => x / 2 ^ (A - 1)))) he (fun t => by
    have hq := evl_map (2 ^ (A - 1)) ((ladd (lmul e e) (lneg (lmul g g))).map (fun x => x / 2 ^ (A - 1))) t
    rw [← hm, evl_add, evl_neg, evl_mul, evl_mul] at hq
    rw [← hq]
    omega)
  rw [show A - 1 - 1 = A - 2 by omega] at h4
  exact h4
