/-! polynomials of one letter, by their values -/
def evl : List Int → Int → Int
  | [], _ => 0
  | a :: l, t => a + t * evl l t
def lmul : List Int → List Int → List Int
  | [], _ => []
  | a :: l, m => ladd (m.map (fun x => a * x)) (0 :: lmul l m)
theorem evl_add : ∀ (l m : List Int) (t : Int), evl (ladd l m) t = evl l t + evl m t
  | [], m, t => by
    show evl m t = 0 + evl m t
    omega
  | a :: l, [], t => by
    show evl (a :: l) t = evl (a :: l) t + 0
    omega
  | a :: l, b :: m, t => by
    show (a + b) + t * evl (ladd l m) t = (a + t * evl l t) + (b + t * evl m t)
    rw [evl_add l m t]
    grind
theorem evl_map (k : Int) : ∀ (l : List Int) (t : Int), evl (l.map (fun x => k * x)) t = k * evl l t
  | [], t => by
    show (0 : Int) = k * 0
    omega
  | a :: l, t => by
    show k * a + t * evl (l.map (fun x => k * x)) t = k * (a + t * evl l t)
    rw [evl_map k l t]
    grind
theorem evl_mul : ∀ (l m : List Int) (t : Int), evl (lmul l m) t = evl l t * evl m t
  | [], m, t => by
    show (0 : Int) = 0 * evl m t
    omega
  | a :: l, m, t => by
    show evl (ladd (m.map (fun x => a * x)) (0 :: lmul l m)) t = (a + t * evl l t) * evl m t
    rw [evl_add, evl_map]
    show a * evl m t + (0 + t * evl (lmul l m) t) = _
    rw [evl_mul l m t]
    grind
def gd (l : List Int) (i : Nat) : Int := l.getD i 0
theorem gd_add : ∀ (l m : List Int) (i : Nat), gd (ladd l m) i = gd l i + gd m i
  | [], m, i => by
    show gd m i = 0 + gd m i
    omega
  | a :: l, [], i => by
    show gd (a :: l) i = gd (a :: l) i + 0
    omega
  | a :: l, b :: m, 0 => rfl
  | a :: l, b :: m, i + 1 => gd_add l m i
theorem gd_map (k : Int) : ∀ (l : List Int) (i : Nat), gd (l.map (fun x => k * x)) i = k * gd l i
  | [], i => by
    show (0 : Int) = k * 0
    omega
  | a :: l, 0 => rfl
  | a :: l, i + 1 => gd_map k l i
theorem gd_mul : ∀ (l m : List Int) (i : Nat), gd (lmul l m) i = conv l (gd m) i
  | [], m, i => rfl
  | a :: l, m, 0 => by
    show gd (ladd (m.map (fun x => a * x)) (0 :: lmul l m)) 0 = _
    rw [gd_add, gd_map, conv_0]
    show a * gd m 0 + 0 = _
    omega
  | a :: l, m, i + 1 => by
    show gd (ladd (m.map (fun x => a * x)) (0 :: lmul l m)) (i + 1) = _
    rw [gd_add, gd_map, conv_s]
    show a * gd m (i + 1) + gd (lmul l m) i = _
    rw [gd_mul l m i]
theorem evl_zero : ∀ (l : List Int) (N : Int), (∀ t, N ≤ t → evl l t = 0) → ∀ i, gd l i = 0
  | [], _, _, i => rfl
  | a :: l, N, h, i => by
    have ha : a = 0 := by
      have h1 := h (N.natAbs + a.natAbs + 1) (by omega)
      have h2 : ((N.natAbs + a.natAbs + 1 : Nat) : Int) * evl l (N.natAbs + a.natAbs + 1) = -a := by
        have h3 : a + (N.natAbs + a.natAbs + 1) * evl l (N.natAbs + a.natAbs + 1) = 0 := h1
        have : ((N.natAbs + a.natAbs + 1 : Nat) : Int) = (N.natAbs : Int) + a.natAbs + 1 := by omega
        rw [this]
        omega
      have h4 : ((N.natAbs + a.natAbs + 1 : Nat) : Int) ∣ -a := ⟨_, h2.symm⟩
      have h5 := Int.natAbs_dvd_natAbs.mpr h4
      rw [Int.natAbs_natCast, Int.natAbs_neg] at h5
      by_cases q : a.natAbs = 0
      · exact Int.natAbs_eq_zero.mp q
      · have := Nat.le_of_dvd (by omega) h5
        omega
    have hl := evl_zero l (N.natAbs + 1) (fun t ht => by
      have h1 : a + t * evl l t = 0 := h t (by omega)
      rw [ha, Int.zero_add] at h1
      rcases Int.mul_eq_zero.mp h1 with q | q
      · omega
      · exact q)
    match i with
    | 0 => exact ha
    | i + 1 => exact hl i
theorem evl_uq {l m : List Int} (h : ∀ t, evl l t = evl m t) (i : Nat) : gd l i = gd m i := by
  have h1 := evl_zero (ladd l (m.map (fun x => -1 * x))) 0 (fun t _ => by
    rw [evl_add, evl_map, h t]
    omega) i
  rw [gd_add, gd_map] at h1
  omega
def Pf (F : Int → Int) : Prop := ∃ l : List Int, ∀ t, F t = evl l t
theorem Pf.add {F G : Int → Int} (h1 : Pf F) (h2 : Pf G) : Pf (fun t => F t + G t) := by
  obtain ⟨l, hl⟩ := h1
  obtain ⟨m, hm⟩ := h2
  exact ⟨ladd l m, fun t => by rw [evl_add, ← hl, ← hm]⟩
theorem Pf.mul {F G : Int → Int} (h1 : Pf F) (h2 : Pf G) : Pf (fun t => F t * G t) := by
  obtain ⟨l, hl⟩ := h1
  obtain ⟨m, hm⟩ := h2
  exact ⟨lmul l m, fun t => by rw [evl_mul, ← hl, ← hm]⟩
theorem Pf.con (c : Int) : Pf (fun _ => c) := ⟨[c], fun t => by show c = c + t * 0; omega⟩
theorem Pf.var : Pf (fun t => t) := ⟨[0, 1], fun t => by show t = 0 + t * (1 + t * 0); grind⟩
theorem Pf.neg {F : Int → Int} (h1 : Pf F) : Pf (fun t => -F t) := by
  obtain ⟨l, hl⟩ := h1
  exact ⟨l.map (fun x => -1 * x), fun t => by rw [evl_map, ← hl]; show -F t = _; omega⟩
theorem Pf.sub {F G : Int → Int} (h1 : Pf F) (h2 : Pf G) : Pf (fun t => F t - G t) := by
  obtain ⟨l, hl⟩ := h1
  obtain ⟨m, hm⟩ := h2
  exact ⟨ladd l (m.map (fun x => -1 * x)), fun t => by rw [evl_add, evl_map, ← hl, ← hm]; show F t - G t = _; omega⟩
/-- products that are multiples of a number, of two polynomials: number by number -/
theorem prod_dvd {l m : List Int} {n : Int} {F : Int → Int} (hF : Pf F) (h : ∀ t, evl l t * evl m t = n * F t) (i : Nat) : n ∣ conv l (gd m) i := by
  obtain ⟨r, hr⟩ := hF
  have h1 := evl_uq (l := lmul l m) (m := r.map (fun x => n * x)) (fun t => by rw [evl_mul, evl_map, h t, hr]) i
  rw [gd_mul, gd_map] at h1
  exact ⟨_, h1⟩
theorem irr2 : Irr 2 := ⟨by decide, fun q h1 h2 => by have := Nat.le_of_dvd (by decide) h2; omega⟩
theorem conv_gm (k : Int) (g : Nat → Int) : ∀ (c : List Int) (i : Nat), conv c (fun j => k * g j) i = k * conv c g i
  | [], i => by
    show (0 : Int) = k * 0
    omega
  | a :: c, 0 => by
    rw [conv_0, conv_0]
    grind
  | a :: c, i + 1 => by
    rw [conv_s, conv_s, conv_gm k g c i]
    grind
/-- the power of two in the one factor -/
theorem low_pw {g : Nat → Int} : ∀ (B : Nat), (¬ ∀ j, (2 ^ (B + 1) : Int) ∣ g j) → ∃ (b : Nat) (g1 : Nat → Int), b ≤ B ∧ (∀ j, g j = 2 ^ b * g1 j) ∧ ∃ j, ¬ (2 : Int) ∣ g1 j
  | 0, h => ⟨0, g, Nat.le_refl 0, fun j => by rw [Int.pow_zero, Int.one_mul], Classical.byContradiction fun q => h fun j => by
      have : (2 : Int) ∣ g j := Classical.byContradiction fun z => q ⟨j, z⟩
      exact this⟩
  | B + 1, h => by
    by_cases q : ∀ j, (2 ^ (B + 1) : Int) ∣ g j
    · refine ⟨B + 1, fun j => g j / 2 ^ (B + 1), Nat.le_refl _, fun j => (Int.mul_ediv_cancel' (q j)).symm, Classical.byContradiction fun z => h fun j => ?_⟩
      have h1 : (2 : Int) ∣ g j / 2 ^ (B + 1) := Classical.byContradiction fun y => z ⟨j, y⟩
      obtain ⟨t, ht⟩ := h1
      have h2 : g j = 2 ^ (B + 1) * (2 * t) := by rw [← ht]; exact (Int.mul_ediv_cancel' (q j)).symm
      exact ⟨t, by rw [h2, Int.pow_succ (2 : Int) (B + 1)]; grind⟩
    · obtain ⟨b, g1, h1, h2, h3⟩ := low_pw B q
      exact ⟨b, g1, by omega, h2, h3⟩
theorem even_ls {g : Nat → Int} {c : List Int} (hg : ∃ j, ¬ (2 : Int) ∣ g j) (h : ∀ i, (2 : Int) ∣ conv c g i) : ∃ d : List Int, c = d.map (fun x => 2 * x) := by
  obtain ⟨j, hj⟩ := hg
  obtain ⟨i0, h0, h1⟩ := first_ex (P := fun i => ¬ (2 : Int) ∣ g i) j j (Nat.le_refl _) hj
  exact conv_pm irr2 h0 (fun k hk => Classical.byContradiction fun q => h1 k hk q) c h
theorem gauss2 {g : Nat → Int} (hg : ∃ j, ¬ (2 : Int) ∣ g j) : ∀ (A : Nat) (c : List Int), (∀ i, (2 ^ A : Int) ∣ conv c g i) → ∀ i, (2 ^ A : Int) ∣ gd c i
  | 0, c, _, i => ⟨gd c i, by rw [Int.pow_zero, Int.one_mul]⟩
  | A + 1, c, h, i => by
    obtain ⟨d, hd⟩ := even_ls hg (fun i => Int.dvd_trans ⟨2 ^ A, by rw [Int.pow_succ]; grind⟩ (h i))
    have h2 : ∀ i, (2 ^ A : Int) ∣ conv d g i := fun i => by
      obtain ⟨t, ht⟩ := h i
      rw [hd, conv_mul, Int.pow_succ] at ht
      exact ⟨t, by
        have : 2 * conv d g i = 2 * (2 ^ A * t) := by rw [ht]; grind
        omega⟩
    obtain ⟨t, ht⟩ := gauss2 hg A d h2 i
    rw [hd, gd_map, ht]
    exact ⟨t, by rw [Int.pow_succ]; grind⟩
theorem gauss3 {g : Nat → Int} {A B : Nat} (hAB : B ≤ A) (hg : ¬ ∀ j, (2 ^ (B + 1) : Int) ∣ g j) {c : List Int} (h : ∀ i, (2 ^ A : Int) ∣ conv c g i) (i : Nat) : (2 ^ (A - B) : Int) ∣ gd c i := by
  obtain ⟨b, g1, h1, h2, h3⟩ := low_pw B hg
  refine gauss2 h3 (A - B) c (fun i => ?_) i
  have e : g = fun j => 2 ^ b * g1 j := funext h2
  obtain ⟨t, ht⟩ := h i
  rw [e, conv_gm] at ht
  have e2 : (2 ^ A : Int) = 2 ^ b * 2 ^ (A - b) := by rw [← Int.pow_add]; congr 1; omega
  have hp : (2 ^ b : Int) ≠ 0 := Int.ne_of_gt (Int.pow_pos (by decide))
  refine pw_le_dvd (j := A - b) (by omega) ⟨t, ?_⟩
  apply Int.eq_of_mul_eq_mul_left hp
  rw [ht, e2]
  grind
/-- squares -/
theorem gauss_sq : ∀ (A : Nat) (c : List Int), (∀ i, (2 ^ (2 * A) : Int) ∣ conv c (gd c) i) → ∀ i, (2 ^ A : Int) ∣ gd c i
  | 0, c, _, i => ⟨gd c i, by rw [Int.pow_zero, Int.one_mul]⟩
  | A + 1, c, h, i => by
    have h1 : ∀ i, (2 : Int) ∣ conv c (gd c) i := fun i => Int.dvd_trans ⟨2 ^ (2 * A + 1), by rw [show 2 * (A + 1) = (2 * A + 1) + 1 by omega, Int.pow_succ]; grind⟩ (h i)
    have hd : ∃ d : List Int, c = d.map (fun x => 2 * x) := by
      by_cases q : ∃ j, ¬ (2 : Int) ∣ gd c j
      · exact even_ls q h1
      · refine ⟨c.map (fun x => x / 2), ?_⟩
        have q2 : ∀ x ∈ c, (2 : Int) ∣ x := fun x hx => by
          obtain ⟨j, hj, e⟩ := List.mem_iff_getElem.mp hx
          have : (2 : Int) ∣ gd c j := Classical.byContradiction fun z => q ⟨j, z⟩
          have e2 : gd c j = x := by unfold gd; rw [List.getD_eq_getElem?_getD, List.getElem?_eq_getElem hj]; exact e
          rw [← e2]
          exact this
        rw [List.map_map]
        have : c.map ((fun x => 2 * x) ∘ fun x => x / 2) = c.map id := List.map_congr_left (fun x hx => by
          have := q2 x hx
          show 2 * (x / 2) = x
          omega)
        rw [this, List.map_id]
    obtain ⟨d, hd⟩ := hd
    have e : gd c = fun j => 2 * gd d j := funext fun j => by rw [hd, gd_map]
    have h2 : ∀ i, (2 ^ (2 * A) : Int) ∣ conv d (gd d) i := fun i => by
      obtain ⟨t, ht⟩ := h i
      rw [e, conv_gm, hd, conv_mul, show 2 * (A + 1) = 2 * A + 1 + 1 by omega, Int.pow_succ, Int.pow_succ] at ht
      exact ⟨t, by
        have : 4 * conv d (gd d) i = 4 * (2 ^ (2 * A) * t) := by grind
        omega⟩
    obtain ⟨t, ht⟩ := gauss_sq A d h2 i
    rw [hd, gd_map, ht]
    exact ⟨t, by rw [Int.pow_succ]; grind⟩
