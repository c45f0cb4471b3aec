/-! a root's digits from the top: the order of the document as powers of one letter (x = t^8, y = t^7) -/
def t8 (t : Int) : Int := t * t7 t
def w8 (T : Nat → Nat → Int) : List Int := [T 0 0, 0, 0, 0, 0, 0, 0, T 0 1, T 1 0, 0, 0, 0, 0, 0, T 0 2, T 1 1, T 2 0, 0, 0, 0, 0, T 0 3, T 1 2, T 2 1, T 3 0, 0, 0, 0, T 0 4, T 1 3, T 2 2, T 3 1, T 4 0, 0, 0, T 0 5, T 1 4, T 2 3, T 3 2, T 4 1, T 5 0, 0, T 0 6, T 1 5, T 2 4, T 3 3, T 4 2, T 5 1, T 6 0]
theorem evl_w8 (T : Nat → Nat → Int) (t : Int) : evl (w8 T) t = hom6 T (t8 t) (t7 t) 1 := by
  unfold w8 hom6 t8 t7
  simp only [evl]
  grind
theorem gd_w8 (T : Nat → Nat → Int) : ∀ i, gd (w8 T) i = if i % 7 ≤ i / 7 ∧ i / 7 ≤ 6 then T (i % 7) (i / 7 - i % 7) else 0
  | 0 => rfl
  | 1 => rfl
  | 2 => rfl
  | 3 => rfl
  | 4 => rfl
  | 5 => rfl
  | 6 => rfl
  | 7 => rfl
  | 8 => rfl
  | 9 => rfl
  | 10 => rfl
  | 11 => rfl
  | 12 => rfl
  | 13 => rfl
  | 14 => rfl
  | 15 => rfl
  | 16 => rfl
  | 17 => rfl
  | 18 => rfl
  | 19 => rfl
  | 20 => rfl
  | 21 => rfl
  | 22 => rfl
  | 23 => rfl
  | 24 => rfl
  | 25 => rfl
  | 26 => rfl
  | 27 => rfl
  | 28 => rfl
  | 29 => rfl
  | 30 => rfl
  | 31 => rfl
  | 32 => rfl
  | 33 => rfl
  | 34 => rfl
  | 35 => rfl
  | 36 => rfl
  | 37 => rfl
  | 38 => rfl
  | 39 => rfl
  | 40 => rfl
  | 41 => rfl
  | 42 => rfl
  | 43 => rfl
  | 44 => rfl
  | 45 => rfl
  | 46 => rfl
  | 47 => rfl
  | 48 => rfl
  | i + 49 => by
    rw [if_neg (by omega)]
    exact gd_fin _ _ (by show 49 ≤ i + 49; omega)
theorem gd_w8a (T : Nat → Nat → Int) {a b : Nat} (h : a + b ≤ 6) : gd (w8 T) (7 * (a + b) + a) = T a b := by
  have hq : (7 * (a + b) + a) / 7 = a + b := by
    rw [Nat.mul_add_div (by decide), Nat.div_eq_of_lt (by omega)]
    omega
  have hm : (7 * (a + b) + a) % 7 = a := by rw [Nat.mul_add_mod, Nat.mod_eq_of_lt (by omega)]
  rw [gd_w8, hq, hm, if_pos (by omega), show a + b - a = b by omega]
theorem hom6_sub (s t : Nat → Nat → Int) (x y w : Int) : hom6 (fun a b => s a b - t a b) x y w = hom6 s x y w - hom6 t x y w := by
  unfold hom6
  dsimp only
  generalize s 6 0 = s60
  generalize t 6 0 = t60
  generalize s 5 1 = s51
  generalize t 5 1 = t51
  generalize s 5 0 = s50
  generalize t 5 0 = t50
  generalize s 4 2 = s42
  generalize t 4 2 = t42
  generalize s 4 1 = s41
  generalize t 4 1 = t41
  generalize s 4 0 = s40
  generalize t 4 0 = t40
  generalize s 3 3 = s33
  generalize t 3 3 = t33
  generalize s 3 2 = s32
  generalize t 3 2 = t32
  generalize s 3 1 = s31
  generalize t 3 1 = t31
  generalize s 3 0 = s30
  generalize t 3 0 = t30
  generalize s 2 4 = s24
  generalize t 2 4 = t24
  generalize s 2 3 = s23
  generalize t 2 3 = t23
  generalize s 2 2 = s22
  generalize t 2 2 = t22
  generalize s 2 1 = s21
  generalize t 2 1 = t21
  generalize s 2 0 = s20
  generalize t 2 0 = t20
  generalize s 1 5 = s15
  generalize t 1 5 = t15
  generalize s 1 4 = s14
  generalize t 1 4 = t14
  generalize s 1 3 = s13
  generalize t 1 3 = t13
  generalize s 1 2 = s12
  generalize t 1 2 = t12
  generalize s 1 1 = s11
  generalize t 1 1 = t11
  generalize s 1 0 = s10
  generalize t 1 0 = t10
  generalize s 0 6 = s06
  generalize t 0 6 = t06
  generalize s 0 5 = s05
  generalize t 0 5 = t05
  generalize s 0 4 = s04
  generalize t 0 4 = t04
  generalize s 0 3 = s03
  generalize t 0 3 = t03
  generalize s 0 2 = s02
  generalize t 0 2 = t02
  generalize s 0 1 = s01
  generalize t 0 1 = t01
  generalize s 0 0 = s00
  generalize t 0 0 = t00
  grind
/-- a polynomial with its highest number -/
def Tp (F : Int → Int) (m : Nat) (c : Int) : Prop := ∃ l : List Int, (∀ t, F t = evl l t) ∧ (∀ i, m < i → gd l i = 0) ∧ gd l m = c
theorem Tp.mul {F G : Int → Int} {m n : Nat} {c d : Int} (h1 : Tp F m c) (h2 : Tp G n d) : Tp (fun t => F t * G t) (m + n) (c * d) := by
  obtain ⟨l, a1, a2, a3⟩ := h1
  obtain ⟨k, b1, b2, b3⟩ := h2
  refine ⟨lmul l k, fun t => by rw [evl_mul, ← a1, ← b1], fun i hi => ?_, ?_⟩
  · rw [gd_mul]
    exact conv_hi b2 l m a2 i hi
  · rw [gd_mul, conv_last b2 l m a2, a3, b3]
theorem Tp.add {F G : Int → Int} {m : Nat} {c d : Int} (h1 : Tp F m c) (h2 : Tp G m d) : Tp (fun t => F t + G t) m (c + d) := by
  obtain ⟨l, a1, a2, a3⟩ := h1
  obtain ⟨k, b1, b2, b3⟩ := h2
  exact ⟨ladd l k, fun t => by rw [evl_add, ← a1, ← b1], fun i hi => by rw [gd_add, a2 i hi, b2 i hi]; rfl, by rw [gd_add, a3, b3]⟩
theorem Tp.con (c : Int) : Tp (fun _ => c) 0 c := ⟨[c], fun t => by show c = c + t * 0; omega, fun i hi => by
  match i, hi with
  | i + 1, _ => rfl, rfl⟩
theorem Tp.cg {F G : Int → Int} {m n : Nat} {c d : Int} (h : Tp F m c) (e : ∀ t, F t = G t) (hm : m = n) (hc : c = d) : Tp G n d := by
  subst hm
  subst hc
  obtain ⟨l, a1, a2⟩ := h
  exact ⟨l, fun t => by rw [← e]; exact a1 t, a2⟩
theorem Tp.pow {F : Int → Int} {m : Nat} {c : Int} (h : Tp F m c) : ∀ k : Nat, Tp (fun t => F t ^ k) (k * m) (c ^ k)
  | 0 => (Tp.con 1).cg (fun t => by rw [Int.pow_zero]) (by omega) (by rw [Int.pow_zero])
  | k + 1 => ((Tp.pow h k).mul h).cg (fun t => by rw [Int.pow_succ]) (by rw [Nat.succ_mul]) (by rw [Int.pow_succ])
def gsm (e p : Int) : Nat → Int
  | 0 => 0
  | k + 1 => e * gsm e p k + p ^ k
theorem gs_e (e p : Int) : ∀ k, e ^ k - p ^ k = (e - p) * gsm e p k
  | 0 => by
    rw [Int.pow_zero, Int.pow_zero]
    show (1 : Int) - 1 = (e - p) * 0
    omega
  | k + 1 => by
    have h := gs_e e p k
    show e ^ (k + 1) - p ^ (k + 1) = (e - p) * (e * gsm e p k + p ^ k)
    rw [Int.pow_succ, Int.pow_succ]
    have e1 : (e - p) * (e * gsm e p k + p ^ k) = e * ((e - p) * gsm e p k) + (e - p) * p ^ k := by grind
    rw [e1, ← h]
    grind
theorem Tp_gs {e p : Int → Int} {m : Nat} {L : Int} (he : Tp e m L) (hp : Tp p m L) : ∀ k : Nat, Tp (fun t => gsm (e t) (p t) (k + 1)) (k * m) (((k : Int) + 1) * L ^ k)
  | 0 => (Tp.con 1).cg (fun t => by show (1 : Int) = e t * 0 + p t ^ 0; rw [Int.pow_zero]; omega) (by omega) (by rw [Int.pow_zero]; rfl)
  | k + 1 => by
    have h := Tp_gs he hp k
    have h2 : Tp (fun t => e t * gsm (e t) (p t) (k + 1)) ((k + 1) * m) (((k : Int) + 1) * L ^ (k + 1)) := (he.mul h).cg (fun t => rfl) (by rw [Nat.succ_mul]; omega) (by rw [Int.pow_succ]; grind)
    refine Tp.cg (h2.add (hp.pow (k + 1))) (fun t => rfl) rfl ?_
    have : (((k + 1 : Nat) : Int)) = (k : Int) + 1 := by omega
    rw [this]
    grind
theorem root_top {e p : Int → Int} {m n : Nat} {L x : Int} {k : Nat} (hk : 1 ≤ k) (he : Tp e m L) (hp : Tp p m L) (hr : Tp (fun t => e t - p t) n x) : Tp (fun t => e t ^ k - p t ^ k) (n + (k - 1) * m) (x * ((k : Int) * L ^ (k - 1))) := by
  obtain ⟨j, rfl⟩ : ∃ j, k = j + 1 := ⟨k - 1, by omega⟩
  have h := hr.mul (Tp_gs he hp j)
  refine h.cg (fun t => (gs_e _ _ _).symm) (by rw [Nat.add_sub_cancel]) ?_
  rw [Nat.add_sub_cancel, show (((j + 1 : Nat) : Int)) = (j : Int) + 1 by omega]
/-- the true root -/
def tru (k : Nat) (f E : Nat → Int) : Prop := ∀ x y : Int, hom6 (fun a b => E (7 * a + b)) x y 1 ^ k = hom6 (fun a b => f (7 * a + b)) x y 1
/-- where a cell stands in the document's order -/
def wt (a b : Nat) : Nat := 7 * (a + b) + a
theorem Tp_w8 {E : Nat → Int} {i j : Nat} (hij : i + j ≤ 6) (h : ∀ a b, a + b ≤ 6 → wt i j < wt a b → E (7 * a + b) = 0) : Tp (fun t => hom6 (fun a b => E (7 * a + b)) (t8 t) (t7 t) 1) (wt i j) (E (7 * i + j)) := by
  refine ⟨w8 (fun a b => E (7 * a + b)), fun t => (evl_w8 _ t).symm, fun s hs => ?_, gd_w8a _ hij⟩
  rw [gd_w8]
  by_cases q : s % 7 ≤ s / 7 ∧ s / 7 ≤ 6
  · rw [if_pos q]
    refine h (s % 7) (s / 7 - s % 7) (by omega) ?_
    unfold wt at *
    omega
  · rw [if_neg q]
/-- the next digit: what the whole has there beyond the power of what is known -/
theorem root_next {k D : Nat} {f E P T : Nat → Int} {ri rj i j : Nat} (hk : 1 ≤ k) (hD : k * D ≤ 6) (hr : ri + rj = D) (hij : i + j ≤ D) (hlt : wt i j < wt ri rj) (hE0 : ∀ a b, a + b ≤ 6 → wt ri rj < wt a b → E (7 * a + b) = 0) (hP1 : ∀ a b, a + b ≤ 6 → wt i j < wt a b → P (7 * a + b) = E (7 * a + b)) (hP0 : ∀ a b, a + b ≤ 6 → ¬ wt i j < wt a b → P (7 * a + b) = 0) (hf : tru k f E) (hT : tru k T P) : f (7 * (i + (k - 1) * ri) + (j + (k - 1) * rj)) - T (7 * (i + (k - 1) * ri) + (j + (k - 1) * rj)) = E (7 * i + j) * ((k : Int) * E (7 * ri + rj) ^ (k - 1)) := by
  have hrs := hr
  have h6 : D ≤ 6 := Nat.le_trans (by have := Nat.mul_le_mul hk (Nat.le_refl D); omega) hD
  have he := Tp_w8 (E := E) (i := ri) (j := rj) (by omega) hE0
  have hp := Tp_w8 (E := P) (i := ri) (j := rj) (by omega) (fun a b hab hw => by rw [hP1 a b hab (by omega)]; exact hE0 a b hab hw)
  rw [hP1 ri rj (by omega) hlt] at hp
  have hr : Tp (fun t => hom6 (fun a b => E (7 * a + b)) (t8 t) (t7 t) 1 - hom6 (fun a b => P (7 * a + b)) (t8 t) (t7 t) 1) (wt i j) (E (7 * i + j)) := by
    refine (Tp_w8 (E := fun c => E c - P c) (i := i) (j := j) (by omega) (fun a b hab hw => by rw [hP1 a b hab hw]; omega)).cg (fun t => ?_) rfl (by rw [hP0 i j (by omega) (by omega)]; omega)
    have e1 : hom6 (fun a b => E (7 * a + b) - P (7 * a + b)) (t8 t) (t7 t) 1 = hom6 (fun a b => E (7 * a + b)) (t8 t) (t7 t) 1 - hom6 (fun a b => P (7 * a + b)) (t8 t) (t7 t) 1 := hom6_sub _ _ _ _ _
    exact e1
  obtain ⟨l, l1_, l2, l3⟩ := root_top hk he hp hr
  have l1 : ∀ t, hom6 (fun a b => E (7 * a + b)) (t8 t) (t7 t) 1 ^ k - hom6 (fun a b => P (7 * a + b)) (t8 t) (t7 t) 1 ^ k = evl l t := l1_
  have u := evl_uq (l := ladd (w8 (fun a b => f (7 * a + b))) ((w8 (fun a b => T (7 * a + b))).map (fun x => -1 * x))) (m := l) (fun t => by
    rw [evl_add, evl_map, evl_w8, evl_w8, ← l1, ← hf, ← hT]
    omega) (wt i j + (k - 1) * wt ri rj)
  have kk : (k - 1) * D + D = k * D := by
    obtain ⟨q, rfl⟩ : ∃ q, k = q + 1 := ⟨k - 1, by omega⟩
    rw [Nat.add_sub_cancel, Nat.succ_mul]
  have m1 : (k - 1) * ri + (k - 1) * rj = (k - 1) * D := by rw [← Nat.mul_add, hrs]
  have es : wt i j + (k - 1) * wt ri rj = 7 * ((i + (k - 1) * ri) + (j + (k - 1) * rj)) + (i + (k - 1) * ri) := by
    have e9 : (k - 1) * (7 * (ri + rj) + ri) = 7 * ((k - 1) * ri) + 7 * ((k - 1) * rj) + (k - 1) * ri := by
      generalize k - 1 = q
      rw [Nat.mul_add, Nat.mul_left_comm, Nat.mul_add q ri rj, Nat.mul_add]
    unfold wt
    rw [e9]
    omega
  rw [l3, gd_add, gd_map, es, gd_w8a _ (by omega), gd_w8a _ (by omega)] at u
  omega
