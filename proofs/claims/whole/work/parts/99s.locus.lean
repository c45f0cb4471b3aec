/-! Sylvester's matrix in the reference's cells -/
theorem ent_at {E E' : Nat → Int64} {r c : Int} {x0 x1 x2 : Int64} (hr : 0 ≤ r ∧ r < 8) (hc : 0 ≤ c ∧ c < 8) (e : ∀ q : Int, 0 ≤ q → E' q.toNat = if q = 3 * (8 * r + c) + 2 then x2 else if q = 3 * (8 * r + c) + 1 then x1 else if q = 3 * (8 * r + c) then x0 else E q.toNat) (R C : Int) (hR : 0 ≤ R ∧ R < 8) (hC : 0 ≤ C ∧ C < 8) : E' (3 * (8 * R + C)).toNat = (if R = r ∧ C = c then x0 else E (3 * (8 * R + C)).toNat) ∧ E' (3 * (8 * R + C) + 1).toNat = (if R = r ∧ C = c then x1 else E (3 * (8 * R + C) + 1).toNat) ∧ E' (3 * (8 * R + C) + 2).toNat = (if R = r ∧ C = c then x2 else E (3 * (8 * R + C) + 2).toNat) := by
  by_cases h : R = r ∧ C = c
  · obtain ⟨rfl, rfl⟩ := h
    refine ⟨?_, ?_, ?_⟩
    · rw [e _ (by omega), if_neg (by omega), if_neg (by omega), if_pos rfl]
      exact (if_pos ⟨rfl, rfl⟩).symm
    · rw [e _ (by omega), if_neg (by omega), if_pos rfl]
      exact (if_pos ⟨rfl, rfl⟩).symm
    · rw [e _ (by omega), if_pos rfl]
      exact (if_pos ⟨rfl, rfl⟩).symm
  · rw [e _ (by omega), e _ (by omega), e _ (by omega), if_neg h, if_neg h, if_neg h]
    have h2 : ¬ (8 * R + C = 8 * r + c) := fun z => h ⟨by omega, by omega⟩
    refine ⟨?_, ?_, ?_⟩ <;> rw [if_neg (by omega), if_neg (by omega), if_neg (by omega)]
def E3at (E : Nat → Int64) (R C : Int) (a b c : Int64) : Prop := E (3 * (8 * R + C)).toNat = a ∧ E (3 * (8 * R + C) + 1).toNat = b ∧ E (3 * (8 * R + C) + 2).toNat = c
def LE (E f : Nat → Int64) (n r k : Int) : Prop := ∀ R C : Int, 0 ≤ R → R < 8 → 0 ≤ C → C < 8 → (R < n → (if 0 ≤ R + n - C ∧ R + n - C ≤ n ∧ (R < r ∨ (R = r ∧ R + n - C < k)) then E3at E R C (f (R + n - C).toNat) (-f (10 + (R + n - C)).toNat) 0 else E3at E R C 0 0 0)) ∧ (n ≤ R → (if 0 ≤ R - C ∧ R - C ≤ n ∧ (R - n < r ∨ (R - n = r ∧ R - C < k)) then E3at E R C (f (5 + (R - C)).toNat) 0 (-f (10 + (R - C)).toNat) else E3at E R C 0 0 0))
theorem LE_0 {E f : Nat → Int64} {n : Int} (h : ∀ q : Int, 0 ≤ q → q < 192 → E q.toNat = 0) : LE E f n 0 0 := fun R C h1 h2 h3 h4 => by
  have e : E3at E R C 0 0 0 := ⟨h _ (by omega) (by omega), h _ (by omega) (by omega), h _ (by omega) (by omega)⟩
  refine ⟨fun hR => ?_, fun hR => ?_⟩
  · rw [if_neg (by omega)]
    exact e
  · rw [if_neg (by omega)]
    exact e
theorem LE_r {E f : Nat → Int64} {n r k : Int} (hk : k = n + 1) (h : LE E f n r k) : LE E f n (r + 1) 0 := fun R C h1 h2 h3 h4 => by
  obtain ⟨a, b⟩ := h R C h1 h2 h3 h4
  refine ⟨fun hR => ?_, fun hR => ?_⟩
  · have a := a hR
    by_cases q : 0 ≤ R + n - C ∧ R + n - C ≤ n ∧ (R < r ∨ (R = r ∧ R + n - C < k))
    · rw [if_pos q] at a
      rw [if_pos (by omega)]
      exact a
    · rw [if_neg q] at a
      rw [if_neg (by omega)]
      exact a
  · have b := b hR
    by_cases q : 0 ≤ R - C ∧ R - C ≤ n ∧ (R - n < r ∨ (R - n = r ∧ R - C < k))
    · rw [if_pos q] at b
      rw [if_pos (by omega)]
      exact b
    · rw [if_neg q] at b
      rw [if_neg (by omega)]
      exact b
theorem LE_s {E Ea Eb f : Nat → Int64} {n r k : Int} (hn : 1 ≤ n ∧ n ≤ 4) (hr : 0 ≤ r ∧ r < n) (hk : 0 ≤ k ∧ k ≤ n) (ea : ∀ q : Int, 0 ≤ q → Ea q.toNat = if q = 3 * (8 * r + (r + n - k)) + 2 then 0 else if q = 3 * (8 * r + (r + n - k)) + 1 then -f (10 + k).toNat else if q = 3 * (8 * r + (r + n - k)) then f k.toNat else E q.toNat) (eb : ∀ q : Int, 0 ≤ q → Eb q.toNat = if q = 3 * (8 * (n + r) + (r + n - k)) + 2 then -f (10 + k).toNat else if q = 3 * (8 * (n + r) + (r + n - k)) + 1 then 0 else if q = 3 * (8 * (n + r) + (r + n - k)) then f (5 + k).toNat else Ea q.toNat) (h : LE E f n r k) : LE Eb f n r (k + 1) := fun R C h1 h2 h3 h4 => by
  obtain ⟨a, b⟩ := h R C h1 h2 h3 h4
  obtain ⟨a1, a2, a3⟩ := ent_at (by omega) (by omega) ea R C ⟨h1, h2⟩ ⟨h3, h4⟩
  obtain ⟨b1, b2, b3⟩ := ent_at (by omega) (by omega) eb R C ⟨h1, h2⟩ ⟨h3, h4⟩
  refine ⟨fun hR => ?_, fun hR => ?_⟩
  · have a := a hR
    rw [if_neg (by omega)] at b1 b2 b3
    by_cases q : R = r ∧ C = r + n - k
    · rw [if_pos q] at a1 a2 a3
      rw [if_pos (by omega), show R + n - C = k by omega]
      exact ⟨b1.trans a1, b2.trans a2, b3.trans a3⟩
    · rw [if_neg q] at a1 a2 a3
      by_cases p : 0 ≤ R + n - C ∧ R + n - C ≤ n ∧ (R < r ∨ (R = r ∧ R + n - C < k))
      · rw [if_pos p] at a
        rw [if_pos (by omega)]
        exact ⟨b1.trans (a1.trans a.1), b2.trans (a2.trans a.2.1), b3.trans (a3.trans a.2.2)⟩
      · rw [if_neg p] at a
        rw [if_neg (by omega)]
        exact ⟨b1.trans (a1.trans a.1), b2.trans (a2.trans a.2.1), b3.trans (a3.trans a.2.2)⟩
  · have b := b hR
    rw [if_neg (by omega)] at a1 a2 a3
    by_cases q : R = n + r ∧ C = r + n - k
    · rw [if_pos q] at b1 b2 b3
      rw [if_pos (by omega), show R - C = k by omega]
      exact ⟨b1, b2, b3⟩
    · rw [if_neg q] at b1 b2 b3
      by_cases p : 0 ≤ R - C ∧ R - C ≤ n ∧ (R - n < r ∨ (R - n = r ∧ R - C < k))
      · rw [if_pos p] at b
        rw [if_pos (by omega)]
        exact ⟨b1.trans (a1.trans b.1), b2.trans (a2.trans b.2.1), b3.trans (a3.trans b.2.2)⟩
      · rw [if_neg p] at b
        rw [if_neg (by omega)]
        exact ⟨b1.trans (a1.trans b.1), b2.trans (a2.trans b.2.1), b3.trans (a3.trans b.2.2)⟩
theorem dI_c {en en' : Nat → Nat → Int} {n : Nat} : ∀ k, (∀ r c, r < k → c < n → en r c = en' r c) → ∀ s, dI en n k s = dI en' n k s
  | 0, _, _ => rfl
  | k + 1, h, s => by
    show dcs (dI en n k) (en k) s n n = dcs (dI en' n k) (en' k) s n n
    have ih := dI_c (en := en) (en' := en') (n := n) k (fun r c hr hc => h r c (by omega) hc)
    have e : dI en n k = dI en' n k := funext ih
    rw [e]
    have go : ∀ m, m ≤ n → dcs (dI en' n k) (en k) s n m = dcs (dI en' n k) (en' k) s n m := fun m => by
      induction m with
      | zero => exact fun _ => rfl
      | succ m ih =>
        intro hm
        unfold dcs
        rw [ih (by omega), h k (n - 1 - m) (by omega) (by omega)]
    exact go n (Nat.le_refl _)
theorem neg_s {a : Int64} (h : a.toInt.natAbs ≤ 105) : (-a).toInt = -a.toInt := by
  rw [Int64.toInt_neg, Int.bmod_eq_of_le (by omega) (by omega)]
theorem t7_e (t : Int) : t ^ 7 = t7 t := by
  unfold t7
  grind
/-- the lines at t -/
def fX (X W : Nat → Int) (t : Int) (k : Nat) : Int := X k - W k * t7 t
def fY (Y W : Nat → Int) (t : Int) (k : Nat) : Int := Y k - W k * t
theorem mij_m3 (X Y W : Nat → Int) (t : Int) (i j : Nat) : mij (fX X W t) (fY Y W t) i j = m3 X Y W (t7 t) t 1 i j := by
  unfold mij fX fY m3
  generalize t7 t = x
  grind
theorem Fq_Fz {n : Nat} (h1 : 1 ≤ n) (hn : n ≤ 4) (X Y W : Nat → Int) (t : Int) : Fq (fX X W t) (fY Y W t) n = Fz n X Y W (t7 t) t 1 := by
  have : n = 1 ∨ n = 2 ∨ n = 3 ∨ n = 4 := by omega
  rcases this with rfl | rfl | rfl | rfl
  · show mij _ _ 0 1 = m3 X Y W (t7 t) t 1 0 1 * 1 * (1 * 1)
    rw [mij_m3]
    omega
  · show _ = F2 X Y W (t7 t) t 1 * (1 * 1)
    unfold F2 Fq
    simp only [mij_m3]
    omega
  · show _ = F3 X Y W (t7 t) t 1 * 1
    unfold F3 Fq
    simp only [mij_m3]
    omega
  · show _ = FF X Y W (t7 t) t 1
    unfold FF Fq
    simp only [mij_m3]
theorem LE_syl {E f : Nat → Int64} {n r : Int} (hn : 1 ≤ n ∧ n ≤ 4) (hr : r = n) (hb : ∀ i, i < 15 → (f i).toInt.natAbs ≤ 105) (h : LE E f n r 0) (t : Int) (R C : Nat) (hR : R < 2 * n.toNat) (hC : C < 2 * n.toNat) : Ey E R C t = sylI (fX (fun j => (f j).toInt) (fun j => (f (10 + j)).toInt) t) (fY (fun j => (f (5 + j)).toInt) (fun j => (f (10 + j)).toInt) t) n.toNat R C := by
  subst hr
  obtain ⟨a, b⟩ := h R C (by omega) (by omega) (by omega) (by omega)
  unfold Ey
  rw [t7_e, show 3 * (8 * R + C) = (3 * (8 * (R : Int) + C)).toNat by omega, show (3 * (8 * (R : Int) + C)).toNat + 1 = (3 * (8 * (R : Int) + C) + 1).toNat by omega, show (3 * (8 * (R : Int) + C)).toNat + 2 = (3 * (8 * (R : Int) + C) + 2).toNat by omega]
  unfold sylI
  have z : (0 : Int64).toInt = 0 := rfl
  by_cases hRn : R < r.toNat
  · rw [if_pos hRn]
    have a := a (by omega)
    by_cases q : R ≤ C ∧ C ≤ R + r.toNat
    · rw [if_pos q]
      rw [if_pos (by omega)] at a
      obtain ⟨a1, a2, a3⟩ := a
      rw [a1, a2, a3, neg_s (hb _ (by omega)), z]
      unfold fX
      rw [show ((R : Int) + r - C).toNat = R + r.toNat - C by omega, show (10 + ((R : Int) + r - C)).toNat = 10 + (R + r.toNat - C) by omega]
      generalize t7 t = x
      grind
    · rw [if_neg q]
      rw [if_neg (by omega)] at a
      obtain ⟨a1, a2, a3⟩ := a
      rw [a1, a2, a3, z]
      omega
  · rw [if_neg hRn]
    have b := b (by omega)
    by_cases q : C ≤ R ∧ R ≤ C + r.toNat
    · rw [if_pos q]
      rw [if_pos (by omega)] at b
      obtain ⟨a1, a2, a3⟩ := b
      rw [a1, a2, a3, neg_s (hb _ (by omega)), z]
      unfold fY
      rw [show (5 + ((R : Int) - C)).toNat = 5 + (R - C) by omega, show (10 + ((R : Int) - C)).toNat = 10 + (R - C) by omega]
      generalize t7 t = x
      grind
    · rw [if_neg q]
      rw [if_neg (by omega)] at b
      obtain ⟨a1, a2, a3⟩ := b
      rw [a1, a2, a3, z]
      omega
def fI (f : Nat → Int64) (a : Nat) : Nat → Int := ti (fP f a)
theorem sg1_e {n : Nat} : sg1 n = 1 ∨ sg1 n = -1 := by
  unfold sg1
  split
  · exact Or.inr rfl
  · exact Or.inr rfl
  · exact Or.inl rfl
theorem lo_cg {E f m : Nat → Int64} {n r : Int} (hn : 1 ≤ n ∧ n ≤ 4) (hr : r = n) (hb : ∀ i, i < 15 → (f i).toInt.natAbs ≤ 105) (h : LE E f n r 0) (hS : SS m (Ey E) (2 * n).toNat ((2 ^ (2 * n).toNat : Nat) : Int)) {fr : Int} (hfr : fr = 49 * (((2 ^ (2 * n).toNat : Nat) : Int) - 1)) : CG (pw id (fun i => m (fr.toNat + i)) 49) (fun t => sg1 n.toNat * Fz n.toNat (fI f 0) (fI f 1) (fI f 2) (t7 t) t 1) := by
  have hpos : 0 < 2 ^ (2 * n).toNat := Nat.two_pow_pos _
  have e1 := hS.1 (((2 ^ (2 * n).toNat : Nat) : Int) - 1) (by omega) (by omega)
  have e2 : slc m ((((2 ^ (2 * n).toNat : Nat) : Int) - 1).toNat) = fun i => m (fr.toNat + i) := funext fun i => by
    show m (49 * _ + i) = _
    congr 1
    omega
  rw [e2] at e1
  refine e1.tr (CG.ex (fun t => ?_))
  have e3 : (((2 ^ (2 * n).toNat : Nat) : Int) - 1).toNat = 2 ^ (2 * n.toNat) - 1 := by
    rw [show (2 * n).toNat = 2 * n.toNat by omega]
    have := Nat.two_pow_pos (2 * n.toNat)
    omega
  have hq : pc8 (2 ^ (2 * n.toNat) - 1) = 2 * n.toNat := by
    have : n.toNat = 1 ∨ n.toNat = 2 ∨ n.toNat = 3 ∨ n.toNat = 4 := by omega
    rcases this with e | e | e | e <;> rw [e] <;> decide
  unfold Sx
  rw [e3, hq, show (2 * n).toNat = 2 * n.toNat by omega, dI_c (2 * n.toNat) (fun R C hR hC => LE_syl hn hr hb h t R C hR hC), syl_F _ _ (by omega) (by omega), Fq_Fz (by omega) (by omega)]
  have ex : ∀ a, a < 3 → ∀ j, j < 5 → fI f a j = (f (5 * a + j)).toInt := fun a ha j hj => ti_lo _ hj
  refine congrArg (fun z => sg1 n.toNat * z) ?_
  have m3e : ∀ i j, i < 5 → j < 5 → m3 (fun j => (f j).toInt) (fun j => (f (5 + j)).toInt) (fun j => (f (10 + j)).toInt) (t7 t) t 1 i j = m3 (fI f 0) (fI f 1) (fI f 2) (t7 t) t 1 i j := fun i j hi hj => by
    unfold m3
    rw [ex 0 (by decide) i hi, ex 0 (by decide) j hj, ex 1 (by decide) i hi, ex 1 (by decide) j hj, ex 2 (by decide) i hi, ex 2 (by decide) j hj, Nat.mul_zero, Nat.zero_add, Nat.zero_add]
  have : n.toNat = 1 ∨ n.toNat = 2 ∨ n.toNat = 3 ∨ n.toNat = 4 := by omega
  rcases this with e | e | e | e <;> rw [e]
  · show m3 _ _ _ _ _ _ 0 1 * _ * _ = m3 _ _ _ _ _ _ 0 1 * _ * _
    rw [m3e 0 1 (by decide) (by decide)]
  · show F2 _ _ _ _ _ _ * _ = F2 _ _ _ _ _ _ * _
    unfold F2
    rw [m3e 0 1 (by decide) (by decide), m3e 1 2 (by decide) (by decide), m3e 0 2 (by decide) (by decide)]
  · show F3 _ _ _ _ _ _ * _ = F3 _ _ _ _ _ _ * _
    unfold F3
    rw [m3e 0 1 (by decide) (by decide), m3e 1 2 (by decide) (by decide), m3e 0 2 (by decide) (by decide), m3e 0 3 (by decide) (by decide), m3e 1 3 (by decide) (by decide), m3e 2 3 (by decide) (by decide)]
  · show FF _ _ _ _ _ _ = FF _ _ _ _ _ _
    unfold FF
    rw [m3e 0 1 (by decide) (by decide), m3e 1 2 (by decide) (by decide), m3e 0 2 (by decide) (by decide), m3e 0 3 (by decide) (by decide), m3e 1 3 (by decide) (by decide), m3e 2 3 (by decide) (by decide), m3e 0 4 (by decide) (by decide), m3e 1 4 (by decide) (by decide), m3e 2 4 (by decide) (by decide), m3e 3 4 (by decide) (by decide)]
