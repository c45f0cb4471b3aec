/-! polynomials as functions; what two of them generate, up to whole factors -/
def sh (p : Nat → Int) : Nat → Int := fun i => match i with
  | 0 => 0
  | k + 1 => p k
def shN : Nat → (Nat → Int) → Nat → Int
  | 0, p => p
  | k + 1, p => sh (shN k p)
theorem shN_at (p : Nat → Int) : ∀ k i, shN k p i = if i < k then 0 else p (i - k)
  | 0, i => by rw [if_neg (Nat.not_lt_zero i)]; rfl
  | k + 1, 0 => by rw [if_pos (Nat.succ_pos k)]; rfl
  | k + 1, i + 1 => by
    show shN k p i = _
    rw [shN_at p k i]
    by_cases h : i < k
    · rw [if_pos h, if_pos (by omega)]
    · rw [if_neg h, if_neg (by omega), show i + 1 - (k + 1) = i - k by omega]
def Cl (S : (Nat → Int) → Prop) : Prop := (∀ a b : Nat → Int, S a → S b → S (fun i => a i + b i)) ∧ (∀ (c : Int) (a : Nat → Int), S a → S (fun i => c * a i)) ∧ (∀ a : Nat → Int, S a → S (sh a)) ∧ (∀ (n : Int) (a : Nat → Int), n ≠ 0 → S (fun i => n * a i) → S a)
theorem Cl.shN {S : (Nat → Int) → Prop} (h : Cl S) {a : Nat → Int} (ha : S a) : ∀ k, S (shN k a)
  | 0 => ha
  | k + 1 => h.2.2.1 _ (Cl.shN h ha k)
def RS (X Y p : Nat → Int) : Prop := ∀ S : (Nat → Int) → Prop, Cl S → S X → S Y → S p
def EQ2 (X Y A B : Nat → Int) : Prop := RS X Y A ∧ RS X Y B ∧ RS A B X ∧ RS A B Y
theorem EQ2.rf (X Y : Nat → Int) : EQ2 X Y X Y := ⟨fun _ _ h _ => h, fun _ _ _ h => h, fun _ _ h _ => h, fun _ _ _ h => h⟩
theorem EQ2.tr {X Y A B C D : Nat → Int} (h1 : EQ2 X Y A B) (h2 : EQ2 A B C D) : EQ2 X Y C D := ⟨fun S c x y => h2.1 S c (h1.1 S c x y) (h1.2.1 S c x y), fun S c x y => h2.2.1 S c (h1.1 S c x y) (h1.2.1 S c x y), fun S c x y => h1.2.2.1 S c (h2.2.2.1 S c x y) (h2.2.2.2 S c x y), fun S c x y => h1.2.2.2 S c (h2.2.2.1 S c x y) (h2.2.2.2 S c x y)⟩
theorem EQ2.sm {X Y A B : Nat → Int} (h : EQ2 X Y A B) : EQ2 A B X Y := ⟨h.2.2.1, h.2.2.2, h.1, h.2.1⟩
theorem EQ2.sw {X Y A B : Nat → Int} (h : EQ2 X Y A B) : EQ2 X Y B A := ⟨h.2.1, h.1, fun S c x y => h.2.2.1 S c y x, fun S c x y => h.2.2.2 S c y x⟩
theorem EQ2.low {A B A1 : Nat → Int} {m sf ot : Int} {k : Nat} (hm : m ≠ 0) (hs : sf ≠ 0) (h : ∀ i, m * A1 i = sf * A i - ot * shN k B i) : EQ2 A B A1 B := by
  refine ⟨fun S c a b => ?_, fun _ _ _ b => b, fun S c a b => ?_, fun _ _ _ b => b⟩
  · refine c.2.2.2 m A1 hm ?_
    have e : (fun i => m * A1 i) = fun i => sf * A i + (-ot) * shN k B i := funext fun i => by rw [h i, Int.neg_mul]; omega
    rw [e]
    exact c.1 _ _ (c.2.1 sf _ a) (c.2.1 (-ot) _ (c.shN b k))
  · refine c.2.2.2 sf A hs ?_
    have e : (fun i => sf * A i) = fun i => m * A1 i + ot * shN k B i := funext fun i => by rw [h i]; omega
    rw [e]
    exact c.1 _ _ (c.2.1 m _ a) (c.2.1 ot _ (c.shN b k))
theorem EQ2.sc {A B A1 : Nat → Int} {m n : Int} (hm : m ≠ 0) (hn : n ≠ 0) (h : ∀ i, m * A1 i = n * A i) : EQ2 A B A1 B := EQ2.low (ot := 0) (k := 0) hm hn (fun i => by rw [h i, Int.zero_mul, Int.sub_zero])
def conv : List Int → (Nat → Int) → Nat → Int
  | [], _ => fun _ => 0
  | a :: c, g => fun i => a * g i + sh (conv c g) i
theorem conv_s (a : Int) (c : List Int) (g : Nat → Int) (i : Nat) : conv (a :: c) g (i + 1) = a * g (i + 1) + conv c g i := rfl
theorem conv_0 (a : Int) (c : List Int) (g : Nat → Int) : conv (a :: c) g 0 = a * g 0 := by
  show a * g 0 + 0 = _
  omega
def ladd : List Int → List Int → List Int
  | [], d => d
  | c, [] => c
  | a :: c, b :: d => (a + b) :: ladd c d
theorem conv_add (g : Nat → Int) : ∀ (c d : List Int) (i : Nat), conv (ladd c d) g i = conv c g i + conv d g i
  | [], d, i => by
    show conv d g i = 0 + conv d g i
    omega
  | a :: c, [], i => by
    show conv (a :: c) g i = conv (a :: c) g i + 0
    omega
  | a :: c, b :: d, 0 => by
    show conv ((a + b) :: ladd c d) g 0 = _
    rw [conv_0, conv_0, conv_0, Int.add_mul]
  | a :: c, b :: d, i + 1 => by
    show conv ((a + b) :: ladd c d) g (i + 1) = _
    rw [conv_s, conv_s, conv_s, conv_add g c d i, Int.add_mul]
    omega
theorem conv_mul (g : Nat → Int) (k : Int) : ∀ (c : List Int) (i : Nat), conv (c.map (fun x => k * x)) g i = k * conv c g i
  | [], i => by
    show (0 : Int) = k * 0
    omega
  | a :: c, 0 => by
    show conv ((k * a) :: c.map (fun x => k * x)) g 0 = _
    rw [conv_0, conv_0, Int.mul_assoc]
  | a :: c, i + 1 => by
    show conv ((k * a) :: c.map (fun x => k * x)) g (i + 1) = _
    rw [conv_s, conv_s, conv_mul g k c i, Int.mul_add, Int.mul_assoc]
theorem conv_sh (g : Nat → Int) (c : List Int) : ∀ i, conv (0 :: c) g i = sh (conv c g) i
  | 0 => by rw [conv_0, Int.zero_mul]; rfl
  | i + 1 => by
    rw [conv_s, Int.zero_mul, Int.zero_add]
    rfl
theorem conv_z {g : Nat → Int} (hg : ∀ i, g i = 0) : ∀ (c : List Int) (i : Nat), conv c g i = 0
  | [], _ => rfl
  | a :: c, 0 => by rw [conv_0, hg, Int.mul_zero]
  | a :: c, i + 1 => by rw [conv_s, hg, Int.mul_zero, conv_z hg c i]; rfl
def MS (g : Nat → Int) (p : Nat → Int) : Prop := ∃ n : Int, n ≠ 0 ∧ ∃ c : List Int, ∀ i, n * p i = conv c g i
theorem MS.cl (g : Nat → Int) : Cl (MS g) := by
  refine ⟨?_, ?_, ?_, ?_⟩
  · rintro a b ⟨n, hn, c, hc⟩ ⟨m, hm, d, hd⟩
    refine ⟨n * m, Int.mul_ne_zero hn hm, ladd (c.map (fun x => m * x)) (d.map (fun x => n * x)), fun i => ?_⟩
    rw [conv_add, conv_mul, conv_mul, ← hc i, ← hd i, Int.mul_add, Int.mul_assoc, Int.mul_assoc, Int.mul_left_comm m n (a i)]
  · rintro k a ⟨n, hn, c, hc⟩
    refine ⟨n, hn, c.map (fun x => k * x), fun i => ?_⟩
    rw [conv_mul, ← hc i, Int.mul_left_comm]
  · rintro a ⟨n, hn, c, hc⟩
    refine ⟨n, hn, 0 :: c, fun i => ?_⟩
    rw [conv_sh]
    cases i with
    | zero => show n * 0 = 0; omega
    | succ i => exact hc i
  · rintro k a hk ⟨n, hn, c, hc⟩
    refine ⟨n * k, Int.mul_ne_zero hn hk, c, fun i => ?_⟩
    rw [Int.mul_assoc]
    exact hc i
def p0 : Nat → Int := fun _ => 0
theorem RS.ms {g p : Nat → Int} (h : RS g p0 p) : MS g p := h _ (MS.cl g) ⟨1, by decide, [1], fun i => by
    cases i with
    | zero => rw [conv_0]
    | succ i => rw [conv_s]; show _ = _ + 0; omega⟩ ⟨1, by decide, [], fun i => by show 1 * (0 : Int) = 0; decide⟩
def top (g : Nat → Int) (d : Nat) : Prop := g d ≠ 0 ∧ ∀ i, d < i → g i = 0
theorem convZ {g : Nat → Int} {d : Nat} (hg : top g d) : ∀ c : List Int, (∀ j, d ≤ j → conv c g j = 0) → ∀ i, conv c g i = 0
  | [], _, _ => rfl
  | a :: c, h, i => by
    have h1 : ∀ j, d ≤ j → conv c g j = 0 := fun j hj => by
      have h2 := h (j + 1) (by omega)
      rw [conv_s, hg.2 (j + 1) (by omega), Int.mul_zero, Int.zero_add] at h2
      exact h2
    have h3 := convZ hg c h1
    have h4 : ∀ i, conv (a :: c) g i = a * g i := fun i => by
      cases i with
      | zero => rw [conv_0]
      | succ i => rw [conv_s, h3 i, Int.add_zero]
    have h5 := h d (Nat.le_refl d)
    rw [h4 d] at h5
    have h6 : a = 0 := (Int.mul_eq_zero.mp h5).resolve_right hg.1
    rw [h4 i, h6, Int.zero_mul]
theorem convH {g : Nat → Int} {d : Nat} (hg : top g d) {c : List Int} (h : ∀ j, d < j → conv c g j = 0) : ∃ k : Int, ∀ i, conv c g i = k * g i := by
  cases c with
  | nil => exact ⟨0, fun i => by rw [Int.zero_mul]; rfl⟩
  | cons a c =>
    have h1 : ∀ j, d ≤ j → conv c g j = 0 := fun j hj => by
      have h2 := h (j + 1) (by omega)
      rw [conv_s, hg.2 (j + 1) (by omega), Int.mul_zero, Int.zero_add] at h2
      exact h2
    have h3 := convZ hg c h1
    refine ⟨a, fun i => ?_⟩
    cases i with
    | zero => rw [conv_0]
    | succ i => rw [conv_s, h3 i, Int.add_zero]
def Pr (g : Nat → Int) : Prop := ∀ m : Nat, (∀ i, (m : Int) ∣ g i) → m = 1
theorem Pr.dv {g : Nat → Int} (pr : Pr g) {c n : Int} (hc : c ≠ 0) (h : ∀ i, c ∣ n * g i) : c ∣ n := by
  have hC : 0 < c.natAbs := Int.natAbs_pos.mpr hc
  have hd : 0 < Nat.gcd c.natAbs n.natAbs := Nat.gcd_pos_of_pos_left _ hC
  obtain ⟨C1, hC1⟩ := Nat.gcd_dvd_left c.natAbs n.natAbs
  obtain ⟨N1, hN1⟩ := Nat.gcd_dvd_right c.natAbs n.natAbs
  have hco : Nat.Coprime C1 N1 := by
    have h1 := Nat.coprime_div_gcd_div_gcd (m := c.natAbs) (n := n.natAbs) hd
    have e1 : c.natAbs / Nat.gcd c.natAbs n.natAbs = C1 := Nat.div_eq_of_eq_mul_right hd hC1
    have e2 : n.natAbs / Nat.gcd c.natAbs n.natAbs = N1 := Nat.div_eq_of_eq_mul_right hd hN1
    rw [e1, e2] at h1
    exact h1
  have h2 : C1 = 1 := pr C1 (fun i => by
    have h3 : c.natAbs ∣ n.natAbs * (g i).natAbs := by
      rw [← Int.natAbs_mul]
      exact Int.natAbs_dvd_natAbs.mpr (h i)
    generalize Nat.gcd c.natAbs n.natAbs = d at *
    rw [hC1, hN1, Nat.mul_assoc] at h3
    have h4 : C1 ∣ N1 * (g i).natAbs := Nat.dvd_of_mul_dvd_mul_left hd h3
    have h5 : C1 ∣ (g i).natAbs := Nat.Coprime.dvd_of_dvd_mul_left hco h4
    exact Int.ofNat_dvd_left.mpr h5)
  rw [h2, Nat.mul_one] at hC1
  apply Int.natAbs_dvd_natAbs.mp
  rw [hC1]
  exact Nat.gcd_dvd_right _ _
def Nm (g : Nat → Int) : Prop := (∀ i, g i = 0) ∨ ∃ d, top g d ∧ 0 < g d ∧ Pr g
theorem uniq {g g1 : Nat → Int} (h : EQ2 g p0 g1 p0) (n1 : Nm g) (n2 : Nm g1) : ∀ i, g i = g1 i := by
  obtain ⟨n, hn, c, hc⟩ := RS.ms h.1
  obtain ⟨m, hm, e, he⟩ := RS.ms h.2.2.1
  rcases n1 with z | ⟨d, td, pd, pr⟩
  · intro i
    have h1 := hc i
    rw [conv_z z] at h1
    rw [z i, (Int.mul_eq_zero.mp h1).resolve_left hn]
  · rcases n2 with z | ⟨d1, td1, pd1, pr1⟩
    · have h1 := he d
      rw [conv_z z] at h1
      exact absurd ((Int.mul_eq_zero.mp h1).resolve_left hm) td.1
    · have hle : d ≤ d1 := Nat.le_of_not_lt fun q => by
        have h1 := convZ td c (fun j hj => by rw [← hc j, td1.2 j (by omega), Int.mul_zero]) d1
        rw [← hc d1] at h1
        exact td1.1 ((Int.mul_eq_zero.mp h1).resolve_left hn)
      have hge : d1 ≤ d := Nat.le_of_not_lt fun q => by
        have h1 := convZ td1 e (fun j hj => by rw [← he j, td.2 j (by omega), Int.mul_zero]) d
        rw [← he d] at h1
        exact td.1 ((Int.mul_eq_zero.mp h1).resolve_left hm)
      have hdd : d1 = d := Nat.le_antisymm hge hle
      subst hdd
      obtain ⟨k, hk⟩ := convH td (c := c) (fun j hj => by rw [← hc j, td1.2 j hj, Int.mul_zero])
      have hp : ∀ i, n * g1 i = k * g i := fun i => (hc i).trans (hk i)
      have hk0 : k ≠ 0 := fun q => by
        have h1 := hp d1
        rw [q, Int.zero_mul] at h1
        exact td1.1 ((Int.mul_eq_zero.mp h1).resolve_left hn)
      have a1 : k ∣ n := pr1.dv hk0 (fun i => by rw [hp i]; exact Int.dvd_mul_right k _)
      have a2 : n ∣ k := pr.dv hn (fun i => by rw [← hp i]; exact Int.dvd_mul_right n _)
      have a3 : n.natAbs = k.natAbs := Nat.dvd_antisymm (Int.natAbs_dvd_natAbs.mpr a2) (Int.natAbs_dvd_natAbs.mpr a1)
      have a4 : n = k := by
        rcases Int.natAbs_eq_natAbs_iff.mp a3 with q | q
        · exact q
        · exfalso
          have h1 := hp d1
          rw [q, Int.neg_mul] at h1
          rcases Int.lt_or_gt_of_ne hk0 with z | z
          · have b1 : 0 < (-k) * g1 d1 := Int.mul_pos (by omega) pd1
            have b2 : 0 < (-k) * g d1 := Int.mul_pos (by omega) pd
            rw [Int.neg_mul] at b1 b2
            omega
          · have b1 : 0 < k * g1 d1 := Int.mul_pos z pd1
            have b2 : 0 < k * g d1 := Int.mul_pos z pd
            omega
      intro i
      have h1 := hp i
      rw [a4] at h1
      exact (Int.eq_of_mul_eq_mul_left hk0 h1).symm
