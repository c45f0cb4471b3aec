section
/-! polynomials as functions; what two of them generate, up to whole factors -/
def sh (p : Nat → Int) : Nat → Int := fun i => match i with
  | 0 => 0
  | k + 1 => p k
def shN : Nat → (Nat → Int) → Nat → Int
  | 0, p => p
  | k + 1, p => sh (shN k p)
theorem shN_at (p : Nat → Int) : ∀ k i, shN k p i = if i < k then 0 else p (i - k)
  | 0, i => by rw [if_neg (Nat.not_lt_zero i)]; rfl
  | k + 1, 0 => by rw [if_pos (Nat.succ_pos k)]; rfl
  | k + 1, i + 1 => by
    show shN k p i = _
    rw [shN_at p k i]
    by_cases h : i < k
    · rw [if_pos h, if_pos (by omega)]
    · rw [if_neg h, if_neg (by omega), show i + 1 - (k + 1) = i - k by omega]
def Cl (S : (Nat → Int) → Prop) : Prop := (∀ a b : Nat → Int, S a → S b → S (fun i => a i + b i)) ∧ (∀ (c : Int) (a : Nat → Int), S a → S (fun i => c * a i)) ∧ (∀ a : Nat → Int, S a → S (sh a)) ∧ (∀ (n : Int) (a : Nat → Int), n ≠ 0 → S (fun i => n * a i) → S a)
theorem Cl.shN {S : (Nat → Int) → Prop} (h : Cl S) {a : Nat → Int} (ha : S a) : ∀ k, S (shN k a)
  | 0 => ha
  | k + 1 => h.2.2.1 _ (Cl.shN h ha k)
def RS (X Y p : Nat → Int) : Prop := ∀ S : (Nat → Int) → Prop, Cl S → S X → S Y → S p
def EQ2 (X Y A B : Nat → Int) : Prop := RS X Y A ∧ RS X Y B ∧ RS A B X ∧ RS A B Y
theorem EQ2.rf (X Y : Nat → Int) : EQ2 X Y X Y := ⟨fun _ _ h _ => h, fun _ _ _ h => h, fun _ _ h _ => h, fun _ _ _ h => h⟩
theorem EQ2.tr {X Y A B C D : Nat → Int} (h1 : EQ2 X Y A B) (h2 : EQ2 A B C D) : EQ2 X Y C D := ⟨fun S c x y => h2.1 S c (h1.1 S c x y) (h1.2.1 S c x y), fun S c x y => h2.2.1 S c (h1.1 S c x y) (h1.2.1 S c x y), fun S c x y => h1.2.2.1 S c (h2.2.2.1 S c x y) (h2.2.2.2 S c x y), fun S c x y => h1.2.2.2 S c (h2.2.2.1 S c x y) (h2.2.2.2 S c x y)⟩
theorem EQ2.sm {X Y A B : Nat → Int} (h : EQ2 X Y A B) : EQ2 A B X Y := ⟨h.2.2.1, h.2.2.2, h.1, h.2.1⟩
theorem EQ2.sw {X Y A B : Nat → Int} (h : EQ2 X Y A B) : EQ2 X Y B A := ⟨h.2.1, h.1, fun S c x y => h.2.2.1 S c y x, fun S c x y => h.2.2.2 S c y x⟩
theorem EQ2.low {A B A1 : Nat → Int} {m sf ot : Int} {k : Nat} (hm : m ≠ 0) (hs : sf ≠ 0) (h : ∀ i, m * A1 i = sf * A i - ot * shN k B i) : EQ2 A B A1 B := by
  refine ⟨fun S c a b => ?_, fun _ _ _ b => b, fun S c a b => ?_, fun _ _ _ b => b⟩
  · refine c.2.2.2 m A1 hm ?_
    have e : (fun i => m * A1 i) = fun i => sf * A i + (-ot) * shN k B i := funext fun i => by rw [h i, Int.neg_mul]; omega
    rw [e]
    exact c.1 _ _ (c.2.1 sf _ a) (c.2.1 (-ot) _ (c.shN b k))
  · refine c.2.2.2 sf A hs ?_
    have e : (fun i => sf * A i) = fun i => m * A1 i + ot * shN k B i := funext fun i => by rw [h i]; omega
    rw [e]
    exact c.1 _ _ (c.2.1 m _ a) (c.2.1 ot _ (c.shN b k))
theorem EQ2.sc {A B A1 : Nat → Int} {m n : Int} (hm : m ≠ 0) (hn : n ≠ 0) (h : ∀ i, m * A1 i = n * A i) : EQ2 A B A1 B := EQ2.low (ot := 0) (k := 0) hm hn (fun i => by rw [h i, Int.zero_mul, Int.sub_zero])
def conv : List Int → (Nat → Int) → Nat → Int
  | [], _ => fun _ => 0
  | a :: c, g => fun i => a * g i + sh (conv c g) i
theorem conv_s (a : Int) (c : List Int) (g : Nat → Int) (i : Nat) : conv (a :: c) g (i + 1) = a * g (i + 1) + conv c g i := rfl
theorem conv_0 (a : Int) (c : List Int) (g : Nat → Int) : conv (a :: c) g 0 = a * g 0 := by
  show a * g 0 + 0 = _
  omega
def ladd : List Int → List Int → List Int
  | [], d => d
  | c, [] => c
  | a :: c, b :: d => (a + b) :: ladd c d
theorem conv_add (g : Nat → Int) : ∀ (c d : List Int) (i : Nat), conv (ladd c d) g i = conv c g i + conv d g i
  | [], d, i => by
    show conv d g i = 0 + conv d g i
    omega
  | a :: c, [], i => by
    show conv (a :: c) g i = conv (a :: c) g i + 0
    omega
  | a :: c, b :: d, 0 => by
    show conv ((a + b) :: ladd c d) g 0 = _
    rw [conv_0, conv_0, conv_0, Int.add_mul]
  | a :: c, b :: d, i + 1 => by
    show conv ((a + b) :: ladd c d) g (i + 1) = _
    rw [conv_s, conv_s, conv_s, conv_add g c d i, Int.add_mul]
    omega
theorem conv_mul (g : Nat → Int) (k : Int) : ∀ (c : List Int) (i : Nat), conv (c.map (fun x => k * x)) g i = k * conv c g i
  | [], i => by
    show (0 : Int) = k * 0
    omega
  | a :: c, 0 => by
    show conv ((k * a) :: c.map (fun x => k * x)) g 0 = _
    rw [conv_0, conv_0, Int.mul_assoc]
  | a :: c, i + 1 => by
    show conv ((k * a) :: c.map (fun x => k * x)) g (i + 1) = _
    rw [conv_s, conv_s, conv_mul g k c i, Int.mul_add, Int.mul_assoc]
theorem conv_sh (g : Nat → Int) (c : List Int) : ∀ i, conv (0 :: c) g i = sh (conv c g) i
  | 0 => by rw [conv_0, Int.zero_mul]; rfl
  | i + 1 => by
    rw [conv_s, Int.zero_mul, Int.zero_add]
    rfl
theorem conv_z {g : Nat → Int} (hg : ∀ i, g i = 0) : ∀ (c : List Int) (i : Nat), conv c g i = 0
  | [], _ => rfl
  | a :: c, 0 => by rw [conv_0, hg, Int.mul_zero]
  | a :: c, i + 1 => by rw [conv_s, hg, Int.mul_zero, conv_z hg c i]; rfl
def MS (g : Nat → Int) (p : Nat → Int) : Prop := ∃ n : Int, n ≠ 0 ∧ ∃ c : List Int, ∀ i, n * p i = conv c g i
theorem MS.cl (g : Nat → Int) : Cl (MS g) := by
  refine ⟨?_, ?_, ?_, ?_⟩
  · rintro a b ⟨n, hn, c, hc⟩ ⟨m, hm, d, hd⟩
    refine ⟨n * m, Int.mul_ne_zero hn hm, ladd (c.map (fun x => m * x)) (d.map (fun x => n * x)), fun i => ?_⟩
    rw [conv_add, conv_mul, conv_mul, ← hc i, ← hd i, Int.mul_add, Int.mul_assoc, Int.mul_assoc, Int.mul_left_comm m n (a i)]
  · rintro k a ⟨n, hn, c, hc⟩
    refine ⟨n, hn, c.map (fun x => k * x), fun i => ?_⟩
    rw [conv_mul, ← hc i, Int.mul_left_comm]
  · rintro a ⟨n, hn, c, hc⟩
    refine ⟨n, hn, 0 :: c, fun i => ?_⟩
    rw [conv_sh]
    cases i with
    | zero => show n * 0 = 0; omega
    | succ i => exact hc i
  · rintro k a hk ⟨n, hn, c, hc⟩
    refine ⟨n * k, Int.mul_ne_zero hn hk, c, fun i => ?_⟩
    rw [Int.mul_assoc]
    exact hc i
def p0 : Nat → Int := fun _ => 0
theorem RS.ms {g p : Nat → Int} (h : RS g p0 p) : MS g p := h _ (MS.cl g) ⟨1, by decide, [1], fun i => by
    cases i with
    | zero => rw [conv_0]
    | succ i => rw [conv_s]; show _ = _ + 0; omega⟩ ⟨1, by decide, [], fun i => by show 1 * (0 : Int) = 0; decide⟩
def top (g : Nat → Int) (d : Nat) : Prop := g d ≠ 0 ∧ ∀ i, d < i → g i = 0
theorem convZ {g : Nat → Int} {d : Nat} (hg : top g d) : ∀ c : List Int, (∀ j, d ≤ j → conv c g j = 0) → ∀ i, conv c g i = 0
  | [], _, _ => rfl
  | a :: c, h, i => by
    have h1 : ∀ j, d ≤ j → conv c g j = 0 := fun j hj => by
      have h2 := h (j + 1) (by omega)
      rw [conv_s, hg.2 (j + 1) (by omega), Int.mul_zero, Int.zero_add] at h2
      exact h2
    have h3 := convZ hg c h1
    have h4 : ∀ i, conv (a :: c) g i = a * g i := fun i => by
      cases i with
      | zero => rw [conv_0]
      | succ i => rw [conv_s, h3 i, Int.add_zero]
    have h5 := h d (Nat.le_refl d)
    rw [h4 d] at h5
    have h6 : a = 0 := (Int.mul_eq_zero.mp h5).resolve_right hg.1
    rw [h4 i, h6, Int.zero_mul]
theorem convH {g : Nat → Int} {d : Nat} (hg : top g d) {c : List Int} (h : ∀ j, d < j → conv c g j = 0) : ∃ k : Int, ∀ i, conv c g i = k * g i := by
  cases c with
  | nil => exact ⟨0, fun i => by rw [Int.zero_mul]; rfl⟩
  | cons a c =>
    have h1 : ∀ j, d ≤ j → conv c g j = 0 := fun j hj => by
      have h2 := h (j + 1) (by omega)
      rw [conv_s, hg.2 (j + 1) (by omega), Int.mul_zero, Int.zero_add] at h2
      exact h2
    have h3 := convZ hg c h1
    refine ⟨a, fun i => ?_⟩
    cases i with
    | zero => rw [conv_0]
    | succ i => rw [conv_s, h3 i, Int.add_zero]
def Pr (g : Nat → Int) : Prop := ∀ m : Nat, (∀ i, (m : Int) ∣ g i) → m = 1
theorem Pr.dv {g : Nat → Int} (pr : Pr g) {c n : Int} (hc : c ≠ 0) (h : ∀ i, c ∣ n * g i) : c ∣ n := by
  have hC : 0 < c.natAbs := Int.natAbs_pos.mpr hc
  have hd : 0 < Nat.gcd c.natAbs n.natAbs := Nat.gcd_pos_of_pos_left _ hC
  obtain ⟨C1, hC1⟩ := Nat.gcd_dvd_left c.natAbs n.natAbs
  obtain ⟨N1, hN1⟩ := Nat.gcd_dvd_right c.natAbs n.natAbs
  have hco : Nat.Coprime C1 N1 := by
    have h1 := Nat.coprime_div_gcd_div_gcd (m := c.natAbs) (n := n.natAbs) hd
    have e1 : c.natAbs / Nat.gcd c.natAbs n.natAbs = C1 := Nat.div_eq_of_eq_mul_right hd hC1
    have e2 : n.natAbs / Nat.gcd c.natAbs n.natAbs = N1 := Nat.div_eq_of_eq_mul_right hd hN1
    rw [e1, e2] at h1
    exact h1
  have h2 : C1 = 1 := pr C1 (fun i => by
    have h3 : c.natAbs ∣ n.natAbs * (g i).natAbs := by
      rw [← Int.natAbs_mul]
      exact Int.natAbs_dvd_natAbs.mpr (h i)
    generalize Nat.gcd c.natAbs n.natAbs = d at *
    rw [hC1, hN1, Nat.mul_assoc] at h3
    have h4 : C1 ∣ N1 * (g i).natAbs := Nat.dvd_of_mul_dvd_mul_left hd h3
    have h5 : C1 ∣ (g i).natAbs := Nat.Coprime.dvd_of_dvd_mul_left hco h4
    exact Int.ofNat_dvd_left.mpr h5)
  rw [h2, Nat.mul_one] at hC1
  apply Int.natAbs_dvd_natAbs.mp
  rw [hC1]
  exact Nat.gcd_dvd_right _ _
def Nm (g : Nat → Int) : Prop := (∀ i, g i = 0) ∨ ∃ d, top g d ∧ 0 < g d ∧ Pr g
theorem uniq {g g1 : Nat → Int} (h : EQ2 g p0 g1 p0) (n1 : Nm g) (n2 : Nm g1) : ∀ i, g i = g1 i := by
  obtain ⟨n, hn, c, hc⟩ := RS.ms h.1
  obtain ⟨m, hm, e, he⟩ := RS.ms h.2.2.1
  rcases n1 with z | ⟨d, td, pd, pr⟩
  · intro i
    have h1 := hc i
    rw [conv_z z] at h1
    rw [z i, (Int.mul_eq_zero.mp h1).resolve_left hn]
  · rcases n2 with z | ⟨d1, td1, pd1, pr1⟩
    · have h1 := he d
      rw [conv_z z] at h1
      exact absurd ((Int.mul_eq_zero.mp h1).resolve_left hm) td.1
    · have hle : d ≤ d1 := Nat.le_of_not_lt fun q => by
        have h1 := convZ td c (fun j hj => by rw [← hc j, td1.2 j (by omega), Int.mul_zero]) d1
        rw [← hc d1] at h1
        exact td1.1 ((Int.mul_eq_zero.mp h1).resolve_left hn)
      have hge : d1 ≤ d := Nat.le_of_not_lt fun q => by
        have h1 := convZ td1 e (fun j hj => by rw [← he j, td.2 j (by omega), Int.mul_zero]) d
        rw [← he d] at h1
        exact td.1 ((Int.mul_eq_zero.mp h1).resolve_left hm)
      have hdd : d1 = d := Nat.le_antisymm hge hle
      subst hdd
      obtain ⟨k, hk⟩ := convH td (c := c) (fun j hj => by rw [← hc j, td1.2 j hj, Int.mul_zero])
      have hp : ∀ i, n * g1 i = k * g i := fun i => (hc i).trans (hk i)
      have hk0 : k ≠ 0 := fun q => by
        have h1 := hp d1
        rw [q, Int.zero_mul] at h1
        exact td1.1 ((Int.mul_eq_zero.mp h1).resolve_left hn)
      have a1 : k ∣ n := pr1.dv hk0 (fun i => by rw [hp i]; exact Int.dvd_mul_right k _)
      have a2 : n ∣ k := pr.dv hn (fun i => by rw [← hp i]; exact Int.dvd_mul_right n _)
      have a3 : n.natAbs = k.natAbs := Nat.dvd_antisymm (Int.natAbs_dvd_natAbs.mpr a2) (Int.natAbs_dvd_natAbs.mpr a1)
      have a4 : n = k := by
        rcases Int.natAbs_eq_natAbs_iff.mp a3 with q | q
        · exact q
        · exfalso
          have h1 := hp d1
          rw [q, Int.neg_mul] at h1
          rcases Int.lt_or_gt_of_ne hk0 with z | z
          · have b1 : 0 < (-k) * g1 d1 := Int.mul_pos (by omega) pd1
            have b2 : 0 < (-k) * g d1 := Int.mul_pos (by omega) pd
            rw [Int.neg_mul] at b1 b2
            omega
          · have b1 : 0 < k * g1 d1 := Int.mul_pos z pd1
            have b2 : 0 < k * g d1 := Int.mul_pos z pd
            omega
      intro i
      have h1 := hp i
      rw [a4] at h1
      exact (Int.eq_of_mul_eq_mul_left hk0 h1).symm
end
section
/-! Gauss: a primitive divisor divides with whole quotients -/
theorem dv_r {p b : Int} (a : Int) (h : p ∣ b) : p ∣ a * b := by
  obtain ⟨k, hk⟩ := h
  exact ⟨a * k, by rw [hk, Int.mul_left_comm]⟩
theorem dv_l {p a : Int} (b : Int) (h : p ∣ a) : p ∣ a * b := by
  obtain ⟨k, hk⟩ := h
  exact ⟨k * b, by rw [hk, Int.mul_assoc]⟩
def Irr (p : Nat) : Prop := 2 ≤ p ∧ ∀ q, 2 ≤ q → q ∣ p → q = p
theorem irr_ex : ∀ (K N : Nat), N ≤ K → 2 ≤ N → ∃ p, Irr p ∧ p ∣ N
  | 0, N, h1, h2 => by omega
  | K + 1, N, h1, h2 => by
    by_cases h : ∃ q, 2 ≤ q ∧ q ∣ N ∧ q ≠ N
    · obtain ⟨q, q2, qd, qn⟩ := h
      have qle : q ≤ N := Nat.le_of_dvd (by omega) qd
      obtain ⟨p, hp, hpd⟩ := irr_ex K q (by omega) q2
      exact ⟨p, hp, Nat.dvd_trans hpd qd⟩
    · refine ⟨N, ⟨h2, fun q q2 qd => ?_⟩, Nat.dvd_refl N⟩
      by_cases e : q = N
      · exact e
      · exact absurd ⟨q, q2, qd, e⟩ h
theorem Irr.pm {p : Nat} (hp : Irr p) {a b : Int} (h : (p : Int) ∣ a * b) (hb : ¬ (p : Int) ∣ b) : (p : Int) ∣ a := by
  have h1 : p ∣ a.natAbs * b.natAbs := by
    rw [← Int.natAbs_mul]
    exact Int.ofNat_dvd_left.mp h
  have hg : Nat.gcd p b.natAbs = 1 := by
    have hpos : 0 < Nat.gcd p b.natAbs := Nat.gcd_pos_of_pos_left _ (by have := hp.1; omega)
    by_cases h2 : 2 ≤ Nat.gcd p b.natAbs
    · have h3 := hp.2 _ h2 (Nat.gcd_dvd_left p b.natAbs)
      exfalso
      apply hb
      apply Int.ofNat_dvd_left.mpr
      have h4 := Nat.gcd_dvd_right p b.natAbs
      rw [h3] at h4
      exact h4
    · omega
  exact Int.ofNat_dvd_left.mpr (Nat.Coprime.dvd_of_dvd_mul_right (show Nat.Coprime p b.natAbs from hg) h1)
theorem first_ex {P : Nat → Prop} : ∀ (K i : Nat), i ≤ K → P i → ∃ j, P j ∧ ∀ k, k < j → ¬ P k
  | 0, i, h1, h2 => ⟨i, h2, fun k hk => by omega⟩
  | K + 1, i, h1, h2 => by
    by_cases h : ∃ k, k < i ∧ P k
    · obtain ⟨k, hk, hp⟩ := h
      exact first_ex K k (by omega) hp
    · exact ⟨i, h2, fun k hk q => h ⟨k, hk, q⟩⟩
theorem conv_lo {g : Nat → Int} {p : Int} {i0 : Nat} (hg : ∀ j, j < i0 → p ∣ g j) : ∀ (c : List Int) (j : Nat), j < i0 → p ∣ conv c g j
  | [], j, _ => Int.dvd_zero p
  | a :: c, 0, h => by
    rw [conv_0]
    exact dv_r a (hg 0 h)
  | a :: c, j + 1, h => by
    rw [conv_s]
    exact Int.dvd_add (dv_r a (hg (j + 1) h)) (conv_lo hg c j (by omega))
theorem conv_pm {g : Nat → Int} {p : Nat} (hp : Irr p) {i0 : Nat} (h0 : ¬ (p : Int) ∣ g i0) (hg : ∀ j, j < i0 → (p : Int) ∣ g j) : ∀ c : List Int, (∀ i, (p : Int) ∣ conv c g i) → ∃ d : List Int, c = d.map (fun x => (p : Int) * x)
  | [], _ => ⟨[], rfl⟩
  | a :: c, h => by
    have h1 : (p : Int) ∣ a * g i0 := by
      cases i0 with
      | zero => have := h 0; rw [conv_0] at this; exact this
      | succ i =>
        have h2 := h (i + 1)
        rw [conv_s] at h2
        exact (Int.dvd_add_left (conv_lo hg c i (by omega))).mp h2
    obtain ⟨a1, ha1⟩ := hp.pm h1 h0
    obtain ⟨d, hd⟩ := conv_pm hp h0 hg c (fun i => by
      have h2 := h (i + 1)
      rw [conv_s] at h2
      exact (Int.dvd_add_right (dv_l (g (i + 1)) ⟨a1, ha1⟩)).mp h2)
    exact ⟨a1 :: d, by rw [ha1, hd]; rfl⟩
theorem gauss {g : Nat → Int} (pr : Pr g) : ∀ (K : Nat) (n : Int) (c : List Int) (X : Nat → Int), n.natAbs ≤ K → n ≠ 0 → (∀ i, n * X i = conv c g i) → ∃ h : List Int, ∀ i, X i = conv h g i
  | 0, n, c, X, h1, h2, _ => by
    exfalso
    have := Int.natAbs_pos.mpr h2
    omega
  | K + 1, n, c, X, h1, h2, h => by
    by_cases hN : 2 ≤ n.natAbs
    · obtain ⟨p, hp, hpd⟩ := irr_ex _ _ (Nat.le_refl _) hN
      have hpn : (p : Int) ∣ n := Int.ofNat_dvd_left.mpr hpd
      obtain ⟨m, hm⟩ := hpn
      have hp0 : (p : Int) ≠ 0 := by have := hp.1; omega
      have hex : ∃ i, ¬ (p : Int) ∣ g i := by
        by_cases q : ∃ i, ¬ (p : Int) ∣ g i
        · exact q
        · exfalso
          have h3 := pr p (fun i => Classical.byContradiction fun z => q ⟨i, z⟩)
          have := hp.1
          omega
      obtain ⟨i, hi⟩ := hex
      obtain ⟨i0, h0, hlo⟩ := first_ex (P := fun i => ¬ (p : Int) ∣ g i) i i (Nat.le_refl i) hi
      obtain ⟨d, hd⟩ := conv_pm hp h0 (fun j hj => Classical.byContradiction fun z => hlo j hj z) c (fun i => by rw [← h i, hm, Int.mul_assoc]; exact Int.dvd_mul_right _ _)
      have hm0 : m ≠ 0 := fun q => h2 (by rw [hm, q, Int.mul_zero])
      have hlt : m.natAbs < n.natAbs := by
        have e : n.natAbs = p * m.natAbs := by rw [hm, Int.natAbs_mul, Int.natAbs_natCast]
        have := Int.natAbs_pos.mpr hm0
        have := hp.1
        rw [e]
        exact Nat.lt_of_lt_of_le (by omega : m.natAbs < 2 * m.natAbs) (Nat.mul_le_mul_right _ hp.1)
      refine gauss pr K m d X (by omega) hm0 (fun i => ?_)
      have h3 := h i
      rw [hd, conv_mul, hm, Int.mul_assoc] at h3
      exact Int.eq_of_mul_eq_mul_left hp0 h3
    · have h3 : n.natAbs = 1 := by have := Int.natAbs_pos.mpr h2; omega
      rcases Int.natAbs_eq n with q | q
      · refine ⟨c, fun i => ?_⟩
        have h4 := h i
        rw [q, h3] at h4
        rw [← h4]
        show _ = 1 * X i
        omega
      · refine ⟨c.map (fun x => (-1) * x), fun i => ?_⟩
        have h4 := h i
        rw [q, h3] at h4
        rw [conv_mul, ← h4]
        show X i = -1 * (-1 * X i)
        omega
/-- a factor's first and last numbers divide numbers of the product -/
theorem conv_tp {g : Nat → Int} {d : Nat} (hg : top g d) : ∀ c : List Int, (∀ i, conv c g i = 0) ∨ ∃ i x, d ≤ i ∧ x ≠ 0 ∧ conv c g i = x * g d
  | [] => Or.inl fun _ => rfl
  | a :: c => by
    rcases conv_tp hg c with h | ⟨i, x, h1, h2, h3⟩
    · have h4 : ∀ i, conv (a :: c) g i = a * g i := fun i => by
        cases i with
        | zero => rw [conv_0]
        | succ i => rw [conv_s, h i, Int.add_zero]
      by_cases ha : a = 0
      · exact Or.inl fun i => by rw [h4 i, ha, Int.zero_mul]
      · exact Or.inr ⟨d, a, Nat.le_refl d, ha, h4 d⟩
    · exact Or.inr ⟨i + 1, x, by omega, h2, by rw [conv_s, hg.2 (i + 1) (by omega), Int.mul_zero, Int.zero_add, h3]⟩
theorem conv_lw {g : Nat → Int} {l : Nat} (hl : ∀ j, j < l → g j = 0) : ∀ c : List Int, (∀ i, conv c g i = 0) ∨ ∃ i x, x ≠ 0 ∧ conv c g i = x * g l
  | [] => Or.inl fun _ => rfl
  | a :: c => by
    by_cases ha : a = 0
    · subst ha
      rcases conv_lw hl c with h | ⟨i, x, h2, h3⟩
      · exact Or.inl fun i => by
          cases i with
          | zero => rw [conv_0, Int.zero_mul]
          | succ i => rw [conv_s, h i, Int.zero_mul, Int.add_zero]
      · exact Or.inr ⟨i + 1, x, h2, by rw [conv_s, Int.zero_mul, Int.zero_add, h3]⟩
    · refine Or.inr ⟨l, a, ha, ?_⟩
      cases l with
      | zero => rw [conv_0]
      | succ l =>
        have h4 : ∀ (c : List Int) (j : Nat), j ≤ l → conv c g j = 0 := fun c => by
          induction c with
          | nil => intro j _; rfl
          | cons b c ih =>
            intro j hj
            cases j with
            | zero => rw [conv_0, hl 0 (by omega), Int.mul_zero]
            | succ j => rw [conv_s, hl (j + 1) (by omega), Int.mul_zero, ih j (by omega)]; rfl
        rw [conv_s, h4 c l (Nat.le_refl l), Int.add_zero]
def bx (B : Nat) (p : Nat → Int) : Prop := ∀ i, (p i).natAbs ≤ B
theorem fac_le {x y : Int} {B : Nat} (h : (x * y).natAbs ≤ B) (hx : x ≠ 0) : y.natAbs ≤ B := by
  rw [Int.natAbs_mul] at h
  have h1 := Int.natAbs_pos.mpr hx
  exact Nat.le_trans (Nat.le_mul_of_pos_left _ h1) h
theorem top_le {X g : Nat → Int} {d : Nat} {c : List Int} {B : Nat} (hX : bx B X) (hg : top g d) (h : ∀ i, X i = conv c g i) (hn : ¬ ∀ i, X i = 0) : (g d).natAbs ≤ B := by
  rcases conv_tp hg c with q | ⟨i, x, -, q1, q2⟩
  · exact absurd (fun i => (h i).trans (q i)) hn
  · exact fac_le (by rw [← q2, ← h i]; exact hX i) q1
theorem low_le {X g : Nat → Int} {l : Nat} {c : List Int} {B : Nat} (hX : bx B X) (hl : ∀ j, j < l → g j = 0) (h : ∀ i, X i = conv c g i) (hn : ¬ ∀ i, X i = 0) : (g l).natAbs ≤ B := by
  rcases conv_lw hl c with q | ⟨i, x, q1, q2⟩
  · exact absurd (fun i => (h i).trans (q i)) hn
  · exact fac_le (by rw [← q2, ← h i]; exact hX i) q1
/-- the quotient's numbers, by the degrees -/
theorem conv_peel {g : Nat → Int} {d e : Nat} (hg : top g d) (hde : d ≤ e) {c : List Int} (h : ∀ j, e < j → conv c g j = 0) (hlt : d < e + 1) : d = e ∨ ∃ (a : Int) (c1 : List Int), (∀ i, conv c g i = a * g i + sh (conv c1 g) i) ∧ ∀ j, e - 1 < j → conv c1 g j = 0 := by
  by_cases q : d = e
  · exact Or.inl q
  · right
    cases c with
    | nil => exact ⟨0, [], fun i => by rw [Int.zero_mul]; cases i <;> rfl, fun j _ => rfl⟩
    | cons a c =>
      refine ⟨a, c, fun i => rfl, fun j hj => ?_⟩
      have h2 := h (j + 1) (by omega)
      rw [conv_s, hg.2 (j + 1) (by omega), Int.mul_zero, Int.zero_add] at h2
      exact h2
end
section
/-! a conic over three polynomials: values, polars, 3x3 minors -/
def sP (e X Y W : Nat → Int) (i j : Nat) : Int := 2 * e 0 * (X i * X j) + e 1 * (X i * Y j + X j * Y i) + 2 * e 2 * (Y i * Y j) + e 3 * (X i * W j + X j * W i) + e 4 * (Y i * W j + Y j * W i) + 2 * e 5 * (W i * W j)
def sE (e X Y W : Nat → Int) (i : Nat) : Int := e 0 * (X i * X i) + e 1 * (X i * Y i) + e 2 * (Y i * Y i) + e 3 * (X i * W i) + e 4 * (Y i * W i) + e 5 * (W i * W i)
def d3 (X Y W : Nat → Int) (i j k : Nat) : Int := X i * (Y j * W k - Y k * W j) - Y i * (X j * W k - X k * W j) + W i * (X j * Y k - X k * Y j)
theorem cramX (X Y W : Nat → Int) (i j k l : Nat) : d3 X Y W i j k * X l = d3 X Y W j k l * X i - d3 X Y W i k l * X j + d3 X Y W i j l * X k := by
  unfold d3
  grind
theorem cramY (X Y W : Nat → Int) (i j k l : Nat) : d3 X Y W i j k * Y l = d3 X Y W j k l * Y i - d3 X Y W i k l * Y j + d3 X Y W i j l * Y k := by
  unfold d3
  grind
theorem cramW (X Y W : Nat → Int) (i j k l : Nat) : d3 X Y W i j k * W l = d3 X Y W j k l * W i - d3 X Y W i k l * W j + d3 X Y W i j l * W k := by
  unfold d3
  grind
/-- the polar of a combination -/
theorem sP_cmb (e X Y W : Nat → Int) (h i j k l : Nat) (d a b c : Int) (h1 : d * X l = a * X i - b * X j + c * X k) (h2 : d * Y l = a * Y i - b * Y j + c * Y k) (h3 : d * W l = a * W i - b * W j + c * W k) : d * sP e X Y W h l = a * sP e X Y W h i - b * sP e X Y W h j + c * sP e X Y W h k := by
  unfold sP
  generalize X l = x at *
  generalize Y l = y at *
  generalize W l = w at *
  grind
theorem sP_self (e X Y W : Nat → Int) (i : Nat) : sP e X Y W i i = 2 * sE e X Y W i := by
  unfold sP sE
  grind
theorem sP_sym (e X Y W : Nat → Int) (i j : Nat) : sP e X Y W i j = sP e X Y W j i := by
  unfold sP
  grind
theorem sE_cmb (e X Y W : Nat → Int) (i j k l : Nat) (d a b c : Int) (h1 : d * X l = a * X i - b * X j + c * X k) (h2 : d * Y l = a * Y i - b * Y j + c * Y k) (h3 : d * W l = a * W i - b * W j + c * W k) : d * d * sE e X Y W l = a * a * sE e X Y W i + b * b * sE e X Y W j + c * c * sE e X Y W k - a * b * sP e X Y W i j + a * c * sP e X Y W i k - b * c * sP e X Y W j k := by
  have e1 : d * d * sE e X Y W l = e 0 * ((d * X l) * (d * X l)) + e 1 * ((d * X l) * (d * Y l)) + e 2 * ((d * Y l) * (d * Y l)) + e 3 * ((d * X l) * (d * W l)) + e 4 * ((d * Y l) * (d * W l)) + e 5 * ((d * W l) * (d * W l)) := by
    unfold sE
    grind
  rw [e1, h1, h2, h3]
  unfold sE sP
  grind
/-! powers of two -/
theorem two_split : ∀ (n : Nat) (d : Int), d.natAbs ≤ n → d ≠ 0 → ∃ (a : Nat) (o : Int), d = 2 ^ a * o ∧ o % 2 = 1
  | 0, d, h, h0 => absurd (Int.natAbs_eq_zero.mp (by omega)) h0
  | n + 1, d, h, h0 => by
    by_cases q : d % 2 = 1
    · exact ⟨0, d, by rw [Int.pow_zero, Int.one_mul], q⟩
    · obtain ⟨a, o, h1, h2⟩ := two_split n (d / 2) (by omega) (by omega)
      refine ⟨a + 1, o, ?_, h2⟩
      rw [Int.pow_succ]
      have : d = 2 * (d / 2) := by omega
      rw [this, h1]
      grind
theorem two_dvd_mul {o x : Int} (ho : o % 2 = 1) (h : (2 : Int) ∣ o * x) : (2 : Int) ∣ x := by
  have h1 := Int.emod_eq_zero_of_dvd h
  rw [Int.mul_emod, ho] at h1
  have h2 := Int.emod_two_eq x
  rcases h2 with q | q
  · exact Int.dvd_of_emod_eq_zero q
  · rw [q] at h1
    exact absurd h1 (by decide)
theorem odd_cancel {o : Int} (ho : o % 2 = 1) : ∀ (k : Nat) (x : Int), (2 ^ k : Int) ∣ o * x → (2 ^ k : Int) ∣ x
  | 0, x, _ => ⟨x, by rw [Int.pow_zero, Int.one_mul]⟩
  | k + 1, x, h => by
    obtain ⟨t, ht⟩ := h
    rw [Int.pow_succ] at ht
    obtain ⟨y, hy⟩ := two_dvd_mul ho ⟨2 ^ k * t, by rw [ht]; grind⟩
    have h2 : (2 ^ k : Int) ∣ o * y := ⟨t, by
      have : 2 * (o * y) = 2 * (2 ^ k * t) := by rw [hy] at ht; grind
      omega⟩
    obtain ⟨z, hz⟩ := odd_cancel ho k y h2
    exact ⟨z, by rw [hy, hz, Int.pow_succ]; grind⟩
theorem odd_cancel2 {o x : Int} {k b : Nat} (ho : o % 2 = 1) (h : (2 ^ (k + b) : Int) ∣ 2 ^ b * o * x) : (2 ^ k : Int) ∣ x := by
  apply odd_cancel ho
  obtain ⟨t, ht⟩ := h
  refine ⟨t, ?_⟩
  rw [Int.pow_add] at ht
  have hp : (2 ^ b : Int) ≠ 0 := Int.ne_of_gt (Int.pow_pos (by decide))
  apply Int.eq_of_mul_eq_mul_left hp
  grind
theorem sq_even {x : Int} (h : (2 : Int) ∣ x * x) : (2 : Int) ∣ x := by
  rcases Int.emod_two_eq x with q | q
  · exact Int.dvd_of_emod_eq_zero q
  · exact two_dvd_mul q h
theorem sq_dvd : ∀ (k : Nat) (x : Int), (2 ^ (2 * k) : Int) ∣ x * x → (2 ^ k : Int) ∣ x
  | 0, x, _ => ⟨x, by rw [Int.pow_zero, Int.one_mul]⟩
  | k + 1, x, h => by
    obtain ⟨t, ht⟩ := h
    rw [show 2 * (k + 1) = 2 * k + 1 + 1 by omega, Int.pow_succ, Int.pow_succ] at ht
    obtain ⟨y, hy⟩ := sq_even (x := x) ⟨2 ^ (2 * k) * 2 * t, by rw [ht]; grind⟩
    have h2 : (2 ^ (2 * k) : Int) ∣ y * y := ⟨t, by
      have : 4 * (y * y) = 4 * (2 ^ (2 * k) * t) := by rw [hy] at ht; grind
      omega⟩
    obtain ⟨z, hz⟩ := sq_dvd k y h2
    exact ⟨z, by rw [hy, hz, Int.pow_succ]; grind⟩
theorem inv_ex {o : Int} (ho : o % 2 = 1) : ∀ k : Nat, ∃ q : Int, (2 ^ k : Int) ∣ o * q - 1
  | 0 => ⟨0, ⟨o * 0 - 1, by rw [Int.pow_zero, Int.one_mul]⟩⟩
  | k + 1 => by
    obtain ⟨q, t, ht⟩ := inv_ex ho k
    obtain ⟨r, hr⟩ : ∃ r, o = 2 * r + 1 := ⟨o / 2, by omega⟩
    refine ⟨q + 2 ^ k * t, ⟨t + r * t, ?_⟩⟩
    rw [Int.pow_succ]
    have : o * q = 2 ^ k * t + 1 := by omega
    grind
theorem pw_le_dvd {i j : Nat} {x : Int} (h : i ≤ j) (hx : (2 ^ j : Int) ∣ x) : (2 ^ i : Int) ∣ x := by
  obtain ⟨t, ht⟩ := hx
  obtain ⟨c, rfl⟩ := Nat.exists_eq_add_of_le h
  exact ⟨2 ^ c * t, by rw [ht, Int.pow_add]; grind⟩
theorem dvd_mul2 {i j : Nat} {x y : Int} (hx : (2 ^ i : Int) ∣ x) (hy : (2 ^ j : Int) ∣ y) : (2 ^ (i + j) : Int) ∣ x * y := by
  obtain ⟨s, hs⟩ := hx
  obtain ⟨t, ht⟩ := hy
  exact ⟨s * t, by rw [hs, ht, Int.pow_add]; grind⟩
theorem small_zero {k : Nat} {x : Int} (h : (2 ^ k : Int) ∣ x) (hb : x.natAbs < 2 ^ k) : x = 0 := by
  obtain ⟨t, ht⟩ := h
  by_cases q : t = 0
  · rw [ht, q, Int.mul_zero]
  · exfalso
    rw [ht, Int.natAbs_mul] at hb
    have e : (2 ^ k : Int).natAbs = 2 ^ k := by rw [Int.natAbs_pow]; rfl
    rw [e] at hb
    have h1 : 1 ≤ t.natAbs := Nat.one_le_iff_ne_zero.mpr (fun z => q (Int.natAbs_eq_zero.mp z))
    have := Nat.mul_le_mul_left (2 ^ k) h1
    omega
end
section
theorem mind_l {e X Y W : Nat → Int} {m b a l : Nat} {k o : Int} (h0 : (2 ^ 32 : Int) ∣ sE e X Y W 0) (h1 : (2 ^ 32 : Int) ∣ sP e X Y W 0 1) (h2 : (2 ^ 32 : Int) ∣ sP e X Y W 0 2 + sE e X Y W 1) (hS0 : (2 ^ b : Int) ∣ sP e X Y W 0 l) (hS2 : (2 ^ b : Int) ∣ sP e X Y W 2 l) (hEl : (2 ^ b : Int) ∣ sE e X Y W l) (hS12 : (2 ^ b : Int) ∣ sP e X Y W 1 2) (hE2 : (2 ^ b : Int) ∣ sE e X Y W 2) (hk : sP e X Y W 0 2 = 2 ^ b * k) (ok : k % 2 = 1) (hd : d3 X Y W 0 1 2 = 2 ^ a * o) (oo : o % 2 = 1) (ma : (2 ^ m : Int) ∣ d3 X Y W 1 2 l) (mb : (2 ^ m : Int) ∣ d3 X Y W 0 2 l) (q1 : a + b ≤ 32 + m) (q2 : 2 * a + b ≤ 32 + 2 * m) (q3 : b < 32) : (2 ^ a : Int) ∣ d3 X Y W 0 1 l ∧ (2 ^ a : Int) ∣ d3 X Y W 0 2 l ∧ (2 ^ a : Int) ∣ d3 X Y W 1 2 l := by
  have I1 := sP_cmb e X Y W 0 0 1 2 l _ _ _ _ (cramX X Y W 0 1 2 l) (cramY X Y W 0 1 2 l) (cramW X Y W 0 1 2 l)
  have I3 := sP_cmb e X Y W 2 0 1 2 l _ _ _ _ (cramX X Y W 0 1 2 l) (cramY X Y W 0 1 2 l) (cramW X Y W 0 1 2 l)
  have I4 := sE_cmb e X Y W 0 1 2 l _ _ _ _ (cramX X Y W 0 1 2 l) (cramY X Y W 0 1 2 l) (cramW X Y W 0 1 2 l)
  rw [sP_self] at I1 I3
  rw [sP_sym e X Y W 2 0, sP_sym e X Y W 2 1] at I3
  have da : (2 ^ a : Int) ∣ d3 X Y W 0 1 2 := ⟨o, hd⟩
  generalize d3 X Y W 0 1 2 = d at *
  generalize d3 X Y W 1 2 l = A at *
  generalize d3 X Y W 0 2 l = B at *
  generalize d3 X Y W 0 1 l = C at *
  generalize sE e X Y W 0 = E0 at *
  generalize sE e X Y W 1 = E1 at *
  generalize sE e X Y W 2 = E2 at *
  generalize sE e X Y W l = El at *
  generalize sP e X Y W 0 1 = S01 at *
  generalize sP e X Y W 0 2 = S02 at *
  generalize sP e X Y W 1 2 = S12 at *
  generalize sP e X Y W 0 l = S0 at *
  generalize sP e X Y W 2 l = S2 at *
  have hC : (2 ^ a : Int) ∣ C := by
    have e1 : 2 ^ b * k * C = d * S0 - A * E0 * 2 + B * S01 := by rw [← hk]; grind
    apply odd_cancel2 (b := b) ok
    rw [e1]
    refine Int.dvd_add (Int.dvd_sub (dvd_mul2 da hS0) ?_) ?_
    · exact Int.dvd_trans (pw_le_dvd (by omega) (dvd_mul2 ma h0)) (Int.dvd_mul_right _ _)
    · exact pw_le_dvd (by omega) (dvd_mul2 mb h1)
  have hB : (2 ^ a : Int) ∣ B := by
    obtain ⟨t, ht⟩ := h2
    have ek : E1 = 2 ^ b * (2 ^ (32 - b) * t - k) := by
      have e2 : (2 ^ 32 : Int) = 2 ^ b * 2 ^ (32 - b) := by rw [← Int.pow_add]; congr 1; omega
      rw [e2] at ht
      grind
    have ok1 : (2 ^ (32 - b) * t - k) % 2 = 1 := by
      obtain ⟨c, hc⟩ : ∃ c, 32 - b = c + 1 := ⟨31 - b, by omega⟩
      rw [hc, Int.pow_succ]
      have : (2 : Int) ^ c * 2 * t = 2 * (2 ^ c * t) := by grind
      omega
    have e1 : 2 ^ b * (2 ^ (32 - b) * t - k) * (B * B) = d * d * El - C * d * S2 + C * C * E2 - A * A * E0 + A * B * S01 := by
      rw [← ek]
      grind
    apply sq_dvd
    apply odd_cancel2 (b := b) ok1
    rw [e1]
    refine Int.dvd_add (Int.dvd_sub (Int.dvd_add (Int.dvd_sub ?_ ?_) ?_) ?_) ?_
    · exact pw_le_dvd (by omega) (dvd_mul2 (dvd_mul2 da da) hEl)
    · exact pw_le_dvd (by omega) (dvd_mul2 (dvd_mul2 hC da) hS2)
    · exact pw_le_dvd (by omega) (dvd_mul2 (dvd_mul2 hC hC) hE2)
    · exact pw_le_dvd (by omega) (dvd_mul2 (dvd_mul2 ma ma) h0)
    · exact pw_le_dvd (by omega) (dvd_mul2 (dvd_mul2 ma mb) h1)
  refine ⟨hC, hB, ?_⟩
  have e1 : 2 ^ b * k * A = d * S2 + B * S12 - C * E2 * 2 := by rw [← hk]; grind
  apply odd_cancel2 (b := b) ok
  rw [e1]
  refine Int.dvd_sub (Int.dvd_add (dvd_mul2 da hS2) (dvd_mul2 hB hS12)) ?_
  exact Int.dvd_trans (dvd_mul2 hC hE2) (Int.dvd_mul_right _ _)
/-- what the content of the conic on three vectors says of their minor -/
theorem cont_d {e X Y W : Nat → Int} {b i j k : Nat} (hi : (2 ^ b : Int) ∣ sE e X Y W i) (hj : (2 ^ b : Int) ∣ sE e X Y W j) (hk : (2 ^ b : Int) ∣ sE e X Y W k) (hij : (2 ^ b : Int) ∣ sP e X Y W i j) (hik : (2 ^ b : Int) ∣ sP e X Y W i k) (hjk : (2 ^ b : Int) ∣ sP e X Y W j k) (l : Nat) : (2 ^ b : Int) ∣ d3 X Y W i j k * d3 X Y W i j k * sE e X Y W l := by
  rw [sE_cmb e X Y W i j k l _ _ _ _ (cramX X Y W i j k l) (cramY X Y W i j k l) (cramW X Y W i j k l)]
  refine Int.dvd_sub (Int.dvd_add (Int.dvd_sub (Int.dvd_add (Int.dvd_add ?_ ?_) ?_) ?_) ?_) ?_ <;> exact Int.dvd_trans (by assumption) (Int.dvd_mul_left _ _)
/-- a square over an odd number -/
theorem cont_sq {b : Nat} {d : Int} {e : Nat → Int} (he : ∃ i, i < 6 ∧ e i % 2 = 1) (h : ∀ i, i < 6 → (2 ^ b : Int) ∣ d * d * e i) : (2 ^ b : Int) ∣ d * d := by
  obtain ⟨i, hi, ho⟩ := he
  apply odd_cancel ho
  rw [Int.mul_comm]
  exact h i hi
end
section
theorem dl {n x : Int} (c : Int) (h : n ∣ x) : n ∣ c * x := Int.dvd_trans h (Int.dvd_mul_left _ _)
def cmb (n : Int) (X Y W : Nat → Int) (l : Nat) (x1 x2 x3 : Int) : Prop := n ∣ X l - (x1 * X 0 + x2 * X 1 + x3 * X 2) ∧ n ∣ Y l - (x1 * Y 0 + x2 * Y 1 + x3 * Y 2) ∧ n ∣ W l - (x1 * W 0 + x2 * W 1 + x3 * W 2)
theorem sP_mod {n : Int} {X Y W : Nat → Int} {l : Nat} {x1 x2 x3 : Int} (h : cmb n X Y W l x1 x2 x3) (e : Nat → Int) (j : Nat) : n ∣ sP e X Y W j l - (x1 * sP e X Y W j 0 + x2 * sP e X Y W j 1 + x3 * sP e X Y W j 2) := by
  obtain ⟨⟨r1, h1⟩, ⟨r2, h2⟩, ⟨r3, h3⟩⟩ := h
  refine ⟨2 * e 0 * X j * r1 + e 1 * (X j * r2 + Y j * r1) + 2 * e 2 * Y j * r2 + e 3 * (X j * r3 + W j * r1) + e 4 * (Y j * r3 + W j * r2) + 2 * e 5 * W j * r3, ?_⟩
  unfold sP
  generalize X l = x at *
  generalize Y l = y at *
  generalize W l = w at *
  grind
theorem sE_mod {n : Int} {X Y W : Nat → Int} {l : Nat} {x1 x2 x3 : Int} (h : cmb n X Y W l x1 x2 x3) (e : Nat → Int) : n ∣ sE e X Y W l - (x1 * x1 * sE e X Y W 0 + x2 * x2 * sE e X Y W 1 + x3 * x3 * sE e X Y W 2 + x1 * x2 * sP e X Y W 0 1 + x1 * x3 * sP e X Y W 0 2 + x2 * x3 * sP e X Y W 1 2) := by
  obtain ⟨⟨r1, h1⟩, ⟨r2, h2⟩, ⟨r3, h3⟩⟩ := h
  have e1 : X l = x1 * X 0 + x2 * X 1 + x3 * X 2 + n * r1 := by omega
  have e2 : Y l = x1 * Y 0 + x2 * Y 1 + x3 * Y 2 + n * r2 := by omega
  have e3 : W l = x1 * W 0 + x2 * W 1 + x3 * W 2 + n * r3 := by omega
  refine ⟨e 0 * (X l * r1 + r1 * (x1 * X 0 + x2 * X 1 + x3 * X 2)) + e 1 * (X l * r2 + r1 * (x1 * Y 0 + x2 * Y 1 + x3 * Y 2)) + e 2 * (Y l * r2 + r2 * (x1 * Y 0 + x2 * Y 1 + x3 * Y 2)) + e 3 * (X l * r3 + r1 * (x1 * W 0 + x2 * W 1 + x3 * W 2)) + e 4 * (Y l * r3 + r2 * (x1 * W 0 + x2 * W 1 + x3 * W 2)) + e 5 * (W l * r3 + r3 * (x1 * W 0 + x2 * W 1 + x3 * W 2)), ?_⟩
  unfold sE sP
  rw [e1, e2, e3]
  grind
def CK (n : Int) (e X Y W : Nat → Int) : Prop := n ∣ sE e X Y W 0 ∧ n ∣ sP e X Y W 0 1 ∧ n ∣ sP e X Y W 0 2 + sE e X Y W 1 ∧ n ∣ sP e X Y W 0 3 + sP e X Y W 1 2 ∧ n ∣ sP e X Y W 0 4 + sP e X Y W 1 3 + sE e X Y W 2 ∧ n ∣ sP e X Y W 1 4 + sP e X Y W 2 3 ∧ n ∣ sP e X Y W 2 4 + sE e X Y W 3 ∧ n ∣ sP e X Y W 3 4 ∧ n ∣ sE e X Y W 4
def a5 (x1 x2 x3 y2 y3 : Int) : Int := x1 - 2 * y2 - 3 * x3 * y3 + 3 * x2 * x3 + 2 * x3 * x3 * x3
def a6 (x1 x2 x3 y1 y2 y3 : Int) : Int := y1 - x3 * y2 - 2 * y3 * y3 + 4 * x2 * y3 + x3 * x3 * y3 - x2 * x2 + x1 * x3 + x2 * x3 * x3 + x3 * x3 * x3 * x3
def vv (x2 x3 y3 : Int) : Int := x2 + x3 * x3 - y3
def z5 (x2 x3 y2 y3 : Int) : Int := x3 * x3 * x3 + x2 * x3 - 3 * x3 * y3 - 2 * y2
def uu4 (x3 y3 : Int) : Int := 4 * y3 - x3 * x3
/-- the nine conditions, in the coordinates of the first three vectors -/
theorem chart {n : Int} {e X Y W : Nat → Int} {x1 x2 x3 y1 y2 y3 : Int} (hC : CK n e X Y W) (h3 : cmb n X Y W 3 x1 x2 x3) (h4 : cmb n X Y W 4 y1 y2 y3) : n ∣ a5 x1 x2 x3 y2 y3 * sP e X Y W 0 2 ∧ n ∣ a6 x1 x2 x3 y1 y2 y3 * sP e X Y W 0 2 ∧ n ∣ vv x2 x3 y3 * z5 x2 x3 y2 y3 * sP e X Y W 0 2 ∧ n ∣ (y3 * vv x2 x3 y3 * vv x2 x3 y3 - (y2 + x3 * y3) * (y2 + x3 * y3)) * sP e X Y W 0 2 := by
  obtain ⟨c0, c1, c2, c3, c4, c5, c6, c7, c8⟩ := hC
  have g03 := sP_mod h3 e 0
  have g13 := sP_mod h3 e 1
  have g23 := sP_mod h3 e 2
  have g04 := sP_mod h4 e 0
  have g14 := sP_mod h4 e 1
  have g24 := sP_mod h4 e 2
  have g34 := sP_mod h4 e 3
  have k3 := sE_mod h3 e
  have k4 := sE_mod h4 e
  rw [sP_sym e X Y W 3 0, sP_sym e X Y W 3 1, sP_sym e X Y W 3 2] at g34
  rw [sP_self] at g03 g04 g13 g14 g23 g24
  rw [sP_sym e X Y W 1 0] at g13 g14
  rw [sP_sym e X Y W 2 0, sP_sym e X Y W 2 1] at g23 g24
  generalize sE e X Y W 0 = E0 at *
  generalize sE e X Y W 1 = E1 at *
  generalize sE e X Y W 2 = E2 at *
  generalize sE e X Y W 3 = E3 at *
  generalize sE e X Y W 4 = E4 at *
  generalize sP e X Y W 0 1 = S01 at *
  generalize sP e X Y W 0 2 = S02 at *
  generalize sP e X Y W 0 3 = S03 at *
  generalize sP e X Y W 0 4 = S04 at *
  generalize sP e X Y W 1 2 = S12 at *
  generalize sP e X Y W 1 3 = S13 at *
  generalize sP e X Y W 1 4 = S14 at *
  generalize sP e X Y W 2 3 = S23 at *
  generalize sP e X Y W 2 4 = S24 at *
  generalize sP e X Y W 3 4 = S34 at *
  have f03 : n ∣ S03 - x3 * S02 := by
    have q : S03 - x3 * S02 = (S03 - (x1 * (2 * E0) + x2 * S01 + x3 * S02)) + 2 * x1 * E0 + x2 * S01 := by grind
    rw [q]
    exact Int.dvd_add (Int.dvd_add g03 (dl _ c0)) (dl _ c1)
  have f04 : n ∣ S04 - y3 * S02 := by
    have q : S04 - y3 * S02 = (S04 - (y1 * (2 * E0) + y2 * S01 + y3 * S02)) + 2 * y1 * E0 + y2 * S01 := by grind
    rw [q]
    exact Int.dvd_add (Int.dvd_add g04 (dl _ c0)) (dl _ c1)
  have f12 : n ∣ S12 + x3 * S02 := by
    have q : S12 + x3 * S02 = (S03 + S12) - (S03 - x3 * S02) := by grind
    rw [q]
    exact Int.dvd_sub c3 f03
  have f13 : n ∣ S13 + (2 * x2 + x3 * x3) * S02 := by
    have q : S13 + (2 * x2 + x3 * x3) * S02 = (S13 - (x1 * S01 + x2 * (2 * E1) + x3 * S12)) + x1 * S01 + 2 * x2 * (S02 + E1) + x3 * (S12 + x3 * S02) := by grind
    rw [q]
    exact Int.dvd_add (Int.dvd_add (Int.dvd_add g13 (dl _ c1)) (dl _ c2)) (dl _ f12)
  have f14 : n ∣ S14 + (2 * y2 + x3 * y3) * S02 := by
    have q : S14 + (2 * y2 + x3 * y3) * S02 = (S14 - (y1 * S01 + y2 * (2 * E1) + y3 * S12)) + y1 * S01 + 2 * y2 * (S02 + E1) + y3 * (S12 + x3 * S02) := by grind
    rw [q]
    exact Int.dvd_add (Int.dvd_add (Int.dvd_add g14 (dl _ c1)) (dl _ c2)) (dl _ f12)
  have f2 : n ∣ E2 - (2 * x2 + x3 * x3 - y3) * S02 := by
    have q : E2 - (2 * x2 + x3 * x3 - y3) * S02 = (S04 + S13 + E2) - (S04 - y3 * S02) - (S13 + (2 * x2 + x3 * x3) * S02) := by grind
    rw [q]
    exact Int.dvd_sub (Int.dvd_sub c4 f04) f13
  have f23 : n ∣ S23 - (x1 - x2 * x3 + 2 * x3 * (2 * x2 + x3 * x3 - y3)) * S02 := by
    have q : S23 - (x1 - x2 * x3 + 2 * x3 * (2 * x2 + x3 * x3 - y3)) * S02 = (S23 - (x1 * S02 + x2 * S12 + x3 * (2 * E2))) + x2 * (S12 + x3 * S02) + 2 * x3 * (E2 - (2 * x2 + x3 * x3 - y3) * S02) := by grind
    rw [q]
    exact Int.dvd_add (Int.dvd_add g23 (dl _ f12)) (dl _ f2)
  have f24 : n ∣ S24 - (y1 - x3 * y2 + 2 * y3 * (2 * x2 + x3 * x3 - y3)) * S02 := by
    have q : S24 - (y1 - x3 * y2 + 2 * y3 * (2 * x2 + x3 * x3 - y3)) * S02 = (S24 - (y1 * S02 + y2 * S12 + y3 * (2 * E2))) + y2 * (S12 + x3 * S02) + 2 * y3 * (E2 - (2 * x2 + x3 * x3 - y3) * S02) := by grind
    rw [q]
    exact Int.dvd_add (Int.dvd_add g24 (dl _ f12)) (dl _ f2)
  have r5 : n ∣ a5 x1 x2 x3 y2 y3 * S02 := by
    have q : a5 x1 x2 x3 y2 y3 * S02 = (S14 + S23) - (S14 + (2 * y2 + x3 * y3) * S02) - (S23 - (x1 - x2 * x3 + 2 * x3 * (2 * x2 + x3 * x3 - y3)) * S02) := by unfold a5; grind
    rw [q]
    exact Int.dvd_sub (Int.dvd_sub c5 f14) f23
  have f3 : n ∣ E3 - (x1 * x3 - x2 * x2 - x2 * x3 * x3 + x3 * x3 * (2 * x2 + x3 * x3 - y3)) * S02 := by
    have q : E3 - (x1 * x3 - x2 * x2 - x2 * x3 * x3 + x3 * x3 * (2 * x2 + x3 * x3 - y3)) * S02 = (E3 - (x1 * x1 * E0 + x2 * x2 * E1 + x3 * x3 * E2 + x1 * x2 * S01 + x1 * x3 * S02 + x2 * x3 * S12)) + x1 * x1 * E0 + x2 * x2 * (S02 + E1) + x3 * x3 * (E2 - (2 * x2 + x3 * x3 - y3) * S02) + x1 * x2 * S01 + x2 * x3 * (S12 + x3 * S02) := by grind
    rw [q]
    exact Int.dvd_add (Int.dvd_add (Int.dvd_add (Int.dvd_add (Int.dvd_add k3 (dl _ c0)) (dl _ c2)) (dl _ f2)) (dl _ c1)) (dl _ f12)
  have r6 : n ∣ a6 x1 x2 x3 y1 y2 y3 * S02 := by
    have q : a6 x1 x2 x3 y1 y2 y3 * S02 = (S24 + E3) - (S24 - (y1 - x3 * y2 + 2 * y3 * (2 * x2 + x3 * x3 - y3)) * S02) - (E3 - (x1 * x3 - x2 * x2 - x2 * x3 * x3 + x3 * x3 * (2 * x2 + x3 * x3 - y3)) * S02) := by unfold a6; grind
    rw [q]
    exact Int.dvd_sub (Int.dvd_sub c6 f24) f3
  refine ⟨r5, r6, ?_, ?_⟩
  · have q : vv x2 x3 y3 * z5 x2 x3 y2 y3 * S02 = S34 - (S34 - (y1 * S03 + y2 * S13 + y3 * S23)) - y1 * (S03 - x3 * S02) - y2 * (S13 + (2 * x2 + x3 * x3) * S02) - y3 * (S23 - (x1 - x2 * x3 + 2 * x3 * (2 * x2 + x3 * x3 - y3)) * S02) - (y3 - x3 * x3) * (a5 x1 x2 x3 y2 y3 * S02) - x3 * (a6 x1 x2 x3 y1 y2 y3 * S02) := by
      unfold vv z5 a5 a6
      grind
    rw [q]
    exact Int.dvd_sub (Int.dvd_sub (Int.dvd_sub (Int.dvd_sub (Int.dvd_sub (Int.dvd_sub c7 g34) (dl _ f03)) (dl _ f13)) (dl _ f23)) (dl _ r5)) (dl _ r6)
  · have q : (y3 * vv x2 x3 y3 * vv x2 x3 y3 - (y2 + x3 * y3) * (y2 + x3 * y3)) * S02 = E4 - (E4 - (y1 * y1 * E0 + y2 * y2 * E1 + y3 * y3 * E2 + y1 * y2 * S01 + y1 * y3 * S02 + y2 * y3 * S12)) - y1 * y1 * E0 - y2 * y2 * (S02 + E1) - y3 * y3 * (E2 - (2 * x2 + x3 * x3 - y3) * S02) - y1 * y2 * S01 - y2 * y3 * (S12 + x3 * S02) - y3 * (a6 x1 x2 x3 y1 y2 y3 * S02) + x3 * y3 * (a5 x1 x2 x3 y2 y3 * S02) := by
      unfold vv a5 a6
      grind
    rw [q]
    exact Int.dvd_add (Int.dvd_sub (Int.dvd_sub (Int.dvd_sub (Int.dvd_sub (Int.dvd_sub (Int.dvd_sub (Int.dvd_sub c8 k4) (dl _ c0)) (dl _ c2)) (dl _ f2)) (dl _ c1)) (dl _ f12)) (dl _ r6)) (dl _ r5)
end
section
def EA (X Y W : Nat → Int) : Prop := 4 * d3 X Y W 0 1 2 * d3 X Y W 0 1 4 - d3 X Y W 0 1 3 * d3 X Y W 0 1 3 = 0 ∧ d3 X Y W 0 1 3 * d3 X Y W 0 1 4 - d3 X Y W 0 1 3 * d3 X Y W 0 2 3 + 2 * d3 X Y W 0 1 2 * d3 X Y W 0 2 4 = 0 ∧ d3 X Y W 0 1 2 * d3 X Y W 1 2 3 + 4 * d3 X Y W 0 1 3 * d3 X Y W 0 1 4 - 2 * d3 X Y W 0 1 3 * d3 X Y W 0 2 3 = 0 ∧ d3 X Y W 0 1 2 * d3 X Y W 1 2 4 - d3 X Y W 0 2 3 * d3 X Y W 0 2 3 + 2 * d3 X Y W 0 2 3 * d3 X Y W 0 1 4 = 0
theorem rest_dvd {n : Nat} {i j k : Nat} {x y : Int} (h : x * y = 2 ^ k * (2 ^ n * i * j)) : (2 ^ n : Int) ∣ x * y := ⟨2 ^ k * (i * j), by rw [h]; grind⟩
/-- a combination of the three vectors, by the minors over their own -/
theorem cmb_of {X Y W : Nat → Int} {l a N : Nat} {o q sa sb sc : Int} (hd : d3 X Y W 0 1 2 = 2 ^ a * o) (ha : d3 X Y W 1 2 l = 2 ^ a * sa) (hb : d3 X Y W 0 2 l = 2 ^ a * sb) (hc : d3 X Y W 0 1 l = 2 ^ a * sc) (hq : (2 ^ N : Int) ∣ o * q - 1) : cmb (2 ^ N) X Y W l (q * sa) (-(q * sb)) (q * sc) := by
  have hp : (2 ^ a : Int) ≠ 0 := Int.ne_of_gt (Int.pow_pos (by decide))
  obtain ⟨t, ht⟩ := hq
  have key : ∀ (Z : Nat → Int), d3 X Y W 0 1 2 * Z l = d3 X Y W 1 2 l * Z 0 - d3 X Y W 0 2 l * Z 1 + d3 X Y W 0 1 l * Z 2 → (2 ^ N : Int) ∣ Z l - (q * sa * Z 0 + -(q * sb) * Z 1 + q * sc * Z 2) := fun Z h => by
    rw [hd, ha, hb, hc] at h
    have h2 : o * Z l = sa * Z 0 - sb * Z 1 + sc * Z 2 := by
      apply Int.eq_of_mul_eq_mul_left hp
      grind
    refine ⟨-(t * Z l), ?_⟩
    generalize (2 ^ N : Int) = n at *
    have h3 : q * (o * Z l) = q * (sa * Z 0 - sb * Z 1 + sc * Z 2) := by rw [h2]
    grind
  exact ⟨key X (cramX X Y W 0 1 2 l), key Y (cramY X Y W 0 1 2 l), key W (cramW X Y W 0 1 2 l)⟩
theorem drop_b {b : Nat} {k x : Int} (hb : b ≤ 32) (ok : k % 2 = 1) (h : (2 ^ 32 : Int) ∣ x * (2 ^ b * k)) : (2 ^ (32 - b) : Int) ∣ x := by
  apply odd_cancel2 (b := b) ok
  rw [show 32 - b + b = 32 by omega]
  rw [Int.mul_comm]
  exact h
/-- near the double conic: the square that the two leading minors make -/
theorem near_u {M ν : Nat} {x2 x3 y2 y3 v' : Int} (hv : vv x2 x3 y3 = 2 ^ ν * v') (ov : v' % 2 = 1) (h7 : (2 ^ M : Int) ∣ vv x2 x3 y3 * z5 x2 x3 y2 y3) (h8 : (2 ^ M : Int) ∣ y3 * vv x2 x3 y3 * vv x2 x3 y3 - (y2 + x3 * y3) * (y2 + x3 * y3)) (hM : 2 * ν + 1 ≤ M) : (2 ^ (M - ν) : Int) ∣ z5 x2 x3 y2 y3 ∧ (2 ^ (M + 1 - 2 * ν) : Int) ∣ uu4 x3 y3 := by
  have hz : (2 ^ (M - ν) : Int) ∣ z5 x2 x3 y2 y3 := by
    apply odd_cancel2 (b := ν) ov
    rw [← hv, show M - ν + ν = M by omega]
    exact h7
  refine ⟨hz, ?_⟩
  have ov2 : (v' * v') % 2 = 1 := by rw [Int.mul_emod, ov]; rfl
  apply odd_cancel2 (b := 2 * ν) ov2
  have e1 : 2 ^ (2 * ν) * (v' * v') * uu4 x3 y3 = 4 * (y3 * vv x2 x3 y3 * vv x2 x3 y3 - (y2 + x3 * y3) * (y2 + x3 * y3)) + z5 x2 x3 y2 y3 * z5 x2 x3 y2 y3 - 2 * (x3 * (vv x2 x3 y3 * z5 x2 x3 y2 y3)) := by
    have e2 : 2 ^ (2 * ν) * (v' * v') = vv x2 x3 y3 * vv x2 x3 y3 := by
      rw [hv, show 2 * ν = ν + ν by omega, Int.pow_add]
      grind
    rw [e2]
    unfold vv z5 uu4
    grind
  rw [e1, show M + 1 - 2 * ν + 2 * ν = M + 1 by omega]
  refine Int.dvd_sub (Int.dvd_add ?_ ?_) ?_
  · obtain ⟨t, ht⟩ := h8
    exact ⟨2 * t, by rw [ht, Int.pow_succ]; grind⟩
  · exact pw_le_dvd (by omega) (dvd_mul2 hz hz)
  · obtain ⟨t, ht⟩ := h7
    exact ⟨x3 * t, by rw [ht, Int.pow_succ]; grind⟩
/-- a quadric over the minors, by its value in the coordinates -/
theorem quad_zero {a j : Nat} {o q G g : Int} (oo : o % 2 = 1) (hq : (2 ^ 64 : Int) ∣ o * q - 1) (hG : G.natAbs < 2 ^ 24) (hj : 24 ≤ 2 * a + j) (hj64 : j ≤ 64) (hg : (2 ^ j : Int) ∣ g) (h : ∃ r : Int, G = 2 ^ (2 * a) * r ∧ (2 ^ 64 : Int) ∣ q * q * r - g) : G = 0 := by
  obtain ⟨r, hr, hm⟩ := h
  have h1 : (2 ^ j : Int) ∣ q * q * r := by
    have e : q * q * r = (q * q * r - g) + g := by grind
    rw [e]
    exact Int.dvd_add (pw_le_dvd hj64 hm) hg
  have oq : q % 2 = 1 := by
    obtain ⟨t, ht⟩ := hq
    rcases Int.emod_two_eq q with z | z
    · exfalso
      have e3 : o * q = 2 ^ 64 * t + 1 := by omega
      have e4 : (o * q) % 2 = 0 := by rw [Int.mul_emod, z, Int.mul_zero]; rfl
      rw [e3] at e4
      omega
    · exact z
  have oq2 : (q * q) % 2 = 1 := by rw [Int.mul_emod, oq]; rfl
  have h2 := odd_cancel oq2 j r h1
  apply small_zero (k := 24) _ hG
  rw [hr]
  exact pw_le_dvd hj (dvd_mul2 ⟨1, by rw [Int.mul_one]⟩ h2)
end
section
theorem cmb_le {i j : Nat} {X Y W : Nat → Int} {l : Nat} {x1 x2 x3 : Int} (h : i ≤ j) (hc : cmb (2 ^ j) X Y W l x1 x2 x3) : cmb (2 ^ i) X Y W l x1 x2 x3 := ⟨pw_le_dvd h hc.1, pw_le_dvd h hc.2.1, pw_le_dvd h hc.2.2⟩
theorem chartM {e X Y W : Nat → Int} {a b : Nat} {o k s013 s014 s023 s024 s123 s124 : Int} (hC : CK (2 ^ 32) e X Y W) (hd : d3 X Y W 0 1 2 = 2 ^ a * o) (oo : o % 2 = 1) (h013 : d3 X Y W 0 1 3 = 2 ^ a * s013) (h014 : d3 X Y W 0 1 4 = 2 ^ a * s014) (h023 : d3 X Y W 0 2 3 = 2 ^ a * s023) (h024 : d3 X Y W 0 2 4 = 2 ^ a * s024) (h123 : d3 X Y W 1 2 3 = 2 ^ a * s123) (h124 : d3 X Y W 1 2 4 = 2 ^ a * s124) (hk : sP e X Y W 0 2 = 2 ^ b * k) (ok : k % 2 = 1) (hb : b ≤ 32) : ∃ q : Int, (2 ^ 64 : Int) ∣ o * q - 1 ∧ cmb (2 ^ 64) X Y W 3 (q * s123) (-(q * s023)) (q * s013) ∧ cmb (2 ^ 64) X Y W 4 (q * s124) (-(q * s024)) (q * s014) ∧ (2 ^ (32 - b) : Int) ∣ a5 (q * s123) (-(q * s023)) (q * s013) (-(q * s024)) (q * s014) ∧ (2 ^ (32 - b) : Int) ∣ a6 (q * s123) (-(q * s023)) (q * s013) (q * s124) (-(q * s024)) (q * s014) ∧ (2 ^ (32 - b) : Int) ∣ vv (-(q * s023)) (q * s013) (q * s014) * z5 (-(q * s023)) (q * s013) (-(q * s024)) (q * s014) ∧ (2 ^ (32 - b) : Int) ∣ q * s014 * vv (-(q * s023)) (q * s013) (q * s014) * vv (-(q * s023)) (q * s013) (q * s014) - (-(q * s024) + q * s013 * (q * s014)) * (-(q * s024) + q * s013 * (q * s014)) := by
  obtain ⟨q, hq⟩ := inv_ex oo 64
  have c3 := cmb_of hd h123 h023 h013 hq
  have c4 := cmb_of hd h124 h024 h014 hq
  obtain ⟨r5, r6, r7, r8⟩ := chart hC (cmb_le (i := 32) (by decide) c3) (cmb_le (i := 32) (by decide) c4)
  rw [hk] at r5 r6 r7 r8
  exact ⟨q, hq, c3, c4, drop_b hb ok r5, drop_b hb ok r6, drop_b hb ok r7, drop_b hb ok r8⟩
/-- near the common factor -/
theorem near_b {M : Nat} {x2 x3 y2 y3 : Int} (hM : 10 ≤ M) (hv : (2 ^ 5 : Int) ∣ vv x2 x3 y3) (h8 : (2 ^ M : Int) ∣ y3 * vv x2 x3 y3 * vv x2 x3 y3 - (y2 + x3 * y3) * (y2 + x3 * y3)) : (2 ^ 5 : Int) ∣ z5 x2 x3 y2 y3 := by
  have e1 : z5 x2 x3 y2 y3 * z5 x2 x3 y2 y3 = uu4 x3 y3 * (vv x2 x3 y3 * vv x2 x3 y3) + 2 * x3 * (vv x2 x3 y3 * z5 x2 x3 y2 y3) - 4 * (y3 * vv x2 x3 y3 * vv x2 x3 y3 - (y2 + x3 * y3) * (y2 + x3 * y3)) := by
    unfold vv z5 uu4
    grind
  have step : ∀ i : Nat, i ≤ 4 → (2 ^ i : Int) ∣ z5 x2 x3 y2 y3 → (2 ^ (i + 1) : Int) ∣ z5 x2 x3 y2 y3 := fun i hi h => by
    apply sq_dvd
    rw [e1]
    refine Int.dvd_sub (Int.dvd_add (dl _ (pw_le_dvd (by omega) (dvd_mul2 hv hv))) ?_) (dl _ (pw_le_dvd (by omega) h8))
    have h2 : (2 ^ (1 + (5 + i)) : Int) ∣ 2 * (vv x2 x3 y3 * z5 x2 x3 y2 y3) := dvd_mul2 (i := 1) ⟨1, rfl⟩ (dvd_mul2 hv h)
    have e2 : 2 * x3 * (vv x2 x3 y3 * z5 x2 x3 y2 y3) = x3 * (2 * (vv x2 x3 y3 * z5 x2 x3 y2 y3)) := by grind
    rw [e2]
    exact dl _ (pw_le_dvd (by omega) h2)
  exact step 4 (by decide) (step 3 (by decide) (step 2 (by decide) (step 1 (by decide) (step 0 (by decide) ⟨_, by rw [Int.pow_zero, Int.one_mul]⟩))))
theorem nb2 {x y : Int} (hx : x.natAbs ≤ 1372) (hy : y.natAbs ≤ 1372) : (x * y).natAbs ≤ 1882384 := by
  rw [Int.natAbs_mul]
  exact Nat.mul_le_mul hx hy
theorem small_nu {M : Nat} {v : Int} (h : ¬ (2 ^ 5 : Int) ∣ v) : ∃ (ν : Nat) (v' : Int), v = 2 ^ ν * v' ∧ v' % 2 = 1 ∧ ν ≤ 4 := by
  by_cases q : v = 0
  · exact absurd ⟨0, by rw [q, Int.mul_zero]⟩ h
  · obtain ⟨ν, v', h1, h2⟩ := two_split v.natAbs v (Nat.le_refl _) q
    refine ⟨ν, v', h1, h2, Nat.le_of_not_lt fun z => h ?_⟩
    exact pw_le_dvd (i := 5) (j := ν) z ⟨v', h1⟩
def bP (X Y W : Nat → Int) : Prop := ∀ i j k, i < 5 → j < 5 → k < 5 → (d3 X Y W i j k).natAbs ≤ 1372
/-- where the second factor is no multiple of 32: exactly on the double conic -/
theorem caseA {X Y W : Nat → Int} {a b : Nat} {o q s013 s014 s023 s024 s123 s124 : Int} (hd : d3 X Y W 0 1 2 = 2 ^ a * o) (oo : o % 2 = 1) (h013 : d3 X Y W 0 1 3 = 2 ^ a * s013) (h014 : d3 X Y W 0 1 4 = 2 ^ a * s014) (h023 : d3 X Y W 0 2 3 = 2 ^ a * s023) (h024 : d3 X Y W 0 2 4 = 2 ^ a * s024) (h123 : d3 X Y W 1 2 3 = 2 ^ a * s123) (h124 : d3 X Y W 1 2 4 = 2 ^ a * s124) (hb : b ≤ 20) (hba : b ≤ 2 * a) (hP : bP X Y W) (hq : (2 ^ 64 : Int) ∣ o * q - 1) (r5 : (2 ^ (32 - b) : Int) ∣ a5 (q * s123) (-(q * s023)) (q * s013) (-(q * s024)) (q * s014)) (r6 : (2 ^ (32 - b) : Int) ∣ a6 (q * s123) (-(q * s023)) (q * s013) (q * s124) (-(q * s024)) (q * s014)) (r7 : (2 ^ (32 - b) : Int) ∣ vv (-(q * s023)) (q * s013) (q * s014) * z5 (-(q * s023)) (q * s013) (-(q * s024)) (q * s014)) (r8 : (2 ^ (32 - b) : Int) ∣ q * s014 * vv (-(q * s023)) (q * s013) (q * s014) * vv (-(q * s023)) (q * s013) (q * s014) - (-(q * s024) + q * s013 * (q * s014)) * (-(q * s024) + q * s013 * (q * s014))) (hv : ¬ (2 ^ 5 : Int) ∣ vv (-(q * s023)) (q * s013) (q * s014)) : EA X Y W := by
  obtain ⟨ν, v', hv1, hv2, hv3⟩ := small_nu (M := 0) hv
  obtain ⟨hz, hu⟩ := near_u hv1 hv2 r7 r8 (by omega)
  have hz : (2 ^ (25 - b) : Int) ∣ z5 (-(q * s023)) (q * s013) (-(q * s024)) (q * s014) := pw_le_dvd (by omega) hz
  have hu : (2 ^ (25 - b) : Int) ∣ uu4 (q * s013) (q * s014) := pw_le_dvd (by omega) hu
  have r5 : (2 ^ (25 - b) : Int) ∣ _ := pw_le_dvd (by omega) r5
  have r6 : (2 ^ (25 - b) : Int) ∣ _ := pw_le_dvd (by omega) r6
  obtain ⟨tq, htq⟩ := hq
  have b012 := hP 0 1 2 (by decide) (by decide) (by decide)
  have b013 := hP 0 1 3 (by decide) (by decide) (by decide)
  have b014 := hP 0 1 4 (by decide) (by decide) (by decide)
  have b023 := hP 0 2 3 (by decide) (by decide) (by decide)
  have b024 := hP 0 2 4 (by decide) (by decide) (by decide)
  have b123 := hP 1 2 3 (by decide) (by decide) (by decide)
  have b124 := hP 1 2 4 (by decide) (by decide) (by decide)
  have pa : (2 ^ (2 * a) : Int) = 2 ^ a * 2 ^ a := by rw [← Int.pow_add]; congr 1; omega
  have oq1 : o * q = 2 ^ 64 * tq + 1 := by omega
  have hqz : (2 ^ (25 - b) : Int) ∣ q * s013 * -(q * s023) + q * s013 * (q * s014) - 2 * -(q * s024) := by
    have e : q * s013 * -(q * s023) + q * s013 * (q * s014) - 2 * -(q * s024) = z5 (-(q * s023)) (q * s013) (-(q * s024)) (q * s014) + q * s013 * uu4 (q * s013) (q * s014) := by
      unfold z5 uu4
      grind
    rw [e]
    exact Int.dvd_add hz (dl _ hu)
  refine ⟨?_, ?_, ?_, ?_⟩
  · refine quad_zero (a := a) (j := 25 - b) oo ⟨tq, htq⟩ ?_ (by omega) (by omega) hu ⟨4 * o * s014 - s013 * s013, ?_, ?_⟩
    · have := nb2 b012 b014
      have := nb2 b013 b013
      simp only [Int.mul_assoc]
      omega
    · rw [hd, h013, h014, pa]
      grind
    · refine ⟨4 * q * s014 * tq, ?_⟩
      unfold uu4
      generalize (2 ^ 64 : Int) = n at *
      grind
  · refine quad_zero (a := a) (j := 25 - b) oo ⟨tq, htq⟩ ?_ (by omega) (by omega) hqz ⟨s013 * s014 - s013 * s023 + 2 * o * s024, ?_, ?_⟩
    · have := nb2 b013 b014
      have := nb2 b013 b023
      have := nb2 b012 b024
      simp only [Int.mul_assoc]
      omega
    · rw [hd, h013, h014, h023, h024, pa]
      grind
    · refine ⟨2 * q * s024 * tq, ?_⟩
      generalize (2 ^ 64 : Int) = n at *
      grind
  · have h5 : (2 ^ (25 - b) : Int) ∣ q * s123 + 4 * (q * s013) * (q * s014) + 2 * (q * s013) * -(q * s023) := by
      have e : q * s123 + 4 * (q * s013) * (q * s014) + 2 * (q * s013) * -(q * s023) = a5 (q * s123) (-(q * s023)) (q * s013) (-(q * s024)) (q * s014) - (q * s013 * -(q * s023) + q * s013 * (q * s014) - 2 * -(q * s024)) + 2 * (q * s013) * uu4 (q * s013) (q * s014) := by
        unfold a5 uu4
        grind
      rw [e]
      exact Int.dvd_add (Int.dvd_sub r5 hqz) (dl _ hu)
    refine quad_zero (a := a) (j := 25 - b) oo ⟨tq, htq⟩ ?_ (by omega) (by omega) h5 ⟨o * s123 + 4 * s013 * s014 - 2 * s013 * s023, ?_, ?_⟩
    · have := nb2 b012 b123
      have := nb2 b013 b014
      have := nb2 b013 b023
      simp only [Int.mul_assoc]
      omega
    · rw [hd, h013, h014, h023, h123, pa]
      grind
    · refine ⟨q * s123 * tq, ?_⟩
      generalize (2 ^ 64 : Int) = n at *
      grind
  · have h6 : (2 ^ (24 - b) : Int) ∣ q * s124 - -(q * s023) * -(q * s023) - 2 * -(q * s023) * (q * s014) := by
      have e : 2 * (q * s124 - -(q * s023) * -(q * s023) - 2 * -(q * s023) * (q * s014)) = 2 * a6 (q * s123) (-(q * s023)) (q * s013) (q * s124) (-(q * s024)) (q * s014) - 2 * (q * s013) * a5 (q * s123) (-(q * s023)) (q * s013) (-(q * s024)) (q * s014) + q * s013 * (q * s013 * -(q * s023) + q * s013 * (q * s014) - 2 * -(q * s024)) + (q * s014 - 2 * (q * s013) * (q * s013) - 3 * -(q * s023)) * uu4 (q * s013) (q * s014) := by
        unfold a5 a6 uu4
        grind
      have h7 : (2 ^ (25 - b) : Int) ∣ 2 * (q * s124 - -(q * s023) * -(q * s023) - 2 * -(q * s023) * (q * s014)) := by
        rw [e]
        exact Int.dvd_add (Int.dvd_add (Int.dvd_sub (dl _ r6) (dl _ r5)) (dl _ hqz)) (dl _ hu)
      obtain ⟨t, ht⟩ := h7
      refine ⟨t, ?_⟩
      rw [show 25 - b = (24 - b) + 1 by omega, Int.pow_succ] at ht
      have : 2 * (q * s124 - -(q * s023) * -(q * s023) - 2 * -(q * s023) * (q * s014)) = 2 * (2 ^ (24 - b) * t) := by rw [ht]; grind
      omega
    refine quad_zero (a := a) (j := 24 - b) oo ⟨tq, htq⟩ ?_ (by omega) (by omega) h6 ⟨o * s124 - s023 * s023 + 2 * s023 * s014, ?_, ?_⟩
    · have := nb2 b012 b124
      have := nb2 b023 b023
      have := nb2 b023 b014
      simp only [Int.mul_assoc]
      omega
    · rw [hd, h014, h023, h124, pa]
      grind
    · refine ⟨q * s124 * tq, ?_⟩
      generalize (2 ^ 64 : Int) = n at *
      grind
end
section
/-! the eliminant, as Bezout's form has it -/
def m3 (X Y W : Nat → Int) (x y w : Int) (i j : Nat) : Int := x * (Y i * W j - Y j * W i) - y * (X i * W j - X j * W i) + w * (X i * Y j - X j * Y i)
def det4 (a0 a1 a2 a3 b0 b1 b2 b3 c0 c1 c2 c3 d0 d1 d2 d3 : Int) : Int := a0 * (b1 * (c2 * d3 - c3 * d2) - b2 * (c1 * d3 - c3 * d1) + b3 * (c1 * d2 - c2 * d1)) - a1 * (b0 * (c2 * d3 - c3 * d2) - b2 * (c0 * d3 - c3 * d0) + b3 * (c0 * d2 - c2 * d0)) + a2 * (b0 * (c1 * d3 - c3 * d1) - b1 * (c0 * d3 - c3 * d0) + b3 * (c0 * d1 - c1 * d0)) - a3 * (b0 * (c1 * d2 - c2 * d1) - b1 * (c0 * d2 - c2 * d0) + b2 * (c0 * d1 - c1 * d0))
def dS (a b c d e f g h i j : Int) : Int := det4 a b c d b e f g c f h i d g i j
def FF (X Y W : Nat → Int) (x y w : Int) : Int := dS (m3 X Y W x y w 0 1) (m3 X Y W x y w 0 2) (m3 X Y W x y w 0 3) (m3 X Y W x y w 0 4) (m3 X Y W x y w 0 3 + m3 X Y W x y w 1 2) (m3 X Y W x y w 0 4 + m3 X Y W x y w 1 3) (m3 X Y W x y w 1 4) (m3 X Y W x y w 1 4 + m3 X Y W x y w 2 3) (m3 X Y W x y w 2 4) (m3 X Y W x y w 3 4)
theorem dS_sc (c a b d e f g h i j k : Int) : dS (c * a) (c * c * b) (c * c * c * d) (c * c * c * c * e) (c * c * c * f) (c * c * c * c * g) (c * c * c * c * c * h) (c * c * c * c * c * i) (c * c * c * c * c * c * j) (c * c * c * c * c * c * c * k) = c * c * c * c * c * c * c * c * (c * c * c * c * c * c * c * c) * dS a b d e f g h i j k := by
  unfold dS det4
  grind
/-- on the double conic, in coordinates -/
theorem dS_dbl (T X p q r : Int) : dS p q (X * p + 2 * T * q) (T * (X + T * T) * p + T * T * q) ((X * p + 2 * T * q) + r) ((T * (X + T * T) * p + T * T * q) + ((8 * T * T * T + 4 * T * X) * p + 2 * T * r)) (-(X * X + 2 * X * T * T) * p + T * T * r) ((-(X * X + 2 * X * T * T) * p + T * T * r) + ((8 * T * T * T + 4 * T * X) * q - X * r)) (-(X * X + 2 * X * T * T) * q - T * (X + T * T) * r) ((-(8 * T * T * T + 4 * T * X) * (T * (X + T * T)) - X * (X * X + 2 * X * T * T)) * p + (-(8 * T * T * T + 4 * T * X) * (T * T) - 2 * T * (X * X + 2 * X * T * T)) * q + (X * (T * T) - 2 * T * (T * (X + T * T))) * r) = ((X + 3 * T * T) * (X + 3 * T * T) * (p * r - q * q + 2 * T * p * q + (2 * X + 3 * T * T) * p * p)) * ((X + 3 * T * T) * (X + 3 * T * T) * (p * r - q * q + 2 * T * p * q + (2 * X + 3 * T * T) * p * p)) := by
  unfold dS det4
  grind
end
section
theorem m3_cmb (X Y W : Nat → Int) (x y w : Int) (h i j k l : Nat) (d a b c : Int) (h1 : d * X l = a * X i - b * X j + c * X k) (h2 : d * Y l = a * Y i - b * Y j + c * Y k) (h3 : d * W l = a * W i - b * W j + c * W k) : d * m3 X Y W x y w h l = a * m3 X Y W x y w h i - b * m3 X Y W x y w h j + c * m3 X Y W x y w h k := by
  unfold m3
  generalize X l = x1 at *
  generalize Y l = y1 at *
  generalize W l = w1 at *
  grind
theorem m3_anti (X Y W : Nat → Int) (x y w : Int) (i j : Nat) : m3 X Y W x y w i j = -m3 X Y W x y w j i := by
  unfold m3
  grind
theorem m3_self (X Y W : Nat → Int) (x y w : Int) (i : Nat) : m3 X Y W x y w i i = 0 := by
  unfold m3
  grind
theorem tr_u2 {P T R p014 p024 : Int} (hU : 4 * P * p014 = T * T) (hZ : T * p014 - T * R + 2 * P * p024 = 0) : 8 * P * P * p024 = T * (4 * P * R - T * T) := by grind
theorem tr_u3 {P T R p014 p123 : Int} (hU : 4 * P * p014 = T * T) (h5 : P * p123 + 4 * T * p014 - 2 * T * R = 0) : P * P * p123 = 2 * P * T * R - T * T * T := by grind
theorem tr_u4 {P T R p014 p124 : Int} (hU : 4 * P * p014 = T * T) (h6 : P * p124 - R * R + 2 * R * p014 = 0) : 2 * P * P * p124 = 2 * P * R * R - R * T * T := by grind
theorem tr_c3 {P T R m01 m02 m03 a : Int} (e : P * m03 = a * 0 - R * m01 + T * m02) : 2 * P * (2 * P) * (2 * P) * m03 = -(4 * P * R) * (2 * P * m01) + 2 * T * (2 * P * (2 * P) * m02) := by grind
theorem tr_c4 {P T R m01 m02 m04 a p014 p024 : Int} (u1 : 4 * P * p014 = T * T) (u2 : 8 * P * P * p024 = T * (4 * P * R - T * T)) (e : P * m04 = a * 0 - p024 * m01 + p014 * m02) : 2 * P * (2 * P) * (2 * P) * (2 * P) * m04 = T * (-(4 * P * R) + T * T) * (2 * P * m01) + T * T * (2 * P * (2 * P) * m02) := by
  have f : 2 * P * (2 * P) * (2 * P) * (2 * P) * m04 = 16 * P * P * P * (P * m04) := by grind
  rw [f, e]
  grind
theorem tr_c13 {P T R m01 m12 m13 b p123 : Int} (u3 : P * P * p123 = 2 * P * T * R - T * T * T) (e : P * m13 = p123 * -m01 - b * 0 + T * m12) : 2 * P * (2 * P) * (2 * P) * (2 * P) * m13 = (8 * T * T * T + 4 * T * -(4 * P * R)) * (2 * P * m01) + 2 * T * (2 * P * (2 * P) * (2 * P) * m12) := by
  have f : 2 * P * (2 * P) * (2 * P) * (2 * P) * m13 = 16 * P * P * P * (P * m13) := by grind
  rw [f, e]
  grind
theorem tr_c14 {P T R m01 m12 m14 b p014 p124 : Int} (u1 : 4 * P * p014 = T * T) (u4 : 2 * P * P * p124 = 2 * P * R * R - R * T * T) (e : P * m14 = p124 * -m01 - b * 0 + p014 * m12) : 2 * P * (2 * P) * (2 * P) * (2 * P) * (2 * P) * m14 = -(-(4 * P * R) * -(4 * P * R) + 2 * -(4 * P * R) * T * T) * (2 * P * m01) + T * T * (2 * P * (2 * P) * (2 * P) * m12) := by
  have f : 2 * P * (2 * P) * (2 * P) * (2 * P) * (2 * P) * m14 = 32 * P * P * P * P * (P * m14) := by grind
  rw [f, e]
  grind
theorem tr_c23 {P T R m02 m12 m23 c p123 : Int} (u3 : P * P * p123 = 2 * P * T * R - T * T * T) (e : P * m23 = p123 * -m02 - R * -m12 + c * 0) : 2 * P * (2 * P) * (2 * P) * (2 * P) * (2 * P) * m23 = (8 * T * T * T + 4 * T * -(4 * P * R)) * (2 * P * (2 * P) * m02) - -(4 * P * R) * (2 * P * (2 * P) * (2 * P) * m12) := by
  have f : 2 * P * (2 * P) * (2 * P) * (2 * P) * (2 * P) * m23 = 32 * P * P * P * P * (P * m23) := by grind
  rw [f, e]
  grind
theorem tr_c24 {P T R m02 m12 m24 c p024 p124 : Int} (u2 : 8 * P * P * p024 = T * (4 * P * R - T * T)) (u4 : 2 * P * P * p124 = 2 * P * R * R - R * T * T) (e : P * m24 = p124 * -m02 - p024 * -m12 + c * 0) : 2 * P * (2 * P) * (2 * P) * (2 * P) * (2 * P) * (2 * P) * m24 = -(-(4 * P * R) * -(4 * P * R) + 2 * -(4 * P * R) * T * T) * (2 * P * (2 * P) * m02) - T * (-(4 * P * R) + T * T) * (2 * P * (2 * P) * (2 * P) * m12) := by
  have f : 2 * P * (2 * P) * (2 * P) * (2 * P) * (2 * P) * (2 * P) * m24 = 64 * P * P * P * P * P * (P * m24) := by grind
  rw [f, e]
  grind
theorem tr_c34 {P T R m01 m02 m12 m03 m13 m23 m34 p014 p024 p124 : Int} (u1 : 4 * P * p014 = T * T) (u2 : 8 * P * P * p024 = T * (4 * P * R - T * T)) (u4 : 2 * P * P * p124 = 2 * P * R * R - R * T * T) (c3 : 2 * P * (2 * P) * (2 * P) * m03 = -(4 * P * R) * (2 * P * m01) + 2 * T * (2 * P * (2 * P) * m02)) (c13 : 2 * P * (2 * P) * (2 * P) * (2 * P) * m13 = (8 * T * T * T + 4 * T * -(4 * P * R)) * (2 * P * m01) + 2 * T * (2 * P * (2 * P) * (2 * P) * m12)) (c23 : 2 * P * (2 * P) * (2 * P) * (2 * P) * (2 * P) * m23 = (8 * T * T * T + 4 * T * -(4 * P * R)) * (2 * P * (2 * P) * m02) - -(4 * P * R) * (2 * P * (2 * P) * (2 * P) * m12)) (e34 : P * m34 = p124 * -m03 - p024 * -m13 + p014 * -m23) : 2 * P * (2 * P) * (2 * P) * (2 * P) * (2 * P) * (2 * P) * (2 * P) * m34 = (-(8 * T * T * T + 4 * T * -(4 * P * R)) * (T * (-(4 * P * R) + T * T)) - -(4 * P * R) * (-(4 * P * R) * -(4 * P * R) + 2 * -(4 * P * R) * T * T)) * (2 * P * m01) + (-(8 * T * T * T + 4 * T * -(4 * P * R)) * (T * T) - 2 * T * (-(4 * P * R) * -(4 * P * R) + 2 * -(4 * P * R) * T * T)) * (2 * P * (2 * P) * m02) + (-(4 * P * R) * (T * T) - 2 * T * (T * (-(4 * P * R) + T * T))) * (2 * P * (2 * P) * (2 * P) * m12) := by
  have f : 2 * P * (2 * P) * (2 * P) * (2 * P) * (2 * P) * (2 * P) * (2 * P) * m34 = 128 * P * P * P * P * P * P * (P * m34) := by clear u1 u2 u4 c3 c13 c23 e34; grind
  have g : 128 * P * P * P * P * P * P * (p124 * -m03 - p024 * -m13 + p014 * -m23) = -(8 * P * (2 * P * P * p124)) * (2 * P * (2 * P) * (2 * P) * m03) + (8 * P * P * p024) * (2 * P * (2 * P) * (2 * P) * (2 * P) * m13) - (4 * P * p014) * (2 * P * (2 * P) * (2 * P) * (2 * P) * (2 * P) * m23) := by clear u1 u2 u4 c3 c13 c23 e34 f; grind
  rw [f, e34, g, c3, c13, c23, u1, u2, u4]
  clear u1 u2 u4 c3 c13 c23 e34 f g
  grind
theorem pw16 (c : Int) : c ^ 16 = c * c * c * c * c * c * c * c * (c * c * c * c * c * c * c * c) := by grind
/-- what is a square over the first three vectors -/
def GG0 (X Y W : Nat → Int) (x y w : Int) : Int := (-(4 * d3 X Y W 0 1 2 * d3 X Y W 0 2 3) + 3 * d3 X Y W 0 1 3 * d3 X Y W 0 1 3) * (-(4 * d3 X Y W 0 1 2 * d3 X Y W 0 2 3) + 3 * d3 X Y W 0 1 3 * d3 X Y W 0 1 3) * ((2 * d3 X Y W 0 1 2) * m3 X Y W x y w 0 1 * ((2 * d3 X Y W 0 1 2) * (2 * d3 X Y W 0 1 2) * (2 * d3 X Y W 0 1 2) * m3 X Y W x y w 1 2) - ((2 * d3 X Y W 0 1 2) * (2 * d3 X Y W 0 1 2) * m3 X Y W x y w 0 2) * ((2 * d3 X Y W 0 1 2) * (2 * d3 X Y W 0 1 2) * m3 X Y W x y w 0 2) + 2 * d3 X Y W 0 1 3 * ((2 * d3 X Y W 0 1 2) * m3 X Y W x y w 0 1) * ((2 * d3 X Y W 0 1 2) * (2 * d3 X Y W 0 1 2) * m3 X Y W x y w 0 2) + (2 * -(4 * d3 X Y W 0 1 2 * d3 X Y W 0 2 3) + 3 * d3 X Y W 0 1 3 * d3 X Y W 0 1 3) * ((2 * d3 X Y W 0 1 2) * m3 X Y W x y w 0 1) * ((2 * d3 X Y W 0 1 2) * m3 X Y W x y w 0 1))
theorem truth012 {X Y W : Nat → Int} (h : EA X Y W) (x y w : Int) : (2 * d3 X Y W 0 1 2) ^ 16 * FF X Y W x y w = GG0 X Y W x y w * GG0 X Y W x y w := by
  obtain ⟨hU, hZ, h5, h6⟩ := h
  have e03 := m3_cmb X Y W x y w 0 0 1 2 3 _ _ _ _ (cramX X Y W 0 1 2 3) (cramY X Y W 0 1 2 3) (cramW X Y W 0 1 2 3)
  have e04 := m3_cmb X Y W x y w 0 0 1 2 4 _ _ _ _ (cramX X Y W 0 1 2 4) (cramY X Y W 0 1 2 4) (cramW X Y W 0 1 2 4)
  have e13 := m3_cmb X Y W x y w 1 0 1 2 3 _ _ _ _ (cramX X Y W 0 1 2 3) (cramY X Y W 0 1 2 3) (cramW X Y W 0 1 2 3)
  have e14 := m3_cmb X Y W x y w 1 0 1 2 4 _ _ _ _ (cramX X Y W 0 1 2 4) (cramY X Y W 0 1 2 4) (cramW X Y W 0 1 2 4)
  have e23 := m3_cmb X Y W x y w 2 0 1 2 3 _ _ _ _ (cramX X Y W 0 1 2 3) (cramY X Y W 0 1 2 3) (cramW X Y W 0 1 2 3)
  have e24 := m3_cmb X Y W x y w 2 0 1 2 4 _ _ _ _ (cramX X Y W 0 1 2 4) (cramY X Y W 0 1 2 4) (cramW X Y W 0 1 2 4)
  have e34 := m3_cmb X Y W x y w 3 0 1 2 4 _ _ _ _ (cramX X Y W 0 1 2 4) (cramY X Y W 0 1 2 4) (cramW X Y W 0 1 2 4)
  rw [m3_anti X Y W x y w 3 0, m3_anti X Y W x y w 3 1, m3_anti X Y W x y w 3 2] at e34
  rw [m3_self] at e03 e04 e13 e14 e23 e24
  rw [m3_anti X Y W x y w 1 0] at e13 e14
  rw [m3_anti X Y W x y w 2 0, m3_anti X Y W x y w 2 1] at e23 e24
  unfold FF GG0
  generalize m3 X Y W x y w 0 1 = m01 at *
  generalize m3 X Y W x y w 0 2 = m02 at *
  generalize m3 X Y W x y w 0 3 = m03 at *
  generalize m3 X Y W x y w 0 4 = m04 at *
  generalize m3 X Y W x y w 1 2 = m12 at *
  generalize m3 X Y W x y w 1 3 = m13 at *
  generalize m3 X Y W x y w 1 4 = m14 at *
  generalize m3 X Y W x y w 2 3 = m23 at *
  generalize m3 X Y W x y w 2 4 = m24 at *
  generalize m3 X Y W x y w 3 4 = m34 at *
  generalize d3 X Y W 0 1 2 = P at *
  generalize d3 X Y W 0 1 3 = T at *
  generalize d3 X Y W 0 2 3 = R at *
  generalize d3 X Y W 0 1 4 = p014 at *
  generalize d3 X Y W 0 2 4 = p024 at *
  generalize d3 X Y W 1 2 3 = p123 at *
  generalize d3 X Y W 1 2 4 = p124 at *
  have u1 : 4 * P * p014 = T * T := by omega
  have u2 := tr_u2 u1 hZ
  have u3 := tr_u3 u1 h5
  have u4 := tr_u4 u1 h6
  have c3 := tr_c3 e03
  have c4 := tr_c4 u1 u2 e04
  have c13 := tr_c13 u3 e13
  have c14 := tr_c14 u1 u4 e14
  have c23 := tr_c23 u3 e23
  have c24 := tr_c24 u2 u4 e24
  have c34 := tr_c34 u1 u2 u4 c3 c13 c23 e34
  have hh := dS_sc (2 * P) m01 m02 m03 m04 (m03 + m12) (m04 + m13) m14 (m14 + m23) m24 m34
  rw [Int.mul_add, Int.mul_add, Int.mul_add, c3, c4, c13, c14, c23, c24, c34] at hh
  rw [dS_dbl T (-(4 * P * R)) (2 * P * m01) (2 * P * (2 * P) * m02) (2 * P * (2 * P) * (2 * P) * m12)] at hh
  rw [pw16, ← hh]
end
section
theorem m3_mod {n : Int} {X Y W : Nat → Int} {l : Nat} {x1 x2 x3 : Int} (h : cmb n X Y W l x1 x2 x3) (x y w : Int) (j : Nat) : n ∣ m3 X Y W x y w j l - (x1 * m3 X Y W x y w j 0 + x2 * m3 X Y W x y w j 1 + x3 * m3 X Y W x y w j 2) := by
  obtain ⟨⟨r1, h1⟩, ⟨r2, h2⟩, ⟨r3, h3⟩⟩ := h
  refine ⟨x * (Y j * r3 - W j * r2) - y * (X j * r3 - W j * r1) + w * (X j * r2 - Y j * r1), ?_⟩
  unfold m3
  generalize X l = xl at *
  generalize Y l = yl at *
  generalize W l = wl at *
  grind
theorem det4_dvd {D E a0 a1 a2 a3 b0 b1 b2 b3 c0 c1 c2 c3 d0 d1 d2 d3 : Int} (ha0 : D ∣ a0) (ha1 : D ∣ a1) (ha2 : D ∣ a2) (ha3 : D ∣ a3) (hb0 : D ∣ b0) (hb1 : D ∣ b1) (hb2 : D ∣ b2) (hb3 : D ∣ b3) (hc0 : E ∣ c0) (hc1 : E ∣ c1) (hc2 : E ∣ c2) (hc3 : E ∣ c3) (hd0 : E ∣ d0) (hd1 : E ∣ d1) (hd2 : E ∣ d2) (hd3 : E ∣ d3) : D * D * (E * E) ∣ det4 a0 a1 a2 a3 b0 b1 b2 b3 c0 c1 c2 c3 d0 d1 d2 d3 := by
  obtain ⟨A0, rfl⟩ := ha0
  obtain ⟨A1, rfl⟩ := ha1
  obtain ⟨A2, rfl⟩ := ha2
  obtain ⟨A3, rfl⟩ := ha3
  obtain ⟨B0, rfl⟩ := hb0
  obtain ⟨B1, rfl⟩ := hb1
  obtain ⟨B2, rfl⟩ := hb2
  obtain ⟨B3, rfl⟩ := hb3
  obtain ⟨C0, rfl⟩ := hc0
  obtain ⟨C1, rfl⟩ := hc1
  obtain ⟨C2, rfl⟩ := hc2
  obtain ⟨C3, rfl⟩ := hc3
  obtain ⟨D0, rfl⟩ := hd0
  obtain ⟨D1, rfl⟩ := hd1
  obtain ⟨D2, rfl⟩ := hd2
  obtain ⟨D3, rfl⟩ := hd3
  refine ⟨det4 A0 A1 A2 A3 B0 B1 B2 B3 C0 C1 C2 C3 D0 D1 D2 D3, ?_⟩
  unfold det4
  grind
theorem dS_row (x3 y3 a b c d e f g h i j : Int) : dS a b c d e f g h i j = det4 a b c d b e f g (c - x3 * b + (x3 * x3 - y3) * a) (f - x3 * e + (x3 * x3 - y3) * b) (h - x3 * f + (x3 * x3 - y3) * c) (i - x3 * g + (x3 * x3 - y3) * d) (d - y3 * b + x3 * y3 * a) (g - y3 * e + x3 * y3 * b) (i - y3 * f + x3 * y3 * c) (j - y3 * g + x3 * y3 * d) := by
  unfold dS det4
  grind
theorem near_F {X Y W : Nat → Int} {κ : Nat} {x1 x2 x3 y1 y2 y3 : Int} (h3 : cmb (2 ^ 64) X Y W 3 x1 x2 x3) (h4 : cmb (2 ^ 64) X Y W 4 y1 y2 y3) (hv : (2 ^ 5 : Int) ∣ vv x2 x3 y3) (hg : (2 ^ 5 : Int) ∣ y2 + x3 * y3) (h5 : (2 ^ 5 : Int) ∣ a5 x1 x2 x3 y2 y3) (h6 : (2 ^ 5 : Int) ∣ a6 x1 x2 x3 y1 y2 y3) (x y w : Int) (h01 : (2 ^ κ : Int) ∣ m3 X Y W x y w 0 1) (h02 : (2 ^ κ : Int) ∣ m3 X Y W x y w 0 2) (h12 : (2 ^ κ : Int) ∣ m3 X Y W x y w 1 2) (hκ : κ ≤ 50) : (2 ^ (4 * κ + 10) : Int) ∣ FF X Y W x y w := by
  have g03 := m3_mod h3 x y w 0
  have g13 := m3_mod h3 x y w 1
  have g23 := m3_mod h3 x y w 2
  have g04 := m3_mod h4 x y w 0
  have g14 := m3_mod h4 x y w 1
  have g24 := m3_mod h4 x y w 2
  have g34 := m3_mod h4 x y w 3
  rw [m3_anti X Y W x y w 3 0, m3_anti X Y W x y w 3 1, m3_anti X Y W x y w 3 2] at g34
  rw [m3_self] at g03 g04 g13 g14 g23 g24
  rw [m3_anti X Y W x y w 1 0] at g13 g14
  rw [m3_anti X Y W x y w 2 0, m3_anti X Y W x y w 2 1] at g23 g24
  unfold FF
  generalize m3 X Y W x y w 0 1 = m01 at *
  generalize m3 X Y W x y w 0 2 = m02 at *
  generalize m3 X Y W x y w 0 3 = m03 at *
  generalize m3 X Y W x y w 0 4 = m04 at *
  generalize m3 X Y W x y w 1 2 = m12 at *
  generalize m3 X Y W x y w 1 3 = m13 at *
  generalize m3 X Y W x y w 1 4 = m14 at *
  generalize m3 X Y W x y w 2 3 = m23 at *
  generalize m3 X Y W x y w 2 4 = m24 at *
  generalize m3 X Y W x y w 3 4 = m34 at *
  have k64 : ∀ {z : Int}, (2 ^ 64 : Int) ∣ z → (2 ^ (κ + 5) : Int) ∣ z := fun h => pw_le_dvd (by omega) h
  have kk : ∀ {z : Int}, (2 ^ (κ + 5) : Int) ∣ z → (2 ^ κ : Int) ∣ z := fun h => pw_le_dvd (by omega) h
  have g03 := k64 g03
  have g13 := k64 g13
  have g23 := k64 g23
  have g04 := k64 g04
  have g14 := k64 g14
  have g24 := k64 g24
  have g34 := k64 g34
  clear h3 h4 k64
  obtain ⟨q03, e03⟩ : ∃ q, q = m03 - (x1 * 0 + x2 * m01 + x3 * m02) := ⟨_, rfl⟩
  obtain ⟨q13, e13⟩ : ∃ q, q = m13 - (x1 * -m01 + x2 * 0 + x3 * m12) := ⟨_, rfl⟩
  obtain ⟨q23, e23⟩ : ∃ q, q = m23 - (x1 * -m02 + x2 * -m12 + x3 * 0) := ⟨_, rfl⟩
  obtain ⟨q04, e04⟩ : ∃ q, q = m04 - (y1 * 0 + y2 * m01 + y3 * m02) := ⟨_, rfl⟩
  obtain ⟨q14, e14⟩ : ∃ q, q = m14 - (y1 * -m01 + y2 * 0 + y3 * m12) := ⟨_, rfl⟩
  obtain ⟨q24, e24⟩ : ∃ q, q = m24 - (y1 * -m02 + y2 * -m12 + y3 * 0) := ⟨_, rfl⟩
  obtain ⟨q34, e34⟩ : ∃ q, q = m34 - (y1 * -m03 + y2 * -m13 + y3 * -m23) := ⟨_, rfl⟩
  rw [← e03] at g03
  rw [← e13] at g13
  rw [← e23] at g23
  rw [← e04] at g04
  rw [← e14] at g14
  rw [← e24] at g24
  rw [← e34] at g34
  have w03 : m03 = q03 + x2 * m01 + x3 * m02 := by omega
  have w13 : m13 = q13 - x1 * m01 + x3 * m12 := by rw [e13]; grind
  have w23 : m23 = q23 - x1 * m02 - x2 * m12 := by rw [e23]; grind
  have w04 : m04 = q04 + y2 * m01 + y3 * m02 := by omega
  have w14 : m14 = q14 - y1 * m01 + y3 * m12 := by rw [e14]; grind
  have w24 : m24 = q24 - y1 * m02 - y2 * m12 := by rw [e24]; grind
  have w34 : m34 = q34 - y1 * m03 - y2 * m13 - y3 * m23 := by rw [e34]; grind
  clear e03 e13 e23 e04 e14 e24 e34
  have d03 : (2 ^ κ : Int) ∣ m03 := by rw [w03]; exact Int.dvd_add (Int.dvd_add (kk g03) (dl _ h01)) (dl _ h02)
  have d13 : (2 ^ κ : Int) ∣ m13 := by rw [w13]; exact Int.dvd_add (Int.dvd_sub (kk g13) (dl _ h01)) (dl _ h12)
  have d04 : (2 ^ κ : Int) ∣ m04 := by rw [w04]; exact Int.dvd_add (Int.dvd_add (kk g04) (dl _ h01)) (dl _ h02)
  have d14 : (2 ^ κ : Int) ∣ m14 := by rw [w14]; exact Int.dvd_add (Int.dvd_sub (kk g14) (dl _ h01)) (dl _ h12)
  obtain ⟨G, eG⟩ : ∃ G, G = y2 + x3 * y3 := ⟨_, rfl⟩
  obtain ⟨V, eV⟩ : ∃ V, V = vv x2 x3 y3 := ⟨_, rfl⟩
  obtain ⟨F5, e5⟩ : ∃ F, F = a5 x1 x2 x3 y2 y3 := ⟨_, rfl⟩
  obtain ⟨F6, e6⟩ : ∃ F, F = a6 x1 x2 x3 y1 y2 y3 := ⟨_, rfl⟩
  rw [← eG] at hg
  rw [← eV] at hv
  rw [← e5] at h5
  rw [← e6] at h6
  have t1 : (2 ^ 5 : Int) ∣ 2 * x3 * V - G - F5 := Int.dvd_sub (Int.dvd_sub (dl _ hv) hg) h5
  have t2 : (2 ^ 5 : Int) ∣ 3 * x3 * V - 2 * G - F5 := Int.dvd_sub (Int.dvd_sub (dl _ hv) (dl _ hg)) h5
  have t3 : (2 ^ 5 : Int) ∣ 2 * x3 * F5 - F6 + 2 * x3 * G - (x2 + 3 * x3 * x3 - 2 * y3) * V := Int.dvd_sub (Int.dvd_add (Int.dvd_sub (dl _ h5) h6) (dl _ hg)) (dl _ hv)
  have t4 : (2 ^ 5 : Int) ∣ x3 * F5 - F6 + x3 * G - (V - 2 * y3) * V := Int.dvd_sub (Int.dvd_add (Int.dvd_sub (dl _ h5) h6) (dl _ hg)) (dl _ hv)
  have mm : ∀ {c z : Int}, (2 ^ 5 : Int) ∣ c → (2 ^ κ : Int) ∣ z → (2 ^ (κ + 5) : Int) ∣ c * z := fun hc hz => by
    rw [Int.mul_comm]
    exact dvd_mul2 hz hc
  have c4e : y1 = -(x3 * F5 - F6 + x3 * G - (V - 2 * y3) * V) + x3 * x3 * y3 - y3 * y3 := by
    rw [e5, e6, eG, eV]
    unfold a5 a6 vv
    grind
  have x1e : x1 = F5 + 2 * (G - x3 * y3) + 3 * x3 * y3 - 3 * x2 * x3 - 2 * x3 * x3 * x3 := by
    rw [e5, eG]
    unfold a5
    grind
  have y2e : y2 = G - x3 * y3 := by omega
  have x2e : x2 = V - x3 * x3 + y3 := by rw [eV]; unfold vv; omega
  have t5 := t4
  obtain ⟨C4, eC⟩ : ∃ C, C = x3 * F5 - F6 + x3 * G - (V - 2 * y3) * V := ⟨_, rfl⟩
  rw [← eC] at t4 c4e
  have r3e : 2 * x3 * F5 - F6 + 2 * x3 * G - (x2 + 3 * x3 * x3 - 2 * y3) * V = C4 + x3 * F5 + x3 * G - (x2 + 3 * x3 * x3 - V) * V := by rw [eC]; grind
  rw [r3e] at t3
  clear r3e t5 eC eV e5 e6 eG h6
  have pr : (2 ^ (4 * κ + 10) : Int) = 2 ^ κ * 2 ^ κ * (2 ^ (κ + 5) * 2 ^ (κ + 5)) := by
    rw [← Int.pow_add, ← Int.pow_add, ← Int.pow_add]
    congr 1
    omega
  rw [pr, dS_row x3 y3]
  refine det4_dvd h01 h02 d03 d04 h02 (Int.dvd_add d03 h12) (Int.dvd_add d04 d13) d14 ?_ ?_ ?_ ?_ ?_ ?_ ?_ ?_
  · have q : m03 - x3 * m02 + (x3 * x3 - y3) * m01 = q03 + V * m01 := by rw [w03, x2e]; grind
    rw [q]
    exact Int.dvd_add g03 (mm hv h01)
  · have q : m04 + m13 - x3 * (m03 + m12) + (x3 * x3 - y3) * m02 = q04 + q13 - x3 * q03 + (2 * x3 * V - G - F5) * m01 := by rw [w03, w04, w13, x1e, y2e, x2e]; grind
    rw [q]
    exact Int.dvd_add (Int.dvd_sub (Int.dvd_add g04 g13) (dl _ g03)) (mm t1 h01)
  · have q : m14 + m23 - x3 * (m04 + m13) + (x3 * x3 - y3) * m03 = q14 + q23 - x3 * q04 - x3 * q13 + (x3 * x3 - y3) * q03 - V * m12 + (3 * x3 * V - 2 * G - F5) * m02 + (C4 + x3 * F5 + x3 * G - (x2 + 3 * x3 * x3 - V) * V) * m01 := by rw [w03, w04, w13, w14, w23, c4e, x1e, y2e, x2e]; grind
    rw [q]
    exact Int.dvd_add (Int.dvd_add (Int.dvd_sub (Int.dvd_add (Int.dvd_sub (Int.dvd_sub (Int.dvd_add g14 g23) (dl _ g04)) (dl _ g13)) (dl _ g03)) (mm hv h12)) (mm t2 h02)) (mm t3 h01)
  · have q : m24 - x3 * m14 + (x3 * x3 - y3) * m04 = q24 - x3 * q14 + (x3 * x3 - y3) * q04 - G * m12 + C4 * m02 + ((x3 * x3 - y3) * G - x3 * C4) * m01 := by rw [w04, w14, w24, c4e, y2e]; grind
    rw [q]
    exact Int.dvd_add (Int.dvd_add (Int.dvd_sub (Int.dvd_add (Int.dvd_sub g24 (dl _ g14)) (dl _ g04)) (mm hg h12)) (mm t4 h02)) (mm (Int.dvd_sub (dl _ hg) (dl _ t4)) h01)
  · have q : m04 - y3 * m02 + x3 * y3 * m01 = q04 + G * m01 := by rw [w04, y2e]; grind
    rw [q]
    exact Int.dvd_add g04 (mm hg h01)
  · have q : m14 - y3 * (m03 + m12) + x3 * y3 * m02 = q14 - y3 * q03 + (C4 - y3 * V) * m01 := by rw [w03, w14, c4e, x2e]; grind
    rw [q]
    exact Int.dvd_add (Int.dvd_sub g14 (dl _ g03)) (mm (Int.dvd_sub t4 (dl _ hv)) h01)
  · have q : m24 - y3 * (m04 + m13) + x3 * y3 * m03 = q24 - y3 * q04 - y3 * q13 + x3 * y3 * q03 - G * m12 + C4 * m02 - y3 * (2 * x3 * V - G - F5) * m01 := by rw [w03, w04, w13, w24, c4e, x1e, y2e, x2e]; grind
    rw [q]
    exact Int.dvd_sub (Int.dvd_add (Int.dvd_sub (Int.dvd_add (Int.dvd_sub (Int.dvd_sub g24 (dl _ g04)) (dl _ g13)) (dl _ g03)) (mm hg h12)) (mm t4 h02)) (mm (dl _ t1) h01)
  · have q : m34 - y3 * m14 + x3 * y3 * m04 = q34 - y1 * q03 - y2 * q13 - y3 * q23 - y3 * q14 + x3 * y3 * q04 + (y3 * V - x3 * G) * m12 + (x3 * C4 - y3 * (3 * x3 * V - 2 * G - F5)) * m02 + ((V - x3 * x3) * C4 - y3 * (x3 * x3 - y3) * V + (x1 + x3 * y3) * G + x3 * y3 * (3 * x3 * V - 2 * G - F5)) * m01 := by
      rw [w34, w03, w04, w13, w14, w23, c4e, x1e, y2e, x2e]
      grind
    rw [q]
    exact Int.dvd_add (Int.dvd_add (Int.dvd_add (Int.dvd_add (Int.dvd_sub (Int.dvd_sub (Int.dvd_sub (Int.dvd_sub g34 (dl _ g03)) (dl _ g13)) (dl _ g23)) (dl _ g14)) (dl _ g04)) (mm (Int.dvd_sub (dl _ hv) (dl _ hg)) h12)) (mm (Int.dvd_sub (dl _ t4) (dl _ t2)) h02)) (mm (Int.dvd_add (Int.dvd_add (Int.dvd_sub (dl _ t4) (dl _ hv)) (dl _ hg)) (dl _ t2)) h01)
end
section
/-! where the curve meets itself: the sextic that is the determinant of nine quadratic entries -/
def hz0 (a000 a100 a200 a110 a210 a220 a111 a211 a221 a222 : Int) : Int := a000 * a110 * a220 - a000 * a210 * a210 - a100 * a100 * a220 + 2 * a100 * a200 * a210 - a110 * a200 * a200
def hz1 (a000 a100 a200 a110 a210 a220 a111 a211 a221 a222 : Int) : Int := a000 * a110 * a221 + a000 * a111 * a220 - 2 * a000 * a210 * a211 - a100 * a100 * a221 - a100 * a110 * a220 + 2 * a100 * a200 * a211 + a100 * a210 * a210 - a111 * a200 * a200
def hz2 (a000 a100 a200 a110 a210 a220 a111 a211 a221 a222 : Int) : Int := a000 * a110 * a222 + a000 * a111 * a221 - 2 * a000 * a210 * a221 - a000 * a211 * a211 + a000 * a211 * a220 - a100 * a100 * a222 - a100 * a110 * a221 + a100 * a111 * a220 + 2 * a100 * a200 * a221 - a110 * a110 * a220 + 2 * a110 * a200 * a211 - a110 * a200 * a220 + a110 * a210 * a210 - 2 * a111 * a200 * a210 - a200 * a200 * a211 + a200 * a210 * a210
def hz3 (a000 a100 a200 a110 a210 a220 a111 a211 a221 a222 : Int) : Int := a000 * a111 * a222 - a000 * a211 * a221 - a100 * a110 * a222 + a100 * a111 * a221 - 2 * a100 * a210 * a221 - a100 * a211 * a211 + 3 * a100 * a211 * a220 - a110 * a110 * a221 + 3 * a110 * a200 * a221 + 2 * a110 * a210 * a211 - 2 * a110 * a210 * a220 - a111 * a200 * a220 - a111 * a210 * a210 - 2 * a200 * a210 * a211 + 2 * a210 * a210 * a210
def hz4 (a000 a100 a200 a110 a210 a220 a111 a211 a221 a222 : Int) : Int := a000 * a211 * a222 - a000 * a221 * a221 + a100 * a111 * a222 - 2 * a100 * a210 * a222 - a100 * a211 * a221 + 2 * a100 * a220 * a221 - a110 * a110 * a222 + a110 * a200 * a222 + 2 * a110 * a211 * a220 - a110 * a220 * a220 + a111 * a200 * a221 - 2 * a111 * a210 * a220 - a200 * a211 * a211 - a200 * a211 * a220 + a210 * a210 * a211 + a210 * a210 * a220
def hz5 (a000 a100 a200 a110 a210 a220 a111 a211 a221 a222 : Int) : Int := a100 * a211 * a222 - a100 * a221 * a221 - 2 * a110 * a210 * a222 + 2 * a110 * a220 * a221 + a111 * a200 * a222 - a111 * a220 * a220 - a200 * a211 * a221 + a210 * a210 * a221
def hz6 (a000 a100 a200 a110 a210 a220 a111 a211 a221 a222 : Int) : Int := a200 * a211 * a222 - a200 * a221 * a221 - a210 * a210 * a222 + 2 * a210 * a220 * a221 - a211 * a220 * a220
theorem det4_col (p q r a0 a1 a2 b0 b1 b2 c0 c1 c2 d0 d1 d2 : Int) : det4 a0 a1 a2 (p * a0 + q * a1 + r * a2) b0 b1 b2 (p * b0 + q * b1 + r * b2) c0 c1 c2 (p * c0 + q * c1 + r * c2) d0 d1 d2 (p * d0 + q * d1 + r * d2) = 0 := by
  unfold det4
  grind
theorem det4_sc (s a0 a1 a2 a3 b0 b1 b2 b3 c0 c1 c2 c3 d0 d1 d2 d3 : Int) : det4 a0 a1 a2 (s * a3) b0 b1 b2 (s * b3) c0 c1 c2 (s * c3) d0 d1 d2 (s * d3) = s * det4 a0 a1 a2 a3 b0 b1 b2 b3 c0 c1 c2 c3 d0 d1 d2 d3 := by
  unfold det4
  grind
theorem k_zero {s p q r a b c d e f g h i j : Int} (hs : s ≠ 0) (h1 : s * d = p * a + q * b + r * c) (h2 : s * g = p * b + q * e + r * f) (h3 : s * i = p * c + q * f + r * h) (h4 : s * j = p * d + q * g + r * i) : dS a b c d e f g h i j = 0 := by
  have k1 := det4_sc s a b c d b e f g c f h i d g i j
  rw [h1, h2, h3, h4, det4_col] at k1
  rcases Int.mul_eq_zero.mp k1.symm with z | z
  · exact absurd z hs
  · exact z
theorem hc0 (x1 x2 x3 y1 y2 y3 : Int) : hz0 1 x3 y3 (y3 - x2) (-y2) (x2 * y3 - x3 * y2) (x1 - 2 * y2) (x2 * y3 - x3 * y2 + y1) (x3 * y1 - x1 * y3) (x1 * y2 - x2 * y1) = vv x2 x3 y3 * x3 * (y2 + x3 * y3) - vv x2 x3 y3 * vv x2 x3 y3 * y3 - (y2 + x3 * y3) * (y2 + x3 * y3) := by
  unfold hz0 vv
  grind
/-- the second factor is nothing -/
theorem hc2 (x1 x3 y1 y3 m01 m02 m12 : Int) : ∃ Q : Int, dS m01 m02 ((y3 - x3 * x3) * m01 + x3 * m02) (-(x3 * y3) * m01 + y3 * m02) ((y3 - x3 * x3) * m01 + x3 * m02 + m12) (-(x3 * y3) * m01 + y3 * m02 + (x3 * m12 - x1 * m01)) (y3 * m12 - y1 * m01) (y3 * m12 - y1 * m01 + (-(x1 * m02) - (y3 - x3 * x3) * m12)) (-(y1 * m02) - -(x3 * y3) * m12) ((x1 * -(x3 * y3) - (y3 - x3 * x3) * y1) * m01 + (x1 * y3 - x3 * y1) * m02 + ((y3 - x3 * x3) * y3 - x3 * -(x3 * y3)) * m12) = hz2 1 x3 y3 (y3 - (y3 - x3 * x3)) (-(-(x3 * y3))) ((y3 - x3 * x3) * y3 - x3 * -(x3 * y3)) (x1 - 2 * -(x3 * y3)) ((y3 - x3 * x3) * y3 - x3 * -(x3 * y3) + y1) (x3 * y1 - x1 * y3) (x1 * -(x3 * y3) - (y3 - x3 * x3) * y1) * Q := by
  refine ⟨(m01 * ((y3 - x3 * x3) * m01 + x3 * m02 + m12 - x3 * m02) - (m02 - x3 * m01) * m02) * ((m02 - x3 * m01) * (m02 - x3 * m01)) - (m01 * (-(x3 * y3) * m01 + y3 * m02 + (x3 * m12 - x1 * m01) - x3 * ((y3 - x3 * x3) * m01 + x3 * m02)) - (m02 - x3 * m01) * ((y3 - x3 * x3) * m01 + x3 * m02)) * (m01 * (m02 - x3 * m01)) + (m01 * (y3 * m12 - y1 * m01 - x3 * (-(x3 * y3) * m01 + y3 * m02)) - (m02 - x3 * m01) * (-(x3 * y3) * m01 + y3 * m02)) * (m01 * m01), ?_⟩
  unfold dS det4 hz2
  grind
end
section
theorem hc1 {V g x1 y1 x3 y3 : Int} (h0 : V * x3 * g - V * V * y3 - g * g = 0) : V * V * V * V * hz1 1 x3 y3 (y3 - (V - x3 * x3 + y3)) (-(g - x3 * y3)) ((V - x3 * x3 + y3) * y3 - x3 * (g - x3 * y3)) (x1 - 2 * (g - x3 * y3)) ((V - x3 * x3 + y3) * y3 - x3 * (g - x3 * y3) + y1) (x3 * y1 - x1 * y3) (x1 * (g - x3 * y3) - (V - x3 * x3 + y3) * y1) = (2 * g - x3 * V) * (g * g * g * g - x1 * g * V * V * V + y1 * V * V * V * V) := by
  unfold hz1
  grind
theorem hrow0 (V g x1 y1 x3 y3 m01 m02 m12 : Int) : (V * V * V * V * V * V) * ((g - x3 * y3) * m01 + y3 * m02) = (g * g * g * (V * V * V)) * m01 + (-(g * g * (V * V * V * V))) * m02 + (g * (V * V * V * V * V)) * ((V - x3 * x3 + y3) * m01 + x3 * m02) + (((0) * (g * g * g * g - x1 * g * V * V * V + y1 * V * V * V * V) + (V * V * V * V * x3 + V * V * V * g) * (V * x3 * g - V * V * y3 - g * g)) * m01 + ((0) * (g * g * g * g - x1 * g * V * V * V + y1 * V * V * V * V) + (-(V * V * V * V)) * (V * x3 * g - V * V * y3 - g * g)) * m02 + ((0) * (g * g * g * g - x1 * g * V * V * V + y1 * V * V * V * V) + (0) * (V * x3 * g - V * V * y3 - g * g)) * m12) := by grind
theorem hrow1 (V g x1 y1 x3 y3 m01 m02 m12 : Int) : (V * V * V * V * V * V) * (y3 * m12 - y1 * m01) = (g * g * g * (V * V * V)) * m02 + (-(g * g * (V * V * V * V))) * ((V - x3 * x3 + y3) * m01 + x3 * m02 + m12) + (g * (V * V * V * V * V)) * ((g - x3 * y3) * m01 + y3 * m02 + (x3 * m12 - x1 * m01)) + (((-(V * V)) * (g * g * g * g - x1 * g * V * V * V + y1 * V * V * V * V) + (-(V * V * V * g * x3) - V * V * g * g) * (V * x3 * g - V * V * y3 - g * g)) * m01 + ((0) * (g * g * g * g - x1 * g * V * V * V + y1 * V * V * V * V) + (V * V * V * g) * (V * x3 * g - V * V * y3 - g * g)) * m02 + ((0) * (g * g * g * g - x1 * g * V * V * V + y1 * V * V * V * V) + (-(V * V * V * V)) * (V * x3 * g - V * V * y3 - g * g)) * m12) := by grind
theorem hrow2 (V g x1 y1 x3 y3 m01 m02 m12 : Int) : (V * V * V * V * V * V) * (-(y1 * m02) - (g - x3 * y3) * m12) = (g * g * g * (V * V * V)) * ((V - x3 * x3 + y3) * m01 + x3 * m02) + (-(g * g * (V * V * V * V))) * ((g - x3 * y3) * m01 + y3 * m02 + (x3 * m12 - x1 * m01)) + (g * (V * V * V * V * V)) * (y3 * m12 - y1 * m01 + (-(x1 * m02) - (V - x3 * x3 + y3) * m12)) + (((V * g) * (g * g * g * g - x1 * g * V * V * V + y1 * V * V * V * V) + (V * V * g * g * x3 + V * g * g * g) * (V * x3 * g - V * V * y3 - g * g)) * m01 + ((-(V * V)) * (g * g * g * g - x1 * g * V * V * V + y1 * V * V * V * V) + (-(V * V * g * g)) * (V * x3 * g - V * V * y3 - g * g)) * m02 + ((0) * (g * g * g * g - x1 * g * V * V * V + y1 * V * V * V * V) + (-(V * V * V * V * x3)) * (V * x3 * g - V * V * y3 - g * g)) * m12) := by grind
theorem hrow3 (V g x1 y1 x3 y3 m01 m02 m12 : Int) : (V * V * V * V * V * V) * ((x1 * (g - x3 * y3) - (V - x3 * x3 + y3) * y1) * m01 + (x1 * y3 - x3 * y1) * m02 + ((V - x3 * x3 + y3) * y3 - x3 * (g - x3 * y3)) * m12) = (g * g * g * (V * V * V)) * ((g - x3 * y3) * m01 + y3 * m02) + (-(g * g * (V * V * V * V))) * (y3 * m12 - y1 * m01) + (g * (V * V * V * V * V)) * (-(y1 * m02) - (g - x3 * y3) * m12) + (((-(V * V * V) + V * V * x3 * x3 - V * V * y3 - g * g) * (g * g * g * g - x1 * g * V * V * V + y1 * V * V * V * V) + (V * V * V * V * x1 * x3 + V * V * V * g * x1 - V * g * g * g * x3 - g * g * g * g) * (V * x3 * g - V * V * y3 - g * g)) * m01 + ((-(V * V * x3) + V * g) * (g * g * g * g - x1 * g * V * V * V + y1 * V * V * V * V) + (-(V * V * V * V * x1) + V * g * g * g) * (V * x3 * g - V * V * y3 - g * g)) * m02 + ((0) * (g * g * g * g - x1 * g * V * V * V + y1 * V * V * V * V) + (-(V * V * V * V * V) - V * V * V * V * y3) * (V * x3 * g - V * V * y3 - g * g)) * m12) := by grind
theorem hc1k {V g x1 y1 x3 y3 : Int} (h0 : V * x3 * g - V * V * y3 - g * g = 0) (hp : g * g * g * g - x1 * g * V * V * V + y1 * V * V * V * V = 0) (hV : V ≠ 0) (m01 m02 m12 : Int) : dS m01 m02 ((V - x3 * x3 + y3) * m01 + x3 * m02) ((g - x3 * y3) * m01 + y3 * m02) ((V - x3 * x3 + y3) * m01 + x3 * m02 + m12) ((g - x3 * y3) * m01 + y3 * m02 + (x3 * m12 - x1 * m01)) (y3 * m12 - y1 * m01) (y3 * m12 - y1 * m01 + (-(x1 * m02) - (V - x3 * x3 + y3) * m12)) (-(y1 * m02) - (g - x3 * y3) * m12) ((x1 * (g - x3 * y3) - (V - x3 * x3 + y3) * y1) * m01 + (x1 * y3 - x3 * y1) * m02 + ((V - x3 * x3 + y3) * y3 - x3 * (g - x3 * y3)) * m12) = 0 := by
  have hs : V * V * V * V * V * V ≠ 0 := Int.mul_ne_zero (Int.mul_ne_zero (Int.mul_ne_zero (Int.mul_ne_zero (Int.mul_ne_zero hV hV) hV) hV) hV) hV
  refine k_zero (s := (V * V * V * V * V * V)) (p := (g * g * g * (V * V * V))) (q := (-(g * g * (V * V * V * V)))) (r := (g * (V * V * V * V * V))) hs ?_ ?_ ?_ ?_
  · rw [hrow0 V g x1 y1 x3 y3 m01 m02 m12, h0, hp]
    simp only [Int.mul_zero, Int.add_zero, Int.zero_mul]
  · rw [hrow1 V g x1 y1 x3 y3 m01 m02 m12, h0, hp]
    simp only [Int.mul_zero, Int.add_zero, Int.zero_mul]
  · rw [hrow2 V g x1 y1 x3 y3 m01 m02 m12, h0, hp]
    simp only [Int.mul_zero, Int.add_zero, Int.zero_mul]
  · rw [hrow3 V g x1 y1 x3 y3 m01 m02 m12, h0, hp]
    simp only [Int.mul_zero, Int.add_zero, Int.zero_mul]
theorem hc2l (V t x1 y1 : Int) : hz2 1 (2 * t) (t * t) ((t * t) - (V - (2 * t) * (2 * t) + (t * t))) (-((t * V) - (2 * t) * (t * t))) ((V - (2 * t) * (2 * t) + (t * t)) * (t * t) - (2 * t) * ((t * V) - (2 * t) * (t * t))) (x1 - 2 * ((t * V) - (2 * t) * (t * t))) ((V - (2 * t) * (2 * t) + (t * t)) * (t * t) - (2 * t) * ((t * V) - (2 * t) * (t * t)) + y1) ((2 * t) * y1 - x1 * (t * t)) (x1 * ((t * V) - (2 * t) * (t * t)) - (V - (2 * t) * (2 * t) + (t * t)) * y1) = (t * t * t * t - x1 * t + y1) * (V * V - (t * t * t * t - x1 * t + y1)) := by
  unfold hz2
  grind
theorem hc3l (V t x1 : Int) : hz3 1 (2 * t) (t * t) ((t * t) - (V - (2 * t) * (2 * t) + (t * t))) (-((t * V) - (2 * t) * (t * t))) ((V - (2 * t) * (2 * t) + (t * t)) * (t * t) - (2 * t) * ((t * V) - (2 * t) * (t * t))) (x1 - 2 * ((t * V) - (2 * t) * (t * t))) ((V - (2 * t) * (2 * t) + (t * t)) * (t * t) - (2 * t) * ((t * V) - (2 * t) * (t * t)) + (V * V - t * t * t * t + x1 * t)) ((2 * t) * (V * V - t * t * t * t + x1 * t) - x1 * (t * t)) (x1 * ((t * V) - (2 * t) * (t * t)) - (V - (2 * t) * (2 * t) + (t * t)) * (V * V - t * t * t * t + x1 * t)) = -(V * V * V) * (x1 + 4 * (2 * t) * (t * t) + 2 * (2 * t) * (V - 2 * t * (2 * t) + t * t)) := by
  unfold hz3
  grind
theorem chart_zero {x1 x2 x3 y1 y2 y3 : Int} (h0 : hz0 1 x3 y3 (y3 - x2) (-y2) (x2 * y3 - x3 * y2) (x1 - 2 * y2) (x2 * y3 - x3 * y2 + y1) (x3 * y1 - x1 * y3) (x1 * y2 - x2 * y1) = 0) (h1 : hz1 1 x3 y3 (y3 - x2) (-y2) (x2 * y3 - x3 * y2) (x1 - 2 * y2) (x2 * y3 - x3 * y2 + y1) (x3 * y1 - x1 * y3) (x1 * y2 - x2 * y1) = 0) (h2 : hz2 1 x3 y3 (y3 - x2) (-y2) (x2 * y3 - x3 * y2) (x1 - 2 * y2) (x2 * y3 - x3 * y2 + y1) (x3 * y1 - x1 * y3) (x1 * y2 - x2 * y1) = 0) (h3 : hz3 1 x3 y3 (y3 - x2) (-y2) (x2 * y3 - x3 * y2) (x1 - 2 * y2) (x2 * y3 - x3 * y2 + y1) (x3 * y1 - x1 * y3) (x1 * y2 - x2 * y1) = 0) : (uu4 x3 y3 = 0 ∧ x3 * (x2 + y3) = 2 * y2 ∧ x1 + 4 * x3 * y3 + 2 * x3 * x2 = 0 ∧ y1 = x2 * x2 + 2 * x2 * y3) ∨ ∀ m01 m02 m12 : Int, dS m01 m02 (x2 * m01 + x3 * m02) (y2 * m01 + y3 * m02) (x2 * m01 + x3 * m02 + m12) (y2 * m01 + y3 * m02 + (x3 * m12 - x1 * m01)) (y3 * m12 - y1 * m01) (y3 * m12 - y1 * m01 + (-(x1 * m02) - x2 * m12)) (-(y1 * m02) - y2 * m12) ((x1 * y2 - x2 * y1) * m01 + (x1 * y3 - x3 * y1) * m02 + (x2 * y3 - x3 * y2) * m12) = 0 := by
  rw [hc0] at h0
  by_cases hv : vv x2 x3 y3 = 0
  · right
    intro m01 m02 m12
    rw [hv] at h0
    have hg : y2 + x3 * y3 = 0 := by
      have : (y2 + x3 * y3) * (y2 + x3 * y3) = 0 := by simp only [Int.zero_mul] at h0; omega
      rcases Int.mul_eq_zero.mp this with z | z <;> exact z
    have e1 : x2 = y3 - x3 * x3 := by unfold vv at hv; omega
    have e2 : y2 = -(x3 * y3) := by omega
    subst e1
    subst e2
    obtain ⟨Q, hQ⟩ := hc2 x1 x3 y1 y3 m01 m02 m12
    rw [hQ, h2, Int.zero_mul]
  · obtain ⟨V, eV⟩ : ∃ V, V = vv x2 x3 y3 := ⟨_, rfl⟩
    obtain ⟨g, eg⟩ : ∃ g, g = y2 + x3 * y3 := ⟨_, rfl⟩
    rw [← eV, ← eg] at h0
    rw [← eV] at hv
    have e1 : x2 = V - x3 * x3 + y3 := by rw [eV]; unfold vv; omega
    have e2 : y2 = g - x3 * y3 := by omega
    subst e1
    subst e2
    have k1 := hc1 (x1 := x1) (y1 := y1) h0
    rw [h1, Int.mul_zero] at k1
    rcases Int.mul_eq_zero.mp k1.symm with z | z
    · by_cases hp : g * g * g * g - x1 * g * V * V * V + y1 * V * V * V * V = 0
      · exact Or.inr (hc1k h0 hp hv)
      · left
        have hu : (4 * y3 - x3 * x3) * (V * V) = 0 := by
          have z2 : 2 * g = x3 * V := by omega
          have q : (4 * y3 - x3 * x3) * (V * V) = -4 * (V * x3 * g - V * V * y3 - g * g) + 2 * V * x3 * (2 * g) - (2 * g) * (2 * g) - x3 * x3 * V * V := by grind
          rw [q, h0, z2]
          grind
        have hu2 : 4 * y3 - x3 * x3 = 0 := by
          rcases Int.mul_eq_zero.mp hu with w | w
          · exact w
          · rcases Int.mul_eq_zero.mp w with w | w <;> exact absurd w hv
        obtain ⟨t, ht⟩ := sq_even (x := x3) ⟨2 * y3, by omega⟩
        have ey : y3 = t * t := by
          have : 4 * y3 = 4 * (t * t) := by rw [ht] at hu2; grind
          omega
        have egt : g = t * V := by
          have : 2 * g = 2 * (t * V) := by rw [ht] at z; grind
          omega
        subst ht
        subst ey
        subst egt
        rw [hc2l] at h2
        have hph : t * t * t * t - x1 * t + y1 ≠ 0 := fun w => hp (by
          have q : t * V * (t * V) * (t * V) * (t * V) - x1 * (t * V) * V * V * V + y1 * V * V * V * V = (t * t * t * t - x1 * t + y1) * (V * V * V * V) := by grind
          rw [q, w, Int.zero_mul])
        rcases Int.mul_eq_zero.mp h2 with w | w
        · exact absurd w hph
        · have ey1 : y1 = V * V - t * t * t * t + x1 * t := by omega
          subst ey1
          rw [hc3l] at h3
          have q5 : x1 + 4 * (2 * t) * (t * t) + 2 * (2 * t) * (V - 2 * t * (2 * t) + t * t) = 0 := by
            rcases Int.mul_eq_zero.mp h3 with w | w
            · exfalso
              have w1 : V * V * V = 0 := by omega
              rcases Int.mul_eq_zero.mp w1 with w2 | w2
              · rcases Int.mul_eq_zero.mp w2 with w2 | w2 <;> exact hv w2
              · exact hv w2
            · exact w
          refine ⟨hu2, by grind, q5, ?_⟩
          have ex : x1 = -(4 * (2 * t) * (t * t) + 2 * (2 * t) * (V - 2 * t * (2 * t) + t * t)) := by omega
          rw [ex]
          grind
    · exact Or.inr (hc1k h0 z hv)
end
section
def hP (k : Nat) (X Y W : Nat → Int) : Int := match k with
  | 0 => hz0 (d3 X Y W 0 1 2) (d3 X Y W 0 1 3) (d3 X Y W 0 1 4) (d3 X Y W 0 1 4 + d3 X Y W 0 2 3) (d3 X Y W 0 2 4) (d3 X Y W 0 3 4) (2 * d3 X Y W 0 2 4 + d3 X Y W 1 2 3) (d3 X Y W 0 3 4 + d3 X Y W 1 2 4) (d3 X Y W 1 3 4) (d3 X Y W 2 3 4)
  | 1 => hz1 (d3 X Y W 0 1 2) (d3 X Y W 0 1 3) (d3 X Y W 0 1 4) (d3 X Y W 0 1 4 + d3 X Y W 0 2 3) (d3 X Y W 0 2 4) (d3 X Y W 0 3 4) (2 * d3 X Y W 0 2 4 + d3 X Y W 1 2 3) (d3 X Y W 0 3 4 + d3 X Y W 1 2 4) (d3 X Y W 1 3 4) (d3 X Y W 2 3 4)
  | 2 => hz2 (d3 X Y W 0 1 2) (d3 X Y W 0 1 3) (d3 X Y W 0 1 4) (d3 X Y W 0 1 4 + d3 X Y W 0 2 3) (d3 X Y W 0 2 4) (d3 X Y W 0 3 4) (2 * d3 X Y W 0 2 4 + d3 X Y W 1 2 3) (d3 X Y W 0 3 4 + d3 X Y W 1 2 4) (d3 X Y W 1 3 4) (d3 X Y W 2 3 4)
  | 3 => hz3 (d3 X Y W 0 1 2) (d3 X Y W 0 1 3) (d3 X Y W 0 1 4) (d3 X Y W 0 1 4 + d3 X Y W 0 2 3) (d3 X Y W 0 2 4) (d3 X Y W 0 3 4) (2 * d3 X Y W 0 2 4 + d3 X Y W 1 2 3) (d3 X Y W 0 3 4 + d3 X Y W 1 2 4) (d3 X Y W 1 3 4) (d3 X Y W 2 3 4)
  | 4 => hz4 (d3 X Y W 0 1 2) (d3 X Y W 0 1 3) (d3 X Y W 0 1 4) (d3 X Y W 0 1 4 + d3 X Y W 0 2 3) (d3 X Y W 0 2 4) (d3 X Y W 0 3 4) (2 * d3 X Y W 0 2 4 + d3 X Y W 1 2 3) (d3 X Y W 0 3 4 + d3 X Y W 1 2 4) (d3 X Y W 1 3 4) (d3 X Y W 2 3 4)
  | 5 => hz5 (d3 X Y W 0 1 2) (d3 X Y W 0 1 3) (d3 X Y W 0 1 4) (d3 X Y W 0 1 4 + d3 X Y W 0 2 3) (d3 X Y W 0 2 4) (d3 X Y W 0 3 4) (2 * d3 X Y W 0 2 4 + d3 X Y W 1 2 3) (d3 X Y W 0 3 4 + d3 X Y W 1 2 4) (d3 X Y W 1 3 4) (d3 X Y W 2 3 4)
  | _ => hz6 (d3 X Y W 0 1 2) (d3 X Y W 0 1 3) (d3 X Y W 0 1 4) (d3 X Y W 0 1 4 + d3 X Y W 0 2 3) (d3 X Y W 0 2 4) (d3 X Y W 0 3 4) (2 * d3 X Y W 0 2 4 + d3 X Y W 1 2 3) (d3 X Y W 0 3 4 + d3 X Y W 1 2 4) (d3 X Y W 1 3 4) (d3 X Y W 2 3 4)
theorem hz0_w (c a000 a100 a200 a110 a210 a220 a111 a211 a221 a222 : Int) : hz0 a000 (c * a100) (c * c * a200) (c * c * a110) (c * c * c * a210) (c * c * c * c * a220) (c * c * c * a111) (c * c * c * c * a211) (c * c * c * c * c * a221) (c * c * c * c * c * c * a222) = c * c * c * c * c * c * hz0 a000 a100 a200 a110 a210 a220 a111 a211 a221 a222 := by
  unfold hz0
  grind
theorem hz0_s (c a000 a100 a200 a110 a210 a220 a111 a211 a221 a222 : Int) : hz0 (c * a000) (c * a100) (c * a200) (c * a110) (c * a210) (c * a220) (c * a111) (c * a211) (c * a221) (c * a222) = c * c * c * hz0 a000 a100 a200 a110 a210 a220 a111 a211 a221 a222 := by
  unfold hz0
  grind
theorem hz1_w (c a000 a100 a200 a110 a210 a220 a111 a211 a221 a222 : Int) : hz1 a000 (c * a100) (c * c * a200) (c * c * a110) (c * c * c * a210) (c * c * c * c * a220) (c * c * c * a111) (c * c * c * c * a211) (c * c * c * c * c * a221) (c * c * c * c * c * c * a222) = c * c * c * c * c * c * c * hz1 a000 a100 a200 a110 a210 a220 a111 a211 a221 a222 := by
  unfold hz1
  grind
theorem hz1_s (c a000 a100 a200 a110 a210 a220 a111 a211 a221 a222 : Int) : hz1 (c * a000) (c * a100) (c * a200) (c * a110) (c * a210) (c * a220) (c * a111) (c * a211) (c * a221) (c * a222) = c * c * c * hz1 a000 a100 a200 a110 a210 a220 a111 a211 a221 a222 := by
  unfold hz1
  grind
theorem hz2_w (c a000 a100 a200 a110 a210 a220 a111 a211 a221 a222 : Int) : hz2 a000 (c * a100) (c * c * a200) (c * c * a110) (c * c * c * a210) (c * c * c * c * a220) (c * c * c * a111) (c * c * c * c * a211) (c * c * c * c * c * a221) (c * c * c * c * c * c * a222) = c * c * c * c * c * c * c * c * hz2 a000 a100 a200 a110 a210 a220 a111 a211 a221 a222 := by
  unfold hz2
  grind
theorem hz2_s (c a000 a100 a200 a110 a210 a220 a111 a211 a221 a222 : Int) : hz2 (c * a000) (c * a100) (c * a200) (c * a110) (c * a210) (c * a220) (c * a111) (c * a211) (c * a221) (c * a222) = c * c * c * hz2 a000 a100 a200 a110 a210 a220 a111 a211 a221 a222 := by
  unfold hz2
  grind
theorem hz3_w (c a000 a100 a200 a110 a210 a220 a111 a211 a221 a222 : Int) : hz3 a000 (c * a100) (c * c * a200) (c * c * a110) (c * c * c * a210) (c * c * c * c * a220) (c * c * c * a111) (c * c * c * c * a211) (c * c * c * c * c * a221) (c * c * c * c * c * c * a222) = c * c * c * c * c * c * c * c * c * hz3 a000 a100 a200 a110 a210 a220 a111 a211 a221 a222 := by
  unfold hz3
  grind
theorem hz3_s (c a000 a100 a200 a110 a210 a220 a111 a211 a221 a222 : Int) : hz3 (c * a000) (c * a100) (c * a200) (c * a110) (c * a210) (c * a220) (c * a111) (c * a211) (c * a221) (c * a222) = c * c * c * hz3 a000 a100 a200 a110 a210 a220 a111 a211 a221 a222 := by
  unfold hz3
  grind
theorem plk034 (X Y W : Nat → Int) : d3 X Y W 0 1 2 * d3 X Y W 0 3 4 = d3 X Y W 0 1 3 * d3 X Y W 0 2 4 - d3 X Y W 0 2 3 * d3 X Y W 0 1 4 := by
  unfold d3
  grind
theorem plk134 (X Y W : Nat → Int) : d3 X Y W 0 1 2 * d3 X Y W 1 3 4 = d3 X Y W 0 1 3 * d3 X Y W 1 2 4 - d3 X Y W 1 2 3 * d3 X Y W 0 1 4 := by
  unfold d3
  grind
theorem plk234 (X Y W : Nat → Int) : d3 X Y W 0 1 2 * d3 X Y W 2 3 4 = d3 X Y W 0 2 3 * d3 X Y W 1 2 4 - d3 X Y W 1 2 3 * d3 X Y W 0 2 4 := by
  unfold d3
  grind
theorem ch_exact {P T R p014 p024 p034 p123 p124 p134 p234 : Int} (hP : P ≠ 0) (k1 : P * p034 = T * p024 - R * p014) (k2 : P * p134 = T * p124 - p123 * p014) (k3 : P * p234 = R * p124 - p123 * p024) (g0 : hz0 P T p014 (p014 + R) p024 p034 (2 * p024 + p123) (p034 + p124) p134 p234 = 0) (g1 : hz1 P T p014 (p014 + R) p024 p034 (2 * p024 + p123) (p034 + p124) p134 p234 = 0) (g2 : hz2 P T p014 (p014 + R) p024 p034 (2 * p024 + p123) (p034 + p124) p134 p234 = 0) (g3 : hz3 P T p014 (p014 + R) p024 p034 (2 * p024 + p123) (p034 + p124) p134 p234 = 0) : (4 * P * p014 - T * T = 0 ∧ T * p014 - T * R + 2 * P * p024 = 0 ∧ P * p123 + 4 * T * p014 - 2 * T * R = 0 ∧ P * p124 - R * R + 2 * R * p014 = 0) ∨ ∀ m01 m02 m12 : Int, dS m01 m02 ((-(P * R)) * m01 + T * m02) ((-(P * P * p024)) * m01 + (P * p014) * m02) ((-(P * R)) * m01 + T * m02 + m12) ((-(P * P * p024)) * m01 + (P * p014) * m02 + (T * m12 - (P * P * p123) * m01)) ((P * p014) * m12 - (P * P * P * p124) * m01) ((P * p014) * m12 - (P * P * P * p124) * m01 + (-((P * P * p123) * m02) - (-(P * R)) * m12)) (-((P * P * P * p124) * m02) - (-(P * P * p024)) * m12) (((P * P * p123) * (-(P * P * p024)) - (-(P * R)) * (P * P * P * p124)) * m01 + ((P * P * p123) * (P * p014) - T * (P * P * P * p124)) * m02 + ((-(P * R)) * (P * p014) - T * (-(P * P * p024))) * m12) = 0 := by
  have hP3 : P * P * P ≠ 0 := Int.mul_ne_zero (Int.mul_ne_zero hP hP) hP
  have s0 : P = P * 1 := by grind
  have s1 : P * T = P * T := by grind
  have s2 : P * P * p014 = P * (P * p014) := by grind
  have s3 : P * P * (p014 + R) = P * ((P * p014) - (-(P * R))) := by grind
  have s4 : P * P * P * p024 = P * (-(-(P * P * p024))) := by grind
  have s5 : P * P * P * P * p034 = P * ((-(P * R)) * (P * p014) - T * (-(P * P * p024))) := by rw [show P * P * P * P * p034 = P * P * P * (P * p034) by grind]; rw [k1]; grind
  have s6 : P * P * P * (2 * p024 + p123) = P * ((P * P * p123) - 2 * (-(P * P * p024))) := by grind
  have s7 : P * P * P * P * (p034 + p124) = P * ((-(P * R)) * (P * p014) - T * (-(P * P * p024)) + (P * P * P * p124)) := by rw [show P * P * P * P * (p034 + p124) = P * P * P * (P * p034) + P * P * P * P * p124 by grind, k1]; grind
  have s8 : P * P * P * P * P * p134 = P * (T * (P * P * P * p124) - (P * P * p123) * (P * p014)) := by rw [show P * P * P * P * P * p134 = P * P * P * P * (P * p134) by grind]; rw [k2]; grind
  have s9 : P * P * P * P * P * P * p234 = P * ((P * P * p123) * (-(P * P * p024)) - (-(P * R)) * (P * P * P * p124)) := by rw [show P * P * P * P * P * P * p234 = P * P * P * P * P * (P * p234) by grind]; rw [k3]; grind
  have w0 : hz0 1 T (P * p014) ((P * p014) - (-(P * R))) (-(-(P * P * p024))) ((-(P * R)) * (P * p014) - T * (-(P * P * p024))) ((P * P * p123) - 2 * (-(P * P * p024))) ((-(P * R)) * (P * p014) - T * (-(P * P * p024)) + (P * P * P * p124)) (T * (P * P * P * p124) - (P * P * p123) * (P * p014)) ((P * P * p123) * (-(P * P * p024)) - (-(P * R)) * (P * P * P * p124)) = 0 := by
    have q1 := hz0_w P P T p014 (p014 + R) p024 p034 (2 * p024 + p123) (p034 + p124) p134 p234
    rw [g0, Int.mul_zero, s1, s2, s3, s4, s5, s6, s7, s8, s9] at q1
    have q2 := hz0_s P 1 T (P * p014) ((P * p014) - (-(P * R))) (-(-(P * P * p024))) ((-(P * R)) * (P * p014) - T * (-(P * P * p024))) ((P * P * p123) - 2 * (-(P * P * p024))) ((-(P * R)) * (P * p014) - T * (-(P * P * p024)) + (P * P * P * p124)) (T * (P * P * P * p124) - (P * P * p123) * (P * p014)) ((P * P * p123) * (-(P * P * p024)) - (-(P * R)) * (P * P * P * p124))
    rw [Int.mul_one] at q2
    rw [q1] at q2
    rcases Int.mul_eq_zero.mp q2.symm with z | z
    · exact absurd z hP3
    · exact z
  have w1 : hz1 1 T (P * p014) ((P * p014) - (-(P * R))) (-(-(P * P * p024))) ((-(P * R)) * (P * p014) - T * (-(P * P * p024))) ((P * P * p123) - 2 * (-(P * P * p024))) ((-(P * R)) * (P * p014) - T * (-(P * P * p024)) + (P * P * P * p124)) (T * (P * P * P * p124) - (P * P * p123) * (P * p014)) ((P * P * p123) * (-(P * P * p024)) - (-(P * R)) * (P * P * P * p124)) = 0 := by
    have q1 := hz1_w P P T p014 (p014 + R) p024 p034 (2 * p024 + p123) (p034 + p124) p134 p234
    rw [g1, Int.mul_zero, s1, s2, s3, s4, s5, s6, s7, s8, s9] at q1
    have q2 := hz1_s P 1 T (P * p014) ((P * p014) - (-(P * R))) (-(-(P * P * p024))) ((-(P * R)) * (P * p014) - T * (-(P * P * p024))) ((P * P * p123) - 2 * (-(P * P * p024))) ((-(P * R)) * (P * p014) - T * (-(P * P * p024)) + (P * P * P * p124)) (T * (P * P * P * p124) - (P * P * p123) * (P * p014)) ((P * P * p123) * (-(P * P * p024)) - (-(P * R)) * (P * P * P * p124))
    rw [Int.mul_one] at q2
    rw [q1] at q2
    rcases Int.mul_eq_zero.mp q2.symm with z | z
    · exact absurd z hP3
    · exact z
  have w2 : hz2 1 T (P * p014) ((P * p014) - (-(P * R))) (-(-(P * P * p024))) ((-(P * R)) * (P * p014) - T * (-(P * P * p024))) ((P * P * p123) - 2 * (-(P * P * p024))) ((-(P * R)) * (P * p014) - T * (-(P * P * p024)) + (P * P * P * p124)) (T * (P * P * P * p124) - (P * P * p123) * (P * p014)) ((P * P * p123) * (-(P * P * p024)) - (-(P * R)) * (P * P * P * p124)) = 0 := by
    have q1 := hz2_w P P T p014 (p014 + R) p024 p034 (2 * p024 + p123) (p034 + p124) p134 p234
    rw [g2, Int.mul_zero, s1, s2, s3, s4, s5, s6, s7, s8, s9] at q1
    have q2 := hz2_s P 1 T (P * p014) ((P * p014) - (-(P * R))) (-(-(P * P * p024))) ((-(P * R)) * (P * p014) - T * (-(P * P * p024))) ((P * P * p123) - 2 * (-(P * P * p024))) ((-(P * R)) * (P * p014) - T * (-(P * P * p024)) + (P * P * P * p124)) (T * (P * P * P * p124) - (P * P * p123) * (P * p014)) ((P * P * p123) * (-(P * P * p024)) - (-(P * R)) * (P * P * P * p124))
    rw [Int.mul_one] at q2
    rw [q1] at q2
    rcases Int.mul_eq_zero.mp q2.symm with z | z
    · exact absurd z hP3
    · exact z
  have w3 : hz3 1 T (P * p014) ((P * p014) - (-(P * R))) (-(-(P * P * p024))) ((-(P * R)) * (P * p014) - T * (-(P * P * p024))) ((P * P * p123) - 2 * (-(P * P * p024))) ((-(P * R)) * (P * p014) - T * (-(P * P * p024)) + (P * P * P * p124)) (T * (P * P * P * p124) - (P * P * p123) * (P * p014)) ((P * P * p123) * (-(P * P * p024)) - (-(P * R)) * (P * P * P * p124)) = 0 := by
    have q1 := hz3_w P P T p014 (p014 + R) p024 p034 (2 * p024 + p123) (p034 + p124) p134 p234
    rw [g3, Int.mul_zero, s1, s2, s3, s4, s5, s6, s7, s8, s9] at q1
    have q2 := hz3_s P 1 T (P * p014) ((P * p014) - (-(P * R))) (-(-(P * P * p024))) ((-(P * R)) * (P * p014) - T * (-(P * P * p024))) ((P * P * p123) - 2 * (-(P * P * p024))) ((-(P * R)) * (P * p014) - T * (-(P * P * p024)) + (P * P * P * p124)) (T * (P * P * P * p124) - (P * P * p123) * (P * p014)) ((P * P * p123) * (-(P * P * p024)) - (-(P * R)) * (P * P * P * p124))
    rw [Int.mul_one] at q2
    rw [q1] at q2
    rcases Int.mul_eq_zero.mp q2.symm with z | z
    · exact absurd z hP3
    · exact z
  rcases chart_zero w0 w1 w2 w3 with ⟨q1, q2, q3, q4⟩ | q
  · refine Or.inl ⟨?_, ?_, ?_, ?_⟩
    · unfold uu4 at q1
      clear w0 w1 w2 w3
      grind
    · apply Int.eq_of_mul_eq_mul_left hP
      clear w0 w1 w2 w3 q1 q3 q4
      grind
    · apply Int.eq_of_mul_eq_mul_left hP
      clear w0 w1 w2 w3 q1 q2 q4
      grind
    · apply Int.eq_of_mul_eq_mul_left (Int.mul_ne_zero hP hP)
      clear w0 w1 w2 w3 q1 q2 q3
      grind
  · exact Or.inr q
end
section
theorem sc_F {P T R p014 p024 p123 p124 m01 m02 m12 m03 m04 m13 m14 m23 m24 m34 a b c : Int} (e03 : P * m03 = a * 0 - R * m01 + T * m02) (e04 : P * m04 = b * 0 - p024 * m01 + p014 * m02) (e13 : P * m13 = p123 * -m01 - R * 0 + T * m12) (e14 : P * m14 = p124 * -m01 - p024 * 0 + p014 * m12) (e23 : P * m23 = p123 * -m02 - R * -m12 + T * 0) (e24 : P * m24 = p124 * -m02 - p024 * -m12 + p014 * 0) (e34 : P * m34 = p124 * -m03 - p024 * -m13 + p014 * -m23) (hP : P ≠ 0) (h : dS (P * m01) (P * P * m02) ((-(P * R)) * (P * m01) + T * (P * P * m02)) ((-(P * P * p024)) * (P * m01) + (P * p014) * (P * P * m02)) ((-(P * R)) * (P * m01) + T * (P * P * m02) + (P * P * P * m12)) ((-(P * P * p024)) * (P * m01) + (P * p014) * (P * P * m02) + (T * (P * P * P * m12) - (P * P * p123) * (P * m01))) ((P * p014) * (P * P * P * m12) - (P * P * P * p124) * (P * m01)) ((P * p014) * (P * P * P * m12) - (P * P * P * p124) * (P * m01) + (-((P * P * p123) * (P * P * m02)) - (-(P * R)) * (P * P * P * m12))) (-((P * P * P * p124) * (P * P * m02)) - (-(P * P * p024)) * (P * P * P * m12)) (((P * P * p123) * (-(P * P * p024)) - (-(P * R)) * (P * P * P * p124)) * (P * m01) + ((P * P * p123) * (P * p014) - T * (P * P * P * p124)) * (P * P * m02) + ((-(P * R)) * (P * p014) - T * (-(P * P * p024))) * (P * P * P * m12)) = 0) : dS m01 m02 m03 m04 (m03 + m12) (m04 + m13) m14 (m14 + m23) m24 m34 = 0 := by
  have c3 : P * P * P * m03 = (-(P * R)) * (P * m01) + T * (P * P * m02) := by
    rw [show P * P * P * m03 = P * P * (P * m03) by grind, e03]
    clear e03 e04 e13 e14 e23 e24 e34 h
    grind
  have c4 : P * P * P * P * m04 = (-(P * P * p024)) * (P * m01) + (P * p014) * (P * P * m02) := by
    rw [show P * P * P * P * m04 = P * P * P * (P * m04) by grind, e04]
    clear e03 e04 e13 e14 e23 e24 e34 h c3
    grind
  have c13 : P * P * P * P * m13 = T * (P * P * P * m12) - (P * P * p123) * (P * m01) := by
    rw [show P * P * P * P * m13 = P * P * P * (P * m13) by grind, e13]
    clear e03 e04 e13 e14 e23 e24 e34 h c3 c4
    grind
  have c14 : P * P * P * P * P * m14 = (P * p014) * (P * P * P * m12) - (P * P * P * p124) * (P * m01) := by
    rw [show P * P * P * P * P * m14 = P * P * P * P * (P * m14) by grind, e14]
    clear e03 e04 e13 e14 e23 e24 e34 h c3 c4 c13
    grind
  have c23 : P * P * P * P * P * m23 = -((P * P * p123) * (P * P * m02)) - (-(P * R)) * (P * P * P * m12) := by
    rw [show P * P * P * P * P * m23 = P * P * P * P * (P * m23) by grind, e23]
    clear e03 e04 e13 e14 e23 e24 e34 h c3 c4 c13 c14
    grind
  have c24 : P * P * P * P * P * P * m24 = -((P * P * P * p124) * (P * P * m02)) - (-(P * P * p024)) * (P * P * P * m12) := by
    rw [show P * P * P * P * P * P * m24 = P * P * P * P * P * (P * m24) by grind, e24]
    clear e03 e04 e13 e14 e23 e24 e34 h c3 c4 c13 c14 c23
    grind
  have c34 : P * P * P * P * P * P * P * m34 = ((P * P * p123) * (-(P * P * p024)) - (-(P * R)) * (P * P * P * p124)) * (P * m01) + ((P * P * p123) * (P * p014) - T * (P * P * P * p124)) * (P * P * m02) + ((-(P * R)) * (P * p014) - T * (-(P * P * p024))) * (P * P * P * m12) := by
    have q : P * P * P * P * P * P * P * m34 = P * P * P * P * P * P * (P * m34) := by grind
    have f : P * P * P * P * P * P * (p124 * -m03 - p024 * -m13 + p014 * -m23) = -(P * P * P * p124) * (P * P * P * m03) + (P * P * p024) * (P * P * P * P * m13) - (P * p014) * (P * P * P * P * P * m23) := by clear e03 e04 e13 e14 e23 e24 e34 h c3 c4 c13 c14 c23 c24 q; grind
    rw [q, e34, f, c3, c13, c23]
    clear e03 e04 e13 e14 e23 e24 e34 h c3 c4 c13 c14 c23 c24 q f
    grind
  have hh := dS_sc P m01 m02 m03 m04 (m03 + m12) (m04 + m13) m14 (m14 + m23) m24 m34
  rw [Int.mul_add, Int.mul_add, Int.mul_add, c3, c4, c13, c14, c23, c24, c34] at hh
  rw [h] at hh
  rcases Int.mul_eq_zero.mp hh.symm with z | z
  · exfalso
    have hp2 : P * P * P * P * P * P * P * P ≠ 0 := Int.mul_ne_zero (Int.mul_ne_zero (Int.mul_ne_zero (Int.mul_ne_zero (Int.mul_ne_zero (Int.mul_ne_zero (Int.mul_ne_zero hP hP) hP) hP) hP) hP) hP) hP
    exact Int.mul_ne_zero hp2 hp2 z
  · exact z
theorem row_exact {X Y W : Nat → Int} (hd : d3 X Y W 0 1 2 ≠ 0) (g0 : hP 0 X Y W = 0) (g1 : hP 1 X Y W = 0) (g2 : hP 2 X Y W = 0) (g3 : hP 3 X Y W = 0) : EA X Y W ∨ ∀ x y w : Int, FF X Y W x y w = 0 := by
  rcases ch_exact hd (plk034 X Y W) (plk134 X Y W) (plk234 X Y W) g0 g1 g2 g3 with q | q
  · exact Or.inl q
  · refine Or.inr (fun x y w => ?_)
    have e03 := m3_cmb X Y W x y w 0 0 1 2 3 _ _ _ _ (cramX X Y W 0 1 2 3) (cramY X Y W 0 1 2 3) (cramW X Y W 0 1 2 3)
    have e04 := m3_cmb X Y W x y w 0 0 1 2 4 _ _ _ _ (cramX X Y W 0 1 2 4) (cramY X Y W 0 1 2 4) (cramW X Y W 0 1 2 4)
    have e13 := m3_cmb X Y W x y w 1 0 1 2 3 _ _ _ _ (cramX X Y W 0 1 2 3) (cramY X Y W 0 1 2 3) (cramW X Y W 0 1 2 3)
    have e14 := m3_cmb X Y W x y w 1 0 1 2 4 _ _ _ _ (cramX X Y W 0 1 2 4) (cramY X Y W 0 1 2 4) (cramW X Y W 0 1 2 4)
    have e23 := m3_cmb X Y W x y w 2 0 1 2 3 _ _ _ _ (cramX X Y W 0 1 2 3) (cramY X Y W 0 1 2 3) (cramW X Y W 0 1 2 3)
    have e24 := m3_cmb X Y W x y w 2 0 1 2 4 _ _ _ _ (cramX X Y W 0 1 2 4) (cramY X Y W 0 1 2 4) (cramW X Y W 0 1 2 4)
    have e34 := m3_cmb X Y W x y w 3 0 1 2 4 _ _ _ _ (cramX X Y W 0 1 2 4) (cramY X Y W 0 1 2 4) (cramW X Y W 0 1 2 4)
    rw [m3_anti X Y W x y w 3 0, m3_anti X Y W x y w 3 1, m3_anti X Y W x y w 3 2] at e34
    rw [m3_self] at e03 e04 e13 e14 e23 e24
    rw [m3_anti X Y W x y w 1 0] at e13 e14
    rw [m3_anti X Y W x y w 2 0, m3_anti X Y W x y w 2 1] at e23 e24
    exact sc_F (c := 0) e03 e04 e13 e14 e23 e24 e34 hd (q _ _ _)
end
section
/-! the eliminant's derivative -/
def dD (a b c d e f g h i j a' b' c' d' e' f' g' h' i' j' : Int) : Int := a' * e * h * j + a * e' * h * j + a * e * h' * j + a * e * h * j' - a' * e * i * i - a * e' * i * i - 2 * a * e * i * i' - a' * f * f * j - 2 * a * f * f' * j - a * f * f * j' + 2 * a' * f * g * i + 2 * a * f' * g * i + 2 * a * f * g' * i + 2 * a * f * g * i' - a' * g * g * h - 2 * a * g * g' * h - a * g * g * h' - 2 * b * b' * h * j - b * b * h' * j - b * b * h * j' + 2 * b * b' * i * i + 2 * b * b * i * i' + 2 * b' * c * f * j + 2 * b * c' * f * j + 2 * b * c * f' * j + 2 * b * c * f * j' - 2 * b' * d * f * i - 2 * b * d' * f * i - 2 * b * d * f' * i - 2 * b * d * f * i' - 2 * b' * c * g * i - 2 * b * c' * g * i - 2 * b * c * g' * i - 2 * b * c * g * i' + 2 * b' * d * g * h + 2 * b * d' * g * h + 2 * b * d * g' * h + 2 * b * d * g * h' - 2 * c * c' * e * j - c * c * e' * j - c * c * e * j' + 2 * c' * d * e * i + 2 * c * d' * e * i + 2 * c * d * e' * i + 2 * c * d * e * i' + 2 * c * c' * g * g + 2 * c * c * g * g' - 2 * c' * d * f * g - 2 * c * d' * f * g - 2 * c * d * f' * g - 2 * c * d * f * g' - 2 * d * d' * e * h - d * d * e' * h - d * d * e * h' + 2 * d * d' * f * f + 2 * d * d * f * f'
theorem dS_fd (a b c d e f g h i j a' b' c' d' e' f' g' h' i' j' : Int) : 12 * dD a b c d e f g h i j a' b' c' d' e' f' g' h' i' j' = 8 * dS (a + a') (b + b') (c + c') (d + d') (e + e') (f + f') (g + g') (h + h') (i + i') (j + j') - 8 * dS (a - a') (b - b') (c - c') (d - d') (e - e') (f - f') (g - g') (h - h') (i - i') (j - j') - dS (a + 2 * a') (b + 2 * b') (c + 2 * c') (d + 2 * d') (e + 2 * e') (f + 2 * f') (g + 2 * g') (h + 2 * h') (i + 2 * i') (j + 2 * j') + dS (a - 2 * a') (b - 2 * b') (c - 2 * c') (d - 2 * d') (e - 2 * e') (f - 2 * f') (g - 2 * g') (h - 2 * h') (i - 2 * i') (j - 2 * j') := by
  unfold dS det4 dD
  grind
def dd3 (r00 r01 r02 r11 r12 r22 : Int) : Int := r00 * (r11 * r22 - r12 * r12) - r01 * (r01 * r22 - r12 * r02) + r02 * (r01 * r12 - r11 * r02)
theorem dD_ker (t r00 r01 r02 r11 r12 r22 a' b' c' d' e' f' g' h' i' j' : Int) : dD (t * t * r00) (t * t * r01 - t * r00) (t * t * r02 - t * r01) (-(t * r02)) (r00 - 2 * t * r01 + t * t * r11) (r01 - t * r02 - t * r11 + t * t * r12) (r02 - t * r12) (r11 - 2 * t * r12 + t * t * r22) (r12 - t * r22) (r22) a' b' c' d' e' f' g' h' i' j' = dd3 r00 r01 r02 r11 r12 r22 * (a' + 2 * t * b' + t * t * (2 * c' + e') + t * t * t * (2 * d' + 2 * f') + t * t * t * t * (2 * g' + h') + t * t * t * t * t * (2 * i') + t * t * t * t * t * t * j') := by
  unfold dD dd3
  grind
theorem dS_ker (t r00 r01 r02 r11 r12 r22 : Int) : dS (t * t * r00) (t * t * r01 - t * r00) (t * t * r02 - t * r01) (-(t * r02)) (r00 - 2 * t * r01 + t * t * r11) (r01 - t * r02 - t * r11 + t * t * r12) (r02 - t * r12) (r11 - 2 * t * r12 + t * t * r22) (r12 - t * r22) (r22) = 0 := by
  unfold dS det4
  grind
end
section
/-! polynomials of one letter, by their values -/
def evl : List Int → Int → Int
  | [], _ => 0
  | a :: l, t => a + t * evl l t
def lmul : List Int → List Int → List Int
  | [], _ => []
  | a :: l, m => ladd (m.map (fun x => a * x)) (0 :: lmul l m)
theorem evl_add : ∀ (l m : List Int) (t : Int), evl (ladd l m) t = evl l t + evl m t
  | [], m, t => by
    show evl m t = 0 + evl m t
    omega
  | a :: l, [], t => by
    show evl (a :: l) t = evl (a :: l) t + 0
    omega
  | a :: l, b :: m, t => by
    show (a + b) + t * evl (ladd l m) t = (a + t * evl l t) + (b + t * evl m t)
    rw [evl_add l m t]
    grind
theorem evl_map (k : Int) : ∀ (l : List Int) (t : Int), evl (l.map (fun x => k * x)) t = k * evl l t
  | [], t => by
    show (0 : Int) = k * 0
    omega
  | a :: l, t => by
    show k * a + t * evl (l.map (fun x => k * x)) t = k * (a + t * evl l t)
    rw [evl_map k l t]
    grind
theorem evl_mul : ∀ (l m : List Int) (t : Int), evl (lmul l m) t = evl l t * evl m t
  | [], m, t => by
    show (0 : Int) = 0 * evl m t
    omega
  | a :: l, m, t => by
    show evl (ladd (m.map (fun x => a * x)) (0 :: lmul l m)) t = (a + t * evl l t) * evl m t
    rw [evl_add, evl_map]
    show a * evl m t + (0 + t * evl (lmul l m) t) = _
    rw [evl_mul l m t]
    grind
def gd (l : List Int) (i : Nat) : Int := l.getD i 0
theorem gd_add : ∀ (l m : List Int) (i : Nat), gd (ladd l m) i = gd l i + gd m i
  | [], m, i => by
    show gd m i = 0 + gd m i
    omega
  | a :: l, [], i => by
    show gd (a :: l) i = gd (a :: l) i + 0
    omega
  | a :: l, b :: m, 0 => rfl
  | a :: l, b :: m, i + 1 => gd_add l m i
theorem gd_map (k : Int) : ∀ (l : List Int) (i : Nat), gd (l.map (fun x => k * x)) i = k * gd l i
  | [], i => by
    show (0 : Int) = k * 0
    omega
  | a :: l, 0 => rfl
  | a :: l, i + 1 => gd_map k l i
theorem gd_mul : ∀ (l m : List Int) (i : Nat), gd (lmul l m) i = conv l (gd m) i
  | [], m, i => rfl
  | a :: l, m, 0 => by
    show gd (ladd (m.map (fun x => a * x)) (0 :: lmul l m)) 0 = _
    rw [gd_add, gd_map, conv_0]
    show a * gd m 0 + 0 = _
    omega
  | a :: l, m, i + 1 => by
    show gd (ladd (m.map (fun x => a * x)) (0 :: lmul l m)) (i + 1) = _
    rw [gd_add, gd_map, conv_s]
    show a * gd m (i + 1) + gd (lmul l m) i = _
    rw [gd_mul l m i]
theorem evl_zero : ∀ (l : List Int) (N : Int), (∀ t, N ≤ t → evl l t = 0) → ∀ i, gd l i = 0
  | [], _, _, i => rfl
  | a :: l, N, h, i => by
    have ha : a = 0 := by
      have h1 := h (N.natAbs + a.natAbs + 1) (by omega)
      have h2 : ((N.natAbs + a.natAbs + 1 : Nat) : Int) * evl l (N.natAbs + a.natAbs + 1) = -a := by
        have h3 : a + (N.natAbs + a.natAbs + 1) * evl l (N.natAbs + a.natAbs + 1) = 0 := h1
        have : ((N.natAbs + a.natAbs + 1 : Nat) : Int) = (N.natAbs : Int) + a.natAbs + 1 := by omega
        rw [this]
        omega
      have h4 : ((N.natAbs + a.natAbs + 1 : Nat) : Int) ∣ -a := ⟨_, h2.symm⟩
      have h5 := Int.natAbs_dvd_natAbs.mpr h4
      rw [Int.natAbs_natCast, Int.natAbs_neg] at h5
      by_cases q : a.natAbs = 0
      · exact Int.natAbs_eq_zero.mp q
      · have := Nat.le_of_dvd (by omega) h5
        omega
    have hl := evl_zero l (N.natAbs + 1) (fun t ht => by
      have h1 : a + t * evl l t = 0 := h t (by omega)
      rw [ha, Int.zero_add] at h1
      rcases Int.mul_eq_zero.mp h1 with q | q
      · omega
      · exact q)
    match i with
    | 0 => exact ha
    | i + 1 => exact hl i
theorem evl_uq {l m : List Int} (h : ∀ t, evl l t = evl m t) (i : Nat) : gd l i = gd m i := by
  have h1 := evl_zero (ladd l (m.map (fun x => -1 * x))) 0 (fun t _ => by
    rw [evl_add, evl_map, h t]
    omega) i
  rw [gd_add, gd_map] at h1
  omega
def Pf (F : Int → Int) : Prop := ∃ l : List Int, ∀ t, F t = evl l t
theorem Pf.add {F G : Int → Int} (h1 : Pf F) (h2 : Pf G) : Pf (fun t => F t + G t) := by
  obtain ⟨l, hl⟩ := h1
  obtain ⟨m, hm⟩ := h2
  exact ⟨ladd l m, fun t => by rw [evl_add, ← hl, ← hm]⟩
theorem Pf.mul {F G : Int → Int} (h1 : Pf F) (h2 : Pf G) : Pf (fun t => F t * G t) := by
  obtain ⟨l, hl⟩ := h1
  obtain ⟨m, hm⟩ := h2
  exact ⟨lmul l m, fun t => by rw [evl_mul, ← hl, ← hm]⟩
theorem Pf.con (c : Int) : Pf (fun _ => c) := ⟨[c], fun t => by show c = c + t * 0; omega⟩
theorem Pf.var : Pf (fun t => t) := ⟨[0, 1], fun t => by show t = 0 + t * (1 + t * 0); grind⟩
theorem Pf.neg {F : Int → Int} (h1 : Pf F) : Pf (fun t => -F t) := by
  obtain ⟨l, hl⟩ := h1
  exact ⟨l.map (fun x => -1 * x), fun t => by rw [evl_map, ← hl]; show -F t = _; omega⟩
theorem Pf.sub {F G : Int → Int} (h1 : Pf F) (h2 : Pf G) : Pf (fun t => F t - G t) := by
  obtain ⟨l, hl⟩ := h1
  obtain ⟨m, hm⟩ := h2
  exact ⟨ladd l (m.map (fun x => -1 * x)), fun t => by rw [evl_add, evl_map, ← hl, ← hm]; show F t - G t = _; omega⟩
/-- products that are multiples of a number, of two polynomials: number by number -/
theorem prod_dvd {l m : List Int} {n : Int} {F : Int → Int} (hF : Pf F) (h : ∀ t, evl l t * evl m t = n * F t) (i : Nat) : n ∣ conv l (gd m) i := by
  obtain ⟨r, hr⟩ := hF
  have h1 := evl_uq (l := lmul l m) (m := r.map (fun x => n * x)) (fun t => by rw [evl_mul, evl_map, h t, hr]) i
  rw [gd_mul, gd_map] at h1
  exact ⟨_, h1⟩
theorem irr2 : Irr 2 := ⟨by decide, fun q h1 h2 => by have := Nat.le_of_dvd (by decide) h2; omega⟩
theorem conv_gm (k : Int) (g : Nat → Int) : ∀ (c : List Int) (i : Nat), conv c (fun j => k * g j) i = k * conv c g i
  | [], i => by
    show (0 : Int) = k * 0
    omega
  | a :: c, 0 => by
    rw [conv_0, conv_0]
    grind
  | a :: c, i + 1 => by
    rw [conv_s, conv_s, conv_gm k g c i]
    grind
/-- the power of two in the one factor -/
theorem low_pw {g : Nat → Int} : ∀ (B : Nat), (¬ ∀ j, (2 ^ (B + 1) : Int) ∣ g j) → ∃ (b : Nat) (g1 : Nat → Int), b ≤ B ∧ (∀ j, g j = 2 ^ b * g1 j) ∧ ∃ j, ¬ (2 : Int) ∣ g1 j
  | 0, h => ⟨0, g, Nat.le_refl 0, fun j => by rw [Int.pow_zero, Int.one_mul], Classical.byContradiction fun q => h fun j => by
      have : (2 : Int) ∣ g j := Classical.byContradiction fun z => q ⟨j, z⟩
      exact this⟩
  | B + 1, h => by
    by_cases q : ∀ j, (2 ^ (B + 1) : Int) ∣ g j
    · refine ⟨B + 1, fun j => g j / 2 ^ (B + 1), Nat.le_refl _, fun j => (Int.mul_ediv_cancel' (q j)).symm, Classical.byContradiction fun z => h fun j => ?_⟩
      have h1 : (2 : Int) ∣ g j / 2 ^ (B + 1) := Classical.byContradiction fun y => z ⟨j, y⟩
      obtain ⟨t, ht⟩ := h1
      have h2 : g j = 2 ^ (B + 1) * (2 * t) := by rw [← ht]; exact (Int.mul_ediv_cancel' (q j)).symm
      exact ⟨t, by rw [h2, Int.pow_succ (2 : Int) (B + 1)]; grind⟩
    · obtain ⟨b, g1, h1, h2, h3⟩ := low_pw B q
      exact ⟨b, g1, by omega, h2, h3⟩
theorem even_ls {g : Nat → Int} {c : List Int} (hg : ∃ j, ¬ (2 : Int) ∣ g j) (h : ∀ i, (2 : Int) ∣ conv c g i) : ∃ d : List Int, c = d.map (fun x => 2 * x) := by
  obtain ⟨j, hj⟩ := hg
  obtain ⟨i0, h0, h1⟩ := first_ex (P := fun i => ¬ (2 : Int) ∣ g i) j j (Nat.le_refl _) hj
  exact conv_pm irr2 h0 (fun k hk => Classical.byContradiction fun q => h1 k hk q) c h
theorem gauss2 {g : Nat → Int} (hg : ∃ j, ¬ (2 : Int) ∣ g j) : ∀ (A : Nat) (c : List Int), (∀ i, (2 ^ A : Int) ∣ conv c g i) → ∀ i, (2 ^ A : Int) ∣ gd c i
  | 0, c, _, i => ⟨gd c i, by rw [Int.pow_zero, Int.one_mul]⟩
  | A + 1, c, h, i => by
    obtain ⟨d, hd⟩ := even_ls hg (fun i => Int.dvd_trans ⟨2 ^ A, by rw [Int.pow_succ]; grind⟩ (h i))
    have h2 : ∀ i, (2 ^ A : Int) ∣ conv d g i := fun i => by
      obtain ⟨t, ht⟩ := h i
      rw [hd, conv_mul, Int.pow_succ] at ht
      exact ⟨t, by
        have : 2 * conv d g i = 2 * (2 ^ A * t) := by rw [ht]; grind
        omega⟩
    obtain ⟨t, ht⟩ := gauss2 hg A d h2 i
    rw [hd, gd_map, ht]
    exact ⟨t, by rw [Int.pow_succ]; grind⟩
theorem gauss3 {g : Nat → Int} {A B : Nat} (hAB : B ≤ A) (hg : ¬ ∀ j, (2 ^ (B + 1) : Int) ∣ g j) {c : List Int} (h : ∀ i, (2 ^ A : Int) ∣ conv c g i) (i : Nat) : (2 ^ (A - B) : Int) ∣ gd c i := by
  obtain ⟨b, g1, h1, h2, h3⟩ := low_pw B hg
  refine gauss2 h3 (A - B) c (fun i => ?_) i
  have e : g = fun j => 2 ^ b * g1 j := funext h2
  obtain ⟨t, ht⟩ := h i
  rw [e, conv_gm] at ht
  have e2 : (2 ^ A : Int) = 2 ^ b * 2 ^ (A - b) := by rw [← Int.pow_add]; congr 1; omega
  have hp : (2 ^ b : Int) ≠ 0 := Int.ne_of_gt (Int.pow_pos (by decide))
  refine pw_le_dvd (j := A - b) (by omega) ⟨t, ?_⟩
  apply Int.eq_of_mul_eq_mul_left hp
  rw [ht, e2]
  grind
/-- squares -/
theorem gauss_sq : ∀ (A : Nat) (c : List Int), (∀ i, (2 ^ (2 * A) : Int) ∣ conv c (gd c) i) → ∀ i, (2 ^ A : Int) ∣ gd c i
  | 0, c, _, i => ⟨gd c i, by rw [Int.pow_zero, Int.one_mul]⟩
  | A + 1, c, h, i => by
    have h1 : ∀ i, (2 : Int) ∣ conv c (gd c) i := fun i => Int.dvd_trans ⟨2 ^ (2 * A + 1), by rw [show 2 * (A + 1) = (2 * A + 1) + 1 by omega, Int.pow_succ]; grind⟩ (h i)
    have hd : ∃ d : List Int, c = d.map (fun x => 2 * x) := by
      by_cases q : ∃ j, ¬ (2 : Int) ∣ gd c j
      · exact even_ls q h1
      · refine ⟨c.map (fun x => x / 2), ?_⟩
        have q2 : ∀ x ∈ c, (2 : Int) ∣ x := fun x hx => by
          obtain ⟨j, hj, e⟩ := List.mem_iff_getElem.mp hx
          have : (2 : Int) ∣ gd c j := Classical.byContradiction fun z => q ⟨j, z⟩
          have e2 : gd c j = x := by unfold gd; rw [List.getD_eq_getElem?_getD, List.getElem?_eq_getElem hj]; exact e
          rw [← e2]
          exact this
        rw [List.map_map]
        have : c.map ((fun x => 2 * x) ∘ fun x => x / 2) = c.map id := List.map_congr_left (fun x hx => by
          have := q2 x hx
          show 2 * (x / 2) = x
          omega)
        rw [this, List.map_id]
    obtain ⟨d, hd⟩ := hd
    have e : gd c = fun j => 2 * gd d j := funext fun j => by rw [hd, gd_map]
    have h2 : ∀ i, (2 ^ (2 * A) : Int) ∣ conv d (gd d) i := fun i => by
      obtain ⟨t, ht⟩ := h i
      rw [e, conv_gm, hd, conv_mul, show 2 * (A + 1) = 2 * A + 1 + 1 by omega, Int.pow_succ, Int.pow_succ] at ht
      exact ⟨t, by
        have : 4 * conv d (gd d) i = 4 * (2 ^ (2 * A) * t) := by grind
        omega⟩
    obtain ⟨t, ht⟩ := gauss_sq A d h2 i
    rw [hd, gd_map, ht]
    exact ⟨t, by rw [Int.pow_succ]; grind⟩
end
section
/-! on the curve itself -/
def pv (X : Nat → Int) (t : Int) : Int := X 0 + t * X 1 + t * t * X 2 + t * t * t * X 3 + t * t * t * t * X 4
theorem mg_a (X Y W : Nat → Int) (t : Int) : m3 X Y W (pv X t) (pv Y t) (pv W t) 0 1 = t * t * (d3 X Y W 0 1 2 + d3 X Y W 0 1 3 * t + d3 X Y W 0 1 4 * (t * t)) := by
  unfold m3 d3 pv
  grind
theorem mg_b (X Y W : Nat → Int) (t : Int) : m3 X Y W (pv X t) (pv Y t) (pv W t) 0 2 = t * t * (d3 X Y W 0 1 3 + (d3 X Y W 0 1 4 + d3 X Y W 0 2 3) * t + d3 X Y W 0 2 4 * (t * t)) - t * (d3 X Y W 0 1 2 + d3 X Y W 0 1 3 * t + d3 X Y W 0 1 4 * (t * t)) := by
  unfold m3 d3 pv
  grind
theorem mg_c (X Y W : Nat → Int) (t : Int) : m3 X Y W (pv X t) (pv Y t) (pv W t) 0 3 = t * t * (d3 X Y W 0 1 4 + d3 X Y W 0 2 4 * t + d3 X Y W 0 3 4 * (t * t)) - t * (d3 X Y W 0 1 3 + (d3 X Y W 0 1 4 + d3 X Y W 0 2 3) * t + d3 X Y W 0 2 4 * (t * t)) := by
  unfold m3 d3 pv
  grind
theorem mg_d (X Y W : Nat → Int) (t : Int) : m3 X Y W (pv X t) (pv Y t) (pv W t) 0 4 = -(t * (d3 X Y W 0 1 4 + d3 X Y W 0 2 4 * t + d3 X Y W 0 3 4 * (t * t))) := by
  unfold m3 d3 pv
  grind
theorem mg_e (X Y W : Nat → Int) (t : Int) : m3 X Y W (pv X t) (pv Y t) (pv W t) 0 3 + m3 X Y W (pv X t) (pv Y t) (pv W t) 1 2 = (d3 X Y W 0 1 2 + d3 X Y W 0 1 3 * t + d3 X Y W 0 1 4 * (t * t)) - 2 * t * (d3 X Y W 0 1 3 + (d3 X Y W 0 1 4 + d3 X Y W 0 2 3) * t + d3 X Y W 0 2 4 * (t * t)) + t * t * ((d3 X Y W 0 1 4 + d3 X Y W 0 2 3) + (2 * d3 X Y W 0 2 4 + d3 X Y W 1 2 3) * t + (d3 X Y W 0 3 4 + d3 X Y W 1 2 4) * (t * t)) := by
  unfold m3 d3 pv
  grind
theorem mg_f (X Y W : Nat → Int) (t : Int) : m3 X Y W (pv X t) (pv Y t) (pv W t) 0 4 + m3 X Y W (pv X t) (pv Y t) (pv W t) 1 3 = (d3 X Y W 0 1 3 + (d3 X Y W 0 1 4 + d3 X Y W 0 2 3) * t + d3 X Y W 0 2 4 * (t * t)) - t * (d3 X Y W 0 1 4 + d3 X Y W 0 2 4 * t + d3 X Y W 0 3 4 * (t * t)) - t * ((d3 X Y W 0 1 4 + d3 X Y W 0 2 3) + (2 * d3 X Y W 0 2 4 + d3 X Y W 1 2 3) * t + (d3 X Y W 0 3 4 + d3 X Y W 1 2 4) * (t * t)) + t * t * (d3 X Y W 0 2 4 + (d3 X Y W 0 3 4 + d3 X Y W 1 2 4) * t + d3 X Y W 1 3 4 * (t * t)) := by
  unfold m3 d3 pv
  grind
theorem mg_g (X Y W : Nat → Int) (t : Int) : m3 X Y W (pv X t) (pv Y t) (pv W t) 1 4 = (d3 X Y W 0 1 4 + d3 X Y W 0 2 4 * t + d3 X Y W 0 3 4 * (t * t)) - t * (d3 X Y W 0 2 4 + (d3 X Y W 0 3 4 + d3 X Y W 1 2 4) * t + d3 X Y W 1 3 4 * (t * t)) := by
  unfold m3 d3 pv
  grind
theorem mg_h (X Y W : Nat → Int) (t : Int) : m3 X Y W (pv X t) (pv Y t) (pv W t) 1 4 + m3 X Y W (pv X t) (pv Y t) (pv W t) 2 3 = ((d3 X Y W 0 1 4 + d3 X Y W 0 2 3) + (2 * d3 X Y W 0 2 4 + d3 X Y W 1 2 3) * t + (d3 X Y W 0 3 4 + d3 X Y W 1 2 4) * (t * t)) - 2 * t * (d3 X Y W 0 2 4 + (d3 X Y W 0 3 4 + d3 X Y W 1 2 4) * t + d3 X Y W 1 3 4 * (t * t)) + t * t * (d3 X Y W 0 3 4 + d3 X Y W 1 3 4 * t + d3 X Y W 2 3 4 * (t * t)) := by
  unfold m3 d3 pv
  grind
theorem mg_i (X Y W : Nat → Int) (t : Int) : m3 X Y W (pv X t) (pv Y t) (pv W t) 2 4 = (d3 X Y W 0 2 4 + (d3 X Y W 0 3 4 + d3 X Y W 1 2 4) * t + d3 X Y W 1 3 4 * (t * t)) - t * (d3 X Y W 0 3 4 + d3 X Y W 1 3 4 * t + d3 X Y W 2 3 4 * (t * t)) := by
  unfold m3 d3 pv
  grind
theorem mg_j (X Y W : Nat → Int) (t : Int) : m3 X Y W (pv X t) (pv Y t) (pv W t) 3 4 = (d3 X Y W 0 3 4 + d3 X Y W 1 3 4 * t + d3 X Y W 2 3 4 * (t * t)) := by
  unfold m3 d3 pv
  grind
theorem FF_g (X Y W : Nat → Int) (t : Int) : FF X Y W (pv X t) (pv Y t) (pv W t) = 0 := by
  unfold FF
  rw [mg_e, mg_f, mg_h, mg_a, mg_b, mg_c, mg_d, mg_g, mg_i, mg_j]
  exact dS_ker _ _ _ _ _ _ _
def hL (X Y W : Nat → Int) : List Int := [hP 0 X Y W, hP 1 X Y W, hP 2 X Y W, hP 3 X Y W, hP 4 X Y W, hP 5 X Y W, hP 6 X Y W]
theorem dd3_t (t a000 a100 a200 a110 a210 a220 a111 a211 a221 a222 : Int) : dd3 (a000 + a100 * t + a200 * (t * t)) (a100 + a110 * t + a210 * (t * t)) (a200 + a210 * t + a220 * (t * t)) (a110 + a111 * t + a211 * (t * t)) (a210 + a211 * t + a221 * (t * t)) (a220 + a221 * t + a222 * (t * t)) = evl [hz0 a000 a100 a200 a110 a210 a220 a111 a211 a221 a222, hz1 a000 a100 a200 a110 a210 a220 a111 a211 a221 a222, hz2 a000 a100 a200 a110 a210 a220 a111 a211 a221 a222, hz3 a000 a100 a200 a110 a210 a220 a111 a211 a221 a222, hz4 a000 a100 a200 a110 a210 a220 a111 a211 a221 a222, hz5 a000 a100 a200 a110 a210 a220 a111 a211 a221 a222, hz6 a000 a100 a200 a110 a210 a220 a111 a211 a221 a222] t := by
  show _ = hz0 _ _ _ _ _ _ _ _ _ _ + t * (hz1 _ _ _ _ _ _ _ _ _ _ + t * (hz2 _ _ _ _ _ _ _ _ _ _ + t * (hz3 _ _ _ _ _ _ _ _ _ _ + t * (hz4 _ _ _ _ _ _ _ _ _ _ + t * (hz5 _ _ _ _ _ _ _ _ _ _ + t * (hz6 _ _ _ _ _ _ _ _ _ _ + t * 0))))))
  unfold dd3 hz0 hz1 hz2 hz3 hz4 hz5 hz6
  grind
def dL (X Y W : Nat → Int) (v1 v2 v3 : Int) : List Int := [m3 X Y W v1 v2 v3 0 1, 2 * m3 X Y W v1 v2 v3 0 2, 3 * m3 X Y W v1 v2 v3 0 3 + m3 X Y W v1 v2 v3 1 2, 4 * m3 X Y W v1 v2 v3 0 4 + 2 * m3 X Y W v1 v2 v3 1 3, 3 * m3 X Y W v1 v2 v3 1 4 + m3 X Y W v1 v2 v3 2 3, 2 * m3 X Y W v1 v2 v3 2 4, m3 X Y W v1 v2 v3 3 4]
def dF (X Y W : Nat → Int) (x y w v1 v2 v3 : Int) : Int := dD (m3 X Y W x y w 0 1) (m3 X Y W x y w 0 2) (m3 X Y W x y w 0 3) (m3 X Y W x y w 0 4) (m3 X Y W x y w 0 3 + m3 X Y W x y w 1 2) (m3 X Y W x y w 0 4 + m3 X Y W x y w 1 3) (m3 X Y W x y w 1 4) (m3 X Y W x y w 1 4 + m3 X Y W x y w 2 3) (m3 X Y W x y w 2 4) (m3 X Y W x y w 3 4) (m3 X Y W v1 v2 v3 0 1) (m3 X Y W v1 v2 v3 0 2) (m3 X Y W v1 v2 v3 0 3) (m3 X Y W v1 v2 v3 0 4) (m3 X Y W v1 v2 v3 0 3 + m3 X Y W v1 v2 v3 1 2) (m3 X Y W v1 v2 v3 0 4 + m3 X Y W v1 v2 v3 1 3) (m3 X Y W v1 v2 v3 1 4) (m3 X Y W v1 v2 v3 1 4 + m3 X Y W v1 v2 v3 2 3) (m3 X Y W v1 v2 v3 2 4) (m3 X Y W v1 v2 v3 3 4)
theorem dF_g (X Y W : Nat → Int) (t v1 v2 v3 : Int) : dF X Y W (pv X t) (pv Y t) (pv W t) v1 v2 v3 = evl (hL X Y W) t * evl (dL X Y W v1 v2 v3) t := by
  unfold dF
  rw [mg_e, mg_f, mg_h, mg_a, mg_b, mg_c, mg_d, mg_g, mg_i, mg_j, dD_ker, dd3_t]
  congr 1
  show _ = m3 X Y W v1 v2 v3 0 1 + t * (2 * m3 X Y W v1 v2 v3 0 2 + t * ((3 * m3 X Y W v1 v2 v3 0 3 + m3 X Y W v1 v2 v3 1 2) + t * ((4 * m3 X Y W v1 v2 v3 0 4 + 2 * m3 X Y W v1 v2 v3 1 3) + t * ((3 * m3 X Y W v1 v2 v3 1 4 + m3 X Y W v1 v2 v3 2 3) + t * (2 * m3 X Y W v1 v2 v3 2 4 + t * (m3 X Y W v1 v2 v3 3 4 + t * 0))))))
  generalize m3 X Y W v1 v2 v3 = m
  grind
theorem m3_lin (X Y W : Nat → Int) (x y w v1 v2 v3 k : Int) (i j : Nat) : m3 X Y W (x + k * v1) (y + k * v2) (w + k * v3) i j = m3 X Y W x y w i j + k * m3 X Y W v1 v2 v3 i j := by
  unfold m3
  grind
theorem FF_sh (X Y W : Nat → Int) (x y w v1 v2 v3 k : Int) : FF X Y W (x + k * v1) (y + k * v2) (w + k * v3) = dS ((m3 X Y W x y w 0 1) + k * (m3 X Y W v1 v2 v3 0 1)) ((m3 X Y W x y w 0 2) + k * (m3 X Y W v1 v2 v3 0 2)) ((m3 X Y W x y w 0 3) + k * (m3 X Y W v1 v2 v3 0 3)) ((m3 X Y W x y w 0 4) + k * (m3 X Y W v1 v2 v3 0 4)) ((m3 X Y W x y w 0 3 + m3 X Y W x y w 1 2) + k * (m3 X Y W v1 v2 v3 0 3 + m3 X Y W v1 v2 v3 1 2)) ((m3 X Y W x y w 0 4 + m3 X Y W x y w 1 3) + k * (m3 X Y W v1 v2 v3 0 4 + m3 X Y W v1 v2 v3 1 3)) ((m3 X Y W x y w 1 4) + k * (m3 X Y W v1 v2 v3 1 4)) ((m3 X Y W x y w 1 4 + m3 X Y W x y w 2 3) + k * (m3 X Y W v1 v2 v3 1 4 + m3 X Y W v1 v2 v3 2 3)) ((m3 X Y W x y w 2 4) + k * (m3 X Y W v1 v2 v3 2 4)) ((m3 X Y W x y w 3 4) + k * (m3 X Y W v1 v2 v3 3 4)) := by
  unfold FF
  rw [m3_lin, m3_lin, m3_lin, m3_lin, m3_lin, m3_lin, m3_lin, m3_lin, m3_lin, m3_lin]
  generalize m3 X Y W v1 v2 v3 = n
  generalize m3 X Y W x y w = m
  rw [show m 0 3 + k * n 0 3 + (m 1 2 + k * n 1 2) = m 0 3 + m 1 2 + k * (n 0 3 + n 1 2) by grind, show m 0 4 + k * n 0 4 + (m 1 3 + k * n 1 3) = m 0 4 + m 1 3 + k * (n 0 4 + n 1 3) by grind, show m 1 4 + k * n 1 4 + (m 2 3 + k * n 2 3) = m 1 4 + m 2 3 + k * (n 1 4 + n 2 3) by grind]
theorem FF_fd (X Y W : Nat → Int) (x y w v1 v2 v3 : Int) : 12 * dF X Y W x y w v1 v2 v3 = 8 * FF X Y W (x + 1 * v1) (y + 1 * v2) (w + 1 * v3) - 8 * FF X Y W (x + -1 * v1) (y + -1 * v2) (w + -1 * v3) - FF X Y W (x + 2 * v1) (y + 2 * v2) (w + 2 * v3) + FF X Y W (x + -2 * v1) (y + -2 * v2) (w + -2 * v3) := by
  unfold dF
  rw [dS_fd, FF_sh, FF_sh, FF_sh, FF_sh]
  simp only [Int.one_mul, Int.neg_mul, Int.sub_eq_add_neg]
/-! a square less a multiple of 2^64 -/
def cE (e : Nat → Int) (x y w : Int) : Int := e 0 * (x * x) + e 1 * (x * y) + e 2 * (y * y) + e 3 * (x * w) + e 4 * (y * w) + e 5 * (w * w)
def cS (e : Nat → Int) (x y w v1 v2 v3 : Int) : Int := 2 * e 0 * (x * v1) + e 1 * (x * v2 + y * v1) + 2 * e 2 * (y * v2) + e 3 * (x * v3 + w * v1) + e 4 * (y * v3 + w * v2) + 2 * e 5 * (w * v3)
def qg (G : Nat → Int) (x y w : Int) : Int := G 0 * (x * x * x * x) + G 1 * (x * x * x * y) + G 2 * (x * x * y * y) + G 3 * (x * y * y * y) + G 4 * (y * y * y * y) + G 5 * (x * x * x * w) + G 6 * (x * x * y * w) + G 7 * (x * y * y * w) + G 8 * (y * y * y * w) + G 9 * (x * x * w * w) + G 10 * (x * y * w * w) + G 11 * (y * y * w * w) + G 12 * (x * w * w * w) + G 13 * (y * w * w * w) + G 14 * (w * w * w * w)
def dq (G : Nat → Int) (x y w v1 v2 v3 : Int) : Int := G 0 * (4 * (x * x * x) * v1) + G 1 * (3 * (x * x * y) * v1 + 1 * (x * x * x) * v2) + G 2 * (2 * (x * y * y) * v1 + 2 * (x * x * y) * v2) + G 3 * (1 * (y * y * y) * v1 + 3 * (x * y * y) * v2) + G 4 * (4 * (y * y * y) * v2) + G 5 * (3 * (x * x * w) * v1 + 1 * (x * x * x) * v3) + G 6 * (2 * (x * y * w) * v1 + 1 * (x * x * w) * v2 + 1 * (x * x * y) * v3) + G 7 * (1 * (y * y * w) * v1 + 2 * (x * y * w) * v2 + 1 * (x * y * y) * v3) + G 8 * (3 * (y * y * w) * v2 + 1 * (y * y * y) * v3) + G 9 * (2 * (x * w * w) * v1 + 2 * (x * x * w) * v3) + G 10 * (1 * (y * w * w) * v1 + 1 * (x * w * w) * v2 + 2 * (x * y * w) * v3) + G 11 * (2 * (y * w * w) * v2 + 2 * (y * y * w) * v3) + G 12 * (1 * (w * w * w) * v1 + 3 * (x * w * w) * v3) + G 13 * (1 * (w * w * w) * v2 + 3 * (y * w * w) * v3) + G 14 * (4 * (w * w * w) * v3)
theorem cE_fd (e : Nat → Int) (x y w v1 v2 v3 : Int) : 8 * (cE e (x + 1 * v1) (y + 1 * v2) (w + 1 * v3) * cE e (x + 1 * v1) (y + 1 * v2) (w + 1 * v3)) - 8 * (cE e (x + -1 * v1) (y + -1 * v2) (w + -1 * v3) * cE e (x + -1 * v1) (y + -1 * v2) (w + -1 * v3)) - cE e (x + 2 * v1) (y + 2 * v2) (w + 2 * v3) * cE e (x + 2 * v1) (y + 2 * v2) (w + 2 * v3) + cE e (x + -2 * v1) (y + -2 * v2) (w + -2 * v3) * cE e (x + -2 * v1) (y + -2 * v2) (w + -2 * v3) = 12 * (2 * cE e x y w * cS e x y w v1 v2 v3) := by
  have h : ∀ k : Int, cE e (x + k * v1) (y + k * v2) (w + k * v3) = cE e x y w + k * cS e x y w v1 v2 v3 + k * k * cE e v1 v2 v3 := fun k => by
    unfold cE cS
    grind
  rw [h, h, h, h]
  generalize cE e x y w = a
  generalize cS e x y w v1 v2 v3 = b
  generalize cE e v1 v2 v3 = c
  grind
theorem qm0 (x y w v1 v2 v3 : Int) : 8 * ((x + 1 * v1) * (x + 1 * v1) * (x + 1 * v1) * (x + 1 * v1)) - 8 * ((x + -1 * v1) * (x + -1 * v1) * (x + -1 * v1) * (x + -1 * v1)) - ((x + 2 * v1) * (x + 2 * v1) * (x + 2 * v1) * (x + 2 * v1)) + ((x + -2 * v1) * (x + -2 * v1) * (x + -2 * v1) * (x + -2 * v1)) = 12 * (4 * (x * x * x) * v1) := by grind
theorem qm1 (x y w v1 v2 v3 : Int) : 8 * ((x + 1 * v1) * (x + 1 * v1) * (x + 1 * v1) * (y + 1 * v2)) - 8 * ((x + -1 * v1) * (x + -1 * v1) * (x + -1 * v1) * (y + -1 * v2)) - ((x + 2 * v1) * (x + 2 * v1) * (x + 2 * v1) * (y + 2 * v2)) + ((x + -2 * v1) * (x + -2 * v1) * (x + -2 * v1) * (y + -2 * v2)) = 12 * (3 * (x * x * y) * v1 + 1 * (x * x * x) * v2) := by grind
theorem qm2 (x y w v1 v2 v3 : Int) : 8 * ((x + 1 * v1) * (x + 1 * v1) * (y + 1 * v2) * (y + 1 * v2)) - 8 * ((x + -1 * v1) * (x + -1 * v1) * (y + -1 * v2) * (y + -1 * v2)) - ((x + 2 * v1) * (x + 2 * v1) * (y + 2 * v2) * (y + 2 * v2)) + ((x + -2 * v1) * (x + -2 * v1) * (y + -2 * v2) * (y + -2 * v2)) = 12 * (2 * (x * y * y) * v1 + 2 * (x * x * y) * v2) := by grind
theorem qm3 (x y w v1 v2 v3 : Int) : 8 * ((x + 1 * v1) * (y + 1 * v2) * (y + 1 * v2) * (y + 1 * v2)) - 8 * ((x + -1 * v1) * (y + -1 * v2) * (y + -1 * v2) * (y + -1 * v2)) - ((x + 2 * v1) * (y + 2 * v2) * (y + 2 * v2) * (y + 2 * v2)) + ((x + -2 * v1) * (y + -2 * v2) * (y + -2 * v2) * (y + -2 * v2)) = 12 * (1 * (y * y * y) * v1 + 3 * (x * y * y) * v2) := by grind
theorem qm4 (x y w v1 v2 v3 : Int) : 8 * ((y + 1 * v2) * (y + 1 * v2) * (y + 1 * v2) * (y + 1 * v2)) - 8 * ((y + -1 * v2) * (y + -1 * v2) * (y + -1 * v2) * (y + -1 * v2)) - ((y + 2 * v2) * (y + 2 * v2) * (y + 2 * v2) * (y + 2 * v2)) + ((y + -2 * v2) * (y + -2 * v2) * (y + -2 * v2) * (y + -2 * v2)) = 12 * (4 * (y * y * y) * v2) := by grind
theorem qm5 (x y w v1 v2 v3 : Int) : 8 * ((x + 1 * v1) * (x + 1 * v1) * (x + 1 * v1) * (w + 1 * v3)) - 8 * ((x + -1 * v1) * (x + -1 * v1) * (x + -1 * v1) * (w + -1 * v3)) - ((x + 2 * v1) * (x + 2 * v1) * (x + 2 * v1) * (w + 2 * v3)) + ((x + -2 * v1) * (x + -2 * v1) * (x + -2 * v1) * (w + -2 * v3)) = 12 * (3 * (x * x * w) * v1 + 1 * (x * x * x) * v3) := by grind
theorem qm6 (x y w v1 v2 v3 : Int) : 8 * ((x + 1 * v1) * (x + 1 * v1) * (y + 1 * v2) * (w + 1 * v3)) - 8 * ((x + -1 * v1) * (x + -1 * v1) * (y + -1 * v2) * (w + -1 * v3)) - ((x + 2 * v1) * (x + 2 * v1) * (y + 2 * v2) * (w + 2 * v3)) + ((x + -2 * v1) * (x + -2 * v1) * (y + -2 * v2) * (w + -2 * v3)) = 12 * (2 * (x * y * w) * v1 + 1 * (x * x * w) * v2 + 1 * (x * x * y) * v3) := by grind
theorem qm7 (x y w v1 v2 v3 : Int) : 8 * ((x + 1 * v1) * (y + 1 * v2) * (y + 1 * v2) * (w + 1 * v3)) - 8 * ((x + -1 * v1) * (y + -1 * v2) * (y + -1 * v2) * (w + -1 * v3)) - ((x + 2 * v1) * (y + 2 * v2) * (y + 2 * v2) * (w + 2 * v3)) + ((x + -2 * v1) * (y + -2 * v2) * (y + -2 * v2) * (w + -2 * v3)) = 12 * (1 * (y * y * w) * v1 + 2 * (x * y * w) * v2 + 1 * (x * y * y) * v3) := by grind
theorem qm8 (x y w v1 v2 v3 : Int) : 8 * ((y + 1 * v2) * (y + 1 * v2) * (y + 1 * v2) * (w + 1 * v3)) - 8 * ((y + -1 * v2) * (y + -1 * v2) * (y + -1 * v2) * (w + -1 * v3)) - ((y + 2 * v2) * (y + 2 * v2) * (y + 2 * v2) * (w + 2 * v3)) + ((y + -2 * v2) * (y + -2 * v2) * (y + -2 * v2) * (w + -2 * v3)) = 12 * (3 * (y * y * w) * v2 + 1 * (y * y * y) * v3) := by grind
theorem qm9 (x y w v1 v2 v3 : Int) : 8 * ((x + 1 * v1) * (x + 1 * v1) * (w + 1 * v3) * (w + 1 * v3)) - 8 * ((x + -1 * v1) * (x + -1 * v1) * (w + -1 * v3) * (w + -1 * v3)) - ((x + 2 * v1) * (x + 2 * v1) * (w + 2 * v3) * (w + 2 * v3)) + ((x + -2 * v1) * (x + -2 * v1) * (w + -2 * v3) * (w + -2 * v3)) = 12 * (2 * (x * w * w) * v1 + 2 * (x * x * w) * v3) := by grind
theorem qm10 (x y w v1 v2 v3 : Int) : 8 * ((x + 1 * v1) * (y + 1 * v2) * (w + 1 * v3) * (w + 1 * v3)) - 8 * ((x + -1 * v1) * (y + -1 * v2) * (w + -1 * v3) * (w + -1 * v3)) - ((x + 2 * v1) * (y + 2 * v2) * (w + 2 * v3) * (w + 2 * v3)) + ((x + -2 * v1) * (y + -2 * v2) * (w + -2 * v3) * (w + -2 * v3)) = 12 * (1 * (y * w * w) * v1 + 1 * (x * w * w) * v2 + 2 * (x * y * w) * v3) := by grind
theorem qm11 (x y w v1 v2 v3 : Int) : 8 * ((y + 1 * v2) * (y + 1 * v2) * (w + 1 * v3) * (w + 1 * v3)) - 8 * ((y + -1 * v2) * (y + -1 * v2) * (w + -1 * v3) * (w + -1 * v3)) - ((y + 2 * v2) * (y + 2 * v2) * (w + 2 * v3) * (w + 2 * v3)) + ((y + -2 * v2) * (y + -2 * v2) * (w + -2 * v3) * (w + -2 * v3)) = 12 * (2 * (y * w * w) * v2 + 2 * (y * y * w) * v3) := by grind
theorem qm12 (x y w v1 v2 v3 : Int) : 8 * ((x + 1 * v1) * (w + 1 * v3) * (w + 1 * v3) * (w + 1 * v3)) - 8 * ((x + -1 * v1) * (w + -1 * v3) * (w + -1 * v3) * (w + -1 * v3)) - ((x + 2 * v1) * (w + 2 * v3) * (w + 2 * v3) * (w + 2 * v3)) + ((x + -2 * v1) * (w + -2 * v3) * (w + -2 * v3) * (w + -2 * v3)) = 12 * (1 * (w * w * w) * v1 + 3 * (x * w * w) * v3) := by grind
theorem qm13 (x y w v1 v2 v3 : Int) : 8 * ((y + 1 * v2) * (w + 1 * v3) * (w + 1 * v3) * (w + 1 * v3)) - 8 * ((y + -1 * v2) * (w + -1 * v3) * (w + -1 * v3) * (w + -1 * v3)) - ((y + 2 * v2) * (w + 2 * v3) * (w + 2 * v3) * (w + 2 * v3)) + ((y + -2 * v2) * (w + -2 * v3) * (w + -2 * v3) * (w + -2 * v3)) = 12 * (1 * (w * w * w) * v2 + 3 * (y * w * w) * v3) := by grind
theorem qm14 (x y w v1 v2 v3 : Int) : 8 * ((w + 1 * v3) * (w + 1 * v3) * (w + 1 * v3) * (w + 1 * v3)) - 8 * ((w + -1 * v3) * (w + -1 * v3) * (w + -1 * v3) * (w + -1 * v3)) - ((w + 2 * v3) * (w + 2 * v3) * (w + 2 * v3) * (w + 2 * v3)) + ((w + -2 * v3) * (w + -2 * v3) * (w + -2 * v3) * (w + -2 * v3)) = 12 * (4 * (w * w * w) * v3) := by grind
theorem qg_fd (G : Nat → Int) (x y w v1 v2 v3 : Int) : 8 * qg G (x + 1 * v1) (y + 1 * v2) (w + 1 * v3) - 8 * qg G (x + -1 * v1) (y + -1 * v2) (w + -1 * v3) - qg G (x + 2 * v1) (y + 2 * v2) (w + 2 * v3) + qg G (x + -2 * v1) (y + -2 * v2) (w + -2 * v3) = 12 * dq G x y w v1 v2 v3 := by
  unfold qg dq
  grind
end
section
def eL (e X Y W : Nat → Int) : List Int := [sE e X Y W 0, sP e X Y W 0 1, sP e X Y W 0 2 + sE e X Y W 1, sP e X Y W 0 3 + sP e X Y W 1 2, sP e X Y W 0 4 + sP e X Y W 1 3 + sE e X Y W 2, sP e X Y W 1 4 + sP e X Y W 2 3, sP e X Y W 2 4 + sE e X Y W 3, sP e X Y W 3 4, sE e X Y W 4]
theorem E_g (e X Y W : Nat → Int) (t : Int) : cE e (pv X t) (pv Y t) (pv W t) = evl (eL e X Y W) t := by
  show _ = sE e X Y W 0 + t * (sP e X Y W 0 1 + t * ((sP e X Y W 0 2 + sE e X Y W 1) + t * ((sP e X Y W 0 3 + sP e X Y W 1 2) + t * ((sP e X Y W 0 4 + sP e X Y W 1 3 + sE e X Y W 2) + t * ((sP e X Y W 1 4 + sP e X Y W 2 3) + t * ((sP e X Y W 2 4 + sE e X Y W 3) + t * (sP e X Y W 3 4 + t * (sE e X Y W 4 + t * 0))))))))
  unfold cE sE sP pv
  grind
/-- the eliminant is, but for a multiple of 2^64 times its content, a conic's square -/
def SQ (X Y W e G : Nat → Int) (c : Int) : Prop := ∀ x y w : Int, FF X Y W x y w = c * (cE e x y w * cE e x y w - 2 ^ 64 * qg G x y w)
theorem Pf_pv (X : Nat → Int) : Pf (fun t => pv X t) := ⟨[X 0, X 1, X 2, X 3, X 4], fun t => by
  show pv X t = X 0 + t * (X 1 + t * (X 2 + t * (X 3 + t * (X 4 + t * 0))))
  unfold pv
  grind⟩
theorem Pf_ev (l : List Int) : Pf (fun t => evl l t) := ⟨l, fun _ => rfl⟩
theorem Pf_qg (G X Y W : Nat → Int) : Pf (fun t => qg G (pv X t) (pv Y t) (pv W t)) := by
  unfold qg
  repeat (first | exact Pf_pv _ | exact Pf.con _ | apply Pf.add | apply Pf.mul)
theorem Pf_dq (G X Y W : Nat → Int) (v1 v2 v3 : Int) : Pf (fun t => dq G (pv X t) (pv Y t) (pv W t) v1 v2 v3) := by
  unfold dq
  repeat (first | exact Pf_pv _ | exact Pf.con _ | apply Pf.add | apply Pf.mul)
theorem Pf_cS (e X Y W : Nat → Int) (v1 v2 v3 : Int) : Pf (fun t => cS e (pv X t) (pv Y t) (pv W t) v1 v2 v3) := by
  unfold cS
  repeat (first | exact Pf_pv _ | exact Pf.con _ | apply Pf.add | apply Pf.mul)
theorem SQ_eL {X Y W e G : Nat → Int} {c : Int} (h : SQ X Y W e G c) (hc : c ≠ 0) (i : Nat) : (2 ^ 32 : Int) ∣ gd (eL e X Y W) i := by
  refine gauss_sq 32 (eL e X Y W) (fun i => ?_) i
  refine prod_dvd (Pf_qg G X Y W) (fun t => ?_) i
  have h1 := h (pv X t) (pv Y t) (pv W t)
  rw [FF_g] at h1
  rcases Int.mul_eq_zero.mp h1.symm with q | q
  · exact absurd q hc
  · rw [← E_g]
    rw [show (2 : Int) ^ (2 * 32) = 2 ^ 64 from rfl]
    omega
theorem SQ_CK {X Y W e G : Nat → Int} {c : Int} (h : SQ X Y W e G c) (hc : c ≠ 0) : CK (2 ^ 32) e X Y W := by
  have k := SQ_eL h hc
  exact ⟨k 0, k 1, k 2, k 3, k 4, k 5, k 6, k 7, k 8⟩
theorem dF_sq {X Y W e G : Nat → Int} {c : Int} (h : SQ X Y W e G c) (x y w v1 v2 v3 : Int) : dF X Y W x y w v1 v2 v3 = c * (2 * cE e x y w * cS e x y w v1 v2 v3 - 2 ^ 64 * dq G x y w v1 v2 v3) := by
  have h1 := FF_fd X Y W x y w v1 v2 v3
  rw [h, h, h, h] at h1
  have h2 := cE_fd e x y w v1 v2 v3
  have h3 := qg_fd G x y w v1 v2 v3
  generalize cE e (x + 1 * v1) (y + 1 * v2) (w + 1 * v3) * cE e (x + 1 * v1) (y + 1 * v2) (w + 1 * v3) = a1 at *
  generalize cE e (x + -1 * v1) (y + -1 * v2) (w + -1 * v3) * cE e (x + -1 * v1) (y + -1 * v2) (w + -1 * v3) = a2 at *
  generalize cE e (x + 2 * v1) (y + 2 * v2) (w + 2 * v3) * cE e (x + 2 * v1) (y + 2 * v2) (w + 2 * v3) = a3 at *
  generalize cE e (x + -2 * v1) (y + -2 * v2) (w + -2 * v3) * cE e (x + -2 * v1) (y + -2 * v2) (w + -2 * v3) = a4 at *
  generalize qg G (x + 1 * v1) (y + 1 * v2) (w + 1 * v3) = b1 at *
  generalize qg G (x + -1 * v1) (y + -1 * v2) (w + -1 * v3) = b2 at *
  generalize qg G (x + 2 * v1) (y + 2 * v2) (w + 2 * v3) = b3 at *
  generalize qg G (x + -2 * v1) (y + -2 * v2) (w + -2 * v3) = b4 at *
  generalize 2 * cE e x y w * cS e x y w v1 v2 v3 = s at *
  generalize dq G x y w v1 v2 v3 = r at *
  generalize dF X Y W x y w v1 v2 v3 = d at *
  have h4 : 12 * d = 12 * (c * (s - 2 ^ 64 * r)) := by
    rw [h1]
    have e1 : 8 * (c * (a1 - 2 ^ 64 * b1)) - 8 * (c * (a2 - 2 ^ 64 * b2)) - c * (a3 - 2 ^ 64 * b3) + c * (a4 - 2 ^ 64 * b4) = c * ((8 * a1 - 8 * a2 - a3 + a4) - 2 ^ 64 * (8 * b1 - 8 * b2 - b3 + b4)) := by grind
    rw [e1, h2, h3]
    grind
  omega
theorem star {X Y W e G : Nat → Int} {c : Int} (h : SQ X Y W e G c) (hc : c ≠ 0) (v1 v2 v3 : Int) (i : Nat) : 2 ^ 33 * c ∣ conv (hL X Y W) (gd (dL X Y W v1 v2 v3)) i := by
  obtain ⟨xl, hx⟩ : ∃ xl : List Int, ∀ t, evl (eL e X Y W) t = 2 ^ 32 * evl xl t := by
    have k := SQ_eL h hc
    obtain ⟨x0, h0⟩ := k 0
    obtain ⟨x1, h1⟩ := k 1
    obtain ⟨x2, h2⟩ := k 2
    obtain ⟨x3, h3⟩ := k 3
    obtain ⟨x4, h4⟩ := k 4
    obtain ⟨x5, h5⟩ := k 5
    obtain ⟨x6, h6⟩ := k 6
    obtain ⟨x7, h7⟩ := k 7
    obtain ⟨x8, h8⟩ := k 8
    refine ⟨[x0, x1, x2, x3, x4, x5, x6, x7, x8], fun t => ?_⟩
    have e1 : eL e X Y W = [gd (eL e X Y W) 0, gd (eL e X Y W) 1, gd (eL e X Y W) 2, gd (eL e X Y W) 3, gd (eL e X Y W) 4, gd (eL e X Y W) 5, gd (eL e X Y W) 6, gd (eL e X Y W) 7, gd (eL e X Y W) 8] := rfl
    rw [e1, h0, h1, h2, h3, h4, h5, h6, h7, h8]
    exact evl_map (2 ^ 32) [x0, x1, x2, x3, x4, x5, x6, x7, x8] t
  refine prod_dvd (F := fun t => evl xl t * cS e (pv X t) (pv Y t) (pv W t) v1 v2 v3 - 2 ^ 31 * dq G (pv X t) (pv Y t) (pv W t) v1 v2 v3) ?_ (fun t => ?_) i
  · exact Pf.sub (Pf.mul (Pf_ev xl) (Pf_cS e X Y W v1 v2 v3)) (Pf.mul (Pf.con _) (Pf_dq G X Y W v1 v2 v3))
  · rw [← dF_g, dF_sq h, E_g, hx]
    generalize evl xl t = a
    generalize cS e (pv X t) (pv Y t) (pv W t) v1 v2 v3 = b
    generalize dq G (pv X t) (pv Y t) (pv W t) v1 v2 v3 = d
    show c * (2 * (2 ^ 32 * a) * b - 2 ^ 64 * d) = 2 ^ 33 * c * (a * b - 2 ^ 31 * d)
    grind
end
section
theorem nb3 {x y z : Int} {A B C : Nat} (hx : x.natAbs ≤ A) (hy : y.natAbs ≤ B) (hz : z.natAbs ≤ C) : (x * y * z).natAbs ≤ A * B * C := by
  rw [Int.natAbs_mul, Int.natAbs_mul]
  exact Nat.mul_le_mul (Nat.mul_le_mul hx hy) hz
theorem nbk2 {x : Int} {A : Nat} (hx : x.natAbs ≤ A) : (2 * x).natAbs ≤ 2 * A := by omega
theorem nbk3 {x : Int} {A : Nat} (hx : x.natAbs ≤ A) : (3 * x).natAbs ≤ 3 * A := by omega
theorem nadd {x y : Int} {A B : Nat} (hx : x.natAbs ≤ A) (hy : y.natAbs ≤ B) : (x + y).natAbs ≤ A + B := by omega
theorem nsub {x y : Int} {A B : Nat} (hx : x.natAbs ≤ A) (hy : y.natAbs ≤ B) : (x - y).natAbs ≤ A + B := by omega
theorem hz0_b {a000 a100 a200 a110 a210 a220 a111 a211 a221 a222 : Int} (ha000 : a000.natAbs ≤ 1372) (ha100 : a100.natAbs ≤ 1372) (ha200 : a200.natAbs ≤ 1372) (ha110 : a110.natAbs ≤ 2744) (ha210 : a210.natAbs ≤ 1372) (ha220 : a220.natAbs ≤ 1372) (ha111 : a111.natAbs ≤ 4116) (ha211 : a211.natAbs ≤ 2744) (ha221 : a221.natAbs ≤ 1372) (ha222 : a222.natAbs ≤ 1372) : (hz0 a000 a100 a200 a110 a210 a220 a111 a211 a221 a222).natAbs < 2 ^ 42 := by
  unfold hz0
  exact Nat.lt_of_le_of_lt (nsub (nadd (nsub (nsub (nb3 ha000 ha110 ha220) (nb3 ha000 ha210 ha210)) (nb3 ha100 ha100 ha220)) (nb3 (nbk2 ha100) ha200 ha210)) (nb3 ha110 ha200 ha200)) (by decide)
theorem hz1_b {a000 a100 a200 a110 a210 a220 a111 a211 a221 a222 : Int} (ha000 : a000.natAbs ≤ 1372) (ha100 : a100.natAbs ≤ 1372) (ha200 : a200.natAbs ≤ 1372) (ha110 : a110.natAbs ≤ 2744) (ha210 : a210.natAbs ≤ 1372) (ha220 : a220.natAbs ≤ 1372) (ha111 : a111.natAbs ≤ 4116) (ha211 : a211.natAbs ≤ 2744) (ha221 : a221.natAbs ≤ 1372) (ha222 : a222.natAbs ≤ 1372) : (hz1 a000 a100 a200 a110 a210 a220 a111 a211 a221 a222).natAbs < 2 ^ 42 := by
  unfold hz1
  exact Nat.lt_of_le_of_lt (nsub (nadd (nadd (nsub (nsub (nsub (nadd (nb3 ha000 ha110 ha221) (nb3 ha000 ha111 ha220)) (nb3 (nbk2 ha000) ha210 ha211)) (nb3 ha100 ha100 ha221)) (nb3 ha100 ha110 ha220)) (nb3 (nbk2 ha100) ha200 ha211)) (nb3 ha100 ha210 ha210)) (nb3 ha111 ha200 ha200)) (by decide)
theorem hz2_b {a000 a100 a200 a110 a210 a220 a111 a211 a221 a222 : Int} (ha000 : a000.natAbs ≤ 1372) (ha100 : a100.natAbs ≤ 1372) (ha200 : a200.natAbs ≤ 1372) (ha110 : a110.natAbs ≤ 2744) (ha210 : a210.natAbs ≤ 1372) (ha220 : a220.natAbs ≤ 1372) (ha111 : a111.natAbs ≤ 4116) (ha211 : a211.natAbs ≤ 2744) (ha221 : a221.natAbs ≤ 1372) (ha222 : a222.natAbs ≤ 1372) : (hz2 a000 a100 a200 a110 a210 a220 a111 a211 a221 a222).natAbs < 2 ^ 42 := by
  unfold hz2
  exact Nat.lt_of_le_of_lt (nadd (nsub (nsub (nadd (nsub (nadd (nsub (nadd (nadd (nsub (nsub (nadd (nsub (nsub (nadd (nb3 ha000 ha110 ha222) (nb3 ha000 ha111 ha221)) (nb3 (nbk2 ha000) ha210 ha221)) (nb3 ha000 ha211 ha211)) (nb3 ha000 ha211 ha220)) (nb3 ha100 ha100 ha222)) (nb3 ha100 ha110 ha221)) (nb3 ha100 ha111 ha220)) (nb3 (nbk2 ha100) ha200 ha221)) (nb3 ha110 ha110 ha220)) (nb3 (nbk2 ha110) ha200 ha211)) (nb3 ha110 ha200 ha220)) (nb3 ha110 ha210 ha210)) (nb3 (nbk2 ha111) ha200 ha210)) (nb3 ha200 ha200 ha211)) (nb3 ha200 ha210 ha210)) (by decide)
theorem hz3_b {a000 a100 a200 a110 a210 a220 a111 a211 a221 a222 : Int} (ha000 : a000.natAbs ≤ 1372) (ha100 : a100.natAbs ≤ 1372) (ha200 : a200.natAbs ≤ 1372) (ha110 : a110.natAbs ≤ 2744) (ha210 : a210.natAbs ≤ 1372) (ha220 : a220.natAbs ≤ 1372) (ha111 : a111.natAbs ≤ 4116) (ha211 : a211.natAbs ≤ 2744) (ha221 : a221.natAbs ≤ 1372) (ha222 : a222.natAbs ≤ 1372) : (hz3 a000 a100 a200 a110 a210 a220 a111 a211 a221 a222).natAbs < 2 ^ 42 := by
  unfold hz3
  exact Nat.lt_of_le_of_lt (nadd (nsub (nsub (nsub (nsub (nadd (nadd (nsub (nadd (nsub (nsub (nadd (nsub (nsub (nb3 ha000 ha111 ha222) (nb3 ha000 ha211 ha221)) (nb3 ha100 ha110 ha222)) (nb3 ha100 ha111 ha221)) (nb3 (nbk2 ha100) ha210 ha221)) (nb3 ha100 ha211 ha211)) (nb3 (nbk3 ha100) ha211 ha220)) (nb3 ha110 ha110 ha221)) (nb3 (nbk3 ha110) ha200 ha221)) (nb3 (nbk2 ha110) ha210 ha211)) (nb3 (nbk2 ha110) ha210 ha220)) (nb3 ha111 ha200 ha220)) (nb3 ha111 ha210 ha210)) (nb3 (nbk2 ha200) ha210 ha211)) (nb3 (nbk2 ha210) ha210 ha210)) (by decide)
theorem hP_b {X Y W : Nat → Int} (h : bP X Y W) (k : Nat) (hk : k < 4) : (hP k X Y W).natAbs < 2 ^ 42 := by
  have b012 := h 0 1 2 (by decide) (by decide) (by decide)
  have b013 := h 0 1 3 (by decide) (by decide) (by decide)
  have b014 := h 0 1 4 (by decide) (by decide) (by decide)
  have b023 := h 0 2 3 (by decide) (by decide) (by decide)
  have b024 := h 0 2 4 (by decide) (by decide) (by decide)
  have b034 := h 0 3 4 (by decide) (by decide) (by decide)
  have b123 := h 1 2 3 (by decide) (by decide) (by decide)
  have b124 := h 1 2 4 (by decide) (by decide) (by decide)
  have b134 := h 1 3 4 (by decide) (by decide) (by decide)
  have b234 := h 2 3 4 (by decide) (by decide) (by decide)
  have c1 : (d3 X Y W 0 1 4 + d3 X Y W 0 2 3).natAbs ≤ 2744 := by omega
  have c2 : (2 * d3 X Y W 0 2 4 + d3 X Y W 1 2 3).natAbs ≤ 4116 := by omega
  have c3 : (d3 X Y W 0 3 4 + d3 X Y W 1 2 4).natAbs ≤ 2744 := by omega
  match k, hk with
  | 0, _ => exact hz0_b b012 b013 b014 c1 b024 b034 c2 c3 b134 b234
  | 1, _ => exact hz1_b b012 b013 b014 c1 b024 b034 c2 c3 b134 b234
  | 2, _ => exact hz2_b b012 b013 b014 c1 b024 b034 c2 c3 b134 b234
  | 3, _ => exact hz3_b b012 b013 b014 c1 b024 b034 c2 c3 b134 b234
theorem cE_odd {e : Nat → Int} (he : ∃ i, i < 6 ∧ e i % 2 = 1) : ∃ x y w : Int, cE e x y w % 2 = 1 := by
  have v1 : cE e 1 0 0 = e 0 := by unfold cE; grind
  have v2 : cE e 0 1 0 = e 2 := by unfold cE; grind
  have v3 : cE e 0 0 1 = e 5 := by unfold cE; grind
  have v4 : cE e 1 1 0 = e 0 + e 1 + e 2 := by unfold cE; grind
  have v5 : cE e 1 0 1 = e 0 + e 3 + e 5 := by unfold cE; grind
  have v6 : cE e 0 1 1 = e 2 + e 4 + e 5 := by unfold cE; grind
  by_cases q1 : e 0 % 2 = 1
  · exact ⟨1, 0, 0, by rw [v1]; exact q1⟩
  by_cases q2 : e 2 % 2 = 1
  · exact ⟨0, 1, 0, by rw [v2]; exact q2⟩
  by_cases q3 : e 5 % 2 = 1
  · exact ⟨0, 0, 1, by rw [v3]; exact q3⟩
  obtain ⟨i, hi, ho⟩ := he
  match i, hi, ho with
  | 0, _, ho => exact absurd ho q1
  | 1, _, ho => exact ⟨1, 1, 0, by rw [v4]; omega⟩
  | 2, _, ho => exact absurd ho q2
  | 3, _, ho => exact ⟨1, 0, 1, by rw [v5]; omega⟩
  | 4, _, ho => exact ⟨0, 1, 1, by rw [v6]; omega⟩
  | 5, _, ho => exact absurd ho q3
theorem SQ_cont {X Y W e G : Nat → Int} {c : Int} {N : Nat} (h : SQ X Y W e G c) (he : ∃ i, i < 6 ∧ e i % 2 = 1) (hF : ∀ x y w : Int, (2 ^ N : Int) ∣ FF X Y W x y w) : (2 ^ N : Int) ∣ c := by
  obtain ⟨x, y, w, ho⟩ := cE_odd he
  have h1 := hF x y w
  rw [h x y w, Int.mul_comm] at h1
  refine odd_cancel ?_ N c h1
  have h2 : (cE e x y w * cE e x y w) % 2 = 1 := by rw [Int.mul_emod, ho]; rfl
  have h3 : (2 : Int) ^ 64 * qg G x y w = 2 * (2 ^ 63 * qg G x y w) := by grind
  rw [h3]
  omega
/-- a content of the eliminant that is larger than the curve's own: it meets itself everywhere -/
theorem near_h {X Y W e G : Nat → Int} {c : Int} {κ : Nat} (h : SQ X Y W e G c) (hc : c ≠ 0) (he : ∃ i, i < 6 ∧ e i % 2 = 1) (hF : ∀ x y w : Int, (2 ^ (4 * κ + 10) : Int) ∣ FF X Y W x y w) (hd : ∃ v1 v2 v3 : Int, ¬ ∀ j, (2 ^ (κ + 2) : Int) ∣ gd (dL X Y W v1 v2 v3) j) (i : Nat) : (2 ^ 42 : Int) ∣ gd (hL X Y W) i := by
  obtain ⟨v1, v2, v3, hv⟩ := hd
  have hcc := SQ_cont h he hF
  refine pw_le_dvd (j := 43 + 4 * κ - (κ + 1)) (by omega) (gauss3 (A := 43 + 4 * κ) (B := κ + 1) (by omega) hv (fun i => ?_) i)
  refine Int.dvd_trans ?_ (star h hc v1 v2 v3 i)
  rw [show 43 + 4 * κ = 33 + (4 * κ + 10) by omega]
  exact dvd_mul2 ⟨1, by rw [Int.mul_one]⟩ hcc
end
section
def xt (X : Nat → Int) (v : Int) : Nat → Int := fun i => if i = 5 then v else X i
theorem xt_sP (e X Y W : Nat → Int) (x y w : Int) {i j : Nat} (hi : i < 5) (hj : j < 5) : sP e (xt X x) (xt Y y) (xt W w) i j = sP e X Y W i j := by
  unfold sP xt
  rw [if_neg (by omega), if_neg (by omega), if_neg (by omega), if_neg (by omega), if_neg (by omega), if_neg (by omega)]
theorem xt_sE (e X Y W : Nat → Int) (x y w : Int) {i : Nat} (hi : i < 5) : sE e (xt X x) (xt Y y) (xt W w) i = sE e X Y W i := by
  unfold sE xt
  rw [if_neg (by omega), if_neg (by omega), if_neg (by omega)]
theorem xt_d3 (X Y W : Nat → Int) (x y w : Int) {i j k : Nat} (hi : i < 5) (hj : j < 5) (hk : k < 5) : d3 (xt X x) (xt Y y) (xt W w) i j k = d3 X Y W i j k := by
  unfold d3 xt
  rw [if_neg (by omega), if_neg (by omega), if_neg (by omega), if_neg (by omega), if_neg (by omega), if_neg (by omega), if_neg (by omega), if_neg (by omega), if_neg (by omega)]
theorem xt_5 (e X Y W : Nat → Int) (x y w : Int) : sE e (xt X x) (xt Y y) (xt W w) 5 = cE e x y w := rfl
def dvA (b : Nat) (e X Y W : Nat → Int) : Prop := (∀ i, i < 5 → (2 ^ b : Int) ∣ sE e X Y W i) ∧ ∀ i j, i < 5 → j < 5 → (2 ^ b : Int) ∣ sP e X Y W i j
theorem cont_p {b : Nat} {e X Y W : Nat → Int} (h : dvA b e X Y W) (he : ∃ i, i < 6 ∧ e i % 2 = 1) {i j k : Nat} (hi : i < 5) (hj : j < 5) (hk : k < 5) : (2 ^ b : Int) ∣ d3 X Y W i j k * d3 X Y W i j k := by
  obtain ⟨x, y, w, ho⟩ := cE_odd he
  have h1 := cont_d (e := e) (X := xt X x) (Y := xt Y y) (W := xt W w) (b := b) (i := i) (j := j) (k := k) (by rw [xt_sE e X Y W x y w hi]; exact h.1 i hi) (by rw [xt_sE e X Y W x y w hj]; exact h.1 j hj) (by rw [xt_sE e X Y W x y w hk]; exact h.1 k hk) (by rw [xt_sP e X Y W x y w hi hj]; exact h.2 i j hi hj) (by rw [xt_sP e X Y W x y w hi hk]; exact h.2 i k hi hk) (by rw [xt_sP e X Y W x y w hj hk]; exact h.2 j k hj hk) 5
  rw [xt_5, xt_d3 X Y W x y w hi hj hk, Int.mul_comm] at h1
  exact odd_cancel ho b _ h1
theorem half_dvd {b : Nat} {x : Int} (h : (2 ^ b : Int) ∣ x * x) : (2 ^ ((b + 1) / 2) : Int) ∣ x := by
  rcases Nat.mod_two_eq_zero_or_one b with q | q
  · apply sq_dvd
    exact pw_le_dvd (by omega) h
  · by_cases z : x = 0
    · exact ⟨0, by rw [z, Int.mul_zero]⟩
    · obtain ⟨a, o, h1, h2⟩ := two_split x.natAbs x (Nat.le_refl _) z
      have h3 : b ≤ 2 * a := by
        apply Nat.le_of_not_lt
        intro w
        have oo : (o * o) % 2 = 1 := by rw [Int.mul_emod, h2]; rfl
        have h4 : (2 ^ (2 * a + 1) : Int) ∣ x * x := pw_le_dvd (by omega) h
        have e : x * x = (o * o) * 2 ^ (2 * a) := by rw [h1, show 2 * a = a + a by omega, Int.pow_add]; grind
        rw [e] at h4
        obtain ⟨t, ht⟩ := odd_cancel oo _ _ h4
        rw [Int.pow_succ] at ht
        have hp : (2 ^ (2 * a) : Int) ≠ 0 := Int.ne_of_gt (Int.pow_pos (by decide))
        have : (1 : Int) = 2 * t := by
          apply Int.eq_of_mul_eq_mul_left hp
          grind
        omega
      exact pw_le_dvd (by omega) ⟨o, h1⟩
theorem pw_bd {a : Nat} {o d : Int} {B : Nat} (hd : d = 2 ^ a * o) (h0 : d ≠ 0) (hB : d.natAbs < 2 ^ B) : a < B := by
  apply Nat.lt_of_not_le
  intro q
  have := small_zero (pw_le_dvd q ⟨o, hd⟩) hB
  exact h0 this
theorem e1_odd {b : Nat} {k s e1 : Int} (hb : b < 32) (hk : s = 2 ^ b * k) (ok : k % 2 = 1) (h : (2 ^ 32 : Int) ∣ s + e1) : ∃ k1 : Int, e1 = 2 ^ b * k1 ∧ k1 % 2 = 1 := by
  obtain ⟨t, ht⟩ := h
  refine ⟨2 ^ (32 - b) * t - k, ?_, ?_⟩
  · have e2 : (2 ^ 32 : Int) = 2 ^ b * 2 ^ (32 - b) := by rw [← Int.pow_add]; congr 1; omega
    rw [e2] at ht
    grind
  · obtain ⟨c, hc⟩ : ∃ c, 32 - b = c + 1 := ⟨31 - b, by omega⟩
    rw [hc, Int.pow_succ]
    have : (2 : Int) ^ c * 2 * t = 2 * (2 ^ c * t) := by grind
    omega
theorem d_ne {e X Y W : Nat → Int} {b : Nat} {k : Int} (hC : CK (2 ^ 32) e X Y W) (hk : sP e X Y W 0 2 = 2 ^ b * k) (ok : k % 2 = 1) (hb : b ≤ 20) (hx : (X 0).natAbs < 64 ∧ (Y 0).natAbs < 64 ∧ (W 0).natAbs < 64) (hm : (m3 X Y W 1 0 0 0 1).natAbs < 4096 ∧ (m3 X Y W 0 1 0 0 1).natAbs < 4096 ∧ (m3 X Y W 0 0 1 0 1).natAbs < 4096) : d3 X Y W 0 1 2 ≠ 0 := fun hd => by
  have key : ∀ x y w : Int, (m3 X Y W x y w 0 1).natAbs < 4096 → m3 X Y W x y w 0 1 = 0 := fun x y w hlt => by
    have I1 := sP_cmb e (xt X x) (xt Y y) (xt W w) 0 0 1 2 5 _ _ _ _ (cramX (xt X x) (xt Y y) (xt W w) 0 1 2 5) (cramY (xt X x) (xt Y y) (xt W w) 0 1 2 5) (cramW (xt X x) (xt Y y) (xt W w) 0 1 2 5)
    rw [sP_self, xt_sE e X Y W x y w (i := 0) (by decide), xt_sP e X Y W x y w (i := 0) (j := 1) (by decide) (by decide), xt_sP e X Y W x y w (i := 0) (j := 2) (by decide) (by decide), xt_d3 X Y W x y w (i := 0) (j := 1) (k := 2) (by decide) (by decide) (by decide), hd, Int.zero_mul, hk] at I1
    have e1 : d3 (xt X x) (xt Y y) (xt W w) 0 1 5 = m3 X Y W x y w 0 1 := by
      unfold d3 m3 xt
      simp only [if_true]
      rw [if_neg (by decide), if_neg (by decide), if_neg (by decide), if_neg (by decide), if_neg (by decide), if_neg (by decide)]
      grind
    rw [e1] at I1
    have h2 : (2 ^ 32 : Int) ∣ m3 X Y W x y w 0 1 * (2 ^ b * k) := by
      have q : m3 X Y W x y w 0 1 * (2 ^ b * k) = d3 (xt X x) (xt Y y) (xt W w) 0 2 5 * sP e X Y W 0 1 - d3 (xt X x) (xt Y y) (xt W w) 1 2 5 * 2 * sE e X Y W 0 := by grind
      rw [q]
      exact Int.dvd_sub (dl _ hC.2.1) (dl _ hC.1)
    have h3 := drop_b (by omega) ok h2
    exact small_zero (k := 12) (pw_le_dvd (by omega) h3) hlt
  have m1 := key 1 0 0 hm.1
  have m2 := key 0 1 0 hm.2.1
  have m4 := key 0 0 1 hm.2.2
  have n1 : Y 0 * W 1 = Y 1 * W 0 := by unfold m3 at m1; omega
  have n2 : X 0 * W 1 = X 1 * W 0 := by unfold m3 at m2; omega
  have n3 : X 0 * Y 1 = X 1 * Y 0 := by unfold m3 at m4; omega
  obtain ⟨k1, hk1, ok1⟩ := e1_odd (by omega) hk ok hC.2.2.1
  have fin : ∀ z z1 : Int, z * z * sE e X Y W 1 = z1 * z1 * sE e X Y W 0 → z.natAbs < 64 → z = 0 := fun z z1 h hz => by
    have h2 : (2 ^ 32 : Int) ∣ z * z * (2 ^ b * k1) := by
      rw [← hk1, h]
      exact dl _ hC.1
    have h3 := drop_b (by omega) ok1 h2
    exact small_zero (k := 6) (sq_dvd 6 z (pw_le_dvd (by omega) h3)) hz
  have x0 : X 0 = 0 := fin (X 0) (X 1) (by
    have q : X 0 * X 0 * sE e X Y W 1 = e 0 * (X 1 * X 1 * (X 0 * X 0)) + e 1 * (X 0 * X 1 * (X 0 * Y 1)) + e 2 * ((X 0 * Y 1) * (X 0 * Y 1)) + e 3 * (X 0 * X 1 * (X 0 * W 1)) + e 4 * ((X 0 * Y 1) * (X 0 * W 1)) + e 5 * ((X 0 * W 1) * (X 0 * W 1)) := by unfold sE; grind
    rw [q, n2, n3]
    unfold sE
    grind) hx.1
  have y0 : Y 0 = 0 := fin (Y 0) (Y 1) (by
    have q : Y 0 * Y 0 * sE e X Y W 1 = e 0 * ((X 1 * Y 0) * (X 1 * Y 0)) + e 1 * ((X 1 * Y 0) * (Y 0 * Y 1)) + e 2 * (Y 1 * Y 1 * (Y 0 * Y 0)) + e 3 * ((X 1 * Y 0) * (Y 0 * W 1)) + e 4 * (Y 0 * Y 1 * (Y 0 * W 1)) + e 5 * ((Y 0 * W 1) * (Y 0 * W 1)) := by unfold sE; grind
    rw [q, n1, ← n3]
    unfold sE
    grind) hx.2.1
  have w0 : W 0 = 0 := fin (W 0) (W 1) (by
    have q : W 0 * W 0 * sE e X Y W 1 = e 0 * ((X 1 * W 0) * (X 1 * W 0)) + e 1 * ((X 1 * W 0) * (Y 1 * W 0)) + e 2 * ((Y 1 * W 0) * (Y 1 * W 0)) + e 3 * ((X 1 * W 0) * (W 0 * W 1)) + e 4 * ((Y 1 * W 0) * (W 0 * W 1)) + e 5 * (W 1 * W 1 * (W 0 * W 0)) := by unfold sE; grind
    rw [q, ← n1, ← n2]
    unfold sE
    grind) hx.2.2
  have s0 : sP e X Y W 0 2 = 0 := by
    unfold sP
    rw [x0, y0, w0]
    grind
  rw [s0] at hk
  have hp : (2 ^ b : Int) ≠ 0 := Int.ne_of_gt (Int.pow_pos (by decide))
  rcases Int.mul_eq_zero.mp hk.symm with z | z
  · exact hp z
  · omega
/-- the lowest power of two in the three leading cross products -/
theorem kap {X Y W : Nat → Int} (hd : d3 X Y W 0 1 2 ≠ 0) : ∃ κ : Nat, (∀ x y w : Int, (2 ^ κ : Int) ∣ m3 X Y W x y w 0 1 ∧ (2 ^ κ : Int) ∣ m3 X Y W x y w 0 2 ∧ (2 ^ κ : Int) ∣ m3 X Y W x y w 1 2) ∧ ∃ x y w : Int, ¬ ((2 ^ (κ + 1) : Int) ∣ m3 X Y W x y w 0 1 ∧ (2 ^ (κ + 1) : Int) ∣ m3 X Y W x y w 0 2 ∧ (2 ^ (κ + 1) : Int) ∣ m3 X Y W x y w 1 2) := by
  have step : ∀ n : Nat, (∀ x y w : Int, (2 ^ n : Int) ∣ m3 X Y W x y w 0 1 ∧ (2 ^ n : Int) ∣ m3 X Y W x y w 0 2 ∧ (2 ^ n : Int) ∣ m3 X Y W x y w 1 2) ∨ ∃ κ : Nat, (∀ x y w : Int, (2 ^ κ : Int) ∣ m3 X Y W x y w 0 1 ∧ (2 ^ κ : Int) ∣ m3 X Y W x y w 0 2 ∧ (2 ^ κ : Int) ∣ m3 X Y W x y w 1 2) ∧ ∃ x y w : Int, ¬ ((2 ^ (κ + 1) : Int) ∣ m3 X Y W x y w 0 1 ∧ (2 ^ (κ + 1) : Int) ∣ m3 X Y W x y w 0 2 ∧ (2 ^ (κ + 1) : Int) ∣ m3 X Y W x y w 1 2) := fun n => by
    induction n with
    | zero => exact Or.inl fun x y w => ⟨⟨_, by rw [Int.pow_zero, Int.one_mul]⟩, ⟨_, by rw [Int.pow_zero, Int.one_mul]⟩, ⟨_, by rw [Int.pow_zero, Int.one_mul]⟩⟩
    | succ n ih =>
      rcases ih with h | h
      · by_cases q : ∀ x y w : Int, (2 ^ (n + 1) : Int) ∣ m3 X Y W x y w 0 1 ∧ (2 ^ (n + 1) : Int) ∣ m3 X Y W x y w 0 2 ∧ (2 ^ (n + 1) : Int) ∣ m3 X Y W x y w 1 2
        · exact Or.inl q
        · right
          refine ⟨n, h, Classical.byContradiction fun z => q fun x y w => Classical.byContradiction fun y1 => z ⟨x, y, w, y1⟩⟩
      · exact Or.inr h
  obtain ⟨a, o, h1, h2⟩ := two_split (d3 X Y W 0 1 2).natAbs _ (Nat.le_refl _) hd
  rcases step (a + 1) with h | h
  · exfalso
    have h3 := (h (X 2) (Y 2) (W 2)).1
    have e : m3 X Y W (X 2) (Y 2) (W 2) 0 1 = d3 X Y W 0 1 2 := by unfold m3 d3; grind
    rw [e, h1, Int.mul_comm] at h3
    obtain ⟨t, ht⟩ := odd_cancel h2 _ _ h3
    rw [Int.pow_succ] at ht
    have hp : (2 ^ a : Int) ≠ 0 := Int.ne_of_gt (Int.pow_pos (by decide))
    have : (1 : Int) = 2 * t := by
      apply Int.eq_of_mul_eq_mul_left hp
      grind
    omega
  · exact h
theorem gcross {X Y W : Nat → Int} {κ : Nat} {x1 x2 x3 : Int} (h3 : cmb (2 ^ 64) X Y W 3 x1 x2 x3) (hκ : κ ≤ 50) (hk : ∀ x y w : Int, (2 ^ κ : Int) ∣ m3 X Y W x y w 0 1 ∧ (2 ^ κ : Int) ∣ m3 X Y W x y w 0 2 ∧ (2 ^ κ : Int) ∣ m3 X Y W x y w 1 2) (hn : ∃ x y w : Int, ¬ ((2 ^ (κ + 1) : Int) ∣ m3 X Y W x y w 0 1 ∧ (2 ^ (κ + 1) : Int) ∣ m3 X Y W x y w 0 2 ∧ (2 ^ (κ + 1) : Int) ∣ m3 X Y W x y w 1 2)) : ∃ v1 v2 v3 : Int, ¬ ∀ j, (2 ^ (κ + 2) : Int) ∣ gd (dL X Y W v1 v2 v3) j := by
  obtain ⟨x, y, w, hn⟩ := hn
  refine ⟨x, y, w, fun h => hn ?_⟩
  have q0 : (2 ^ (κ + 2) : Int) ∣ m3 X Y W x y w 0 1 := h 0
  have q1 : (2 ^ (κ + 2) : Int) ∣ 2 * m3 X Y W x y w 0 2 := h 1
  have q2 : (2 ^ (κ + 2) : Int) ∣ 3 * m3 X Y W x y w 0 3 + m3 X Y W x y w 1 2 := h 2
  have p0 : (2 ^ (κ + 1) : Int) ∣ m3 X Y W x y w 0 1 := pw_le_dvd (by omega) q0
  have p1 : (2 ^ (κ + 1) : Int) ∣ m3 X Y W x y w 0 2 := by
    obtain ⟨t, ht⟩ := q1
    refine ⟨t, ?_⟩
    rw [show κ + 2 = κ + 1 + 1 by omega, Int.pow_succ] at ht
    have : 2 * m3 X Y W x y w 0 2 = 2 * (2 ^ (κ + 1) * t) := by rw [ht]; grind
    omega
  refine ⟨p0, p1, ?_⟩
  have g03 := m3_mod h3 x y w 0
  rw [m3_self] at g03
  have g03 : (2 ^ (κ + 1) : Int) ∣ _ := pw_le_dvd (by omega) g03
  have p3 : (2 ^ (κ + 1) : Int) ∣ m3 X Y W x y w 0 3 := by
    have e : m3 X Y W x y w 0 3 = (m3 X Y W x y w 0 3 - (x1 * 0 + x2 * m3 X Y W x y w 0 1 + x3 * m3 X Y W x y w 0 2)) + x2 * m3 X Y W x y w 0 1 + x3 * m3 X Y W x y w 0 2 := by omega
    rw [e]
    exact Int.dvd_add (Int.dvd_add g03 (dl _ p0)) (dl _ p1)
  have e : m3 X Y W x y w 1 2 = (3 * m3 X Y W x y w 0 3 + m3 X Y W x y w 1 2) - 3 * m3 X Y W x y w 0 3 := by omega
  rw [e]
  exact Int.dvd_sub (pw_le_dvd (by omega) q2) (dl _ p3)
end
section
def CH (X Y W : Nat → Int) (a b : Nat) (o q s013 s014 s023 s024 s123 s124 : Int) : Prop := d3 X Y W 0 1 2 = 2 ^ a * o ∧ o % 2 = 1 ∧ d3 X Y W 0 1 3 = 2 ^ a * s013 ∧ d3 X Y W 0 1 4 = 2 ^ a * s014 ∧ d3 X Y W 0 2 3 = 2 ^ a * s023 ∧ d3 X Y W 0 2 4 = 2 ^ a * s024 ∧ d3 X Y W 1 2 3 = 2 ^ a * s123 ∧ d3 X Y W 1 2 4 = 2 ^ a * s124 ∧ b ≤ 2 * a ∧ (2 ^ 64 : Int) ∣ o * q - 1 ∧ (2 ^ (32 - b) : Int) ∣ a5 (q * s123) (-(q * s023)) (q * s013) (-(q * s024)) (q * s014) ∧ (2 ^ (32 - b) : Int) ∣ a6 (q * s123) (-(q * s023)) (q * s013) (q * s124) (-(q * s024)) (q * s014) ∧ (2 ^ (32 - b) : Int) ∣ vv (-(q * s023)) (q * s013) (q * s014) * z5 (-(q * s023)) (q * s013) (-(q * s024)) (q * s014) ∧ (2 ^ (32 - b) : Int) ∣ q * s014 * vv (-(q * s023)) (q * s013) (q * s014) * vv (-(q * s023)) (q * s013) (q * s014) - (-(q * s024) + q * s013 * (q * s014)) * (-(q * s024) + q * s013 * (q * s014))
def NB (X Y W : Nat → Int) : Prop := ∃ κ : Nat, (∀ x y w : Int, (2 ^ (4 * κ + 10) : Int) ∣ FF X Y W x y w) ∧ ∃ v1 v2 v3 : Int, ¬ ∀ j, (2 ^ (κ + 2) : Int) ∣ gd (dL X Y W v1 v2 v3) j
theorem NB_h {X Y W e G : Nat → Int} {c : Int} (h : SQ X Y W e G c) (hc : c ≠ 0) (he : ∃ i, i < 6 ∧ e i % 2 = 1) (hn : NB X Y W) : ∀ i, (2 ^ 42 : Int) ∣ gd (hL X Y W) i := by
  obtain ⟨κ, h1, h2⟩ := hn
  exact near_h h hc he h1 h2
theorem chart_main {X Y W e G : Nat → Int} {c k : Int} {b : Nat} (hS : SQ X Y W e G c) (hc : c ≠ 0) (he : ∃ i, i < 6 ∧ e i % 2 = 1) (hA : dvA b e X Y W) (hk : sP e X Y W 0 2 = 2 ^ b * k) (ok : k % 2 = 1) (hb : b ≤ 20) (hx : (X 0).natAbs < 64 ∧ (Y 0).natAbs < 64 ∧ (W 0).natAbs < 64) (hm : (m3 X Y W 1 0 0 0 1).natAbs < 4096 ∧ (m3 X Y W 0 1 0 0 1).natAbs < 4096 ∧ (m3 X Y W 0 0 1 0 1).natAbs < 4096) (hD : (d3 X Y W 0 1 2).natAbs < 2 ^ 16) : d3 X Y W 0 1 2 ≠ 0 ∧ ∃ (a : Nat) (o q s013 s014 s023 s024 s123 s124 : Int), CH X Y W a b o q s013 s014 s023 s024 s123 s124 ∧ ((2 ^ 5 : Int) ∣ vv (-(q * s023)) (q * s013) (q * s014) → NB X Y W) := by
  have hC := SQ_CK hS hc
  have hd := d_ne hC hk ok hb hx hm
  refine ⟨hd, ?_⟩
  obtain ⟨a, o, h1, oo⟩ := two_split _ _ (Nat.le_refl _) hd
  have ha : a < 16 := pw_bd h1 hd hD
  have hmd : ∀ i j k, i < 5 → j < 5 → k < 5 → (2 ^ ((b + 1) / 2) : Int) ∣ d3 X Y W i j k := fun i j k hi hj hk => half_dvd (cont_p hA he hi hj hk)
  have hba : b ≤ 2 * a := by
    have h2 := cont_p hA he (i := 0) (j := 1) (k := 2) (by decide) (by decide) (by decide)
    apply Nat.le_of_not_lt
    intro w
    have o2 : (o * o) % 2 = 1 := by rw [Int.mul_emod, oo]; rfl
    have h4 : (2 ^ (2 * a + 1) : Int) ∣ d3 X Y W 0 1 2 * d3 X Y W 0 1 2 := pw_le_dvd (by omega) h2
    have e : d3 X Y W 0 1 2 * d3 X Y W 0 1 2 = (o * o) * 2 ^ (2 * a) := by rw [h1, show 2 * a = a + a by omega, Int.pow_add]; grind
    rw [e] at h4
    obtain ⟨t, ht⟩ := odd_cancel o2 _ _ h4
    rw [Int.pow_succ] at ht
    have hp : (2 ^ (2 * a) : Int) ≠ 0 := Int.ne_of_gt (Int.pow_pos (by decide))
    have : (1 : Int) = 2 * t := by
      apply Int.eq_of_mul_eq_mul_left hp
      grind
    omega
  have ml : ∀ l, l < 5 → (2 ^ a : Int) ∣ d3 X Y W 0 1 l ∧ (2 ^ a : Int) ∣ d3 X Y W 0 2 l ∧ (2 ^ a : Int) ∣ d3 X Y W 1 2 l := fun l hl => mind_l (m := (b + 1) / 2) hC.1 hC.2.1 hC.2.2.1 (hA.2 0 l (by decide) hl) (hA.2 2 l (by decide) hl) (hA.1 l hl) (hA.2 1 2 (by decide) (by decide)) (hA.1 2 (by decide)) hk ok h1 oo (hmd 1 2 l (by decide) (by decide) hl) (hmd 0 2 l (by decide) (by decide) hl) (by omega) (by omega) (by omega)
  obtain ⟨⟨s013, h013⟩, ⟨s023, h023⟩, ⟨s123, h123⟩⟩ := ml 3 (by decide)
  obtain ⟨⟨s014, h014⟩, ⟨s024, h024⟩, ⟨s124, h124⟩⟩ := ml 4 (by decide)
  obtain ⟨q, hq, c3, c4, r5, r6, r7, r8⟩ := chartM hC h1 oo h013 h014 h023 h024 h123 h124 hk ok (by omega)
  refine ⟨a, o, q, s013, s014, s023, s024, s123, s124, ⟨h1, oo, h013, h014, h023, h024, h123, h124, hba, hq, r5, r6, r7, r8⟩, fun hv => ?_⟩
  obtain ⟨κ, k1, k2⟩ := kap hd
  have hκ : κ ≤ 50 := by
    have h3 := (k1 (X 2) (Y 2) (W 2)).1
    have e : m3 X Y W (X 2) (Y 2) (W 2) 0 1 = d3 X Y W 0 1 2 := by unfold m3 d3; grind
    rw [e] at h3
    apply Nat.le_of_not_lt
    intro w
    exact hd (small_zero (k := 16) (pw_le_dvd (by omega) h3) hD)
  have hg : (2 ^ 5 : Int) ∣ -(q * s024) + q * s013 * (q * s014) := by
    apply sq_dvd
    have e : (-(q * s024) + q * s013 * (q * s014)) * (-(q * s024) + q * s013 * (q * s014)) = q * s014 * (vv (-(q * s023)) (q * s013) (q * s014) * vv (-(q * s023)) (q * s013) (q * s014)) - (q * s014 * vv (-(q * s023)) (q * s013) (q * s014) * vv (-(q * s023)) (q * s013) (q * s014) - (-(q * s024) + q * s013 * (q * s014)) * (-(q * s024) + q * s013 * (q * s014))) := by grind
    rw [e]
    exact Int.dvd_sub (dl _ (pw_le_dvd (i := 2 * 5) (j := 5 + 5) (by decide) (dvd_mul2 hv hv))) (pw_le_dvd (by omega) r8)
  exact ⟨κ, fun x y w => near_F c3 c4 hv hg (pw_le_dvd (by omega) r5) (pw_le_dvd (by omega) r6) x y w (k1 x y w).1 (k1 x y w).2.1 (k1 x y w).2.2 hκ, gcross c3 hκ k1 k2⟩
theorem hL_zero {X Y W : Nat → Int} (hP0 : bP X Y W) (h : ∀ i, (2 ^ 42 : Int) ∣ gd (hL X Y W) i) : hP 0 X Y W = 0 ∧ hP 1 X Y W = 0 ∧ hP 2 X Y W = 0 ∧ hP 3 X Y W = 0 := ⟨small_zero (h 0) (hP_b hP0 0 (by decide)), small_zero (h 1) (hP_b hP0 1 (by decide)), small_zero (h 2) (hP_b hP0 2 (by decide)), small_zero (h 3) (hP_b hP0 3 (by decide))⟩
/-- a chart at the row itself: on the double conic, or nothing -/
theorem plain0 {X Y W e G : Nat → Int} {c k : Int} {b : Nat} (hS : SQ X Y W e G c) (hc : c ≠ 0) (he : ∃ i, i < 6 ∧ e i % 2 = 1) (hA : dvA b e X Y W) (hk : sP e X Y W 0 2 = 2 ^ b * k) (ok : k % 2 = 1) (hb : b ≤ 20) (hx : (X 0).natAbs < 64 ∧ (Y 0).natAbs < 64 ∧ (W 0).natAbs < 64) (hm : (m3 X Y W 1 0 0 0 1).natAbs < 4096 ∧ (m3 X Y W 0 1 0 0 1).natAbs < 4096 ∧ (m3 X Y W 0 0 1 0 1).natAbs < 4096) (hP0 : bP X Y W) : (d3 X Y W 0 1 2 ≠ 0 ∧ EA X Y W) ∨ ∀ x y w : Int, FF X Y W x y w = 0 := by
  obtain ⟨hd, a, o, q, s013, s014, s023, s024, s123, s124, ⟨h1, oo, h013, h014, h023, h024, h123, h124, hba, hq, r5, r6, r7, r8⟩, hn⟩ := chart_main hS hc he hA hk ok hb hx hm (Nat.lt_of_le_of_lt (hP0 0 1 2 (by decide) (by decide) (by decide)) (by decide))
  by_cases hv : (2 ^ 5 : Int) ∣ vv (-(q * s023)) (q * s013) (q * s014)
  · obtain ⟨g0, g1, g2, g3⟩ := hL_zero hP0 (NB_h hS hc he (hn hv))
    rcases row_exact hd g0 g1 g2 g3 with z | z
    · exact Or.inl ⟨hd, z⟩
    · exact Or.inr z
  · exact Or.inl ⟨hd, caseA h1 oo h013 h014 h023 h024 h123 h124 hb hba hP0 hq r5 r6 r7 r8 hv⟩
/-- with an odd middle: no double conic -/
theorem plain1 {X Y W e G : Nat → Int} {c k k3 : Int} {b : Nat} (hS : SQ X Y W e G c) (hc : c ≠ 0) (he : ∃ i, i < 6 ∧ e i % 2 = 1) (hA : dvA b e X Y W) (hk : sP e X Y W 0 2 = 2 ^ b * k) (ok : k % 2 = 1) (hk3 : sP e X Y W 0 3 = 2 ^ b * k3) (ok3 : k3 % 2 = 1) (hb : b ≤ 20) (hx : (X 0).natAbs < 64 ∧ (Y 0).natAbs < 64 ∧ (W 0).natAbs < 64) (hm : (m3 X Y W 1 0 0 0 1).natAbs < 4096 ∧ (m3 X Y W 0 1 0 0 1).natAbs < 4096 ∧ (m3 X Y W 0 0 1 0 1).natAbs < 4096) (hD : (d3 X Y W 0 1 2).natAbs < 2 ^ 16) : d3 X Y W 0 1 2 ≠ 0 ∧ NB X Y W ∧ ¬ EA X Y W := by
  obtain ⟨hd, a, o, q, s013, s014, s023, s024, s123, s124, ⟨h1, oo, h013, h014, h023, h024, h123, h124, hba, hq, r5, r6, r7, r8⟩, hn⟩ := chart_main hS hc he hA hk ok hb hx hm hD
  have hC := SQ_CK hS hc
  have o3 : s013 % 2 = 1 := by
    have I1 := sP_cmb e X Y W 0 0 1 2 3 _ _ _ _ (cramX X Y W 0 1 2 3) (cramY X Y W 0 1 2 3) (cramW X Y W 0 1 2 3)
    rw [sP_self, h1, h023, h013, h123, hk, hk3] at I1
    obtain ⟨t0, ht0⟩ := hC.1
    obtain ⟨t1, ht1⟩ := hC.2.1
    have hp : (2 ^ a : Int) ≠ 0 := Int.ne_of_gt (Int.pow_pos (by decide))
    have hp2 : (2 ^ b : Int) ≠ 0 := Int.ne_of_gt (Int.pow_pos (by decide))
    rw [ht0, ht1, show (2 ^ 32 : Int) = 2 ^ b * 2 ^ (32 - b) by rw [← Int.pow_add]; congr 1; omega] at I1
    obtain ⟨cc, hcc⟩ : ∃ cc, 32 - b = cc + 1 := ⟨31 - b, by omega⟩
    rw [hcc, Int.pow_succ] at I1
    have e1 : o * k3 = 2 * (2 * s123 * (2 ^ cc * t0)) - 2 * (s023 * (2 ^ cc * t1)) + s013 * k := by
      apply Int.eq_of_mul_eq_mul_left hp
      apply Int.eq_of_mul_eq_mul_left hp2
      grind
    have e2 : (o * k3) % 2 = 1 := by rw [Int.mul_emod, oo, ok3]; rfl
    rcases Int.emod_two_eq s013 with z | z
    · exfalso
      have e3 : (s013 * k) % 2 = 0 := by rw [Int.mul_emod, z, Int.zero_mul]; rfl
      omega
    · exact z
  have oq : q % 2 = 1 := by
    obtain ⟨t, ht⟩ := hq
    rcases Int.emod_two_eq q with z | z
    · exfalso
      have e3 : o * q = 2 * (2 ^ 63 * t) + 1 := by omega
      have e4 : (o * q) % 2 = 0 := by rw [Int.mul_emod, z, Int.mul_zero]; rfl
      omega
    · exact z
  have ox : (q * s013) % 2 = 1 := by rw [Int.mul_emod, oq, o3]; rfl
  have ou : ¬ (2 : Int) ∣ uu4 (q * s013) (q * s014) := fun h => by
    have h2 : (q * s013 * (q * s013)) % 2 = 1 := by rw [Int.mul_emod, ox]; rfl
    unfold uu4 at h
    omega
  refine ⟨hd, hn (Classical.byContradiction fun hv => ou ?_), fun hE => ?_⟩
  · obtain ⟨ν, v', hv1, hv2, hv3⟩ := small_nu (M := 0) hv
    exact pw_le_dvd (i := 1) (j := 32 - b + 1 - 2 * ν) (by omega) (near_u hv1 hv2 r7 r8 (by omega)).2
  · have h2 := hE.1
    rw [h1, h014, h013] at h2
    have hp : (2 ^ a : Int) ≠ 0 := Int.ne_of_gt (Int.pow_pos (by decide))
    have e1 : s013 * s013 = 4 * (o * s014) := by
      apply Int.eq_of_mul_eq_mul_left (Int.mul_ne_zero hp hp)
      grind
    have e2 : (s013 * s013) % 2 = 1 := by rw [Int.mul_emod, o3]; rfl
    omega
end
section
/-! the row read backwards, and the row at t + 1 -/
def rv (X : Nat → Int) : Nat → Int := fun i => X (4 - i)
theorem m3_rv (X Y W : Nat → Int) (x y w : Int) (i j : Nat) : m3 (rv X) (rv Y) (rv W) x y w i j = m3 X Y W x y w (4 - i) (4 - j) := rfl
theorem dS_rv (a b c d e f g h i j : Int) : dS (-j) (-i) (-g) (-d) (-h) (-f) (-c) (-e) (-b) (-a) = dS a b c d e f g h i j := by
  unfold dS det4
  grind
theorem FF_rv (X Y W : Nat → Int) (x y w : Int) : FF (rv X) (rv Y) (rv W) x y w = FF X Y W x y w := by
  unfold FF
  simp only [m3_rv]
  show dS (m3 X Y W x y w 4 3) (m3 X Y W x y w 4 2) (m3 X Y W x y w 4 1) (m3 X Y W x y w 4 0) (m3 X Y W x y w 4 1 + m3 X Y W x y w 3 2) (m3 X Y W x y w 4 0 + m3 X Y W x y w 3 1) (m3 X Y W x y w 3 0) (m3 X Y W x y w 3 0 + m3 X Y W x y w 2 1) (m3 X Y W x y w 2 0) (m3 X Y W x y w 1 0) = _
  rw [m3_anti X Y W x y w 4 3, m3_anti X Y W x y w 4 2, m3_anti X Y W x y w 4 1, m3_anti X Y W x y w 4 0, m3_anti X Y W x y w 3 2, m3_anti X Y W x y w 3 1, m3_anti X Y W x y w 3 0, m3_anti X Y W x y w 2 1, m3_anti X Y W x y w 2 0, m3_anti X Y W x y w 1 0]
  rw [← Int.neg_add, ← Int.neg_add, ← Int.neg_add]
  exact dS_rv _ _ _ _ _ _ _ _ _ _
theorem SQ_rv {X Y W e G : Nat → Int} {c : Int} (h : SQ X Y W e G c) : SQ (rv X) (rv Y) (rv W) e G c := fun x y w => by rw [FF_rv]; exact h x y w
def sf (X : Nat → Int) : Nat → Int := fun i => match i with
  | 0 => X 0 + X 1 + X 2 + X 3 + X 4
  | 1 => X 1 + 2 * X 2 + 3 * X 3 + 4 * X 4
  | 2 => X 2 + 3 * X 3 + 6 * X 4
  | 3 => X 3 + 4 * X 4
  | 4 => X 4
  | _ => 0
theorem dS_s2 (a b c d e f g h i j : Int) : dS a b (c + d) d e (f + g) g (h + 2 * i + j) (i + j) j = dS a b c d e f g h i j := by
  unfold dS det4
  grind
theorem dS_s1 (a b c d e f g h i j : Int) : dS a (b + c) c d (e + 2 * f + h) (f + h) (g + i) h i j = dS a b c d e f g h i j := by
  unfold dS det4
  grind
theorem dS_s0 (a b c d e f g h i j : Int) : dS (a + 2 * b + e) (b + e) (c + f) (d + g) e f g h i j = dS a b c d e f g h i j := by
  unfold dS det4
  grind
theorem dS_sf (a b c d e f g h i j : Int) : dS (a + 2 * b + 2 * c + 2 * d + e + 2 * f + 2 * g + h + 2 * i + j) (b + 2 * c + 3 * d + e + 3 * f + 4 * g + 2 * h + 5 * i + 3 * j) (c + 3 * d + f + 3 * g + h + 4 * i + 3 * j) (d + g + i + j) (e + 4 * f + 6 * g + 4 * h + 12 * i + 9 * j) (f + 3 * g + 2 * h + 9 * i + 9 * j) (g + 2 * i + 3 * j) (h + 6 * i + 9 * j) (i + 3 * j) (j) = dS a b c d e f g h i j := by
  have k5 := dS_s2 (a + 2 * b + 2 * c + 2 * d + e + 2 * f + 2 * g + h + 2 * i + j) (b + 2 * c + 3 * d + e + 3 * f + 4 * g + 2 * h + 5 * i + 3 * j) (c + 2 * d + f + 2 * g + h + 3 * i + 2 * j) (d + g + i + j) (e + 4 * f + 6 * g + 4 * h + 12 * i + 9 * j) (f + 2 * g + 2 * h + 7 * i + 6 * j) (g + 2 * i + 3 * j) (h + 4 * i + 4 * j) (i + 2 * j) (j)
  have k4 := dS_s1 (a + 2 * b + 2 * c + 2 * d + e + 2 * f + 2 * g + h + 2 * i + j) (b + c + d + e + 2 * f + 2 * g + h + 2 * i + j) (c + 2 * d + f + 2 * g + h + 3 * i + 2 * j) (d + g + i + j) (e + 2 * f + 2 * g + h + 2 * i + j) (f + 2 * g + h + 3 * i + 2 * j) (g + i + j) (h + 4 * i + 4 * j) (i + 2 * j) (j)
  have k3 := dS_s2 (a + 2 * b + 2 * c + 2 * d + e + 2 * f + 2 * g + h + 2 * i + j) (b + c + d + e + 2 * f + 2 * g + h + 2 * i + j) (c + d + f + g + h + 2 * i + j) (d + g + i + j) (e + 2 * f + 2 * g + h + 2 * i + j) (f + g + h + 2 * i + j) (g + i + j) (h + 2 * i + j) (i + j) (j)
  have k2 := dS_s0 (a) (b + c + d) (c + d) (d) (e + 2 * f + 2 * g + h + 2 * i + j) (f + g + h + 2 * i + j) (g + i + j) (h + 2 * i + j) (i + j) (j)
  have k1 := dS_s1 (a) (b) (c + d) (d) (e) (f + g) (g) (h + 2 * i + j) (i + j) (j)
  have k0 := dS_s2 (a) (b) (c) (d) (e) (f) (g) (h) (i) (j)
  have f1 : dS (a + 2 * b + 2 * c + 2 * d + e + 2 * f + 2 * g + h + 2 * i + j) (b + 2 * c + 3 * d + e + 3 * f + 4 * g + 2 * h + 5 * i + 3 * j) (c + 3 * d + f + 3 * g + h + 4 * i + 3 * j) (d + g + i + j) (e + 4 * f + 6 * g + 4 * h + 12 * i + 9 * j) (f + 3 * g + 2 * h + 9 * i + 9 * j) (g + 2 * i + 3 * j) (h + 6 * i + 9 * j) (i + 3 * j) (j) = dS (a + 2 * b + 2 * c + 2 * d + e + 2 * f + 2 * g + h + 2 * i + j) (b + 2 * c + 3 * d + e + 3 * f + 4 * g + 2 * h + 5 * i + 3 * j) (c + 2 * d + f + 2 * g + h + 3 * i + 2 * j) (d + g + i + j) (e + 4 * f + 6 * g + 4 * h + 12 * i + 9 * j) (f + 2 * g + 2 * h + 7 * i + 6 * j) (g + 2 * i + 3 * j) (h + 4 * i + 4 * j) (i + 2 * j) (j) := by
    refine Eq.trans ?_ k5
    first | rfl | (congr 1 <;> omega)
  have f2 : dS (a + 2 * b + 2 * c + 2 * d + e + 2 * f + 2 * g + h + 2 * i + j) (b + 2 * c + 3 * d + e + 3 * f + 4 * g + 2 * h + 5 * i + 3 * j) (c + 2 * d + f + 2 * g + h + 3 * i + 2 * j) (d + g + i + j) (e + 4 * f + 6 * g + 4 * h + 12 * i + 9 * j) (f + 2 * g + 2 * h + 7 * i + 6 * j) (g + 2 * i + 3 * j) (h + 4 * i + 4 * j) (i + 2 * j) (j) = dS (a + 2 * b + 2 * c + 2 * d + e + 2 * f + 2 * g + h + 2 * i + j) (b + c + d + e + 2 * f + 2 * g + h + 2 * i + j) (c + 2 * d + f + 2 * g + h + 3 * i + 2 * j) (d + g + i + j) (e + 2 * f + 2 * g + h + 2 * i + j) (f + 2 * g + h + 3 * i + 2 * j) (g + i + j) (h + 4 * i + 4 * j) (i + 2 * j) (j) := by
    refine Eq.trans ?_ k4
    first | done | rfl | (congr 1 <;> omega)
  have f3 : dS (a + 2 * b + 2 * c + 2 * d + e + 2 * f + 2 * g + h + 2 * i + j) (b + c + d + e + 2 * f + 2 * g + h + 2 * i + j) (c + 2 * d + f + 2 * g + h + 3 * i + 2 * j) (d + g + i + j) (e + 2 * f + 2 * g + h + 2 * i + j) (f + 2 * g + h + 3 * i + 2 * j) (g + i + j) (h + 4 * i + 4 * j) (i + 2 * j) (j) = dS (a + 2 * b + 2 * c + 2 * d + e + 2 * f + 2 * g + h + 2 * i + j) (b + c + d + e + 2 * f + 2 * g + h + 2 * i + j) (c + d + f + g + h + 2 * i + j) (d + g + i + j) (e + 2 * f + 2 * g + h + 2 * i + j) (f + g + h + 2 * i + j) (g + i + j) (h + 2 * i + j) (i + j) (j) := by
    refine Eq.trans ?_ k3
    first | done | rfl | (congr 1 <;> omega)
  have f4 : dS (a + 2 * b + 2 * c + 2 * d + e + 2 * f + 2 * g + h + 2 * i + j) (b + c + d + e + 2 * f + 2 * g + h + 2 * i + j) (c + d + f + g + h + 2 * i + j) (d + g + i + j) (e + 2 * f + 2 * g + h + 2 * i + j) (f + g + h + 2 * i + j) (g + i + j) (h + 2 * i + j) (i + j) (j) = dS (a) (b + c + d) (c + d) (d) (e + 2 * f + 2 * g + h + 2 * i + j) (f + g + h + 2 * i + j) (g + i + j) (h + 2 * i + j) (i + j) (j) := by
    refine Eq.trans ?_ k2
    first | done | rfl | (congr 1 <;> omega)
  have f5 : dS (a) (b + c + d) (c + d) (d) (e + 2 * f + 2 * g + h + 2 * i + j) (f + g + h + 2 * i + j) (g + i + j) (h + 2 * i + j) (i + j) (j) = dS (a) (b) (c + d) (d) (e) (f + g) (g) (h + 2 * i + j) (i + j) (j) := by
    refine Eq.trans ?_ k1
    first | done | rfl | (congr 1 <;> omega)
  have f6 : dS (a) (b) (c + d) (d) (e) (f + g) (g) (h + 2 * i + j) (i + j) (j) = dS (a) (b) (c) (d) (e) (f) (g) (h) (i) (j) := by
    refine Eq.trans ?_ k0
    first | done | rfl | (congr 1 <;> omega)
  rw [f1, f2, f3, f4, f5, f6]
theorem ms_a (X Y W : Nat → Int) (x y w : Int) : m3 (sf X) (sf Y) (sf W) x y w 0 1 = (m3 X Y W x y w 0 1) + 2 * (m3 X Y W x y w 0 2) + 2 * (m3 X Y W x y w 0 3) + 2 * (m3 X Y W x y w 0 4) + (m3 X Y W x y w 0 3 + m3 X Y W x y w 1 2) + 2 * (m3 X Y W x y w 0 4 + m3 X Y W x y w 1 3) + 2 * (m3 X Y W x y w 1 4) + (m3 X Y W x y w 1 4 + m3 X Y W x y w 2 3) + 2 * (m3 X Y W x y w 2 4) + (m3 X Y W x y w 3 4) := by
  simp only [m3, sf]
  grind
theorem ms_b (X Y W : Nat → Int) (x y w : Int) : m3 (sf X) (sf Y) (sf W) x y w 0 2 = (m3 X Y W x y w 0 2) + 2 * (m3 X Y W x y w 0 3) + 3 * (m3 X Y W x y w 0 4) + (m3 X Y W x y w 0 3 + m3 X Y W x y w 1 2) + 3 * (m3 X Y W x y w 0 4 + m3 X Y W x y w 1 3) + 4 * (m3 X Y W x y w 1 4) + 2 * (m3 X Y W x y w 1 4 + m3 X Y W x y w 2 3) + 5 * (m3 X Y W x y w 2 4) + 3 * (m3 X Y W x y w 3 4) := by
  simp only [m3, sf]
  grind
theorem ms_c (X Y W : Nat → Int) (x y w : Int) : m3 (sf X) (sf Y) (sf W) x y w 0 3 = (m3 X Y W x y w 0 3) + 3 * (m3 X Y W x y w 0 4) + (m3 X Y W x y w 0 4 + m3 X Y W x y w 1 3) + 3 * (m3 X Y W x y w 1 4) + (m3 X Y W x y w 1 4 + m3 X Y W x y w 2 3) + 4 * (m3 X Y W x y w 2 4) + 3 * (m3 X Y W x y w 3 4) := by
  simp only [m3, sf]
  grind
theorem ms_d (X Y W : Nat → Int) (x y w : Int) : m3 (sf X) (sf Y) (sf W) x y w 0 4 = (m3 X Y W x y w 0 4) + (m3 X Y W x y w 1 4) + (m3 X Y W x y w 2 4) + (m3 X Y W x y w 3 4) := by
  simp only [m3, sf]
  grind
theorem ms_e (X Y W : Nat → Int) (x y w : Int) : m3 (sf X) (sf Y) (sf W) x y w 0 3 + m3 (sf X) (sf Y) (sf W) x y w 1 2 = (m3 X Y W x y w 0 3 + m3 X Y W x y w 1 2) + 4 * (m3 X Y W x y w 0 4 + m3 X Y W x y w 1 3) + 6 * (m3 X Y W x y w 1 4) + 4 * (m3 X Y W x y w 1 4 + m3 X Y W x y w 2 3) + 12 * (m3 X Y W x y w 2 4) + 9 * (m3 X Y W x y w 3 4) := by
  simp only [m3, sf]
  grind
theorem ms_f (X Y W : Nat → Int) (x y w : Int) : m3 (sf X) (sf Y) (sf W) x y w 0 4 + m3 (sf X) (sf Y) (sf W) x y w 1 3 = (m3 X Y W x y w 0 4 + m3 X Y W x y w 1 3) + 3 * (m3 X Y W x y w 1 4) + 2 * (m3 X Y W x y w 1 4 + m3 X Y W x y w 2 3) + 9 * (m3 X Y W x y w 2 4) + 9 * (m3 X Y W x y w 3 4) := by
  simp only [m3, sf]
  grind
theorem ms_g (X Y W : Nat → Int) (x y w : Int) : m3 (sf X) (sf Y) (sf W) x y w 1 4 = (m3 X Y W x y w 1 4) + 2 * (m3 X Y W x y w 2 4) + 3 * (m3 X Y W x y w 3 4) := by
  simp only [m3, sf]
  grind
theorem ms_h (X Y W : Nat → Int) (x y w : Int) : m3 (sf X) (sf Y) (sf W) x y w 1 4 + m3 (sf X) (sf Y) (sf W) x y w 2 3 = (m3 X Y W x y w 1 4 + m3 X Y W x y w 2 3) + 6 * (m3 X Y W x y w 2 4) + 9 * (m3 X Y W x y w 3 4) := by
  simp only [m3, sf]
  grind
theorem ms_i (X Y W : Nat → Int) (x y w : Int) : m3 (sf X) (sf Y) (sf W) x y w 2 4 = (m3 X Y W x y w 2 4) + 3 * (m3 X Y W x y w 3 4) := by
  simp only [m3, sf]
  grind
theorem ms_j (X Y W : Nat → Int) (x y w : Int) : m3 (sf X) (sf Y) (sf W) x y w 3 4 = (m3 X Y W x y w 3 4) := by
  simp only [m3, sf]
  grind
theorem FF_sf (X Y W : Nat → Int) (x y w : Int) : FF (sf X) (sf Y) (sf W) x y w = FF X Y W x y w := by
  unfold FF
  rw [ms_e, ms_f, ms_h, ms_a, ms_b, ms_c, ms_d, ms_g, ms_i, ms_j]
  exact dS_sf _ _ _ _ _ _ _ _ _ _
theorem SQ_sf {X Y W e G : Nat → Int} {c : Int} (h : SQ X Y W e G c) : SQ (sf X) (sf Y) (sf W) e G c := fun x y w => by rw [FF_sf]; exact h x y w
end
section
theorem hz0_sf (a000 a100 a200 a110 a210 a220 a111 a211 a221 a222 : Int) : hz0 (a000 + 3 * a100 + 3 * a200 + 3 * a110 + 6 * a210 + 3 * a220 + a111 + 3 * a211 + 3 * a221 + a222) (a100 + 2 * a110 + 6 * a210 + a111 + 4 * a211 + 5 * a221 + 2 * a200 + 4 * a220 + 2 * a222) (a200 + 2 * a210 + 2 * a220 + a211 + 2 * a221 + a222) (a110 + a111 + 5 * a211 + 4 * a210 + 8 * a221 + 4 * a220 + 4 * a222) (a210 + a211 + 3 * a221 + 2 * a220 + 2 * a222) (a220 + a221 + a222) (a111 + 6 * a211 + 12 * a221 + 8 * a222) (a211 + 4 * a221 + 4 * a222) (a221 + 2 * a222) (a222) = hz0 a000 a100 a200 a110 a210 a220 a111 a211 a221 a222 + hz1 a000 a100 a200 a110 a210 a220 a111 a211 a221 a222 + hz2 a000 a100 a200 a110 a210 a220 a111 a211 a221 a222 + hz3 a000 a100 a200 a110 a210 a220 a111 a211 a221 a222 + hz4 a000 a100 a200 a110 a210 a220 a111 a211 a221 a222 + hz5 a000 a100 a200 a110 a210 a220 a111 a211 a221 a222 + hz6 a000 a100 a200 a110 a210 a220 a111 a211 a221 a222 := by
  unfold hz0 hz1 hz2 hz3 hz4 hz5 hz6
  grind
theorem hz1_sf (a000 a100 a200 a110 a210 a220 a111 a211 a221 a222 : Int) : hz1 (a000 + 3 * a100 + 3 * a200 + 3 * a110 + 6 * a210 + 3 * a220 + a111 + 3 * a211 + 3 * a221 + a222) (a100 + 2 * a110 + 6 * a210 + a111 + 4 * a211 + 5 * a221 + 2 * a200 + 4 * a220 + 2 * a222) (a200 + 2 * a210 + 2 * a220 + a211 + 2 * a221 + a222) (a110 + a111 + 5 * a211 + 4 * a210 + 8 * a221 + 4 * a220 + 4 * a222) (a210 + a211 + 3 * a221 + 2 * a220 + 2 * a222) (a220 + a221 + a222) (a111 + 6 * a211 + 12 * a221 + 8 * a222) (a211 + 4 * a221 + 4 * a222) (a221 + 2 * a222) (a222) = hz1 a000 a100 a200 a110 a210 a220 a111 a211 a221 a222 + 2 * hz2 a000 a100 a200 a110 a210 a220 a111 a211 a221 a222 + 3 * hz3 a000 a100 a200 a110 a210 a220 a111 a211 a221 a222 + 4 * hz4 a000 a100 a200 a110 a210 a220 a111 a211 a221 a222 + 5 * hz5 a000 a100 a200 a110 a210 a220 a111 a211 a221 a222 + 6 * hz6 a000 a100 a200 a110 a210 a220 a111 a211 a221 a222 := by
  unfold hz1 hz2 hz3 hz4 hz5 hz6
  grind
theorem hz2_sf (a000 a100 a200 a110 a210 a220 a111 a211 a221 a222 : Int) : hz2 (a000 + 3 * a100 + 3 * a200 + 3 * a110 + 6 * a210 + 3 * a220 + a111 + 3 * a211 + 3 * a221 + a222) (a100 + 2 * a110 + 6 * a210 + a111 + 4 * a211 + 5 * a221 + 2 * a200 + 4 * a220 + 2 * a222) (a200 + 2 * a210 + 2 * a220 + a211 + 2 * a221 + a222) (a110 + a111 + 5 * a211 + 4 * a210 + 8 * a221 + 4 * a220 + 4 * a222) (a210 + a211 + 3 * a221 + 2 * a220 + 2 * a222) (a220 + a221 + a222) (a111 + 6 * a211 + 12 * a221 + 8 * a222) (a211 + 4 * a221 + 4 * a222) (a221 + 2 * a222) (a222) = hz2 a000 a100 a200 a110 a210 a220 a111 a211 a221 a222 + 3 * hz3 a000 a100 a200 a110 a210 a220 a111 a211 a221 a222 + 6 * hz4 a000 a100 a200 a110 a210 a220 a111 a211 a221 a222 + 10 * hz5 a000 a100 a200 a110 a210 a220 a111 a211 a221 a222 + 15 * hz6 a000 a100 a200 a110 a210 a220 a111 a211 a221 a222 := by
  unfold hz2 hz3 hz4 hz5 hz6
  grind
theorem hz3_sf (a000 a100 a200 a110 a210 a220 a111 a211 a221 a222 : Int) : hz3 (a000 + 3 * a100 + 3 * a200 + 3 * a110 + 6 * a210 + 3 * a220 + a111 + 3 * a211 + 3 * a221 + a222) (a100 + 2 * a110 + 6 * a210 + a111 + 4 * a211 + 5 * a221 + 2 * a200 + 4 * a220 + 2 * a222) (a200 + 2 * a210 + 2 * a220 + a211 + 2 * a221 + a222) (a110 + a111 + 5 * a211 + 4 * a210 + 8 * a221 + 4 * a220 + 4 * a222) (a210 + a211 + 3 * a221 + 2 * a220 + 2 * a222) (a220 + a221 + a222) (a111 + 6 * a211 + 12 * a221 + 8 * a222) (a211 + 4 * a221 + 4 * a222) (a221 + 2 * a222) (a222) = hz3 a000 a100 a200 a110 a210 a220 a111 a211 a221 a222 + 4 * hz4 a000 a100 a200 a110 a210 a220 a111 a211 a221 a222 + 10 * hz5 a000 a100 a200 a110 a210 a220 a111 a211 a221 a222 + 20 * hz6 a000 a100 a200 a110 a210 a220 a111 a211 a221 a222 := by
  unfold hz3 hz4 hz5 hz6
  grind
theorem d3_sf012 (X Y W : Nat → Int) : d3 (sf X) (sf Y) (sf W) 0 1 2 = d3 X Y W 0 1 2 + 3 * d3 X Y W 0 1 3 + 6 * d3 X Y W 0 1 4 + 3 * d3 X Y W 0 2 3 + 8 * d3 X Y W 0 2 4 + 6 * d3 X Y W 0 3 4 + d3 X Y W 1 2 3 + 3 * d3 X Y W 1 2 4 + 3 * d3 X Y W 1 3 4 + d3 X Y W 2 3 4 := by
  simp only [d3, sf]
  grind
theorem d3_sf013 (X Y W : Nat → Int) : d3 (sf X) (sf Y) (sf W) 0 1 3 = d3 X Y W 0 1 3 + 4 * d3 X Y W 0 1 4 + 2 * d3 X Y W 0 2 3 + 8 * d3 X Y W 0 2 4 + 8 * d3 X Y W 0 3 4 + d3 X Y W 1 2 3 + 4 * d3 X Y W 1 2 4 + 5 * d3 X Y W 1 3 4 + 2 * d3 X Y W 2 3 4 := by
  simp only [d3, sf]
  grind
theorem d3_sf014 (X Y W : Nat → Int) : d3 (sf X) (sf Y) (sf W) 0 1 4 = d3 X Y W 0 1 4 + 2 * d3 X Y W 0 2 4 + 3 * d3 X Y W 0 3 4 + d3 X Y W 1 2 4 + 2 * d3 X Y W 1 3 4 + d3 X Y W 2 3 4 := by
  simp only [d3, sf]
  grind
theorem d3_sf023 (X Y W : Nat → Int) : d3 (sf X) (sf Y) (sf W) 0 2 3 = d3 X Y W 0 2 3 + 4 * d3 X Y W 0 2 4 + 6 * d3 X Y W 0 3 4 + d3 X Y W 1 2 3 + 4 * d3 X Y W 1 2 4 + 6 * d3 X Y W 1 3 4 + 3 * d3 X Y W 2 3 4 := by
  simp only [d3, sf]
  grind
theorem d3_sf024 (X Y W : Nat → Int) : d3 (sf X) (sf Y) (sf W) 0 2 4 = d3 X Y W 0 2 4 + 3 * d3 X Y W 0 3 4 + d3 X Y W 1 2 4 + 3 * d3 X Y W 1 3 4 + 2 * d3 X Y W 2 3 4 := by
  simp only [d3, sf]
  grind
theorem d3_sf034 (X Y W : Nat → Int) : d3 (sf X) (sf Y) (sf W) 0 3 4 = d3 X Y W 0 3 4 + d3 X Y W 1 3 4 + d3 X Y W 2 3 4 := by
  simp only [d3, sf]
  grind
theorem d3_sf123 (X Y W : Nat → Int) : d3 (sf X) (sf Y) (sf W) 1 2 3 = d3 X Y W 1 2 3 + 4 * d3 X Y W 1 2 4 + 6 * d3 X Y W 1 3 4 + 4 * d3 X Y W 2 3 4 := by
  simp only [d3, sf]
  grind
theorem d3_sf124 (X Y W : Nat → Int) : d3 (sf X) (sf Y) (sf W) 1 2 4 = d3 X Y W 1 2 4 + 3 * d3 X Y W 1 3 4 + 3 * d3 X Y W 2 3 4 := by
  simp only [d3, sf]
  grind
theorem d3_sf134 (X Y W : Nat → Int) : d3 (sf X) (sf Y) (sf W) 1 3 4 = d3 X Y W 1 3 4 + 2 * d3 X Y W 2 3 4 := by
  simp only [d3, sf]
  grind
theorem d3_sf234 (X Y W : Nat → Int) : d3 (sf X) (sf Y) (sf W) 2 3 4 = d3 X Y W 2 3 4 := by
  simp only [d3, sf]
  grind
theorem hP0_sf {X Y W : Nat → Int} (h : ∀ k, k < 7 → hP k X Y W = 0) : hP 0 (sf X) (sf Y) (sf W) = 0 := by
  show hz0 (d3 (sf X) (sf Y) (sf W) 0 1 2) (d3 (sf X) (sf Y) (sf W) 0 1 3) (d3 (sf X) (sf Y) (sf W) 0 1 4) (d3 (sf X) (sf Y) (sf W) 0 1 4 + d3 (sf X) (sf Y) (sf W) 0 2 3) (d3 (sf X) (sf Y) (sf W) 0 2 4) (d3 (sf X) (sf Y) (sf W) 0 3 4) (2 * d3 (sf X) (sf Y) (sf W) 0 2 4 + d3 (sf X) (sf Y) (sf W) 1 2 3) (d3 (sf X) (sf Y) (sf W) 0 3 4 + d3 (sf X) (sf Y) (sf W) 1 2 4) (d3 (sf X) (sf Y) (sf W) 1 3 4) (d3 (sf X) (sf Y) (sf W) 2 3 4) = 0
  have q := hz0_sf (d3 X Y W 0 1 2) (d3 X Y W 0 1 3) (d3 X Y W 0 1 4) (d3 X Y W 0 1 4 + d3 X Y W 0 2 3) (d3 X Y W 0 2 4) (d3 X Y W 0 3 4) (2 * d3 X Y W 0 2 4 + d3 X Y W 1 2 3) (d3 X Y W 0 3 4 + d3 X Y W 1 2 4) (d3 X Y W 1 3 4) (d3 X Y W 2 3 4)
  have h0 : hz0 (d3 X Y W 0 1 2) (d3 X Y W 0 1 3) (d3 X Y W 0 1 4) (d3 X Y W 0 1 4 + d3 X Y W 0 2 3) (d3 X Y W 0 2 4) (d3 X Y W 0 3 4) (2 * d3 X Y W 0 2 4 + d3 X Y W 1 2 3) (d3 X Y W 0 3 4 + d3 X Y W 1 2 4) (d3 X Y W 1 3 4) (d3 X Y W 2 3 4) = 0 := h 0 (by decide)
  have h1 : hz1 (d3 X Y W 0 1 2) (d3 X Y W 0 1 3) (d3 X Y W 0 1 4) (d3 X Y W 0 1 4 + d3 X Y W 0 2 3) (d3 X Y W 0 2 4) (d3 X Y W 0 3 4) (2 * d3 X Y W 0 2 4 + d3 X Y W 1 2 3) (d3 X Y W 0 3 4 + d3 X Y W 1 2 4) (d3 X Y W 1 3 4) (d3 X Y W 2 3 4) = 0 := h 1 (by decide)
  have h2 : hz2 (d3 X Y W 0 1 2) (d3 X Y W 0 1 3) (d3 X Y W 0 1 4) (d3 X Y W 0 1 4 + d3 X Y W 0 2 3) (d3 X Y W 0 2 4) (d3 X Y W 0 3 4) (2 * d3 X Y W 0 2 4 + d3 X Y W 1 2 3) (d3 X Y W 0 3 4 + d3 X Y W 1 2 4) (d3 X Y W 1 3 4) (d3 X Y W 2 3 4) = 0 := h 2 (by decide)
  have h3 : hz3 (d3 X Y W 0 1 2) (d3 X Y W 0 1 3) (d3 X Y W 0 1 4) (d3 X Y W 0 1 4 + d3 X Y W 0 2 3) (d3 X Y W 0 2 4) (d3 X Y W 0 3 4) (2 * d3 X Y W 0 2 4 + d3 X Y W 1 2 3) (d3 X Y W 0 3 4 + d3 X Y W 1 2 4) (d3 X Y W 1 3 4) (d3 X Y W 2 3 4) = 0 := h 3 (by decide)
  have h4 : hz4 (d3 X Y W 0 1 2) (d3 X Y W 0 1 3) (d3 X Y W 0 1 4) (d3 X Y W 0 1 4 + d3 X Y W 0 2 3) (d3 X Y W 0 2 4) (d3 X Y W 0 3 4) (2 * d3 X Y W 0 2 4 + d3 X Y W 1 2 3) (d3 X Y W 0 3 4 + d3 X Y W 1 2 4) (d3 X Y W 1 3 4) (d3 X Y W 2 3 4) = 0 := h 4 (by decide)
  have h5 : hz5 (d3 X Y W 0 1 2) (d3 X Y W 0 1 3) (d3 X Y W 0 1 4) (d3 X Y W 0 1 4 + d3 X Y W 0 2 3) (d3 X Y W 0 2 4) (d3 X Y W 0 3 4) (2 * d3 X Y W 0 2 4 + d3 X Y W 1 2 3) (d3 X Y W 0 3 4 + d3 X Y W 1 2 4) (d3 X Y W 1 3 4) (d3 X Y W 2 3 4) = 0 := h 5 (by decide)
  have h6 : hz6 (d3 X Y W 0 1 2) (d3 X Y W 0 1 3) (d3 X Y W 0 1 4) (d3 X Y W 0 1 4 + d3 X Y W 0 2 3) (d3 X Y W 0 2 4) (d3 X Y W 0 3 4) (2 * d3 X Y W 0 2 4 + d3 X Y W 1 2 3) (d3 X Y W 0 3 4 + d3 X Y W 1 2 4) (d3 X Y W 1 3 4) (d3 X Y W 2 3 4) = 0 := h 6 (by decide)
  rw [h0, h1, h2, h3, h4, h5, h6] at q
  rw [d3_sf012, d3_sf013, d3_sf014, d3_sf023, d3_sf024, d3_sf034, d3_sf123, d3_sf124, d3_sf134, d3_sf234]
  refine Eq.trans ?_ (q.trans (by decide))
  congr 1 <;> omega
theorem hP1_sf {X Y W : Nat → Int} (h : ∀ k, k < 7 → hP k X Y W = 0) : hP 1 (sf X) (sf Y) (sf W) = 0 := by
  show hz1 (d3 (sf X) (sf Y) (sf W) 0 1 2) (d3 (sf X) (sf Y) (sf W) 0 1 3) (d3 (sf X) (sf Y) (sf W) 0 1 4) (d3 (sf X) (sf Y) (sf W) 0 1 4 + d3 (sf X) (sf Y) (sf W) 0 2 3) (d3 (sf X) (sf Y) (sf W) 0 2 4) (d3 (sf X) (sf Y) (sf W) 0 3 4) (2 * d3 (sf X) (sf Y) (sf W) 0 2 4 + d3 (sf X) (sf Y) (sf W) 1 2 3) (d3 (sf X) (sf Y) (sf W) 0 3 4 + d3 (sf X) (sf Y) (sf W) 1 2 4) (d3 (sf X) (sf Y) (sf W) 1 3 4) (d3 (sf X) (sf Y) (sf W) 2 3 4) = 0
  have q := hz1_sf (d3 X Y W 0 1 2) (d3 X Y W 0 1 3) (d3 X Y W 0 1 4) (d3 X Y W 0 1 4 + d3 X Y W 0 2 3) (d3 X Y W 0 2 4) (d3 X Y W 0 3 4) (2 * d3 X Y W 0 2 4 + d3 X Y W 1 2 3) (d3 X Y W 0 3 4 + d3 X Y W 1 2 4) (d3 X Y W 1 3 4) (d3 X Y W 2 3 4)
  have h0 : hz0 (d3 X Y W 0 1 2) (d3 X Y W 0 1 3) (d3 X Y W 0 1 4) (d3 X Y W 0 1 4 + d3 X Y W 0 2 3) (d3 X Y W 0 2 4) (d3 X Y W 0 3 4) (2 * d3 X Y W 0 2 4 + d3 X Y W 1 2 3) (d3 X Y W 0 3 4 + d3 X Y W 1 2 4) (d3 X Y W 1 3 4) (d3 X Y W 2 3 4) = 0 := h 0 (by decide)
  have h1 : hz1 (d3 X Y W 0 1 2) (d3 X Y W 0 1 3) (d3 X Y W 0 1 4) (d3 X Y W 0 1 4 + d3 X Y W 0 2 3) (d3 X Y W 0 2 4) (d3 X Y W 0 3 4) (2 * d3 X Y W 0 2 4 + d3 X Y W 1 2 3) (d3 X Y W 0 3 4 + d3 X Y W 1 2 4) (d3 X Y W 1 3 4) (d3 X Y W 2 3 4) = 0 := h 1 (by decide)
  have h2 : hz2 (d3 X Y W 0 1 2) (d3 X Y W 0 1 3) (d3 X Y W 0 1 4) (d3 X Y W 0 1 4 + d3 X Y W 0 2 3) (d3 X Y W 0 2 4) (d3 X Y W 0 3 4) (2 * d3 X Y W 0 2 4 + d3 X Y W 1 2 3) (d3 X Y W 0 3 4 + d3 X Y W 1 2 4) (d3 X Y W 1 3 4) (d3 X Y W 2 3 4) = 0 := h 2 (by decide)
  have h3 : hz3 (d3 X Y W 0 1 2) (d3 X Y W 0 1 3) (d3 X Y W 0 1 4) (d3 X Y W 0 1 4 + d3 X Y W 0 2 3) (d3 X Y W 0 2 4) (d3 X Y W 0 3 4) (2 * d3 X Y W 0 2 4 + d3 X Y W 1 2 3) (d3 X Y W 0 3 4 + d3 X Y W 1 2 4) (d3 X Y W 1 3 4) (d3 X Y W 2 3 4) = 0 := h 3 (by decide)
  have h4 : hz4 (d3 X Y W 0 1 2) (d3 X Y W 0 1 3) (d3 X Y W 0 1 4) (d3 X Y W 0 1 4 + d3 X Y W 0 2 3) (d3 X Y W 0 2 4) (d3 X Y W 0 3 4) (2 * d3 X Y W 0 2 4 + d3 X Y W 1 2 3) (d3 X Y W 0 3 4 + d3 X Y W 1 2 4) (d3 X Y W 1 3 4) (d3 X Y W 2 3 4) = 0 := h 4 (by decide)
  have h5 : hz5 (d3 X Y W 0 1 2) (d3 X Y W 0 1 3) (d3 X Y W 0 1 4) (d3 X Y W 0 1 4 + d3 X Y W 0 2 3) (d3 X Y W 0 2 4) (d3 X Y W 0 3 4) (2 * d3 X Y W 0 2 4 + d3 X Y W 1 2 3) (d3 X Y W 0 3 4 + d3 X Y W 1 2 4) (d3 X Y W 1 3 4) (d3 X Y W 2 3 4) = 0 := h 5 (by decide)
  have h6 : hz6 (d3 X Y W 0 1 2) (d3 X Y W 0 1 3) (d3 X Y W 0 1 4) (d3 X Y W 0 1 4 + d3 X Y W 0 2 3) (d3 X Y W 0 2 4) (d3 X Y W 0 3 4) (2 * d3 X Y W 0 2 4 + d3 X Y W 1 2 3) (d3 X Y W 0 3 4 + d3 X Y W 1 2 4) (d3 X Y W 1 3 4) (d3 X Y W 2 3 4) = 0 := h 6 (by decide)
  rw [h1, h2, h3, h4, h5, h6] at q
  rw [d3_sf012, d3_sf013, d3_sf014, d3_sf023, d3_sf024, d3_sf034, d3_sf123, d3_sf124, d3_sf134, d3_sf234]
  refine Eq.trans ?_ (q.trans (by decide))
  congr 1 <;> omega
theorem hP2_sf {X Y W : Nat → Int} (h : ∀ k, k < 7 → hP k X Y W = 0) : hP 2 (sf X) (sf Y) (sf W) = 0 := by
  show hz2 (d3 (sf X) (sf Y) (sf W) 0 1 2) (d3 (sf X) (sf Y) (sf W) 0 1 3) (d3 (sf X) (sf Y) (sf W) 0 1 4) (d3 (sf X) (sf Y) (sf W) 0 1 4 + d3 (sf X) (sf Y) (sf W) 0 2 3) (d3 (sf X) (sf Y) (sf W) 0 2 4) (d3 (sf X) (sf Y) (sf W) 0 3 4) (2 * d3 (sf X) (sf Y) (sf W) 0 2 4 + d3 (sf X) (sf Y) (sf W) 1 2 3) (d3 (sf X) (sf Y) (sf W) 0 3 4 + d3 (sf X) (sf Y) (sf W) 1 2 4) (d3 (sf X) (sf Y) (sf W) 1 3 4) (d3 (sf X) (sf Y) (sf W) 2 3 4) = 0
  have q := hz2_sf (d3 X Y W 0 1 2) (d3 X Y W 0 1 3) (d3 X Y W 0 1 4) (d3 X Y W 0 1 4 + d3 X Y W 0 2 3) (d3 X Y W 0 2 4) (d3 X Y W 0 3 4) (2 * d3 X Y W 0 2 4 + d3 X Y W 1 2 3) (d3 X Y W 0 3 4 + d3 X Y W 1 2 4) (d3 X Y W 1 3 4) (d3 X Y W 2 3 4)
  have h0 : hz0 (d3 X Y W 0 1 2) (d3 X Y W 0 1 3) (d3 X Y W 0 1 4) (d3 X Y W 0 1 4 + d3 X Y W 0 2 3) (d3 X Y W 0 2 4) (d3 X Y W 0 3 4) (2 * d3 X Y W 0 2 4 + d3 X Y W 1 2 3) (d3 X Y W 0 3 4 + d3 X Y W 1 2 4) (d3 X Y W 1 3 4) (d3 X Y W 2 3 4) = 0 := h 0 (by decide)
  have h1 : hz1 (d3 X Y W 0 1 2) (d3 X Y W 0 1 3) (d3 X Y W 0 1 4) (d3 X Y W 0 1 4 + d3 X Y W 0 2 3) (d3 X Y W 0 2 4) (d3 X Y W 0 3 4) (2 * d3 X Y W 0 2 4 + d3 X Y W 1 2 3) (d3 X Y W 0 3 4 + d3 X Y W 1 2 4) (d3 X Y W 1 3 4) (d3 X Y W 2 3 4) = 0 := h 1 (by decide)
  have h2 : hz2 (d3 X Y W 0 1 2) (d3 X Y W 0 1 3) (d3 X Y W 0 1 4) (d3 X Y W 0 1 4 + d3 X Y W 0 2 3) (d3 X Y W 0 2 4) (d3 X Y W 0 3 4) (2 * d3 X Y W 0 2 4 + d3 X Y W 1 2 3) (d3 X Y W 0 3 4 + d3 X Y W 1 2 4) (d3 X Y W 1 3 4) (d3 X Y W 2 3 4) = 0 := h 2 (by decide)
  have h3 : hz3 (d3 X Y W 0 1 2) (d3 X Y W 0 1 3) (d3 X Y W 0 1 4) (d3 X Y W 0 1 4 + d3 X Y W 0 2 3) (d3 X Y W 0 2 4) (d3 X Y W 0 3 4) (2 * d3 X Y W 0 2 4 + d3 X Y W 1 2 3) (d3 X Y W 0 3 4 + d3 X Y W 1 2 4) (d3 X Y W 1 3 4) (d3 X Y W 2 3 4) = 0 := h 3 (by decide)
  have h4 : hz4 (d3 X Y W 0 1 2) (d3 X Y W 0 1 3) (d3 X Y W 0 1 4) (d3 X Y W 0 1 4 + d3 X Y W 0 2 3) (d3 X Y W 0 2 4) (d3 X Y W 0 3 4) (2 * d3 X Y W 0 2 4 + d3 X Y W 1 2 3) (d3 X Y W 0 3 4 + d3 X Y W 1 2 4) (d3 X Y W 1 3 4) (d3 X Y W 2 3 4) = 0 := h 4 (by decide)
  have h5 : hz5 (d3 X Y W 0 1 2) (d3 X Y W 0 1 3) (d3 X Y W 0 1 4) (d3 X Y W 0 1 4 + d3 X Y W 0 2 3) (d3 X Y W 0 2 4) (d3 X Y W 0 3 4) (2 * d3 X Y W 0 2 4 + d3 X Y W 1 2 3) (d3 X Y W 0 3 4 + d3 X Y W 1 2 4) (d3 X Y W 1 3 4) (d3 X Y W 2 3 4) = 0 := h 5 (by decide)
  have h6 : hz6 (d3 X Y W 0 1 2) (d3 X Y W 0 1 3) (d3 X Y W 0 1 4) (d3 X Y W 0 1 4 + d3 X Y W 0 2 3) (d3 X Y W 0 2 4) (d3 X Y W 0 3 4) (2 * d3 X Y W 0 2 4 + d3 X Y W 1 2 3) (d3 X Y W 0 3 4 + d3 X Y W 1 2 4) (d3 X Y W 1 3 4) (d3 X Y W 2 3 4) = 0 := h 6 (by decide)
  rw [h2, h3, h4, h5, h6] at q
  rw [d3_sf012, d3_sf013, d3_sf014, d3_sf023, d3_sf024, d3_sf034, d3_sf123, d3_sf124, d3_sf134, d3_sf234]
  refine Eq.trans ?_ (q.trans (by decide))
  congr 1 <;> omega
theorem hP3_sf {X Y W : Nat → Int} (h : ∀ k, k < 7 → hP k X Y W = 0) : hP 3 (sf X) (sf Y) (sf W) = 0 := by
  show hz3 (d3 (sf X) (sf Y) (sf W) 0 1 2) (d3 (sf X) (sf Y) (sf W) 0 1 3) (d3 (sf X) (sf Y) (sf W) 0 1 4) (d3 (sf X) (sf Y) (sf W) 0 1 4 + d3 (sf X) (sf Y) (sf W) 0 2 3) (d3 (sf X) (sf Y) (sf W) 0 2 4) (d3 (sf X) (sf Y) (sf W) 0 3 4) (2 * d3 (sf X) (sf Y) (sf W) 0 2 4 + d3 (sf X) (sf Y) (sf W) 1 2 3) (d3 (sf X) (sf Y) (sf W) 0 3 4 + d3 (sf X) (sf Y) (sf W) 1 2 4) (d3 (sf X) (sf Y) (sf W) 1 3 4) (d3 (sf X) (sf Y) (sf W) 2 3 4) = 0
  have q := hz3_sf (d3 X Y W 0 1 2) (d3 X Y W 0 1 3) (d3 X Y W 0 1 4) (d3 X Y W 0 1 4 + d3 X Y W 0 2 3) (d3 X Y W 0 2 4) (d3 X Y W 0 3 4) (2 * d3 X Y W 0 2 4 + d3 X Y W 1 2 3) (d3 X Y W 0 3 4 + d3 X Y W 1 2 4) (d3 X Y W 1 3 4) (d3 X Y W 2 3 4)
  have h0 : hz0 (d3 X Y W 0 1 2) (d3 X Y W 0 1 3) (d3 X Y W 0 1 4) (d3 X Y W 0 1 4 + d3 X Y W 0 2 3) (d3 X Y W 0 2 4) (d3 X Y W 0 3 4) (2 * d3 X Y W 0 2 4 + d3 X Y W 1 2 3) (d3 X Y W 0 3 4 + d3 X Y W 1 2 4) (d3 X Y W 1 3 4) (d3 X Y W 2 3 4) = 0 := h 0 (by decide)
  have h1 : hz1 (d3 X Y W 0 1 2) (d3 X Y W 0 1 3) (d3 X Y W 0 1 4) (d3 X Y W 0 1 4 + d3 X Y W 0 2 3) (d3 X Y W 0 2 4) (d3 X Y W 0 3 4) (2 * d3 X Y W 0 2 4 + d3 X Y W 1 2 3) (d3 X Y W 0 3 4 + d3 X Y W 1 2 4) (d3 X Y W 1 3 4) (d3 X Y W 2 3 4) = 0 := h 1 (by decide)
  have h2 : hz2 (d3 X Y W 0 1 2) (d3 X Y W 0 1 3) (d3 X Y W 0 1 4) (d3 X Y W 0 1 4 + d3 X Y W 0 2 3) (d3 X Y W 0 2 4) (d3 X Y W 0 3 4) (2 * d3 X Y W 0 2 4 + d3 X Y W 1 2 3) (d3 X Y W 0 3 4 + d3 X Y W 1 2 4) (d3 X Y W 1 3 4) (d3 X Y W 2 3 4) = 0 := h 2 (by decide)
  have h3 : hz3 (d3 X Y W 0 1 2) (d3 X Y W 0 1 3) (d3 X Y W 0 1 4) (d3 X Y W 0 1 4 + d3 X Y W 0 2 3) (d3 X Y W 0 2 4) (d3 X Y W 0 3 4) (2 * d3 X Y W 0 2 4 + d3 X Y W 1 2 3) (d3 X Y W 0 3 4 + d3 X Y W 1 2 4) (d3 X Y W 1 3 4) (d3 X Y W 2 3 4) = 0 := h 3 (by decide)
  have h4 : hz4 (d3 X Y W 0 1 2) (d3 X Y W 0 1 3) (d3 X Y W 0 1 4) (d3 X Y W 0 1 4 + d3 X Y W 0 2 3) (d3 X Y W 0 2 4) (d3 X Y W 0 3 4) (2 * d3 X Y W 0 2 4 + d3 X Y W 1 2 3) (d3 X Y W 0 3 4 + d3 X Y W 1 2 4) (d3 X Y W 1 3 4) (d3 X Y W 2 3 4) = 0 := h 4 (by decide)
  have h5 : hz5 (d3 X Y W 0 1 2) (d3 X Y W 0 1 3) (d3 X Y W 0 1 4) (d3 X Y W 0 1 4 + d3 X Y W 0 2 3) (d3 X Y W 0 2 4) (d3 X Y W 0 3 4) (2 * d3 X Y W 0 2 4 + d3 X Y W 1 2 3) (d3 X Y W 0 3 4 + d3 X Y W 1 2 4) (d3 X Y W 1 3 4) (d3 X Y W 2 3 4) = 0 := h 5 (by decide)
  have h6 : hz6 (d3 X Y W 0 1 2) (d3 X Y W 0 1 3) (d3 X Y W 0 1 4) (d3 X Y W 0 1 4 + d3 X Y W 0 2 3) (d3 X Y W 0 2 4) (d3 X Y W 0 3 4) (2 * d3 X Y W 0 2 4 + d3 X Y W 1 2 3) (d3 X Y W 0 3 4 + d3 X Y W 1 2 4) (d3 X Y W 1 3 4) (d3 X Y W 2 3 4) = 0 := h 6 (by decide)
  rw [h3, h4, h5, h6] at q
  rw [d3_sf012, d3_sf013, d3_sf014, d3_sf023, d3_sf024, d3_sf034, d3_sf123, d3_sf124, d3_sf134, d3_sf234]
  refine Eq.trans ?_ (q.trans (by decide))
  congr 1 <;> omega
theorem hz4_b {a000 a100 a200 a110 a210 a220 a111 a211 a221 a222 : Int} (ha000 : a000.natAbs ≤ 1372) (ha100 : a100.natAbs ≤ 1372) (ha200 : a200.natAbs ≤ 1372) (ha110 : a110.natAbs ≤ 2744) (ha210 : a210.natAbs ≤ 1372) (ha220 : a220.natAbs ≤ 1372) (ha111 : a111.natAbs ≤ 4116) (ha211 : a211.natAbs ≤ 2744) (ha221 : a221.natAbs ≤ 1372) (ha222 : a222.natAbs ≤ 1372) : (hz4 a000 a100 a200 a110 a210 a220 a111 a211 a221 a222).natAbs < 2 ^ 42 := by
  unfold hz4
  exact Nat.lt_of_le_of_lt (nadd (nadd (nsub (nsub (nsub (nadd (nsub (nadd (nadd (nsub (nadd (nsub (nsub (nadd (nsub (nb3 ha000 ha211 ha222) (nb3 ha000 ha221 ha221)) (nb3 ha100 ha111 ha222)) (nb3 (nbk2 ha100) ha210 ha222)) (nb3 ha100 ha211 ha221)) (nb3 (nbk2 ha100) ha220 ha221)) (nb3 ha110 ha110 ha222)) (nb3 ha110 ha200 ha222)) (nb3 (nbk2 ha110) ha211 ha220)) (nb3 ha110 ha220 ha220)) (nb3 ha111 ha200 ha221)) (nb3 (nbk2 ha111) ha210 ha220)) (nb3 ha200 ha211 ha211)) (nb3 ha200 ha211 ha220)) (nb3 ha210 ha210 ha211)) (nb3 ha210 ha210 ha220)) (by decide)
theorem hz5_b {a000 a100 a200 a110 a210 a220 a111 a211 a221 a222 : Int} (ha000 : a000.natAbs ≤ 1372) (ha100 : a100.natAbs ≤ 1372) (ha200 : a200.natAbs ≤ 1372) (ha110 : a110.natAbs ≤ 2744) (ha210 : a210.natAbs ≤ 1372) (ha220 : a220.natAbs ≤ 1372) (ha111 : a111.natAbs ≤ 4116) (ha211 : a211.natAbs ≤ 2744) (ha221 : a221.natAbs ≤ 1372) (ha222 : a222.natAbs ≤ 1372) : (hz5 a000 a100 a200 a110 a210 a220 a111 a211 a221 a222).natAbs < 2 ^ 42 := by
  unfold hz5
  exact Nat.lt_of_le_of_lt (nadd (nsub (nsub (nadd (nadd (nsub (nsub (nb3 ha100 ha211 ha222) (nb3 ha100 ha221 ha221)) (nb3 (nbk2 ha110) ha210 ha222)) (nb3 (nbk2 ha110) ha220 ha221)) (nb3 ha111 ha200 ha222)) (nb3 ha111 ha220 ha220)) (nb3 ha200 ha211 ha221)) (nb3 ha210 ha210 ha221)) (by decide)
theorem hz6_b {a000 a100 a200 a110 a210 a220 a111 a211 a221 a222 : Int} (ha000 : a000.natAbs ≤ 1372) (ha100 : a100.natAbs ≤ 1372) (ha200 : a200.natAbs ≤ 1372) (ha110 : a110.natAbs ≤ 2744) (ha210 : a210.natAbs ≤ 1372) (ha220 : a220.natAbs ≤ 1372) (ha111 : a111.natAbs ≤ 4116) (ha211 : a211.natAbs ≤ 2744) (ha221 : a221.natAbs ≤ 1372) (ha222 : a222.natAbs ≤ 1372) : (hz6 a000 a100 a200 a110 a210 a220 a111 a211 a221 a222).natAbs < 2 ^ 42 := by
  unfold hz6
  exact Nat.lt_of_le_of_lt (nsub (nadd (nsub (nsub (nb3 ha200 ha211 ha222) (nb3 ha200 ha221 ha221)) (nb3 ha210 ha210 ha222)) (nb3 (nbk2 ha210) ha220 ha221)) (nb3 ha211 ha220 ha220)) (by decide)
theorem hP_b7 {X Y W : Nat → Int} (h : bP X Y W) (k : Nat) (hk : k < 7) : (hP k X Y W).natAbs < 2 ^ 42 := by
  have b012 := h 0 1 2 (by decide) (by decide) (by decide)
  have b013 := h 0 1 3 (by decide) (by decide) (by decide)
  have b014 := h 0 1 4 (by decide) (by decide) (by decide)
  have b023 := h 0 2 3 (by decide) (by decide) (by decide)
  have b024 := h 0 2 4 (by decide) (by decide) (by decide)
  have b034 := h 0 3 4 (by decide) (by decide) (by decide)
  have b123 := h 1 2 3 (by decide) (by decide) (by decide)
  have b124 := h 1 2 4 (by decide) (by decide) (by decide)
  have b134 := h 1 3 4 (by decide) (by decide) (by decide)
  have b234 := h 2 3 4 (by decide) (by decide) (by decide)
  have c1 : (d3 X Y W 0 1 4 + d3 X Y W 0 2 3).natAbs ≤ 2744 := by omega
  have c2 : (2 * d3 X Y W 0 2 4 + d3 X Y W 1 2 3).natAbs ≤ 4116 := by omega
  have c3 : (d3 X Y W 0 3 4 + d3 X Y W 1 2 4).natAbs ≤ 2744 := by omega
  match k, hk with
  | 0, _ => exact hz0_b b012 b013 b014 c1 b024 b034 c2 c3 b134 b234
  | 1, _ => exact hz1_b b012 b013 b014 c1 b024 b034 c2 c3 b134 b234
  | 2, _ => exact hz2_b b012 b013 b014 c1 b024 b034 c2 c3 b134 b234
  | 3, _ => exact hz3_b b012 b013 b014 c1 b024 b034 c2 c3 b134 b234
  | 4, _ => exact hz4_b b012 b013 b014 c1 b024 b034 c2 c3 b134 b234
  | 5, _ => exact hz5_b b012 b013 b014 c1 b024 b034 c2 c3 b134 b234
  | 6, _ => exact hz6_b b012 b013 b014 c1 b024 b034 c2 c3 b134 b234
theorem dL_sf {X Y W : Nat → Int} {n v1 v2 v3 : Int} (h : ∀ j, n ∣ gd (dL X Y W v1 v2 v3) j) (j : Nat) : n ∣ gd (dL (sf X) (sf Y) (sf W) v1 v2 v3) j := by
  have e : ∀ t, evl (dL (sf X) (sf Y) (sf W) v1 v2 v3) t = evl (dL X Y W v1 v2 v3) (t + 1) := fun t => by
    show m3 (sf X) (sf Y) (sf W) v1 v2 v3 0 1 + t * (2 * m3 (sf X) (sf Y) (sf W) v1 v2 v3 0 2 + t * ((3 * m3 (sf X) (sf Y) (sf W) v1 v2 v3 0 3 + m3 (sf X) (sf Y) (sf W) v1 v2 v3 1 2) + t * ((4 * m3 (sf X) (sf Y) (sf W) v1 v2 v3 0 4 + 2 * m3 (sf X) (sf Y) (sf W) v1 v2 v3 1 3) + t * ((3 * m3 (sf X) (sf Y) (sf W) v1 v2 v3 1 4 + m3 (sf X) (sf Y) (sf W) v1 v2 v3 2 3) + t * (2 * m3 (sf X) (sf Y) (sf W) v1 v2 v3 2 4 + t * (m3 (sf X) (sf Y) (sf W) v1 v2 v3 3 4 + t * 0)))))) = m3 X Y W v1 v2 v3 0 1 + (t + 1) * (2 * m3 X Y W v1 v2 v3 0 2 + (t + 1) * ((3 * m3 X Y W v1 v2 v3 0 3 + m3 X Y W v1 v2 v3 1 2) + (t + 1) * ((4 * m3 X Y W v1 v2 v3 0 4 + 2 * m3 X Y W v1 v2 v3 1 3) + (t + 1) * ((3 * m3 X Y W v1 v2 v3 1 4 + m3 X Y W v1 v2 v3 2 3) + (t + 1) * (2 * m3 X Y W v1 v2 v3 2 4 + (t + 1) * (m3 X Y W v1 v2 v3 3 4 + (t + 1) * 0))))))
    simp only [m3, sf]
    grind
  obtain ⟨a0, h0⟩ := h 0
  obtain ⟨a1, h1⟩ := h 1
  obtain ⟨a2, h2⟩ := h 2
  obtain ⟨a3, h3⟩ := h 3
  obtain ⟨a4, h4⟩ := h 4
  obtain ⟨a5, h5⟩ := h 5
  obtain ⟨a6, h6⟩ := h 6
  have e2 : ∀ t, evl (dL (sf X) (sf Y) (sf W) v1 v2 v3) t = n * evl [a0, a1, a2, a3, a4, a5, a6] (t + 1) := fun t => by
    rw [e t]
    have e1 : dL X Y W v1 v2 v3 = [gd (dL X Y W v1 v2 v3) 0, gd (dL X Y W v1 v2 v3) 1, gd (dL X Y W v1 v2 v3) 2, gd (dL X Y W v1 v2 v3) 3, gd (dL X Y W v1 v2 v3) 4, gd (dL X Y W v1 v2 v3) 5, gd (dL X Y W v1 v2 v3) 6] := rfl
    rw [e1, h0, h1, h2, h3, h4, h5, h6]
    exact evl_map n [a0, a1, a2, a3, a4, a5, a6] (t + 1)
  have hPf : Pf (fun t => evl [a0, a1, a2, a3, a4, a5, a6] (t + 1)) := by
    have e3 : (fun t => evl [a0, a1, a2, a3, a4, a5, a6] (t + 1)) = fun t => a0 + (t + 1) * (a1 + (t + 1) * (a2 + (t + 1) * (a3 + (t + 1) * (a4 + (t + 1) * (a5 + (t + 1) * (a6 + (t + 1) * 0)))))) := rfl
    rw [e3]
    repeat (first | exact Pf.con _ | exact Pf.var | apply Pf.add | apply Pf.mul)
  obtain ⟨r, hr⟩ := hPf
  have h9 := evl_uq (l := dL (sf X) (sf Y) (sf W) v1 v2 v3) (m := r.map (fun x => n * x)) (fun t => by rw [e2 t, evl_map, ← hr]) j
  rw [gd_map] at h9
  exact ⟨_, h9⟩
end
section
theorem nbk6 {x : Int} {A : Nat} (hx : x.natAbs ≤ A) : (6 * x).natAbs ≤ 6 * A := by omega
theorem nbk8 {x : Int} {A : Nat} (hx : x.natAbs ≤ A) : (8 * x).natAbs ≤ 8 * A := by omega
theorem NB_sf {X Y W : Nat → Int} (h : NB (sf X) (sf Y) (sf W)) : NB X Y W := by
  obtain ⟨κ, h1, v1, v2, v3, h2⟩ := h
  exact ⟨κ, fun x y w => by rw [← FF_sf]; exact h1 x y w, v1, v2, v3, fun q => h2 fun j => dL_sf q j⟩
theorem hL_gd (X Y W : Nat → Int) : ∀ k, k < 7 → gd (hL X Y W) k = hP k X Y W
  | 0, _ => rfl
  | 1, _ => rfl
  | 2, _ => rfl
  | 3, _ => rfl
  | 4, _ => rfl
  | 5, _ => rfl
  | 6, _ => rfl
/-- an odd middle at t + 1: nothing -/
theorem plain_1 {X Y W e G : Nat → Int} {c k k3 : Int} {b : Nat} (hS : SQ X Y W e G c) (hc : c ≠ 0) (he : ∃ i, i < 6 ∧ e i % 2 = 1) (hA : dvA b e (sf X) (sf Y) (sf W)) (hk : sP e (sf X) (sf Y) (sf W) 0 2 = 2 ^ b * k) (ok : k % 2 = 1) (hk3 : sP e (sf X) (sf Y) (sf W) 0 3 = 2 ^ b * k3) (ok3 : k3 % 2 = 1) (hb : b ≤ 20) (hx : (sf X 0).natAbs < 64 ∧ (sf Y 0).natAbs < 64 ∧ (sf W 0).natAbs < 64) (hm : (m3 (sf X) (sf Y) (sf W) 1 0 0 0 1).natAbs < 4096 ∧ (m3 (sf X) (sf Y) (sf W) 0 1 0 0 1).natAbs < 4096 ∧ (m3 (sf X) (sf Y) (sf W) 0 0 1 0 1).natAbs < 4096) (hP0 : bP X Y W) (x y w : Int) : FF X Y W x y w = 0 := by
  have hD : (d3 (sf X) (sf Y) (sf W) 0 1 2).natAbs < 2 ^ 16 := by
    have b012 := hP0 0 1 2 (by decide) (by decide) (by decide)
    have b013 := hP0 0 1 3 (by decide) (by decide) (by decide)
    have b014 := hP0 0 1 4 (by decide) (by decide) (by decide)
    have b023 := hP0 0 2 3 (by decide) (by decide) (by decide)
    have b024 := hP0 0 2 4 (by decide) (by decide) (by decide)
    have b034 := hP0 0 3 4 (by decide) (by decide) (by decide)
    have b123 := hP0 1 2 3 (by decide) (by decide) (by decide)
    have b124 := hP0 1 2 4 (by decide) (by decide) (by decide)
    have b134 := hP0 1 3 4 (by decide) (by decide) (by decide)
    have b234 := hP0 2 3 4 (by decide) (by decide) (by decide)
    rw [d3_sf012]
    exact Nat.lt_of_le_of_lt (nadd (nadd (nadd (nadd (nadd (nadd (nadd (nadd (nadd b012 (nbk3 b013)) (nbk6 b014)) (nbk3 b023)) (nbk8 b024)) (nbk6 b034)) b123) (nbk3 b124)) (nbk3 b134)) b234) (by decide)
  obtain ⟨hd, hn, hE⟩ := plain1 (SQ_sf hS) hc he hA hk ok hk3 ok3 hb hx hm hD
  have h7 := NB_h hS hc he (NB_sf hn)
  have h8 : ∀ k, k < 7 → hP k X Y W = 0 := fun k hk => by
    have h9 := h7 k
    rw [hL_gd X Y W k hk] at h9
    exact small_zero h9 (hP_b7 hP0 k hk)
  rcases row_exact hd (hP0_sf h8) (hP1_sf h8) (hP2_sf h8) (hP3_sf h8) with z | z
  · exact absurd z hE
  · rw [← FF_sf]
    exact z x y w
end
section
theorem mul7 {a x : Int} (h : a.natAbs ≤ 7) : (a * x).natAbs ≤ 7 * x.natAbs := by
  rw [Int.natAbs_mul]
  exact Nat.mul_le_mul_right _ h
theorem tri28 {x y z : Int} (hx : x.natAbs ≤ 7) (hy : y.natAbs ≤ 7) (hz : z.natAbs ≤ 7) : (x - y).natAbs + (x - z).natAbs + (y - z).natAbs ≤ 28 := by omega
theorem crs (a1 a2 a3 x y z : Int) (h1 : a1.natAbs ≤ 7) (h2 : a2.natAbs ≤ 7) (h3 : a3.natAbs ≤ 7) (h : x.natAbs + y.natAbs + z.natAbs ≤ 28) : (a1 * x + a2 * y + a3 * z).natAbs ≤ 196 := by
  have k1 := mul7 (x := x) h1
  have k2 := mul7 (x := y) h2
  have k3 := mul7 (x := z) h3
  have k4 := nadd (nadd k1 k2) k3
  omega
theorem cross196 {a1 a2 a3 b1 b2 b3 : Int} (h1 : a1.natAbs ≤ 7) (h2 : a2.natAbs ≤ 7) (h3 : a3.natAbs ≤ 7) (g1 : b1.natAbs ≤ 7) (g2 : b2.natAbs ≤ 7) (g3 : b3.natAbs ≤ 7) : (a2 * b3 - a3 * b2).natAbs + (a1 * b3 - a3 * b1).natAbs + (a1 * b2 - a2 * b1).natAbs ≤ 196 := by
  have t1 := crs a1 a2 a3 (b3 + b2) (b3 - b1) (-b2 - b1) h1 h2 h3 (by clear h1 h2 h3; omega)
  have t2 := crs a1 a2 a3 (b3 - b2) (b3 + b1) (-b2 - b1) h1 h2 h3 (by clear h1 h2 h3; omega)
  have t3 := crs a1 a2 a3 (-b3 + b2) (b3 - b1) (-b2 + b1) h1 h2 h3 (by clear h1 h2 h3; omega)
  have t4 := crs a1 a2 a3 (-b3 - b2) (b3 + b1) (-b2 + b1) h1 h2 h3 (by clear h1 h2 h3; omega)
  have e1 : a1 * (b3 + b2) + a2 * (b3 - b1) + a3 * (-b2 - b1) = (a2 * b3 - a3 * b2) + (a1 * b3 - a3 * b1) + (a1 * b2 - a2 * b1) := by grind
  have e2 : a1 * (b3 - b2) + a2 * (b3 + b1) + a3 * (-b2 - b1) = (a2 * b3 - a3 * b2) + (a1 * b3 - a3 * b1) - (a1 * b2 - a2 * b1) := by grind
  have e3 : a1 * (-b3 + b2) + a2 * (b3 - b1) + a3 * (-b2 + b1) = (a2 * b3 - a3 * b2) - (a1 * b3 - a3 * b1) + (a1 * b2 - a2 * b1) := by grind
  have e4 : a1 * (-b3 - b2) + a2 * (b3 + b1) + a3 * (-b2 + b1) = (a2 * b3 - a3 * b2) - (a1 * b3 - a3 * b1) - (a1 * b2 - a2 * b1) := by grind
  rw [e1] at t1
  rw [e2] at t2
  rw [e3] at t3
  rw [e4] at t4
  generalize a2 * b3 - a3 * b2 = A at *
  generalize a1 * b3 - a3 * b1 = B at *
  generalize a1 * b2 - a2 * b1 = C at *
  clear e1 e2 e3 e4 h1 h2 h3 g1 g2 g3
  omega
def b7 (X Y W : Nat → Int) : Prop := ∀ i, i < 5 → (X i).natAbs ≤ 7 ∧ (Y i).natAbs ≤ 7 ∧ (W i).natAbs ≤ 7
theorem b7_P {X Y W : Nat → Int} (h : b7 X Y W) : bP X Y W := fun i j k hi hj hk => by
  obtain ⟨i1, i2, i3⟩ := h i hi
  obtain ⟨j1, j2, j3⟩ := h j hj
  obtain ⟨k1, k2, k3⟩ := h k hk
  have c := cross196 j1 j2 j3 k1 k2 k3
  unfold d3
  have e : X i * (Y j * W k - Y k * W j) - Y i * (X j * W k - X k * W j) + W i * (X j * Y k - X k * Y j) = X i * (Y j * W k - W j * Y k) - Y i * (X j * W k - W j * X k) + W i * (X j * Y k - Y j * X k) := by grind
  rw [e]
  have q := nadd (nsub (mul7 (x := Y j * W k - W j * Y k) i1) (mul7 (x := X j * W k - W j * X k) i2)) (mul7 (x := X j * Y k - Y j * X k) i3)
  refine Nat.le_trans q ?_
  generalize (Y j * W k - W j * Y k).natAbs = A at *
  generalize (X j * W k - W j * X k).natAbs = B at *
  generalize (X j * Y k - Y j * X k).natAbs = C at *
  clear q e
  omega
theorem m7 {a b c d : Int} (h1 : a.natAbs ≤ 7) (h2 : b.natAbs ≤ 7) (h3 : c.natAbs ≤ 7) (h4 : d.natAbs ≤ 7) : (a * b - c * d).natAbs ≤ 98 := by
  have k1 := mul7 (x := b) h1
  have k2 := mul7 (x := d) h3
  have k3 := nsub k1 k2
  omega
theorem b7_m {X Y W : Nat → Int} (h : b7 X Y W) {i j : Nat} (hi : i < 5) (hj : j < 5) : (m3 X Y W 1 0 0 i j).natAbs ≤ 98 ∧ (m3 X Y W 0 1 0 i j).natAbs ≤ 98 ∧ (m3 X Y W 0 0 1 i j).natAbs ≤ 98 := by
  obtain ⟨i1, i2, i3⟩ := h i hi
  obtain ⟨j1, j2, j3⟩ := h j hj
  have e1 : m3 X Y W 1 0 0 i j = Y i * W j - Y j * W i := by unfold m3; grind
  have e2 : m3 X Y W 0 1 0 i j = X j * W i - X i * W j := by unfold m3; grind
  have e3 : m3 X Y W 0 0 1 i j = X i * Y j - X j * Y i := by unfold m3; grind
  rw [e1, e2, e3]
  exact ⟨m7 i2 j3 j2 i3, m7 j1 i3 i1 j3, m7 i1 j2 j1 i2⟩
theorem b7_rv {X Y W : Nat → Int} (h : b7 X Y W) : b7 (rv X) (rv Y) (rv W) := fun i hi => h (4 - i) (by omega)
theorem nbk4 {x : Int} {A : Nat} (hx : x.natAbs ≤ A) : (4 * x).natAbs ≤ 4 * A := by omega
theorem sf_m {X Y W : Nat → Int} {x y w : Int} (hm : ∀ i j, i < 5 → j < 5 → (m3 X Y W x y w i j).natAbs ≤ 98) : (m3 (sf X) (sf Y) (sf W) x y w 0 1).natAbs < 4096 := by
  rw [ms_a]
  exact Nat.lt_of_le_of_lt (nadd (nadd (nadd (nadd (nadd (nadd (nadd (nadd (nadd (hm 0 1 (by decide) (by decide)) (nbk2 (hm 0 2 (by decide) (by decide)))) (nbk2 (hm 0 3 (by decide) (by decide)))) (nbk2 (hm 0 4 (by decide) (by decide)))) (nadd (hm 0 3 (by decide) (by decide)) (hm 1 2 (by decide) (by decide)))) (nbk2 (nadd (hm 0 4 (by decide) (by decide)) (hm 1 3 (by decide) (by decide))))) (nbk2 (hm 1 4 (by decide) (by decide)))) (nadd (hm 1 4 (by decide) (by decide)) (hm 2 3 (by decide) (by decide)))) (nbk2 (hm 2 4 (by decide) (by decide)))) (hm 3 4 (by decide) (by decide))) (by decide)
theorem sf_0 {X : Nat → Int} (h : ∀ i, i < 5 → (X i).natAbs ≤ 7) : (sf X 0).natAbs < 64 := by
  have h0 := h 0 (by decide)
  have h1 := h 1 (by decide)
  have h2 := h 2 (by decide)
  have h3 := h 3 (by decide)
  have h4 := h 4 (by decide)
  show (X 0 + X 1 + X 2 + X 3 + X 4).natAbs < 64
  exact Nat.lt_of_le_of_lt (nadd (nadd (nadd (nadd h0 h1) h2) h3) h4) (by decide)
end
section
theorem five {P : Nat → Prop} (h0 : P 0) (h1 : P 1) (h2 : P 2) (h3 : P 3) (h4 : P 4) : ∀ i, i < 5 → P i
  | 0, _ => h0
  | 1, _ => h1
  | 2, _ => h2
  | 3, _ => h3
  | 4, _ => h4
theorem dvA_of {b : Nat} {e X Y W : Nat → Int} (e0 : (2 ^ b : Int) ∣ sE e X Y W 0) (e1 : (2 ^ b : Int) ∣ sE e X Y W 1) (e2 : (2 ^ b : Int) ∣ sE e X Y W 2) (e3 : (2 ^ b : Int) ∣ sE e X Y W 3) (e4 : (2 ^ b : Int) ∣ sE e X Y W 4) (s01 : (2 ^ b : Int) ∣ sP e X Y W 0 1) (s02 : (2 ^ b : Int) ∣ sP e X Y W 0 2) (s03 : (2 ^ b : Int) ∣ sP e X Y W 0 3) (s04 : (2 ^ b : Int) ∣ sP e X Y W 0 4) (s12 : (2 ^ b : Int) ∣ sP e X Y W 1 2) (s13 : (2 ^ b : Int) ∣ sP e X Y W 1 3) (s14 : (2 ^ b : Int) ∣ sP e X Y W 1 4) (s23 : (2 ^ b : Int) ∣ sP e X Y W 2 3) (s24 : (2 ^ b : Int) ∣ sP e X Y W 2 4) (s34 : (2 ^ b : Int) ∣ sP e X Y W 3 4) : dvA b e X Y W := by
  have dd : ∀ i, (2 ^ b : Int) ∣ sE e X Y W i → (2 ^ b : Int) ∣ sP e X Y W i i := fun i h => by rw [sP_self]; exact dl _ h
  have sy : ∀ {i j}, (2 ^ b : Int) ∣ sP e X Y W i j → (2 ^ b : Int) ∣ sP e X Y W j i := fun h => by rw [sP_sym]; exact h
  refine ⟨five e0 e1 e2 e3 e4, fun i j hi hj => ?_⟩
  revert j
  revert i
  refine five ?_ ?_ ?_ ?_ ?_
  · exact five (dd 0 e0) s01 s02 s03 s04
  · exact five (sy s01) (dd 1 e1) s12 s13 s14
  · exact five (sy s02) (sy s12) (dd 2 e2) s23 s24
  · exact five (sy s03) (sy s13) (sy s23) (dd 3 e3) s34
  · exact five (sy s04) (sy s14) (sy s24) (sy s34) (dd 4 e4)
/-- six numbers are enough -/
theorem dvA_six {b : Nat} {e X Y W : Nat → Int} (hC : CK (2 ^ 32) e X Y W) (hb : b ≤ 32) (s02 : (2 ^ b : Int) ∣ sP e X Y W 0 2) (s03 : (2 ^ b : Int) ∣ sP e X Y W 0 3) (s04 : (2 ^ b : Int) ∣ sP e X Y W 0 4) (s13 : (2 ^ b : Int) ∣ sP e X Y W 1 3) (s14 : (2 ^ b : Int) ∣ sP e X Y W 1 4) (s24 : (2 ^ b : Int) ∣ sP e X Y W 2 4) : dvA b e X Y W := by
  obtain ⟨c0, c1, c2, c3, c4, c5, c6, c7, c8⟩ := hC
  have up : ∀ {z : Int}, (2 ^ 32 : Int) ∣ z → (2 ^ b : Int) ∣ z := fun h => pw_le_dvd hb h
  have su : ∀ {x y : Int}, (2 ^ b : Int) ∣ x + y → (2 ^ b : Int) ∣ x → (2 ^ b : Int) ∣ y := fun {x y} h1 h2 => by
    have e : y = (x + y) - x := by omega
    rw [e]
    exact Int.dvd_sub h1 h2
  exact dvA_of (up c0) (su (up c2) s02) (su (up c4) (Int.dvd_add s04 s13)) (su (up c6) s24) (up c8) (up c1) s02 s03 s04 (su (up c3) s03) s13 s14 (su (up c5) s14) s24 (up c7)
theorem low_b {e X Y W : Nat → Int} (he : ∃ i, i < 6 ∧ e i % 2 = 1) (h7 : b7 X Y W) (hp : ∃ i j k, i < 5 ∧ j < 5 ∧ k < 5 ∧ d3 X Y W i j k ≠ 0) : ∃ b : Nat, b ≤ 20 ∧ dvA b e X Y W ∧ ¬ dvA (b + 1) e X Y W := by
  have step : ∀ n : Nat, dvA n e X Y W ∨ ∃ b : Nat, b < n ∧ dvA b e X Y W ∧ ¬ dvA (b + 1) e X Y W := fun n => by
    induction n with
    | zero => exact Or.inl ⟨fun i _ => ⟨_, by rw [Int.pow_zero, Int.one_mul]⟩, fun i j _ _ => ⟨_, by rw [Int.pow_zero, Int.one_mul]⟩⟩
    | succ n ih =>
      rcases ih with h | ⟨b, h1, h2⟩
      · by_cases q : dvA (n + 1) e X Y W
        · exact Or.inl q
        · exact Or.inr ⟨n, Nat.lt_succ_self n, h, q⟩
      · exact Or.inr ⟨b, by omega, h2⟩
  rcases step 21 with h | ⟨b, h1, h2⟩
  · exfalso
    obtain ⟨i, j, k, hi, hj, hk, hne⟩ := hp
    have h3 := cont_p h he hi hj hk
    have h4 := nb2 (b7_P h7 i j k hi hj hk) (b7_P h7 i j k hi hj hk)
    have h5 := small_zero h3 (Nat.lt_of_le_of_lt h4 (by decide))
    rcases Int.mul_eq_zero.mp h5 with z | z <;> exact hne z
  · exact ⟨b, by omega, h2⟩
/-- a relation of four vectors -/
def Rl (X Y W : Nat → Int) (n0 n1 n2 n3 : Int) : Prop := n0 * X 0 + n1 * X 1 + n2 * X 2 + n3 * X 3 = 0 ∧ n0 * Y 0 + n1 * Y 1 + n2 * Y 2 + n3 * Y 3 = 0 ∧ n0 * W 0 + n1 * W 1 + n2 * W 2 + n3 * W 3 = 0
theorem Rl_prim {X Y W : Nat → Int} : ∀ (N : Nat) (n0 n1 n2 n3 : Int), n0.natAbs + n1.natAbs + n2.natAbs + n3.natAbs ≤ N → ¬ (n0 = 0 ∧ n1 = 0 ∧ n2 = 0 ∧ n3 = 0) → Rl X Y W n0 n1 n2 n3 → ∃ n0 n1 n2 n3 : Int, Rl X Y W n0 n1 n2 n3 ∧ (n0 % 2 = 1 ∨ n1 % 2 = 1 ∨ n2 % 2 = 1 ∨ n3 % 2 = 1)
  | 0, n0, n1, n2, n3, h, h0, _ => absurd ⟨by omega, by omega, by omega, by omega⟩ h0
  | N + 1, n0, n1, n2, n3, h, h0, hr => by
    by_cases q : n0 % 2 = 1 ∨ n1 % 2 = 1 ∨ n2 % 2 = 1 ∨ n3 % 2 = 1
    · exact ⟨n0, n1, n2, n3, hr, q⟩
    · obtain ⟨a, ha⟩ : ∃ a, n0 = 2 * a := ⟨n0 / 2, by omega⟩
      obtain ⟨b, hb⟩ : ∃ a, n1 = 2 * a := ⟨n1 / 2, by omega⟩
      obtain ⟨c, hc⟩ : ∃ a, n2 = 2 * a := ⟨n2 / 2, by omega⟩
      obtain ⟨d, hd⟩ : ∃ a, n3 = 2 * a := ⟨n3 / 2, by omega⟩
      refine Rl_prim N a b c d (by omega) (fun z => h0 ⟨by omega, by omega, by omega, by omega⟩) ?_
      obtain ⟨r1, r2, r3⟩ := hr
      subst ha
      subst hb
      subst hc
      subst hd
      have f : ∀ p q r s : Int, 2 * a * p + 2 * b * q + 2 * c * r + 2 * d * s = 0 → a * p + b * q + c * r + d * s = 0 := fun p q r s z => by
        have : 2 * (a * p + b * q + c * r + d * s) = 0 := by rw [← z]; grind
        omega
      exact ⟨f _ _ _ _ r1, f _ _ _ _ r2, f _ _ _ _ r3⟩
theorem Rl_ex (X Y W : Nat → Int) : ∃ n0 n1 n2 n3 : Int, Rl X Y W n0 n1 n2 n3 ∧ (n0 % 2 = 1 ∨ n1 % 2 = 1 ∨ n2 % 2 = 1 ∨ n3 % 2 = 1) := by
  have go : ∀ n0 n1 n2 n3 : Int, ¬ (n0 = 0 ∧ n1 = 0 ∧ n2 = 0 ∧ n3 = 0) → Rl X Y W n0 n1 n2 n3 → ∃ n0 n1 n2 n3 : Int, Rl X Y W n0 n1 n2 n3 ∧ (n0 % 2 = 1 ∨ n1 % 2 = 1 ∨ n2 % 2 = 1 ∨ n3 % 2 = 1) := fun n0 n1 n2 n3 h1 h2 => Rl_prim _ n0 n1 n2 n3 (Nat.le_refl _) h1 h2
  by_cases q1 : d3 X Y W 1 2 3 = 0 ∧ -d3 X Y W 0 2 3 = 0 ∧ d3 X Y W 0 1 3 = 0 ∧ -d3 X Y W 0 1 2 = 0
  · have d0 : d3 X Y W 0 1 2 = 0 := by omega
    have cr : ∀ a b c : Int, Rl X Y W (m3 X Y W a b c 1 2) (-m3 X Y W a b c 0 2) (m3 X Y W a b c 0 1) 0 := fun a b c => by
      unfold d3 at d0
      unfold Rl m3
      refine ⟨?_, ?_, ?_⟩
      · have e : (a * (Y 1 * W 2 - Y 2 * W 1) - b * (X 1 * W 2 - X 2 * W 1) + c * (X 1 * Y 2 - X 2 * Y 1)) * X 0 + -(a * (Y 0 * W 2 - Y 2 * W 0) - b * (X 0 * W 2 - X 2 * W 0) + c * (X 0 * Y 2 - X 2 * Y 0)) * X 1 + (a * (Y 0 * W 1 - Y 1 * W 0) - b * (X 0 * W 1 - X 1 * W 0) + c * (X 0 * Y 1 - X 1 * Y 0)) * X 2 + 0 * X 3 = a * (X 0 * (Y 1 * W 2 - Y 2 * W 1) - Y 0 * (X 1 * W 2 - X 2 * W 1) + W 0 * (X 1 * Y 2 - X 2 * Y 1)) := by grind
        rw [e, d0, Int.mul_zero]
      · have e : (a * (Y 1 * W 2 - Y 2 * W 1) - b * (X 1 * W 2 - X 2 * W 1) + c * (X 1 * Y 2 - X 2 * Y 1)) * Y 0 + -(a * (Y 0 * W 2 - Y 2 * W 0) - b * (X 0 * W 2 - X 2 * W 0) + c * (X 0 * Y 2 - X 2 * Y 0)) * Y 1 + (a * (Y 0 * W 1 - Y 1 * W 0) - b * (X 0 * W 1 - X 1 * W 0) + c * (X 0 * Y 1 - X 1 * Y 0)) * Y 2 + 0 * Y 3 = b * (X 0 * (Y 1 * W 2 - Y 2 * W 1) - Y 0 * (X 1 * W 2 - X 2 * W 1) + W 0 * (X 1 * Y 2 - X 2 * Y 1)) := by grind
        rw [e, d0, Int.mul_zero]
      · have e : (a * (Y 1 * W 2 - Y 2 * W 1) - b * (X 1 * W 2 - X 2 * W 1) + c * (X 1 * Y 2 - X 2 * Y 1)) * W 0 + -(a * (Y 0 * W 2 - Y 2 * W 0) - b * (X 0 * W 2 - X 2 * W 0) + c * (X 0 * Y 2 - X 2 * Y 0)) * W 1 + (a * (Y 0 * W 1 - Y 1 * W 0) - b * (X 0 * W 1 - X 1 * W 0) + c * (X 0 * Y 1 - X 1 * Y 0)) * W 2 + 0 * W 3 = c * (X 0 * (Y 1 * W 2 - Y 2 * W 1) - Y 0 * (X 1 * W 2 - X 2 * W 1) + W 0 * (X 1 * Y 2 - X 2 * Y 1)) := by grind
        rw [e, d0, Int.mul_zero]
    by_cases q2 : ∀ a b c : Int, m3 X Y W a b c 0 1 = 0
    · have n1 : Y 0 * W 1 - Y 1 * W 0 = 0 := by have := q2 1 0 0; unfold m3 at this; omega
      have n2 : X 0 * W 1 - X 1 * W 0 = 0 := by have := q2 0 1 0; unfold m3 at this; omega
      have n3 : X 0 * Y 1 - X 1 * Y 0 = 0 := by have := q2 0 0 1; unfold m3 at this; omega
      by_cases x0 : X 0 = 0
      · by_cases y0 : Y 0 = 0
        · by_cases w0 : W 0 = 0
          · exact go 1 0 0 0 (by omega) ⟨by rw [x0]; omega, by rw [y0]; omega, by rw [w0]; omega⟩
          · exact go (W 1) (-W 0) 0 0 (by omega) ⟨by grind, by grind, by grind⟩
        · exact go (Y 1) (-Y 0) 0 0 (by omega) ⟨by grind, by grind, by grind⟩
      · exact go (X 1) (-X 0) 0 0 (by omega) ⟨by grind, by grind, by grind⟩
    · obtain ⟨a, b, c, hne⟩ : ∃ a b c : Int, m3 X Y W a b c 0 1 ≠ 0 := Classical.byContradiction fun z => q2 fun a b c => Classical.byContradiction fun y => z ⟨a, b, c, y⟩
      exact go _ _ _ _ (fun z => hne z.2.2.1) (cr a b c)
  · refine go _ _ _ _ q1 ⟨?_, ?_, ?_⟩
    · have := cramX X Y W 0 1 2 3
      grind
    · have := cramY X Y W 0 1 2 3
      grind
    · have := cramW X Y W 0 1 2 3
      grind
theorem Rl_S {X Y W e : Nat → Int} {n0 n1 n2 n3 : Int} (h : Rl X Y W n0 n1 n2 n3) (i : Nat) : n0 * sP e X Y W i 0 + n1 * sP e X Y W i 1 + n2 * sP e X Y W i 2 + n3 * sP e X Y W i 3 = 0 := by
  obtain ⟨h1, h2, h3⟩ := h
  have q : n0 * sP e X Y W i 0 + n1 * sP e X Y W i 1 + n2 * sP e X Y W i 2 + n3 * sP e X Y W i 3 = (2 * e 0 * X i + e 1 * Y i + e 3 * W i) * (n0 * X 0 + n1 * X 1 + n2 * X 2 + n3 * X 3) + (e 1 * X i + 2 * e 2 * Y i + e 4 * W i) * (n0 * Y 0 + n1 * Y 1 + n2 * Y 2 + n3 * Y 3) + (e 3 * X i + e 4 * Y i + 2 * e 5 * W i) * (n0 * W 0 + n1 * W 1 + n2 * W 2 + n3 * W 3) := by
    unfold sP
    clear h1 h2 h3
    grind
  rw [q, h1, h2, h3]
  omega
/-- the lowest power: if it is not in the second, it is not in the third -/
theorem par03 {X Y W e : Nat → Int} {b : Nat} (hC : CK (2 ^ 32) e X Y W) (hA : dvA b e X Y W) (hb : b ≤ 20) (h02 : (2 ^ (b + 1) : Int) ∣ sP e X Y W 0 2) : (2 ^ (b + 1) : Int) ∣ sP e X Y W 0 3 := by
  apply Classical.byContradiction
  intro hn
  obtain ⟨n0, n1, n2, n3, hr, ho⟩ := Rl_ex X Y W
  have up : ∀ {z : Int}, (2 ^ 32 : Int) ∣ z → (2 ^ (b + 1) : Int) ∣ z := fun h => pw_le_dvd (by omega) h
  have ev : ∀ {z : Int}, (2 ^ b : Int) ∣ z → (2 ^ (b + 1) : Int) ∣ 2 * z := fun {z} h => by
    obtain ⟨t, ht⟩ := h
    exact ⟨t, by rw [ht, Int.pow_succ]; grind⟩
  have ev2 : ∀ {n z : Int}, n % 2 = 0 → (2 ^ b : Int) ∣ z → (2 ^ (b + 1) : Int) ∣ n * z := fun {n z} hn h => by
    obtain ⟨t, ht⟩ := h
    obtain ⟨m, hm⟩ : ∃ m, n = 2 * m := ⟨n / 2, by omega⟩
    exact ⟨m * t, by rw [ht, hm, Int.pow_succ]; grind⟩
  have cut : ∀ {n z : Int}, ¬ (2 ^ (b + 1) : Int) ∣ z → (2 ^ b : Int) ∣ z → (2 ^ (b + 1) : Int) ∣ n * z → n % 2 = 0 := fun {n z} hz h hnz => by
    obtain ⟨t, ht⟩ := h
    have ot : t % 2 = 1 := by
      rcases Int.emod_two_eq t with y | y
      · exfalso
        obtain ⟨m, hm⟩ : ∃ m, t = 2 * m := ⟨t / 2, by omega⟩
        exact hz ⟨m, by rw [ht, hm, Int.pow_succ]; grind⟩
      · exact y
    have h1 : (2 ^ (1 + b) : Int) ∣ 2 ^ b * t * n := by
      rw [show 1 + b = b + 1 by omega, ← ht, Int.mul_comm]
      exact hnz
    have h2 := odd_cancel2 ot h1
    omega
  have hn12 : ¬ (2 ^ (b + 1) : Int) ∣ sP e X Y W 1 2 := fun h => hn (by
    have e1 : sP e X Y W 0 3 = (sP e X Y W 0 3 + sP e X Y W 1 2) - sP e X Y W 1 2 := by omega
    rw [e1]
    exact Int.dvd_sub (up hC.2.2.2.1) h)
  have r0 := Rl_S (e := e) hr 0
  have r1 := Rl_S (e := e) hr 1
  have r2 := Rl_S (e := e) hr 2
  have r3 := Rl_S (e := e) hr 3
  rw [sP_self] at r0 r1 r2 r3
  rw [sP_sym e X Y W 1 0] at r1
  rw [sP_sym e X Y W 2 0, sP_sym e X Y W 2 1] at r2
  rw [sP_sym e X Y W 3 0, sP_sym e X Y W 3 1, sP_sym e X Y W 3 2] at r3
  have k3 : n3 % 2 = 0 := cut hn (hA.2 0 3 (by decide) (by decide)) (by
    have e1 : n3 * sP e X Y W 0 3 = -(n0 * (2 * sE e X Y W 0) + n1 * sP e X Y W 0 1 + n2 * sP e X Y W 0 2) := by omega
    rw [e1]
    exact Int.dvd_neg.mpr (Int.dvd_add (Int.dvd_add (dl _ (dl _ (up hC.1))) (dl _ (up hC.2.1))) (dl _ h02)))
  have k2 : n2 % 2 = 0 := cut hn12 (hA.2 1 2 (by decide) (by decide)) (by
    have e1 : n2 * sP e X Y W 1 2 = -(n0 * sP e X Y W 0 1 + n1 * (2 * sE e X Y W 1) + n3 * sP e X Y W 1 3) := by omega
    rw [e1]
    exact Int.dvd_neg.mpr (Int.dvd_add (Int.dvd_add (dl _ (up hC.2.1)) (dl _ (ev (hA.1 1 (by decide))))) (ev2 k3 (hA.2 1 3 (by decide) (by decide)))))
  have k1 : n1 % 2 = 0 := cut hn12 (hA.2 1 2 (by decide) (by decide)) (by
    have e1 : n1 * sP e X Y W 1 2 = -(n0 * sP e X Y W 0 2 + n2 * (2 * sE e X Y W 2) + n3 * sP e X Y W 2 3) := by omega
    rw [e1]
    exact Int.dvd_neg.mpr (Int.dvd_add (Int.dvd_add (dl _ h02) (dl _ (ev (hA.1 2 (by decide))))) (ev2 k3 (hA.2 2 3 (by decide) (by decide)))))
  have k0 : n0 % 2 = 0 := cut hn (hA.2 0 3 (by decide) (by decide)) (by
    have e1 : n0 * sP e X Y W 0 3 = -(n1 * sP e X Y W 1 3 + n2 * sP e X Y W 2 3 + n3 * (2 * sE e X Y W 3)) := by omega
    rw [e1]
    exact Int.dvd_neg.mpr (Int.dvd_add (Int.dvd_add (ev2 k1 (hA.2 1 3 (by decide) (by decide))) (ev2 k2 (hA.2 2 3 (by decide) (by decide)))) (dl _ (ev (hA.1 3 (by decide))))))
  omega
end
section
theorem sEs0 (e X Y W : Nat → Int) : sE e (sf X) (sf Y) (sf W) 0 = 1 * sE e X Y W 0 + 1 * sE e X Y W 1 + 1 * sE e X Y W 2 + 1 * sE e X Y W 3 + 1 * sE e X Y W 4 + 1 * sP e X Y W 0 1 + 1 * sP e X Y W 0 2 + 1 * sP e X Y W 0 3 + 1 * sP e X Y W 0 4 + 1 * sP e X Y W 1 2 + 1 * sP e X Y W 1 3 + 1 * sP e X Y W 1 4 + 1 * sP e X Y W 2 3 + 1 * sP e X Y W 2 4 + 1 * sP e X Y W 3 4 := by
  simp only [sE, sP, sf]
  grind
theorem sEs1 (e X Y W : Nat → Int) : sE e (sf X) (sf Y) (sf W) 1 = 1 * sE e X Y W 1 + 4 * sE e X Y W 2 + 9 * sE e X Y W 3 + 16 * sE e X Y W 4 + 2 * sP e X Y W 1 2 + 3 * sP e X Y W 1 3 + 4 * sP e X Y W 1 4 + 6 * sP e X Y W 2 3 + 8 * sP e X Y W 2 4 + 12 * sP e X Y W 3 4 := by
  simp only [sE, sP, sf]
  grind
theorem sEs2 (e X Y W : Nat → Int) : sE e (sf X) (sf Y) (sf W) 2 = 1 * sE e X Y W 2 + 9 * sE e X Y W 3 + 36 * sE e X Y W 4 + 3 * sP e X Y W 2 3 + 6 * sP e X Y W 2 4 + 18 * sP e X Y W 3 4 := by
  simp only [sE, sP, sf]
  grind
theorem sEs3 (e X Y W : Nat → Int) : sE e (sf X) (sf Y) (sf W) 3 = 1 * sE e X Y W 3 + 16 * sE e X Y W 4 + 4 * sP e X Y W 3 4 := by
  simp only [sE, sP, sf]
  grind
theorem sEs4 (e X Y W : Nat → Int) : sE e (sf X) (sf Y) (sf W) 4 = 1 * sE e X Y W 4 := by
  simp only [sE, sP, sf]
  grind
theorem sPs01 (e X Y W : Nat → Int) : sP e (sf X) (sf Y) (sf W) 0 1 = 2 * sE e X Y W 1 + 4 * sE e X Y W 2 + 6 * sE e X Y W 3 + 8 * sE e X Y W 4 + 1 * sP e X Y W 0 1 + 2 * sP e X Y W 0 2 + 3 * sP e X Y W 0 3 + 4 * sP e X Y W 0 4 + 3 * sP e X Y W 1 2 + 4 * sP e X Y W 1 3 + 5 * sP e X Y W 1 4 + 5 * sP e X Y W 2 3 + 6 * sP e X Y W 2 4 + 7 * sP e X Y W 3 4 := by
  simp only [sE, sP, sf]
  grind
theorem sPs02 (e X Y W : Nat → Int) : sP e (sf X) (sf Y) (sf W) 0 2 = 2 * sE e X Y W 2 + 6 * sE e X Y W 3 + 12 * sE e X Y W 4 + 1 * sP e X Y W 0 2 + 3 * sP e X Y W 0 3 + 6 * sP e X Y W 0 4 + 1 * sP e X Y W 1 2 + 3 * sP e X Y W 1 3 + 6 * sP e X Y W 1 4 + 4 * sP e X Y W 2 3 + 7 * sP e X Y W 2 4 + 9 * sP e X Y W 3 4 := by
  simp only [sE, sP, sf]
  grind
theorem sPs03 (e X Y W : Nat → Int) : sP e (sf X) (sf Y) (sf W) 0 3 = 2 * sE e X Y W 3 + 8 * sE e X Y W 4 + 1 * sP e X Y W 0 3 + 4 * sP e X Y W 0 4 + 1 * sP e X Y W 1 3 + 4 * sP e X Y W 1 4 + 1 * sP e X Y W 2 3 + 4 * sP e X Y W 2 4 + 5 * sP e X Y W 3 4 := by
  simp only [sE, sP, sf]
  grind
theorem sPs04 (e X Y W : Nat → Int) : sP e (sf X) (sf Y) (sf W) 0 4 = 2 * sE e X Y W 4 + 1 * sP e X Y W 0 4 + 1 * sP e X Y W 1 4 + 1 * sP e X Y W 2 4 + 1 * sP e X Y W 3 4 := by
  simp only [sE, sP, sf]
  grind
theorem sPs12 (e X Y W : Nat → Int) : sP e (sf X) (sf Y) (sf W) 1 2 = 4 * sE e X Y W 2 + 18 * sE e X Y W 3 + 48 * sE e X Y W 4 + 1 * sP e X Y W 1 2 + 3 * sP e X Y W 1 3 + 6 * sP e X Y W 1 4 + 9 * sP e X Y W 2 3 + 16 * sP e X Y W 2 4 + 30 * sP e X Y W 3 4 := by
  simp only [sE, sP, sf]
  grind
theorem sPs13 (e X Y W : Nat → Int) : sP e (sf X) (sf Y) (sf W) 1 3 = 6 * sE e X Y W 3 + 32 * sE e X Y W 4 + 1 * sP e X Y W 1 3 + 4 * sP e X Y W 1 4 + 2 * sP e X Y W 2 3 + 8 * sP e X Y W 2 4 + 16 * sP e X Y W 3 4 := by
  simp only [sE, sP, sf]
  grind
theorem sPs14 (e X Y W : Nat → Int) : sP e (sf X) (sf Y) (sf W) 1 4 = 8 * sE e X Y W 4 + 1 * sP e X Y W 1 4 + 2 * sP e X Y W 2 4 + 3 * sP e X Y W 3 4 := by
  simp only [sE, sP, sf]
  grind
theorem sPs23 (e X Y W : Nat → Int) : sP e (sf X) (sf Y) (sf W) 2 3 = 6 * sE e X Y W 3 + 48 * sE e X Y W 4 + 1 * sP e X Y W 2 3 + 4 * sP e X Y W 2 4 + 18 * sP e X Y W 3 4 := by
  simp only [sE, sP, sf]
  grind
theorem sPs24 (e X Y W : Nat → Int) : sP e (sf X) (sf Y) (sf W) 2 4 = 12 * sE e X Y W 4 + 1 * sP e X Y W 2 4 + 3 * sP e X Y W 3 4 := by
  simp only [sE, sP, sf]
  grind
theorem sPs34 (e X Y W : Nat → Int) : sP e (sf X) (sf Y) (sf W) 3 4 = 8 * sE e X Y W 4 + 1 * sP e X Y W 3 4 := by
  simp only [sE, sP, sf]
  grind
theorem dvA_sf {b : Nat} {e X Y W : Nat → Int} (hA : dvA b e X Y W) : dvA b e (sf X) (sf Y) (sf W) := by
  refine dvA_of ?_ ?_ ?_ ?_ ?_ ?_ ?_ ?_ ?_ ?_ ?_ ?_ ?_ ?_ ?_
  · rw [sEs0]
    exact (Int.dvd_add (Int.dvd_add (Int.dvd_add (Int.dvd_add (Int.dvd_add (Int.dvd_add (Int.dvd_add (Int.dvd_add (Int.dvd_add (Int.dvd_add (Int.dvd_add (Int.dvd_add (Int.dvd_add (Int.dvd_add (dl _ (hA.1 0 (by decide))) (dl _ (hA.1 1 (by decide)))) (dl _ (hA.1 2 (by decide)))) (dl _ (hA.1 3 (by decide)))) (dl _ (hA.1 4 (by decide)))) (dl _ (hA.2 0 1 (by decide) (by decide)))) (dl _ (hA.2 0 2 (by decide) (by decide)))) (dl _ (hA.2 0 3 (by decide) (by decide)))) (dl _ (hA.2 0 4 (by decide) (by decide)))) (dl _ (hA.2 1 2 (by decide) (by decide)))) (dl _ (hA.2 1 3 (by decide) (by decide)))) (dl _ (hA.2 1 4 (by decide) (by decide)))) (dl _ (hA.2 2 3 (by decide) (by decide)))) (dl _ (hA.2 2 4 (by decide) (by decide)))) (dl _ (hA.2 3 4 (by decide) (by decide))))
  · rw [sEs1]
    exact (Int.dvd_add (Int.dvd_add (Int.dvd_add (Int.dvd_add (Int.dvd_add (Int.dvd_add (Int.dvd_add (Int.dvd_add (Int.dvd_add (dl _ (hA.1 1 (by decide))) (dl _ (hA.1 2 (by decide)))) (dl _ (hA.1 3 (by decide)))) (dl _ (hA.1 4 (by decide)))) (dl _ (hA.2 1 2 (by decide) (by decide)))) (dl _ (hA.2 1 3 (by decide) (by decide)))) (dl _ (hA.2 1 4 (by decide) (by decide)))) (dl _ (hA.2 2 3 (by decide) (by decide)))) (dl _ (hA.2 2 4 (by decide) (by decide)))) (dl _ (hA.2 3 4 (by decide) (by decide))))
  · rw [sEs2]
    exact (Int.dvd_add (Int.dvd_add (Int.dvd_add (Int.dvd_add (Int.dvd_add (dl _ (hA.1 2 (by decide))) (dl _ (hA.1 3 (by decide)))) (dl _ (hA.1 4 (by decide)))) (dl _ (hA.2 2 3 (by decide) (by decide)))) (dl _ (hA.2 2 4 (by decide) (by decide)))) (dl _ (hA.2 3 4 (by decide) (by decide))))
  · rw [sEs3]
    exact (Int.dvd_add (Int.dvd_add (dl _ (hA.1 3 (by decide))) (dl _ (hA.1 4 (by decide)))) (dl _ (hA.2 3 4 (by decide) (by decide))))
  · rw [sEs4]
    exact (dl _ (hA.1 4 (by decide)))
  · rw [sPs01]
    exact (Int.dvd_add (Int.dvd_add (Int.dvd_add (Int.dvd_add (Int.dvd_add (Int.dvd_add (Int.dvd_add (Int.dvd_add (Int.dvd_add (Int.dvd_add (Int.dvd_add (Int.dvd_add (Int.dvd_add (dl _ (hA.1 1 (by decide))) (dl _ (hA.1 2 (by decide)))) (dl _ (hA.1 3 (by decide)))) (dl _ (hA.1 4 (by decide)))) (dl _ (hA.2 0 1 (by decide) (by decide)))) (dl _ (hA.2 0 2 (by decide) (by decide)))) (dl _ (hA.2 0 3 (by decide) (by decide)))) (dl _ (hA.2 0 4 (by decide) (by decide)))) (dl _ (hA.2 1 2 (by decide) (by decide)))) (dl _ (hA.2 1 3 (by decide) (by decide)))) (dl _ (hA.2 1 4 (by decide) (by decide)))) (dl _ (hA.2 2 3 (by decide) (by decide)))) (dl _ (hA.2 2 4 (by decide) (by decide)))) (dl _ (hA.2 3 4 (by decide) (by decide))))
  · rw [sPs02]
    exact (Int.dvd_add (Int.dvd_add (Int.dvd_add (Int.dvd_add (Int.dvd_add (Int.dvd_add (Int.dvd_add (Int.dvd_add (Int.dvd_add (Int.dvd_add (Int.dvd_add (dl _ (hA.1 2 (by decide))) (dl _ (hA.1 3 (by decide)))) (dl _ (hA.1 4 (by decide)))) (dl _ (hA.2 0 2 (by decide) (by decide)))) (dl _ (hA.2 0 3 (by decide) (by decide)))) (dl _ (hA.2 0 4 (by decide) (by decide)))) (dl _ (hA.2 1 2 (by decide) (by decide)))) (dl _ (hA.2 1 3 (by decide) (by decide)))) (dl _ (hA.2 1 4 (by decide) (by decide)))) (dl _ (hA.2 2 3 (by decide) (by decide)))) (dl _ (hA.2 2 4 (by decide) (by decide)))) (dl _ (hA.2 3 4 (by decide) (by decide))))
  · rw [sPs03]
    exact (Int.dvd_add (Int.dvd_add (Int.dvd_add (Int.dvd_add (Int.dvd_add (Int.dvd_add (Int.dvd_add (Int.dvd_add (dl _ (hA.1 3 (by decide))) (dl _ (hA.1 4 (by decide)))) (dl _ (hA.2 0 3 (by decide) (by decide)))) (dl _ (hA.2 0 4 (by decide) (by decide)))) (dl _ (hA.2 1 3 (by decide) (by decide)))) (dl _ (hA.2 1 4 (by decide) (by decide)))) (dl _ (hA.2 2 3 (by decide) (by decide)))) (dl _ (hA.2 2 4 (by decide) (by decide)))) (dl _ (hA.2 3 4 (by decide) (by decide))))
  · rw [sPs04]
    exact (Int.dvd_add (Int.dvd_add (Int.dvd_add (Int.dvd_add (dl _ (hA.1 4 (by decide))) (dl _ (hA.2 0 4 (by decide) (by decide)))) (dl _ (hA.2 1 4 (by decide) (by decide)))) (dl _ (hA.2 2 4 (by decide) (by decide)))) (dl _ (hA.2 3 4 (by decide) (by decide))))
  · rw [sPs12]
    exact (Int.dvd_add (Int.dvd_add (Int.dvd_add (Int.dvd_add (Int.dvd_add (Int.dvd_add (Int.dvd_add (Int.dvd_add (dl _ (hA.1 2 (by decide))) (dl _ (hA.1 3 (by decide)))) (dl _ (hA.1 4 (by decide)))) (dl _ (hA.2 1 2 (by decide) (by decide)))) (dl _ (hA.2 1 3 (by decide) (by decide)))) (dl _ (hA.2 1 4 (by decide) (by decide)))) (dl _ (hA.2 2 3 (by decide) (by decide)))) (dl _ (hA.2 2 4 (by decide) (by decide)))) (dl _ (hA.2 3 4 (by decide) (by decide))))
  · rw [sPs13]
    exact (Int.dvd_add (Int.dvd_add (Int.dvd_add (Int.dvd_add (Int.dvd_add (Int.dvd_add (dl _ (hA.1 3 (by decide))) (dl _ (hA.1 4 (by decide)))) (dl _ (hA.2 1 3 (by decide) (by decide)))) (dl _ (hA.2 1 4 (by decide) (by decide)))) (dl _ (hA.2 2 3 (by decide) (by decide)))) (dl _ (hA.2 2 4 (by decide) (by decide)))) (dl _ (hA.2 3 4 (by decide) (by decide))))
  · rw [sPs14]
    exact (Int.dvd_add (Int.dvd_add (Int.dvd_add (dl _ (hA.1 4 (by decide))) (dl _ (hA.2 1 4 (by decide) (by decide)))) (dl _ (hA.2 2 4 (by decide) (by decide)))) (dl _ (hA.2 3 4 (by decide) (by decide))))
  · rw [sPs23]
    exact (Int.dvd_add (Int.dvd_add (Int.dvd_add (Int.dvd_add (dl _ (hA.1 3 (by decide))) (dl _ (hA.1 4 (by decide)))) (dl _ (hA.2 2 3 (by decide) (by decide)))) (dl _ (hA.2 2 4 (by decide) (by decide)))) (dl _ (hA.2 3 4 (by decide) (by decide))))
  · rw [sPs24]
    exact (Int.dvd_add (Int.dvd_add (dl _ (hA.1 4 (by decide))) (dl _ (hA.2 2 4 (by decide) (by decide)))) (dl _ (hA.2 3 4 (by decide) (by decide))))
  · rw [sPs34]
    exact (Int.dvd_add (dl _ (hA.1 4 (by decide))) (dl _ (hA.2 3 4 (by decide) (by decide))))
theorem dvA_rv {b : Nat} {e X Y W : Nat → Int} (hA : dvA b e X Y W) : dvA b e (rv X) (rv Y) (rv W) := ⟨fun i hi => hA.1 (4 - i) (by omega), fun i j hi hj => hA.2 (4 - i) (4 - j) (by omega) (by omega)⟩
theorem odd_q {b : Nat} {z : Int} (h : (2 ^ b : Int) ∣ z) (hn : ¬ (2 ^ (b + 1) : Int) ∣ z) : ∃ k : Int, z = 2 ^ b * k ∧ k % 2 = 1 := by
  obtain ⟨t, ht⟩ := h
  refine ⟨t, ht, ?_⟩
  rcases Int.emod_two_eq t with y | y
  · exfalso
    obtain ⟨m, hm⟩ : ∃ m, t = 2 * m := ⟨t / 2, by omega⟩
    exact hn ⟨m, by rw [ht, hm, Int.pow_succ]; grind⟩
  · exact y
theorem plain_0 {X Y W e G : Nat → Int} {c : Int} {b : Nat} (hS : SQ X Y W e G c) (hc : c ≠ 0) (he : ∃ i, i < 6 ∧ e i % 2 = 1) (h7 : b7 X Y W) (hA : dvA b e X Y W) (hb : b ≤ 20) (hn : ¬ (2 ^ (b + 1) : Int) ∣ sP e X Y W 0 2) : (d3 X Y W 0 1 2 ≠ 0 ∧ EA X Y W) ∨ ∀ x y w : Int, FF X Y W x y w = 0 := by
  obtain ⟨k, hk, ok⟩ := odd_q (hA.2 0 2 (by decide) (by decide)) hn
  have h0 := h7 0 (by decide)
  have hm := b7_m h7 (i := 0) (j := 1) (by decide) (by decide)
  exact plain0 hS hc he hA hk ok hb ⟨by omega, by omega, by omega⟩ ⟨by omega, by omega, by omega⟩ (b7_P h7)
theorem conic_main {X Y W e G : Nat → Int} {c : Int} (hS : SQ X Y W e G c) (hc : c ≠ 0) (he : ∃ i, i < 6 ∧ e i % 2 = 1) (h7 : b7 X Y W) (hp : ∃ i j k, i < 5 ∧ j < 5 ∧ k < 5 ∧ d3 X Y W i j k ≠ 0) : (d3 X Y W 0 1 2 ≠ 0 ∧ EA X Y W) ∨ (d3 (rv X) (rv Y) (rv W) 0 1 2 ≠ 0 ∧ EA (rv X) (rv Y) (rv W)) ∨ (∀ x y w : Int, FF X Y W x y w = 0) ∨ ∃ (b : Nat) (k : Int), b ≤ 20 ∧ dvA b e X Y W ∧ sP e X Y W 0 4 = 2 ^ b * k ∧ k % 2 = 1 ∧ (2 ^ (b + 1) : Int) ∣ sP e X Y W 0 2 ∧ (2 ^ (b + 1) : Int) ∣ sP e X Y W 0 3 ∧ (2 ^ (b + 1) : Int) ∣ sP e X Y W 1 3 ∧ (2 ^ (b + 1) : Int) ∣ sP e X Y W 1 4 ∧ (2 ^ (b + 1) : Int) ∣ sP e X Y W 2 4 := by
  obtain ⟨b, hb, hA, hnA⟩ := low_b he h7 hp
  have hC := SQ_CK hS hc
  have hCr := SQ_CK (SQ_rv hS) hc
  by_cases q02 : (2 ^ (b + 1) : Int) ∣ sP e X Y W 0 2
  · by_cases q24 : (2 ^ (b + 1) : Int) ∣ sP e X Y W 2 4
    · have q03 := par03 hC hA hb q02
      have q14 : (2 ^ (b + 1) : Int) ∣ sP e X Y W 1 4 := by
        have h := par03 hCr (dvA_rv hA) hb (by
          show (2 ^ (b + 1) : Int) ∣ sP e X Y W 4 2
          rw [sP_sym]
          exact q24)
        have h2 : (2 ^ (b + 1) : Int) ∣ sP e X Y W 4 1 := h
        rw [sP_sym]
        exact h2
      by_cases q13 : (2 ^ (b + 1) : Int) ∣ sP e X Y W 1 3
      · right
        right
        right
        have q04 : ¬ (2 ^ (b + 1) : Int) ∣ sP e X Y W 0 4 := fun h => hnA (dvA_six hC (by omega) q02 q03 h q13 q14 q24)
        obtain ⟨k, hk, ok⟩ := odd_q (hA.2 0 4 (by decide) (by decide)) q04
        exact ⟨b, k, hb, hA, hk, ok, q02, q03, q13, q14, q24⟩
      · right
        right
        left
        have up : ∀ {z : Int}, (2 ^ 32 : Int) ∣ z → (2 ^ (b + 1) : Int) ∣ z := fun h => pw_le_dvd (by omega) h
        have ev : ∀ {z : Int}, (2 ^ b : Int) ∣ z → (2 ^ (b + 1) : Int) ∣ 2 * z := fun {z} h => by
          obtain ⟨t, ht⟩ := h
          exact ⟨t, by rw [ht, Int.pow_succ]; grind⟩
        have hAs := dvA_sf hA
        have S := fun i j hi hj => hA.2 i j hi hj
        have n2 : ¬ (2 ^ (b + 1) : Int) ∣ sP e (sf X) (sf Y) (sf W) 0 2 := fun h => q13 (by
          rw [sPs02] at h
          have e1 : sP e X Y W 1 3 = (2 * sE e X Y W 2 + 6 * sE e X Y W 3 + 12 * sE e X Y W 4 + 1 * sP e X Y W 0 2 + 3 * sP e X Y W 0 3 + 6 * sP e X Y W 0 4 + 1 * sP e X Y W 1 2 + 3 * sP e X Y W 1 3 + 6 * sP e X Y W 1 4 + 4 * sP e X Y W 2 3 + 7 * sP e X Y W 2 4 + 9 * sP e X Y W 3 4) - (sP e X Y W 0 2 + 7 * sP e X Y W 2 4 + 9 * sP e X Y W 3 4 + (sP e X Y W 0 3 + sP e X Y W 1 2) + 2 * (sP e X Y W 0 3 + sP e X Y W 1 3 + 3 * sP e X Y W 0 4 + 3 * sP e X Y W 1 4 + 2 * sP e X Y W 2 3 + sE e X Y W 2 + 3 * sE e X Y W 3 + 6 * sE e X Y W 4)) := by omega
          rw [e1]
          refine Int.dvd_sub h (Int.dvd_add (Int.dvd_add (Int.dvd_add (Int.dvd_add q02 (dl _ q24)) (dl _ (up hC.2.2.2.2.2.2.2.1))) (up hC.2.2.2.1)) (ev ?_))
          exact Int.dvd_add (Int.dvd_add (Int.dvd_add (Int.dvd_add (Int.dvd_add (Int.dvd_add (Int.dvd_add (S 0 3 (by decide) (by decide)) (S 1 3 (by decide) (by decide))) (dl _ (S 0 4 (by decide) (by decide)))) (dl _ (S 1 4 (by decide) (by decide)))) (dl _ (S 2 3 (by decide) (by decide)))) (hA.1 2 (by decide))) (dl _ (hA.1 3 (by decide)))) (dl _ (hA.1 4 (by decide))))
        have n3 : ¬ (2 ^ (b + 1) : Int) ∣ sP e (sf X) (sf Y) (sf W) 0 3 := fun h => q13 (by
          rw [sPs03] at h
          have e1 : sP e X Y W 1 3 = (2 * sE e X Y W 3 + 8 * sE e X Y W 4 + 1 * sP e X Y W 0 3 + 4 * sP e X Y W 0 4 + 1 * sP e X Y W 1 3 + 4 * sP e X Y W 1 4 + 1 * sP e X Y W 2 3 + 4 * sP e X Y W 2 4 + 5 * sP e X Y W 3 4) - (sP e X Y W 0 3 + ((sP e X Y W 1 4 + sP e X Y W 2 3) - sP e X Y W 1 4) + 5 * sP e X Y W 3 4 + 2 * (2 * sP e X Y W 0 4 + 2 * sP e X Y W 1 4 + 2 * sP e X Y W 2 4 + sE e X Y W 3 + 4 * sE e X Y W 4)) := by omega
          rw [e1]
          refine Int.dvd_sub h (Int.dvd_add (Int.dvd_add (Int.dvd_add q03 (Int.dvd_sub (up hC.2.2.2.2.2.1) q14)) (dl _ (up hC.2.2.2.2.2.2.2.1))) (ev ?_))
          exact Int.dvd_add (Int.dvd_add (Int.dvd_add (Int.dvd_add (dl _ (S 0 4 (by decide) (by decide))) (dl _ (S 1 4 (by decide) (by decide)))) (dl _ (S 2 4 (by decide) (by decide)))) (hA.1 3 (by decide))) (dl _ (hA.1 4 (by decide))))
        obtain ⟨k, hk, ok⟩ := odd_q (hAs.2 0 2 (by decide) (by decide)) n2
        obtain ⟨k3, hk3, ok3⟩ := odd_q (hAs.2 0 3 (by decide) (by decide)) n3
        exact plain_1 hS hc he hAs hk ok hk3 ok3 hb ⟨sf_0 fun i hi => (h7 i hi).1, sf_0 fun i hi => (h7 i hi).2.1, sf_0 fun i hi => (h7 i hi).2.2⟩ ⟨sf_m fun i j hi hj => (b7_m h7 hi hj).1, sf_m fun i j hi hj => (b7_m h7 hi hj).2.1, sf_m fun i j hi hj => (b7_m h7 hi hj).2.2⟩ (b7_P h7)
    · rcases plain_0 (SQ_rv hS) hc he (b7_rv h7) (dvA_rv hA) hb (fun h => q24 (by
        have h2 : (2 ^ (b + 1) : Int) ∣ sP e X Y W 4 2 := h
        rw [sP_sym]
        exact h2)) with z | z
      · exact Or.inr (Or.inl z)
      · exact Or.inr (Or.inr (Or.inl fun x y w => by rw [← FF_rv]; exact z x y w))
  · rcases plain_0 hS hc he h7 hA hb q02 with z | z
    · exact Or.inl z
    · exact Or.inr (Or.inr (Or.inl z))
end
section
/-! where the fourth pair alone has the lowest power -/
def pm (X : Nat → Int) (i : Nat) : Int := match i with
  | 0 => X 0
  | 1 => X 2
  | 2 => X 4
  | 3 => X 1
  | _ => X 3
theorem t24_l {e X Y W : Nat → Int} {m b a l : Nat} {k k2 : Int} (h0 : (2 ^ 32 : Int) ∣ sE e X Y W 0) (h2 : (2 ^ 32 : Int) ∣ sE e X Y W 2) (hS0 : (2 ^ b : Int) ∣ sP e X Y W 0 l) (hS2 : (2 ^ b : Int) ∣ sP e X Y W 2 l) (hEl : (2 ^ b : Int) ∣ sE e X Y W l) (hS01 : (2 ^ (b + 1) : Int) ∣ sP e X Y W 0 1) (hS12 : (2 ^ (b + 1) : Int) ∣ sP e X Y W 1 2) (hk : sP e X Y W 0 2 = 2 ^ b * k) (ok : k % 2 = 1) (hE1 : sE e X Y W 1 = 2 ^ b * k2) (ok2 : k2 % 2 = 1) (da : (2 ^ a : Int) ∣ d3 X Y W 0 1 2) (ma : (2 ^ m : Int) ∣ d3 X Y W 1 2 l) (mc : (2 ^ m : Int) ∣ d3 X Y W 0 1 l) (q1 : a + b ≤ 32 + m) (q2 : 2 * a + b ≤ 32 + 2 * m) : (2 ^ a : Int) ∣ d3 X Y W 0 1 l ∧ (2 ^ a : Int) ∣ d3 X Y W 0 2 l ∧ (2 ^ a : Int) ∣ d3 X Y W 1 2 l := by
  have I1 := sP_cmb e X Y W 0 0 1 2 l _ _ _ _ (cramX X Y W 0 1 2 l) (cramY X Y W 0 1 2 l) (cramW X Y W 0 1 2 l)
  have I3 := sP_cmb e X Y W 2 0 1 2 l _ _ _ _ (cramX X Y W 0 1 2 l) (cramY X Y W 0 1 2 l) (cramW X Y W 0 1 2 l)
  have I4 := sE_cmb e X Y W 0 1 2 l _ _ _ _ (cramX X Y W 0 1 2 l) (cramY X Y W 0 1 2 l) (cramW X Y W 0 1 2 l)
  rw [sP_self] at I1 I3
  rw [sP_sym e X Y W 2 0, sP_sym e X Y W 2 1] at I3
  generalize d3 X Y W 0 1 2 = d at *
  generalize d3 X Y W 1 2 l = A at *
  generalize d3 X Y W 0 2 l = B at *
  generalize d3 X Y W 0 1 l = C at *
  generalize sE e X Y W 0 = E0 at *
  generalize sE e X Y W 1 = E1 at *
  generalize sE e X Y W 2 = E2 at *
  generalize sE e X Y W l = El at *
  generalize sP e X Y W 0 1 = S01 at *
  generalize sP e X Y W 0 2 = S02 at *
  generalize sP e X Y W 1 2 = S12 at *
  generalize sP e X Y W 0 l = S0 at *
  generalize sP e X Y W 2 l = S2 at *
  have eC : 2 ^ b * k * C = d * S0 - A * E0 * 2 + B * S01 := by rw [← hk]; grind
  have eA : 2 ^ b * k * A = d * S2 + B * S12 - C * E2 * 2 := by rw [← hk]; grind
  have eB : 2 ^ b * k2 * (B * B) = d * d * El - A * A * E0 - C * C * E2 + A * B * S01 - A * C * S02 + B * C * S12 := by rw [← hE1]; grind
  have AC : ∀ j : Nat, j ≤ a → (2 ^ (j + b) : Int) ∣ B * S01 → (2 ^ (j + b) : Int) ∣ B * S12 → (2 ^ j : Int) ∣ A ∧ (2 ^ j : Int) ∣ C := fun j hj hB1 hB2 => by
    constructor
    · apply odd_cancel2 (b := b) ok
      rw [eA]
      refine Int.dvd_sub (Int.dvd_add (pw_le_dvd (by omega) (dvd_mul2 da hS2)) hB2) ?_
      exact Int.dvd_trans (pw_le_dvd (by omega) (dvd_mul2 mc h2)) (Int.dvd_mul_right _ _)
    · apply odd_cancel2 (b := b) ok
      rw [eC]
      refine Int.dvd_add (Int.dvd_sub (pw_le_dvd (by omega) (dvd_mul2 da hS0)) ?_) hB1
      exact Int.dvd_trans (pw_le_dvd (by omega) (dvd_mul2 ma h0)) (Int.dvd_mul_right _ _)
  have st : ∀ i : Nat, i ≤ a → (2 ^ i : Int) ∣ B := fun i => by
    induction i with
    | zero => exact fun _ => ⟨_, by rw [Int.pow_zero, Int.one_mul]⟩
    | succ i ih =>
      intro hi
      have hB := ih (by omega)
      obtain ⟨hA, hC⟩ := AC (i + 1) hi (pw_le_dvd (by omega) (dvd_mul2 hB hS01)) (pw_le_dvd (by omega) (dvd_mul2 hB hS12))
      apply sq_dvd
      apply odd_cancel2 (b := b) ok2
      rw [eB]
      refine Int.dvd_add (Int.dvd_sub (Int.dvd_add (Int.dvd_sub (Int.dvd_sub ?_ ?_) ?_) ?_) ?_) ?_
      · exact pw_le_dvd (by omega) (dvd_mul2 (dvd_mul2 da da) hEl)
      · exact pw_le_dvd (by omega) (dvd_mul2 (dvd_mul2 ma ma) h0)
      · exact pw_le_dvd (by omega) (dvd_mul2 (dvd_mul2 mc mc) h2)
      · exact pw_le_dvd (by omega) (dvd_mul2 (dvd_mul2 hA hB) hS01)
      · exact pw_le_dvd (by omega) (dvd_mul2 (dvd_mul2 hA hC) ⟨k, hk⟩)
      · exact pw_le_dvd (by omega) (dvd_mul2 (dvd_mul2 hB hC) hS12)
  have hB := st a (Nat.le_refl _)
  obtain ⟨hA, hC⟩ := AC a (Nat.le_refl _) (pw_le_dvd (by omega) (dvd_mul2 hB hS01)) (pw_le_dvd (by omega) (dvd_mul2 hB hS12))
  exact ⟨hC, hB, hA⟩
/-- the system in its coordinates -/
theorem t24_sys {R : Type} [Lean.Grind.CommRing R] {x1 x2 x3 y1 y2 y3 p q r u v : R} (h1 : x3 + x2 * p = 0) (h2 : y1 + y2 * q = 0) (h3 : (y3 + y2 * p) + x1 * p + 2 * x2 * r + x3 * q = 0) (h5 : (x1 + x2 * q) + y1 * p + 2 * y2 * r + y3 * q = 0) (h4 : p + x2 * x2 * r + x1 * x2 * p + x1 * x3 + x2 * x3 * q = 0) (h6 : q + y2 * y2 * r + y1 * y2 * p + y1 * y3 + y2 * y3 * q = 0) (h7 : 1 + 2 * x2 * y2 * r + (x1 * y2 + x2 * y1) * p + (x1 * y3 + x3 * y1) + (x2 * y3 + x3 * y2) * q + r = 0) (hu : u * (1 + x2 * y2 * (r - p * q)) = 1) (hv : v * (1 - x2 * y2 * (r - p * q)) = 1) : ∃ T : R, T = x2 * y2 * (r - p * q) ∧ T = -(x2 * y2 * ((1 - T) * (1 - T))) ∧ x3 = -(x2 * x2 * x2 * ((1 - T) * (1 - T))) ∧ y3 = x2 * (2 - T) ∧ x1 = y2 * (2 - T) ∧ y1 = -(y2 * y2 * y2 * ((1 - T) * (1 - T))) := by
  have e3 : x3 = -(x2 * p) := by clear h2 h3 h5 h4 h6 h7 hu hv; grind
  have e1 : y1 = -(y2 * q) := by clear h1 h3 h5 h4 h6 h7 hu hv e3; grind
  subst e3
  subst e1
  clear h1 h2
  obtain ⟨ρ, hρ⟩ : ∃ ρ, ρ = r - p * q := ⟨_, rfl⟩
  rw [← hρ] at hu hv
  have hr : r = ρ + p * q := by rw [hρ]; clear hu hv h3 h5 h4 h6 h7 hρ; grind
  subst hr
  clear hρ
  have kp : p = -(x2 * x2 * ρ) := by clear hu hv h3 h5 h6 h7; grind
  have kq : q = -(y2 * y2 * ρ) := by clear hu hv h3 h5 h4 h7 kp; grind
  obtain ⟨c, hc⟩ : ∃ c, c = y3 + y2 * p := ⟨_, rfl⟩
  obtain ⟨a, ha⟩ : ∃ a, a = x1 + x2 * q := ⟨_, rfl⟩
  obtain ⟨T, hT⟩ : ∃ T, T = x2 * y2 * ρ := ⟨_, rfl⟩
  have k3 : c + a * p + 2 * x2 * ρ = 0 := by rw [hc, ha]; clear hu hv h5 h4 h6 h7 kp kq hc ha hT; grind
  have k5 : a + c * q + 2 * y2 * ρ = 0 := by rw [hc, ha]; clear hu hv h3 h4 h6 h7 kp kq hc ha hT k3; grind
  have k7 : 1 + ρ + p * q + a * c + 2 * (x2 * y2 * ρ) = 0 := by rw [hc, ha]; clear hu hv h3 h5 h4 h6 kp kq hc ha hT k3 k5; grind
  have hx1 : x1 = a - x2 * q := by rw [ha]; clear hu hv h3 h5 h4 h6 h7 kp kq hc ha hT k3 k5 k7; grind
  have hy3 : y3 = c - y2 * p := by rw [hc]; clear hu hv h3 h5 h4 h6 h7 kp kq hc ha hT k3 k5 k7 hx1; grind
  clear ha hc h3 h5 h4 h6 h7
  rw [← hT] at hu hv
  have g1 : a * x2 = T * (c * y2 - 2) := by rw [hT]; clear hu hv k3 k7 hx1 hy3 kp hT; grind
  have g2 : c * y2 = T * (a * x2 - 2) := by rw [hT]; clear hu hv k5 k7 hx1 hy3 kq hT g1; grind
  have g3 : (a * x2 - c * y2) * (1 + T) = 0 := by clear hu hv k3 k5 k7 hx1 hy3 kp kq hT; grind
  have g4 : a * x2 = c * y2 := by clear hv k3 k5 k7 hx1 hy3 kp kq hT g1 g2; grind
  have g5 : a * x2 * (1 - T) = -(2 * T) := by rw [← g4] at g1; clear hu hv k3 k5 k7 hx1 hy3 kp kq hT g2 g3 g4; grind
  have g6 : a * c = ρ * (a * x2) * (a * x2 - 2) := by
    have : c = x2 * ρ * (a * x2 - 2) := by clear hu hv k5 k7 hx1 hy3 kq hT g1 g2 g3 g4 g5; grind
    rw [this]
    clear hu hv k5 k7 hx1 hy3 kq hT g1 g2 g3 g4 g5 k3 this
    grind
  have g7 : p * q = T * T := by rw [kp, kq, hT]; clear hu hv k5 k7 hx1 hy3 kq kp hT g1 g2 g3 g4 g5 g6 k3; grind
  have g8 : (1 + T) * (1 + T) + ρ + a * c = 0 := by rw [g7, ← hT] at k7; clear hu hv k5 hx1 hy3 kq kp hT g1 g2 g3 g4 g5 g6 k3 g7; grind
  have g9 : a * c * ((1 - T) * (1 - T)) = 4 * T * ρ := by
    rw [g6]
    generalize a * x2 = A at *
    clear hu hv k5 hx1 hy3 kq kp hT g1 g2 g3 g4 g6 k3 g7 g8 k7
    have : (A - 2) * (1 - T) = -2 := by grind
    have e : ρ * A * (A - 2) * ((1 - T) * (1 - T)) = ρ * (A * (1 - T)) * ((A - 2) * (1 - T)) := by clear g5 this; grind
    rw [e, g5, this]
    grind
  have g10 : (1 + T) * (1 + T) * ((1 - T) * (1 - T) + ρ) = 0 := by clear hu hv k5 hx1 hy3 kq kp hT g1 g2 g3 g4 g5 g6 k3 g7 k7; grind
  have g11 : ρ = -((1 - T) * (1 - T)) := by
    have e : u * u * ((1 + T) * (1 + T) * ((1 - T) * (1 - T) + ρ)) = (u * (1 + T)) * (u * (1 + T)) * ((1 - T) * (1 - T) + ρ) := by clear hu hv k5 hx1 hy3 kq kp hT g1 g2 g3 g4 g5 g6 k3 g7 k7 g8 g9 g10; grind
    rw [g10, hu] at e
    clear hu hv k5 hx1 hy3 kq kp hT g1 g2 g3 g4 g5 g6 k3 g7 k7 g8 g9 g10
    grind
  have hc2 : c = 2 * x2 * (1 - T) := by
    have s1 : c = x2 * ρ * (a * x2 - 2) := by clear hu hv k5 k7 hx1 hy3 kq hT g1 g2 g3 g4 g5 g6 g7 g8 g9 g10 g11; grind
    have s2 : c * (1 - T) = 2 * x2 * ((1 - T) * (1 - T)) := by
      have : (a * x2 - 2) * (1 - T) = -2 := by clear hu hv k5 k7 hx1 hy3 kq hT g1 g2 g3 g4 g6 g7 g8 g9 g10 g11 s1 k3 kp; grind
      have e : c * (1 - T) = x2 * ρ * ((a * x2 - 2) * (1 - T)) := by rw [s1]; clear hu hv k5 k7 hx1 hy3 kq hT g1 g2 g3 g4 g5 g6 g7 g8 g9 g10 g11 s1 k3 kp this; grind
      rw [e, this, g11]
      clear hu hv k5 k7 hx1 hy3 kq hT g1 g2 g3 g4 g5 g6 g7 g8 g9 g10 g11 s1 k3 kp this e
      grind
    have e : v * (c * (1 - T)) = c * (v * (1 - T)) := by clear hu hv k5 k7 hx1 hy3 kq hT g1 g2 g3 g4 g5 g6 g7 g8 g9 g10 g11 s1 k3 kp s2; grind
    have e2 : v * (2 * x2 * ((1 - T) * (1 - T))) = 2 * x2 * (1 - T) * (v * (1 - T)) := by clear hu hv k5 k7 hx1 hy3 kq hT g1 g2 g3 g4 g5 g6 g7 g8 g9 g10 g11 s1 k3 kp s2 e; grind
    rw [s2, e2, hv] at e
    clear hu hv k5 k7 hx1 hy3 kq hT g1 g2 g3 g4 g5 g6 g7 g8 g9 g10 g11 s1 k3 kp s2 e2
    grind
  have ha2 : a = 2 * y2 * (1 - T) := by
    have s1 : a = y2 * ρ * (a * x2 - 2) := by rw [g4]; clear hu hv k3 k7 hx1 hy3 kp hT g1 g2 g3 g4 g5 g6 g7 g8 g9 g10 g11 hc2; grind
    have s2 : a * (1 - T) = 2 * y2 * ((1 - T) * (1 - T)) := by
      have : (a * x2 - 2) * (1 - T) = -2 := by clear hu hv k5 k7 hx1 hy3 kq hT g1 g2 g3 g4 g6 g7 g8 g9 g10 g11 s1 k3 kp hc2; grind
      have e : a * (1 - T) = y2 * ρ * ((a * x2 - 2) * (1 - T)) := by
        have z : a * (1 - T) = y2 * ρ * (a * x2 - 2) * (1 - T) := by rw [← s1]
        rw [z]
        clear hu hv k5 k7 hx1 hy3 kq hT g1 g2 g3 g4 g5 g6 g7 g8 g9 g10 g11 s1 k3 kp this z hc2
        grind
      rw [e, this, g11]
      clear hu hv k5 k7 hx1 hy3 kq hT g1 g2 g3 g4 g5 g6 g7 g8 g9 g10 g11 s1 k3 kp this e hc2
      grind
    have e : v * (a * (1 - T)) = a * (v * (1 - T)) := by clear hu hv k5 k7 hx1 hy3 kq hT g1 g2 g3 g4 g5 g6 g7 g8 g9 g10 g11 s1 k3 kp s2 hc2; grind
    have e2 : v * (2 * y2 * ((1 - T) * (1 - T))) = 2 * y2 * (1 - T) * (v * (1 - T)) := by clear hu hv k5 k7 hx1 hy3 kq hT g1 g2 g3 g4 g5 g6 g7 g8 g9 g10 g11 s1 k3 kp s2 e hc2; grind
    rw [s2, e2, hv] at e
    clear hu hv k5 k7 hx1 hy3 kq hT g1 g2 g3 g4 g5 g6 g7 g8 g9 g10 g11 s1 k3 kp s2 e2 hc2
    grind
  have hT2 : T = -(x2 * y2 * ((1 - T) * (1 - T))) := by
    have e : x2 * y2 * ρ = -(x2 * y2 * ((1 - T) * (1 - T))) := by rw [g11]; clear hu hv k5 k7 hx1 hy3 kq hT g1 g2 g3 g4 g5 g6 g7 g8 g9 g10 g11 k3 kp hc2 ha2; grind
    rw [← hT] at e
    exact e
  clear hu hv k5 k7 g1 g2 g3 g4 g5 g6 g7 g8 g9 g10 k3
  refine ⟨T, ?_, hT2, ?_, ?_, ?_, ?_⟩
  · rw [hT]; clear hT2 hT hc2 ha2 kp kq hx1 hy3 g11; grind
  · rw [kp, g11]; clear hT2 hT hc2 ha2 kp kq hx1 hy3 g11; grind
  · rw [hy3, hc2, kp, g11]; clear hT hc2 ha2 kp kq hx1 hy3 g11; grind
  · rw [hx1, ha2, kq, g11]; clear hT hc2 ha2 kp kq hx1 hy3 g11; grind
  · rw [kq, g11]; clear hT2 hT hc2 ha2 kp kq hx1 hy3 g11; grind
/-- the four quadrics there -/
theorem t24_quad {R : Type} [Lean.Grind.CommRing R] {x1 x2 x3 y1 y2 y3 T : R} (hT : T = -(x2 * y2 * ((1 - T) * (1 - T)))) (hx3 : x3 = -(x2 * x2 * x2 * ((1 - T) * (1 - T)))) (hy3 : y3 = x2 * (2 - T)) (hx1 : x1 = y2 * (2 - T)) (hy1 : y1 = -(y2 * y2 * y2 * ((1 - T) * (1 - T)))) : 4 * (-x3) * x2 - (x2 * y3 - x3 * y2) * (x2 * y3 - x3 * y2) = 0 ∧ (x2 * y3 - x3 * y2) * x2 - (x2 * y3 - x3 * y2) * y3 + 2 * (-x3) = 0 ∧ (-x3) * (x1 * y3 - x3 * y1) + 4 * (x2 * y3 - x3 * y2) * x2 - 2 * (x2 * y3 - x3 * y2) * y3 = 0 ∧ (-x3) * x1 - y3 * y3 + 2 * y3 * x2 = 0 := by
  have k : x2 * y3 - x3 * y2 = 2 * x2 * x2 * (1 - T) := by rw [hx3, hy3]; clear hx3 hy3 hx1 hy1; grind
  rw [k]
  refine ⟨?_, ?_, ?_, ?_⟩
  · rw [hx3]; clear k hx3 hy3 hx1 hy1 hT; grind
  · rw [hx3, hy3]; clear k hx3 hy3 hx1 hy1 hT; grind
  · have k2 : (-x3) * (x1 * y3 - x3 * y1) = -(4 * T * (x2 * x2 * x2 * (1 - T))) := by
      rw [hx3, hy3, hx1, hy1]
      clear k hx3 hy3 hx1 hy1
      grind
    rw [k2, hy3]
    clear k hx3 hy3 hx1 hy1 hT k2
    grind
  · rw [hx3, hy3, hx1]; clear k hx3 hy3 hx1 hy1; grind
end
section
theorem bz {n : Nat} {z : Int} (h : (2 ^ n : Int) ∣ z) : BitVec.ofInt n z = 0 := by
  apply BitVec.eq_of_toInt_eq
  rw [BitVec.toInt_ofInt]
  obtain ⟨t, ht⟩ := h
  rw [ht]
  have : ((2 ^ n : Nat) : Int) = 2 ^ n := by simp
  rw [← this, Int.mul_bmod_right]
  simp
theorem bz' {n : Nat} {z : Int} (h : BitVec.ofInt n z = 0) : (2 ^ n : Int) ∣ z := by
  have h2 := congrArg BitVec.toInt h
  rw [BitVec.toInt_ofInt] at h2
  have h3 : z.bmod (2 ^ n) = 0 := by rw [h2]; simp
  have := Int.dvd_of_bmod_eq_zero h3
  have e : ((2 ^ n : Nat) : Int) = 2 ^ n := by simp
  rw [e] at this
  exact this
theorem badd {n : Nat} (x y : Int) : BitVec.ofInt n (x + y) = BitVec.ofInt n x + BitVec.ofInt n y := BitVec.ofInt_add ..
theorem bmul {n : Nat} (x y : Int) : BitVec.ofInt n (x * y) = BitVec.ofInt n x * BitVec.ofInt n y := BitVec.ofInt_mul ..
theorem bneg {n : Nat} (x : Int) : BitVec.ofInt n (-x) = -BitVec.ofInt n x := BitVec.ofInt_neg ..
theorem bsub {n : Nat} (x y : Int) : BitVec.ofInt n (x - y) = BitVec.ofInt n x - BitVec.ofInt n y := by
  rw [Int.sub_eq_add_neg, badd, bneg]
  grind
theorem b1 {n : Nat} : BitVec.ofInt n 1 = 1 := rfl
theorem b2 {n : Nat} : BitVec.ofInt n 2 = 2 := rfl
theorem b4 {n : Nat} : BitVec.ofInt n 4 = 4 := rfl
end
section
theorem chart24 {n : Int} {e X Y W : Nat → Int} {x1 x2 x3 y1 y2 y3 p q r : Int} (c0 : n ∣ sE e X Y W 0) (c1 : n ∣ sP e X Y W 0 3) (c2 : n ∣ sP e X Y W 0 1 + sE e X Y W 3) (c3 : n ∣ sP e X Y W 0 4 + sP e X Y W 1 3) (c4 : n ∣ sP e X Y W 0 2 + sP e X Y W 3 4 + sE e X Y W 1) (c5 : n ∣ sP e X Y W 2 3 + sP e X Y W 1 4) (c6 : n ∣ sP e X Y W 1 2 + sE e X Y W 4) (c7 : n ∣ sP e X Y W 2 4) (c8 : n ∣ sE e X Y W 2) (h3 : cmb n X Y W 3 x1 x2 x3) (h4 : cmb n X Y W 4 y1 y2 y3) (hp : n ∣ sP e X Y W 0 1 - p * sP e X Y W 0 2) (hq : n ∣ sP e X Y W 1 2 - q * sP e X Y W 0 2) (hr : n ∣ sE e X Y W 1 - r * sP e X Y W 0 2) : n ∣ (x3 + x2 * p) * sP e X Y W 0 2 ∧ n ∣ (y1 + y2 * q) * sP e X Y W 0 2 ∧ n ∣ ((y3 + y2 * p) + x1 * p + 2 * x2 * r + x3 * q) * sP e X Y W 0 2 ∧ n ∣ ((x1 + x2 * q) + y1 * p + 2 * y2 * r + y3 * q) * sP e X Y W 0 2 ∧ n ∣ (p + x2 * x2 * r + x1 * x2 * p + x1 * x3 + x2 * x3 * q) * sP e X Y W 0 2 ∧ n ∣ (q + y2 * y2 * r + y1 * y2 * p + y1 * y3 + y2 * y3 * q) * sP e X Y W 0 2 ∧ n ∣ (1 + 2 * x2 * y2 * r + (x1 * y2 + x2 * y1) * p + (x1 * y3 + x3 * y1) + (x2 * y3 + x3 * y2) * q + r) * sP e X Y W 0 2 := by
  have g03 := sP_mod h3 e 0
  have g13 := sP_mod h3 e 1
  have g23 := sP_mod h3 e 2
  have g04 := sP_mod h4 e 0
  have g14 := sP_mod h4 e 1
  have g24 := sP_mod h4 e 2
  have g34 := sP_mod h4 e 3
  have k3 := sE_mod h3 e
  have k4 := sE_mod h4 e
  rw [sP_sym e X Y W 3 0, sP_sym e X Y W 3 1, sP_sym e X Y W 3 2] at g34
  rw [sP_self] at g03 g04 g13 g14 g23 g24
  rw [sP_sym e X Y W 1 0] at g13 g14
  rw [sP_sym e X Y W 2 0, sP_sym e X Y W 2 1] at g23 g24
  clear h3 h4
  generalize sE e X Y W 0 = E0 at *
  generalize sE e X Y W 1 = R at *
  generalize sE e X Y W 2 = E2 at *
  generalize sE e X Y W 3 = E3 at *
  generalize sE e X Y W 4 = E4 at *
  generalize sP e X Y W 0 1 = P at *
  generalize sP e X Y W 0 2 = G at *
  generalize sP e X Y W 0 3 = S03 at *
  generalize sP e X Y W 0 4 = S04 at *
  generalize sP e X Y W 1 2 = Q at *
  generalize sP e X Y W 1 3 = S13 at *
  generalize sP e X Y W 1 4 = S14 at *
  generalize sP e X Y W 2 3 = S23 at *
  generalize sP e X Y W 2 4 = S24 at *
  generalize sP e X Y W 3 4 = S34 at *
  refine ⟨?_, ?_, ?_, ?_, ?_, ?_, ?_⟩
  · have z : (x3 + x2 * p) * G = S03 - (S03 - (x1 * (2 * E0) + x2 * P + x3 * G)) - (2 * x1) * E0 - x2 * (P - p * G) := by grind
    rw [z]
    exact Int.dvd_sub (Int.dvd_sub (Int.dvd_sub c1 g03) (dl _ c0)) (dl _ hp)
  · have z : (y1 + y2 * q) * G = S24 - (S24 - (y1 * G + y2 * Q + y3 * (2 * E2))) - (2 * y3) * E2 - y2 * (Q - q * G) := by grind
    rw [z]
    exact Int.dvd_sub (Int.dvd_sub (Int.dvd_sub c7 g24) (dl _ c8)) (dl _ hq)
  · have z : ((y3 + y2 * p) + x1 * p + 2 * x2 * r + x3 * q) * G = (S04 + S13) - (S04 - (y1 * (2 * E0) + y2 * P + y3 * G)) - (S13 - (x1 * P + x2 * (2 * R) + x3 * Q)) - (2 * y1) * E0 - y2 * (P - p * G) - x1 * (P - p * G) - (2 * x2) * (R - r * G) - x3 * (Q - q * G) := by grind
    rw [z]
    exact Int.dvd_sub (Int.dvd_sub (Int.dvd_sub (Int.dvd_sub (Int.dvd_sub (Int.dvd_sub (Int.dvd_sub c3 g04) g13) (dl _ c0)) (dl _ hp)) (dl _ hp)) (dl _ hr)) (dl _ hq)
  · have z : ((x1 + x2 * q) + y1 * p + 2 * y2 * r + y3 * q) * G = (S23 + S14) - (S23 - (x1 * G + x2 * Q + x3 * (2 * E2))) - (S14 - (y1 * P + y2 * (2 * R) + y3 * Q)) - (2 * x3) * E2 - x2 * (Q - q * G) - y1 * (P - p * G) - (2 * y2) * (R - r * G) - y3 * (Q - q * G) := by grind
    rw [z]
    exact Int.dvd_sub (Int.dvd_sub (Int.dvd_sub (Int.dvd_sub (Int.dvd_sub (Int.dvd_sub (Int.dvd_sub c5 g23) g14) (dl _ c8)) (dl _ hq)) (dl _ hp)) (dl _ hr)) (dl _ hq)
  · have z : (p + x2 * x2 * r + x1 * x2 * p + x1 * x3 + x2 * x3 * q) * G = (P + E3) - (E3 - (x1 * x1 * E0 + x2 * x2 * R + x3 * x3 * E2 + x1 * x2 * P + x1 * x3 * G + x2 * x3 * Q)) - (P - p * G) - (x1 * x1) * E0 - (x2 * x2) * (R - r * G) - (x3 * x3) * E2 - (x1 * x2) * (P - p * G) - (x2 * x3) * (Q - q * G) := by grind
    rw [z]
    exact Int.dvd_sub (Int.dvd_sub (Int.dvd_sub (Int.dvd_sub (Int.dvd_sub (Int.dvd_sub (Int.dvd_sub c2 k3) hp) (dl _ c0)) (dl _ hr)) (dl _ c8)) (dl _ hp)) (dl _ hq)
  · have z : (q + y2 * y2 * r + y1 * y2 * p + y1 * y3 + y2 * y3 * q) * G = (Q + E4) - (E4 - (y1 * y1 * E0 + y2 * y2 * R + y3 * y3 * E2 + y1 * y2 * P + y1 * y3 * G + y2 * y3 * Q)) - (Q - q * G) - (y1 * y1) * E0 - (y2 * y2) * (R - r * G) - (y3 * y3) * E2 - (y1 * y2) * (P - p * G) - (y2 * y3) * (Q - q * G) := by grind
    rw [z]
    exact Int.dvd_sub (Int.dvd_sub (Int.dvd_sub (Int.dvd_sub (Int.dvd_sub (Int.dvd_sub (Int.dvd_sub c6 k4) hq) (dl _ c0)) (dl _ hr)) (dl _ c8)) (dl _ hp)) (dl _ hq)
  · have z : (1 + 2 * x2 * y2 * r + (x1 * y2 + x2 * y1) * p + (x1 * y3 + x3 * y1) + (x2 * y3 + x3 * y2) * q + r) * G = (G + S34 + R) - (S34 - (y1 * S03 + y2 * S13 + y3 * S23)) - y1 * (S03 - (x1 * (2 * E0) + x2 * P + x3 * G)) - y2 * (S13 - (x1 * P + x2 * (2 * R) + x3 * Q)) - y3 * (S23 - (x1 * G + x2 * Q + x3 * (2 * E2))) - (2 * x1 * y1) * E0 - (2 * x3 * y3) * E2 - (x2 * y1 + x1 * y2) * (P - p * G) - (2 * x2 * y2) * (R - r * G) - (x3 * y2 + x2 * y3) * (Q - q * G) - (R - r * G) := by grind
    rw [z]
    exact Int.dvd_sub (Int.dvd_sub (Int.dvd_sub (Int.dvd_sub (Int.dvd_sub (Int.dvd_sub (Int.dvd_sub (Int.dvd_sub (Int.dvd_sub (Int.dvd_sub c4 g34) (dl _ g03)) (dl _ g13)) (dl _ g23)) (dl _ c0)) (dl _ c8)) (dl _ hp)) (dl _ hr)) (dl _ hq)) hr
theorem cube_dvd {c : Nat} {x : Int} (h : (2 ^ (3 * c + 1) : Int) ∣ x * x * x) : (2 ^ (c + 1) : Int) ∣ x := by
  by_cases z : x = 0
  · exact ⟨0, by rw [z, Int.mul_zero]⟩
  · obtain ⟨i, o, h1, h2⟩ := two_split x.natAbs x (Nat.le_refl _) z
    by_cases q : c + 1 ≤ i
    · exact pw_le_dvd q ⟨o, h1⟩
    · exfalso
      have e : x * x * x = 2 ^ (3 * i) * (o * o * o) * 1 := by
        rw [h1, show 3 * i = i + i + i by omega, Int.pow_add, Int.pow_add]
        grind
      rw [e] at h
      have oo : (o * o * o) % 2 = 1 := by
        have : (o * o) % 2 = 1 := by rw [Int.mul_emod, h2]; rfl
        rw [Int.mul_emod, this, h2]
        rfl
      have h3 : (2 ^ (1 + 3 * i) : Int) ∣ 2 ^ (3 * i) * (o * o * o) * 1 := pw_le_dvd (by omega) h
      have h4 := odd_cancel2 oo h3
      omega
/-- two vectors on one line -/
theorem par_sq {e X Y W : Nat → Int} {i j : Nat} (h1 : Y i * W j - Y j * W i = 0) (h2 : X i * W j - X j * W i = 0) (h3 : X i * Y j - X j * Y i = 0) : sP e X Y W i j * sP e X Y W i j = 4 * sE e X Y W i * sE e X Y W j := by
  have z : sP e X Y W i j * sP e X Y W i j - 4 * sE e X Y W i * sE e X Y W j = (e 4 * e 4 - 4 * e 2 * e 5) * ((Y i * W j - Y j * W i) * (Y i * W j - Y j * W i)) + (e 3 * e 3 - 4 * e 0 * e 5) * ((X i * W j - X j * W i) * (X i * W j - X j * W i)) + (e 1 * e 1 - 4 * e 0 * e 2) * ((X i * Y j - X j * Y i) * (X i * Y j - X j * Y i)) + (2 * e 3 * e 4 - 4 * e 1 * e 5) * ((Y i * W j - Y j * W i) * (X i * W j - X j * W i)) + (4 * e 2 * e 3 - 2 * e 1 * e 4) * ((Y i * W j - Y j * W i) * (X i * Y j - X j * Y i)) + (2 * e 1 * e 3 - 4 * e 0 * e 4) * ((X i * W j - X j * W i) * (X i * Y j - X j * Y i)) := by
    clear h1 h2 h3
    unfold sP sE
    grind
  rw [h1, h2, h3] at z
  omega
/-- all in one plane -/
theorem plane0 {X Y W : Nat → Int} {a b c : Int} (hne : ¬ (a = 0 ∧ b = 0 ∧ c = 0)) (h : ∀ i, i < 5 → a * X i + b * Y i + c * W i = 0) {i j k : Nat} (hi : i < 5) (hj : j < 5) (hk : k < 5) : d3 X Y W i j k = 0 := by
  have q1 := h i hi
  have q2 := h j hj
  have q3 := h k hk
  have e1 : a * d3 X Y W i j k = (a * X i + b * Y i + c * W i) * (Y j * W k - Y k * W j) - (a * X j + b * Y j + c * W j) * (Y i * W k - Y k * W i) + (a * X k + b * Y k + c * W k) * (Y i * W j - Y j * W i) := by
    clear q1 q2 q3
    unfold d3
    grind
  have e2 : b * d3 X Y W i j k = -((a * X i + b * Y i + c * W i) * (X j * W k - X k * W j)) + (a * X j + b * Y j + c * W j) * (X i * W k - X k * W i) - (a * X k + b * Y k + c * W k) * (X i * W j - X j * W i) := by
    clear q1 q2 q3 e1
    unfold d3
    grind
  have e3 : c * d3 X Y W i j k = (a * X i + b * Y i + c * W i) * (X j * Y k - X k * Y j) - (a * X j + b * Y j + c * W j) * (X i * Y k - X k * Y i) + (a * X k + b * Y k + c * W k) * (X i * Y j - X j * Y i) := by
    clear q1 q2 q3 e1 e2
    unfold d3
    grind
  rw [q1, q2, q3] at e1 e2 e3
  by_cases z : d3 X Y W i j k = 0
  · exact z
  · exfalso
    apply hne
    refine ⟨?_, ?_, ?_⟩
    · rcases Int.mul_eq_zero.mp (show a * d3 X Y W i j k = 0 by omega) with y | y
      · exact y
      · exact absurd y z
    · rcases Int.mul_eq_zero.mp (show b * d3 X Y W i j k = 0 by omega) with y | y
      · exact y
      · exact absurd y z
    · rcases Int.mul_eq_zero.mp (show c * d3 X Y W i j k = 0 by omega) with y | y
      · exact y
      · exact absurd y z
end
section
def PT (M : Nat) (x1 x2 x3 y1 y2 y3 : Int) : Prop := ∃ T v : BitVec M, v * (1 - T) = 1 ∧ T = -(BitVec.ofInt M x2 * BitVec.ofInt M y2 * ((1 - T) * (1 - T))) ∧ BitVec.ofInt M x3 = -(BitVec.ofInt M x2 * BitVec.ofInt M x2 * BitVec.ofInt M x2 * ((1 - T) * (1 - T))) ∧ BitVec.ofInt M y3 = BitVec.ofInt M x2 * (2 - T) ∧ BitVec.ofInt M x1 = BitVec.ofInt M y2 * (2 - T) ∧ BitVec.ofInt M y1 = -(BitVec.ofInt M y2 * BitVec.ofInt M y2 * BitVec.ofInt M y2 * ((1 - T) * (1 - T)))
theorem t24_even {M : Nat} {x1 x2 x3 p q r : Int} (hM : 1 ≤ M) (h1 : (2 ^ M : Int) ∣ x3 + x2 * (2 * p)) (h4 : (2 ^ M : Int) ∣ 2 * p + x2 * x2 * r + x1 * x2 * (2 * p) + x1 * x3 + x2 * x3 * q) (or : r % 2 = 1) : (2 : Int) ∣ x2 := by
  have h1 : (2 ^ 1 : Int) ∣ _ := pw_le_dvd hM h1
  have h4 : (2 ^ 1 : Int) ∣ _ := pw_le_dvd hM h4
  obtain ⟨s, hs⟩ := h1
  obtain ⟨t, ht⟩ := h4
  apply sq_even
  apply two_dvd_mul or
  have e3 : x3 = 2 * (s - x2 * p) := by
    have : x2 * (2 * p) = 2 * (x2 * p) := by grind
    omega
  subst e3
  refine ⟨t - p - x1 * x2 * p - x1 * (s - x2 * p) - x2 * (s - x2 * p) * q, ?_⟩
  clear hs or hM
  grind
theorem t24_pt {M : Nat} {x1 x2 x3 y1 y2 y3 p q r : Int} (hM : 1 ≤ M) (or : r % 2 = 1) (h1 : (2 ^ M : Int) ∣ x3 + x2 * (2 * p)) (h2 : (2 ^ M : Int) ∣ y1 + y2 * q) (h3 : (2 ^ M : Int) ∣ (y3 + y2 * (2 * p)) + x1 * (2 * p) + 2 * x2 * r + x3 * q) (h5 : (2 ^ M : Int) ∣ (x1 + x2 * q) + y1 * (2 * p) + 2 * y2 * r + y3 * q) (h4 : (2 ^ M : Int) ∣ 2 * p + x2 * x2 * r + x1 * x2 * (2 * p) + x1 * x3 + x2 * x3 * q) (h6 : (2 ^ M : Int) ∣ q + y2 * y2 * r + y1 * y2 * (2 * p) + y1 * y3 + y2 * y3 * q) (h7 : (2 ^ M : Int) ∣ 1 + 2 * x2 * y2 * r + (x1 * y2 + x2 * y1) * (2 * p) + (x1 * y3 + x3 * y1) + (x2 * y3 + x3 * y2) * q + r) : PT M x1 x2 x3 y1 y2 y3 := by
  obtain ⟨t, ht⟩ := t24_even hM h1 h4 or
  have ev : ∃ w : Int, x2 * y2 * (r - 2 * p * q) = 2 * w := ⟨t * y2 * (r - 2 * p * q), by rw [ht]; grind⟩
  obtain ⟨w, hw⟩ := ev
  obtain ⟨u, hu⟩ := inv_ex (o := 1 + x2 * y2 * (r - 2 * p * q)) (by omega) M
  obtain ⟨v, hv⟩ := inv_ex (o := 1 - x2 * y2 * (r - 2 * p * q)) (by omega) M
  have b1' := bz h1
  have b2' := bz h2
  have b3' := bz h3
  have b4' := bz h4
  have b5' := bz h5
  have b6' := bz h6
  have b7' := bz h7
  have bu := bz hu
  have bv := bz hv
  simp only [badd, bmul, bsub, bneg, b1, b2] at b1' b2' b3' b4' b5' b6' b7' bu bv
  have bu : BitVec.ofInt M u * (1 + BitVec.ofInt M x2 * BitVec.ofInt M y2 * (BitVec.ofInt M r - 2 * BitVec.ofInt M p * BitVec.ofInt M q)) = 1 := by
    clear b1' b2' b3' b4' b5' b6' b7' bv
    grind
  have bv : BitVec.ofInt M v * (1 - BitVec.ofInt M x2 * BitVec.ofInt M y2 * (BitVec.ofInt M r - 2 * BitVec.ofInt M p * BitVec.ofInt M q)) = 1 := by
    clear b1' b2' b3' b4' b5' b6' b7' bu
    grind
  obtain ⟨T, h0, k1, k2, k3, k4, k5⟩ := t24_sys b1' b2' b3' b5' b4' b6' b7' bu bv
  rw [← h0] at bv
  exact ⟨T, _, bv, k1, k2, k3, k4, k5⟩
def T24 (b : Nat) (k : Int) (e X Y W : Nat → Int) : Prop := dvA b e X Y W ∧ sP e X Y W 0 4 = 2 ^ b * k ∧ k % 2 = 1 ∧ (2 ^ (b + 1) : Int) ∣ sP e X Y W 0 2 ∧ (2 ^ (b + 1) : Int) ∣ sP e X Y W 1 3 ∧ (2 ^ (b + 1) : Int) ∣ sP e X Y W 2 4
theorem t24_E2 {b : Nat} {k : Int} {e X Y W : Nat → Int} (hC : CK (2 ^ 32) e X Y W) (hb : b ≤ 20) (hT : T24 b k e X Y W) : ∃ k2, sE e X Y W 2 = 2 ^ b * k2 ∧ k2 % 2 = 1 := by
  obtain ⟨_, hk, ok, _, ⟨s, hs⟩, _⟩ := hT
  obtain ⟨t, ht⟩ := hC.2.2.2.2.1
  rw [hk, hs] at ht
  refine ⟨2 ^ (32 - b) * t - k - 2 * s, ?_, ?_⟩
  · have e2 : (2 ^ 32 : Int) = 2 ^ b * 2 ^ (32 - b) := by rw [← Int.pow_add]; congr 1; omega
    rw [e2, Int.pow_succ] at ht
    generalize sE e X Y W 2 = E at *
    clear hs ok hC hk e2
    grind
  · obtain ⟨c, hc⟩ : ∃ c, 32 - b = c + 1 := ⟨31 - b, by omega⟩
    rw [hc, Int.pow_succ]
    have : (2 : Int) ^ c * 2 * t = 2 * (2 ^ c * t) := by grind
    omega
theorem d3_sw (X Y W : Nat → Int) (i j k : Nat) : d3 X Y W i k j = -d3 X Y W i j k := by
  unfold d3
  grind
theorem d3_cy (X Y W : Nat → Int) (i j k : Nat) : d3 X Y W i j k = d3 X Y W k i j := by
  unfold d3
  grind
theorem t24_low {b a : Nat} {k : Int} {e X Y W : Nat → Int} (hC : CK (2 ^ 32) e X Y W) (he : ∃ i, i < 6 ∧ e i % 2 = 1) (hb : b ≤ 20) (hT : T24 b k e X Y W) (ha : a ≤ 11) (hd : (2 ^ a : Int) ∣ d3 X Y W 0 2 4) : (2 ^ a : Int) ∣ d3 X Y W 0 1 2 ∧ (2 ^ a : Int) ∣ d3 X Y W 0 1 4 ∧ (2 ^ a : Int) ∣ d3 X Y W 1 2 4 ∧ (2 ^ a : Int) ∣ d3 X Y W 0 2 3 ∧ (2 ^ a : Int) ∣ d3 X Y W 0 3 4 ∧ (2 ^ a : Int) ∣ d3 X Y W 2 3 4 := by
  obtain ⟨k2, hk2, ok2⟩ := t24_E2 hC hb hT
  obtain ⟨hA, hk, ok, q02, q13, q24⟩ := hT
  have mm : ∀ i j l, i < 5 → j < 5 → l < 5 → (2 ^ ((b + 1) / 2) : Int) ∣ d3 X Y W i j l := fun i j l hi hj hl => half_dvd (cont_p hA he hi hj hl)
  have r1 := t24_l (X := pm X) (Y := pm Y) (W := pm W) (e := e) (l := 3) (m := (b + 1) / 2) (a := a) hC.1 hC.2.2.2.2.2.2.2.2 (hA.2 0 1 (by decide) (by decide)) (hA.2 4 1 (by decide) (by decide)) (hA.1 1 (by decide)) q02 q24 hk ok hk2 ok2 hd (mm 2 4 1 (by decide) (by decide) (by decide)) (mm 0 2 1 (by decide) (by decide) (by decide)) (by omega) (by omega)
  have r3 := t24_l (X := pm X) (Y := pm Y) (W := pm W) (e := e) (l := 4) (m := (b + 1) / 2) (a := a) hC.1 hC.2.2.2.2.2.2.2.2 (hA.2 0 3 (by decide) (by decide)) (hA.2 4 3 (by decide) (by decide)) (hA.1 3 (by decide)) q02 q24 hk ok hk2 ok2 hd (mm 2 4 3 (by decide) (by decide) (by decide)) (mm 0 2 3 (by decide) (by decide) (by decide)) (by omega) (by omega)
  have r1 : (2 ^ a : Int) ∣ d3 X Y W 0 2 1 ∧ (2 ^ a : Int) ∣ d3 X Y W 0 4 1 ∧ (2 ^ a : Int) ∣ d3 X Y W 2 4 1 := r1
  have r3 : (2 ^ a : Int) ∣ d3 X Y W 0 2 3 ∧ (2 ^ a : Int) ∣ d3 X Y W 0 4 3 ∧ (2 ^ a : Int) ∣ d3 X Y W 2 4 3 := r3
  rw [d3_sw X Y W 0 1 2, d3_sw X Y W 0 1 4, d3_cy X Y W 2 4 1, Int.dvd_neg, Int.dvd_neg] at r1
  rw [d3_sw X Y W 0 3 4, d3_sw X Y W 2 3 4, Int.dvd_neg, Int.dvd_neg] at r3
  exact ⟨r1.1, r1.2.1, r1.2.2, r3.1, r3.2.1, r3.2.2⟩
theorem t24_ne {b : Nat} {k : Int} {e X Y W : Nat → Int} (hC : CK (2 ^ 32) e X Y W) (he : ∃ i, i < 6 ∧ e i % 2 = 1) (hb : b ≤ 20) (hT : T24 b k e X Y W) (hP : bP X Y W) (hp : ∃ i j k, i < 5 ∧ j < 5 ∧ k < 5 ∧ d3 X Y W i j k ≠ 0) : d3 X Y W 0 2 4 ≠ 0 := by
  intro h0
  obtain ⟨z1, z2, z3, z4, z5, z6⟩ := t24_low (a := 11) hC he hb hT (by decide) (by rw [h0]; exact ⟨0, rfl⟩)
  have s : ∀ {i j l}, i < 5 → j < 5 → l < 5 → (2 ^ 11 : Int) ∣ d3 X Y W i j l → d3 X Y W i j l = 0 := fun hi hj hl h => small_zero h (Nat.lt_of_le_of_lt (hP _ _ _ hi hj hl) (by decide))
  have z2 := s (by decide) (by decide) (by decide) z2
  have z5 := s (by decide) (by decide) (by decide) z5
  by_cases q : Y 0 * W 4 - Y 4 * W 0 = 0 ∧ -(X 0 * W 4 - X 4 * W 0) = 0 ∧ X 0 * Y 4 - X 4 * Y 0 = 0
  · have h1 := par_sq (e := e) q.1 (by omega) q.2.2
    have h2 : (2 ^ (2 * 32) : Int) ∣ sP e X Y W 0 4 * sP e X Y W 0 4 := by
      rw [h1, Int.mul_assoc]
      have h64 : (2 ^ (32 + 32) : Int) ∣ sE e X Y W 0 * sE e X Y W 4 := dvd_mul2 hC.1 hC.2.2.2.2.2.2.2.2
      rw [show (2 * 32 : Nat) = 32 + 32 by decide]
      exact dl _ h64
    have h3 := sq_dvd 32 _ h2
    obtain ⟨_, hk, ok, _⟩ := hT
    rw [hk] at h3
    have h4 : (2 ^ (1 + b) : Int) ∣ 2 ^ b * k * 1 := by
      rw [Int.mul_one]
      exact pw_le_dvd (by omega) h3
    have h5 := odd_cancel2 ok h4
    omega
  · obtain ⟨i, j, l, hi, hj, hl, hne⟩ := hp
    refine hne (plane0 q (five ?_ ?_ ?_ ?_ ?_) hi hj hl)
    · grind
    · unfold d3 at z2
      clear h0 z5 q hne
      grind
    · unfold d3 at h0
      clear z2 z5 q hne
      grind
    · unfold d3 at z5
      clear z2 h0 q hne
      grind
    · grind
end
section
theorem pt_quad {M : Nat} {z012 z014 z023 z034 z124 z234 z013 z123 z024 : Int} (h : PT M z124 z014 (-z012) (-z234) z034 z023) (h1 : (2 ^ M : Int) ∣ z013 - (z014 * z023 + z012 * z034)) (h2 : (2 ^ M : Int) ∣ z123 - (z124 * z023 - z012 * z234)) (h3 : (2 ^ M : Int) ∣ z024 - 1) : (2 ^ M : Int) ∣ 4 * z012 * z014 - z013 * z013 ∧ (2 ^ M : Int) ∣ z013 * z014 - z013 * z023 + 2 * z012 * z024 ∧ (2 ^ M : Int) ∣ z012 * z123 + 4 * z013 * z014 - 2 * z013 * z023 ∧ (2 ^ M : Int) ∣ z012 * z124 - z023 * z023 + 2 * z023 * z014 := by
  obtain ⟨T, v, hv, hT, k3, ky3, kx1, ky1⟩ := h
  have q1 := bz h1
  have q2 := bz h2
  have q3 := bz h3
  clear h1 h2 h3
  have Q := t24_quad hT k3 ky3 kx1 ky1
  simp only [badd, bmul, bsub, bneg, b1, b2, b4] at q1 q2 q3 Q
  clear hv hT k3 ky3 kx1 ky1
  have e13 : BitVec.ofInt M z014 * BitVec.ofInt M z023 - -BitVec.ofInt M z012 * BitVec.ofInt M z034 = BitVec.ofInt M z013 := by
    clear Q q2 q3
    grind
  have e123 : BitVec.ofInt M z124 * BitVec.ofInt M z023 - -BitVec.ofInt M z012 * -BitVec.ofInt M z234 = BitVec.ofInt M z123 := by
    clear Q q1 q3 e13
    grind
  have e24 : BitVec.ofInt M z024 = 1 := by
    clear Q q1 q2 e13 e123
    grind
  rw [e13, e123] at Q
  clear q1 q2 q3 e13 e123
  obtain ⟨Q1, Q2, Q3, Q4⟩ := Q
  refine ⟨bz' ?_, bz' ?_, bz' ?_, bz' ?_⟩ <;> simp only [badd, bmul, bsub, bneg, b1, b2, b4]
  · clear Q2 Q3 Q4
    grind
  · rw [e24]
    clear Q1 Q3 Q4 e24
    grind
  · clear Q2 Q1 Q4
    grind
  · clear Q2 Q3 Q1
    grind
theorem pt_zero {M : Nat} {x1 x2 y1 y2 y3 : Int} (h : PT M x1 x2 0 y1 y2 y3) : (2 ^ M : Int) ∣ x2 * x2 * x2 := by
  obtain ⟨T, v, hv, hT, k3, ky3, kx1, ky1⟩ := h
  apply bz'
  simp only [bmul]
  have z : BitVec.ofInt M 0 = 0 := rfl
  rw [z] at k3
  clear hT ky3 kx1 ky1 z
  generalize BitVec.ofInt M x2 = x at *
  have e : x * x * x = (x * x * x) * (v * (1 - T)) * (v * (1 - T)) := by rw [hv]; clear hv k3; grind
  have e2 : (x * x * x) * (v * (1 - T)) * (v * (1 - T)) = v * v * (x * x * x * ((1 - T) * (1 - T))) := by clear hv k3 e; grind
  have e3 : x * x * x * ((1 - T) * (1 - T)) = 0 := by clear hv e e2; grind
  rw [e, e2, e3]
  grind
theorem pt_zero2 {M : Nat} {x1 x3 y1 y2 y3 : Int} (h : PT M x1 0 x3 y1 y2 y3) : (2 ^ M : Int) ∣ y3 := by
  obtain ⟨T, v, hv, hT, k3, ky3, kx1, ky1⟩ := h
  apply bz'
  have z : BitVec.ofInt M 0 = 0 := rfl
  rw [ky3, z]
  clear hT kx1 ky1 z hv k3 ky3
  grind
theorem plk013 (X Y W : Nat → Int) : d3 X Y W 0 2 4 * d3 X Y W 0 1 3 = d3 X Y W 0 1 4 * d3 X Y W 0 2 3 + d3 X Y W 0 1 2 * d3 X Y W 0 3 4 := by
  unfold d3
  grind
theorem plk123 (X Y W : Nat → Int) : d3 X Y W 0 2 4 * d3 X Y W 1 2 3 = d3 X Y W 1 2 4 * d3 X Y W 0 2 3 - d3 X Y W 0 1 2 * d3 X Y W 2 3 4 := by
  unfold d3
  grind
theorem t24_co {b : Nat} {k : Int} {e X Y W : Nat → Int} (hC : CK (2 ^ 32) e X Y W) (he : ∃ i, i < 6 ∧ e i % 2 = 1) (hb : b ≤ 20) (hT : T24 b k e X Y W) (hP : bP X Y W) (hp : ∃ i j k, i < 5 ∧ j < 5 ∧ k < 5 ∧ d3 X Y W i j k ≠ 0) : ∃ (a : Nat) (o q s012 s014 s124 s023 s034 s234 : Int), d3 X Y W 0 2 4 = 2 ^ a * o ∧ o % 2 = 1 ∧ b ≤ 2 * a ∧ (2 ^ 64 : Int) ∣ o * q - 1 ∧ d3 X Y W 0 1 2 = 2 ^ a * s012 ∧ d3 X Y W 0 1 4 = 2 ^ a * s014 ∧ d3 X Y W 1 2 4 = 2 ^ a * s124 ∧ d3 X Y W 0 2 3 = 2 ^ a * s023 ∧ d3 X Y W 0 3 4 = 2 ^ a * s034 ∧ d3 X Y W 2 3 4 = 2 ^ a * s234 ∧ PT (32 - b) (q * s124) (q * s014) (-(q * s012)) (-(q * s234)) (q * s034) (q * s023) := by
  have hne := t24_ne hC he hb hT hP hp
  obtain ⟨a, o, hd, oo⟩ := two_split _ _ (Nat.le_refl _) hne
  have ha : a ≤ 10 := Nat.le_of_not_lt fun z => hne (small_zero (k := 11) (pw_le_dvd z ⟨o, hd⟩) (Nat.lt_of_le_of_lt (hP _ _ _ (by decide) (by decide) (by decide)) (by decide)))
  obtain ⟨⟨s012, e012⟩, ⟨s014, e014⟩, ⟨s124, e124⟩, ⟨s023, e023⟩, ⟨s034, e034⟩, ⟨s234, e234⟩⟩ := t24_low hC he hb hT (by omega) ⟨o, hd⟩
  obtain ⟨q, hq⟩ := inv_ex oo 64
  have hba : b ≤ 2 * a := Nat.le_of_not_lt fun z => by
    have h1 := half_dvd (cont_p hT.1 he (i := 0) (j := 2) (k := 4) (by decide) (by decide) (by decide))
    rw [hd] at h1
    have h2 : (2 ^ (1 + a) : Int) ∣ 2 ^ a * o * 1 := by
      rw [Int.mul_one]
      exact pw_le_dvd (by omega) h1
    have h3 := odd_cancel2 oo h2
    omega
  refine ⟨a, o, q, s012, s014, s124, s023, s034, s234, hd, oo, hba, hq, e012, e014, e124, e023, e034, e234, ?_⟩
  have c3 := cmb_of (X := pm X) (Y := pm Y) (W := pm W) (l := 3) (N := 64) (sa := s124) (sb := -s014) (sc := -s012) hd (by
    show d3 X Y W 2 4 1 = _
    rw [d3_cy X Y W 2 4 1]
    exact e124) (by
    show d3 X Y W 0 4 1 = _
    rw [d3_sw X Y W 0 1 4, e014, Int.mul_neg]) (by
    show d3 X Y W 0 2 1 = _
    rw [d3_sw X Y W 0 1 2, e012, Int.mul_neg]) hq
  have c4 := cmb_of (X := pm X) (Y := pm Y) (W := pm W) (l := 4) (N := 64) (sa := -s234) (sb := -s034) (sc := s023) hd (by
    show d3 X Y W 2 4 3 = _
    rw [d3_sw X Y W 2 3 4, e234, Int.mul_neg]) (by
    show d3 X Y W 0 4 3 = _
    rw [d3_sw X Y W 0 3 4, e034, Int.mul_neg]) e023 hq
  simp only [Int.mul_neg, Int.neg_neg] at c3 c4
  obtain ⟨k2, hk2, ok2⟩ := t24_E2 hC hb hT
  obtain ⟨hA, hk, ok, ⟨p, h02⟩, q13, ⟨w, h24⟩⟩ := hT
  obtain ⟨kk, t, ht⟩ := inv_ex ok 64
  have okk : kk % 2 = 1 := by
    rcases Int.emod_two_eq kk with z | z
    · exfalso
      have e3 : k * kk = 2 ^ 64 * t + 1 := by omega
      have e4 : (k * kk) % 2 = 0 := by rw [Int.mul_emod, z, Int.mul_zero]; rfl
      rw [e3] at e4
      omega
    · exact z
  have or : (kk * k2) % 2 = 1 := by rw [Int.mul_emod, okk, ok2]; rfl
  have dv : ∀ {S s : Int}, S = 2 ^ b * s → (2 ^ 32 : Int) ∣ S - kk * s * (2 ^ b * k) := fun {S s} hS => by
    refine ⟨-(2 ^ 32 * t * 2 ^ b * s), ?_⟩
    rw [hS]
    have e3 : k * kk = 2 ^ 32 * 2 ^ 32 * t + 1 := by omega
    have e4 : kk * s * (2 ^ b * k) = 2 ^ b * s * (k * kk) := by clear e3 ht hS; grind
    rw [e4, e3]
    clear e4 e3 ht hS
    generalize (2 ^ 32 : Int) = n
    grind
  have h02' : sP e X Y W 0 2 = 2 ^ b * (2 * p) := by rw [h02, Int.pow_succ, Int.mul_assoc]
  have h24' : sP e X Y W 2 4 = 2 ^ b * (2 * w) := by rw [h24, Int.pow_succ, Int.mul_assoc]
  have v02 := dv h02'
  have v24 := dv h24'
  have vE := dv hk2
  rw [← hk] at v02 v24 vE
  have s12 := sP_sym e X Y W 1 2
  have R := chart24 (n := 2 ^ 32) (e := e) (X := pm X) (Y := pm Y) (W := pm W) hC.1 hC.2.1 hC.2.2.1 (by
    show (2 ^ 32 : Int) ∣ sP e X Y W 0 3 + sP e X Y W 2 1
    rw [← s12]
    exact hC.2.2.2.1) hC.2.2.2.2.1 (by
    show (2 ^ 32 : Int) ∣ sP e X Y W 4 1 + sP e X Y W 2 3
    rw [sP_sym e X Y W 4 1]
    exact hC.2.2.2.2.2.1) hC.2.2.2.2.2.2.1 (by
    show (2 ^ 32 : Int) ∣ sP e X Y W 4 3
    rw [sP_sym e X Y W 4 3]
    exact hC.2.2.2.2.2.2.2.1) hC.2.2.2.2.2.2.2.2 (cmb_le (i := 32) (by decide) c3) (cmb_le (i := 32) (by decide) c4) v02 v24 vE
  have hk' : sP e (pm X) (pm Y) (pm W) 0 2 = 2 ^ b * k := hk
  rw [hk'] at R
  have e2p : kk * (2 * p) = 2 * (kk * p) := by clear hk' R; grind
  rw [e2p] at R
  obtain ⟨R1, R2, R3, R4, R5, R6, R7⟩ := R
  have D := fun {x : Int} (h : (2 ^ 32 : Int) ∣ x * (2 ^ b * k)) => drop_b (b := b) (by omega) ok h
  exact t24_pt (by omega) or (D R1) (D R2) (D R3) (D R4) (D R5) (D R6) (D R7)
end
section
theorem t24_EA {b : Nat} {k : Int} {e X Y W : Nat → Int} (hC : CK (2 ^ 32) e X Y W) (he : ∃ i, i < 6 ∧ e i % 2 = 1) (hb : b ≤ 20) (hT : T24 b k e X Y W) (hP : bP X Y W) (hp : ∃ i j k, i < 5 ∧ j < 5 ∧ k < 5 ∧ d3 X Y W i j k ≠ 0) : EA X Y W ∧ (d3 X Y W 0 1 2 = 0 → d3 X Y W 0 1 4 = 0 ∧ d3 X Y W 0 2 3 = 0) := by
  obtain ⟨a, o, q, s012, s014, s124, s023, s034, s234, hd, oo, hba, hq, e012, e014, e124, e023, e034, e234, pt⟩ := t24_co hC he hb hT hP hp
  have hp2 : (2 ^ a : Int) ≠ 0 := Int.ne_of_gt (Int.pow_pos (by decide))
  have oq : q % 2 = 1 := by
    obtain ⟨t, ht⟩ := hq
    rcases Int.emod_two_eq q with z | z
    · exfalso
      have e3 : o * q = 2 ^ 64 * t + 1 := by omega
      have e4 : (o * q) % 2 = 0 := by rw [Int.mul_emod, z, Int.mul_zero]; rfl
      rw [e3] at e4
      omega
    · exact z
  have b012 := hP 0 1 2 (by decide) (by decide) (by decide)
  have b013 := hP 0 1 3 (by decide) (by decide) (by decide)
  have b014 := hP 0 1 4 (by decide) (by decide) (by decide)
  have b023 := hP 0 2 3 (by decide) (by decide) (by decide)
  have b024 := hP 0 2 4 (by decide) (by decide) (by decide)
  have b123 := hP 1 2 3 (by decide) (by decide) (by decide)
  have b124 := hP 1 2 4 (by decide) (by decide) (by decide)
  constructor
  · have k13 := plk013 X Y W
    have k123 := plk123 X Y W
    rw [hd, e012, e014, e023, e034] at k13
    rw [hd, e012, e124, e023, e234] at k123
    have l13 : o * d3 X Y W 0 1 3 = 2 ^ a * (s014 * s023 + s012 * s034) := by
      apply Int.eq_of_mul_eq_mul_left hp2
      rw [← Int.mul_assoc, k13]
      clear k13 k123 pt
      grind
    have l123 : o * d3 X Y W 1 2 3 = 2 ^ a * (s124 * s023 - s012 * s234) := by
      apply Int.eq_of_mul_eq_mul_left hp2
      rw [← Int.mul_assoc, k123]
      clear k13 k123 pt l13
      grind
    obtain ⟨s013, e013⟩ := odd_cancel oo a _ ⟨_, l13⟩
    obtain ⟨s123, e123⟩ := odd_cancel oo a _ ⟨_, l123⟩
    have m13 : o * s013 = s014 * s023 + s012 * s034 := by
      apply Int.eq_of_mul_eq_mul_left hp2
      rw [← l13, e013]
      clear k13 k123 pt l13 l123
      grind
    have m123 : o * s123 = s124 * s023 - s012 * s234 := by
      apply Int.eq_of_mul_eq_mul_left hp2
      rw [← l123, e123]
      clear k13 k123 pt l13 l123
      grind
    clear k13 k123 l13 l123
    have up : ∀ {z : Int}, (2 ^ 64 : Int) ∣ z → (2 ^ (32 - b) : Int) ∣ z := fun h => pw_le_dvd (by omega) h
    obtain ⟨F1, F2, F3, F4⟩ := pt_quad (z013 := q * s013) (z123 := q * s123) (z024 := o * q) pt (up (by
      obtain ⟨t, ht⟩ := hq
      refine ⟨-(t * (q * s013)), ?_⟩
      have z : q * s014 * (q * s023) + q * s012 * (q * s034) = q * q * (o * s013) := by rw [m13]; clear m13 m123 ht pt; grind
      rw [z]
      have z2 : q * q * (o * s013) = (o * q - 1) * (q * s013) + q * s013 := by clear m13 m123 ht z pt; grind
      rw [z2, ht]
      clear m13 m123 ht z z2 pt
      generalize (2 ^ 64 : Int) = n
      grind)) (up (by
      obtain ⟨t, ht⟩ := hq
      refine ⟨-(t * (q * s123)), ?_⟩
      have z : q * s124 * (q * s023) - q * s012 * (q * s234) = q * q * (o * s123) := by rw [m123]; clear m13 m123 ht pt; grind
      rw [z]
      have z2 : q * q * (o * s123) = (o * q - 1) * (q * s123) + q * s123 := by clear m13 m123 ht z pt; grind
      rw [z2, ht]
      clear m13 m123 ht z z2 pt
      generalize (2 ^ 64 : Int) = n
      grind)) (up hq)
    have pa : (2 ^ (2 * a) : Int) = 2 ^ a * 2 ^ a := by rw [← Int.pow_add]; congr 1; omega
    have fin : ∀ {G g r : Int}, G.natAbs < 2 ^ 24 → (2 ^ (32 - b) : Int) ∣ g → G = 2 ^ (2 * a) * r → q * q * r = g → G = 0 := fun {G g r} hG hg hr hqr => quad_zero (a := a) (j := 32 - b) oo hq hG (by omega) (by omega) hg ⟨r, hr, by rw [hqr, Int.sub_self]; exact ⟨0, rfl⟩⟩
    clear pt m13 m123
    refine ⟨fin ?_ F1 (r := 4 * s012 * s014 - s013 * s013) ?_ ?_, fin ?_ F2 (r := s013 * s014 - s013 * s023 + 2 * s012 * o) ?_ ?_, fin ?_ F3 (r := s012 * s123 + 4 * s013 * s014 - 2 * s013 * s023) ?_ ?_, fin ?_ F4 (r := s012 * s124 - s023 * s023 + 2 * s023 * s014) ?_ ?_⟩
    · have := nb2 b012 b014
      have := nb2 b013 b013
      simp only [Int.mul_assoc]
      omega
    · rw [e012, e013, e014, pa]
      clear F1 F2 F3 F4
      grind
    · clear F1 F2 F3 F4
      grind
    · have := nb2 b013 b014
      have := nb2 b013 b023
      have := nb2 b012 b024
      simp only [Int.mul_assoc]
      omega
    · rw [hd, e012, e013, e014, e023, pa]
      clear F1 F2 F3 F4
      grind
    · clear F1 F2 F3 F4
      grind
    · have := nb2 b012 b123
      have := nb2 b013 b014
      have := nb2 b013 b023
      simp only [Int.mul_assoc]
      omega
    · rw [e012, e013, e014, e023, e123, pa]
      clear F1 F2 F3 F4
      grind
    · clear F1 F2 F3 F4
      grind
    · have := nb2 b012 b124
      have := nb2 b023 b023
      have := nb2 b023 b014
      simp only [Int.mul_assoc]
      omega
    · rw [e012, e014, e023, e124, pa]
      clear F1 F2 F3 F4
      grind
    · clear F1 F2 F3 F4
      grind
  · intro z
    have s0 : s012 = 0 := by
      rw [z] at e012
      rcases Int.mul_eq_zero.mp e012.symm with y | y
      · exact absurd y hp2
      · exact y
    subst s0
    rw [Int.mul_zero, Int.neg_zero] at pt
    have h1 := pt_zero pt
    have oq3 : (q * q * q) % 2 = 1 := by
      have : (q * q) % 2 = 1 := by rw [Int.mul_emod, oq]; rfl
      rw [Int.mul_emod, this, oq]
      rfl
    have h2 : (2 ^ (32 - b) : Int) ∣ s014 * s014 * s014 := by
      apply odd_cancel oq3
      have e : q * q * q * (s014 * s014 * s014) = q * s014 * (q * s014) * (q * s014) := by grind
      rw [e]
      exact h1
    have h3 : (2 ^ ((31 - b) / 3 + 1) : Int) ∣ s014 := cube_dvd (pw_le_dvd (by omega) h2)
    have z14 : d3 X Y W 0 1 4 = 0 := by
      apply small_zero (k := 11) _ (Nat.lt_of_le_of_lt b014 (by decide))
      rw [e014]
      exact pw_le_dvd (j := a + ((31 - b) / 3 + 1)) (by omega) (dvd_mul2 ⟨1, by rw [Int.mul_one]⟩ h3)
    refine ⟨z14, ?_⟩
    have s4 : s014 = 0 := by
      rw [z14] at e014
      rcases Int.mul_eq_zero.mp e014.symm with y | y
      · exact absurd y hp2
      · exact y
    subst s4
    rw [Int.mul_zero] at pt
    have h4 := odd_cancel oq _ _ (pt_zero2 pt)
    apply small_zero (k := 11) _ (Nat.lt_of_le_of_lt b023 (by decide))
    rw [e023]
    exact pw_le_dvd (j := a + (32 - b)) (by omega) (dvd_mul2 ⟨1, by rw [Int.mul_one]⟩ h4)
theorem T24_rv {b : Nat} {k : Int} {e X Y W : Nat → Int} (h : T24 b k e X Y W) : T24 b k e (rv X) (rv Y) (rv W) := by
  obtain ⟨hA, hk, ok, q02, q13, q24⟩ := h
  refine ⟨dvA_rv hA, ?_, ok, ?_, ?_, ?_⟩
  · show sP e X Y W 4 0 = _
    rw [sP_sym]
    exact hk
  · show (2 ^ (b + 1) : Int) ∣ sP e X Y W 4 2
    rw [sP_sym]
    exact q24
  · show (2 ^ (b + 1) : Int) ∣ sP e X Y W 3 1
    rw [sP_sym]
    exact q13
  · show (2 ^ (b + 1) : Int) ∣ sP e X Y W 2 0
    rw [sP_sym]
    exact q02
/-- the conic: a root mod 2 ^ 64 stands on the double conic, or on a row of even powers alone, or the eliminant is nothing -/
theorem conic_all {X Y W e G : Nat → Int} {c : Int} (hS : SQ X Y W e G c) (hc : c ≠ 0) (he : ∃ i, i < 6 ∧ e i % 2 = 1) (h7 : b7 X Y W) (hp : ∃ i j k, i < 5 ∧ j < 5 ∧ k < 5 ∧ d3 X Y W i j k ≠ 0) : (d3 X Y W 0 1 2 ≠ 0 ∧ EA X Y W) ∨ (d3 (rv X) (rv Y) (rv W) 0 1 2 ≠ 0 ∧ EA (rv X) (rv Y) (rv W)) ∨ (∀ x y w : Int, FF X Y W x y w = 0) ∨ (X 1 = 0 ∧ Y 1 = 0 ∧ W 1 = 0 ∧ X 3 = 0 ∧ Y 3 = 0 ∧ W 3 = 0) := by
  rcases conic_main hS hc he h7 hp with z | z | z | ⟨b, k, hb, hA, hk, ok, q02, q03, q13, q14, q24⟩
  · exact Or.inl z
  · exact Or.inr (Or.inl z)
  · exact Or.inr (Or.inr (Or.inl z))
  · have hT : T24 b k e X Y W := ⟨hA, hk, ok, q02, q13, q24⟩
    have hC := SQ_CK hS hc
    have hCr := SQ_CK (SQ_rv hS) hc
    have hpr : ∃ i j k, i < 5 ∧ j < 5 ∧ k < 5 ∧ d3 (rv X) (rv Y) (rv W) i j k ≠ 0 := by
      refine ⟨0, 2, 4, by decide, by decide, by decide, ?_⟩
      have h := t24_ne hC he hb hT (b7_P h7) hp
      intro y
      have y2 : d3 X Y W 4 2 0 = 0 := y
      rw [d3_cy X Y W 4 2 0, d3_sw X Y W 0 2 4] at y2
      omega
    obtain ⟨E1, Z1⟩ := t24_EA hC he hb hT (b7_P h7) hp
    obtain ⟨E2, Z2⟩ := t24_EA hCr he hb (T24_rv hT) (b7_P (b7_rv h7)) hpr
    by_cases p1 : d3 X Y W 0 1 2 = 0
    · by_cases p2 : d3 (rv X) (rv Y) (rv W) 0 1 2 = 0
      · right
        right
        right
        have hne := t24_ne hC he hb hT (b7_P h7) hp
        obtain ⟨u1, u2⟩ := Z1 p1
        obtain ⟨v1, v2⟩ := Z2 p2
        have p2' : d3 X Y W 4 3 2 = 0 := p2
        have v1' : d3 X Y W 4 3 0 = 0 := v1
        have v2' : d3 X Y W 4 2 1 = 0 := v2
        have w1 : d3 X Y W 2 4 1 = 0 := by rw [d3_cy, d3_sw X Y W 1 4 2, ← d3_cy X Y W 4 2 1] <;> omega
        have w3 : d3 X Y W 2 4 3 = 0 := by
          have : d3 X Y W 2 4 3 = d3 X Y W 4 3 2 := (d3_cy X Y W 4 3 2).symm
          omega
        have w4 : d3 X Y W 0 4 3 = 0 := by
          have : d3 X Y W 0 4 3 = d3 X Y W 4 3 0 := (d3_cy X Y W 4 3 0).symm
          omega
        have w5 : d3 X Y W 0 4 1 = 0 := by rw [d3_sw X Y W 0 1 4]; omega
        have w6 : d3 X Y W 0 2 1 = 0 := by rw [d3_sw X Y W 0 1 2]; omega
        have f : ∀ {z : Int}, d3 X Y W 0 2 4 * z = 0 → z = 0 := fun h => by
          rcases Int.mul_eq_zero.mp h with y | y
          · exact absurd y hne
          · exact y
        refine ⟨f ?_, f ?_, f ?_, f ?_, f ?_, f ?_⟩
        · rw [cramX X Y W 0 2 4 1, w1, w5, w6]; omega
        · rw [cramY X Y W 0 2 4 1, w1, w5, w6]; omega
        · rw [cramW X Y W 0 2 4 1, w1, w5, w6]; omega
        · rw [cramX X Y W 0 2 4 3, w3, w4, u2]; omega
        · rw [cramY X Y W 0 2 4 3, w3, w4, u2]; omega
        · rw [cramW X Y W 0 2 4 3, w3, w4, u2]; omega
      · exact Or.inr (Or.inl ⟨p2, E2⟩)
    · exact Or.inl ⟨p1, E1⟩
end
section
/-! roots mod a power of two are the true ones -/
def lneg (l : List Int) : List Int := l.map (fun x => -1 * x)
theorem evl_neg (l : List Int) (t : Int) : evl (lneg l) t = -evl l t := by
  unfold lneg
  rw [evl_map]
  omega
theorem gd_neg (l : List Int) (i : Nat) : gd (lneg l) i = -gd l i := by
  unfold lneg
  rw [gd_map]
  omega
def lodd (e : List Int) : Prop := ∃ j, gd e j % 2 = 1
theorem uq2 {A : Nat} {e g : List Int} {F : Int → Int} (hA : 1 ≤ A) (hF : Pf F) (he : lodd e) (h : ∀ t, evl e t * evl e t - evl g t * evl g t = 2 ^ A * F t) : (∀ i, (2 ^ (A - 1) : Int) ∣ gd e i - gd g i) ∨ ∀ i, (2 ^ (A - 1) : Int) ∣ gd e i + gd g i := by
  have h1 : ∀ t, evl (ladd e (lneg g)) t * evl (ladd e g) t = 2 ^ A * F t := fun t => by
    rw [evl_add, evl_add, evl_neg, ← h t]
    grind
  have h2 : ∀ t, evl (ladd e g) t * evl (ladd e (lneg g)) t = 2 ^ A * F t := fun t => by
    rw [Int.mul_comm]
    exact h1 t
  by_cases q : ∀ j, (2 ^ (1 + 1) : Int) ∣ gd (ladd e g) j
  · right
    obtain ⟨j, hj⟩ := he
    have hn : ¬ ∀ j, (2 ^ (1 + 1) : Int) ∣ gd (ladd e (lneg g)) j := fun z => by
      have z1 := z j
      have z2 := q j
      rw [gd_add, gd_neg] at z1
      rw [gd_add] at z2
      omega
    intro i
    have h3 := gauss3 hA hn (prod_dvd hF h2) i
    rw [gd_add] at h3
    exact h3
  · left
    intro i
    have h3 := gauss3 hA q (prod_dvd hF h1) i
    rw [gd_add, gd_neg] at h3
    have e1 : gd e i - gd g i = gd e i + -gd g i := by omega
    rw [e1]
    exact h3
theorem Pf_evl (l : List Int) : Pf (evl l) := ⟨l, fun _ => rfl⟩
/-- the lowest odd term of e^2 + e g + g^2 -/
theorem low3 : ∀ (n : Nat) (e g : List Int), e.length = n → g.length = n → (∀ j, (2 : Int) ∣ gd (ladd (ladd (lmul e e) (lmul e g)) (lmul g g)) j) → ∀ j, (2 : Int) ∣ gd e j ∧ (2 : Int) ∣ gd g j
  | 0, [], [], _, _, _, j => ⟨⟨0, rfl⟩, ⟨0, rfl⟩⟩
  | 0, _ :: _, _, h, _, _, _ => absurd h (by simp)
  | 0, [], _ :: _, _, h, _, _ => absurd h (by simp)
  | n + 1, [], _, h, _, _, _ => absurd h (by simp)
  | n + 1, _ :: _, [], _, h, _, _ => absurd h (by simp)
  | n + 1, a :: e, b :: g, h1, h2, h, j => by
    have e1 : ∀ t, evl (ladd (ladd (lmul (a :: e) (a :: e)) (lmul (a :: e) (b :: g))) (lmul (b :: g) (b :: g))) t = (a * a + a * b + b * b) + t * ((2 * a + b) * evl e t + (a + 2 * b) * evl g t + t * evl (ladd (ladd (lmul e e) (lmul e g)) (lmul g g)) t) := fun t => by
      simp only [evl_add, evl_mul]
      show (a + t * evl e t) * (a + t * evl e t) + (a + t * evl e t) * (b + t * evl g t) + (b + t * evl g t) * (b + t * evl g t) = _
      grind
    have e2 : ∀ t, evl (ladd (ladd (lmul (a :: e) (a :: e)) (lmul (a :: e) (b :: g))) (lmul (b :: g) (b :: g))) t = evl ((a * a + a * b + b * b) :: ladd (ladd (e.map (fun x => (2 * a + b) * x)) (g.map (fun x => (a + 2 * b) * x))) (0 :: ladd (ladd (lmul e e) (lmul e g)) (lmul g g))) t := fun t => by
      rw [e1 t]
      generalize ladd (ladd (lmul e e) (lmul e g)) (lmul g g) = M
      show _ = (a * a + a * b + b * b) + t * evl (ladd (ladd (e.map (fun x => (2 * a + b) * x)) (g.map (fun x => (a + 2 * b) * x))) (0 :: M)) t
      rw [evl_add, evl_add, evl_map, evl_map]
      show _ = (a * a + a * b + b * b) + t * ((2 * a + b) * evl e t + (a + 2 * b) * evl g t + (0 + t * evl M t))
      rw [Int.zero_add]
    have u := evl_uq e2
    have h0 : (2 : Int) ∣ a * a + a * b + b * b := by
      have := h 0
      rw [u 0] at this
      exact this
    have ab : a % 2 = 0 ∧ b % 2 = 0 := by
      rcases Int.emod_two_eq a with x | x <;> rcases Int.emod_two_eq b with y | y
      · exact ⟨x, y⟩
      · exfalso
        obtain ⟨p, hp⟩ : ∃ p, a = 2 * p := ⟨a / 2, by omega⟩
        obtain ⟨q, hq⟩ : ∃ q, b = 2 * q + 1 := ⟨b / 2, by omega⟩
        obtain ⟨w, hw⟩ := h0
        have : a * a + a * b + b * b = 2 * (2 * p * p + p * b + 2 * q * q + 2 * q) + 1 := by rw [hp, hq]; clear hw u e1 e2; grind
        omega
      · exfalso
        obtain ⟨p, hp⟩ : ∃ p, a = 2 * p + 1 := ⟨a / 2, by omega⟩
        obtain ⟨q, hq⟩ : ∃ q, b = 2 * q := ⟨b / 2, by omega⟩
        obtain ⟨w, hw⟩ := h0
        have : a * a + a * b + b * b = 2 * (2 * p * p + 2 * p + a * q + 2 * q * q) + 1 := by rw [hp, hq]; clear hw u e1 e2; grind
        omega
      · exfalso
        obtain ⟨p, hp⟩ : ∃ p, a = 2 * p + 1 := ⟨a / 2, by omega⟩
        obtain ⟨q, hq⟩ : ∃ q, b = 2 * q + 1 := ⟨b / 2, by omega⟩
        obtain ⟨w, hw⟩ := h0
        have : a * a + a * b + b * b = 2 * (2 * p * p + 2 * p + 2 * p * q + p + q + 2 * q * q + 2 * q + 1) + 1 := by rw [hp, hq]; clear hw u e1 e2; grind
        omega
    obtain ⟨a2, ha2⟩ : ∃ p, a = 2 * p := ⟨a / 2, by omega⟩
    obtain ⟨b2, hb2⟩ : ∃ p, b = 2 * p := ⟨b / 2, by omega⟩
    have ih := low3 n e g (by simpa using h1) (by simpa using h2) (fun i => by
      have h3 := h (i + 2)
      rw [u (i + 2)] at h3
      have h4 : (2 : Int) ∣ gd (ladd (ladd (e.map (fun x => (2 * a + b) * x)) (g.map (fun x => (a + 2 * b) * x))) (0 :: ladd (ladd (lmul e e) (lmul e g)) (lmul g g))) (i + 1) := h3
      rw [gd_add, gd_add, gd_map, gd_map] at h4
      have h5 : (2 : Int) ∣ (2 * a + b) * gd e (i + 1) + (a + 2 * b) * gd g (i + 1) + gd (ladd (ladd (lmul e e) (lmul e g)) (lmul g g)) i := h4
      obtain ⟨w, hw⟩ := h5
      refine ⟨w - (a + b2) * gd e (i + 1) - (a2 + b) * gd g (i + 1), ?_⟩
      rw [ha2, hb2] at hw ⊢
      clear u e1 e2 h3 h4 h h0 ha2 hb2 ab
      grind)
    match j with
    | 0 => exact ⟨⟨a2, ha2⟩, ⟨b2, hb2⟩⟩
    | j + 1 => exact ih j
theorem uq3 {A : Nat} {e g : List Int} {F : Int → Int} (hl : e.length = g.length) (hF : Pf F) (he : lodd e) (h : ∀ t, evl e t * evl e t * evl e t - evl g t * evl g t * evl g t = 2 ^ A * F t) (i : Nat) : (2 ^ A : Int) ∣ gd e i - gd g i := by
  have h1 : ∀ t, evl (ladd e (lneg g)) t * evl (ladd (ladd (lmul e e) (lmul e g)) (lmul g g)) t = 2 ^ A * F t := fun t => by
    simp only [evl_add, evl_mul, evl_neg]
    rw [← h t]
    grind
  have hn : ¬ ∀ j, (2 ^ (0 + 1) : Int) ∣ gd (ladd (ladd (lmul e e) (lmul e g)) (lmul g g)) j := fun z => by
    obtain ⟨j, hj⟩ := he
    have := (low3 _ e g rfl hl.symm z j).1
    omega
  have h3 := gauss3 (B := 0) (Nat.zero_le A) hn (prod_dvd hF h1) i
  rw [gd_add, gd_neg] at h3
  have e1 : gd e i - gd g i = gd e i + -gd g i := by omega
  rw [e1]
  exact h3
theorem all_even {c : List Int} (h : ∀ i, (2 : Int) ∣ conv c (gd c) i) (j : Nat) : (2 : Int) ∣ gd c j := by
  by_cases q : ∃ j, ¬ (2 : Int) ∣ gd c j
  · obtain ⟨d, hd⟩ := even_ls q h
    rw [hd, gd_map]
    exact ⟨_, rfl⟩
  · exact Classical.byContradiction fun z => q ⟨j, z⟩
theorem uq4 {A : Nat} {e g : List Int} {F : Int → Int} (hA : 2 ≤ A) (hF : Pf F) (he : lodd e) (h : ∀ t, evl e t * evl e t * (evl e t * evl e t) - evl g t * evl g t * (evl g t * evl g t) = 2 ^ A * F t) : (∀ i, (2 ^ (A - 2) : Int) ∣ gd e i - gd g i) ∨ ∀ i, (2 ^ (A - 2) : Int) ∣ gd e i + gd g i := by
  have h1 : ∀ t, evl (ladd (lmul e e) (lneg (lmul g g))) t * evl (ladd (lmul e e) (lmul g g)) t = 2 ^ A * F t := fun t => by
    simp only [evl_add, evl_mul, evl_neg]
    rw [← h t]
    grind
  have hn : ¬ ∀ j, (2 ^ (1 + 1) : Int) ∣ gd (ladd (lmul e e) (lmul g g)) j := fun z => by
    have s : ∀ j, (2 : Int) ∣ gd (ladd e g) j := all_even fun i => by
      have u := evl_uq (l := lmul (ladd e g) (ladd e g)) (m := ladd (ladd (lmul e e) (lmul g g)) ((lmul e g).map (fun x => 2 * x))) (fun t => by
        simp only [evl_add, evl_mul, evl_map]
        grind) i
      rw [← gd_mul, u, gd_add, gd_map]
      have := z i
      omega
    have s2 : ∀ j, (2 : Int) ∣ conv e (gd e) j := fun j => by
      have hm : ladd e g = ((ladd e g).map (fun x => x / 2)).map (fun x => 2 * x) := by
        rw [List.map_map]
        have : (ladd e g).map ((fun x => 2 * x) ∘ fun x => x / 2) = (ladd e g).map id := List.map_congr_left (fun x hx => by
          obtain ⟨i, hi, ei⟩ := List.mem_iff_getElem.mp hx
          have h2 := s i
          have e2 : gd (ladd e g) i = x := by unfold gd; rw [List.getD_eq_getElem?_getD, List.getElem?_eq_getElem hi]; exact ei
          rw [e2] at h2
          show 2 * (x / 2) = x
          omega)
        rw [this, List.map_id]
      generalize (ladd e g).map (fun x => x / 2) = d at hm
      have u := evl_uq (l := ladd (lmul e e) (lmul g g)) (m := ladd ((lmul e e).map (fun x => 2 * x)) ((ladd (lmul d d) (lneg (lmul e d))).map (fun x => 4 * x))) (fun t => by
        have hv : evl e t + evl g t = 2 * evl d t := by rw [← evl_add, hm, evl_map]
        simp only [evl_add, evl_mul, evl_map, evl_neg]
        have hg : evl g t = 2 * evl d t - evl e t := by omega
        rw [hg]
        grind) j
      have z2 := z j
      rw [u, gd_add, gd_map, gd_map, gd_mul] at z2
      omega
    obtain ⟨j, hj⟩ := he
    have := all_even s2 j
    omega
  have h3 : ∀ i, (2 ^ (A - 1) : Int) ∣ gd (ladd (lmul e e) (lneg (lmul g g))) i := fun i => gauss3 (B := 1) (by omega) hn (prod_dvd hF h1) i
  have hm : ladd (lmul e e) (lneg (lmul g g)) = ((ladd (lmul e e) (lneg (lmul g g))).map (fun x => x / 2 ^ (A - 1))).map (fun x => 2 ^ (A - 1) * x) := by
    generalize ladd (lmul e e) (lneg (lmul g g)) = m at *
    rw [List.map_map]
    have : m.map ((fun x => 2 ^ (A - 1) * x) ∘ fun x => x / 2 ^ (A - 1)) = m.map id := List.map_congr_left (fun x hx => by
      obtain ⟨i, hi, ei⟩ := List.mem_iff_getElem.mp hx
      have h2 := h3 i
      have e2 : gd m i = x := by unfold gd; rw [List.getD_eq_getElem?_getD, List.getElem?_eq_getElem hi]; exact ei
      rw [e2] at h2
      exact Int.mul_ediv_cancel' h2)
    rw [this, List.map_id]
  have h4 := uq2 (A := A - 1) (e := e) (g := g) (by omega) (Pf_evl ((ladd (lmul e e) (lneg (lmul g g))).map (fun x => x / 2 ^ (A - 1)))) he (fun t => by
    have hq := evl_map (2 ^ (A - 1)) ((ladd (lmul e e) (lneg (lmul g g))).map (fun x => x / 2 ^ (A - 1))) t
    rw [← hm, evl_add, evl_neg, evl_mul, evl_mul] at hq
    rw [← hq]
    omega)
  rw [show A - 1 - 1 = A - 2 by omega] at h4
  exact h4
end
section
theorem div_ls {n : Int} : ∀ (c : List Int), (∀ j, n ∣ gd c j) → ∃ d : List Int, d.length = c.length ∧ c = d.map (fun x => n * x)
  | [], _ => ⟨[], rfl, rfl⟩
  | a :: c, h => by
    obtain ⟨x, hx⟩ := h 0
    obtain ⟨d, h1, h2⟩ := div_ls c (fun j => h (j + 1))
    refine ⟨x :: d, by rw [List.length_cons, List.length_cons, h1], ?_⟩
    have hx : a = n * x := hx
    rw [List.map_cons, ← h2, ← hx]
theorem all_p {p : Nat} (hp : Irr p) {c : List Int} (h : ∀ i, (p : Int) ∣ conv c (gd c) i) (j : Nat) : (p : Int) ∣ gd c j := by
  by_cases q : ∃ j, ¬ (p : Int) ∣ gd c j
  · obtain ⟨j0, hj⟩ := q
    obtain ⟨i0, h0, h1⟩ := first_ex (P := fun i => ¬ (p : Int) ∣ gd c i) j0 j0 (Nat.le_refl _) hj
    obtain ⟨d, hd⟩ := conv_pm hp h0 (fun k hk => Classical.byContradiction fun q => h1 k hk q) c h
    rw [hd, gd_map]
    exact ⟨_, rfl⟩
  · exact Classical.byContradiction fun z => q ⟨j, z⟩
def lprim (f : List Int) : Prop := ∀ p, Irr p → ∃ j, ¬ (p : Int) ∣ gd f j
theorem sq_out {f : List Int} (hf : lprim f) : ∀ (K : Nat) (N : Int) (G : List Int), N.natAbs ≤ K → N ≠ 0 → (∀ t, N * evl f t = evl G t * evl G t) → ∃ g : List Int, g.length = G.length ∧ ((∀ t, evl f t = evl g t * evl g t) ∨ ∀ t, evl f t = -(evl g t * evl g t))
  | 0, N, G, h, h0, _ => absurd (Int.natAbs_eq_zero.mp (Nat.le_zero.mp h)) h0
  | K + 1, N, G, h, h0, he => by
    by_cases q : 2 ≤ N.natAbs
    · obtain ⟨p, hp, hd⟩ := irr_ex _ _ (Nat.le_refl _) q
      have hd' : (p : Int) ∣ N := Int.ofNat_dvd_left.mpr hd
      obtain ⟨M, hM⟩ := hd'
      have pp : (p : Int) ≠ 0 := by have := hp.1; omega
      have h1 : ∀ i, (p : Int) ∣ conv G (gd G) i := prod_dvd (F := fun t => M * evl f t) ((Pf.con M).mul (Pf_evl f)) (fun t => by rw [← he t, hM, Int.mul_assoc])
      obtain ⟨d, hl, hdG⟩ := div_ls G (all_p hp h1)
      have e1 : ∀ t, M * evl f t = p * (evl d t * evl d t) := fun t => by
        apply Int.eq_of_mul_eq_mul_left pp
        have := he t
        rw [hdG, evl_map, hM] at this
        rw [← Int.mul_assoc, this]
        clear this he h1
        grind
      obtain ⟨j, hj⟩ := hf p hp
      have e2 : (p : Int) ∣ M := by
        have u := evl_uq (l := f.map (fun x => M * x)) (m := (lmul d d).map (fun x => p * x)) (fun t => by rw [evl_map, evl_map, evl_mul, e1 t]) j
        rw [gd_map, gd_map] at u
        exact hp.pm ⟨_, u⟩ hj
      obtain ⟨M2, hM2⟩ := e2
      have e3 : ∀ t, M2 * evl f t = evl d t * evl d t := fun t => by
        apply Int.eq_of_mul_eq_mul_left pp
        rw [← e1 t, hM2, Int.mul_assoc]
      have hM20 : M2 ≠ 0 := fun z => h0 (by rw [hM, hM2, z]; omega)
      have hlt : M2.natAbs ≤ K := by
        have hp2 := hp.1
        have e4 : N.natAbs = p * (p * M2.natAbs) := by
          rw [hM, hM2, Int.natAbs_mul, Int.natAbs_mul]
          rfl
        have e5 : 2 * (2 * M2.natAbs) ≤ p * (p * M2.natAbs) := Nat.mul_le_mul hp2 (Nat.mul_le_mul hp2 (Nat.le_refl _))
        have : M2.natAbs ≠ 0 := fun z => hM20 (Int.natAbs_eq_zero.mp z)
        omega
      obtain ⟨g, hg1, hg2⟩ := sq_out hf K M2 d hlt hM20 e3
      exact ⟨g, by rw [hg1, hl], hg2⟩
    · refine ⟨G, rfl, ?_⟩
      have : N = 1 ∨ N = -1 := by omega
      rcases this with z | z
      · left
        intro t
        rw [← he t, z, Int.one_mul]
      · right
        intro t
        rw [← he t, z]
        omega
theorem sum_sq {e g : List Int} (he : lodd e) : ¬ ∀ j, (2 ^ (1 + 1) : Int) ∣ gd (ladd (lmul e e) (lmul g g)) j := fun z => by
  have s : ∀ j, (2 : Int) ∣ gd (ladd e g) j := all_even fun i => by
    have u := evl_uq (l := lmul (ladd e g) (ladd e g)) (m := ladd (ladd (lmul e e) (lmul g g)) ((lmul e g).map (fun x => 2 * x))) (fun t => by
      simp only [evl_add, evl_mul, evl_map]
      grind) i
    rw [← gd_mul, u, gd_add, gd_map]
    have := z i
    omega
  obtain ⟨d, _, hm⟩ := div_ls _ s
  have s2 : ∀ j, (2 : Int) ∣ conv e (gd e) j := fun j => by
    have u := evl_uq (l := ladd (lmul e e) (lmul g g)) (m := ladd ((lmul e e).map (fun x => 2 * x)) ((ladd (lmul d d) (lneg (lmul e d))).map (fun x => 4 * x))) (fun t => by
      have hv : evl e t + evl g t = 2 * evl d t := by rw [← evl_add, hm, evl_map]
      simp only [evl_add, evl_mul, evl_map, evl_neg]
      have hg : evl g t = 2 * evl d t - evl e t := by omega
      rw [hg]
      grind) j
    have z2 := z j
    rw [u, gd_add, gd_map, gd_map, gd_mul] at z2
    omega
  obtain ⟨j, hj⟩ := he
  have := all_even s2 j
  omega
/-- a square mod 2 ^ A that is a square up to a number: a root of it, near e -/
theorem root2 {A : Nat} {f e G : List Int} {N : Int} {F : Int → Int} (hA : 2 ≤ A) (hf : lprim f) (hN : N ≠ 0) (hF : Pf F) (he : lodd e) (hG : ∀ t, N * evl f t = evl G t * evl G t) (h : ∀ t, evl e t * evl e t - evl f t = 2 ^ A * F t) : ∃ g : List Int, g.length = G.length ∧ (∀ t, evl f t = evl g t * evl g t) ∧ ((∀ i, (2 ^ (A - 1) : Int) ∣ gd e i - gd g i) ∨ ∀ i, (2 ^ (A - 1) : Int) ∣ gd e i + gd g i) := by
  obtain ⟨g, h1, h2 | h2⟩ := sq_out hf _ N G (Nat.le_refl _) hN hG
  · exact ⟨g, h1, h2, uq2 (by omega) hF he (fun t => by rw [← h2 t]; exact h t)⟩
  · exfalso
    obtain ⟨r, hr⟩ := hF
    refine sum_sq (g := g) he fun j => ?_
    have u := evl_uq (l := ladd (lmul e e) (lmul g g)) (m := r.map (fun x => 2 ^ A * x)) (fun t => by
      rw [evl_add, evl_mul, evl_mul, evl_map, ← hr t, ← h t, h2 t]
      omega) j
    rw [u, gd_map]
    exact Int.dvd_trans (pw_le_dvd (i := 1 + 1) hA ⟨1, by rw [Int.mul_one]⟩) (Int.dvd_mul_right _ _)
end
section
/-! the line -/
def lv (a b c : Int) (X Y W : Nat → Int) (t : Int) : Int := a * pv X t + b * pv Y t + c * pv W t
def ll (a b c : Int) (X Y W : Nat → Int) : List Int := [a * X 0 + b * Y 0 + c * W 0, a * X 1 + b * Y 1 + c * W 1, a * X 2 + b * Y 2 + c * W 2, a * X 3 + b * Y 3 + c * W 3, a * X 4 + b * Y 4 + c * W 4]
theorem evl_ll (a b c : Int) (X Y W : Nat → Int) (t : Int) : evl (ll a b c X Y W) t = lv a b c X Y W t := by
  unfold ll lv pv
  simp only [evl]
  grind
theorem gd_ll (a b c : Int) (X Y W : Nat → Int) : ∀ i, i < 5 → gd (ll a b c X Y W) i = a * X i + b * Y i + c * W i := five rfl rfl rfl rfl rfl
theorem line2 {a b c : Int} {X Y W : Nat → Int} {F : Int → Int} (hF : Pf F) (h : ∀ t, lv a b c X Y W t * lv a b c X Y W t = 2 ^ 64 * F t) (i : Nat) (hi : i < 5) : (2 ^ 32 : Int) ∣ a * X i + b * Y i + c * W i := by
  rw [← gd_ll a b c X Y W i hi]
  exact gauss_sq 32 _ (fun j => prod_dvd (n := 2 ^ (2 * 32)) hF (fun t => by rw [evl_ll]; exact h t) j) i
theorem line4 {a b c : Int} {X Y W : Nat → Int} {F : Int → Int} (hF : Pf F) (h : ∀ t, lv a b c X Y W t * lv a b c X Y W t * (lv a b c X Y W t * lv a b c X Y W t) = 2 ^ 64 * F t) (i : Nat) (hi : i < 5) : (2 ^ 16 : Int) ∣ a * X i + b * Y i + c * W i := by
  rw [← gd_ll a b c X Y W i hi]
  refine gauss_sq 16 _ (fun j => ?_) i
  rw [← gd_mul]
  exact gauss_sq 32 _ (fun j => prod_dvd (n := 2 ^ (2 * 32)) hF (fun t => by rw [evl_mul, evl_ll]; exact h t) j) j
theorem line3 {a b c : Int} {X Y W : Nat → Int} {F : Int → Int} (hF : Pf F) (h : ∀ t, lv a b c X Y W t * lv a b c X Y W t * lv a b c X Y W t = 2 ^ 64 * F t) (i : Nat) (hi : i < 5) : (2 ^ 21 : Int) ∣ a * X i + b * Y i + c * W i := by
  rw [← gd_ll a b c X Y W i hi]
  by_cases q : ∀ j, (2 ^ (21 + 1) : Int) ∣ gd (ll a b c X Y W) j
  · exact pw_le_dvd (by decide) (q i)
  · refine gauss_sq 21 _ (fun j => ?_) i
    rw [← gd_mul]
    have h1 := gauss3 (A := 64) (B := 21) (by decide) q (c := lmul (ll a b c X Y W) (ll a b c X Y W)) (fun j => prod_dvd hF (fun t => by rw [evl_mul, evl_ll]; exact h t) j) j
    exact pw_le_dvd (by decide) h1
theorem line_minor {m : Nat} {a b c : Int} {X Y W : Nat → Int} (ho : a % 2 = 1 ∨ b % 2 = 1 ∨ c % 2 = 1) (h : ∀ i, i < 5 → (2 ^ m : Int) ∣ a * X i + b * Y i + c * W i) {i j k : Nat} (hi : i < 5) (hj : j < 5) (hk : k < 5) : (2 ^ m : Int) ∣ d3 X Y W i j k := by
  have q1 := h i hi
  have q2 := h j hj
  have q3 := h k hk
  have e1 : a * d3 X Y W i j k = (Y j * W k - Y k * W j) * (a * X i + b * Y i + c * W i) - (Y i * W k - Y k * W i) * (a * X j + b * Y j + c * W j) + (Y i * W j - Y j * W i) * (a * X k + b * Y k + c * W k) := by
    clear q1 q2 q3
    unfold d3
    grind
  have e2 : b * d3 X Y W i j k = (X i * W k - X k * W i) * (a * X j + b * Y j + c * W j) - (X j * W k - X k * W j) * (a * X i + b * Y i + c * W i) - (X i * W j - X j * W i) * (a * X k + b * Y k + c * W k) := by
    clear q1 q2 q3 e1
    unfold d3
    grind
  have e3 : c * d3 X Y W i j k = (X j * Y k - X k * Y j) * (a * X i + b * Y i + c * W i) - (X i * Y k - X k * Y i) * (a * X j + b * Y j + c * W j) + (X i * Y j - X j * Y i) * (a * X k + b * Y k + c * W k) := by
    clear q1 q2 q3 e1 e2
    unfold d3
    grind
  rcases ho with z | z | z
  · apply odd_cancel z
    rw [e1]
    exact Int.dvd_add (Int.dvd_sub (dl _ q1) (dl _ q2)) (dl _ q3)
  · apply odd_cancel z
    rw [e2]
    exact Int.dvd_sub (Int.dvd_sub (dl _ q2) (dl _ q1)) (dl _ q3)
  · apply odd_cancel z
    rw [e3]
    exact Int.dvd_add (Int.dvd_sub (dl _ q1) (dl _ q2)) (dl _ q3)
/-- three numbers without a common divisor -/
def pr3 (a b c : Int) : Prop := ∀ p : Nat, Irr p → ¬ ((p : Int) ∣ a ∧ (p : Int) ∣ b ∧ (p : Int) ∣ c)
theorem pr3_ex : ∀ (K : Nat) (a b c : Int), a.natAbs + b.natAbs + c.natAbs ≤ K → ¬ (a = 0 ∧ b = 0 ∧ c = 0) → ∃ (d a' b' c' : Int), d ≠ 0 ∧ a = d * a' ∧ b = d * b' ∧ c = d * c' ∧ pr3 a' b' c'
  | 0, a, b, c, h, h0 => absurd ⟨by omega, by omega, by omega⟩ h0
  | K + 1, a, b, c, h, h0 => by
    by_cases q : ∃ p : Nat, Irr p ∧ (p : Int) ∣ a ∧ (p : Int) ∣ b ∧ (p : Int) ∣ c
    · obtain ⟨p, hp, ⟨a1, ha⟩, ⟨b1, hb⟩, ⟨c1, hc⟩⟩ := q
      have hp2 := hp.1
      have s : ∀ {x y : Int}, x = (p : Int) * y → 2 * y.natAbs ≤ x.natAbs := fun {x y} e => by
        rw [e, Int.natAbs_mul]
        exact Nat.mul_le_mul hp2 (Nat.le_refl _)
      have sa := s ha
      have sb := s hb
      have sc := s hc
      have h1 : ¬ (a1 = 0 ∧ b1 = 0 ∧ c1 = 0) := fun z => h0 ⟨by rw [ha, z.1]; omega, by rw [hb, z.2.1]; omega, by rw [hc, z.2.2]; omega⟩
      obtain ⟨d, a', b', c', k0, k1, k2, k3, k4⟩ := pr3_ex K a1 b1 c1 (by omega) h1
      refine ⟨p * d, a', b', c', ?_, by rw [ha, k1, Int.mul_assoc], by rw [hb, k2, Int.mul_assoc], by rw [hc, k3, Int.mul_assoc], k4⟩
      intro z
      rcases Int.mul_eq_zero.mp z with y | y
      · omega
      · exact k0 y
    · exact ⟨1, a, b, c, by decide, by omega, by omega, by omega, fun p hp z => q ⟨p, hp, z⟩⟩
/-- what is on the line of three such numbers is a multiple of them -/
theorem pr3_mul {a b c u v w : Int} (hp : pr3 a b c) (h1 : a * v = b * u) (h2 : a * w = c * u) (h3 : b * w = c * v) : ∃ m : Int, u = m * a ∧ v = m * b ∧ w = m * c := by
  have hne : ¬ (a = 0 ∧ b = 0 ∧ c = 0) := fun z => hp 2 irr2 ⟨by rw [z.1]; exact ⟨0, rfl⟩, by rw [z.2.1]; exact ⟨0, rfl⟩, by rw [z.2.2]; exact ⟨0, rfl⟩⟩
  by_cases hz : u = 0 ∧ v = 0 ∧ w = 0
  · exact ⟨0, by rw [hz.1]; omega, by rw [hz.2.1]; omega, by rw [hz.2.2]; omega⟩
  obtain ⟨d, u', v', w', k0, k1, k2, k3, k4⟩ := pr3_ex _ u v w (Nat.le_refl _) hz
  subst k1
  subst k2
  subst k3
  have g1 : a * v' = b * u' := by apply Int.eq_of_mul_eq_mul_left k0; clear h2 h3 hp k4; grind
  have g2 : a * w' = c * u' := by apply Int.eq_of_mul_eq_mul_left k0; clear h1 h3 hp k4; grind
  have g3 : b * w' = c * v' := by apply Int.eq_of_mul_eq_mul_left k0; clear h1 h2 hp k4; grind
  have key : ∀ (K : Nat) (s r : Int), s.natAbs ≤ K → s ≠ 0 → r * a = s * u' → r * b = s * v' → r * c = s * w' → ∃ m : Int, u' = m * a ∧ v' = m * b ∧ w' = m * c ∨ False := fun K => by
    induction K with
    | zero => exact fun s r hs h0 _ _ _ => absurd (by omega) h0
    | succ K ih =>
      intro s r hs h0 f1 f2 f3
      by_cases q : 2 ≤ s.natAbs
      · obtain ⟨p, hpp, hd⟩ := irr_ex _ _ (Nat.le_refl _) q
        have hd' : (p : Int) ∣ s := Int.ofNat_dvd_left.mpr hd
        obtain ⟨s1, hs1⟩ := hd'
        have pp : (p : Int) ≠ 0 := by have := hpp.1; omega
        have hr : (p : Int) ∣ r := by
          apply Classical.byContradiction
          intro nr
          refine hp p hpp ⟨?_, ?_, ?_⟩
          · exact hpp.pm (b := r) ⟨s1 * u', by rw [Int.mul_comm, f1, hs1, Int.mul_assoc]⟩ nr
          · exact hpp.pm (b := r) ⟨s1 * v', by rw [Int.mul_comm, f2, hs1, Int.mul_assoc]⟩ nr
          · exact hpp.pm (b := r) ⟨s1 * w', by rw [Int.mul_comm, f3, hs1, Int.mul_assoc]⟩ nr
        obtain ⟨r1, hr1⟩ := hr
        subst hs1
        subst hr1
        have s10 : s1 ≠ 0 := fun z => h0 (by rw [z]; omega)
        have hlt : s1.natAbs ≤ K := by
          have hp2 := hpp.1
          have e4 : ((p : Int) * s1).natAbs = p * s1.natAbs := by
            rw [Int.natAbs_mul]
            rfl
          have e5 : 2 * s1.natAbs ≤ p * s1.natAbs := Nat.mul_le_mul hp2 (Nat.le_refl _)
          have : s1.natAbs ≠ 0 := fun z => s10 (Int.natAbs_eq_zero.mp z)
          omega
        exact ih s1 r1 hlt s10 (by apply Int.eq_of_mul_eq_mul_left pp; rw [← Int.mul_assoc, f1, Int.mul_assoc]) (by apply Int.eq_of_mul_eq_mul_left pp; rw [← Int.mul_assoc, f2, Int.mul_assoc]) (by apply Int.eq_of_mul_eq_mul_left pp; rw [← Int.mul_assoc, f3, Int.mul_assoc])
      · have : s = 1 ∨ s = -1 := by omega
        rcases this with z | z
        · subst z
          exact ⟨r, Or.inl ⟨by omega, by omega, by omega⟩⟩
        · subst z
          refine ⟨-r, Or.inl ⟨?_, ?_, ?_⟩⟩
          · rw [Int.neg_mul]; omega
          · rw [Int.neg_mul]; omega
          · rw [Int.neg_mul]; omega
  have fin : ∃ m : Int, u' = m * a ∧ v' = m * b ∧ w' = m * c ∨ False := by
    by_cases ha : a = 0
    · by_cases hb : b = 0
      · have hc : c ≠ 0 := fun z => hne ⟨ha, hb, z⟩
        exact key _ c w' (Nat.le_refl _) hc (by rw [Int.mul_comm]; exact g2) (by rw [Int.mul_comm]; exact g3) (by rw [Int.mul_comm])
      · exact key _ b v' (Nat.le_refl _) hb (by rw [Int.mul_comm]; exact g1) (by rw [Int.mul_comm]) (by rw [Int.mul_comm]; exact g3.symm)
    · exact key _ a u' (Nat.le_refl _) ha (by rw [Int.mul_comm]) (by rw [Int.mul_comm]; exact g1.symm) (by rw [Int.mul_comm]; exact g2.symm)
  obtain ⟨m, ⟨m1, m2, m3⟩ | hf⟩ := fin
  · exact ⟨d * m, by rw [m1, Int.mul_assoc], by rw [m2, Int.mul_assoc], by rw [m3, Int.mul_assoc]⟩
  · exact hf.elim
end
section
theorem plane_mu {X Y W : Nat → Int} (hm : ∀ i j k, i < 5 → j < 5 → k < 5 → d3 X Y W i j k = 0) (hx : ∃ i j, i < 5 ∧ j < 5 ∧ ∃ x y w : Int, m3 X Y W x y w i j ≠ 0) : ∃ a b c : Int, pr3 a b c ∧ (∀ i, i < 5 → a * X i + b * Y i + c * W i = 0) ∧ ∃ μ : Nat → Nat → Int, ∀ i j, i < 5 → j < 5 → ∀ x y w : Int, m3 X Y W x y w i j = μ i j * (a * x + b * y + c * w) := by
  obtain ⟨i0, j0, hi0, hj0, x, y, w, hne⟩ := hx
  have hc : ¬ (Y i0 * W j0 - Y j0 * W i0 = 0 ∧ -(X i0 * W j0 - X j0 * W i0) = 0 ∧ X i0 * Y j0 - X j0 * Y i0 = 0) := fun z => hne (by
    unfold m3
    rw [z.1, z.2.2, show X i0 * W j0 - X j0 * W i0 = 0 by omega]
    omega)
  obtain ⟨d, a, b, c, k0, k1, k2, k3, k4⟩ := pr3_ex _ _ _ _ (Nat.le_refl _) hc
  have hL : ∀ i, i < 5 → a * X i + b * Y i + c * W i = 0 := fun i hi => by
    have h := hm i i0 j0 hi hi0 hj0
    have e : d * (a * X i + b * Y i + c * W i) = d3 X Y W i i0 j0 := by
      have e2 : d * (a * X i + b * Y i + c * W i) = (d * a) * X i + (d * b) * Y i + (d * c) * W i := by clear h k1 k2 k3 hne hc; grind
      rw [e2, ← k1, ← k2, ← k3]
      unfold d3
      clear h k1 k2 k3 hne hc e2
      grind
    rw [h] at e
    rcases Int.mul_eq_zero.mp e with z | z
    · exact absurd z k0
    · exact z
  refine ⟨a, b, c, k4, hL, ?_⟩
  have hmu : ∀ i j, i < 5 → j < 5 → ∃ m : Int, ∀ x y w : Int, m3 X Y W x y w i j = m * (a * x + b * y + c * w) := fun i j hi hj => by
    have qi := hL i hi
    have qj := hL j hj
    obtain ⟨m, m1, m2, m3'⟩ := pr3_mul (u := Y i * W j - Y j * W i) (v := -(X i * W j - X j * W i)) (w := X i * Y j - X j * Y i) k4 (by
      have e : a * -(X i * W j - X j * W i) - b * (Y i * W j - Y j * W i) = W i * (a * X j + b * Y j + c * W j) - W j * (a * X i + b * Y i + c * W i) := by clear qi qj hne hc k1 k2 k3; grind
      rw [qi, qj] at e
      omega) (by
      have e : a * (X i * Y j - X j * Y i) - c * (Y i * W j - Y j * W i) = -(Y i * (a * X j + b * Y j + c * W j) - Y j * (a * X i + b * Y i + c * W i)) := by clear qi qj hne hc k1 k2 k3; grind
      rw [qi, qj] at e
      omega) (by
      have e : b * (X i * Y j - X j * Y i) - c * -(X i * W j - X j * W i) = X i * (a * X j + b * Y j + c * W j) - X j * (a * X i + b * Y i + c * W i) := by clear qi qj hne hc k1 k2 k3; grind
      rw [qi, qj] at e
      omega)
    refine ⟨m, fun x y w => ?_⟩
    have e : m3 X Y W x y w i j = x * (Y i * W j - Y j * W i) + y * -(X i * W j - X j * W i) + w * (X i * Y j - X j * Y i) := by
      unfold m3
      clear qi qj hne hc k1 k2 k3 m1 m2 m3'
      grind
    rw [e, m1, m2, m3']
    clear e qi qj hne hc k1 k2 k3 m1 m2 m3'
    grind
  refine ⟨fun i j => if h : i < 5 ∧ j < 5 then (hmu i j h.1 h.2).choose else 0, fun i j hi hj x y w => ?_⟩
  have h : i < 5 ∧ j < 5 := ⟨hi, hj⟩
  show _ = (if h : i < 5 ∧ j < 5 then (hmu i j h.1 h.2).choose else 0) * _
  rw [dif_pos h]
  exact (hmu i j hi hj).choose_spec x y w
def F2 (X Y W : Nat → Int) (x y w : Int) : Int := m3 X Y W x y w 0 1 * m3 X Y W x y w 1 2 - m3 X Y W x y w 0 2 * m3 X Y W x y w 0 2
def F3 (X Y W : Nat → Int) (x y w : Int) : Int := dd3 (m3 X Y W x y w 0 1) (m3 X Y W x y w 0 2) (m3 X Y W x y w 0 3) (m3 X Y W x y w 0 3 + m3 X Y W x y w 1 2) (m3 X Y W x y w 1 3) (m3 X Y W x y w 2 3)
theorem dS_h (s a b c d e f g h i j : Int) : dS (a * s) (b * s) (c * s) (d * s) (e * s) (f * s) (g * s) (h * s) (i * s) (j * s) = dS a b c d e f g h i j * (s * s * (s * s)) := by
  unfold dS det4
  grind
theorem dd3_h (s a b c d e f : Int) : dd3 (a * s) (b * s) (c * s) (d * s) (e * s) (f * s) = dd3 a b c d e f * (s * s * s) := by
  unfold dd3
  grind
theorem plane_F {X Y W : Nat → Int} {a b c : Int} {μ : Nat → Nat → Int} (h : ∀ i j, i < 5 → j < 5 → ∀ x y w : Int, m3 X Y W x y w i j = μ i j * (a * x + b * y + c * w)) : (∃ k : Int, ∀ x y w : Int, F2 X Y W x y w = k * ((a * x + b * y + c * w) * (a * x + b * y + c * w))) ∧ (∃ k : Int, ∀ x y w : Int, F3 X Y W x y w = k * ((a * x + b * y + c * w) * (a * x + b * y + c * w) * (a * x + b * y + c * w))) ∧ ∃ k : Int, ∀ x y w : Int, FF X Y W x y w = k * ((a * x + b * y + c * w) * (a * x + b * y + c * w) * ((a * x + b * y + c * w) * (a * x + b * y + c * w))) := by
  have H := fun i j hi hj x y w => h i j hi hj x y w
  refine ⟨⟨μ 0 1 * μ 1 2 - μ 0 2 * μ 0 2, fun x y w => ?_⟩, ⟨dd3 (μ 0 1) (μ 0 2) (μ 0 3) (μ 0 3 + μ 1 2) (μ 1 3) (μ 2 3), fun x y w => ?_⟩, ⟨dS (μ 0 1) (μ 0 2) (μ 0 3) (μ 0 4) (μ 0 3 + μ 1 2) (μ 0 4 + μ 1 3) (μ 1 4) (μ 1 4 + μ 2 3) (μ 2 4) (μ 3 4), fun x y w => ?_⟩⟩
  · unfold F2
    rw [H 0 1 (by decide) (by decide), H 1 2 (by decide) (by decide), H 0 2 (by decide) (by decide)]
    grind
  · unfold F3
    rw [H 0 1 (by decide) (by decide), H 1 2 (by decide) (by decide), H 0 2 (by decide) (by decide), H 0 3 (by decide) (by decide), H 1 3 (by decide) (by decide), H 2 3 (by decide) (by decide), ← Int.add_mul, dd3_h]
  · unfold FF
    rw [H 0 1 (by decide) (by decide), H 1 2 (by decide) (by decide), H 0 2 (by decide) (by decide), H 0 3 (by decide) (by decide), H 1 3 (by decide) (by decide), H 2 3 (by decide) (by decide), H 0 4 (by decide) (by decide), H 1 4 (by decide) (by decide), H 2 4 (by decide) (by decide), H 3 4 (by decide) (by decide), ← Int.add_mul, ← Int.add_mul, ← Int.add_mul, dS_h]
/-- two primitive polynomials on one line -/
theorem cont_eq {f h : List Int} (hf : lprim f) (hh : lprim h) : ∀ (K : Nat) (N k : Int), N.natAbs ≤ K → N ≠ 0 → (∀ t, N * evl f t = k * evl h t) → (∀ t, evl f t = evl h t) ∨ ∀ t, evl f t = -evl h t
  | 0, N, k, hK, h0, _ => absurd (Int.natAbs_eq_zero.mp (Nat.le_zero.mp hK)) h0
  | K + 1, N, k, hK, h0, he => by
    by_cases q : 2 ≤ N.natAbs
    · obtain ⟨p, hp, hd⟩ := irr_ex _ _ (Nat.le_refl _) q
      have hd' : (p : Int) ∣ N := Int.ofNat_dvd_left.mpr hd
      obtain ⟨M, hM⟩ := hd'
      have pp : (p : Int) ≠ 0 := by have := hp.1; omega
      obtain ⟨j, hj⟩ := hh p hp
      have hk : (p : Int) ∣ k := by
        have u := evl_uq (l := h.map (fun x => k * x)) (m := f.map (fun x => N * x)) (fun t => by rw [evl_map, evl_map, he t]) j
        rw [gd_map, gd_map, hM, Int.mul_assoc] at u
        exact hp.pm ⟨_, u⟩ hj
      obtain ⟨k1, hk1⟩ := hk
      subst hM
      subst hk1
      have M0 : M ≠ 0 := fun z => h0 (by rw [z]; omega)
      have hlt : M.natAbs ≤ K := by
        have hp2 := hp.1
        have e4 : ((p : Int) * M).natAbs = p * M.natAbs := by
          rw [Int.natAbs_mul]
          rfl
        have e5 : 2 * M.natAbs ≤ p * M.natAbs := Nat.mul_le_mul hp2 (Nat.le_refl _)
        have : M.natAbs ≠ 0 := fun z => M0 (Int.natAbs_eq_zero.mp z)
        omega
      exact cont_eq hf hh K M k1 hlt M0 (fun t => by
        apply Int.eq_of_mul_eq_mul_left pp
        rw [← Int.mul_assoc, he t, Int.mul_assoc])
    · have hN : N = 1 ∨ N = -1 := by omega
      have hk : k.natAbs < 2 := Nat.lt_of_not_le fun z => by
        obtain ⟨p, hp, hd⟩ := irr_ex _ _ (Nat.le_refl _) z
        have hd' : (p : Int) ∣ k := Int.ofNat_dvd_left.mpr hd
        obtain ⟨j, hj⟩ := hf p hp
        apply hj
        have u := evl_uq (l := h.map (fun x => k * x)) (m := f.map (fun x => N * x)) (fun t => by rw [evl_map, evl_map, he t]) j
        rw [gd_map, gd_map] at u
        obtain ⟨k1, hk1⟩ := hd'
        rcases hN with y | y
        · rw [y, hk1, Int.mul_assoc, Int.one_mul] at u
          exact ⟨_, u.symm⟩
        · rw [y, hk1, Int.mul_assoc] at u
          exact ⟨-(k1 * gd h j), by rw [Int.mul_neg]; omega⟩
      have hk0 : k ≠ 0 := fun z => by
        obtain ⟨j, hj⟩ := hf 2 irr2
        apply hj
        have u := evl_uq (l := h.map (fun x => k * x)) (m := f.map (fun x => N * x)) (fun t => by rw [evl_map, evl_map, he t]) j
        rw [gd_map, gd_map, z] at u
        rcases hN with y | y <;> rw [y] at u <;> exact ⟨0, by omega⟩
      have hk2 : k = 1 ∨ k = -1 := by omega
      rcases hN with y | y <;> rcases hk2 with z | z <;> subst y <;> subst z
      · left
        intro t
        have := he t
        omega
      · right
        intro t
        have := he t
        omega
      · right
        intro t
        have := he t
        omega
      · left
        intro t
        have := he t
        omega
end
section
def lk (a b c : Int) : List Int := [c, b, 0, 0, 0, 0, 0, a]
def t7 (t : Int) : Int := t * (t * (t * (t * (t * (t * t)))))
theorem evl_lk (a b c t : Int) : evl (lk a b c) t = a * t7 t + b * t + c * 1 := by
  unfold lk t7
  simp only [evl]
  grind
theorem lprim_mul {l m : List Int} (hl : lprim l) (hm : lprim m) : lprim (lmul l m) := fun p hp => by
  apply Classical.byContradiction
  intro q
  have h : ∀ i, (p : Int) ∣ conv l (gd m) i := fun i => by
    rw [← gd_mul]
    exact Classical.byContradiction fun z => q ⟨i, z⟩
  obtain ⟨j0, hj⟩ := hm p hp
  obtain ⟨i0, h0, h1⟩ := first_ex (P := fun i => ¬ (p : Int) ∣ gd m i) j0 j0 (Nat.le_refl _) hj
  obtain ⟨d, hd⟩ := conv_pm hp h0 (fun k hk => Classical.byContradiction fun q => h1 k hk q) l h
  obtain ⟨j, hj2⟩ := hl p hp
  apply hj2
  rw [hd, gd_map]
  exact ⟨_, rfl⟩
theorem lprim_lk {a b c : Int} (h : pr3 a b c) : lprim (lk a b c) := fun p hp => by
  apply Classical.byContradiction
  intro q
  have hj : ∀ j, (p : Int) ∣ gd (lk a b c) j := fun j => Classical.byContradiction fun z => q ⟨j, z⟩
  exact h p hp ⟨hj 7, hj 1, hj 0⟩
theorem lprim_ne {f : List Int} (hf : lprim f) {N : Int} (hN : N ≠ 0) (h : ∀ t, N * evl f t = 0) : False := by
  obtain ⟨j, hj⟩ := hf 2 irr2
  apply hj
  have u := evl_uq (l := f) (m := []) (fun t => by
    rcases Int.mul_eq_zero.mp (h t) with z | z
    · exact absurd z hN
    · exact z) j
  rw [u]
  exact ⟨0, rfl⟩
theorem lodd_sq {e : List Int} (he : lodd e) : lodd (lmul e e) := by
  apply Classical.byContradiction
  intro q
  obtain ⟨j, hj⟩ := he
  have := all_even (c := e) (fun i => by
    rw [← gd_mul]
    have h1 : ¬ gd (lmul e e) i % 2 = 1 := fun z => q ⟨i, z⟩
    have h2 := Int.emod_two_eq (gd (lmul e e) i)
    omega) j
  omega
/-- what the line's numbers are once they are near -/
theorem near_line {K : Nat} {α β γ a b c : Int} (h : (∀ i, (2 ^ K : Int) ∣ gd (lk α β γ) i - gd (lk a b c) i) ∨ ∀ i, (2 ^ K : Int) ∣ gd (lk α β γ) i + gd (lk a b c) i) (h1 : α.natAbs + a.natAbs < 2 ^ K) (h2 : β.natAbs + b.natAbs < 2 ^ K) (h3 : γ.natAbs + c.natAbs < 2 ^ K) : (α = a ∧ β = b ∧ γ = c) ∨ (α = -a ∧ β = -b ∧ γ = -c) := by
  rcases h with h | h
  · left
    have q1 : α - a = 0 := small_zero (h 7) (show (α - a).natAbs < 2 ^ K by omega)
    have q2 : β - b = 0 := small_zero (h 1) (show (β - b).natAbs < 2 ^ K by omega)
    have q3 : γ - c = 0 := small_zero (h 0) (show (γ - c).natAbs < 2 ^ K by omega)
    omega
  · right
    have q1 : α + a = 0 := small_zero (h 7) (show (α + a).natAbs < 2 ^ K by omega)
    have q2 : β + b = 0 := small_zero (h 1) (show (β + b).natAbs < 2 ^ K by omega)
    have q3 : γ + c = 0 := small_zero (h 0) (show (γ + c).natAbs < 2 ^ K by omega)
    omega
theorem sg_zero {α β γ a b c x y w : Int} (h : (α = a ∧ β = b ∧ γ = c) ∨ (α = -a ∧ β = -b ∧ γ = -c)) (h0 : a * x + b * y + c * w = 0) : α * x + β * y + γ * w = 0 := by
  rcases h with ⟨h1, h2, h3⟩ | ⟨h1, h2, h3⟩
  · rw [h1, h2, h3]
    exact h0
  · rw [h1, h2, h3]
    have : -a * x + -b * y + -c * w = -(a * x + b * y + c * w) := by clear h0; grind
    rw [this, h0]
    rfl
theorem sq_le {a : Int} {n : Nat} (h : (a * a).natAbs < n) : a.natAbs < n := by
  rw [Int.natAbs_mul] at h
  by_cases z : a.natAbs = 0
  · omega
  · have := Nat.mul_le_mul (Nat.le_refl a.natAbs) (Nat.one_le_iff_ne_zero.mpr z)
    omega
theorem cu_le {a : Int} {n : Nat} (h : (a * a * a).natAbs < n) : a.natAbs < n := by
  rw [Int.natAbs_mul] at h
  by_cases z : a.natAbs = 0
  · omega
  · have h1 : 1 ≤ (a * a).natAbs := by
      rw [Int.natAbs_mul]
      exact Nat.mul_le_mul (Nat.one_le_iff_ne_zero.mpr z) (Nat.one_le_iff_ne_zero.mpr z)
    have := Nat.mul_le_mul h1 (Nat.le_refl a.natAbs)
    omega
theorem line_zero2 {X Y W : Nat → Int} {f : List Int} {N α β γ : Int} {F : Int → Int} (hm : ∀ i j k, i < 5 → j < 5 → k < 5 → d3 X Y W i j k = 0) (hf : lprim f) (hN : N ≠ 0) (hv : ∀ t, N * evl f t = F2 X Y W (t7 t) t 1) (hF : Pf F) (ho : lodd (lk α β γ)) (h : ∀ t, evl (lk α β γ) t * evl (lk α β γ) t - evl f t = 2 ^ 64 * F t) (be : α.natAbs ≤ 2 ^ 62 ∧ β.natAbs ≤ 2 ^ 62 ∧ γ.natAbs ≤ 2 ^ 62) (bf : ∀ i, (gd f i).natAbs < 2 ^ 60) (i : Nat) (hi : i < 5) : α * X i + β * Y i + γ * W i = 0 := by
  by_cases hx : ∃ i j, i < 5 ∧ j < 5 ∧ ∃ x y w : Int, m3 X Y W x y w i j ≠ 0
  · obtain ⟨a, b, c, hp, hL, μ, hμ⟩ := plane_mu hm hx
    obtain ⟨k, hk⟩ := (plane_F hμ).1
    have hq := cont_eq hf (lprim_mul (lprim_lk hp) (lprim_lk hp)) _ N k (Nat.le_refl _) hN (fun t => by rw [hv t, hk, evl_mul, evl_lk])
    rcases hq with hq | hq
    · have u := evl_uq hq
      have n1 := bf 14
      have n2 := bf 2
      have n3 := bf 0
      rw [u 14] at n1
      rw [u 2] at n2
      rw [u 0] at n3
      have e1 : gd (lmul (lk a b c) (lk a b c)) 14 = a * a := by simp [lk, lmul, ladd, gd]
      have e2 : gd (lmul (lk a b c) (lk a b c)) 2 = b * b := by simp [lk, lmul, ladd, gd]
      have e3 : gd (lmul (lk a b c) (lk a b c)) 0 = c * c := by simp [lk, lmul, ladd, gd]
      rw [e1] at n1
      rw [e2] at n2
      rw [e3] at n3
      have n1 := sq_le n1
      have n2 := sq_le n2
      have n3 := sq_le n3
      have r := uq2 (A := 64) (by decide) hF ho (g := lk a b c) (fun t => by rw [← evl_mul (lk a b c), ← hq t]; exact h t)
      exact sg_zero (near_line (K := 63) r (by omega) (by omega) (by omega)) (hL i hi)
    · exfalso
      obtain ⟨r, hr⟩ := hF
      refine sum_sq (g := lk a b c) ho fun j => ?_
      have u := evl_uq (l := ladd (lmul (lk α β γ) (lk α β γ)) (lmul (lk a b c) (lk a b c))) (m := r.map (fun x => 2 ^ 64 * x)) (fun t => by
        have q1 := hq t
        have q2 := h t
        rw [evl_mul] at q1
        rw [evl_add, evl_mul, evl_mul, evl_map, ← hr t, ← q2]
        omega) j
      rw [u, gd_map]
      exact Int.dvd_trans (pw_le_dvd (i := 1 + 1) (j := 64) (by decide) ⟨1, by rw [Int.mul_one]⟩) (Int.dvd_mul_right _ _)
  · exfalso
    refine lprim_ne hf hN fun t => ?_
    have z : ∀ i j, i < 5 → j < 5 → ∀ x y w : Int, m3 X Y W x y w i j = 0 := fun i j hi hj x y w => Classical.byContradiction fun y' => hx ⟨i, j, hi, hj, x, y, w, y'⟩
    rw [hv t]
    unfold F2
    rw [z 0 1 (by decide) (by decide), z 0 2 (by decide) (by decide)]
    omega
theorem line_zero3 {X Y W : Nat → Int} {f : List Int} {N α β γ : Int} {F : Int → Int} (hm : ∀ i j k, i < 5 → j < 5 → k < 5 → d3 X Y W i j k = 0) (hf : lprim f) (hN : N ≠ 0) (hv : ∀ t, N * evl f t = F3 X Y W (t7 t) t 1) (hF : Pf F) (ho : lodd (lk α β γ)) (h : ∀ t, evl (lk α β γ) t * evl (lk α β γ) t * evl (lk α β γ) t - evl f t = 2 ^ 64 * F t) (be : α.natAbs ≤ 2 ^ 62 ∧ β.natAbs ≤ 2 ^ 62 ∧ γ.natAbs ≤ 2 ^ 62) (bf : ∀ i, (gd f i).natAbs < 2 ^ 60) (i : Nat) (hi : i < 5) : α * X i + β * Y i + γ * W i = 0 := by
  by_cases hx : ∃ i j, i < 5 ∧ j < 5 ∧ ∃ x y w : Int, m3 X Y W x y w i j ≠ 0
  · obtain ⟨a, b, c, hp, hL, μ, hμ⟩ := plane_mu hm hx
    obtain ⟨k, hk⟩ := (plane_F hμ).2.1
    have hq := cont_eq hf (lprim_mul (lprim_mul (lprim_lk hp) (lprim_lk hp)) (lprim_lk hp)) _ N k (Nat.le_refl _) hN (fun t => by rw [hv t, hk, evl_mul, evl_mul, evl_lk])
    have go : ∀ a b c : Int, a * X i + b * Y i + c * W i = 0 → (∀ t, evl f t = evl (lmul (lmul (lk a b c) (lk a b c)) (lk a b c)) t) → α * X i + β * Y i + γ * W i = 0 := fun a b c hL hq => by
      have u := evl_uq hq
      have n1 := bf 21
      have n2 := bf 3
      have n3 := bf 0
      rw [u 21] at n1
      rw [u 3] at n2
      rw [u 0] at n3
      have e1 : gd (lmul (lmul (lk a b c) (lk a b c)) (lk a b c)) 21 = a * a * a := by simp [lk, lmul, ladd, gd]
      have e2 : gd (lmul (lmul (lk a b c) (lk a b c)) (lk a b c)) 3 = b * b * b := by simp [lk, lmul, ladd, gd]
      have e3 : gd (lmul (lmul (lk a b c) (lk a b c)) (lk a b c)) 0 = c * c * c := by simp [lk, lmul, ladd, gd]
      rw [e1] at n1
      rw [e2] at n2
      rw [e3] at n3
      have n1 := cu_le n1
      have n2 := cu_le n2
      have n3 := cu_le n3
      have r := uq3 (A := 64) (e := lk α β γ) (g := lk a b c) rfl hF ho (fun t => by rw [← evl_mul (lk a b c), ← evl_mul _ (lk a b c), ← hq t]; exact h t)
      exact sg_zero (near_line (K := 64) (Or.inl r) (by omega) (by omega) (by omega)) hL
    rcases hq with hq | hq
    · exact go a b c (hL i hi) hq
    · refine go (-a) (-b) (-c) ?_ (fun t => ?_)
      · have e : -a * X i + -b * Y i + -c * W i = -(a * X i + b * Y i + c * W i) := by clear hL hq h; grind
        rw [e, hL i hi]
        rfl
      · rw [hq t, evl_mul, evl_mul, evl_mul, evl_mul, evl_lk, evl_lk]
        clear hL hq h
        grind
  · exfalso
    refine lprim_ne hf hN fun t => ?_
    have z : ∀ i j, i < 5 → j < 5 → ∀ x y w : Int, m3 X Y W x y w i j = 0 := fun i j hi hj x y w => Classical.byContradiction fun y' => hx ⟨i, j, hi, hj, x, y, w, y'⟩
    rw [hv t]
    unfold F3 dd3
    rw [z 0 1 (by decide) (by decide), z 0 2 (by decide) (by decide), z 0 3 (by decide) (by decide)]
    omega
theorem line_zero4 {X Y W : Nat → Int} {f : List Int} {N α β γ : Int} {F : Int → Int} (hm : ∀ i j k, i < 5 → j < 5 → k < 5 → d3 X Y W i j k = 0) (hf : lprim f) (hN : N ≠ 0) (hv : ∀ t, N * evl f t = FF X Y W (t7 t) t 1) (hF : Pf F) (ho : lodd (lk α β γ)) (h : ∀ t, evl (lk α β γ) t * evl (lk α β γ) t * (evl (lk α β γ) t * evl (lk α β γ) t) - evl f t = 2 ^ 64 * F t) (be : α.natAbs ≤ 2 ^ 61 ∧ β.natAbs ≤ 2 ^ 61 ∧ γ.natAbs ≤ 2 ^ 61) (bf : ∀ i, (gd f i).natAbs < 2 ^ 60) (i : Nat) (hi : i < 5) : α * X i + β * Y i + γ * W i = 0 := by
  by_cases hx : ∃ i j, i < 5 ∧ j < 5 ∧ ∃ x y w : Int, m3 X Y W x y w i j ≠ 0
  · obtain ⟨a, b, c, hp, hL, μ, hμ⟩ := plane_mu hm hx
    obtain ⟨k, hk⟩ := (plane_F hμ).2.2
    have hq := cont_eq hf (lprim_mul (lprim_mul (lprim_lk hp) (lprim_lk hp)) (lprim_mul (lprim_lk hp) (lprim_lk hp))) _ N k (Nat.le_refl _) hN (fun t => by rw [hv t, hk, evl_mul, evl_mul, evl_lk])
    rcases hq with hq | hq
    · have u := evl_uq hq
      have n1 := bf 28
      have n2 := bf 4
      have n3 := bf 0
      rw [u 28] at n1
      rw [u 4] at n2
      rw [u 0] at n3
      have e1 : gd (lmul (lmul (lk a b c) (lk a b c)) (lmul (lk a b c) (lk a b c))) 28 = a * a * (a * a) := by simp [lk, lmul, ladd, gd]
      have e2 : gd (lmul (lmul (lk a b c) (lk a b c)) (lmul (lk a b c) (lk a b c))) 4 = b * b * (b * b) := by simp [lk, lmul, ladd, gd]
      have e3 : gd (lmul (lmul (lk a b c) (lk a b c)) (lmul (lk a b c) (lk a b c))) 0 = c * c * (c * c) := by simp [lk, lmul, ladd, gd]
      rw [e1] at n1
      rw [e2] at n2
      rw [e3] at n3
      have n1 := sq_le (sq_le n1)
      have n2 := sq_le (sq_le n2)
      have n3 := sq_le (sq_le n3)
      have r := uq4 (A := 64) (by decide) hF ho (g := lk a b c) (fun t => by rw [← evl_mul (lk a b c), ← evl_mul (lmul (lk a b c) (lk a b c)), ← hq t]; exact h t)
      exact sg_zero (near_line (K := 62) r (by omega) (by omega) (by omega)) (hL i hi)
    · exfalso
      obtain ⟨r, hr⟩ := hF
      refine sum_sq (g := lmul (lk a b c) (lk a b c)) (lodd_sq ho) fun j => ?_
      have u := evl_uq (l := ladd (lmul (lmul (lk α β γ) (lk α β γ)) (lmul (lk α β γ) (lk α β γ))) (lmul (lmul (lk a b c) (lk a b c)) (lmul (lk a b c) (lk a b c)))) (m := r.map (fun x => 2 ^ 64 * x)) (fun t => by
        have q1 := hq t
        have q2 := h t
        rw [evl_add, evl_map, ← hr t, ← q2, evl_mul (lmul (lk α β γ) (lk α β γ)), evl_mul (lk α β γ)]
        omega) j
      rw [u, gd_map]
      exact Int.dvd_trans (pw_le_dvd (i := 1 + 1) (j := 64) (by decide) ⟨1, by rw [Int.mul_one]⟩) (Int.dvd_mul_right _ _)
  · exfalso
    refine lprim_ne hf hN fun t => ?_
    have z : ∀ i j, i < 5 → j < 5 → ∀ x y w : Int, m3 X Y W x y w i j = 0 := fun i j hi hj x y w => Classical.byContradiction fun y' => hx ⟨i, j, hi, hj, x, y, w, y'⟩
    rw [hv t]
    unfold FF
    rw [z 0 1 (by decide) (by decide), z 0 2 (by decide) (by decide), z 0 3 (by decide) (by decide), z 0 4 (by decide) (by decide)]
    unfold dS det4
    grind
end
section
/-! from w = 1 to every w -/
def lsc (w : Int) : List Int → List Int
  | [] => []
  | a :: l => a :: (lsc w l).map (fun x => w * x)
theorem evl_lsc (w : Int) : ∀ (l : List Int) (s : Int), evl (lsc w l) s = evl l (w * s)
  | [], s => rfl
  | a :: l, s => by
    show a + s * evl ((lsc w l).map (fun x => w * x)) s = a + w * s * evl l (w * s)
    rw [evl_map, evl_lsc w l s]
    grind
theorem lsc_zero {w : Int} (hw : w ≠ 0) : ∀ (l : List Int), (∀ i, gd (lsc w l) i = 0) → ∀ i, gd l i = 0
  | [], _, i => rfl
  | a :: l, h, 0 => h 0
  | a :: l, h, i + 1 => by
    refine lsc_zero hw l (fun j => ?_) i
    have h1 : gd ((lsc w l).map (fun x => w * x)) j = 0 := h (j + 1)
    rw [gd_map] at h1
    rcases Int.mul_eq_zero.mp h1 with z | z
    · exact absurd z hw
    · exact z
theorem evl_gd0 : ∀ (l : List Int), (∀ i, gd l i = 0) → ∀ t, evl l t = 0
  | [], _, _ => rfl
  | a :: l, h, t => by
    show a + t * evl l t = 0
    have h0 : a = 0 := h 0
    rw [h0, evl_gd0 l (fun i => h (i + 1)) t]
    omega
theorem van {Q : Int → Int} (hQ : Pf Q) {w : Int} (hw : w ≠ 0) (h : ∀ s, Q (w * s) = 0) (u : Int) : Q u = 0 := by
  obtain ⟨l, hl⟩ := hQ
  have h1 := evl_zero (lsc w l) 0 (fun t _ => by rw [evl_lsc, ← hl, h])
  rw [hl]
  exact evl_gd0 l (lsc_zero hw l h1) u
theorem van1 {Q : Int → Int} (hQ : Pf Q) (h : ∀ s, 1 ≤ s → Q s = 0) (u : Int) : Q u = 0 := by
  obtain ⟨l, hl⟩ := hQ
  have h1 := evl_zero l 1 (fun t ht => by rw [← hl, h t ht])
  rw [hl]
  exact evl_gd0 l h1 u
theorem hom_ext {P : Int → Int → Int → Int} (n : Nat) (px : ∀ y w, Pf (fun x => P x y w)) (py : ∀ x w, Pf (fun y => P x y w)) (pw : ∀ x y, Pf (fun w => P x y w)) (hs : ∀ s x y w, P (s * x) (s * y) (s * w) = s ^ n * P x y w) (h1 : ∀ x y, P x y 1 = 0) (x y w : Int) : P x y w = 0 := by
  refine van1 (pw x y) (fun s hs1 => ?_) w
  have s0 : s ≠ 0 := by omega
  refine van (py x s) s0 (fun y' => ?_) y
  refine van (px (s * y') s) s0 (fun x' => ?_) x
  have := hs s x' y' 1
  rw [Int.mul_one] at this
  rw [this, h1, Int.mul_zero]
theorem Pf.lin (a b : Int) : Pf (fun t => a * t + b) := ((Pf.con a).mul Pf.var).add (Pf.con b)
theorem Pf.con' {F : Int → Int} (c : Int) (h : ∀ t, F t = c) : Pf F := ⟨[c], fun t => by rw [h t]; show c = c + t * 0; omega⟩
theorem pf_m3x (X Y W : Nat → Int) (y w : Int) (i j : Nat) : Pf (fun x => m3 X Y W x y w i j) := (((Pf.var).mul (Pf.con _)).sub (Pf.con _)).add (Pf.con _)
theorem pf_m3y (X Y W : Nat → Int) (x w : Int) (i j : Nat) : Pf (fun y => m3 X Y W x y w i j) := ((Pf.con _).sub ((Pf.var).mul (Pf.con _))).add (Pf.con _)
theorem pf_m3w (X Y W : Nat → Int) (x y : Int) (i j : Nat) : Pf (fun w => m3 X Y W x y w i j) := ((Pf.con _).sub (Pf.con _)).add ((Pf.var).mul (Pf.con _))
theorem pf_F2 {m : Int → Nat → Nat → Int} (h : ∀ i j, Pf (fun t => m t i j)) : Pf (fun t => m t 0 1 * m t 1 2 - m t 0 2 * m t 0 2) := ((h 0 1).mul (h 1 2)).sub ((h 0 2).mul (h 0 2))
theorem pf_dd3 {a b c d e f : Int → Int} (ha : Pf a) (hb : Pf b) (hc : Pf c) (hd : Pf d) (he : Pf e) (hf : Pf f) : Pf (fun t => dd3 (a t) (b t) (c t) (d t) (e t) (f t)) := ((ha.mul ((hd.mul hf).sub (he.mul he))).sub (hb.mul ((hb.mul hf).sub (he.mul hc)))).add (hc.mul ((hb.mul he).sub (hd.mul hc)))
theorem m3_s (X Y W : Nat → Int) (s x y w : Int) (i j : Nat) : m3 X Y W (s * x) (s * y) (s * w) i j = m3 X Y W x y w i j * s := by
  unfold m3
  grind
theorem F2_s (X Y W : Nat → Int) (s x y w : Int) : F2 X Y W (s * x) (s * y) (s * w) = s ^ 2 * F2 X Y W x y w := by
  unfold F2
  simp only [m3_s]
  grind
theorem F3_s (X Y W : Nat → Int) (s x y w : Int) : F3 X Y W (s * x) (s * y) (s * w) = s ^ 3 * F3 X Y W x y w := by
  unfold F3
  simp only [m3_s]
  rw [← Int.add_mul, dd3_h]
  grind
theorem FF_s (X Y W : Nat → Int) (s x y w : Int) : FF X Y W (s * x) (s * y) (s * w) = s ^ 4 * FF X Y W x y w := by
  unfold FF
  simp only [m3_s]
  rw [← Int.add_mul, ← Int.add_mul, ← Int.add_mul, dS_h]
  grind
theorem F2_curve {X Y W : Nat → Int} (h3 : X 3 = 0 ∧ Y 3 = 0 ∧ W 3 = 0) (h4 : X 4 = 0 ∧ Y 4 = 0 ∧ W 4 = 0) (t : Int) : F2 X Y W (pv X t) (pv Y t) (pv W t) = 0 := by
  have e1 : m3 X Y W (pv X t) (pv Y t) (pv W t) 0 1 = t * t * d3 X Y W 0 1 2 := by
    unfold m3 pv d3
    rw [h3.1, h3.2.1, h3.2.2, h4.1, h4.2.1, h4.2.2]
    clear h3 h4
    grind
  have e2 : m3 X Y W (pv X t) (pv Y t) (pv W t) 0 2 = -(t * d3 X Y W 0 1 2) := by
    unfold m3 pv d3
    rw [h3.1, h3.2.1, h3.2.2, h4.1, h4.2.1, h4.2.2]
    clear h3 h4 e1
    grind
  have e3 : m3 X Y W (pv X t) (pv Y t) (pv W t) 1 2 = d3 X Y W 0 1 2 := by
    unfold m3 pv d3
    rw [h3.1, h3.2.1, h3.2.2, h4.1, h4.2.1, h4.2.2]
    clear h3 h4 e1 e2
    grind
  unfold F2
  rw [e1, e2, e3]
  clear e1 e2 e3
  grind
end
section
theorem sq_fac {f : List Int} (hf : lprim f) : ∀ (K : Nat) (N : Int) (G : List Int), N.natAbs ≤ K → N ≠ 0 → (∀ t, N * evl f t = evl G t * evl G t) → ∃ (m : Int) (g : List Int), m ≠ 0 ∧ G = g.map (fun x => m * x) ∧ (N = m * m ∨ N = -(m * m))
  | 0, N, G, h, h0, _ => absurd (Int.natAbs_eq_zero.mp (Nat.le_zero.mp h)) h0
  | K + 1, N, G, h, h0, he => by
    by_cases q : 2 ≤ N.natAbs
    · obtain ⟨p, hp, hd⟩ := irr_ex _ _ (Nat.le_refl _) q
      have hd' : (p : Int) ∣ N := Int.ofNat_dvd_left.mpr hd
      obtain ⟨M, hM⟩ := hd'
      have pp : (p : Int) ≠ 0 := by have := hp.1; omega
      have h1 : ∀ i, (p : Int) ∣ conv G (gd G) i := prod_dvd (F := fun t => M * evl f t) ((Pf.con M).mul (Pf_evl f)) (fun t => by rw [← he t, hM, Int.mul_assoc])
      obtain ⟨d, hl, hdG⟩ := div_ls G (all_p hp h1)
      have e1 : ∀ t, M * evl f t = p * (evl d t * evl d t) := fun t => by
        apply Int.eq_of_mul_eq_mul_left pp
        have := he t
        rw [hdG, evl_map, hM] at this
        rw [← Int.mul_assoc, this]
        clear this he h1
        grind
      obtain ⟨j, hj⟩ := hf p hp
      have e2 : (p : Int) ∣ M := by
        have u := evl_uq (l := f.map (fun x => M * x)) (m := (lmul d d).map (fun x => p * x)) (fun t => by rw [evl_map, evl_map, evl_mul, e1 t]) j
        rw [gd_map, gd_map] at u
        exact hp.pm ⟨_, u⟩ hj
      obtain ⟨M2, hM2⟩ := e2
      have e3 : ∀ t, M2 * evl f t = evl d t * evl d t := fun t => by
        apply Int.eq_of_mul_eq_mul_left pp
        rw [← e1 t, hM2, Int.mul_assoc]
      have hM20 : M2 ≠ 0 := fun z => h0 (by rw [hM, hM2, z]; omega)
      have hlt : M2.natAbs ≤ K := by
        have hp2 := hp.1
        have e4 : N.natAbs = p * (p * M2.natAbs) := by
          rw [hM, hM2, Int.natAbs_mul, Int.natAbs_mul]
          rfl
        have e5 : 2 * (2 * M2.natAbs) ≤ p * (p * M2.natAbs) := Nat.mul_le_mul hp2 (Nat.mul_le_mul hp2 (Nat.le_refl _))
        have : M2.natAbs ≠ 0 := fun z => hM20 (Int.natAbs_eq_zero.mp z)
        omega
      obtain ⟨m, g, hm, hg1, hg2⟩ := sq_fac hf K M2 d hlt hM20 e3
      refine ⟨p * m, g, fun z => ?_, ?_, ?_⟩
      · rcases Int.mul_eq_zero.mp z with y | y
        · exact pp y
        · exact hm y
      · rw [hdG, hg1, List.map_map]
        exact List.map_congr_left (fun x _ => by
          show (p : Int) * (m * x) = p * m * x
          rw [Int.mul_assoc])
      · rw [hM, hM2]
        rcases hg2 with z | z
        · left
          rw [z]
          clear he h1 e1 e3
          grind
        · right
          rw [z]
          clear he h1 e1 e3
          grind
    · refine ⟨1, G, by decide, ?_, by omega⟩
      have : G.map (fun x => 1 * x) = G.map id := List.map_congr_left (fun x _ => Int.one_mul x)
      rw [this, List.map_id]
def lq (e : Nat → Int) : List Int := [e 5, e 4, e 2, 0, 0, 0, 0, e 3, e 1, 0, 0, 0, 0, 0, e 0]
theorem evl_lq (e : Nat → Int) (t : Int) : evl (lq e) t = cE e (t7 t) t 1 := by
  unfold lq cE t7
  simp only [evl]
  grind
theorem Pf_t7 : Pf t7 := Pf.var.mul (Pf.var.mul (Pf.var.mul (Pf.var.mul (Pf.var.mul (Pf.var.mul Pf.var)))))
theorem Pf_q7 (G : Nat → Int) : Pf (fun t => qg G (t7 t) t 1) := by
  unfold qg
  repeat (first | exact Pf_t7 | exact Pf.var | exact Pf.con _ | apply Pf.add | apply Pf.mul)
theorem sqb {a s r : Int} {n : Nat} (h : s = a * a + 2 * r) (hs : s.natAbs < 2 ^ 60) (hr : r.natAbs < 2 ^ 60) : a.natAbs < 2 ^ 31 := by
  apply Nat.lt_of_not_le
  intro z
  have h1 : 2 ^ 31 * 2 ^ 31 ≤ a.natAbs * a.natAbs := Nat.mul_le_mul z z
  rw [← Int.natAbs_mul] at h1
  generalize a * a = y at *
  omega
theorem sqs {a : Int} (h : (a * a).natAbs < 2 ^ 60) : a.natAbs < 2 ^ 30 := by
  apply Nat.lt_of_not_le
  intro z
  have h1 : 2 ^ 30 * 2 ^ 30 ≤ a.natAbs * a.natAbs := Nat.mul_le_mul z z
  rw [← Int.natAbs_mul] at h1
  generalize a * a = y at *
  omega
theorem prb {a b : Int} (h : a.natAbs < 2 ^ 30) (h2 : b.natAbs < 2 ^ 30) : (a * b).natAbs < 2 ^ 60 := by
  rw [Int.natAbs_mul]
  have := Nat.mul_le_mul (Nat.le_of_lt_succ (Nat.lt_succ_of_lt h)) (Nat.le_of_lt_succ (Nat.lt_succ_of_lt h2))
  by_cases q : a.natAbs = 0
  · rw [q]
    omega
  · have := Nat.mul_lt_mul_of_lt_of_le h (Nat.le_of_lt h2) (by omega)
    omega
theorem lq_bound {q : Nat → Int} (h : ∀ i, (gd (lmul (lq q) (lq q)) i).natAbs < 2 ^ 60) : ∀ i, i < 6 → (q i).natAbs < 2 ^ 31 := by
  have e28 : gd (lmul (lq q) (lq q)) 28 = q 0 * q 0 := by simp [lq, lmul, ladd, gd]
  have e4 : gd (lmul (lq q) (lq q)) 4 = q 2 * q 2 := by simp [lq, lmul, ladd, gd]
  have e0 : gd (lmul (lq q) (lq q)) 0 = q 5 * q 5 := by simp [lq, lmul, ladd, gd]
  have e16 : gd (lmul (lq q) (lq q)) 16 = q 1 * q 1 + 2 * (q 0 * q 2) := by
    simp [lq, lmul, ladd, gd]
    grind
  have e14 : gd (lmul (lq q) (lq q)) 14 = q 3 * q 3 + 2 * (q 0 * q 5) := by
    simp [lq, lmul, ladd, gd]
    grind
  have e2 : gd (lmul (lq q) (lq q)) 2 = q 4 * q 4 + 2 * (q 2 * q 5) := by
    simp [lq, lmul, ladd, gd]
    grind
  have h28 := h 28
  have h4 := h 4
  have h0 := h 0
  rw [e28] at h28
  rw [e4] at h4
  rw [e0] at h0
  have b0 := sqs h28
  have b2 := sqs h4
  have b5 := sqs h0
  have b1 := sqb (n := 0) e16 (h 16) (prb b0 b2)
  have b3 := sqb (n := 0) e14 (h 14) (prb b0 b5)
  have b4 := sqb (n := 0) e2 (h 2) (prb b2 b5)
  intro i hi
  match i, hi with
  | 0, _ => omega
  | 1, _ => exact b1
  | 2, _ => omega
  | 3, _ => exact b3
  | 4, _ => exact b4
  | 5, _ => omega
end
section
theorem cE_mul {Q q : Nat → Int} {m : Int} (h : ∀ i, i < 6 → Q i = m * q i) (x y w : Int) : cE Q x y w = m * cE q x y w := by
  unfold cE
  rw [h 0 (by decide), h 1 (by decide), h 2 (by decide), h 3 (by decide), h 4 (by decide), h 5 (by decide)]
  clear h
  grind
theorem mm_mul (m a : Int) : m * a * (m * a) = m * m * (a * a) := by grind
theorem lq_div {Q : Nat → Int} {m : Int} {g : List Int} (hg : lq Q = g.map (fun x => m * x)) : ∃ q : Nat → Int, ∀ i, i < 6 → Q i = m * q i := by
  have k : ∀ i, gd (lq Q) i = m * gd g i := fun i => by rw [hg, gd_map]
  refine ⟨fun i => if i = 0 then gd g 14 else if i = 1 then gd g 8 else if i = 2 then gd g 2 else if i = 3 then gd g 7 else if i = 4 then gd g 1 else gd g 0, fun i hi => ?_⟩
  match i, hi with
  | 0, _ => exact k 14
  | 1, _ => exact k 8
  | 2, _ => exact k 2
  | 3, _ => exact k 7
  | 4, _ => exact k 1
  | 5, _ => exact k 0
theorem lq_near {e q : Nat → Int} {s : Int} (hs1 : s = 1 ∨ s = -1) (be : ∀ i, i < 6 → (e i).natAbs ≤ 2 ^ 62) (bq : ∀ i, i < 6 → (q i).natAbs < 2 ^ 31) (hd : ∀ i, (2 ^ 63 : Int) ∣ gd (lq e) i - s * gd (lq q) i) : ∀ i, i < 6 → e i = s * q i := by
  have k : ∀ {i j}, j < 6 → gd (lq e) i = e j → gd (lq q) i = q j → e j = s * q j := fun {i j} hj e1 e2 => by
    have d := hd i
    rw [e1, e2] at d
    have b1 := be j hj
    have b2 := bq j hj
    have z : e j - s * q j = 0 := small_zero d (by
      clear d hd be bq e1 e2
      rcases hs1 with y | y <;> rw [y] <;> omega)
    clear d hd be bq e1 e2
    omega
  intro i hi
  match i, hi with
  | 0, _ => exact k (i := 14) (by decide) rfl rfl
  | 1, _ => exact k (i := 8) (by decide) rfl rfl
  | 2, _ => exact k (i := 2) (by decide) rfl rfl
  | 3, _ => exact k (i := 7) (by decide) rfl rfl
  | 4, _ => exact k (i := 1) (by decide) rfl rfl
  | 5, _ => exact k (i := 0) (by decide) rfl rfl
end
section
theorem conic_zero {X Y W e G Q : Nat → Int} {c N : Int} {f : List Int} (hS : SQ X Y W e G c) (hc : c ≠ 0) (hN : N ≠ 0) (hQ : ∀ x y w : Int, N * FF X Y W x y w = cE Q x y w * cE Q x y w) (hf : lprim f) (hv : ∀ t, evl f t = cE e (t7 t) t 1 * cE e (t7 t) t 1 - 2 ^ 64 * qg G (t7 t) t 1) (bf : ∀ i, (gd f i).natAbs < 2 ^ 60) (be : ∀ i, i < 6 → (e i).natAbs ≤ 2 ^ 62) (ho : lodd (lq e)) (t : Int) : cE e (pv X t) (pv Y t) (pv W t) = 0 := by
  have hNc : N * c ≠ 0 := fun z => by
    rcases Int.mul_eq_zero.mp z with y | y
    · exact hN y
    · exact hc y
  have h1 : ∀ t, N * c * evl f t = evl (lq Q) t * evl (lq Q) t := fun t => by
    rw [evl_lq, ← hQ, hS, hv t, Int.mul_assoc]
  obtain ⟨m, g, hm, hg, hs⟩ := sq_fac hf _ (N * c) (lq Q) (Nat.le_refl _) hNc h1
  obtain ⟨q, hq⟩ : ∃ q : Nat → Int, ∀ i, i < 6 → Q i = m * q i := by
    have k : ∀ i, gd (lq Q) i = m * gd g i := fun i => by rw [hg, gd_map]
    refine ⟨fun i => match i with | 0 => gd g 14 | 1 => gd g 8 | 2 => gd g 2 | 3 => gd g 7 | 4 => gd g 1 | _ => gd g 0, fun i hi => ?_⟩
    match i, hi with
    | 0, _ => exact k 14
    | 1, _ => exact k 8
    | 2, _ => exact k 2
    | 3, _ => exact k 7
    | 4, _ => exact k 1
    | 5, _ => exact k 0
  have hmm : m * m ≠ 0 := fun z => by
    rcases Int.mul_eq_zero.mp z with y | y <;> exact hm y
  have h2 : ∀ t, N * c * evl f t = m * m * (evl (lq q) t * evl (lq q) t) := fun t => by
    rw [h1 t, evl_lq, evl_lq, cE_mul hq]
    clear hS hQ hv h1 hg hq
    grind
  have hz : cE q (pv X t) (pv Y t) (pv W t) = 0 := by
    have h3 := hQ (pv X t) (pv Y t) (pv W t)
    rw [FF_g, Int.mul_zero, cE_mul hq] at h3
    rcases Int.mul_eq_zero.mp h3.symm with y | y <;> rcases Int.mul_eq_zero.mp y with y | y
    · exact absurd y hm
    · exact y
    · exact absurd y hm
    · exact y
  have hsq : ∀ t, evl f t = evl (lq q) t * evl (lq q) t := by
    rcases hs with z | z
    · intro t
      apply Int.eq_of_mul_eq_mul_left hmm
      rw [← h2 t, z]
    · exfalso
      have h4 : ∀ t, evl f t = -(evl (lq q) t * evl (lq q) t) := fun t => by
        apply Int.eq_of_mul_eq_mul_left hmm
        have := h2 t
        rw [z, Int.neg_mul] at this
        rw [Int.mul_neg, ← this, Int.neg_neg]
      obtain ⟨r, hr⟩ := Pf_q7 G
      refine sum_sq (g := lq q) ho fun j => ?_
      have u := evl_uq (l := ladd (lmul (lq e) (lq e)) (lmul (lq q) (lq q))) (m := r.map (fun x => 2 ^ 64 * x)) (fun t => by
        have q1 := h4 t
        have q2 := hv t
        have q3 : qg G (t7 t) t 1 = evl r t := hr t
        rw [evl_add, evl_mul, evl_mul, evl_map, ← q3, evl_lq e]
        clear hS hQ hv h1 h2 hg
        omega) j
      rw [u, gd_map]
      exact Int.dvd_trans (pw_le_dvd (i := 1 + 1) (j := 64) (by decide) ⟨1, by rw [Int.mul_one]⟩) (Int.dvd_mul_right _ _)
  have bq : ∀ i, i < 6 → (q i).natAbs < 2 ^ 31 := lq_bound fun i => by
    have u := evl_uq (l := f) (m := lmul (lq q) (lq q)) (fun t => by rw [evl_mul]; exact hsq t) i
    rw [← u]
    exact bf i
  have r := uq2 (A := 64) (by decide) (Pf_q7 G) ho (g := lq q) (fun t => by
    rw [← hsq t, hv t, evl_lq]
    omega)
  have fin : ∀ s : Int, (s = 1 ∨ s = -1) → (∀ i, (2 ^ 63 : Int) ∣ gd (lq e) i - s * gd (lq q) i) → cE e (pv X t) (pv Y t) (pv W t) = 0 := fun s hs1 hd => by
    have k : ∀ {i j}, j < 6 → gd (lq e) i = e j → gd (lq q) i = q j → e j = s * q j := fun {i j} hj e1 e2 => by
      have d := hd i
      rw [e1, e2] at d
      have b1 := be j hj
      have b2 := bq j hj
      have : e j - s * q j = 0 := small_zero d (by rcases hs1 with y | y <;> rw [y] <;> omega)
      omega
    rw [cE_mul (q := q) (m := s) (fun i hi => by
      match i, hi with
      | 0, _ => exact k (i := 14) (by decide) rfl rfl
      | 1, _ => exact k (i := 8) (by decide) rfl rfl
      | 2, _ => exact k (i := 2) (by decide) rfl rfl
      | 3, _ => exact k (i := 7) (by decide) rfl rfl
      | 4, _ => exact k (i := 1) (by decide) rfl rfl
      | 5, _ => exact k (i := 0) (by decide) rfl rfl), hz, Int.mul_zero]
  rcases r with r | r
  · exact fin 1 (Or.inl rfl) (fun i => by rw [Int.one_mul]; exact r i)
  · exact fin (-1) (Or.inr rfl) (fun i => by
      have e1 : gd (lq e) i - -1 * gd (lq q) i = gd (lq e) i + gd (lq q) i := by omega
      rw [e1]
      exact r i)
end
section
/-- a product of two linear forms is a form -/
theorem form2 (p q r s u v : Int) : ∃ Q : Nat → Int, ∀ x y w : Int, (p * x + q * y + r * w) * (s * x + u * y + v * w) = cE Q x y w := by
  refine ⟨fun i => match i with | 0 => p * s | 1 => p * u + q * s | 2 => q * u | 3 => p * v + r * s | 4 => q * v + r * u | _ => r * v, fun x y w => ?_⟩
  unfold cE
  show _ = p * s * (x * x) + (p * u + q * s) * (x * y) + q * u * (y * y) + (p * v + r * s) * (x * w) + (q * v + r * u) * (y * w) + r * v * (w * w)
  grind
def Fm (F : Int → Int → Int → Int) : Prop := ∃ Q : Nat → Int, ∀ x y w : Int, F x y w = cE Q x y w
theorem Fm.add {F G : Int → Int → Int → Int} (h1 : Fm F) (h2 : Fm G) : Fm (fun x y w => F x y w + G x y w) := by
  obtain ⟨P, hP⟩ := h1
  obtain ⟨Q, hQ⟩ := h2
  refine ⟨fun i => P i + Q i, fun x y w => ?_⟩
  show F x y w + G x y w = _
  rw [hP, hQ]
  unfold cE
  grind
theorem Fm.sc {F : Int → Int → Int → Int} (k : Int) (h1 : Fm F) : Fm (fun x y w => k * F x y w) := by
  obtain ⟨P, hP⟩ := h1
  refine ⟨fun i => k * P i, fun x y w => ?_⟩
  show k * F x y w = _
  rw [hP]
  unfold cE
  grind
theorem Fm_mm (X Y W : Nat → Int) (i j k l : Nat) : Fm (fun x y w => m3 X Y W x y w i j * m3 X Y W x y w k l) := by
  obtain ⟨Q, hQ⟩ := form2 (Y i * W j - Y j * W i) (-(X i * W j - X j * W i)) (X i * Y j - X j * Y i) (Y k * W l - Y l * W k) (-(X k * W l - X l * W k)) (X k * Y l - X l * Y k)
  refine ⟨Q, fun x y w => ?_⟩
  rw [← hQ]
  unfold m3
  clear hQ
  grind
end
section
theorem Fm_GG0 (X Y W : Nat → Int) : Fm (fun x y w => GG0 X Y W x y w) := by
  obtain ⟨Q, hQ⟩ := ((((Fm_mm X Y W 0 1 1 2).sc ((-(4 * d3 X Y W 0 1 2 * d3 X Y W 0 2 3) + 3 * d3 X Y W 0 1 3 * d3 X Y W 0 1 3) * (-(4 * d3 X Y W 0 1 2 * d3 X Y W 0 2 3) + 3 * d3 X Y W 0 1 3 * d3 X Y W 0 1 3) * ((2 * d3 X Y W 0 1 2) * (2 * d3 X Y W 0 1 2) * (2 * d3 X Y W 0 1 2) * (2 * d3 X Y W 0 1 2)))).add ((Fm_mm X Y W 0 2 0 2).sc (-((-(4 * d3 X Y W 0 1 2 * d3 X Y W 0 2 3) + 3 * d3 X Y W 0 1 3 * d3 X Y W 0 1 3) * (-(4 * d3 X Y W 0 1 2 * d3 X Y W 0 2 3) + 3 * d3 X Y W 0 1 3 * d3 X Y W 0 1 3) * ((2 * d3 X Y W 0 1 2) * (2 * d3 X Y W 0 1 2) * (2 * d3 X Y W 0 1 2) * (2 * d3 X Y W 0 1 2)))))).add ((Fm_mm X Y W 0 1 0 2).sc ((-(4 * d3 X Y W 0 1 2 * d3 X Y W 0 2 3) + 3 * d3 X Y W 0 1 3 * d3 X Y W 0 1 3) * (-(4 * d3 X Y W 0 1 2 * d3 X Y W 0 2 3) + 3 * d3 X Y W 0 1 3 * d3 X Y W 0 1 3) * (2 * d3 X Y W 0 1 3 * ((2 * d3 X Y W 0 1 2) * (2 * d3 X Y W 0 1 2) * (2 * d3 X Y W 0 1 2)))))).add ((Fm_mm X Y W 0 1 0 1).sc ((-(4 * d3 X Y W 0 1 2 * d3 X Y W 0 2 3) + 3 * d3 X Y W 0 1 3 * d3 X Y W 0 1 3) * (-(4 * d3 X Y W 0 1 2 * d3 X Y W 0 2 3) + 3 * d3 X Y W 0 1 3 * d3 X Y W 0 1 3) * ((2 * -(4 * d3 X Y W 0 1 2 * d3 X Y W 0 2 3) + 3 * d3 X Y W 0 1 3 * d3 X Y W 0 1 3) * ((2 * d3 X Y W 0 1 2) * (2 * d3 X Y W 0 1 2)))))
  refine ⟨Q, fun x y w => ?_⟩
  show GG0 X Y W x y w = cE Q x y w
  rw [← hQ]
  dsimp only
  unfold GG0
  clear hQ
  generalize -(4 * d3 X Y W 0 1 2 * d3 X Y W 0 2 3) = B
  generalize d3 X Y W 0 1 3 = T
  generalize 2 * d3 X Y W 0 1 2 = P
  generalize m3 X Y W x y w 0 1 = a
  generalize m3 X Y W x y w 0 2 = b
  generalize m3 X Y W x y w 1 2 = c
  generalize (B + 3 * T * T) * (B + 3 * T * T) = K
  grind
end
section
theorem dS_even (a b c : Int) : dS 0 a 0 b 0 b 0 0 c 0 = (a * c - b * b) * (a * c - b * b) := by
  unfold dS det4
  grind
theorem m3_z {X Y W : Nat → Int} {i j : Nat} (h : (X i = 0 ∧ Y i = 0 ∧ W i = 0) ∨ (X j = 0 ∧ Y j = 0 ∧ W j = 0)) (x y w : Int) : m3 X Y W x y w i j = 0 := by
  unfold m3
  rcases h with ⟨h1, h2, h3⟩ | ⟨h1, h2, h3⟩ <;> rw [h1, h2, h3] <;> clear h1 h2 h3 <;> grind
theorem FF_even {X Y W : Nat → Int} (h1 : X 1 = 0 ∧ Y 1 = 0 ∧ W 1 = 0) (h3 : X 3 = 0 ∧ Y 3 = 0 ∧ W 3 = 0) (x y w : Int) : FF X Y W x y w = (m3 X Y W x y w 0 2 * m3 X Y W x y w 2 4 - m3 X Y W x y w 0 4 * m3 X Y W x y w 0 4) * (m3 X Y W x y w 0 2 * m3 X Y W x y w 2 4 - m3 X Y W x y w 0 4 * m3 X Y W x y w 0 4) := by
  unfold FF
  rw [m3_z (i := 0) (j := 1) (Or.inr h1), m3_z (i := 0) (j := 3) (Or.inr h3), m3_z (i := 1) (j := 2) (Or.inl h1), m3_z (i := 1) (j := 3) (Or.inl h1), m3_z (i := 1) (j := 4) (Or.inl h1), m3_z (i := 2) (j := 3) (Or.inr h3), m3_z (i := 3) (j := 4) (Or.inl h3)]
  rw [Int.add_zero, Int.add_zero, dS_even]
theorem pw16n {P : Int} (h : P ≠ 0) : (2 * P) ^ 16 ≠ 0 := fun z => by
  have : 2 * P ≠ 0 := by omega
  exact Int.pow_ne_zero this z
/-- the conic's end: a root mod 2 ^ 64 is nothing on the curve -/
theorem conic_end {X Y W e G : Nat → Int} {c : Int} {f : List Int} (hS : SQ X Y W e G c) (hc : c ≠ 0) (he : ∃ i, i < 6 ∧ e i % 2 = 1) (h7 : b7 X Y W) (hp : ∃ i j k, i < 5 ∧ j < 5 ∧ k < 5 ∧ d3 X Y W i j k ≠ 0) (hf : lprim f) (hv : ∀ t, evl f t = cE e (t7 t) t 1 * cE e (t7 t) t 1 - 2 ^ 64 * qg G (t7 t) t 1) (bf : ∀ i, (gd f i).natAbs < 2 ^ 60) (be : ∀ i, i < 6 → (e i).natAbs ≤ 2 ^ 62) (ho : lodd (lq e)) (t : Int) : cE e (pv X t) (pv Y t) (pv W t) = 0 := by
  rcases conic_all hS hc he h7 hp with ⟨z1, z2⟩ | ⟨z1, z2⟩ | z | ⟨a1, a2, a3, a4, a5, a6⟩
  · obtain ⟨Q, hQ⟩ := Fm_GG0 X Y W
    exact conic_zero hS hc (pw16n z1) (fun x y w => by rw [truth012 z2, ← hQ]) hf hv bf be ho t
  · obtain ⟨Q, hQ⟩ := Fm_GG0 (rv X) (rv Y) (rv W)
    exact conic_zero hS hc (pw16n z1) (fun x y w => by rw [← FF_rv, truth012 z2, ← hQ]) hf hv bf be ho t
  · exfalso
    exact lprim_ne hf hc (fun t => by rw [hv t, ← hS, z])
  · obtain ⟨Q, hQ⟩ := (Fm_mm X Y W 0 2 2 4).add ((Fm_mm X Y W 0 4 0 4).sc (-1))
    refine conic_zero (N := 1) (Q := Q) hS hc (by decide) (fun x y w => ?_) hf hv bf be ho t
    rw [Int.one_mul, FF_even ⟨a1, a2, a3⟩ ⟨a4, a5, a6⟩, ← hQ]
    dsimp only
    have e1 : m3 X Y W x y w 0 2 * m3 X Y W x y w 2 4 + -1 * (m3 X Y W x y w 0 4 * m3 X Y W x y w 0 4) = m3 X Y W x y w 0 2 * m3 X Y W x y w 2 4 - m3 X Y W x y w 0 4 * m3 X Y W x y w 0 4 := by omega
    rw [e1]
end
section
theorem F3_ring (t a b c d : Int) : dd3 (t * t * a + t * t * t * b) (-(t * a) + t * t * t * c) (-(t * b) - t * t * c) (-(t * b) - t * t * c + (a + t * t * t * d)) (b - t * t * d) (c + t * d) = 0 := by
  unfold dd3
  grind
theorem F3_curve {X Y W : Nat → Int} (h4 : X 4 = 0 ∧ Y 4 = 0 ∧ W 4 = 0) (t : Int) : F3 X Y W (pv X t) (pv Y t) (pv W t) = 0 := by
  have e1 : m3 X Y W (pv X t) (pv Y t) (pv W t) 0 1 = t * t * d3 X Y W 0 1 2 + t * t * t * d3 X Y W 0 1 3 := by
    unfold m3 pv d3
    rw [h4.1, h4.2.1, h4.2.2]
    clear h4
    grind
  have e2 : m3 X Y W (pv X t) (pv Y t) (pv W t) 0 2 = -(t * d3 X Y W 0 1 2) + t * t * t * d3 X Y W 0 2 3 := by
    unfold m3 pv d3
    rw [h4.1, h4.2.1, h4.2.2]
    clear h4 e1
    grind
  have e3 : m3 X Y W (pv X t) (pv Y t) (pv W t) 0 3 = -(t * d3 X Y W 0 1 3) - t * t * d3 X Y W 0 2 3 := by
    unfold m3 pv d3
    rw [h4.1, h4.2.1, h4.2.2]
    clear h4 e1 e2
    grind
  have e4 : m3 X Y W (pv X t) (pv Y t) (pv W t) 1 2 = d3 X Y W 0 1 2 + t * t * t * d3 X Y W 1 2 3 := by
    unfold m3 pv d3
    rw [h4.1, h4.2.1, h4.2.2]
    clear h4 e1 e2 e3
    grind
  have e5 : m3 X Y W (pv X t) (pv Y t) (pv W t) 1 3 = d3 X Y W 0 1 3 - t * t * d3 X Y W 1 2 3 := by
    unfold m3 pv d3
    rw [h4.1, h4.2.1, h4.2.2]
    clear h4 e1 e2 e3 e4
    grind
  have e6 : m3 X Y W (pv X t) (pv Y t) (pv W t) 2 3 = d3 X Y W 0 2 3 + t * d3 X Y W 1 2 3 := by
    unfold m3 pv d3
    rw [h4.1, h4.2.1, h4.2.2]
    clear h4 e1 e2 e3 e4 e5
    grind
  unfold F3
  rw [e1, e2, e3, e4, e5, e6]
  exact F3_ring ..
end
section
/-! the line's join: minors 0 by size -/
theorem minors0 {m : Nat} {a b c : Int} {X Y W : Nat → Int} (ho : a % 2 = 1 ∨ b % 2 = 1 ∨ c % 2 = 1) (h : ∀ i, i < 5 → (2 ^ m : Int) ∣ a * X i + b * Y i + c * W i) (hb : ∀ i j k, i < 5 → j < 5 → k < 5 → (d3 X Y W i j k).natAbs < 2 ^ m) : ∀ i j k, i < 5 → j < 5 → k < 5 → d3 X Y W i j k = 0 := fun i j k hi hj hk => small_zero (line_minor ho h hi hj hk) (hb i j k hi hj hk)
theorem lodd_lk {a b c : Int} (h : lodd (lk a b c)) : a % 2 = 1 ∨ b % 2 = 1 ∨ c % 2 = 1 := by
  obtain ⟨j, hj⟩ := h
  match j with
  | 0 => exact Or.inr (Or.inr hj)
  | 1 => exact Or.inr (Or.inl hj)
  | 2 => exact absurd (show (0 : Int) % 2 = 1 from hj) (by decide)
  | 3 => exact absurd (show (0 : Int) % 2 = 1 from hj) (by decide)
  | 4 => exact absurd (show (0 : Int) % 2 = 1 from hj) (by decide)
  | 5 => exact absurd (show (0 : Int) % 2 = 1 from hj) (by decide)
  | 6 => exact absurd (show (0 : Int) % 2 = 1 from hj) (by decide)
  | 7 => exact Or.inl hj
  | j + 8 => exact absurd (show (0 : Int) % 2 = 1 from hj) (by decide)
end
