/-! two polynomials of degree 4: the numbers of their remainders, by 2x2 minors -/
def mn (f g : Nat → Int) (i j : Nat) : Int := f i * g j - f j * g i
def T1 (f g : Nat → Int) : Nat → Int := fun i => g 4 * f i - f 4 * g i
def T1b (f g : Nat → Int) : Nat → Int := fun i => T1 f g 3 * g i - g 4 * sh (T1 f g) i
def S2 (f g : Nat → Int) : Nat → Int := fun i => match i with
  | 0 => T1 f g 3 * mn f g 0 3 - T1 f g 2 * T1 f g 0
  | 1 => T1 f g 3 * (T1 f g 0 + mn f g 1 3) - T1 f g 2 * T1 f g 1
  | 2 => T1 f g 3 * (T1 f g 1 + mn f g 2 3) - T1 f g 2 * T1 f g 2
  | _ + 3 => 0
def T2b (f g : Nat → Int) : Nat → Int := fun i => S2 f g 2 * T1 f g i - T1 f g 3 * sh (S2 f g) i
def uu (f g : Nat → Int) : Int := T1 f g 3 * ((T1 f g 1 + mn f g 2 3) * (mn f g 0 3 + mn f g 1 2) - (T1 f g 0 + mn f g 1 3) * (T1 f g 0 + mn f g 1 3)) - T1 f g 2 * (T1 f g 2 * (mn f g 0 3 + mn f g 1 2) - (T1 f g 0 + mn f g 1 3) * T1 f g 1) + T1 f g 1 * (T1 f g 2 * (T1 f g 0 + mn f g 1 3) - (T1 f g 1 + mn f g 2 3) * T1 f g 1)
def ww (f g : Nat → Int) : Int := T1 f g 3 * ((T1 f g 1 + mn f g 2 3) * mn f g 0 2 - mn f g 0 3 * (T1 f g 0 + mn f g 1 3)) - T1 f g 2 * (T1 f g 2 * mn f g 0 2 - mn f g 0 3 * T1 f g 1) + T1 f g 0 * (T1 f g 2 * (T1 f g 0 + mn f g 1 3) - (T1 f g 1 + mn f g 2 3) * T1 f g 1)
def S1 (f g : Nat → Int) : Nat → Int := fun i => match i with
  | 0 => ww f g
  | 1 => uu f g
  | _ + 2 => 0
def T3b (f g : Nat → Int) : Nat → Int := fun i => S1 f g 1 * S2 f g i - S2 f g 2 * sh (S1 f g) i
/-! identities -/
theorem pk_m12 (f g : Nat → Int) : T1 f g 3 * mn f g 1 2 = T1 f g 2 * mn f g 1 3 - T1 f g 1 * mn f g 2 3 := by
  unfold T1 mn
  grind
theorem pk_m02 (f g : Nat → Int) : T1 f g 3 * mn f g 0 2 = T1 f g 2 * mn f g 0 3 - T1 f g 0 * mn f g 2 3 := by
  unfold T1 mn
  grind
theorem pk_g (f g : Nat → Int) (i : Nat) : T1 f g 3 * g i - T1 f g i * g 3 = -(g 4 * mn f g i 3) := by
  unfold T1 mn
  grind
theorem T1_4 (f g : Nat → Int) : T1 f g 4 = 0 := by
  unfold T1
  grind
theorem T1_hi {f g : Nat → Int} (hf : ∀ i, 4 < i → f i = 0) (hg : ∀ i, 4 < i → g i = 0) : ∀ i, 3 < i → T1 f g i = 0 := fun i hi => by
  by_cases e : i = 4
  · rw [e]; exact T1_4 f g
  · unfold T1
    rw [hf i (by omega), hg i (by omega), Int.mul_zero, Int.mul_zero]
    rfl
theorem T1b_hi {f g : Nat → Int} (hf : ∀ i, 4 < i → f i = 0) (hg : ∀ i, 4 < i → g i = 0) : ∀ i, 3 < i → T1b f g i = 0 := fun i hi => by
  obtain ⟨k, rfl⟩ : ∃ k, i = k + 1 := ⟨i - 1, by omega⟩
  show T1 f g 3 * g (k + 1) - g 4 * T1 f g k = 0
  by_cases e : k = 3
  · rw [e, Int.mul_comm]; exact Int.sub_self _
  · rw [hg (k + 1) (by omega), T1_hi hf hg k (by omega), Int.mul_zero, Int.mul_zero]
    rfl
theorem E4 {f g : Nat → Int} (hf : ∀ i, 4 < i → f i = 0) (hg : ∀ i, 4 < i → g i = 0) (i : Nat) : T1 f g 3 * T1b f g i - T1b f g 3 * T1 f g i = -(g 4) * S2 f g i := by
  match i with
  | 0 =>
    have h := pk_g f g 0
    show T1 f g 3 * (T1 f g 3 * g 0 - g 4 * 0) - (T1 f g 3 * g 3 - g 4 * T1 f g 2) * T1 f g 0 = -(g 4) * (T1 f g 3 * mn f g 0 3 - T1 f g 2 * T1 f g 0)
    generalize T1 f g 0 = q0 at *
    generalize T1 f g 2 = q2 at *
    generalize T1 f g 3 = q3 at *
    generalize mn f g 0 3 = n03 at *
    generalize g 0 = x0 at *
    generalize g 3 = x3 at *
    generalize g 4 = x4 at *
    grind
  | 1 =>
    have h := pk_g f g 1
    show T1 f g 3 * (T1 f g 3 * g 1 - g 4 * T1 f g 0) - (T1 f g 3 * g 3 - g 4 * T1 f g 2) * T1 f g 1 = -(g 4) * (T1 f g 3 * (T1 f g 0 + mn f g 1 3) - T1 f g 2 * T1 f g 1)
    generalize T1 f g 0 = q0 at *
    generalize T1 f g 1 = q1 at *
    generalize T1 f g 2 = q2 at *
    generalize T1 f g 3 = q3 at *
    generalize mn f g 1 3 = n13 at *
    generalize g 1 = x1 at *
    generalize g 3 = x3 at *
    generalize g 4 = x4 at *
    grind
  | 2 =>
    have h := pk_g f g 2
    show T1 f g 3 * (T1 f g 3 * g 2 - g 4 * T1 f g 1) - (T1 f g 3 * g 3 - g 4 * T1 f g 2) * T1 f g 2 = -(g 4) * (T1 f g 3 * (T1 f g 1 + mn f g 2 3) - T1 f g 2 * T1 f g 2)
    generalize T1 f g 1 = q1 at *
    generalize T1 f g 2 = q2 at *
    generalize T1 f g 3 = q3 at *
    generalize mn f g 2 3 = n23 at *
    generalize g 2 = x2 at *
    generalize g 3 = x3 at *
    generalize g 4 = x4 at *
    grind
  | 3 =>
    show T1 f g 3 * T1b f g 3 - T1b f g 3 * T1 f g 3 = -(g 4) * 0
    rw [Int.mul_comm, Int.mul_zero]
    exact Int.sub_self _
  | i + 4 =>
    rw [T1b_hi hf hg (i + 4) (by omega), T1_hi hf hg (i + 4) (by omega), Int.mul_zero, Int.mul_zero]
    show (0 : Int) - 0 = -(g 4) * 0
    rw [Int.mul_zero]
    rfl
theorem T2b_hi {f g : Nat → Int} (hf : ∀ i, 4 < i → f i = 0) (hg : ∀ i, 4 < i → g i = 0) : ∀ i, 2 < i → T2b f g i = 0 := fun i hi => by
  obtain ⟨k, rfl⟩ : ∃ k, i = k + 1 := ⟨i - 1, by omega⟩
  show S2 f g 2 * T1 f g (k + 1) - T1 f g 3 * S2 f g k = 0
  by_cases e : k = 2
  · rw [e, Int.mul_comm]; exact Int.sub_self _
  · obtain ⟨j, rfl⟩ : ∃ j, k = j + 3 := ⟨k - 3, by omega⟩
    rw [T1_hi hf hg (j + 3 + 1) (by omega), Int.mul_zero]
    show (0 : Int) - T1 f g 3 * 0 = 0
    rw [Int.mul_zero]
    rfl
theorem E5_1 (f g : Nat → Int) : S2 f g 2 * T2b f g 1 - T2b f g 2 * S2 f g 1 = -(T1 f g 3 * T1 f g 3) * S1 f g 1 := by
  have h1 := pk_m12 f g
  show S2 f g 2 * (S2 f g 2 * T1 f g 1 - T1 f g 3 * S2 f g 0) - (S2 f g 2 * T1 f g 2 - T1 f g 3 * S2 f g 1) * S2 f g 1 = -(T1 f g 3 * T1 f g 3) * uu f g
  unfold uu
  show (T1 f g 3 * (T1 f g 1 + mn f g 2 3) - T1 f g 2 * T1 f g 2) * ((T1 f g 3 * (T1 f g 1 + mn f g 2 3) - T1 f g 2 * T1 f g 2) * T1 f g 1 - T1 f g 3 * (T1 f g 3 * mn f g 0 3 - T1 f g 2 * T1 f g 0)) - ((T1 f g 3 * (T1 f g 1 + mn f g 2 3) - T1 f g 2 * T1 f g 2) * T1 f g 2 - T1 f g 3 * (T1 f g 3 * (T1 f g 0 + mn f g 1 3) - T1 f g 2 * T1 f g 1)) * (T1 f g 3 * (T1 f g 0 + mn f g 1 3) - T1 f g 2 * T1 f g 1) = _
  generalize T1 f g 0 = q0 at *
  generalize T1 f g 1 = q1 at *
  generalize T1 f g 2 = q2 at *
  generalize T1 f g 3 = q3 at *
  generalize mn f g 0 3 = n03 at *
  generalize mn f g 1 3 = n13 at *
  generalize mn f g 2 3 = n23 at *
  generalize mn f g 1 2 = n12 at *
  grind
theorem E5_0 (f g : Nat → Int) : S2 f g 2 * T2b f g 0 - T2b f g 2 * S2 f g 0 = -(T1 f g 3 * T1 f g 3) * S1 f g 0 := by
  have h1 := pk_m02 f g
  show S2 f g 2 * (S2 f g 2 * T1 f g 0 - T1 f g 3 * 0) - (S2 f g 2 * T1 f g 2 - T1 f g 3 * S2 f g 1) * S2 f g 0 = -(T1 f g 3 * T1 f g 3) * ww f g
  unfold ww
  show (T1 f g 3 * (T1 f g 1 + mn f g 2 3) - T1 f g 2 * T1 f g 2) * ((T1 f g 3 * (T1 f g 1 + mn f g 2 3) - T1 f g 2 * T1 f g 2) * T1 f g 0 - T1 f g 3 * 0) - ((T1 f g 3 * (T1 f g 1 + mn f g 2 3) - T1 f g 2 * T1 f g 2) * T1 f g 2 - T1 f g 3 * (T1 f g 3 * (T1 f g 0 + mn f g 1 3) - T1 f g 2 * T1 f g 1)) * (T1 f g 3 * mn f g 0 3 - T1 f g 2 * T1 f g 0) = _
  generalize T1 f g 0 = q0 at *
  generalize T1 f g 1 = q1 at *
  generalize T1 f g 2 = q2 at *
  generalize T1 f g 3 = q3 at *
  generalize mn f g 0 3 = n03 at *
  generalize mn f g 1 3 = n13 at *
  generalize mn f g 2 3 = n23 at *
  generalize mn f g 0 2 = n02 at *
  grind
theorem E5 {f g : Nat → Int} (hf : ∀ i, 4 < i → f i = 0) (hg : ∀ i, 4 < i → g i = 0) (i : Nat) : S2 f g 2 * T2b f g i - T2b f g 2 * S2 f g i = -(T1 f g 3 * T1 f g 3) * S1 f g i := by
  match i with
  | 0 => exact E5_0 f g
  | 1 => exact E5_1 f g
  | 2 =>
    show S2 f g 2 * T2b f g 2 - T2b f g 2 * S2 f g 2 = -(T1 f g 3 * T1 f g 3) * 0
    rw [Int.mul_comm, Int.mul_zero]
    exact Int.sub_self _
  | i + 3 =>
    rw [T2b_hi hf hg (i + 3) (by omega), Int.mul_zero]
    show (0 : Int) - T2b f g 2 * 0 = -(T1 f g 3 * T1 f g 3) * 0
    rw [Int.mul_zero, Int.mul_zero]
    rfl
theorem T3b_hi (f g : Nat → Int) : ∀ i, 1 < i → T3b f g i = 0 := fun i hi => by
  match i, hi with
  | 2, _ =>
    show S1 f g 1 * S2 f g 2 - S2 f g 2 * S1 f g 1 = 0
    rw [Int.mul_comm]; exact Int.sub_self _
  | i + 3, _ =>
    show S1 f g 1 * 0 - S2 f g 2 * 0 = 0
    rw [Int.mul_zero, Int.mul_zero]
    rfl
/-! bounds -/
theorem nb_mul {x y : Int} {A B : Nat} (hx : x.natAbs ≤ A) (hy : y.natAbs ≤ B) : (x * y).natAbs ≤ A * B := by
  rw [Int.natAbs_mul]
  exact Nat.mul_le_mul hx hy
section CB
variable {f g : Nat → Int}
theorem mn_b (hf : bx 7 f) (hg : bx 7 g) (i j : Nat) : (mn f g i j).natAbs ≤ 98 := by
  have h1 := nb_mul (hf i) (hg j)
  have h2 := nb_mul (hf j) (hg i)
  unfold mn
  omega
theorem T1_b (hf : bx 7 f) (hg : bx 7 g) : bx 98 (T1 f g) := fun i => by
  have h1 := nb_mul (hg 4) (hf i)
  have h2 := nb_mul (hf 4) (hg i)
  unfold T1
  omega
theorem sh_b {B : Nat} {p : Nat → Int} (h : bx B p) : bx B (sh p) := fun i => by
  cases i with
  | zero => exact Nat.zero_le _
  | succ i => exact h i
theorem T1b_b (hf : bx 7 f) (hg : bx 7 g) : bx 1372 (T1b f g) := fun i => by
  have h1 := nb_mul (T1_b hf hg 3) (hg i)
  have h2 := nb_mul (hg 4) (sh_b (T1_b hf hg) i)
  unfold T1b
  omega
theorem S2_0b (hf : bx 7 f) (hg : bx 7 g) : (S2 f g 0).natAbs ≤ 19208 := by
  have h1 := nb_mul (T1_b hf hg 3) (mn_b hf hg 0 3)
  have h2 := nb_mul (T1_b hf hg 2) (T1_b hf hg 0)
  show (T1 f g 3 * mn f g 0 3 - T1 f g 2 * T1 f g 0).natAbs ≤ _
  omega
theorem b21_b (hf : bx 7 f) (hg : bx 7 g) : (T1 f g 0 + mn f g 1 3).natAbs ≤ 196 := by
  have h1 := T1_b hf hg 0
  have h2 := mn_b hf hg 1 3
  omega
theorem b22_b (hf : bx 7 f) (hg : bx 7 g) : (T1 f g 1 + mn f g 2 3).natAbs ≤ 196 := by
  have h1 := T1_b hf hg 1
  have h2 := mn_b hf hg 2 3
  omega
theorem b11_b (hf : bx 7 f) (hg : bx 7 g) : (mn f g 0 3 + mn f g 1 2).natAbs ≤ 196 := by
  have h1 := mn_b hf hg 0 3
  have h2 := mn_b hf hg 1 2
  omega
theorem S2_b (hf : bx 7 f) (hg : bx 7 g) : bx 28812 (S2 f g) := fun i => by
  match i with
  | 0 => have := S2_0b hf hg; omega
  | 1 =>
    have h1 := nb_mul (T1_b hf hg 3) (b21_b hf hg)
    have h2 := nb_mul (T1_b hf hg 2) (T1_b hf hg 1)
    show (T1 f g 3 * (T1 f g 0 + mn f g 1 3) - T1 f g 2 * T1 f g 1).natAbs ≤ _
    omega
  | 2 =>
    have h1 := nb_mul (T1_b hf hg 3) (b22_b hf hg)
    have h2 := nb_mul (T1_b hf hg 2) (T1_b hf hg 2)
    show (T1 f g 3 * (T1 f g 1 + mn f g 2 3) - T1 f g 2 * T1 f g 2).natAbs ≤ _
    omega
  | i + 3 => exact Nat.zero_le _
theorem T2b_b (hf : bx 7 f) (hg : bx 7 g) : bx 5647152 (T2b f g) := fun i => by
  have h1 := nb_mul (S2_b hf hg 2) (T1_b hf hg i)
  have h2 := nb_mul (T1_b hf hg 3) (sh_b (S2_b hf hg) i)
  unfold T2b
  omega
theorem uu_b (hf : bx 7 f) (hg : bx 7 g) : (uu f g).natAbs ≤ 15059072 := by
  have a1 := nb_mul (b22_b hf hg) (b11_b hf hg)
  have a2 := nb_mul (b21_b hf hg) (b21_b hf hg)
  have a3 := nb_mul (T1_b hf hg 2) (b11_b hf hg)
  have a4 := nb_mul (b21_b hf hg) (T1_b hf hg 1)
  have a5 := nb_mul (T1_b hf hg 2) (b21_b hf hg)
  have a6 := nb_mul (b22_b hf hg) (T1_b hf hg 1)
  unfold uu
  generalize (T1 f g 1 + mn f g 2 3) * (mn f g 0 3 + mn f g 1 2) = x1 at *
  generalize (T1 f g 0 + mn f g 1 3) * (T1 f g 0 + mn f g 1 3) = x2 at *
  generalize T1 f g 2 * (mn f g 0 3 + mn f g 1 2) = x3 at *
  generalize (T1 f g 0 + mn f g 1 3) * T1 f g 1 = x4 at *
  generalize T1 f g 2 * (T1 f g 0 + mn f g 1 3) = x5 at *
  generalize (T1 f g 1 + mn f g 2 3) * T1 f g 1 = x6 at *
  have c1 := nb_mul (T1_b hf hg 3) (show (x1 - x2).natAbs ≤ 76832 by omega)
  have c2 := nb_mul (T1_b hf hg 2) (show (x3 - x4).natAbs ≤ 38416 by omega)
  have c3 := nb_mul (T1_b hf hg 1) (show (x5 - x6).natAbs ≤ 38416 by omega)
  omega
theorem ww_b (hf : bx 7 f) (hg : bx 7 g) : (ww f g).natAbs ≤ 9411920 := by
  have a1 := nb_mul (b22_b hf hg) (mn_b hf hg 0 2)
  have a2 := nb_mul (mn_b hf hg 0 3) (b21_b hf hg)
  have a3 := nb_mul (T1_b hf hg 2) (mn_b hf hg 0 2)
  have a4 := nb_mul (mn_b hf hg 0 3) (T1_b hf hg 1)
  have a5 := nb_mul (T1_b hf hg 2) (b21_b hf hg)
  have a6 := nb_mul (b22_b hf hg) (T1_b hf hg 1)
  unfold ww
  generalize (T1 f g 1 + mn f g 2 3) * mn f g 0 2 = x1 at *
  generalize mn f g 0 3 * (T1 f g 0 + mn f g 1 3) = x2 at *
  generalize T1 f g 2 * mn f g 0 2 = x3 at *
  generalize mn f g 0 3 * T1 f g 1 = x4 at *
  generalize T1 f g 2 * (T1 f g 0 + mn f g 1 3) = x5 at *
  generalize (T1 f g 1 + mn f g 2 3) * T1 f g 1 = x6 at *
  have c1 := nb_mul (T1_b hf hg 3) (show (x1 - x2).natAbs ≤ 38416 by omega)
  have c2 := nb_mul (T1_b hf hg 2) (show (x3 - x4).natAbs ≤ 19208 by omega)
  have c3 := nb_mul (T1_b hf hg 0) (show (x5 - x6).natAbs ≤ 38416 by omega)
  omega
theorem S1_b (hf : bx 7 f) (hg : bx 7 g) : bx 15059072 (S1 f g) := fun i => by
  match i with
  | 0 => exact Nat.le_trans (ww_b hf hg) (by decide)
  | 1 => exact uu_b hf hg
  | i + 2 => exact Nat.zero_le _
theorem T3b_b (hf : bx 7 f) (hg : bx 7 g) : bx 867763964928 (T3b f g) := fun i => by
  have h1 := nb_mul (S1_b hf hg 1) (S2_b hf hg i)
  have h2 := nb_mul (S2_b hf hg 2) (sh_b (S1_b hf hg) i)
  unfold T3b
  omega
theorem T4_b (hf : bx 7 f) (hg : bx 7 g) : (S1 f g 1 * T3b f g 0 - T3b f g 1 * S1 f g 0).natAbs < 18446744073709551616 := by
  have e0 : T3b f g 0 = S1 f g 1 * S2 f g 0 - S2 f g 2 * 0 := rfl
  have e1 : T3b f g 1 = S1 f g 1 * S2 f g 1 - S2 f g 2 * S1 f g 0 := rfl
  have hu : (S1 f g 1).natAbs ≤ 15059072 := uu_b hf hg
  have hw : (S1 f g 0).natAbs ≤ 9411920 := ww_b hf hg
  have h0 : (T3b f g 0).natAbs ≤ 289254654976 := by
    rw [e0, Int.mul_zero, Int.sub_zero]
    exact nb_mul hu (S2_0b hf hg)
  have h1 : (T3b f g 1).natAbs ≤ 705058221504 := by
    have a1 := nb_mul hu (S2_b hf hg 1)
    have a2 := nb_mul (S2_b hf hg 2) hw
    rw [e1]
    omega
  have b1 := nb_mul hu h0
  have b2 := nb_mul h1 hw
  omega
end CB
