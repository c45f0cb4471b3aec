/-! the class's search: numbers, planes as cells -/
theorem pq_s {x b v : Int64} {i : Int} (hb : 1 ≤ b.toInt) (hi : 0 ≤ i) (h0 : 0 ≤ x.toInt) (h1 : x.toInt * b.toInt ^ i.toNat ≤ v.toInt) (h2 : v.toInt < (x.toInt + 1) * b.toInt ^ i.toNat) : 0 ≤ (x / b).toInt ∧ (x / b).toInt * b.toInt ^ (i + 1).toNat ≤ v.toInt ∧ v.toInt < ((x / b).toInt + 1) * b.toInt ^ (i + 1).toNat := by
  have b1 : b ≠ -1 := by intro q; rw [q] at hb; exact absurd hb (by decide)
  have e : (x / b).toInt = x.toInt / b.toInt := by rw [Int64.toInt_div_of_ne_right x b b1, Int.tdiv_eq_ediv_of_nonneg h0]
  have hp : 0 < b.toInt ^ i.toNat := Int.pow_pos (by omega)
  have g1 : x.toInt / b.toInt * b.toInt ≤ x.toInt := Int.ediv_mul_le _ (by omega)
  have g2 : x.toInt < (x.toInt / b.toInt + 1) * b.toInt := Int.lt_ediv_add_one_mul_self _ (by omega)
  have g0 : 0 ≤ x.toInt / b.toInt := Int.ediv_nonneg h0 (by omega)
  rw [e, show (i + 1).toNat = i.toNat + 1 by omega, Int.pow_succ]
  refine ⟨g0, ?_, ?_⟩
  · have := Int.mul_le_mul_of_nonneg_right g1 (Int.le_of_lt hp)
    rw [Int.mul_comm (b.toInt ^ i.toNat), ← Int.mul_assoc]
    omega
  · have := Int.mul_le_mul_of_nonneg_right (show x.toInt + 1 ≤ (x.toInt / b.toInt + 1) * b.toInt by omega) (Int.le_of_lt hp)
    rw [Int.mul_comm (b.toInt ^ i.toNat), ← Int.mul_assoc]
    omega
theorem pq_1 {x b v : Int64} {i k : Int} (hb : 1 ≤ b.toInt) (e : i = k) (h1 : x.toInt * b.toInt ^ i.toNat ≤ v.toInt) (hc : ¬ x < 1) : b.toInt ^ k.toNat ≤ v.toInt := by
  rw [Int64.lt_iff_toInt_lt] at hc
  have o : (1 : Int64).toInt = 1 := rfl
  subst e
  have hp : 0 < b.toInt ^ i.toNat := Int.pow_pos (by omega)
  have := Int.mul_le_mul_of_nonneg_right (show 1 ≤ x.toInt by omega) (Int.le_of_lt hp)
  omega
theorem pq_0 {x b v : Int64} {i k : Int} (e : i = k) (h0 : 0 ≤ x.toInt) (h2 : v.toInt < (x.toInt + 1) * b.toInt ^ i.toNat) (hc : x < 1) : v.toInt < b.toInt ^ k.toNat := by
  rw [Int64.lt_iff_toInt_lt] at hc
  have o : (1 : Int64).toInt = 1 := rfl
  subst e
  have : x.toInt = 0 := by omega
  rw [this, Int.zero_add, Int.one_mul] at h2
  exact h2
theorem b_ge1 {b : Int64} (h : (1 : Int64) ≤ b) : 1 ≤ b.toInt := by
  rw [Int64.le_iff_toInt_le] at h
  exact h
theorem b_lt1 {b : Int64} (h : ¬ (1 : Int64) ≤ b) : ¬ 1 ≤ b.toInt := by
  rw [Int64.le_iff_toInt_le] at h
  exact h
theorem p2_t : ∀ n : Fin 32, (1 : Int64) <<< ((zI (n.val : Int)).toInt64 &&& 63) = zL ((2 ^ n.val : Nat) : Int) := by decide +kernel
theorem p2 {i : Int} {y : Int64} (h : 0 ≤ i ∧ i ≤ 31) (e : y = (1 : Int64) <<< ((zI i).toInt64 &&& 63)) : y.toInt = 2 ^ i.toNat := by
  have t := p2_t ⟨i.toNat, by omega⟩
  simp only at t
  rw [show ((i.toNat : Nat) : Int) = i by omega, ← e] at t
  have hle : 2 ^ i.toNat ≤ 2 ^ 31 := Nat.pow_le_pow_right (by decide) (by omega)
  generalize hg : 2 ^ i.toNat = g at *
  rw [t, zL_toInt (by omega) (by omega), ← hg, Int.natCast_pow]
  rfl
theorem rqa_s {x y : Int64} {i : Int} (hi : 0 ≤ i ∧ i ≤ 31) (hx : 0 ≤ x.toInt ∧ x.toInt + 2 ^ (i + 1).toNat ≤ 4294967296) (ey : y.toInt = 2 ^ i.toNat) : (x + y).toInt = x.toInt + 2 ^ i.toNat ∧ (x.toInt + 2 ^ (i + 1).toNat = x.toInt + 2 ^ i.toNat + 2 ^ i.toNat) ∧ (1 : Int) ≤ 2 ^ i.toNat := by
  have e : (2 : Int) ^ (i + 1).toNat = 2 ^ i.toNat * 2 := by rw [show (i + 1).toNat = i.toNat + 1 by omega, Int.pow_succ]
  have p : (1 : Int) ≤ 2 ^ i.toNat := Int.pow_pos (by decide)
  refine ⟨?_, by omega, p⟩
  have c := cq_add (cq_rf x) (cq_rf y)
  rw [ey] at c
  exact cq_small c (by omega) (by omega)
theorem rqa_0 {v : Int64} {k : Int} (hk : 2 ≤ k) : v.toInt < ((0 : Int64).toInt + 2 ^ ((31 : Int) + 1).toNat) ^ k.toNat := by
  have h : ((0 : Int64).toInt + 2 ^ ((31 : Int) + 1).toNat : Int) = 4294967296 := by decide
  rw [h]
  have h2 := ipow_le (b := 4294967296) (by decide) (show 2 ≤ k.toNat by omega)
  have h3 : (4294967296 : Int) ^ 2 = 18446744073709551616 := by decide
  have := Int64.toInt_lt v
  omega
theorem rqa_z {v : Int64} {k : Int} (hk : 2 ≤ k) (hv : 0 ≤ v.toInt) : (0 : Int64).toInt ^ k.toNat ≤ v.toInt := by
  have : (0 : Int64).toInt = 0 := rfl
  rw [this, Int.zero_pow (by omega)]
  exact hv
/-- a plane's numbers as cells -/
def pcl (f : Nat → Int64) : Nat → Int64 := fun c => if inv28 c < 28 then f (inv28 c) else 0
theorem inv_t : ∀ a b : Fin 7, a.val + b.val ≤ 6 → inv28 (7 * a.val + b.val) = (sl ((a.val : Int) + b.val) + (b.val : Int)).toNat ∧ inv28 (7 * a.val + b.val) < 28 := by decide +kernel
theorem inv_z : ∀ c : Fin 49, 6 < c.val / 7 + c.val % 7 → inv28 c.val = 28 := by decide +kernel
theorem pcl_at (f : Nat → Int64) {a b : Nat} (h : a + b ≤ 6) : pcl f (7 * a + b) = f (sl ((a : Int) + b) + b).toNat := by
  have t := inv_t ⟨a, by omega⟩ ⟨b, by omega⟩ h
  simp only at t
  unfold pcl
  rw [if_pos t.2, t.1]
theorem pcl_d (f : Nat → Int64) {d j : Int} (hd : 0 ≤ d ∧ d ≤ 6) (hj : 0 ≤ j ∧ j ≤ d) : pcl f (7 * (d - j).toNat + j.toNat) = f (sl d + j).toNat := by
  rw [pcl_at f (by omega), show (((d - j).toNat : Nat) : Int) + (j.toNat : Nat) = d by omega, Int.toNat_of_nonneg hj.1]
theorem pcl_6 (f : Nat → Int64) : SU (pcl f) 6 := fun q a b c => by
  have := inv_z ⟨q.toNat, by omega⟩ (by simp only; omega)
  simp only at this
  unfold pcl
  rw [this]
  rfl
theorem pcl_pw (f : Nat → Int64) (t : Int) : pw ixs f 28 t = pw id (pcl f) 49 t := pw_inv f t
theorem pcl_su {f : Nat → Int64} {b : Int} (hb : 0 ≤ b ∧ b ≤ 6) (h : PZ f b) : SU (pcl f) b := fun q x y c => by
  by_cases h6 : q / 7 + q % 7 ≤ 6
  · have e := pcl_at f (a := (q / 7).toNat) (b := (q % 7).toNat) (by omega)
    rw [show 7 * (q / 7).toNat + (q % 7).toNat = q.toNat by omega] at e
    rw [e]
    have m := sl_mono (a := b + 1) (b := q / 7 + q % 7) (by omega) (by omega) (by omega)
    have m2 := sl_b (d := q / 7 + q % 7) (by omega)
    rw [show (((q / 7).toNat : Nat) : Int) + (((q % 7).toNat : Nat) : Int) = q / 7 + q % 7 by omega, show (((q % 7).toNat : Nat) : Int) = q % 7 by omega]
    exact h _ (by omega) (by omega)
  · exact pcl_6 f q x y (by omega)
theorem pcl_c {f g : Nat → Int64} (h : ∀ q : Int, 0 ≤ q → q < 28 → f q.toNat = g q.toNat) : ∀ i, pcl f i = pcl g i := fun i => by
  unfold pcl
  by_cases q : inv28 i < 28
  · rw [if_pos q, if_pos q]
    have := h (inv28 i : Nat) (by omega) (by omega)
    rw [Int.toNat_natCast] at this
    exact this
  · rw [if_neg q, if_neg q]
theorem pcl_inj {f g : Nat → Int64} (h : ∀ i, i < 49 → pcl f i = pcl g i) : ∀ q : Int, 0 ≤ q → q < 28 → f q.toNat = g q.toNat := fun q a b => by
  have t := inv_ixs ⟨q.toNat, by omega⟩
  simp only at t
  have := h (ixs q.toNat) t.2
  unfold pcl at this
  rw [t.1, if_pos (by omega), if_pos (by omega)] at this
  exact this
/-- sum of sizes -/
def sz28 (f : Nat → Int64) : Nat → Nat
  | 0 => 0
  | n + 1 => sz28 f n + (f n).toInt.natAbs
theorem sz_m (f : Nat → Int64) : ∀ {m n : Nat}, m ≤ n → sz28 f m ≤ sz28 f n := fun {m n} h => by
  induction n with
  | zero => rw [show m = 0 by omega]; exact Nat.le_refl _
  | succ n ih =>
    by_cases e : m = n + 1
    · rw [e]
      exact Nat.le_refl _
    · exact Nat.le_trans (ih (by omega)) (Nat.le_add_right _ _)
theorem sz_sS (f : Nat → Int64) : sz28 f 28 = sS (fun a b => ci (pcl f) (7 * a + b)) := by
  rw [sS_l1]
  show sz28 f 28 = l1 (l6 (fun a b => (pcl f (7 * a + b)).toInt))
  have z : (0 : Int).natAbs = 0 := rfl
  simp only [l6, l1, z]
  have e : ∀ a b : Nat, a + b ≤ 6 → ∀ s : Nat, (sl ((a : Int) + b) + b).toNat = s → pcl f (7 * a + b) = f s := fun a b hab s hs => by rw [pcl_at f hab, hs]
  rw [e 0 0 (by decide) 0 (by decide), e 0 1 (by decide) 2 (by decide), e 0 2 (by decide) 5 (by decide), e 0 3 (by decide) 9 (by decide), e 0 4 (by decide) 14 (by decide), e 0 5 (by decide) 20 (by decide), e 0 6 (by decide) 27 (by decide), e 1 0 (by decide) 1 (by decide), e 1 1 (by decide) 4 (by decide), e 1 2 (by decide) 8 (by decide), e 1 3 (by decide) 13 (by decide), e 1 4 (by decide) 19 (by decide), e 1 5 (by decide) 26 (by decide), e 2 0 (by decide) 3 (by decide), e 2 1 (by decide) 7 (by decide), e 2 2 (by decide) 12 (by decide), e 2 3 (by decide) 18 (by decide), e 2 4 (by decide) 25 (by decide), e 3 0 (by decide) 6 (by decide), e 3 1 (by decide) 11 (by decide), e 3 2 (by decide) 17 (by decide), e 3 3 (by decide) 24 (by decide), e 4 0 (by decide) 10 (by decide), e 4 1 (by decide) 16 (by decide), e 4 2 (by decide) 23 (by decide), e 5 0 (by decide) 15 (by decide), e 5 1 (by decide) 22 (by decide), e 6 0 (by decide) 21 (by decide)]
  simp only [sz28]
  omega
theorem ab_nat {x : Int64} (h : x.toInt ≠ -9223372036854775808) : (if 0 < x then x else -x).toInt = (x.toInt.natAbs : Int) := by
  have b := i64_b x
  have z : (0 : Int64).toInt = 0 := rfl
  by_cases q : 0 < x
  · rw [if_pos q]
    rw [Int64.lt_iff_toInt_lt] at q
    omega
  · rw [if_neg q]
    rw [Int64.lt_iff_toInt_lt] at q
    rw [Int64.toInt_neg, Int.bmod_eq_of_le (by omega) (by omega)]
    omega
theorem ss_s {f : Nat → Int64} {i : Int} {x y : Int64} (hi : 0 ≤ i ∧ i < 28) (hb : sz28 f 28 < 9223372036854775808) (hx : x.toInt = (sz28 f i.toNat : Int)) (hy : y = if 0 < f i.toNat then f i.toNat else -f i.toNat) : (x + y).toInt = (sz28 f (i + 1).toNat : Int) := by
  have m := sz_m f (show i.toNat + 1 ≤ 28 by omega)
  have e : sz28 f (i.toNat + 1) = sz28 f i.toNat + (f i.toNat).toInt.natAbs := rfl
  have ea := ab_nat (x := f i.toNat) (by omega)
  rw [← hy] at ea
  have c := cq_add (cq_rf x) (cq_rf y)
  rw [hx, ea] at c
  rw [show (i + 1).toNat = i.toNat + 1 by omega, cq_small c (by omega) (by omega)]
  omega
