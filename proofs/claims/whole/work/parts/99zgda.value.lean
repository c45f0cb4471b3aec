/-! the value at a place -/
def rsum (g : Nat → Int) : Nat → Int
  | 0 => 0
  | n + 1 => rsum g n + g n
def tm (E : Nat → Int) (D : Nat) (p q s : Int) (a b : Nat) : Int := E (7 * a + b) * (p ^ a * q ^ b * s ^ (D - a - b))
def Vl (E : Nat → Int) (D : Nat) (p q s : Int) : Int := rsum (fun a => rsum (fun b => tm E D p q s a b) 7) 7
def Vc (E : Nat → Int) (D : Nat) (p q s : Int) : Int := rsum (fun d => rsum (fun j => tm E D p q s (d - j) j) (d + 1)) 7
theorem tm_0 {E : Nat → Int} {D : Nat} (su : SUi E D) (p q s : Int) {a b : Nat} (ha : a < 7) (hb : b < 7) (h : D < a + b) : tm E D p q s a b = 0 := by
  unfold tm
  rw [su a b ha hb h, Int.zero_mul]
theorem Vc_Vl {E : Nat → Int} {D : Nat} (hD : D ≤ 6) (su : SUi E D) (p q s : Int) : Vc E D p q s = Vl E D p q s := by
  have z : ∀ a b, a < 7 → b < 7 → 6 < a + b → tm E D p q s a b = 0 := fun a b ha hb h => tm_0 su p q s ha hb (by omega)
  unfold Vc Vl
  generalize tm E D p q s = g at *
  have z16 : g 1 6 = 0 := z 1 6 (by decide) (by decide) (by decide)
  have z25 : g 2 5 = 0 := z 2 5 (by decide) (by decide) (by decide)
  have z26 : g 2 6 = 0 := z 2 6 (by decide) (by decide) (by decide)
  have z34 : g 3 4 = 0 := z 3 4 (by decide) (by decide) (by decide)
  have z35 : g 3 5 = 0 := z 3 5 (by decide) (by decide) (by decide)
  have z36 : g 3 6 = 0 := z 3 6 (by decide) (by decide) (by decide)
  have z43 : g 4 3 = 0 := z 4 3 (by decide) (by decide) (by decide)
  have z44 : g 4 4 = 0 := z 4 4 (by decide) (by decide) (by decide)
  have z45 : g 4 5 = 0 := z 4 5 (by decide) (by decide) (by decide)
  have z46 : g 4 6 = 0 := z 4 6 (by decide) (by decide) (by decide)
  have z52 : g 5 2 = 0 := z 5 2 (by decide) (by decide) (by decide)
  have z53 : g 5 3 = 0 := z 5 3 (by decide) (by decide) (by decide)
  have z54 : g 5 4 = 0 := z 5 4 (by decide) (by decide) (by decide)
  have z55 : g 5 5 = 0 := z 5 5 (by decide) (by decide) (by decide)
  have z56 : g 5 6 = 0 := z 5 6 (by decide) (by decide) (by decide)
  have z61 : g 6 1 = 0 := z 6 1 (by decide) (by decide) (by decide)
  have z62 : g 6 2 = 0 := z 6 2 (by decide) (by decide) (by decide)
  have z63 : g 6 3 = 0 := z 6 3 (by decide) (by decide) (by decide)
  have z64 : g 6 4 = 0 := z 6 4 (by decide) (by decide) (by decide)
  have z65 : g 6 5 = 0 := z 6 5 (by decide) (by decide) (by decide)
  have z66 : g 6 6 = 0 := z 6 6 (by decide) (by decide) (by decide)
  simp only [rsum, Nat.reduceSub]
  rw [z16, z25, z26, z34, z35, z36, z43, z44, z45, z46, z52, z53, z54, z55, z56, z61, z62, z63, z64, z65, z66]
  omega
theorem ipw_a (x : Int) (m n : Nat) : x ^ m * x ^ n = x ^ (m + n) := (Int.pow_add x m n).symm
theorem tm_s {E : Nat → Int} {D : Nat} (hD : D ≤ 6) (su : SUi E D) (p q s : Int) {a b : Nat} (ha : a < 7) (hb : b < 7) (hab : a + b ≤ 6) : s ^ (6 - D) * tm E D p q s a b = E (7 * a + b) * (p ^ a * q ^ b * s ^ (6 - a - b)) := by
  by_cases h : D < a + b
  · rw [tm_0 su p q s ha hb h, su a b ha hb h]
    rw [Int.mul_zero, Int.zero_mul]
  · unfold tm
    rw [show 6 - a - b = (6 - D) + (D - a - b) by omega, ← ipw_a s (6 - D) (D - a - b)]
    generalize s ^ (6 - D) = u
    generalize s ^ (D - a - b) = v
    generalize p ^ a = x
    generalize q ^ b = y
    generalize E (7 * a + b) = e
    grind
theorem V_hom {E : Nat → Int} {D : Nat} (hD : D ≤ 6) (su : SUi E D) (p q s : Int) : s ^ (6 - D) * Vl E D p q s = hom6 (fun a b => E (7 * a + b)) p q s := by
  have z : ∀ a b, a < 7 → b < 7 → 6 < a + b → tm E D p q s a b = 0 := fun a b ha hb h => tm_0 su p q s ha hb (by omega)
  have k : ∀ a b, a < 7 → b < 7 → a + b ≤ 6 → s ^ (6 - D) * tm E D p q s a b = E (7 * a + b) * (p ^ a * q ^ b * s ^ (6 - a - b)) := fun a b ha hb h => tm_s hD su p q s ha hb h
  unfold Vl
  generalize tm E D p q s = g at *
  have z16 : g 1 6 = 0 := z 1 6 (by decide) (by decide) (by decide)
  have z25 : g 2 5 = 0 := z 2 5 (by decide) (by decide) (by decide)
  have z26 : g 2 6 = 0 := z 2 6 (by decide) (by decide) (by decide)
  have z34 : g 3 4 = 0 := z 3 4 (by decide) (by decide) (by decide)
  have z35 : g 3 5 = 0 := z 3 5 (by decide) (by decide) (by decide)
  have z36 : g 3 6 = 0 := z 3 6 (by decide) (by decide) (by decide)
  have z43 : g 4 3 = 0 := z 4 3 (by decide) (by decide) (by decide)
  have z44 : g 4 4 = 0 := z 4 4 (by decide) (by decide) (by decide)
  have z45 : g 4 5 = 0 := z 4 5 (by decide) (by decide) (by decide)
  have z46 : g 4 6 = 0 := z 4 6 (by decide) (by decide) (by decide)
  have z52 : g 5 2 = 0 := z 5 2 (by decide) (by decide) (by decide)
  have z53 : g 5 3 = 0 := z 5 3 (by decide) (by decide) (by decide)
  have z54 : g 5 4 = 0 := z 5 4 (by decide) (by decide) (by decide)
  have z55 : g 5 5 = 0 := z 5 5 (by decide) (by decide) (by decide)
  have z56 : g 5 6 = 0 := z 5 6 (by decide) (by decide) (by decide)
  have z61 : g 6 1 = 0 := z 6 1 (by decide) (by decide) (by decide)
  have z62 : g 6 2 = 0 := z 6 2 (by decide) (by decide) (by decide)
  have z63 : g 6 3 = 0 := z 6 3 (by decide) (by decide) (by decide)
  have z64 : g 6 4 = 0 := z 6 4 (by decide) (by decide) (by decide)
  have z65 : g 6 5 = 0 := z 6 5 (by decide) (by decide) (by decide)
  have z66 : g 6 6 = 0 := z 6 6 (by decide) (by decide) (by decide)
  have k00 := k 0 0 (by decide) (by decide) (by decide)
  have k01 := k 0 1 (by decide) (by decide) (by decide)
  have k02 := k 0 2 (by decide) (by decide) (by decide)
  have k03 := k 0 3 (by decide) (by decide) (by decide)
  have k04 := k 0 4 (by decide) (by decide) (by decide)
  have k05 := k 0 5 (by decide) (by decide) (by decide)
  have k06 := k 0 6 (by decide) (by decide) (by decide)
  have k10 := k 1 0 (by decide) (by decide) (by decide)
  have k11 := k 1 1 (by decide) (by decide) (by decide)
  have k12 := k 1 2 (by decide) (by decide) (by decide)
  have k13 := k 1 3 (by decide) (by decide) (by decide)
  have k14 := k 1 4 (by decide) (by decide) (by decide)
  have k15 := k 1 5 (by decide) (by decide) (by decide)
  have k20 := k 2 0 (by decide) (by decide) (by decide)
  have k21 := k 2 1 (by decide) (by decide) (by decide)
  have k22 := k 2 2 (by decide) (by decide) (by decide)
  have k23 := k 2 3 (by decide) (by decide) (by decide)
  have k24 := k 2 4 (by decide) (by decide) (by decide)
  have k30 := k 3 0 (by decide) (by decide) (by decide)
  have k31 := k 3 1 (by decide) (by decide) (by decide)
  have k32 := k 3 2 (by decide) (by decide) (by decide)
  have k33 := k 3 3 (by decide) (by decide) (by decide)
  have k40 := k 4 0 (by decide) (by decide) (by decide)
  have k41 := k 4 1 (by decide) (by decide) (by decide)
  have k42 := k 4 2 (by decide) (by decide) (by decide)
  have k50 := k 5 0 (by decide) (by decide) (by decide)
  have k51 := k 5 1 (by decide) (by decide) (by decide)
  have k60 := k 6 0 (by decide) (by decide) (by decide)
  simp only [rsum]
  rw [z16, z25, z26, z34, z35, z36, z43, z44, z45, z46, z52, z53, z54, z55, z56, z61, z62, z63, z64, z65, z66]
  simp only [Int.mul_add, Int.add_zero, Int.zero_add, Int.mul_zero]
  rw [k00, k01, k02, k03, k04, k05, k06, k10, k11, k12, k13, k14, k15, k20, k21, k22, k23, k24, k30, k31, k32, k33, k40, k41, k42, k50, k51, k60]
  clear z k su z16 z25 z26 z34 z35 z36 z43 z44 z45 z46 z52 z53 z54 z55 z56 z61 z62 z63 z64 z65 z66 k00 k01 k02 k03 k04 k05 k06 k10 k11 k12 k13 k14 k15 k20 k21 k22 k23 k24 k30 k31 k32 k33 k40 k41 k42 k50 k51 k60
  unfold hom6
  simp only [Nat.reduceMul, Nat.reduceAdd, Nat.reduceSub, Int.pow_succ, Int.pow_zero, Int.one_mul, Int.mul_one]
  grind
theorem Pf_h6x (t : Nat → Nat → Int) (y w : Int) : Pf (fun x => hom6 t x y w) := by
  unfold hom6
  exact (((((((Pf.con _).add ((Pf.con _).mul Pf.var)).add ((Pf.con _).mul (Pf.var.mul Pf.var))).add ((Pf.con _).mul ((Pf.var.mul Pf.var).mul Pf.var))).add ((Pf.con _).mul ((Pf.var.mul Pf.var).mul (Pf.var.mul Pf.var)))).add ((Pf.con _).mul (((Pf.var.mul Pf.var).mul (Pf.var.mul Pf.var)).mul Pf.var))).add ((Pf.con _).mul (((Pf.var.mul Pf.var).mul (Pf.var.mul Pf.var)).mul (Pf.var.mul Pf.var))))
