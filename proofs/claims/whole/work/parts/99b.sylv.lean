/-! polynomials in many letters, by reflection: Sylvester's determinant and Bezout's -/
def mev (v : Nat → Int) : List Nat → Int
  | [] => 1
  | i :: l => v i * mev v l
def pev (v : Nat → Int) : List (List Nat × Int) → Int
  | [] => 0
  | x :: p => x.2 * mev v x.1 + pev v p
def mins (i : Nat) : List Nat → List Nat
  | [] => [i]
  | j :: l => if Nat.ble i j = true then i :: j :: l else j :: mins i l
def mmul : List Nat → List Nat → List Nat
  | [], m => m
  | i :: l, m => mins i (mmul l m)
def padt (m : List Nat) (a : Int) : List (List Nat × Int) → List (List Nat × Int)
  | [] => [(m, a)]
  | x :: p => if m = x.1 then (if a + x.2 = 0 then p else (m, a + x.2) :: p) else x :: padt m a p
def padd : List (List Nat × Int) → List (List Nat × Int) → List (List Nat × Int)
  | [], q => q
  | x :: p, q => padt x.1 x.2 (padd p q)
def psm (k : Int) (p : List (List Nat × Int)) : List (List Nat × Int) := p.map (fun y => (y.1, k * y.2))
def pmm (m : List Nat) (a : Int) (p : List (List Nat × Int)) : List (List Nat × Int) := p.map (fun y => (mmul m y.1, a * y.2))
def pmul : List (List Nat × Int) → List (List Nat × Int) → List (List Nat × Int)
  | [], _ => []
  | [x], q => pmm x.1 x.2 q
  | x :: p, q => padd (pmm x.1 x.2 q) (pmul p q)
theorem mev_ins (v : Nat → Int) (i : Nat) : ∀ l, mev v (mins i l) = v i * mev v l
  | [] => rfl
  | j :: l => by
    unfold mins
    split
    · rfl
    · show v j * mev v (mins i l) = v i * (v j * mev v l)
      rw [mev_ins v i l]
      grind
theorem mev_mul (v : Nat → Int) (m : List Nat) : ∀ l, mev v (mmul l m) = mev v l * mev v m
  | [] => by
    show mev v m = 1 * mev v m
    omega
  | i :: l => by
    show mev v (mins i (mmul l m)) = v i * mev v l * mev v m
    rw [mev_ins, mev_mul v m l, Int.mul_assoc]
theorem pev_adt (v : Nat → Int) (m : List Nat) (a : Int) : ∀ p, pev v (padt m a p) = a * mev v m + pev v p
  | [] => rfl
  | x :: p => by
    unfold padt
    split
    · rename_i h
      split
      · rename_i h2
        show pev v p = a * mev v m + (x.2 * mev v x.1 + pev v p)
        rw [← h]
        have : a * mev v m + x.2 * mev v m = 0 := by rw [← Int.add_mul, h2, Int.zero_mul]
        omega
      · show (a + x.2) * mev v m + pev v p = a * mev v m + (x.2 * mev v x.1 + pev v p)
        rw [← h, Int.add_mul]
        omega
    · show x.2 * mev v x.1 + pev v (padt m a p) = a * mev v m + (x.2 * mev v x.1 + pev v p)
      rw [pev_adt v m a p]
      omega
theorem pev_add (v : Nat → Int) (q : List (List Nat × Int)) : ∀ p, pev v (padd p q) = pev v p + pev v q
  | [] => by
    show pev v q = 0 + pev v q
    omega
  | x :: p => by
    show pev v (padt x.1 x.2 (padd p q)) = x.2 * mev v x.1 + pev v p + pev v q
    rw [pev_adt, pev_add v q p]
    omega
theorem pev_sm (v : Nat → Int) (k : Int) : ∀ p, pev v (psm k p) = k * pev v p
  | [] => by
    show (0 : Int) = k * 0
    omega
  | x :: p => by
    show k * x.2 * mev v x.1 + pev v (psm k p) = k * (x.2 * mev v x.1 + pev v p)
    rw [pev_sm v k p]
    grind
theorem pev_mm (v : Nat → Int) (m : List Nat) (a : Int) : ∀ p, pev v (pmm m a p) = a * mev v m * pev v p
  | [] => by
    show (0 : Int) = _ * 0
    omega
  | x :: p => by
    show a * x.2 * mev v (mmul m x.1) + pev v (pmm m a p) = a * mev v m * (x.2 * mev v x.1 + pev v p)
    rw [pev_mm v m a p, mev_mul]
    grind
theorem pev_mul (v : Nat → Int) (q : List (List Nat × Int)) : ∀ p, pev v (pmul p q) = pev v p * pev v q
  | [] => by
    show (0 : Int) = 0 * pev v q
    omega
  | [x] => by
    show pev v (pmm x.1 x.2 q) = (x.2 * mev v x.1 + 0) * pev v q
    rw [pev_mm, Int.add_zero]
  | x :: y :: p => by
    show pev v (padd (pmm x.1 x.2 q) (pmul (y :: p) q)) = (x.2 * mev v x.1 + pev v (y :: p)) * pev v q
    rw [pev_add, pev_mm, pev_mul v q (y :: p), Int.add_mul]
def dcsP (D e : Nat → List (List Nat × Int)) (s n : Nat) : Nat → List (List Nat × Int)
  | 0 => []
  | m + 1 => if s / 2 ^ (n - 1 - m) % 2 = 1 then padd (psm (dsg s n m) (pmul (e (n - 1 - m)) (D (s - 2 ^ (n - 1 - m))))) (dcsP D e s n m) else dcsP D e s n m
theorem pev_dcs (v : Nat → Int) (D e : Nat → List (List Nat × Int)) (s n : Nat) : ∀ m, pev v (dcsP D e s n m) = dcs (fun x => pev v (D x)) (fun c => pev v (e c)) s n m
  | 0 => rfl
  | m + 1 => by
    unfold dcsP dcs
    split
    · rw [pev_add, pev_sm, pev_mul, pev_dcs v D e s n m]
      grind
    · exact pev_dcs v D e s n m
theorem dcs_c {D D' e : Nat → Int} {s n : Nat} : ∀ m, m ≤ n → (∀ c, c < n → s / 2 ^ c % 2 = 1 → D (s - 2 ^ c) = D' (s - 2 ^ c)) → dcs D e s n m = dcs D' e s n m
  | 0, _, _ => rfl
  | m + 1, hm, h => by
    unfold dcs
    split
    · rename_i hb
      rw [dcs_c m (by omega) h, h (n - 1 - m) (by omega) hb]
    · exact dcs_c m (by omega) h
def dstep (en : Nat → Nat → List (List Nat × Int)) (n : Nat) (T : List (List (List Nat × Int))) (s : Nat) : List (List Nat × Int) := if s = 0 then [([], 1)] else dcsP (fun x => T.getD (s - 1 - x) []) (en (pc8 s - 1)) s n n
def tbP (en : Nat → Nat → List (List Nat × Int)) (n : Nat) : Nat → List (List (List Nat × Int))
  | 0 => []
  | k + 1 => dstep en n (tbP en n k) k :: tbP en n k
theorem pc_t : ∀ s : Fin 256, ∀ c : Fin 8, s.val / 2 ^ c.val % 2 = 1 → 2 ^ c.val ≤ s.val ∧ pc8 (s.val - 2 ^ c.val) + 1 = pc8 s.val := by decide +kernel
theorem pc_0 : ∀ s : Fin 256, s.val ≠ 0 → 1 ≤ pc8 s.val := by decide +kernel
theorem tbP_e (v : Nat → Int) (en : Nat → Nat → List (List Nat × Int)) (n : Nat) (hn : n ≤ 8) : ∀ k, k ≤ 256 → ∀ s, s < k → pev v ((tbP en n k).getD (k - 1 - s) []) = dI (fun r c => pev v (en r c)) n (pc8 s) s
  | 0, _, s, h => absurd h (Nat.not_lt_zero _)
  | k + 1, hk, s, h => by
    by_cases e : s = k
    · subst e
      rw [show s + 1 - 1 - s = 0 by omega]
      show pev v (dstep en n (tbP en n s) s) = _
      unfold dstep
      by_cases e0 : s = 0
      · rw [if_pos e0, e0]
        rfl
      · rw [if_neg e0, pev_dcs]
        have hp := pc_0 ⟨s, by omega⟩ e0
        simp only at hp
        obtain ⟨p, hp1⟩ : ∃ p, pc8 s = p + 1 := ⟨pc8 s - 1, by omega⟩
        rw [hp1]
        show _ = dcs (dI (fun r c => pev v (en r c)) n p) (fun c => pev v (en p c)) s n n
        rw [show p + 1 - 1 = p by omega]
        refine dcs_c n (Nat.le_refl _) (fun c hc hb => ?_)
        have h1 := pc_t ⟨s, by omega⟩ ⟨c, by omega⟩ hb
        simp only at h1
        have h2 := Nat.two_pow_pos c
        have h3 := tbP_e v en n hn s (by omega) (s - 2 ^ c) (by omega)
        rw [show pc8 (s - 2 ^ c) = p by omega] at h3
        exact h3
    · have h3 := tbP_e v en n hn k (by omega) s (by omega)
      rw [show k + 1 - 1 - s = (k - 1 - s) + 1 by omega]
      exact h3
def sylP (n r c : Nat) : List (List Nat × Int) := if r < n then (if r ≤ c ∧ c ≤ r + n then [([r + n - c], 1)] else []) else (if c ≤ r ∧ r ≤ c + n then [([5 + (r - c)], 1)] else [])
def sylI (f g : Nat → Int) (n r c : Nat) : Int := if r < n then (if r ≤ c ∧ c ≤ r + n then f (r + n - c) else 0) else (if c ≤ r ∧ r ≤ c + n then g (r - c) else 0)
def bzs (f g : Nat → Int) (lo hi : Nat) : Nat → Int
  | 0 => 0
  | k + 1 => bzs f g lo hi k + (f (hi + k + 1) * g (lo - k) - f (lo - k) * g (hi + k + 1))
def bzI (f g : Nat → Int) (n i j : Nat) : Int := bzs f g (min i j) (max i j) (min (min i j) (n - 1 - max i j) + 1)
def fgv (f g : Nat → Int) (i : Nat) : Int := if i < 5 then f i else g (i - 5)
theorem sylP_e (f g : Nat → Int) {n : Nat} (hn : n ≤ 4) (r c : Nat) : pev (fgv f g) (sylP n r c) = sylI f g n r c := by
  unfold sylP sylI
  split
  · split
    · rename_i h
      show 1 * (fgv f g (r + n - c) * 1) + 0 = _
      unfold fgv
      rw [if_pos (by omega)]
      omega
    · rfl
  · split
    · show 1 * (fgv f g (5 + (r - c)) * 1) + 0 = _
      unfold fgv
      rw [if_neg (by omega), show 5 + (r - c) - 5 = r - c by omega]
      omega
    · rfl
def mij (f g : Nat → Int) (i j : Nat) : Int := f i * g j - f j * g i
def mP (i j : Nat) : List (List Nat × Int) := [([i, 5 + j], 1), ([j, 5 + i], -1)]
theorem mP_e (f g : Nat → Int) {i j : Nat} (hi : i < 5) (hj : j < 5) : pev (fgv f g) (mP i j) = mij f g i j := by
  show 1 * (fgv f g i * (fgv f g (5 + j) * 1)) + (-1 * (fgv f g j * (fgv f g (5 + i) * 1)) + 0) = _
  unfold fgv mij
  rw [if_pos hi, if_pos hj, if_neg (by omega), if_neg (by omega), show 5 + j - 5 = j by omega, show 5 + i - 5 = i by omega]
  grind
/-- Bezout's matrix by its minors m -/
def BP (n i j : Nat) : List (List Nat × Int) := match n, min i j, max i j with
  | 2, 0, 0 => mP 0 1
  | 2, 0, 1 => mP 0 2
  | 2, 1, 1 => mP 1 2
  | 3, 0, 0 => mP 0 1
  | 3, 0, 1 => mP 0 2
  | 3, 0, 2 => mP 0 3
  | 3, 1, 1 => padd (mP 0 3) (mP 1 2)
  | 3, 1, 2 => mP 1 3
  | 3, 2, 2 => mP 2 3
  | 4, 0, 0 => mP 0 1
  | 4, 0, 1 => mP 0 2
  | 4, 0, 2 => mP 0 3
  | 4, 0, 3 => mP 0 4
  | 4, 1, 1 => padd (mP 0 3) (mP 1 2)
  | 4, 1, 2 => padd (mP 0 4) (mP 1 3)
  | 4, 1, 3 => mP 1 4
  | 4, 2, 2 => padd (mP 1 4) (mP 2 3)
  | 4, 2, 3 => mP 2 4
  | 4, 3, 3 => mP 3 4
  | _, _, _ => mP 0 1
def SY (n : Nat) : List (List Nat × Int) := (tbP (sylP n) (2 * n) (2 ^ (2 * n))).getD 0 []
def BZ (n : Nat) : List (List Nat × Int) := (tbP (BP n) n (2 ^ n)).getD 0 []
set_option maxRecDepth 100000 in
theorem chk1 : (padd (SY 1) (psm 1 (BZ 1))).isEmpty = true := by decide +kernel
set_option maxRecDepth 100000 in
theorem chk2 : (padd (SY 2) (psm 1 (BZ 2))).isEmpty = true := by decide +kernel
set_option maxRecDepth 100000 in
theorem chk3 : (padd (SY 3) (psm (-1) (BZ 3))).isEmpty = true := by decide +kernel
theorem emp_pev (v : Nat → Int) {p : List (List Nat × Int)} (h : p.isEmpty = true) : pev v p = 0 := by
  cases p with
  | nil => rfl
  | cons _ _ => exact absurd h (by simp)
