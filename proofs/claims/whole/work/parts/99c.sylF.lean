theorem dI_1 (en : Nat → Nat → Int) : dI en 1 1 1 = en 0 0 := by
  simp [dI, dcs, dsg]
theorem dI_2 (en : Nat → Nat → Int) : dI en 2 2 3 = en 0 0 * en 1 1 - en 0 1 * en 1 0 := by
  simp [dI, dcs, dsg]
  grind
theorem dI_3 (en : Nat → Nat → Int) : dI en 3 3 7 = en 0 0 * (en 1 1 * en 2 2 - en 1 2 * en 2 1) - en 0 1 * (en 1 0 * en 2 2 - en 1 2 * en 2 0) + en 0 2 * (en 1 0 * en 2 1 - en 1 1 * en 2 0) := by
  simp [dI, dcs, dsg]
  grind
theorem dI_4 (en : Nat → Nat → Int) : dI en 4 4 15 = det4 (en 0 0) (en 0 1) (en 0 2) (en 0 3) (en 1 0) (en 1 1) (en 1 2) (en 1 3) (en 2 0) (en 2 1) (en 2 2) (en 2 3) (en 3 0) (en 3 1) (en 3 2) (en 3 3) := by
  unfold det4
  simp [dI, dcs, dsg]
  grind
/-- Bezout's determinant by its minors, n = 1 .. 4 -/
def Fq (f g : Nat → Int) (n : Nat) : Int := match n with
  | 1 => mij f g 0 1
  | 2 => mij f g 0 1 * mij f g 1 2 - mij f g 0 2 * mij f g 0 2
  | 3 => dd3 (mij f g 0 1) (mij f g 0 2) (mij f g 0 3) (mij f g 0 3 + mij f g 1 2) (mij f g 1 3) (mij f g 2 3)
  | _ => dS (mij f g 0 1) (mij f g 0 2) (mij f g 0 3) (mij f g 0 4) (mij f g 0 3 + mij f g 1 2) (mij f g 0 4 + mij f g 1 3) (mij f g 1 4) (mij f g 1 4 + mij f g 2 3) (mij f g 2 4) (mij f g 3 4)
theorem SY_e (f g : Nat → Int) {n : Nat} (h1 : 1 ≤ n) (hn : n ≤ 4) : pev (fgv f g) (if n = 4 then T4 255 else SY n) = dI (sylI f g n) (2 * n) (2 * n) (2 ^ (2 * n) - 1) := by
  have hle : 2 ^ (2 * n) ≤ 2 ^ 8 := Nat.pow_le_pow_right (by decide) (by omega)
  have hp := Nat.two_pow_pos (2 * n)
  have h := tbP_e (fgv f g) (sylP n) (2 * n) (by omega) (2 ^ (2 * n)) (by omega) (2 ^ (2 * n) - 1) (by omega)
  rw [show 2 ^ (2 * n) - 1 - (2 ^ (2 * n) - 1) = 0 by omega] at h
  have e : (fun r c => pev (fgv f g) (sylP n r c)) = sylI f g n := funext fun r => funext fun c => sylP_e f g hn r c
  rw [e] at h
  have hq : pc8 (2 ^ (2 * n) - 1) = 2 * n := by
    have : n = 1 ∨ n = 2 ∨ n = 3 ∨ n = 4 := by omega
    rcases this with rfl | rfl | rfl | rfl <;> decide
  rw [hq] at h
  by_cases e4 : n = 4
  · subst e4
    rw [if_pos rfl, T4_e _ 256 255 (by decide) (by decide), e]
    rfl
  · rw [if_neg e4]
    exact h
theorem BZ_e (f g : Nat → Int) {n : Nat} (h1 : 1 ≤ n) (hn : n ≤ 4) : pev (fgv f g) (BZ n) = Fq f g n := by
  have hle : 2 ^ n ≤ 2 ^ 4 := Nat.pow_le_pow_right (by decide) (by omega)
  have hp := Nat.two_pow_pos n
  have h := tbP_e (fgv f g) (BP n) n (by omega) (2 ^ n) (by omega) (2 ^ n - 1) (by omega)
  rw [show 2 ^ n - 1 - (2 ^ n - 1) = 0 by omega] at h
  have hq : pc8 (2 ^ n - 1) = n := by
    have : n = 1 ∨ n = 2 ∨ n = 3 ∨ n = 4 := by omega
    rcases this with rfl | rfl | rfl | rfl <;> decide
  rw [hq] at h
  unfold BZ
  rw [h]
  have M : ∀ i j, i < 5 → j < 5 → pev (fgv f g) (mP i j) = mij f g i j := fun i j hi hj => mP_e f g hi hj
  have : n = 1 ∨ n = 2 ∨ n = 3 ∨ n = 4 := by omega
  rcases this with rfl | rfl | rfl | rfl
  · refine (dI_1 _).trans ?_
    exact M 0 1 (by decide) (by decide)
  · refine (dI_2 _).trans ?_
    show pev _ (mP 0 1) * pev _ (mP 1 2) - pev _ (mP 0 2) * pev _ (mP 0 2) = _
    rw [M 0 1 (by decide) (by decide), M 1 2 (by decide) (by decide), M 0 2 (by decide) (by decide)]
    rfl
  · refine (dI_3 _).trans ?_
    show pev _ (mP 0 1) * (pev _ (padd (mP 0 3) (mP 1 2)) * pev _ (mP 2 3) - pev _ (mP 1 3) * pev _ (mP 1 3)) - pev _ (mP 0 2) * (pev _ (mP 0 2) * pev _ (mP 2 3) - pev _ (mP 1 3) * pev _ (mP 0 3)) + pev _ (mP 0 3) * (pev _ (mP 0 2) * pev _ (mP 1 3) - pev _ (padd (mP 0 3) (mP 1 2)) * pev _ (mP 0 3)) = _
    rw [pev_add, M 0 1 (by decide) (by decide), M 1 2 (by decide) (by decide), M 0 2 (by decide) (by decide), M 0 3 (by decide) (by decide), M 1 3 (by decide) (by decide), M 2 3 (by decide) (by decide)]
    rfl
  · refine (dI_4 _).trans ?_
    show det4 (pev _ (mP 0 1)) (pev _ (mP 0 2)) (pev _ (mP 0 3)) (pev _ (mP 0 4)) (pev _ (mP 0 2)) (pev _ (padd (mP 0 3) (mP 1 2))) (pev _ (padd (mP 0 4) (mP 1 3))) (pev _ (mP 1 4)) (pev _ (mP 0 3)) (pev _ (padd (mP 0 4) (mP 1 3))) (pev _ (padd (mP 1 4) (mP 2 3))) (pev _ (mP 2 4)) (pev _ (mP 0 4)) (pev _ (mP 1 4)) (pev _ (mP 2 4)) (pev _ (mP 3 4)) = _
    rw [pev_add, pev_add, pev_add, M 0 1 (by decide) (by decide), M 1 2 (by decide) (by decide), M 0 2 (by decide) (by decide), M 0 3 (by decide) (by decide), M 1 3 (by decide) (by decide), M 2 3 (by decide) (by decide), M 0 4 (by decide) (by decide), M 1 4 (by decide) (by decide), M 2 4 (by decide) (by decide), M 3 4 (by decide) (by decide)]
    rfl
def sg1 (n : Nat) : Int := match n with
  | 1 => -1
  | 2 => -1
  | _ => 1
def sg2 (n : Nat) : Int := match n with
  | 1 => -1
  | 3 => -1
  | _ => 1
theorem syl_F (f g : Nat → Int) {n : Nat} (h1 : 1 ≤ n) (hn : n ≤ 4) : dI (sylI f g n) (2 * n) (2 * n) (2 ^ (2 * n) - 1) = sg1 n * Fq f g n := by
  rw [← SY_e f g h1 hn, ← BZ_e f g h1 hn]
  have : n = 1 ∨ n = 2 ∨ n = 3 ∨ n = 4 := by omega
  rcases this with rfl | rfl | rfl | rfl
  · rw [if_neg (by decide)]
    have h := emp_pev (fgv f g) chk1
    rw [pev_add, pev_sm] at h
    show _ = -1 * _
    omega
  · rw [if_neg (by decide)]
    have h := emp_pev (fgv f g) chk2
    rw [pev_add, pev_sm] at h
    show _ = -1 * _
    omega
  · rw [if_neg (by decide)]
    have h := emp_pev (fgv f g) chk3
    rw [pev_add, pev_sm] at h
    show _ = 1 * _
    omega
  · rw [if_pos rfl]
    have h := emp_pev (fgv f g) chk4
    rw [pev_add, pev_sm] at h
    show _ = 1 * _
    omega
theorem bz_F (f g : Nat → Int) {n : Nat} (h1 : 1 ≤ n) (hn : n ≤ 4) : dI (bzI f g n) n n (2 ^ n - 1) = sg2 n * Fq f g n := by
  have : n = 1 ∨ n = 2 ∨ n = 3 ∨ n = 4 := by omega
  rcases this with rfl | rfl | rfl | rfl
  · refine (dI_1 _).trans ?_
    show 0 + (f 1 * g 0 - f 0 * g 1) = -1 * (f 0 * g 1 - f 1 * g 0)
    omega
  · refine (dI_2 _).trans ?_
    show (0 + (f 1 * g 0 - f 0 * g 1)) * (0 + (f 2 * g 1 - f 1 * g 2)) - (0 + (f 2 * g 0 - f 0 * g 2)) * (0 + (f 2 * g 0 - f 0 * g 2)) = 1 * ((f 0 * g 1 - f 1 * g 0) * (f 1 * g 2 - f 2 * g 1) - (f 0 * g 2 - f 2 * g 0) * (f 0 * g 2 - f 2 * g 0))
    grind
  · refine (dI_3 _).trans ?_
    have e : ∀ i j, f j * g i - f i * g j = -mij f g i j := fun i j => by unfold mij; omega
    show (0 + (f 1 * g 0 - f 0 * g 1)) * ((0 + (f 2 * g 1 - f 1 * g 2) + (f 3 * g 0 - f 0 * g 3)) * (0 + (f 3 * g 2 - f 2 * g 3)) - (0 + (f 3 * g 1 - f 1 * g 3)) * (0 + (f 3 * g 1 - f 1 * g 3))) - (0 + (f 2 * g 0 - f 0 * g 2)) * ((0 + (f 2 * g 0 - f 0 * g 2)) * (0 + (f 3 * g 2 - f 2 * g 3)) - (0 + (f 3 * g 1 - f 1 * g 3)) * (0 + (f 3 * g 0 - f 0 * g 3))) + (0 + (f 3 * g 0 - f 0 * g 3)) * ((0 + (f 2 * g 0 - f 0 * g 2)) * (0 + (f 3 * g 1 - f 1 * g 3)) - (0 + (f 2 * g 1 - f 1 * g 2) + (f 3 * g 0 - f 0 * g 3)) * (0 + (f 3 * g 0 - f 0 * g 3))) = -1 * Fq f g 3
    rw [e, e, e, e, e, e]
    show _ = -1 * dd3 (mij f g 0 1) (mij f g 0 2) (mij f g 0 3) (mij f g 0 3 + mij f g 1 2) (mij f g 1 3) (mij f g 2 3)
    unfold dd3
    grind
  · refine (dI_4 _).trans ?_
    have e : ∀ i j, f j * g i - f i * g j = -mij f g i j := fun i j => by unfold mij; omega
    show det4 (0 + (f 1 * g 0 - f 0 * g 1)) (0 + (f 2 * g 0 - f 0 * g 2)) (0 + (f 3 * g 0 - f 0 * g 3)) (0 + (f 4 * g 0 - f 0 * g 4)) (0 + (f 2 * g 0 - f 0 * g 2)) (0 + (f 2 * g 1 - f 1 * g 2) + (f 3 * g 0 - f 0 * g 3)) (0 + (f 3 * g 1 - f 1 * g 3) + (f 4 * g 0 - f 0 * g 4)) (0 + (f 4 * g 1 - f 1 * g 4)) (0 + (f 3 * g 0 - f 0 * g 3)) (0 + (f 3 * g 1 - f 1 * g 3) + (f 4 * g 0 - f 0 * g 4)) (0 + (f 3 * g 2 - f 2 * g 3) + (f 4 * g 1 - f 1 * g 4)) (0 + (f 4 * g 2 - f 2 * g 4)) (0 + (f 4 * g 0 - f 0 * g 4)) (0 + (f 4 * g 1 - f 1 * g 4)) (0 + (f 4 * g 2 - f 2 * g 4)) (0 + (f 4 * g 3 - f 3 * g 4)) = 1 * Fq f g 4
    rw [e, e, e, e, e, e, e, e, e, e]
    show _ = 1 * dS (mij f g 0 1) (mij f g 0 2) (mij f g 0 3) (mij f g 0 4) (mij f g 0 3 + mij f g 1 2) (mij f g 0 4 + mij f g 1 3) (mij f g 1 4) (mij f g 1 4 + mij f g 2 3) (mij f g 2 4) (mij f g 3 4)
    unfold dS det4
    grind
