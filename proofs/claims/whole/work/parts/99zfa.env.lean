/-! the envelope's numbers and a root's digits: from the cells to the forms -/
def l6 (t : Nat → Nat → Int) : List Int := [t 0 0, t 0 1, t 0 2, t 0 3, t 0 4, t 0 5, t 0 6, t 1 0, t 1 1, t 1 2, t 1 3, t 1 4, t 1 5, 0, t 2 0, t 2 1, t 2 2, t 2 3, t 2 4, 0, 0, t 3 0, t 3 1, t 3 2, t 3 3, 0, 0, 0, t 4 0, t 4 1, t 4 2, 0, 0, 0, 0, t 5 0, t 5 1, 0, 0, 0, 0, 0, t 6 0]
theorem evl_l6 (t : Nat → Nat → Int) (z : Int) : evl (l6 t) z = hom6 t (t7 z) z 1 := by
  unfold l6 hom6 t7
  simp only [evl]
  grind
def ipw (x : Int) : Nat → Int
  | 0 => 1
  | n + 1 => x * ipw x n
theorem gd_l6 (t : Nat → Nat → Int) : ∀ a b, a + b ≤ 6 → gd (l6 t) (7 * a + b) = t a b := by
  intro a b hab
  have ha : a = 0 ∨ a = 1 ∨ a = 2 ∨ a = 3 ∨ a = 4 ∨ a = 5 ∨ a = 6 := by omega
  have hb : b = 0 ∨ b = 1 ∨ b = 2 ∨ b = 3 ∨ b = 4 ∨ b = 5 ∨ b = 6 := by omega
  rcases ha with ha | ha | ha | ha | ha | ha | ha <;> rcases hb with hb | hb | hb | hb | hb | hb | hb <;> subst ha <;> subst hb <;> first | (exfalso; omega) | rfl
theorem form6 {f : Nat → Int} {t : Nat → Nat → Int} {H : Int → Int} (hH : Pf H) (h : ∀ z, hom6 t (t7 z) z 1 = evl (lfi f 49) z + 18446744073709551616 * H z) : ∃ G : Nat → Nat → Int, ∀ a b, a + b ≤ 6 → f (7 * a + b) = t a b + 18446744073709551616 * G a b := by
  obtain ⟨r, hr⟩ := hH
  have u := evl_uq (l := l6 t) (m := ladd (lfi f 49) (r.map (fun x => 18446744073709551616 * x))) (fun z => by rw [evl_l6, evl_add, evl_map, h z, hr z])
  exact ⟨fun a b => -gd r (7 * a + b), fun a b hab => by
    have := u (7 * a + b)
    rw [gd_l6 t a b hab, gd_add, gd_map, gd_lfi, if_pos (by omega)] at this
    show f (7 * a + b) = t a b + 18446744073709551616 * -gd r (7 * a + b)
    omega⟩
/-- what the reference's (and the class's) search for a root leaves -/
def zr (k i0 j0 : Nat) (f E : Nat → Int) : Prop := SUi E (i0 / k + j0 / k) ∧ ipw (E (7 * (i0 / k) + j0 / k)) k = f (7 * i0 + j0) ∧ E (7 * (i0 / k) + j0 / k) ≠ 0 ∧ (∀ a b, a + b = i0 / k + j0 / k → i0 / k < a → E (7 * a + b) = 0) ∧ (∀ i, i < 49 → i ≠ 7 * (i0 / k) + j0 / k → ((k : Int) * (ipw (E (7 * (i0 / k) + j0 / k)) (k - 1) * E i)).natAbs ≤ 9223372036854775808) ∧ (∀ a b, a + b ≤ 6 → (i0 + j0 < a + b ∨ (a + b = i0 + j0 ∧ i0 < a)) → f (7 * a + b) = 0) ∧ ∃ H : Int → Int, Pf H ∧ ∀ t, evl (lfi E 49) t ^ k = evl (lfi f 49) t + 18446744073709551616 * H t
def cb3 (e0 e1 g1 e2 m h1 e3 n1 n2 k0 : Int) : List Int := [k0, n2, n1, e3, 0, 0, 0, h1, m, e2, 0, 0, 0, 0, g1, e1, 0, 0, 0, 0, 0, e0]
def cb3f (e0 e1 g1 e2 m h1 e3 n1 n2 k0 x y w : Int) : Int := e0 * (x * x * x) + e1 * (x * x * y) + g1 * (x * x * w) + e2 * (x * y * y) + m * (x * y * w) + h1 * (x * w * w) + e3 * (y * y * y) + n1 * (y * y * w) + n2 * (y * w * w) + k0 * (w * w * w)
theorem cb3_e (e0 e1 g1 e2 m h1 e3 n1 n2 k0 z : Int) : evl (cb3 e0 e1 g1 e2 m h1 e3 n1 n2 k0) z = cb3f e0 e1 g1 e2 m h1 e3 n1 n2 k0 (t7 z) z 1 := by
  unfold cb3 cb3f t7
  simp only [evl]
  grind
theorem cb3_E {E : Nat → Int} (h : SUi E 3) (z : Int) : evl (lfi E 49) z = evl (cb3 (E 21) (E 15) (E 14) (E 9) (E 8) (E 7) (E 3) (E 2) (E 1) (E 0)) z := evl_gd (fun i => by
  rw [gd_lfi]
  match i with
  | 0 => rfl
  | 1 => rfl
  | 2 => rfl
  | 3 => rfl
  | 4 => exact SUi_at h (by decide) (by decide)
  | 5 => exact SUi_at h (by decide) (by decide)
  | 6 => exact SUi_at h (by decide) (by decide)
  | 7 => rfl
  | 8 => rfl
  | 9 => rfl
  | 10 => exact SUi_at h (by decide) (by decide)
  | 11 => exact SUi_at h (by decide) (by decide)
  | 12 => exact SUi_at h (by decide) (by decide)
  | 13 => exact SUi_at h (by decide) (by decide)
  | 14 => rfl
  | 15 => rfl
  | 16 => exact SUi_at h (by decide) (by decide)
  | 17 => exact SUi_at h (by decide) (by decide)
  | 18 => exact SUi_at h (by decide) (by decide)
  | 19 => exact SUi_at h (by decide) (by decide)
  | 20 => exact SUi_at h (by decide) (by decide)
  | 21 => rfl
  | j + 22 =>
    by_cases hj : j + 22 < 49
    · rw [if_pos hj]
      exact SUi_at h hj (by omega)
    · rw [if_neg hj]
      rfl) z
def qd2 (e0 e1 g1 e2 m h : Int) : List Int := [h, m, e2, 0, 0, 0, 0, g1, e1, 0, 0, 0, 0, 0, e0]
def qd2f (e0 e1 g1 e2 m h x y w : Int) : Int := e0 * (x * x) + e1 * (x * y) + g1 * (x * w) + e2 * (y * y) + m * (y * w) + h * (w * w)
theorem qd2_e (e0 e1 g1 e2 m h z : Int) : evl (qd2 e0 e1 g1 e2 m h) z = qd2f e0 e1 g1 e2 m h (t7 z) z 1 := by
  unfold qd2 qd2f t7
  simp only [evl]
  grind
theorem qd2_E {E : Nat → Int} (h : SUi E 2) (z : Int) : evl (lfi E 49) z = evl (qd2 (E 14) (E 8) (E 7) (E 2) (E 1) (E 0)) z := evl_gd (fun i => by
  rw [gd_lfi]
  match i with
  | 0 => rfl
  | 1 => rfl
  | 2 => rfl
  | 3 => exact SUi_at h (by decide) (by decide)
  | 4 => exact SUi_at h (by decide) (by decide)
  | 5 => exact SUi_at h (by decide) (by decide)
  | 6 => exact SUi_at h (by decide) (by decide)
  | 7 => rfl
  | 8 => rfl
  | 9 => exact SUi_at h (by decide) (by decide)
  | 10 => exact SUi_at h (by decide) (by decide)
  | 11 => exact SUi_at h (by decide) (by decide)
  | 12 => exact SUi_at h (by decide) (by decide)
  | 13 => exact SUi_at h (by decide) (by decide)
  | 14 => rfl
  | j + 15 =>
    by_cases hj : j + 15 < 49
    · rw [if_pos hj]
      exact SUi_at h hj (by omega)
    · rw [if_neg hj]
      rfl) z
def ln1 (e g h : Int) : List Int := [h, g, 0, 0, 0, 0, 0, e]
def ln1f (e g h x y w : Int) : Int := e * (x) + g * (y) + h * (w)
theorem ln1_e (e g h z : Int) : evl (ln1 e g h) z = ln1f e g h (t7 z) z 1 := by
  unfold ln1 ln1f t7
  simp only [evl]
  grind
theorem ln1_E {E : Nat → Int} (h : SUi E 1) (z : Int) : evl (lfi E 49) z = evl (ln1 (E 7) (E 1) (E 0)) z := evl_gd (fun i => by
  rw [gd_lfi]
  match i with
  | 0 => rfl
  | 1 => rfl
  | 2 => exact SUi_at h (by decide) (by decide)
  | 3 => exact SUi_at h (by decide) (by decide)
  | 4 => exact SUi_at h (by decide) (by decide)
  | 5 => exact SUi_at h (by decide) (by decide)
  | 6 => exact SUi_at h (by decide) (by decide)
  | 7 => rfl
  | j + 8 =>
    by_cases hj : j + 8 < 49
    · rw [if_pos hj]
      exact SUi_at h hj (by omega)
    · rw [if_neg hj]
      rfl) z
def s2c (e0 e1 g1 e2 m h1 e3 n1 n2 k0 : Int) : Nat → Nat → Int
  | 6, 0 => e0 * e0
  | 5, 1 => 2 * e0 * e1
  | 5, 0 => 2 * e0 * g1
  | 4, 2 => 2 * e0 * e2 + e1 * e1
  | 4, 1 => 2 * e0 * m + 2 * e1 * g1
  | 4, 0 => 2 * e0 * h1 + g1 * g1
  | 3, 3 => 2 * e0 * e3 + 2 * e1 * e2
  | 3, 2 => 2 * e0 * n1 + (2 * e1 * m + 2 * e2 * g1)
  | 3, 1 => 2 * e0 * n2 + (2 * g1 * m + 2 * h1 * e1)
  | 3, 0 => 2 * e0 * k0 + 2 * g1 * h1
  | 2, 4 => 2 * e1 * e3 + e2 * e2
  | 2, 3 => 2 * e1 * n1 + (2 * e2 * m + 2 * e3 * g1)
  | 2, 2 => m * m + (2 * e1 * n2 + (2 * g1 * n1 + 2 * e2 * h1))
  | 2, 1 => 2 * g1 * n2 + (2 * h1 * m + 2 * k0 * e1)
  | 2, 0 => 2 * g1 * k0 + h1 * h1
  | 1, 5 => 2 * e2 * e3
  | 1, 4 => 2 * e2 * n1 + 2 * e3 * m
  | 1, 3 => 2 * e2 * n2 + (2 * m * n1 + 2 * h1 * e3)
  | 1, 2 => 2 * h1 * n1 + (2 * m * n2 + 2 * e2 * k0)
  | 1, 1 => 2 * h1 * n2 + 2 * k0 * m
  | 1, 0 => 2 * h1 * k0
  | 0, 6 => e3 * e3
  | 0, 5 => 2 * e3 * n1
  | 0, 4 => n1 * n1 + 2 * e3 * n2
  | 0, 3 => 2 * e3 * k0 + 2 * n1 * n2
  | 0, 2 => n2 * n2 + 2 * k0 * n1
  | 0, 1 => 2 * k0 * n2
  | 0, 0 => k0 * k0
  | _, _ => 0
theorem s2c_e (e0 e1 g1 e2 m h1 e3 n1 n2 k0 x y w : Int) : hom6 (s2c e0 e1 g1 e2 m h1 e3 n1 n2 k0) x y w = cb3f e0 e1 g1 e2 m h1 e3 n1 n2 k0 x y w * cb3f e0 e1 g1 e2 m h1 e3 n1 n2 k0 x y w := by
  unfold hom6 cb3f
  simp only [s2c]
  grind
def s3c (e0 e1 g1 e2 m h : Int) : Nat → Nat → Int
  | 6, 0 => e0 * e0 * e0
  | 5, 1 => 3 * (e0 * e0) * e1
  | 5, 0 => 3 * (e0 * e0) * g1
  | 4, 2 => 3 * (e0 * e0) * e2 + 3 * e0 * (e1 * e1)
  | 4, 1 => 3 * (e0 * e0) * m + 6 * e0 * (e1 * g1)
  | 4, 0 => 3 * (e0 * e0) * h + 3 * e0 * (g1 * g1)
  | 3, 3 => 6 * e0 * (e1 * e2) + e1 * e1 * e1
  | 3, 2 => 6 * (e0 * m) * e1 + (3 * (e1 * e1) * g1 + 6 * e0 * (e2 * g1))
  | 3, 1 => 6 * (e0 * m) * g1 + (3 * (g1 * g1) * e1 + 6 * e0 * (h * e1))
  | 3, 0 => 6 * e0 * (g1 * h) + g1 * g1 * g1
  | 2, 4 => 3 * e0 * (e2 * e2) + 3 * (e1 * e1) * e2
  | 2, 3 => 6 * (e0 * m) * e2 + (3 * (e1 * e1) * m + 6 * e1 * (e2 * g1))
  | 2, 2 => 3 * (e0 * m) * m + (6 * e0 * (e2 * h) + (6 * e1 * (g1 * m) + (3 * (e1 * e1) * h + 3 * (g1 * g1) * e2)))
  | 2, 1 => 6 * (e0 * m) * h + (3 * (g1 * g1) * m + 6 * g1 * (h * e1))
  | 2, 0 => 3 * e0 * (h * h) + 3 * (g1 * g1) * h
  | 1, 5 => 3 * e1 * (e2 * e2)
  | 1, 4 => 6 * e1 * (e2 * m) + 3 * (e2 * e2) * g1
  | 1, 3 => 3 * e1 * (m * m) + (6 * e1 * (e2 * h) + 6 * g1 * (e2 * m))
  | 1, 2 => 3 * g1 * (m * m) + (6 * g1 * (h * e2) + 6 * e1 * (h * m))
  | 1, 1 => 6 * g1 * (h * m) + 3 * (h * h) * e1
  | 1, 0 => 3 * g1 * (h * h)
  | 0, 6 => e2 * e2 * e2
  | 0, 5 => 3 * (e2 * e2) * m
  | 0, 4 => 3 * e2 * (m * m) + 3 * (e2 * e2) * h
  | 0, 3 => m * m * m + 6 * e2 * (h * m)
  | 0, 2 => 3 * h * (m * m) + 3 * (h * h) * e2
  | 0, 1 => 3 * (h * h) * m
  | 0, 0 => h * h * h
  | _, _ => 0
theorem s3c_e (e0 e1 g1 e2 m h x y w : Int) : hom6 (s3c e0 e1 g1 e2 m h) x y w = qd2f e0 e1 g1 e2 m h x y w * (qd2f e0 e1 g1 e2 m h x y w * qd2f e0 e1 g1 e2 m h x y w) := by
  unfold hom6 qd2f
  simp only [s3c]
  grind
def s6l (e g h : Int) : Nat → Nat → Int
  | 6, 0 => e * (e * (e * (e * (e * e))))
  | 5, 1 => 6 * (e * (e * (e * (e * (e * g)))))
  | 5, 0 => 6 * (e * (e * (e * (e * (e * h)))))
  | 4, 2 => 15 * (e * (e * (e * (e * (g * g)))))
  | 4, 1 => 30 * (e * (e * (e * (e * (g * h)))))
  | 4, 0 => 15 * (e * (e * (e * (e * (h * h)))))
  | 3, 3 => 20 * (e * (e * (e * (g * (g * g)))))
  | 3, 2 => 60 * (e * (e * (e * (g * (g * h)))))
  | 3, 1 => 60 * (e * (e * (e * (g * (h * h)))))
  | 3, 0 => 20 * (e * (e * (e * (h * (h * h)))))
  | 2, 4 => 15 * (e * (e * (g * (g * (g * g)))))
  | 2, 3 => 60 * (e * (e * (g * (g * (g * h)))))
  | 2, 2 => 90 * (e * (e * (g * (g * (h * h)))))
  | 2, 1 => 60 * (e * (e * (g * (h * (h * h)))))
  | 2, 0 => 15 * (e * (e * (h * (h * (h * h)))))
  | 1, 5 => 6 * (e * (g * (g * (g * (g * g)))))
  | 1, 4 => 30 * (e * (g * (g * (g * (g * h)))))
  | 1, 3 => 60 * (e * (g * (g * (g * (h * h)))))
  | 1, 2 => 60 * (e * (g * (g * (h * (h * h)))))
  | 1, 1 => 30 * (e * (g * (h * (h * (h * h)))))
  | 1, 0 => 6 * (e * (h * (h * (h * (h * h)))))
  | 0, 6 => g * (g * (g * (g * (g * g))))
  | 0, 5 => 6 * (g * (g * (g * (g * (g * h)))))
  | 0, 4 => 15 * (g * (g * (g * (g * (h * h)))))
  | 0, 3 => 20 * (g * (g * (g * (h * (h * h)))))
  | 0, 2 => 15 * (g * (g * (h * (h * (h * h)))))
  | 0, 1 => 6 * (g * (h * (h * (h * (h * h)))))
  | 0, 0 => h * (h * (h * (h * (h * h))))
  | _, _ => 0
theorem s6l_e (e g h x y w : Int) : hom6 (s6l e g h) x y w = ln1f e g h x y w * (ln1f e g h x y w * (ln1f e g h x y w * (ln1f e g h x y w * (ln1f e g h x y w * (ln1f e g h x y w))))) := by
  unfold hom6 ln1f
  simp only [s6l]
  grind
def s5l (e g h : Int) : Nat → Nat → Int
  | 6, 0 => 0
  | 5, 1 => 0
  | 5, 0 => e * (e * (e * (e * e)))
  | 4, 2 => 0
  | 4, 1 => 5 * (e * (e * (e * (e * g))))
  | 4, 0 => 5 * (e * (e * (e * (e * h))))
  | 3, 3 => 0
  | 3, 2 => 10 * (e * (e * (e * (g * g))))
  | 3, 1 => 20 * (e * (e * (e * (g * h))))
  | 3, 0 => 10 * (e * (e * (e * (h * h))))
  | 2, 4 => 0
  | 2, 3 => 10 * (e * (e * (g * (g * g))))
  | 2, 2 => 30 * (e * (e * (g * (g * h))))
  | 2, 1 => 30 * (e * (e * (g * (h * h))))
  | 2, 0 => 10 * (e * (e * (h * (h * h))))
  | 1, 5 => 0
  | 1, 4 => 5 * (e * (g * (g * (g * g))))
  | 1, 3 => 20 * (e * (g * (g * (g * h))))
  | 1, 2 => 30 * (e * (g * (g * (h * h))))
  | 1, 1 => 20 * (e * (g * (h * (h * h))))
  | 1, 0 => 5 * (e * (h * (h * (h * h))))
  | 0, 6 => 0
  | 0, 5 => g * (g * (g * (g * g)))
  | 0, 4 => 5 * (g * (g * (g * (g * h))))
  | 0, 3 => 10 * (g * (g * (g * (h * h))))
  | 0, 2 => 10 * (g * (g * (h * (h * h))))
  | 0, 1 => 5 * (g * (h * (h * (h * h))))
  | 0, 0 => h * (h * (h * (h * h)))
  | _, _ => 0
theorem s5l_e (e g h x y w : Int) : hom6 (s5l e g h) x y w = w * (ln1f e g h x y w * (ln1f e g h x y w * (ln1f e g h x y w * (ln1f e g h x y w * (ln1f e g h x y w))))) := by
  unfold hom6 ln1f
  simp only [s5l]
  grind
def s4l (e g h : Int) : Nat → Nat → Int
  | 6, 0 => 0
  | 5, 1 => 0
  | 5, 0 => 0
  | 4, 2 => 0
  | 4, 1 => 0
  | 4, 0 => e * (e * (e * e))
  | 3, 3 => 0
  | 3, 2 => 0
  | 3, 1 => 4 * (e * (e * (e * g)))
  | 3, 0 => 4 * (e * (e * (e * h)))
  | 2, 4 => 0
  | 2, 3 => 0
  | 2, 2 => 6 * (e * (e * (g * g)))
  | 2, 1 => 12 * (e * (e * (g * h)))
  | 2, 0 => 6 * (e * (e * (h * h)))
  | 1, 5 => 0
  | 1, 4 => 0
  | 1, 3 => 4 * (e * (g * (g * g)))
  | 1, 2 => 12 * (e * (g * (g * h)))
  | 1, 1 => 12 * (e * (g * (h * h)))
  | 1, 0 => 4 * (e * (h * (h * h)))
  | 0, 6 => 0
  | 0, 5 => 0
  | 0, 4 => g * (g * (g * g))
  | 0, 3 => 4 * (g * (g * (g * h)))
  | 0, 2 => 6 * (g * (g * (h * h)))
  | 0, 1 => 4 * (g * (h * (h * h)))
  | 0, 0 => h * (h * (h * h))
  | _, _ => 0
theorem s4l_e (e g h x y w : Int) : hom6 (s4l e g h) x y w = w * w * (ln1f e g h x y w * (ln1f e g h x y w * (ln1f e g h x y w * (ln1f e g h x y w)))) := by
  unfold hom6 ln1f
  simp only [s4l]
  grind
