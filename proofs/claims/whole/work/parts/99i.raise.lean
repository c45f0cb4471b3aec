/-! rows of 49 numbers: degrees, products -/
def SU (f : Nat → Int64) (D : Int) : Prop := ∀ q : Int, 0 ≤ q → q < 49 → D < q / 7 + q % 7 → f q.toNat = 0
theorem SU_le {f : Nat → Int64} {D q : Int} (h : SU f D) (h0 : 0 ≤ q) (h1 : q < 49) (hne : ¬ f q.toNat = 0) : q / 7 + q % 7 ≤ D := by
  apply Classical.byContradiction
  intro z
  exact hne (h q h0 h1 (by omega))
theorem SU_z {f : Nat → Int64} {D : Int} (h : ∀ q : Int, 0 ≤ q → q < 49 → f q.toNat = 0) : SU f D := fun q a b _ => h q a b
theorem SU_u {f f' : Nat → Int64} {D q : Int} {x : Int64} (hq : 0 ≤ q) (hd : q / 7 + q % 7 ≤ D) (e : f' = vp_updL f q.toNat x) (h : SU f D) : SU f' D := fun p a b c => by
  rw [e, up_at hq a]
  by_cases z : p = q
  · subst z
    omega
  · rw [if_neg z]
    exact h p a b c
theorem rz_nd {n k D : Int} (hn : 0 ≤ n ∧ n < k) (hD : 0 ≤ D ∧ k * D ≤ 6) : n * D + D ≤ 6 ∧ 0 ≤ n * D := by
  have h1 : (n + 1) * D ≤ k * D := Int.mul_le_mul_of_nonneg_right (by omega) hD.1
  have h2 := Int.mul_nonneg hn.1 hD.1
  rw [Int.add_mul, Int.one_mul] at h1
  omega
theorem rz_i {m : Nat → Int64} {R : Int → Int} {D : Int} (h : ∀ q : Int, 0 ≤ q → q < 49 → m q.toNat = if q = 0 then 1 else 0) : CG (pw id m 49) (fun z => R z ^ (0 : Int).toNat) ∧ SU m (0 * D) := by
  refine ⟨CG.ex (fun t => ?_), fun q a b c => ?_⟩
  · rw [pw_c (g := vp_updL (fun _ => 0) 0 1) 49 (fun i hi => by
      have := h (i : Int) (by omega) (by omega)
      rw [Int.toNat_natCast] at this
      rw [this]
      show _ = if i = 0 then (1 : Int64) else 0
      by_cases e : i = 0
      · rw [if_pos e, if_pos (by omega)]
      · rw [if_neg e, if_neg (by omega)]), pw_up 49 (by decide), pw_0 49 (fun _ _ => rfl)]
    show 0 + ((1 : Int64).toInt - (0 : Int64).toInt) * t ^ 0 = R t ^ 0
    rw [Int.pow_zero, Int.pow_zero]
    rfl
  · rw [h q a b, if_neg (by omega)]
theorem rz_z {m P R : Nat → Int64} {S : Int} (h : ∀ q : Int, 0 ≤ q → q < 49 → m q.toNat = 0) : CG (pw id m 49) (fun z => pw id P (0 : Int).toNat z * pw id R 49 z) ∧ SU m S := by
  refine ⟨CG.ex (fun t => ?_), SU_z h⟩
  show _ = 0 * pw id R 49 t
  rw [Int.zero_mul]
  exact pw_0 49 (fun i hi => by
    have := h (i : Int) (by omega) (by omega)
    rw [Int.toNat_natCast] at this
    exact this) t
theorem rz_b0 {m P R : Nat → Int64} {a : Int} (h : CG (pw id m 49) (fun z => pw id P a.toNat z * pw id R 49 z)) : CG (pw id m 49) (fun z => pw id P a.toNat z * pw id R 49 z + (P a.toNat).toInt * z ^ a.toNat * pw id R (0 : Int).toNat z) := h.tr (CG.ex (fun t => by
  show _ = _ + _ * 0
  rw [Int.mul_zero, Int.add_zero]))
theorem rz_ae {m P R : Nat → Int64} {a b : Int} (ha : 0 ≤ a) (hb : b = 49 ∨ P a.toNat = 0) (h : CG (pw id m 49) (fun z => pw id P a.toNat z * pw id R 49 z + (P a.toNat).toInt * z ^ a.toNat * pw id R b.toNat z)) : CG (pw id m 49) (fun z => pw id P (a + 1).toNat z * pw id R 49 z) := h.tr (CG.ex (fun t => by
  rw [show (a + 1).toNat = a.toNat + 1 by omega, pw_s]
  show _ = (pw id P a.toNat t + (P a.toNat).toInt * t ^ a.toNat) * pw id R 49 t
  rcases hb with e | e
  · subst e
    rw [Int.add_mul]
    rfl
  · rw [e, show (0 : Int64).toInt = 0 from rfl, Int.zero_mul, Int.zero_mul, Int.add_zero, Int.add_zero]
    rfl))
theorem rz_bk {m R : Nat → Int64} {A : Int → Int} {c a : Int} {b : Int} (hb : 0 ≤ b) (h0 : R b.toNat = 0) (h : CG (pw id m 49) (fun z => A z + c * z ^ a.toNat * pw id R b.toNat z)) : CG (pw id m 49) (fun z => A z + c * z ^ a.toNat * pw id R (b + 1).toNat z) := h.tr (CG.ex (fun t => by
  rw [show (b + 1).toNat = b.toNat + 1 by omega, pw_s, h0, show (0 : Int64).toInt = 0 from rfl, Int.zero_mul, Int.add_zero]))
theorem rz_bw {m m' R : Nat → Int64} {A : Int → Int} {c : Int64} {a b : Int} (ha : 0 ≤ a) (hb : 0 ≤ b) (hab : a + b < 49) (e : m' = vp_updL m (a + b).toNat (m (a + b).toNat + c * R b.toNat)) (h : CG (pw id m 49) (fun z => A z + c.toInt * z ^ a.toNat * pw id R b.toNat z)) : CG (pw id m' 49) (fun z => A z + c.toInt * z ^ a.toNat * pw id R (b + 1).toNat z) := by
  rw [e]
  refine (CG_up (ix := id) (m := c.toInt * (R b.toNat).toInt) (by omega) (cq_add (cq_rf _) (cq_mul (cq_rf _) (cq_rf _))) h).tr (CG.ex (fun t => ?_))
  rw [show (b + 1).toNat = b.toNat + 1 by omega, pw_s]
  show A t + c.toInt * t ^ a.toNat * pw id R b.toNat t + c.toInt * (R b.toNat).toInt * t ^ (a + b).toNat = A t + c.toInt * t ^ a.toNat * (pw id R b.toNat t + (R b.toNat).toInt * t ^ b.toNat)
  rw [show (a + b).toNat = a.toNat + b.toNat by omega, Int.pow_add]
  generalize t ^ a.toNat = x
  generalize t ^ b.toNat = y
  grind
theorem rz_c {m mx : Nat → Int64} {F : Int → Int} (h : ∀ q : Int, 0 ≤ q → q < 49 → m q.toNat = mx q.toNat) (hc : CG (pw id mx 49) F) : CG (pw id m 49) F := (CG.ex (fun t => pw_c 49 (fun i hi => by
  have := h (i : Int) (by omega) (by omega)
  rw [Int.toNat_natCast] at this
  exact this) t)).tr hc
theorem SU_c {m mx : Nat → Int64} {D D' : Int} (e : D = D') (h : ∀ q : Int, 0 ≤ q → q < 49 → m q.toNat = mx q.toNat) (hc : SU mx D) : SU m D' := fun q a b c => by
  rw [h q a b]
  exact hc q a b (by omega)
theorem rz_n {m mx P R : Nat → Int64} {n : Int} (hn : 0 ≤ n) (h : ∀ q : Int, 0 ≤ q → q < 49 → m q.toNat = mx q.toNat) (hP : CG (pw id P 49) (fun z => pw id R 49 z ^ n.toNat)) (hc : CG (pw id mx 49) (fun z => pw id P (49 : Int).toNat z * pw id R 49 z)) : CG (pw id m 49) (fun z => pw id R 49 z ^ (n + 1).toNat) := by
  refine (rz_c h hc).tr ((CG.mr (Pf_pw id R 49) hP).tr (CG.ex (fun t => ?_)))
  rw [show (n + 1).toNat = n.toNat + 1 by omega, Int.pow_succ]
theorem cp_s {m m' mx : Nat → Int64} {i : Int} (hi : 0 ≤ i) (e : m' = vp_updL m i.toNat (mx i.toNat)) (h : ∀ q : Int, 0 ≤ q → q < i → m q.toNat = mx q.toNat) : ∀ q : Int, 0 ≤ q → q < i + 1 → m' q.toNat = mx q.toNat := fun q a b => by
  rw [e, up_at hi a]
  by_cases z : q = i
  · rw [if_pos z, z]
  · rw [if_neg z]
    exact h q a (by omega)
theorem pi_s {m m' : Nat → Int64} {i : Int} {x : Int64} (hi : 0 ≤ i) (e : m' = vp_updL m i.toNat x) (hx : x = if i = 0 then 1 else 0) (h : ∀ q : Int, 0 ≤ q → q < i → m q.toNat = if q = 0 then 1 else 0) : ∀ q : Int, 0 ≤ q → q < i + 1 → m' q.toNat = if q = 0 then 1 else 0 := fun q a b => by
  rw [e, up_at hi a]
  by_cases z : q = i
  · rw [if_pos z, z]
    exact hx
  · rw [if_neg z]
    exact h q a (by omega)
