theorem div_ls {n : Int} : ∀ (c : List Int), (∀ j, n ∣ gd c j) → ∃ d : List Int, d.length = c.length ∧ c = d.map (fun x => n * x)
  | [], _ => ⟨[], rfl, rfl⟩
  | a :: c, h => by
    obtain ⟨x, hx⟩ := h 0
    obtain ⟨d, h1, h2⟩ := div_ls c (fun j => h (j + 1))
    refine ⟨x :: d, by rw [List.length_cons, List.length_cons, h1], ?_⟩
    have hx : a = n * x := hx
    rw [List.map_cons, ← h2, ← hx]
theorem all_p {p : Nat} (hp : Irr p) {c : List Int} (h : ∀ i, (p : Int) ∣ conv c (gd c) i) (j : Nat) : (p : Int) ∣ gd c j := by
  by_cases q : ∃ j, ¬ (p : Int) ∣ gd c j
  · obtain ⟨j0, hj⟩ := q
    obtain ⟨i0, h0, h1⟩ := first_ex (P := fun i => ¬ (p : Int) ∣ gd c i) j0 j0 (Nat.le_refl _) hj
    obtain ⟨d, hd⟩ := conv_pm hp h0 (fun k hk => Classical.byContradiction fun q => h1 k hk q) c h
    rw [hd, gd_map]
    exact ⟨_, rfl⟩
  · exact Classical.byContradiction fun z => q ⟨j, z⟩
def lprim (f : List Int) : Prop := ∀ p, Irr p → ∃ j, ¬ (p : Int) ∣ gd f j
theorem sq_out {f : List Int} (hf : lprim f) : ∀ (K : Nat) (N : Int) (G : List Int), N.natAbs ≤ K → N ≠ 0 → (∀ t, N * evl f t = evl G t * evl G t) → ∃ g : List Int, g.length = G.length ∧ ((∀ t, evl f t = evl g t * evl g t) ∨ ∀ t, evl f t = -(evl g t * evl g t))
  | 0, N, G, h, h0, _ => absurd (Int.natAbs_eq_zero.mp (Nat.le_zero.mp h)) h0
  | K + 1, N, G, h, h0, he => by
    by_cases q : 2 ≤ N.natAbs
    · obtain ⟨p, hp, hd⟩ := irr_ex _ _ (Nat.le_refl _) q
      have hd' : (p : Int) ∣ N := Int.ofNat_dvd_left.mpr hd
      obtain ⟨M, hM⟩ := hd'
      have pp : (p : Int) ≠ 0 := by have := hp.1; omega
      have h1 : ∀ i, (p : Int) ∣ conv G (gd G) i := prod_dvd (F := fun t => M * evl f t) ((Pf.con M).mul (Pf_evl f)) (fun t => by rw [← he t, hM, Int.mul_assoc])
      obtain ⟨d, hl, hdG⟩ := div_ls G (all_p hp h1)
      have e1 : ∀ t, M * evl f t = p * (evl d t * evl d t) := fun t => by
        apply Int.eq_of_mul_eq_mul_left pp
        have := he t
        rw [hdG, evl_map, hM] at this
        rw [← Int.mul_assoc, this]
        clear this he h1
        grind
      obtain ⟨j, hj⟩ := hf p hp
      have e2 : (p : Int) ∣ M := by
        have u := evl_uq (l := f.map (fun x => M * x)) (m := (lmul d d).map (fun x => p * x)) (fun t => by rw [evl_map, evl_map, evl_mul, e1 t]) j
        rw [gd_map, gd_map] at u
        exact hp.pm ⟨_, u⟩ hj
      obtain ⟨M2, hM2⟩ := e2
      have e3 : ∀ t, M2 * evl f t = evl d t * evl d t := fun t => by
        apply Int.eq_of_mul_eq_mul_left pp
        rw [← e1 t, hM2, Int.mul_assoc]
      have hM20 : M2 ≠ 0 := fun z => h0 (by rw [hM, hM2, z]; omega)
      have hlt : M2.natAbs ≤ K := by
        have hp2 := hp.1
        have e4 : N.natAbs = p * (p * M2.natAbs) := by
          rw [hM, hM2, Int.natAbs_mul, Int.natAbs_mul]
          rfl
        have e5 : 2 * (2 * M2.natAbs) ≤ p * (p * M2.natAbs) := Nat.mul_le_mul hp2 (Nat.mul_le_mul hp2 (Nat.le_refl _))
        have : M2.natAbs ≠ 0 := fun z => hM20 (Int.natAbs_eq_zero.mp z)
        omega
      obtain ⟨g, hg1, hg2⟩ := sq_out hf K M2 d hlt hM20 e3
      exact ⟨g, by rw [hg1, hl], hg2⟩
    · refine ⟨G, rfl, ?_⟩
      have : N = 1 ∨ N = -1 := by omega
      rcases this with z | z
      · left
        intro t
        rw [← he t, z, Int.one_mul]
      · right
        intro t
        rw [← he t, z]
        omega
theorem sum_sq {e g : List Int} (he : lodd e) : ¬ ∀ j, (2 ^ (1 + 1) : Int) ∣ gd (ladd (lmul e e) (lmul g g)) j := fun z => by
  have s : ∀ j, (2 : Int) ∣ gd (ladd e g) j := all_even fun i => by
    have u := evl_uq (l := lmul (ladd e g) (ladd e g)) (m := ladd (ladd (lmul e e) (lmul g g)) ((lmul e g).map (fun x => 2 * x))) (fun t => by
      simp only [evl_add, evl_mul, evl_map]
      grind) i
    rw [← gd_mul, u, gd_add, gd_map]
    have := z i
    omega
  obtain ⟨d, _, hm⟩ := div_ls _ s
  have s2 : ∀ j, (2 : Int) ∣ conv e (gd e) j := fun j => by
    have u := evl_uq (l := ladd (lmul e e) (lmul g g)) (m := ladd ((lmul e e).map (fun x => 2 * x)) ((ladd (lmul d d) (lneg (lmul e d))).map (fun x => 4 * x))) (fun t => by
      have hv : evl e t + evl g t = 2 * evl d t := by rw [← evl_add, hm, evl_map]
      simp only [evl_add, evl_mul, evl_map, evl_neg]
      have hg : evl g t = 2 * evl d t - evl e t := by omega
      rw [hg]
      grind) j
    have z2 := z j
    rw [u, gd_add, gd_map, gd_map, gd_mul] at z2
    omega
  obtain ⟨j, hj⟩ := he
  have := all_even s2 j
  omega
/-- a square mod 2 ^ A that is a square up to a number: a root of it, near e -/
theorem root2 {A : Nat} {f e G : List Int} {N : Int} {F : Int → Int} (hA : 2 ≤ A) (hf : lprim f) (hN : N ≠ 0) (hF : Pf F) (he : lodd e) (hG : ∀ t, N * evl f t = evl G t * evl G t) (h : ∀ t, evl e t * evl e t - evl f t = 2 ^ A * F t) : ∃ g : List Int, g.length = G.length ∧ (∀ t, evl f t = evl g t * evl g t) ∧ ((∀ i, (2 ^ (A - 1) : Int) ∣ gd e i - gd g i) ∨ ∀ i, (2 ^ (A - 1) : Int) ∣ gd e i + gd g i) := by
  obtain ⟨g, h1, h2 | h2⟩ := sq_out hf _ N G (Nat.le_refl _) hN hG
  · exact ⟨g, h1, h2, uq2 (by omega) hF he (fun t => by rw [← h2 t]; exact h t)⟩
  · exfalso
    obtain ⟨r, hr⟩ := hF
    refine sum_sq (g := g) he fun j => ?_
    have u := evl_uq (l := ladd (lmul e e) (lmul g g)) (m := r.map (fun x => 2 ^ A * x)) (fun t => by
      rw [evl_add, evl_mul, evl_mul, evl_map, ← hr t, ← h t, h2 t]
      omega) j
    rw [u, gd_map]
    exact Int.dvd_trans (pw_le_dvd (i := 1 + 1) hA ⟨1, by rw [Int.mul_one]⟩) (Int.dvd_mul_right _ _)
