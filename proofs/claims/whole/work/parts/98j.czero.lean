theorem sq_fac {f : List Int} (hf : lprim f) : ∀ (K : Nat) (N : Int) (G : List Int), N.natAbs ≤ K → N ≠ 0 → (∀ t, N * evl f t = evl G t * evl G t) → ∃ (m : Int) (g : List Int), m ≠ 0 ∧ G = g.map (fun x => m * x) ∧ (N = m * m ∨ N = -(m * m))
  | 0, N, G, h, h0, _ => absurd (Int.natAbs_eq_zero.mp (Nat.le_zero.mp h)) h0
  | K + 1, N, G, h, h0, he => by
    by_cases q : 2 ≤ N.natAbs
    · obtain ⟨p, hp, hd⟩ := irr_ex _ _ (Nat.le_refl _) q
      have hd' : (p : Int) ∣ N := Int.ofNat_dvd_left.mpr hd
      obtain ⟨M, hM⟩ := hd'
      have pp : (p : Int) ≠ 0 := by have := hp.1; omega
      have h1 : ∀ i, (p : Int) ∣ conv G (gd G) i := prod_dvd (F := fun t => M * evl f t) ((Pf.con M).mul (Pf_evl f)) (fun t => by rw [← he t, hM, Int.mul_assoc])
      obtain ⟨d, hl, hdG⟩ := div_ls G (all_p hp h1)
      have e1 : ∀ t, M * evl f t = p * (evl d t * evl d t) := fun t => by
        apply Int.eq_of_mul_eq_mul_left pp
        have := he t
        rw [hdG, evl_map, hM] at this
        rw [← Int.mul_assoc, this]
        clear this he h1
        grind
      obtain ⟨j, hj⟩ := hf p hp
      have e2 : (p : Int) ∣ M := by
        have u := evl_uq (l := f.map (fun x => M * x)) (m := (lmul d d).map (fun x => p * x)) (fun t => by rw [evl_map, evl_map, evl_mul, e1 t]) j
        rw [gd_map, gd_map] at u
        exact hp.pm ⟨_, u⟩ hj
      obtain ⟨M2, hM2⟩ := e2
      have e3 : ∀ t, M2 * evl f t = evl d t * evl d t := fun t => by
        apply Int.eq_of_mul_eq_mul_left pp
        rw [← e1 t, hM2, Int.mul_assoc]
      have hM20 : M2 ≠ 0 := fun z => h0 (by rw [hM, hM2, z]; omega)
      have hlt : M2.natAbs ≤ K := by
        have hp2 := hp.1
        have e4 : N.natAbs = p * (p * M2.natAbs) := by
          rw [hM, hM2, Int.natAbs_mul, Int.natAbs_mul]
          rfl
        have e5 : 2 * (2 * M2.natAbs) ≤ p * (p * M2.natAbs) := Nat.mul_le_mul hp2 (Nat.mul_le_mul hp2 (Nat.le_refl _))
        have : M2.natAbs ≠ 0 := fun z => hM20 (Int.natAbs_eq_zero.mp z)
        omega
      obtain ⟨m, g, hm, hg1, hg2⟩ := sq_fac hf K M2 d hlt hM20 e3
      refine ⟨p * m, g, fun z => ?_, ?_, ?_⟩
      · rcases Int.mul_eq_zero.mp z with y | y
        · exact pp y
        · exact hm y
      · rw [hdG, hg1, List.map_map]
        exact List.map_congr_left (fun x _ => by
          show (p : Int) * (m * x) = p * m * x
          rw [Int.mul_assoc])
      · rw [hM, hM2]
        rcases hg2 with z | z
        · left
          rw [z]
          clear he h1 e1 e3
          grind
        · right
          rw [z]
          clear he h1 e1 e3
          grind
    · refine ⟨1, G, by decide, ?_, by omega⟩
      have : G.map (fun x => 1 * x) = G.map id := List.map_congr_left (fun x _ => Int.one_mul x)
      rw [this, List.map_id]
def lq (e : Nat → Int) : List Int := [e 5, e 4, e 2, 0, 0, 0, 0, e 3, e 1, 0, 0, 0, 0, 0, e 0]
theorem evl_lq (e : Nat → Int) (t : Int) : evl (lq e) t = cE e (t7 t) t 1 := by
  unfold lq cE t7
  simp only [evl]
  grind
theorem Pf_t7 : Pf t7 := Pf.var.mul (Pf.var.mul (Pf.var.mul (Pf.var.mul (Pf.var.mul (Pf.var.mul Pf.var)))))
theorem Pf_q7 (G : Nat → Int) : Pf (fun t => qg G (t7 t) t 1) := by
  unfold qg
  repeat (first | exact Pf_t7 | exact Pf.var | exact Pf.con _ | apply Pf.add | apply Pf.mul)
theorem sqb {a s r : Int} {n : Nat} (h : s = a * a + 2 * r) (hs : s.natAbs < 2 ^ 60) (hr : r.natAbs < 2 ^ 60) : a.natAbs < 2 ^ 31 := by
  apply Nat.lt_of_not_le
  intro z
  have h1 : 2 ^ 31 * 2 ^ 31 ≤ a.natAbs * a.natAbs := Nat.mul_le_mul z z
  rw [← Int.natAbs_mul] at h1
  generalize a * a = y at *
  omega
theorem sqs {a : Int} (h : (a * a).natAbs < 2 ^ 60) : a.natAbs < 2 ^ 30 := by
  apply Nat.lt_of_not_le
  intro z
  have h1 : 2 ^ 30 * 2 ^ 30 ≤ a.natAbs * a.natAbs := Nat.mul_le_mul z z
  rw [← Int.natAbs_mul] at h1
  generalize a * a = y at *
  omega
theorem prb {a b : Int} (h : a.natAbs < 2 ^ 30) (h2 : b.natAbs < 2 ^ 30) : (a * b).natAbs < 2 ^ 60 := by
  rw [Int.natAbs_mul]
  have := Nat.mul_le_mul (Nat.le_of_lt_succ (Nat.lt_succ_of_lt h)) (Nat.le_of_lt_succ (Nat.lt_succ_of_lt h2))
  by_cases q : a.natAbs = 0
  · rw [q]
    omega
  · have := Nat.mul_lt_mul_of_lt_of_le h (Nat.le_of_lt h2) (by omega)
    omega
theorem lq_bound {q : Nat → Int} (h : ∀ i, (gd (lmul (lq q) (lq q)) i).natAbs < 2 ^ 60) : ∀ i, i < 6 → (q i).natAbs < 2 ^ 31 := by
  have e28 : gd (lmul (lq q) (lq q)) 28 = q 0 * q 0 := by simp [lq, lmul, ladd, gd]
  have e4 : gd (lmul (lq q) (lq q)) 4 = q 2 * q 2 := by simp [lq, lmul, ladd, gd]
  have e0 : gd (lmul (lq q) (lq q)) 0 = q 5 * q 5 := by simp [lq, lmul, ladd, gd]
  have e16 : gd (lmul (lq q) (lq q)) 16 = q 1 * q 1 + 2 * (q 0 * q 2) := by
    simp [lq, lmul, ladd, gd]
    grind
  have e14 : gd (lmul (lq q) (lq q)) 14 = q 3 * q 3 + 2 * (q 0 * q 5) := by
    simp [lq, lmul, ladd, gd]
    grind
  have e2 : gd (lmul (lq q) (lq q)) 2 = q 4 * q 4 + 2 * (q 2 * q 5) := by
    simp [lq, lmul, ladd, gd]
    grind
  have h28 := h 28
  have h4 := h 4
  have h0 := h 0
  rw [e28] at h28
  rw [e4] at h4
  rw [e0] at h0
  have b0 := sqs h28
  have b2 := sqs h4
  have b5 := sqs h0
  have b1 := sqb (n := 0) e16 (h 16) (prb b0 b2)
  have b3 := sqb (n := 0) e14 (h 14) (prb b0 b5)
  have b4 := sqb (n := 0) e2 (h 2) (prb b2 b5)
  intro i hi
  match i, hi with
  | 0, _ => omega
  | 1, _ => exact b1
  | 2, _ => omega
  | 3, _ => exact b3
  | 4, _ => exact b4
  | 5, _ => omega
