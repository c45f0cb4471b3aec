theorem lk_gd (a b c : Int) : ∀ i, gd (lk a b c) i = if i = 0 then c else if i = 1 then b else if i = 7 then a else 0
  | 0 => rfl
  | 1 => rfl
  | 2 => rfl
  | 3 => rfl
  | 4 => rfl
  | 5 => rfl
  | 6 => rfl
  | 7 => rfl
  | j + 8 => by
    rw [if_neg (by omega), if_neg (by omega), if_neg (by omega)]
    rfl
theorem lq_gd (e : Nat → Int) : ∀ i, gd (lq e) i = if i = 0 then e 5 else if i = 1 then e 4 else if i = 2 then e 2 else if i = 7 then e 3 else if i = 8 then e 1 else if i = 14 then e 0 else 0
  | 0 => rfl
  | 1 => rfl
  | 2 => rfl
  | 3 => rfl
  | 4 => rfl
  | 5 => rfl
  | 6 => rfl
  | 7 => rfl
  | 8 => rfl
  | 9 => rfl
  | 10 => rfl
  | 11 => rfl
  | 12 => rfl
  | 13 => rfl
  | 14 => rfl
  | j + 15 => by
    rw [if_neg (by omega), if_neg (by omega), if_neg (by omega), if_neg (by omega), if_neg (by omega), if_neg (by omega)]
    rfl
theorem E_lk {E : Nat → Int} (h : SUi E 1) (t : Int) : evl (lfi E 49) t = evl (lk (E 7) (E 1) (E 0)) t := evl_gd (fun i => by
  rw [lk_gd, gd_lfi]
  by_cases h0 : i = 0
  · subst h0
    rfl
  by_cases h1 : i = 1
  · subst h1
    rfl
  by_cases h7 : i = 7
  · subst h7
    rfl
  rw [if_neg h0, if_neg h1, if_neg h7]
  by_cases hi : i < 49
  · rw [if_pos hi]
    exact SUi_at h hi (by omega)
  · rw [if_neg hi]) t
def eE (E : Nat → Int) (m : Nat) : Int := match m with
  | 0 => E 14
  | 1 => E 8
  | 2 => E 2
  | 3 => E 7
  | 4 => E 1
  | _ => E 0
theorem E_lq {E : Nat → Int} (h : SUi E 2) (t : Int) : evl (lfi E 49) t = evl (lq (eE E)) t := evl_gd (fun i => by
  rw [lq_gd, gd_lfi]
  by_cases h0 : i = 0
  · subst h0
    rfl
  by_cases h1 : i = 1
  · subst h1
    rfl
  by_cases h2 : i = 2
  · subst h2
    rfl
  by_cases h7 : i = 7
  · subst h7
    rfl
  by_cases h8 : i = 8
  · subst h8
    rfl
  by_cases h14 : i = 14
  · subst h14
    rfl
  rw [if_neg h0, if_neg h1, if_neg h2, if_neg h7, if_neg h8, if_neg h14]
  by_cases hi : i < 49
  · rw [if_pos hi]
    exact SUi_at h hi (by omega)
  · rw [if_neg hi]) t
theorem qE_lk {E : Nat → Int} (h : SUi E 1) (x y w : Int) : qg (c15 E) x y w = w * w * w * (E 7 * x + E 1 * y + E 0 * w) := by
  have k := fun i (hi : i < 49) (hd : 1 < i / 7 + i % 7) => SUi_at h hi hd
  unfold qg c15
  simp only [ix15]
  rw [k 28 (by decide) (by decide), k 22 (by decide) (by decide), k 16 (by decide) (by decide), k 10 (by decide) (by decide), k 4 (by decide) (by decide), k 21 (by decide) (by decide), k 15 (by decide) (by decide), k 9 (by decide) (by decide), k 3 (by decide) (by decide), k 14 (by decide) (by decide), k 8 (by decide) (by decide), k 2 (by decide) (by decide)]
  clear k h
  grind
theorem qE_lq {E : Nat → Int} (h : SUi E 2) (x y w : Int) : qg (c15 E) x y w = w * w * cE (eE E) x y w := by
  have k := fun i (hi : i < 49) (hd : 2 < i / 7 + i % 7) => SUi_at h hi hd
  unfold qg c15 cE
  simp only [ix15, eE]
  rw [k 28 (by decide) (by decide), k 22 (by decide) (by decide), k 16 (by decide) (by decide), k 10 (by decide) (by decide), k 4 (by decide) (by decide), k 21 (by decide) (by decide), k 15 (by decide) (by decide), k 9 (by decide) (by decide), k 3 (by decide) (by decide)]
  clear k h
  grind
/-- over a plane the eliminant is the n-th power of the plane: its degree is n -/
theorem plane_deg {n : Nat} {X Y W f : Nat → Int} {c : Int} (hn : n = 3 ∨ n = 4) (hm : ∀ i j l, i < 5 → j < 5 → l < 5 → d3 X Y W i j l = 0) (hc : c ≠ 0) (hf : ∀ t, c * evl (lfi f 49) t = Fz n X Y W (t7 t) t 1) (h1 : f (7 * n) = 0) (h2 : f n = 0) {i : Nat} (hi : 1 ≤ i) (hi9 : i < 49) (hne : f i ≠ 0) : False := by
  have n49 : n < 49 ∧ 7 * n < 49 := by omega
  have hcz : ∀ (F : List Int), (∀ t, c * evl (lfi f 49) t = evl F t) → ∀ j, j < 49 → c * f j = gd F j := fun F h j hj => by
    have u := evl_uq (l := (lfi f 49).map (fun x => c * x)) (m := F) (fun t => by rw [evl_map, h t]) j
    rw [gd_map, gd_lfi, if_pos hj] at u
    exact u
  by_cases hx : ∃ i j, i < 5 ∧ j < 5 ∧ ∃ x y w : Int, m3 X Y W x y w i j ≠ 0
  · obtain ⟨a, b, c0, _, _, μ, hμ⟩ := plane_mu hm hx
    have fin : ∀ κ : Int, κ * a = 0 ∨ a = 0 → κ * b = 0 ∨ b = 0 → (∀ t, c * evl (lfi f 49) t = κ * (a * t7 t + b * t + c0 * 1) ^ n) → False := fun κ ha hb he => by
      by_cases k0 : κ = 0
      · have := hcz [] (fun t => by rw [he t, k0, Int.zero_mul]; rfl) i hi9
        rcases Int.mul_eq_zero.mp this with z | z
        · exact hc z
        · exact hne z
      · have a0 : a = 0 := by
          rcases ha with z | z
          · exact (Int.mul_eq_zero.mp z).resolve_left k0
          · exact z
        have b0 : b = 0 := by
          rcases hb with z | z
          · exact (Int.mul_eq_zero.mp z).resolve_left k0
          · exact z
        have := hcz [κ * (c0 * 1) ^ n] (fun t => by
          rw [he t, a0, b0, Int.zero_mul, Int.zero_mul, Int.zero_add, Int.zero_add]
          show _ = κ * (c0 * 1) ^ n + t * 0
          omega) i hi9
        obtain ⟨j, rfl⟩ : ∃ j, i = j + 1 := ⟨i - 1, by omega⟩
        have this : c * f (j + 1) = 0 := this
        rcases Int.mul_eq_zero.mp this with z | z
        · exact hc z
        · exact hne z
    have pz : ∀ {κ z : Int} {m : Nat}, κ * z ^ m = 0 → κ * z = 0 ∨ z = 0 := fun {κ z m} h => by
      by_cases z0 : z = 0
      · exact Or.inr z0
      · rcases Int.mul_eq_zero.mp h with y | y
        · left
          rw [y, Int.zero_mul]
        · exact absurd y (Int.pow_ne_zero z0)
    rcases hn with rfl | rfl
    · obtain ⟨k, hk⟩ := (plane_F hμ).2.1
      have hq : ∀ t, c * evl (lfi f 49) t = evl ((lmul (lmul (lk a b c0) (lk a b c0)) (lk a b c0)).map (fun x => k * x)) t := fun t => by
        rw [hf t, evl_map, evl_mul, evl_mul, evl_lk]
        show F3 X Y W (t7 t) t 1 * 1 = _
        rw [Int.mul_one, hk]
      have e1 := hcz _ hq 21 (by decide)
      have e2 := hcz _ hq 3 (by decide)
      rw [gd_map] at e1 e2
      have g1 : gd (lmul (lmul (lk a b c0) (lk a b c0)) (lk a b c0)) 21 = a * a * a := by simp [lk, lmul, ladd, gd]
      have g2 : gd (lmul (lmul (lk a b c0) (lk a b c0)) (lk a b c0)) 3 = b * b * b := by simp [lk, lmul, ladd, gd]
      rw [g1] at e1
      rw [g2] at e2
      have h1 : f 21 = 0 := h1
      rw [h1, Int.mul_zero] at e1
      rw [h2, Int.mul_zero] at e2
      refine fin k (pz (m := 3) ?_) (pz (m := 3) ?_) (fun t => by rw [hq t, evl_map, evl_mul, evl_mul, evl_lk]; congr 1; grind)
      · rw [show a ^ 3 = a * a * a by grind]
        exact e1.symm
      · rw [show b ^ 3 = b * b * b by grind]
        exact e2.symm
    · obtain ⟨k, hk⟩ := (plane_F hμ).2.2
      have hq : ∀ t, c * evl (lfi f 49) t = evl ((lmul (lmul (lk a b c0) (lk a b c0)) (lmul (lk a b c0) (lk a b c0))).map (fun x => k * x)) t := fun t => by
        rw [hf t, evl_map, evl_mul, evl_mul, evl_lk]
        show FF X Y W (t7 t) t 1 = _
        rw [hk]
      have e1 := hcz _ hq 28 (by decide)
      have e2 := hcz _ hq 4 (by decide)
      rw [gd_map] at e1 e2
      have g1 : gd (lmul (lmul (lk a b c0) (lk a b c0)) (lmul (lk a b c0) (lk a b c0))) 28 = a * a * (a * a) := by simp [lk, lmul, ladd, gd]
      have g2 : gd (lmul (lmul (lk a b c0) (lk a b c0)) (lmul (lk a b c0) (lk a b c0))) 4 = b * b * (b * b) := by simp [lk, lmul, ladd, gd]
      rw [g1] at e1
      rw [g2] at e2
      have h1 : f 28 = 0 := h1
      rw [h1, Int.mul_zero] at e1
      rw [h2, Int.mul_zero] at e2
      refine fin k (pz (m := 4) ?_) (pz (m := 4) ?_) (fun t => by rw [hq t, evl_map, evl_mul, evl_mul, evl_lk]; congr 1; grind)
      · rw [show a ^ 4 = a * a * (a * a) by grind]
        exact e1.symm
      · rw [show b ^ 4 = b * b * (b * b) by grind]
        exact e2.symm
  · have z : ∀ i j, i < 5 → j < 5 → ∀ x y w : Int, m3 X Y W x y w i j = 0 := fun i j hi hj x y w => Classical.byContradiction fun y' => hx ⟨i, j, hi, hj, x, y, w, y'⟩
    have := hcz [] (fun t => by
      rw [hf t]
      show _ = (0 : Int)
      rcases hn with rfl | rfl
      · show F3 X Y W (t7 t) t 1 * 1 = 0
        unfold F3
        rw [z 0 1 (by decide) (by decide), z 0 2 (by decide) (by decide), z 0 3 (by decide) (by decide)]
        unfold dd3
        omega
      · show FF X Y W (t7 t) t 1 = 0
        unfold FF
        rw [z 0 1 (by decide) (by decide), z 0 2 (by decide) (by decide), z 0 3 (by decide) (by decide), z 0 4 (by decide) (by decide)]
        unfold dS det4
        grind) i hi9
    rcases Int.mul_eq_zero.mp this with z | z
    · exact hc z
    · exact hne z
def kroot (k d : Nat) (f E : Nat → Int) : Prop := (k = 1 ∧ ∀ i, i < 49 → E i = f i) ∨ (2 ≤ k ∧ k ∣ d ∧ SUi E (d / k) ∧ (∀ i, i < 49 → (E i).natAbs * k ≤ 2 ^ 63) ∧ ∃ H : Int → Int, Pf H ∧ ∀ t, evl (lfi E 49) t ^ k = evl (lfi f 49) t + 18446744073709551616 * H t)
theorem trace_curve {n d k : Nat} {X Y W f E : Nat → Int} {c : Int} (h1 : 1 ≤ n) (hn : n ≤ 4) (hz : ∀ i, n < i → i < 5 → X i = 0 ∧ Y i = 0 ∧ W i = 0) (hW : ∃ t, pv W t ≠ 0) (hc : c ≠ 0) (hf : ∀ t, c * evl (lfi f 49) t = Fz n X Y W (t7 t) t 1) (hp : lprim (lfi f 49)) (bf : ∀ i, (gd (lfi f 49) i).natAbs < 2 ^ 60) (hd1 : 1 ≤ d) (hdn : d ≤ n) (hsu : SUi f d) (hne : ∃ i, 1 ≤ i ∧ i < 49 ∧ f i ≠ 0) (h7 : n = 4 → b7 X Y W) (hb : ∀ i j l, i < 5 → j < 5 → l < 5 → (d3 X Y W i j l).natAbs < 2 ^ 21) (hk : kroot k d f E) (t : Int) : qg (c15 E) (pv X t) (pv Y t) (pv W t) = 0 := by
  have hb4 : n = 4 → ∀ i j l, i < 5 → j < 5 → l < 5 → (d3 X Y W i j l).natAbs < 2 ^ 16 := fun e i j l hi hj hl => by
    have := b7_P (h7 e) i j l hi hj hl
    omega
  rcases hk with ⟨_, hE⟩ | ⟨k2, hkd, hsE, bE, H, hH, hr⟩
  · have e : qg (c15 E) (pv X t) (pv Y t) (pv W t) = qg (c15 f) (pv X t) (pv Y t) (pv W t) := by
      have := qg_15 (φ := c15 E) (ψ := c15 f) (c := 1) (fun m _ => by rw [Int.one_mul]; exact hE _ (ix15_lt m)) (pv X t) (pv Y t) (pv W t)
      rw [this, Int.one_mul]
    rw [e]
    have := Fz_f hf (pv X t) (pv Y t) (pv W t)
    rw [Fz_curve h1 hn hz] at this
    rcases Int.mul_eq_zero.mp this.symm with z | z
    · exact absurd z hc
    · exact z
  · have hcase : (k = 2 ∧ d = 2) ∨ (k = 3 ∧ d = 3) ∨ (k = 4 ∧ d = 4) ∨ (k = 2 ∧ d = 4) := by
      obtain ⟨q, hq⟩ := hkd
      have : d ≤ 4 := by omega
      have hkle : k ≤ d := Nat.le_of_dvd (by omega) ⟨q, hq⟩
      have : k = 2 ∨ k = 3 ∨ k = 4 := by omega
      rcases this with rfl | rfl | rfl <;> omega
    have line : (k = 2 ∨ k = 3 ∨ k = 4) → d = k → qg (c15 E) (pv X t) (pv Y t) (pv W t) = 0 := fun hk hdk => by
      subst hdk
      rw [Nat.div_self (by omega)] at hsE
      have hr' : ∀ t, evl (lk (E 7) (E 1) (E 0)) t ^ d = evl (lfi f 49) t + 18446744073709551616 * H t := fun t => by
        rw [← E_lk hsE]
        exact hr t
      have ho := odd_root hp hd1 hH hr'
      have hm := line_min h1 hn hz hW hc hf hsu hk hdn hb4 hb ho hH hr'
      have be7 := bE 7 (by decide)
      have be1 := bE 1 (by decide)
      have be0 := bE 0 (by decide)
      by_cases hnd : n = d
      · subst hnd
        have hL : ∀ i, i < 5 → E 7 * X i + E 1 * Y i + E 0 * W i = 0 := by
          rcases hk with rfl | rfl | rfl
          · exact fun i hi => line_zero2 hm hp hc (fun t => by
              rw [hf t]
              show F2 X Y W (t7 t) t 1 * (1 * 1) = _
              omega) hH ho (fun t => by
              have := hr' t
              generalize evl (lk (E 7) (E 1) (E 0)) t = z at *
              rw [show z ^ 2 = z * z by grind] at this
              omega) ⟨by omega, by omega, by omega⟩ bf i hi
          · exact fun i hi => line_zero3 hm hp hc (fun t => by
              rw [hf t]
              show F3 X Y W (t7 t) t 1 * 1 = _
              omega) hH ho (fun t => by
              have := hr' t
              generalize evl (lk (E 7) (E 1) (E 0)) t = z at *
              rw [show z ^ 3 = z * z * z by grind] at this
              omega) ⟨by omega, by omega, by omega⟩ bf i hi
          · exact fun i hi => line_zero4 hm hp hc (fun t => by
              rw [hf t]
              rfl) hH ho (fun t => by
              have := hr' t
              generalize evl (lk (E 7) (E 1) (E 0)) t = z at *
              rw [show z ^ 4 = z * z * (z * z) by grind] at this
              omega) ⟨by omega, by omega, by omega⟩ bf i hi
        rw [qE_lk hsE]
        have : E 7 * pv X t + E 1 * pv Y t + E 0 * pv W t = 0 := by
          have l0 := hL 0 (by decide)
          have l1 := hL 1 (by decide)
          have l2 := hL 2 (by decide)
          have l3 := hL 3 (by decide)
          have l4 := hL 4 (by decide)
          have e : E 7 * pv X t + E 1 * pv Y t + E 0 * pv W t = (E 7 * X 0 + E 1 * Y 0 + E 0 * W 0) + t * (E 7 * X 1 + E 1 * Y 1 + E 0 * W 1) + t * t * (E 7 * X 2 + E 1 * Y 2 + E 0 * W 2) + t * t * t * (E 7 * X 3 + E 1 * Y 3 + E 0 * W 3) + t * t * t * t * (E 7 * X 4 + E 1 * Y 4 + E 0 * W 4) := by
            unfold pv
            clear l0 l1 l2 l3 l4 hL hm be7 be1 be0
            grind
          rw [e, l0, l1, l2, l3, l4]
          simp
        rw [this, Int.mul_zero]
      · exfalso
        obtain ⟨i, hi1, hi2, hi3⟩ := hne
        have hn34 : n = 3 ∨ n = 4 := by omega
        have s1 : f (7 * n) = 0 := by
          have := hsu n 0 (by omega) (by decide) (by omega)
          exact this
        have s2 : f n = 0 := by
          have := hsu 0 n (by decide) (by omega) (by omega)
          rw [show 7 * 0 + n = n by omega] at this
          exact this
        exact plane_deg hn34 hm hc hf s1 s2 hi1 hi2 hi3
    rcases hcase with ⟨rfl, rfl⟩ | ⟨rfl, rfl⟩ | ⟨rfl, rfl⟩ | ⟨rfl, rfl⟩
    · exact line (by decide) rfl
    · exact line (by decide) rfl
    · exact line (by decide) rfl
    · have n4 : n = 4 := by omega
      subst n4
      have hsE : SUi E 2 := hsE
      have hr' : ∀ t, evl (lq (eE E)) t ^ 2 = evl (lfi f 49) t + 18446744073709551616 * H t := fun t => by
        rw [← E_lq hsE]
        exact hr t
      have ho := odd_root hp (by decide) hH hr'
      obtain ⟨G, hG⟩ := form_f (ψ := cc2 (eE E) (eE E)) hH (fun t => by
        rw [← cc2_e, ← evl_lq, ← hr' t]
        generalize evl (lq (eE E)) t = z
        grind)
      have hq : ∀ x y w : Int, qg (c15 f) x y w = cE (eE E) x y w * cE (eE E) x y w - 2 ^ 64 * qg G x y w := fun x y w => by
        have := qg_add hG x y w
        rw [← cc2_e] at this
        omega
      have hS : SQ X Y W (eE E) G c := fun x y w => by
        rw [← hq]
        exact Fz_f hf x y w
      have hv : ∀ t, evl (lfi f 49) t = cE (eE E) (t7 t) t 1 * cE (eE E) (t7 t) t 1 - 2 ^ 64 * qg G (t7 t) t 1 := fun t => by
        apply Int.eq_of_mul_eq_mul_left hc
        rw [hf t]
        exact hS (t7 t) t 1
      have be : ∀ i, i < 6 → (eE E i).natAbs ≤ 2 ^ 62 := fun i hi => by
        match i, hi with
        | 0, _ => have := bE 14 (by decide); show (E 14).natAbs ≤ _; omega
        | 1, _ => have := bE 8 (by decide); show (E 8).natAbs ≤ _; omega
        | 2, _ => have := bE 2 (by decide); show (E 2).natAbs ≤ _; omega
        | 3, _ => have := bE 7 (by decide); show (E 7).natAbs ≤ _; omega
        | 4, _ => have := bE 1 (by decide); show (E 1).natAbs ≤ _; omega
        | 5, _ => have := bE 0 (by decide); show (E 0).natAbs ≤ _; omega
      have he : ∃ i, i < 6 ∧ eE E i % 2 = 1 := by
        obtain ⟨j, hj⟩ := ho
        rw [lq_gd] at hj
        split at hj
        · exact ⟨5, by decide, hj⟩
        split at hj
        · exact ⟨4, by decide, hj⟩
        split at hj
        · exact ⟨2, by decide, hj⟩
        split at hj
        · exact ⟨3, by decide, hj⟩
        split at hj
        · exact ⟨1, by decide, hj⟩
        split at hj
        · exact ⟨0, by decide, hj⟩
        · exact absurd hj (by decide)
      have fin : cE (eE E) (pv X t) (pv Y t) (pv W t) = 0 := by
        by_cases hp3 : ∃ i j k, i < 5 ∧ j < 5 ∧ k < 5 ∧ d3 X Y W i j k ≠ 0
        · exact conic_end hS hc he (h7 rfl) hp3 hp hv bf be ho t
        · have hm : ∀ i j l, i < 5 → j < 5 → l < 5 → d3 X Y W i j l = 0 := fun i j l hi hj hl => Classical.byContradiction fun z => hp3 ⟨i, j, l, hi, hj, hl, z⟩
          by_cases hx : ∃ i j, i < 5 ∧ j < 5 ∧ ∃ x y w : Int, m3 X Y W x y w i j ≠ 0
          · obtain ⟨a, b, c0, _, _, μ, hμ⟩ := plane_mu hm hx
            obtain ⟨κ, hκ⟩ := (plane_F hμ).2.2
            by_cases k0 : κ = 0
            · exfalso
              exact lprim_ne hp hc (fun t => by
                rw [hf t]
                show FF X Y W (t7 t) t 1 = 0
                rw [hκ, k0, Int.zero_mul])
            · refine conic_zero (N := κ) (Q := fun m => κ * q2l a b c0 m) hS hc k0 (fun x y w => ?_) hp hv bf be ho t
              rw [hκ, cE_mul (q := q2l a b c0) (m := κ) (fun _ _ => rfl), q2l_e]
              generalize a * x + b * y + c0 * w = z
              grind
          · exfalso
            have z : ∀ i j, i < 5 → j < 5 → ∀ x y w : Int, m3 X Y W x y w i j = 0 := fun i j hi hj x y w => Classical.byContradiction fun y' => hx ⟨i, j, hi, hj, x, y, w, y'⟩
            exact lprim_ne hp hc (fun t => by
              rw [hf t]
              show FF X Y W (t7 t) t 1 = 0
              unfold FF
              rw [z 0 1 (by decide) (by decide), z 0 2 (by decide) (by decide), z 0 3 (by decide) (by decide), z 0 4 (by decide) (by decide)]
              unfold dS det4
              grind)
      rw [qE_lq hsE, fin, Int.mul_zero]
/-! by two letters u, v -/
def hv (X : Nat → Int) (n : Nat) (u v : Int) : Int := match n with
  | 0 => X 0
  | 1 => X 0 * v + X 1 * u
  | 2 => X 0 * (v * v) + X 1 * (u * v) + X 2 * (u * u)
  | 3 => X 0 * (v * v * v) + X 1 * (u * (v * v)) + X 2 * (u * u * v) + X 3 * (u * u * u)
  | _ => X 0 * (v * v * v * v) + X 1 * (u * (v * v * v)) + X 2 * (u * u * (v * v)) + X 3 * (u * u * u * v) + X 4 * (u * u * u * u)
theorem hv_t {X : Nat → Int} {n : Nat} (hn : n ≤ 4) (hz : ∀ i, n < i → i < 5 → X i = 0) (v t : Int) : hv X n (v * t) v = v ^ n * pv X t := by
  have : n = 0 ∨ n = 1 ∨ n = 2 ∨ n = 3 ∨ n = 4 := by omega
  rcases this with rfl | rfl | rfl | rfl | rfl
  · unfold pv
    rw [hz 1 (by decide) (by decide), hz 2 (by decide) (by decide), hz 3 (by decide) (by decide), hz 4 (by decide) (by decide)]
    show X 0 = _
    clear hz
    grind
  · unfold pv
    rw [hz 2 (by decide) (by decide), hz 3 (by decide) (by decide), hz 4 (by decide) (by decide)]
    show X 0 * v + X 1 * (v * t) = _
    clear hz
    grind
  · unfold pv
    rw [hz 3 (by decide) (by decide), hz 4 (by decide) (by decide)]
    show X 0 * (v * v) + X 1 * (v * t * v) + X 2 * (v * t * (v * t)) = _
    clear hz
    grind
  · unfold pv
    rw [hz 4 (by decide) (by decide)]
    show X 0 * (v * v * v) + X 1 * (v * t * (v * v)) + X 2 * (v * t * (v * t) * v) + X 3 * (v * t * (v * t) * (v * t)) = _
    clear hz
    grind
  · unfold pv
    show X 0 * (v * v * v * v) + X 1 * (v * t * (v * v * v)) + X 2 * (v * t * (v * t) * (v * v)) + X 3 * (v * t * (v * t) * (v * t) * v) + X 4 * (v * t * (v * t) * (v * t) * (v * t)) = _
    clear hz
    grind
theorem Pf_hu (X : Nat → Int) (n : Nat) (v : Int) : Pf (fun u => hv X n u v) := by
  unfold hv
  split <;> repeat (first | exact Pf.var | exact Pf.con _ | apply Pf.add | apply Pf.mul)
theorem Pf_hv (X : Nat → Int) (n : Nat) (u : Int) : Pf (fun v => hv X n u v) := by
  unfold hv
  split <;> repeat (first | exact Pf.var | exact Pf.con _ | apply Pf.add | apply Pf.mul)
theorem qg_s (G : Nat → Int) (s x y w : Int) : qg G (s * x) (s * y) (s * w) = s * s * (s * s) * qg G x y w := by
  unfold qg
  grind
theorem trace_uv {n : Nat} {X Y W p : Nat → Int} (hn : n ≤ 4) (hz : ∀ i, n < i → i < 5 → X i = 0 ∧ Y i = 0 ∧ W i = 0) (h : ∀ t, qg p (pv X t) (pv Y t) (pv W t) = 0) (u v : Int) : qg p (hv X n u v) (hv Y n u v) (hv W n u v) = 0 := by
  have hv1 : ∀ v, v ≠ 0 → ∀ u, qg p (hv X n u v) (hv Y n u v) (hv W n u v) = 0 := fun v h0 u => by
    refine van (Q := fun s => qg p (hv X n s v) (hv Y n s v) (hv W n s v)) (Pf_qG p (Pf_hu X n v) (Pf_hu Y n v) (Pf_hu W n v)) h0 (fun s => ?_) u
    rw [hv_t hn (fun i a b => (hz i a b).1), hv_t hn (fun i a b => (hz i a b).2.1), hv_t hn (fun i a b => (hz i a b).2.2), qg_s, h, Int.mul_zero]
  exact van1 (Q := fun s => qg p (hv X n u s) (hv Y n u s) (hv W n u s)) (Pf_qG p (Pf_hv X n u) (Pf_hv Y n u) (Pf_hv W n u)) (fun s hs => hv1 s (by omega) u) v
