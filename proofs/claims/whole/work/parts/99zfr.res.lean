/-! what a curve's equation is: the primitive multiple, its root, the greatest power; it is one alone -/
def fst (f : Nat → Int) (i0 j0 : Nat) : Prop := i0 + j0 ≤ 6 ∧ 0 < f (7 * i0 + j0) ∧ ∀ a b, a + b ≤ 6 → wt i0 j0 < wt a b → f (7 * a + b) = 0
def PRM (Φ : Int → Int → Int) (f : Nat → Int) (i0 j0 : Nat) : Prop := (∃ c : Int, c ≠ 0 ∧ ∀ x y : Int, Φ x y = c * hom6 (fun a b => f (7 * a + b)) x y 1) ∧ lprim (lfi f 49) ∧ SUi f 6 ∧ fst f i0 j0
def ROT (k : Nat) (f : Nat → Int) (i0 j0 : Nat) (E : Nat → Int) : Prop := 2 ≤ k ∧ (i0 % k = 0 ∧ j0 % k = 0) ∧ SUi E (i0 / k + j0 / k) ∧ 0 < E (7 * (i0 / k) + j0 / k) ∧ (∀ a b, a + b ≤ 6 → wt (i0 / k) (j0 / k) < wt a b → E (7 * a + b) = 0) ∧ tru k f E
def RES (Φ : Int → Int → Int) (k : Nat) (E : Nat → Int) (D : Nat) : Prop := ∃ (f : Nat → Int) (i0 j0 : Nat), PRM Φ f i0 j0 ∧ 1 ≤ i0 + j0 ∧ (1 ≤ k ∧ k ≤ i0 + j0) ∧ D = (i0 + j0) / k ∧ ((k = 1 ∧ ∀ i, i < 49 → E i = f i) ∨ ROT k f i0 j0 E) ∧ ∀ k', k < k' → k' ≤ i0 + j0 → ¬ ∃ E', ROT k' f i0 j0 E'
theorem wt_inj {a b c d : Nat} (h1 : a + b ≤ 6) (h2 : c + d ≤ 6) (h : wt a b = wt c d) : a = c ∧ b = d := by
  unfold wt at h
  omega
theorem gd_top (l : List Int) : ∀ n : Nat, (∀ i, n ≤ i → gd l i = 0) → (∀ i, gd l i = 0) ∨ ∃ m, gd l m ≠ 0 ∧ ∀ i, m < i → gd l i = 0
  | 0, h => Or.inl (fun i => h i (Nat.zero_le i))
  | n + 1, h => by
    by_cases z : gd l n = 0
    · refine gd_top l n (fun i hi => ?_)
      by_cases e : i = n
      · rw [e]
        exact z
      · exact h i (by omega)
    · exact Or.inr ⟨n, z, fun i hi => h i (by omega)⟩
theorem SUi_le {E : Nat → Int} {D D' : Nat} (h : D ≤ D') (s : SUi E D) : SUi E D' := fun a b ha hb hab => s a b ha hb (by omega)
theorem SU_cell {E F : Nat → Int} (h1 : SUi E 6) (h2 : SUi F 6) (h : ∀ a b, a + b ≤ 6 → E (7 * a + b) = F (7 * a + b)) : ∀ i, i < 49 → E i = F i := fun i hi => by
  by_cases q : i / 7 + i % 7 ≤ 6
  · have := h (i / 7) (i % 7) q
    rw [show 7 * (i / 7) + i % 7 = i by omega] at this
    exact this
  · rw [SUi_at h1 hi (by omega), SUi_at h2 hi (by omega)]
theorem PRM_uq {Φ : Int → Int → Int} {f f' : Nat → Int} {i0 j0 i1 j1 : Nat} (h : PRM Φ f i0 j0) (h' : PRM Φ f' i1 j1) : i0 = i1 ∧ j0 = j1 ∧ ∀ i, i < 49 → f i = f' i := by
  obtain ⟨⟨c, c0, hc⟩, hp, su, f1, f2, f3⟩ := h
  obtain ⟨⟨d, d0, hd⟩, hp', su', g1, g2, g3⟩ := h'
  have e : ∀ a b, a + b ≤ 6 → c * f (7 * a + b) = d * f' (7 * a + b) := hom6_uq (s := fun a b => c * f (7 * a + b)) (t := fun a b => d * f' (7 * a + b)) (fun x y => by rw [hom6_l (fun a b => f (7 * a + b)), hom6_l (fun a b => f' (7 * a + b)), ← hc, ← hd])
  have k1 : d ∣ c := lp_dvd hp su (fun a b hab => ⟨f' (7 * a + b), e a b hab⟩)
  have k2 : c ∣ d := lp_dvd hp' su' (fun a b hab => ⟨f (7 * a + b), (e a b hab).symm⟩)
  have k3 : c.natAbs = d.natAbs := Nat.dvd_antisymm (Int.natAbs_dvd_natAbs.mpr k2) (Int.natAbs_dvd_natAbs.mpr k1)
  have z : ∀ a b, a + b ≤ 6 → (f (7 * a + b) = 0 ↔ f' (7 * a + b) = 0) := fun a b hab => by
    have q := e a b hab
    constructor
    · intro r
      rw [r, Int.mul_zero] at q
      exact (Int.mul_eq_zero.mp q.symm).resolve_left d0
    · intro r
      rw [r, Int.mul_zero] at q
      exact (Int.mul_eq_zero.mp q).resolve_left c0
  have w1 : ¬ wt i0 j0 < wt i1 j1 := fun q => by
    have := (z i1 j1 g1).mp (f3 i1 j1 g1 q)
    omega
  have w2 : ¬ wt i1 j1 < wt i0 j0 := fun q => by
    have := (z i0 j0 f1).mpr (g3 i0 j0 f1 q)
    omega
  obtain ⟨ei, ej⟩ := wt_inj f1 g1 (by omega)
  subst ei
  subst ej
  have cd : c = d := by
    have : c = d ∨ c = -d := by omega
    rcases this with r | r
    · exact r
    · exfalso
      have q := e i0 j0 f1
      rw [r] at q
      have q2 : d * (f (7 * i0 + j0) + f' (7 * i0 + j0)) = 0 := by
        rw [Int.mul_add, ← q, Int.neg_mul]
        omega
      have := (Int.mul_eq_zero.mp q2).resolve_left d0
      omega
  subst cd
  exact ⟨rfl, rfl, SU_cell su su' (fun a b hab => Int.eq_of_mul_eq_mul_left c0 (e a b hab))⟩
/-- the lead of a root -/
theorem tru_w8 {k : Nat} {f E : Nat → Int} (h : tru k f E) (t : Int) : hom6 (fun a b => E (7 * a + b)) (t8 t) (t7 t) 1 ^ k = evl (w8 (fun a b => f (7 * a + b))) t := by
  rw [evl_w8]
  exact h (t8 t) (t7 t)
theorem kdiv {k i j : Nat} (hk : 1 ≤ k) (hi : i % k = 0) (hj : j % k = 0) : i = k * (i / k) ∧ j = k * (j / k) ∧ k * (i / k + j / k) = i + j := by
  have a := Nat.div_add_mod i k
  have b := Nat.div_add_mod j k
  rw [Nat.mul_add]
  omega
theorem ROT_ld {k i0 j0 : Nat} {f E : Nat → Int} (h6 : i0 + j0 ≤ 6) (h : ROT k f i0 j0 E) : E (7 * (i0 / k) + j0 / k) ^ k = f (7 * i0 + j0) := by
  obtain ⟨hk, ⟨hi, hj⟩, su, l0, hz, ht⟩ := h
  obtain ⟨ei, ej, es⟩ := kdiv (by omega) hi hj
  have d6 : i0 / k + j0 / k ≤ 6 := by
    have := Nat.mul_le_mul (show 1 ≤ k by omega) (Nat.le_refl (i0 / k + j0 / k))
    omega
  obtain ⟨l, l1, l2, l3⟩ := (Tp_w8 d6 hz).pow k
  have u := evl_uq (l := w8 (fun a b => f (7 * a + b))) (m := l) (fun t => by rw [← tru_w8 ht]; exact l1 t) (k * wt (i0 / k) (j0 / k))
  have ew : k * wt (i0 / k) (j0 / k) = 7 * (i0 + j0) + i0 := by
    unfold wt
    rw [Nat.mul_add, Nat.mul_left_comm, es, ← ei]
  rw [l3, ew, gd_w8a _ h6] at u
  exact u.symm
theorem pow_uq {a b : Int} {k : Nat} (hk : 1 ≤ k) (ha : 0 < a) (hb : 0 < b) (h : a ^ k = b ^ k) : a = b := by
  obtain ⟨m, rfl⟩ := Int.eq_ofNat_of_zero_le (Int.le_of_lt ha)
  obtain ⟨n, rfl⟩ := Int.eq_ofNat_of_zero_le (Int.le_of_lt hb)
  have e : m ^ k = n ^ k := by exact_mod_cast h
  have k1 : m = n := by
    rcases Nat.lt_trichotomy m n with q | q | q
    · have := Nat.pow_lt_pow_left q (show k ≠ 0 by omega)
      omega
    · exact q
    · have := Nat.pow_lt_pow_left q (show k ≠ 0 by omega)
      omega
  rw [k1]
theorem ROT_uq {k i0 j0 : Nat} {f E E' : Nat → Int} (h6 : i0 + j0 ≤ 6) (h : ROT k f i0 j0 E) (h' : ROT k f i0 j0 E') : ∀ i, i < 49 → E i = E' i := by
  have le := ROT_ld h6 h
  have le' := ROT_ld h6 h'
  obtain ⟨hk, ⟨hi, hj⟩, su, l0, hz, ht⟩ := h
  obtain ⟨_, _, su', l0', hz', ht'⟩ := h'
  obtain ⟨ei, ej, es⟩ := kdiv (show 1 ≤ k by omega) hi hj
  have d6 : i0 / k + j0 / k ≤ 6 := by
    have := Nat.mul_le_mul (show 1 ≤ k by omega) (Nat.le_refl (i0 / k + j0 / k))
    omega
  have el := pow_uq (show 1 ≤ k by omega) l0 l0' (le.trans le'.symm)
  have he := Tp_w8 d6 hz
  have hp := Tp_w8 d6 hz'
  rw [← el] at hp
  refine SU_cell (SUi_le d6 su) (SUi_le d6 su') (fun a b hab => ?_)
  have key : ∀ i, gd (w8 (fun a b => E (7 * a + b) - E' (7 * a + b))) i = 0 := by
    rcases gd_top (w8 (fun a b => E (7 * a + b) - E' (7 * a + b))) 49 (fun i hi => gd_fin _ _ (by show 49 ≤ i; exact hi)) with q | ⟨m, m1, m2⟩
    · exact q
    · exfalso
      have hr : Tp (fun t => hom6 (fun a b => E (7 * a + b)) (t8 t) (t7 t) 1 - hom6 (fun a b => E' (7 * a + b)) (t8 t) (t7 t) 1) m (gd (w8 (fun a b => E (7 * a + b) - E' (7 * a + b))) m) := ⟨_, fun t => by rw [evl_w8, hom6_sub], m2, rfl⟩
      obtain ⟨l, l1, l2, l3⟩ := root_top (k := k) (by omega) he hp hr
      have u := evl_uq (l := l) (m := []) (fun t => by
        rw [← l1 t]
        show hom6 (fun a b => E (7 * a + b)) (t8 t) (t7 t) 1 ^ k - hom6 (fun a b => E' (7 * a + b)) (t8 t) (t7 t) 1 ^ k = 0
        rw [tru_w8 ht, tru_w8 ht']
        omega) (m + (k - 1) * wt (i0 / k) (j0 / k))
      rw [l3] at u
      have hk0 : (k : Int) ≠ 0 := by omega
      exact Int.mul_ne_zero m1 (Int.mul_ne_zero hk0 (Int.pow_ne_zero (by omega))) u
  have := key (7 * (a + b) + a)
  rw [gd_w8a _ hab] at this
  omega
theorem RES_uq {Φ : Int → Int → Int} {k k' D D' : Nat} {E E' : Nat → Int} (h : RES Φ k E D) (h' : RES Φ k' E' D') : k = k' ∧ D = D' ∧ ∀ i, i < 49 → E i = E' i := by
  obtain ⟨f, i0, j0, p, d1, ⟨k1, k2⟩, eD, hr, hn⟩ := h
  obtain ⟨g, i1, j1, p', d1', ⟨k1', k2'⟩, eD', hr', hn'⟩ := h'
  obtain ⟨ei, ej, ef⟩ := PRM_uq p p'
  subst ei
  subst ej
  have tc : ∀ {q : Nat} {F : Nat → Int}, ROT q f i0 j0 F ↔ ROT q g i0 j0 F := fun {q F} => by
    have e : ∀ x y : Int, hom6 (fun a b => f (7 * a + b)) x y 1 = hom6 (fun a b => g (7 * a + b)) x y 1 := fun x y => hom6_eq (fun a b hab => ef _ (by omega)) x y 1
    unfold ROT tru
    constructor
    · rintro ⟨a1, a2, a3, a4, a5, a6⟩
      exact ⟨a1, a2, a3, a4, a5, fun x y => by rw [a6 x y, e]⟩
    · rintro ⟨a1, a2, a3, a4, a5, a6⟩
      exact ⟨a1, a2, a3, a4, a5, fun x y => by rw [a6 x y, e]⟩
  have lt1 : ¬ k < k' := fun q => by
    refine hn k' q k2' ?_
    rcases hr' with ⟨r, _⟩ | r
    · omega
    · exact ⟨E', tc.mpr r⟩
  have lt2 : ¬ k' < k := fun q => by
    refine hn' k q k2 ?_
    rcases hr with ⟨r, _⟩ | r
    · omega
    · exact ⟨E, tc.mp r⟩
  have ek : k = k' := by omega
  subst ek
  refine ⟨rfl, by rw [eD, eD'], fun i hi => ?_⟩
  rcases hr with ⟨r, e1⟩ | r
  · rcases hr' with ⟨_, e2⟩ | r'
    · rw [e1 i hi, e2 i hi, ef i hi]
    · have := r'.1
      omega
  · rcases hr' with ⟨r', _⟩ | r'
    · have := r.1
      omega
    · exact ROT_uq p.2.2.2.1 (tc.mp r) r' i hi
/-- the cells of a power -/
theorem hom_pow {k D : Nat} {P : Nat → Int} (hk : 2 ≤ k) (hD : k * D ≤ 6) (su : SUi P D) : ∃ T : Nat → Int, tru k T P := by
  have hD3 : D ≤ 3 := by
    have := Nat.mul_le_mul hk (Nat.le_refl D)
    omega
  have mk : ∀ t : Nat → Nat → Int, (∀ x y : Int, hom6 (fun a b => P (7 * a + b)) x y 1 ^ k = hom6 t x y 1) → ∃ T : Nat → Int, tru k T P := fun t ht => ⟨fun c => t (c / 7) (c % 7), fun x y => by
    rw [ht x y]
    exact hom6_eq (fun a b hab => by
      dsimp only
      rw [show (7 * a + b) / 7 = a by omega, show (7 * a + b) % 7 = b by omega]) x y 1⟩
  by_cases d1 : D ≤ 1
  · have su1 : SUi P 1 := SUi_le d1 su
    have v : ∀ x y : Int, hom6 (fun a b => P (7 * a + b)) x y 1 = ln1f (P 7) (P 1) (P 0) x y 1 := fun x y => by
      rw [hom6_ln1 su1]
      omega
    by_cases d0 : D = 0
    · have su0 : SUi P 0 := SUi_le (by omega) su
      refine mk (fun a b => if a = 0 ∧ b = 0 then P 0 ^ k else 0) (fun x y => ?_)
      have z7 : P 7 = 0 := su0 1 0 (by decide) (by decide) (by decide)
      have z1 : P 1 = 0 := su0 0 1 (by decide) (by decide) (by decide)
      rw [v, z7, z1]
      unfold ln1f hom6
      simp
    · have hk6 : k = 2 ∨ k = 3 ∨ k = 4 ∨ k = 5 ∨ k = 6 := by
        have : k * 1 ≤ k * D := Nat.mul_le_mul (Nat.le_refl k) (by omega)
        omega
      rcases hk6 with r | r | r | r | r <;> subst r
      · refine mk (s2c 0 0 0 0 0 (P 7) 0 0 (P 1) (P 0)) (fun x y => ?_)
        rw [s2c_e, v]
        unfold ln1f cb3f
        grind
      · refine mk (s3c 0 0 (P 7) 0 (P 1) (P 0)) (fun x y => ?_)
        rw [s3c_e, v]
        unfold ln1f qd2f
        grind
      · refine mk (s4l (P 7) (P 1) (P 0)) (fun x y => ?_)
        rw [s4l_e, v, ipow4]
        simp only [Int.one_mul]
      · refine mk (s5l (P 7) (P 1) (P 0)) (fun x y => ?_)
        rw [s5l_e, v, ipow5]
        simp only [Int.one_mul]
      · refine mk (s6l (P 7) (P 1) (P 0)) (fun x y => ?_)
        rw [s6l_e, v, ipow6]
  · have k3 : k = 2 ∨ (k = 3 ∧ D = 2) := by
      rcases Nat.lt_or_ge k 3 with q | q
      · omega
      · right
        have h2 : k * 2 ≤ k * D := Nat.mul_le_mul (Nat.le_refl k) (by omega)
        have : 3 * D ≤ k * D := Nat.mul_le_mul q (Nat.le_refl D)
        omega
    rcases k3 with r | ⟨r, q⟩
    · subst r
      have su3 : SUi P 3 := SUi_le hD3 su
      refine mk (s2c (P 21) (P 15) (P 14) (P 9) (P 8) (P 7) (P 3) (P 2) (P 1) (P 0)) (fun x y => ?_)
      have v : hom6 (fun a b => P (7 * a + b)) x y 1 = cb3f (P 21) (P 15) (P 14) (P 9) (P 8) (P 7) (P 3) (P 2) (P 1) (P 0) x y 1 := by
        rw [hom6_cb3 su3]
        omega
      rw [s2c_e, v, Int.pow_succ, Int.pow_succ, Int.pow_zero, Int.one_mul]
    · subst r
      subst q
      refine mk (s3c (P 14) (P 8) (P 7) (P 2) (P 1) (P 0)) (fun x y => ?_)
      have v : hom6 (fun a b => P (7 * a + b)) x y 1 = qd2f (P 14) (P 8) (P 7) (P 2) (P 1) (P 0) x y 1 := by
        rw [hom6_qd2 su]
        omega
      rw [s3c_e, v, Int.pow_succ, Int.pow_succ, Int.pow_succ, Int.pow_zero, Int.one_mul, Int.mul_assoc]
/-- cells of the machine -/
def ci (f : Nat → Int64) : Nat → Int := fun i => (f i).toInt
theorem ci_h6 {f : Nat → Int64} (h : SUi (ci f) 6) (z : Int) : pw id f 49 z = hom6 (fun a b => ci f (7 * a + b)) (t7 z) z 1 := by
  rw [pw_evl, ← evl_l6]
  exact evl_gd (fun i => by
    rw [gd_lsf]
    by_cases hi : i < 49
    · rw [if_pos hi]
      by_cases h6 : i / 7 + i % 7 ≤ 6
      · have := gd_l6 (fun a b => ci f (7 * a + b)) (i / 7) (i % 7) h6
        rw [show 7 * (i / 7) + i % 7 = i by omega] at this
        exact this.symm
      · rw [gd_l6z _ i (by omega)]
        exact SUi_at h hi (by omega)
    · rw [if_neg hi]
      exact (gd_fin _ _ (by show 43 ≤ i; omega)).symm) z
theorem SU_ci {f : Nat → Int64} {D : Int} (h0 : 0 ≤ D) (h : SU f D) : SUi (ci f) D.toNat := fun a b ha hb hab => by
  have := h (7 * a + b : Nat) (by omega) (by omega) (by omega)
  rw [Int.toNat_natCast] at this
  show (f (7 * a + b)).toInt = 0
  rw [this]
  rfl
theorem pw_cell {p r : Nat → Int64} {k D : Nat} {T : Nat → Int} (hk : 2 ≤ k) (hD : k * D ≤ 6) (su : SUi (ci r) D) (hT : tru k T (ci r)) (h : CG (pw id p 49) (fun z => pw id r 49 z ^ k)) : ∀ a b, a + b ≤ 6 → cq (p (7 * a + b)) (T (7 * a + b)) := fun a b hab => by
  have d6 : D ≤ 6 := by
    have := Nat.mul_le_mul (show 1 ≤ k by omega) (Nat.le_refl D)
    omega
  have h2 : CG (pw id p 49) (evl (l6 (fun a b => T (7 * a + b)))) := h.tr (CG.ex (fun z => by rw [ci_h6 (SUi_le d6 su), hT, evl_l6]))
  have h3 := CG_at h2 (7 * a + b) (by omega)
  rw [gd_l6 _ a b hab] at h3
  exact h3
theorem pw_true {p r w : Nat → Int64} {k D : Nat} (hk : 2 ≤ k) (hD : k * D ≤ 6) (su : SUi (ci r) D) (sw : SUi (ci w) 6) (ht : tru k (ci w) (ci r)) (h : CG (pw id p 49) (fun z => pw id r 49 z ^ k)) : ∀ i, i < 49 → p i = w i := fun i hi => by
  have d6 : D ≤ 6 := by
    have := Nat.mul_le_mul (show 1 ≤ k by omega) (Nat.le_refl D)
    omega
  have h2 : CG (pw id p 49) (evl (l6 (fun a b => ci w (7 * a + b)))) := h.tr (CG.ex (fun z => by rw [ci_h6 (SUi_le d6 su), ht, evl_l6]))
  have h3 := CG_at h2 i hi
  have e : gd (l6 (fun a b => ci w (7 * a + b))) i = (w i).toInt := by
    by_cases h6 : i / 7 + i % 7 ≤ 6
    · have := gd_l6 (fun a b => ci w (7 * a + b)) (i / 7) (i % 7) h6
      rw [show 7 * (i / 7) + i % 7 = i by omega] at this
      exact this
    · rw [gd_l6z _ i (by omega)]
      exact (SUi_at sw hi (by omega)).symm
  rw [e] at h3
  exact Int64.toInt_inj.mp (cq_small h3 (i64_b _).1 (i64_b _).2)
/-- sizes of a root's digits -/
theorem ROT_sz {k i0 j0 S : Nat} {f E : Nat → Int} (h6 : i0 + j0 ≤ 6) (h : ROT k f i0 j0 E) (hS : sS (fun a b => f (7 * a + b)) ≤ S) (a b : Nat) (hab : a + b ≤ 6) : (E (7 * a + b) * ((k : Int) * E (7 * (i0 / k) + j0 / k) ^ (k - 1))).natAbs ≤ k * S ∧ (E (7 * a + b)).natAbs ^ k ≤ S := by
  obtain ⟨hk, ⟨hi, hj⟩, su, l0, hz, ht⟩ := h
  obtain ⟨ei, ej, es⟩ := kdiv (show 1 ≤ k by omega) hi hj
  have d6 : i0 / k + j0 / k ≤ 6 := by
    have := Nat.mul_le_mul (show 1 ≤ k by omega) (Nat.le_refl (i0 / k + j0 / k))
    omega
  have c1 := cauchy hk (by omega) su ht hS a b hab
  have c2 := cauchy hk (by omega) su ht hS (i0 / k) (j0 / k) d6
  refine ⟨?_, c1⟩
  rw [Int.natAbs_mul, Int.natAbs_mul, Int.natAbs_pow, Int.natAbs_natCast, Nat.mul_left_comm]
  refine Nat.mul_le_mul (Nat.le_refl k) ?_
  generalize (E (7 * a + b)).natAbs = x at *
  generalize (E (7 * (i0 / k) + j0 / k)).natAbs = y at *
  obtain ⟨q, rfl⟩ : ∃ q, k = q + 1 := ⟨k - 1, by omega⟩
  rw [Nat.add_sub_cancel]
  rw [Nat.pow_succ] at c1 c2
  rcases Nat.le_total x y with r | r
  · have := Nat.mul_le_mul r (Nat.le_refl (y ^ q))
    rw [Nat.mul_comm] at c2
    omega
  · have := Nat.mul_le_mul (Nat.le_refl x) (Nat.pow_le_pow_left r q)
    rw [Nat.mul_comm] at c1
    omega
