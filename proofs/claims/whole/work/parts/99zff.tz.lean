/-! tell's yes for the envelope, with the root's digits -/
def TZ (w tr : Nat → Int64) (dg : Int32) : Prop := ∃ (f : Nat → Int64) (c d k fi : Int), c ≠ 0 ∧ (∀ i, i < 49 → (w i).toInt = c * (f i).toInt) ∧ lprim (lsf f 49) ∧ 1 ≤ d ∧ SU f d ∧ (0 ≤ fi ∧ fi < 49 ∧ fi / 7 + fi % 7 = d ∧ f fi.toNat ≠ 0 ∧ ∀ a b : Int, 0 ≤ a → a < 7 → 0 ≤ b → b < 7 → f (7 * a + b).toNat ≠ 0 → a + b = d → a ≤ fi / 7) ∧ 1 ≤ k ∧ dg = zI (d / k) ∧ ((k = 1 ∧ ∀ i, i < 49 → tr i = f i) ∨ (2 ≤ k ∧ PWz tr f k fi))
theorem PWz_c {r tr f : Nat → Int64} {k fi : Int} (hk : 2 ≤ k) (hf : 0 ≤ fi ∧ fi < 49) (h : PWz r f k fi) (n : ∀ q : Int, 0 ≤ q → q < 49 → tr q.toNat = r q.toNat) : PWz tr f k fi := by
  obtain ⟨ri, rj, L, a1, a2, a3, a4, a5, ⟨b1, b2, b3⟩, a7, a8, a9⟩ := h
  have c1 : 1 * ri ≤ k * ri := Int.mul_le_mul_of_nonneg_right (by omega) a1
  have c2 : 1 * rj ≤ k * rj := Int.mul_le_mul_of_nonneg_right (by omega) a2
  refine ⟨ri, rj, L, a1, a2, a3, a4, SU_c rfl n a5, ⟨by rw [n _ (by omega) (by omega)]; exact b1, fun q x y z => by rw [n q x y]; exact b2 q x y z, fun q x y z u => by rw [n q x y]; exact b3 q x y z u⟩, a7, a8, (CG.ex (fun t => by rw [pw_eq n t])).tr a9⟩
theorem te_endz {w f tr r : Nat → Int64} {x y : Int64} {d k fi : Int} {dg : Int32} (hs : sz60 w) (h : CGr w 49 x) (hy0 : ¬ y = 0) (hy : y = x ∨ y = -x) (hf : ∀ q : Int, 0 ≤ q → q < 49 → f q.toNat = w q.toNat / y) (hd : 1 ≤ d) (h3 : ∀ a b : Int, 0 ≤ a → a < 7 → 0 ≤ b → b < 7 → w (7 * a + b).toNat ≠ 0 → a + b ≤ d) (hk : 1 ≤ k) (hdg : dg = zI (d / k)) (hfi : 0 ≤ fi ∧ fi < 49 ∧ w fi.toNat ≠ 0 ∧ fi / 7 + fi % 7 = d ∧ ∀ a b : Int, 0 ≤ a → a < 7 → 0 ≤ b → b < 7 → w (7 * a + b).toNat ≠ 0 → a + b = fi / 7 + fi % 7 → a ≤ fi / 7) (hr : k = 1 ∨ (2 ≤ k ∧ PWz r f k fi)) (htr : ∀ q : Int, 0 ≤ q → q < 49 → tr q.toNat = if 1 < k then r q.toNat else f q.toNat) {w' : Nat → Int64} (hw' : ∀ q : Int, 0 ≤ q → q < 49 → w q.toNat = w' q.toNat) : TZ w' tr dg := by
  obtain ⟨y0, hw, hp⟩ := te_div hs h hy0 hy hf
  have n : ∀ i, i < 49 → w i = w' i := fun i hi => by
    have := hw' (i : Int) (by omega) (by omega)
    rw [Int.toNat_natCast] at this
    exact this
  have z0 : ∀ i, i < 49 → (w i = 0 ↔ f i = 0) := fun i hi => by
    have e := hw i hi
    constructor
    · intro z
      rw [z, show (0 : Int64).toInt = 0 from rfl] at e
      rcases Int.mul_eq_zero.mp e.symm with q | q
      · exact absurd q y0
      · exact i64_z q
    · intro z
      rw [z, show (0 : Int64).toInt = 0 from rfl, Int.mul_zero] at e
      exact i64_z e
  obtain ⟨f1, f2, f3, f4, f5⟩ := hfi
  refine ⟨f, y.toInt, d, k, fi, y0, fun i hi => by rw [← n i hi]; exact hw i hi, hp, hd, fun q a b c => ?_, ⟨f1, f2, f4, fun z => f3 ((z0 _ (by omega)).mpr z), fun a b g1 g2 g3 g4 g5 g6 => f5 a b g1 g2 g3 g4 (fun z => g5 ((z0 _ (by omega)).mp z)) (by omega)⟩, hk, hdg, ?_⟩
  · exact (z0 q.toNat (by omega)).mp (d2_su h3 q a b c)
  · have nt : ∀ i, i < 49 → tr i = if 1 < k then r i else f i := fun i hi => by
      have := htr (i : Int) (by omega) (by omega)
      rw [Int.toNat_natCast] at this
      exact this
    rcases hr with e | ⟨e, p⟩
    · exact Or.inl ⟨e, fun i hi => by rw [nt i hi, if_neg (by omega)]⟩
    · exact Or.inr ⟨e, PWz_c e ⟨f1, f2⟩ p (fun q a b => by rw [htr q a b, if_pos (by omega)])⟩
theorem fo_z {f : Nat → Int64} {z d : Int} (h : (0 ≤ z ∧ z < 49 ∧ f z.toNat ≠ 0 ∧ (∀ a b : Int, 0 ≤ a → a < 7 → 0 ≤ b → b < 7 → f (7 * a + b).toNat ≠ 0 → a + b ≤ z / 7 + z % 7) ∧ (∀ a b : Int, 0 ≤ a → a < 7 → 0 ≤ b → b < 7 → f (7 * a + b).toNat ≠ 0 → a + b = z / 7 + z % 7 → a ≤ z / 7)) ∨ (z = -1 ∧ ∀ a b : Int, 0 ≤ a → a < 7 → 0 ≤ b → b < 7 → f (7 * a + b).toNat = 0)) (hd : d2x f d) (h0 : 0 ≤ d) (hv : ∀ a b : Int, 0 ≤ a → a < 7 → 0 ≤ b → b < 7 → f (7 * a + b).toNat ≠ 0 → a + b ≤ d) : 0 ≤ z ∧ z < 49 ∧ f z.toNat ≠ 0 ∧ z / 7 + z % 7 = d ∧ ∀ a b : Int, 0 ≤ a → a < 7 → 0 ≤ b → b < 7 → f (7 * a + b).toNat ≠ 0 → a + b = z / 7 + z % 7 → a ≤ z / 7 := by
  rcases h with ⟨g1, g2, g3, g4, g5⟩ | ⟨g1, g2⟩
  · exact ⟨g1, g2, g3, d2_uq hd h0 hv ⟨g1, g2⟩ g3 g4, g5⟩
  · exfalso
    obtain ⟨a, b, x1, x2, x3, x4, x5, x6⟩ := hd h0
    exact x6 (g2 a b x1 x2 x3 x4)
theorem tr_z {m m' r f : Nat → Int64} {i k : Int} {x : Int64} (hi : 0 ≤ i) (e : m' = vp_updL m (49 * 1 + i).toNat x) (hx : x = if 1 < k then r i.toNat else f i.toNat) (h : ∀ q : Int, 0 ≤ q → q < i → m (49 + q).toNat = if 1 < k then r q.toNat else f q.toNat) : ∀ q : Int, 0 ≤ q → q < i + 1 → m' (49 + q).toNat = if 1 < k then r q.toNat else f q.toNat := fun q a b => by
  rw [e, up_at (by omega) (by omega)]
  by_cases z : q = i
  · rw [if_pos (by omega), z]
    exact hx
  · rw [if_neg (by omega)]
    exact h q a (by omega)
theorem tz_t {m : Nat → Int64} {T : Nat → Int64} (h : ∀ q : Int, 0 ≤ q → q < 49 → m (49 + q).toNat = T q.toNat) : ∀ q : Int, 0 ≤ q → q < 49 → (fun i => m (49 + i)) q.toNat = T q.toNat := fun q a b => by
  rw [← h q a b]
  show m (49 + q.toNat) = _
  congr 1
  omega
