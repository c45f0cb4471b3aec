/-! the class's cells between calls -/
def bl (x : Int) : Prop := x = 0 ∨ x = 1
def cOK (G B : Nat → Int) : Prop := BOK B ∧ bl (G 0) ∧ bl (G 2) ∧ bl (G 3) ∧ bl (G 5) ∧ bl (G 6) ∧ (0 ≤ G 1 ∧ G 1 ≤ 6) ∧ (0 ≤ G 4 ∧ G 4 ≤ 6)
/-- n is the row's greatest power with a coefficient other than 0 -/
def HP (L : Nat → Nat → Int64) (n : Int) : Prop := (0 ≤ n ∧ n ≤ 4) ∧ (∀ k : Int, n < k → k ≤ 4 → L 0 k.toNat = 0 ∧ L 1 k.toNat = 0 ∧ L 2 k.toNat = 0) ∧ (0 < n → ¬ (L 0 n.toNat = 0 ∧ L 1 n.toNat = 0 ∧ L 2 n.toNat = 0))
def wsum (f : Nat → Int64) (u v : Int64) (n : Int) : Nat → Int64
  | 0 => 0
  | k + 1 => wsum f u v n k + f k * lpow u k * lpow v (n - k).toNat
def wOf (f : Nat → Int64) (u v n : Int) : Int64 := wsum f (zL u) (zL v) n (n + 1).toNat
theorem wsum_s {f : Nat → Int64} {n k : Int} {u v x a b : Int64} (hk : 0 ≤ k) (hx : x = wsum f u v n k.toNat) (ha : a = lpow u k.toNat) (hb : b = lpow v (n - k).toNat) : x + f k.toNat * a * b = wsum f u v n (k + 1).toNat := by
  obtain ⟨m, rfl⟩ := Int.eq_ofNat_of_zero_le hk
  have e1 : ((m : Int) + 1).toNat = m + 1 := by omega
  rw [e1]
  show _ = wsum f u v n m + f m * lpow u m * lpow v (n - (m : Int)).toNat
  rw [hx, ha, hb]
  rfl
theorem sp_s {f f' g : Nat → Int64} {k : Int} {x : Int64} (hk : 0 ≤ k) (e : f' = vp_updL f k.toNat x) (hx : x = g k.toNat) (h : ∀ q : Int, 0 ≤ q → q < k → f q.toNat = g q.toNat) : ∀ q : Int, 0 ≤ q → q < k + 1 → f' q.toNat = g q.toNat := by
  intro q h1 h2
  rw [e, up_at hk h1]
  by_cases r : q = k
  · rw [if_pos r, r, hx]
  · rw [if_neg r]; exact h q h1 (by omega)
theorem cok_of {G B : Nat → Int} (hB : BOK B) (h0 : G 0 = 0 ∨ G 0 = 1) (h1 : 0 ≤ G 1 ∧ G 1 ≤ 6) (h2 : G 2 = 0 ∨ G 2 = 1) (h3 : G 3 = 0 ∨ G 3 = 1) (h4 : 0 ≤ G 4 ∧ G 4 ≤ 6) (h5 : G 5 = 0 ∨ G 5 = 1) (h6 : G 6 = 0 ∨ G 6 = 1) : cOK G B := ⟨hB, h0, h2, h3, h5, h6, h1, h4⟩
