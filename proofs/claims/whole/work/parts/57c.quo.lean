/-! the quotient, as both compute it -/
def dq1 (g : Nat → Int64) (d i : Int) (s : Nat → Int64) : Nat → Int64 := fun j => if i ≤ (j : Int) ∧ (j : Int) < i + (d + 1) then s j - (s (i + d).toNat / g d.toNat) * g ((j : Int) - i).toNat else s j
def spq (f g : Nat → Int64) (d : Int) : Nat → Nat → Int64
  | 0 => f
  | n + 1 => dq1 g d (4 - d - n) (spq f g d n)
def rq (f g : Nat → Int64) (d j : Int) : Int64 := if j ≤ 4 - d then spq f g d (4 - d - j).toNat (j + d).toNat / g d.toNat else 0
theorem spq_c {f f1 g g1 : Nat → Int64} {d : Int} (hd : 0 ≤ d ∧ d ≤ 4) (hf : ∀ j, j < 5 → f j = f1 j) (hg : ∀ j, j < 5 → g j = g1 j) : ∀ n : Nat, (n : Int) ≤ 5 - d → ∀ j, j < 5 → spq f g d n j = spq f1 g1 d n j
  | 0, _, j, hj => hf j hj
  | n + 1, hn, j, hj => by
    have ih := spq_c hd hf hg n (by omega)
    show dq1 g d (4 - d - n) (spq f g d n) j = dq1 g1 d (4 - d - n) (spq f1 g1 d n) j
    unfold dq1
    by_cases q : 4 - d - n ≤ (j : Int) ∧ (j : Int) < 4 - d - n + (d + 1)
    · rw [if_pos q, if_pos q, ih j hj, ih (4 - d - n + d).toNat (by omega), hg d.toNat (by omega), hg ((j : Int) - (4 - d - n)).toNat (by omega)]
    · rw [if_neg q, if_neg q, ih j hj]
theorem rq_c {f f1 g g1 : Nat → Int64} {d j : Int} (hd : 0 ≤ d ∧ d ≤ 4) (hj : 0 ≤ j) (hf : ∀ j, j < 5 → f j = f1 j) (hg : ∀ j, j < 5 → g j = g1 j) : rq f g d j = rq f1 g1 d j := by
  unfold rq
  by_cases q : j ≤ 4 - d
  · rw [if_pos q, if_pos q, spq_c hd hf hg (4 - d - j).toNat (by omega) (j + d).toNat (by omega), hg d.toNat (by omega)]
  · rw [if_neg q, if_neg q]
def topz (f : Nat → Int64) (z : Int) : Prop := (-1 ≤ z ∧ z ≤ 4) ∧ (∀ k : Int, z < k → k ≤ 4 → f k.toNat = 0) ∧ (0 ≤ z → f z.toNat ≠ 0)
/-- the quotient's first number, written -/
theorem rq_w {f g s r r1 : Nat → Int64} {d i : Int} {x : Int64} (hd : 0 ≤ d) (hi : 0 ≤ i) (hi4 : i ≤ 4 - d) (hs : ∀ j : Int, 0 ≤ j → j < 5 → s j.toNat = spq f g d (4 - d - i).toNat j.toNat) (ex : x = s (i + d).toNat / g d.toNat) (g1 : r1 = vp_updL r i.toNat x) (hr : ∀ j : Int, 0 ≤ j → j < 5 → r j.toNat = if i < j then rq f g d j else 0) : ∀ j : Int, 0 ≤ j → j < 5 → r1 j.toNat = if i - 1 < j then rq f g d j else 0 := fun j a b => by
  rw [g1, updL_at hi a]
  by_cases q : j = i
  · rw [if_pos q, if_pos (by omega), ex, hs (i + d) (by omega) (by omega), q]
    unfold rq
    rw [if_pos hi4]
  · rw [if_neg q, hr j a b]
    by_cases q2 : i < j
    · rw [if_pos q2, if_pos (by omega)]
    · rw [if_neg q2, if_neg (by omega)]
/-- one number more taken off -/
theorem off_s {g s m m1 : Nat → Int64} {i k : Int} {x : Int64} (hi : 0 ≤ i) (hk : 0 ≤ k) (h5 : i + k < 5) (g1 : m1 = vp_updL m (i + k).toNat (m (i + k).toNat - x * g k.toNat)) (hq : ∀ j : Int, 0 ≤ j → j < 5 → m j.toNat = if i ≤ j ∧ j < i + k then s j.toNat - x * g (j - i).toNat else s j.toNat) : ∀ j : Int, 0 ≤ j → j < 5 → m1 j.toNat = if i ≤ j ∧ j < i + (k + 1) then s j.toNat - x * g (j - i).toNat else s j.toNat := fun j a b => by
  rw [g1, updL_at (by omega) a]
  by_cases q : j = i + k
  · rw [if_pos q, hq (i + k) (by omega) h5, if_neg (by omega), if_pos (by omega), q, show i + k - i = k by omega]
  · rw [if_neg q, hq j a b]
    by_cases q2 : i ≤ j ∧ j < i + k
    · rw [if_pos q2, if_pos (by omega)]
    · rw [if_neg q2, if_neg (by omega)]
/-- a whole step -/
theorem off_e {f g s m : Nat → Int64} {d i : Int} {x : Int64} (hd : 0 ≤ d) (hi : 0 ≤ i) (hi4 : i ≤ 4 - d) (hs : ∀ j : Int, 0 ≤ j → j < 5 → s j.toNat = spq f g d (4 - d - i).toNat j.toNat) (ex : x = s (i + d).toNat / g d.toNat) (hq : ∀ j : Int, 0 ≤ j → j < 5 → m j.toNat = if i ≤ j ∧ j < i + (d + 1) then s j.toNat - x * g (j - i).toNat else s j.toNat) : ∀ j : Int, 0 ≤ j → j < 5 → m j.toNat = spq f g d (4 - d - (i - 1)).toNat j.toNat := fun j a b => by
  have e : (4 - d - (i - 1)).toNat = (4 - d - i).toNat + 1 := by omega
  rw [e]
  show _ = dq1 g d (4 - d - ((4 - d - i).toNat : Int)) (spq f g d (4 - d - i).toNat) j.toNat
  rw [show 4 - d - ((4 - d - i).toNat : Int) = i by omega]
  unfold dq1
  rw [hq j a b, Int.toNat_of_nonneg a]
  by_cases q : i ≤ j ∧ j < i + (d + 1)
  · rw [if_pos q, if_pos q, ex, hs j a b, hs (i + d) (by omega) (by omega)]
  · rw [if_neg q, if_neg q, hs j a b]
theorem rq_0 {f g r : Nat → Int64} {d : Int} (hr : ∀ j : Int, 0 ≤ j → j < 5 → r j.toNat = 0) : ∀ j : Int, 0 ≤ j → j < 5 → r j.toNat = if 4 - d < j then rq f g d j else 0 := fun j a b => by
  rw [hr j a b]
  by_cases q : 4 - d < j
  · rw [if_pos q]
    unfold rq
    rw [if_neg (by omega)]
  · rw [if_neg q]
