/-! what the class's constructors make -/
def plW (ce : Nat → ClassId) (a r : Nat) : va_W := [(a, .inr (3, [.ref r, .int (zI 0)])), (r, .inl (ce 1, 28, .inr (.inl (fun _ => 0))))]
def rowW (ce : Nat → ClassId) (a q : Nat) (f : Nat → Option Nat) : va_W := [(a, .inr (5, [.ref q])), (q, .inl (ce 3, 3, .inr (.inr (.inr (.inr f))))), (q + 1, .inl (ce 1, 5, .inr (.inl (fun _ => 0)))), (q + 2, .inl (ce 1, 5, .inr (.inl (fun _ => 0)))), (q + 3, .inl (ce 1, 5, .inr (.inl (fun _ => 0))))]
def divW (ce : Nat → ClassId) (a : Nat) (g : Nat → Nat) : va_W := [(a, .inr (1, [.ref (g 0), .ref (g 1), .ref (g 2)])), (g 0, .inl (ce 1, 5, .inr (.inl (fun _ => 0)))), (g 1, .inl (ce 1, 5, .inr (.inl (fun _ => 0)))), (g 2, .inl (ce 1, 5, .inr (.inl (fun _ => 0))))]
def curW (ce : Nat → ClassId) (a b r : Nat) : va_W := [(a, .inr (0, [.ref b, .int (zI 0), .int (zI 0), .int (zI 0)])), (b, .inr (3, [.ref r, .int (zI 0)])), (r, .inl (ce 1, 28, .inr (.inl (fun _ => 0))))]
def rfW (ce : Nat → ClassId) (a : Nat) (b r : Nat → Nat) : va_W := [(a, .inr (4, [.ref (b 0), .ref (b 1), .ref (b 2), .ref (b 3)])), (b 0, .inr (3, [.ref (r 0), .int (zI 0)])), (r 0, .inl (ce 1, 28, .inr (.inl (fun _ => 0)))), (b 1, .inr (3, [.ref (r 1), .int (zI 0)])), (r 1, .inl (ce 1, 28, .inr (.inl (fun _ => 0)))), (b 2, .inr (3, [.ref (r 2), .int (zI 0)])), (r 2, .inl (ce 1, 28, .inr (.inl (fun _ => 0)))), (b 3, .inr (3, [.ref (r 3), .int (zI 0)])), (r 3, .inl (ce 1, 28, .inr (.inl (fun _ => 0))))]
def elE (ce : Nat → ClassId) (a : Nat) (g : Nat → Nat) (f1 f2 f3 f4 : Nat → Option Nat) : va_W := [(a, .inr (2, [.ref (g 0), .ref (g 1), .ref (g 2), .ref (g 3)])), (g 0, .inl (ce 4, 5, .inr (.inr (.inr (.inr f1))))), (g 1, .inl (ce 4, 5, .inr (.inr (.inr (.inr f2))))), (g 2, .inl (ce 4, 16, .inr (.inr (.inr (.inr f3))))), (g 3, .inl (ce 4, 16, .inr (.inr (.inr (.inr f4)))))]
def pp (ce : Nat → ClassId) (P : List (Nat × Nat)) : va_W := P.flatMap (fun x => plW ce x.1 x.2)
def ppF (ce : Nat → ClassId) (pl ar : Nat → Nat) : va_W := (List.range 36).flatMap (fun k => plW ce (pl k) (ar k))
theorem pp_snoc (ce : Nat → ClassId) (P : List (Nat × Nat)) (a r : Nat) : pp ce P ++ plW ce a r = pp ce (P ++ [(a, r)]) := by
  unfold pp
  rw [List.flatMap_append]
  simp
theorem pp_len (ce : Nat → ClassId) (P : List (Nat × Nat)) : (pp ce P).length = 2 * P.length := by
  induction P with
  | nil => rfl
  | cons x P ih =>
    show (plW ce x.1 x.2 ++ pp ce P).length = _
    rw [List.length_append, ih]
    show 2 + _ = _
    rw [List.length_cons]
    omega
theorem pp_last {ce : Nat → ClassId} {a : Nat} {g : Nat → Nat} {f1 f2 f3 f4 : Nat → Option Nat} {P : List (Nat × Nat)} {q r : Nat} : (elE ce a g f1 f2 f3 f4 ++ pp ce (P ++ [(q, r)]))[5 + 2 * P.length]? = some (q, .inr (3, [.ref r, .int (zI 0)])) := by
  rw [List.getElem?_append_right (by show 5 ≤ _; omega)]
  show (pp ce (P ++ [(q, r)]))[5 + 2 * P.length - 5]? = _
  rw [← pp_snoc, show 5 + 2 * P.length - 5 = 2 * P.length by omega, List.getElem?_append_right (by rw [pp_len]; exact Nat.le_refl _), pp_len, Nat.sub_self]
  rfl
theorem el_snoc {ce : Nat → ClassId} {a : Nat} {g : Nat → Nat} {f1 f2 f3 f4 : Nat → Option Nat} {P : List (Nat × Nat)} {q r : Nat} : elE ce a g f1 f2 f3 f4 ++ pp ce P ++ plW ce q r = elE ce a g f1 f2 f3 f4 ++ pp ce (P ++ [(q, r)]) := by
  rw [List.append_assoc, pp_snoc]
/-- the k-th plane that was made -/
def pn (P : List (Nat × Nat)) (k : Nat) : Option Nat := (P[k]?).map (·.1)
theorem pn_old {P : List (Nat × Nat)} {x : Nat × Nat} {k : Nat} (h : k < P.length) : pn (P ++ [x]) k = pn P k := by
  unfold pn
  rw [List.getElem?_append_left h]
theorem pn_new {P : List (Nat × Nat)} {q r k : Nat} (h : k = P.length) : pn (P ++ [(q, r)]) k = some q := by
  unfold pn
  rw [h, List.getElem?_append_right (Nat.le_refl _), Nat.sub_self]
  rfl
theorem pn_get {P : List (Nat × Nat)} {k : Nat} (h : k < P.length) : pn P k = some (P.getD k (0, 0)).1 := by
  unfold pn
  rw [List.getD_eq_getElem?_getD, List.getElem?_eq_getElem h]
  rfl
theorem pp_all {ce : Nat → ClassId} {P : List (Nat × Nat)} (h : P.length = 36) : pp ce P = ppF ce (fun k => (P.getD k (0, 0)).1) (fun k => (P.getD k (0, 0)).2) := by
  unfold ppF
  have h1 : P = (List.range 36).map (fun k => P.getD k (0, 0)) := by
    apply List.ext_getElem (by simp [h])
    intro i h1 h2
    simp [List.getD_eq_getElem?_getD, h1]
  have h2 : pp ce ((List.range 36).map (fun k => P.getD k (0, 0))) = (List.range 36).flatMap (fun k => plW ce (P.getD k (0, 0)).1 (P.getD k (0, 0)).2) := by
    unfold pp
    rw [List.flatMap_map]
  rw [← h2, ← h1]
/-- which entries stand before (i, j) is made -/
def dne (i j n : Nat) : Bool := (min (n / 4) (n % 4) < i) || (min (n / 4) (n % 4) == i && max (n / 4) (n % 4) < j)
def bse (i : Nat) : Nat := ([0, 4, 7, 9, 10] : List Nat).getD i 0
theorem dne_s : ∀ i : Fin 4, ∀ j : Fin 4, ∀ n : Fin 16, i ≤ j → dne i (j + 1) n = true → n.val = 4 * i + j ∨ n.val = 4 * j + i ∨ dne i j n = true := by decide +kernel
theorem dne_e : ∀ i : Fin 4, ∀ n : Fin 16, dne (i + 1) (i + 1) n = true → dne i 4 n = true := by decide +kernel
theorem dne_t : ∀ i : Fin 4, ∀ j : Fin 4, i ≤ j → tri (4 * i + j) = bse i + (j - i) ∧ tri (4 * j + i) = bse i + (j - i) ∧ bse i + (4 - i) = bse (i + 1) ∧ 4 * j.val + i.val < 16 ∧ 4 * i.val + j.val < 16 := by decide +kernel
theorem dne_l : ∀ i : Fin 4, ∀ j : Fin 4, ∀ n : Fin 16, i ≤ j → dne i j n = true → tri n < bse i + (j - i) := by decide +kernel
theorem dne_a : ∀ n : Fin 16, dne 4 4 n = true := by decide +kernel
theorem dne_0 : ∀ n : Fin 16, dne 0 0 n = false := by decide +kernel
theorem bse_e : ∀ i : Fin 4, bse i + (4 - i) = bse (i + 1) := by decide +kernel
theorem el_done {ce : Nat → ClassId} {h0 : Nat} {g : Nat → Nat} {f1 f2 f3 f4 : Nat → Option Nat} {P : List (Nat × Nat)} (h : P.length = 36) (e1 : ∀ n, n < 5 → f1 n = pn P (2 * n)) (e2 : ∀ n, n < 5 → f2 n = pn P (2 * n + 1)) (e3 : ∀ n, n < 16 → f3 n = pn P (10 + tri n)) (e4 : ∀ n, n < 16 → f4 n = pn P (20 + n)) : ∃ g' : Nat → Nat, ∃ f1' : Nat → Option Nat, ∃ f2' : Nat → Option Nat, ∃ f3' : Nat → Option Nat, ∃ f4' : Nat → Option Nat, ∃ pl : Nat → Nat, ∃ ar : Nat → Nat, elE ce h0 g f1 f2 f3 f4 ++ ppF ce (fun k => (P.getD k (0, 0)).1) (fun k => (P.getD k (0, 0)).2) = (elE ce h0 g' f1' f2' f3' f4' ++ ppF ce pl ar) ∧ (∀ i, i < 5 → f1' i = some (pl (2 * i))) ∧ (∀ i, i < 5 → f2' i = some (pl (2 * i + 1))) ∧ (∀ i, i < 16 → f3' i = some (pl (10 + tri i))) ∧ (∀ i, i < 16 → f4' i = some (pl (20 + i))) :=
  ⟨g, f1, f2, f3, f4, _, _, rfl, fun i hi => (e1 i hi).trans (pn_get (by omega)), fun i hi => (e2 i hi).trans (pn_get (by omega)), fun i hi => (e3 i hi).trans (pn_get (by have := tri_lt i; omega)), fun i hi => (e4 i hi).trans (pn_get (by omega))⟩
