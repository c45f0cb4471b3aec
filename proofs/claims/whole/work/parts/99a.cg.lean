/-! polynomials of one letter mod 2 ^ 64 -/
def CG (F G : Int → Int) : Prop := ∃ H : Int → Int, Pf H ∧ ∀ t, F t = G t + 18446744073709551616 * H t
theorem CG.rf (F : Int → Int) : CG F F := ⟨fun _ => 0, Pf.con 0, fun t => by dsimp only; omega⟩
theorem CG.ex {F G : Int → Int} (h : ∀ t, F t = G t) : CG F G := ⟨fun _ => 0, Pf.con 0, fun t => by dsimp only; rw [h t]; omega⟩
theorem CG.sy {F G : Int → Int} (h : CG F G) : CG G F := by
  obtain ⟨H, p, h⟩ := h
  exact ⟨fun t => -H t, p.neg, fun t => by dsimp only; rw [h t]; omega⟩
theorem CG.tr {F G K : Int → Int} (h1 : CG F G) (h2 : CG G K) : CG F K := by
  obtain ⟨H, p, h1⟩ := h1
  obtain ⟨H2, p2, h2⟩ := h2
  exact ⟨fun t => H t + H2 t, p.add p2, fun t => by dsimp only; rw [h1 t, h2 t]; omega⟩
theorem CG.ad {F G F' G' : Int → Int} (h1 : CG F G) (h2 : CG F' G') : CG (fun t => F t + F' t) (fun t => G t + G' t) := by
  obtain ⟨H, p, h1⟩ := h1
  obtain ⟨H2, p2, h2⟩ := h2
  exact ⟨fun t => H t + H2 t, p.add p2, fun t => by dsimp only; rw [h1 t, h2 t]; omega⟩
theorem CG.ml {F G K : Int → Int} (hK : Pf K) (h : CG F G) : CG (fun t => K t * F t) (fun t => K t * G t) := by
  obtain ⟨H, p, h⟩ := h
  exact ⟨fun t => K t * H t, hK.mul p, fun t => by dsimp only; rw [h t]; clear h; grind⟩
theorem CG.mr {F G K : Int → Int} (hK : Pf K) (h : CG F G) : CG (fun t => F t * K t) (fun t => G t * K t) := by
  obtain ⟨H, p, h⟩ := h
  exact ⟨fun t => K t * H t, hK.mul p, fun t => by dsimp only; rw [h t]; clear h; grind⟩
theorem Pf_pow : ∀ n : Nat, Pf (fun t => t ^ n)
  | 0 => ⟨[1], fun t => by show t ^ 0 = 1 + t * 0; rw [Int.pow_zero]; omega⟩
  | n + 1 => by
    obtain ⟨l, hl⟩ := (Pf_pow n).mul Pf.var
    exact ⟨l, fun t => by rw [← hl t]; dsimp only; rw [Int.pow_succ]⟩
/-- a number of the machine is that whole number mod 2 ^ 64 -/
def cq (a : Int64) (z : Int) : Prop := ∃ q : Int, a.toInt = z + 18446744073709551616 * q
theorem cq_b (z : Int) : ∃ q : Int, z.bmod (2 ^ 64) = z + 18446744073709551616 * q := by
  obtain ⟨q, hq⟩ := Int.dvd_bmod_sub_self (x := z) (m := 2 ^ 64)
  exact ⟨q, by omega⟩
theorem cq_rf (a : Int64) : cq a a.toInt := ⟨0, by omega⟩
theorem cq_e {a : Int64} {x y : Int} (h : x = y) (h1 : cq a x) : cq a y := h ▸ h1
theorem cq_add {a b : Int64} {x y : Int} (h1 : cq a x) (h2 : cq b y) : cq (a + b) (x + y) := by
  obtain ⟨p, h1⟩ := h1
  obtain ⟨q, h2⟩ := h2
  obtain ⟨r, h3⟩ := cq_b (a.toInt + b.toInt)
  exact ⟨p + q + r, by rw [Int64.toInt_add, h3, h1, h2]; omega⟩
theorem cq_sub {a b : Int64} {x y : Int} (h1 : cq a x) (h2 : cq b y) : cq (a - b) (x - y) := by
  obtain ⟨p, h1⟩ := h1
  obtain ⟨q, h2⟩ := h2
  obtain ⟨r, h3⟩ := cq_b (a.toInt - b.toInt)
  exact ⟨p - q + r, by rw [Int64.toInt_sub, h3, h1, h2]; omega⟩
theorem cq_neg {a : Int64} {x : Int} (h1 : cq a x) : cq (-a) (-x) := by
  obtain ⟨p, h1⟩ := h1
  obtain ⟨r, h3⟩ := cq_b (-a.toInt)
  exact ⟨-p + r, by rw [Int64.toInt_neg, h3, h1]; omega⟩
theorem cq_mul {a b : Int64} {x y : Int} (h1 : cq a x) (h2 : cq b y) : cq (a * b) (x * y) := by
  obtain ⟨p, h1⟩ := h1
  obtain ⟨q, h2⟩ := h2
  obtain ⟨r, h3⟩ := cq_b (a.toInt * b.toInt)
  refine ⟨p * y + x * q + 18446744073709551616 * (p * q) + r, ?_⟩
  rw [Int64.toInt_mul, h3, h1, h2]
  clear h1 h2 h3
  grind
theorem cq_zL (z : Int) : cq (zL z) z := by
  obtain ⟨r, h3⟩ := cq_b z
  exact ⟨r, by unfold zL; rw [Int64.toInt_ofInt]; exact h3⟩
theorem cq_z {a : Int64} {z : Int} (h : cq a z) (h0 : cq a 0 ∨ a = 0) : ∃ q : Int, z = 18446744073709551616 * q := by
  obtain ⟨q, h⟩ := h
  rcases h0 with ⟨p, h0⟩ | h0
  · exact ⟨p - q, by omega⟩
  · rw [h0] at h
    have : (0 : Int64).toInt = 0 := rfl
    exact ⟨-q, by omega⟩
theorem i64_b (a : Int64) : -9223372036854775808 ≤ a.toInt ∧ a.toInt < 9223372036854775808 := ⟨Int64.le_toInt a, Int64.toInt_lt a⟩
theorem i64_z {a : Int64} (h : a.toInt = 0) : a = 0 := Int64.toInt_inj.mp h
theorem cq_small {a : Int64} {z : Int} (h : cq a z) (b1 : -9223372036854775808 ≤ z) (b2 : z < 9223372036854775808) : a.toInt = z := by
  obtain ⟨q, h⟩ := h
  have := i64_b a
  omega
theorem cq_0 {a : Int64} (h : ∃ q : Int, a.toInt = 18446744073709551616 * q) : a = 0 := by
  obtain ⟨q, h⟩ := h
  have := i64_b a
  exact i64_z (by omega)
/-- a row of numbers as a polynomial -/
def pw (ix : Nat → Nat) (f : Nat → Int64) : Nat → Int → Int
  | 0, _ => 0
  | N + 1, t => pw ix f N t + (f N).toInt * t ^ (ix N)
theorem pw_s (ix : Nat → Nat) (f : Nat → Int64) (N : Nat) (t : Int) : pw ix f (N + 1) t = pw ix f N t + (f N).toInt * t ^ (ix N) := rfl
theorem pw_c {ix : Nat → Nat} {f g : Nat → Int64} : ∀ (N : Nat), (∀ i, i < N → f i = g i) → ∀ t, pw ix f N t = pw ix g N t
  | 0, _, t => rfl
  | N + 1, h, t => by
    rw [pw_s, pw_s, pw_c N (fun i hi => h i (by omega)) t, h N (by omega)]
theorem pw_up {ix : Nat → Nat} {f : Nat → Int64} {i : Nat} {v : Int64} : ∀ (N : Nat), i < N → ∀ t, pw ix (vp_updL f i v) N t = pw ix f N t + (v.toInt - (f i).toInt) * t ^ (ix i)
  | 0, h, _ => absurd h (Nat.not_lt_zero _)
  | N + 1, h, t => by
    rw [pw_s, pw_s]
    by_cases e : i = N
    · subst e
      rw [pw_c (f := vp_updL f i v) (g := f) i (fun j hj => if_neg (by omega)) t, show vp_updL f i v i = v from if_pos rfl]
      grind
    · rw [pw_up N (by omega) t, show vp_updL f i v N = f N from if_neg (by omega)]
      omega
theorem Pf_pw (ix : Nat → Nat) (f : Nat → Int64) : ∀ N, Pf (pw ix f N)
  | 0 => Pf.con 0
  | N + 1 => (Pf_pw ix f N).add ((Pf.con _).mul (Pf_pow _))
theorem pw_0 {ix : Nat → Nat} {f : Nat → Int64} : ∀ (N : Nat), (∀ i, i < N → f i = 0) → ∀ t, pw ix f N t = 0
  | 0, _, t => rfl
  | N + 1, h, t => by
    rw [pw_s, pw_0 N (fun i hi => h i (by omega)) t, h N (by omega), show (0 : Int64).toInt = 0 from rfl, Int.zero_mul]
    rfl
theorem pw_cut {ix : Nat → Nat} {f : Nat → Int64} {N : Nat} : ∀ (k : Nat), (∀ i, N ≤ i → i < N + k → f i = 0) → ∀ t, pw ix f (N + k) t = pw ix f N t
  | 0, _, t => rfl
  | k + 1, h, t => by
    rw [← Nat.add_assoc, pw_s, pw_cut k (fun i h1 h2 => h i h1 (by omega)) t, h (N + k) (by omega) (by omega), show (0 : Int64).toInt = 0 from rfl, Int.zero_mul, Int.add_zero]
theorem CG_up {ix : Nat → Nat} {f : Nat → Int64} {i N : Nat} {v : Int64} {m : Int} {F : Int → Int} (hi : i < N) (hv : cq v ((f i).toInt + m)) (h : CG (pw ix f N) F) : CG (pw ix (vp_updL f i v) N) (fun t => F t + m * t ^ (ix i)) := by
  obtain ⟨q, hv⟩ := hv
  obtain ⟨H, p, h⟩ := h
  refine ⟨fun t => H t + q * t ^ (ix i), p.add ((Pf.con q).mul (Pf_pow _)), fun t => ?_⟩
  rw [pw_up N hi t, h t, hv]
  clear h hv
  grind
/-- the same by a list -/
theorem evl_snoc (a : Int) : ∀ (l : List Int) (t : Int), evl (l ++ [a]) t = evl l t + a * t ^ l.length
  | [], t => by
    show a + t * 0 = 0 + a * t ^ 0
    rw [Int.pow_zero]
    omega
  | b :: l, t => by
    show b + t * evl (l ++ [a]) t = (b + t * evl l t) + a * t ^ (l.length + 1)
    rw [evl_snoc a l t, Int.pow_succ]
    grind
def lsf (f : Nat → Int64) (N : Nat) : List Int := (List.range N).map (fun i => (f i).toInt)
theorem lsf_s (f : Nat → Int64) (N : Nat) : lsf f (N + 1) = lsf f N ++ [(f N).toInt] := by
  unfold lsf
  rw [List.range_succ, List.map_append]
  rfl
theorem lsf_len (f : Nat → Int64) (N : Nat) : (lsf f N).length = N := by
  unfold lsf
  rw [List.length_map, List.length_range]
theorem pw_evl (f : Nat → Int64) : ∀ (N : Nat) (t : Int), pw id f N t = evl (lsf f N) t
  | 0, t => rfl
  | N + 1, t => by
    rw [lsf_s, evl_snoc, pw_s, pw_evl f N t, lsf_len]
    rfl
theorem gd_lsf (f : Nat → Int64) (N i : Nat) : gd (lsf f N) i = if i < N then (f i).toInt else 0 := by
  unfold gd lsf
  rw [List.getD_eq_getElem?_getD, List.getElem?_map]
  by_cases h : i < N
  · rw [if_pos h, List.getElem?_range h]
    rfl
  · rw [if_neg h, List.getElem?_eq_none (by rw [List.length_range]; omega)]
    rfl
theorem CG_uq {l m : List Int} (h : CG (evl l) (evl m)) (i : Nat) : ∃ q : Int, gd l i = gd m i + 18446744073709551616 * q := by
  obtain ⟨H, ⟨r, hr⟩, h⟩ := h
  have u := evl_uq (l := l) (m := ladd m (r.map (fun x => 18446744073709551616 * x))) (fun t => by rw [evl_add, evl_map, h t, hr t]) i
  rw [gd_add, gd_map] at u
  exact ⟨_, u⟩
theorem CG_at {f : Nat → Int64} {N : Nat} {l : List Int} (h : CG (pw id f N) (evl l)) (i : Nat) (hi : i < N) : cq (f i) (gd l i) := by
  have h1 : CG (evl (lsf f N)) (evl l) := (CG.ex (fun t => (pw_evl f N t).symm)).tr h
  obtain ⟨q, hq⟩ := CG_uq h1 i
  rw [gd_lsf, if_pos hi] at hq
  exact ⟨q, hq⟩
/-- minors by sets of columns, row by row, the columns from the last to the first -/
def dsg (s n : Nat) : Nat → Int
  | 0 => 1
  | m + 1 => if s / 2 ^ (n - 1 - m) % 2 = 1 then -dsg s n m else dsg s n m
def dcs (D : Nat → Int) (e : Nat → Int) (s n : Nat) : Nat → Int
  | 0 => 0
  | m + 1 => if s / 2 ^ (n - 1 - m) % 2 = 1 then dcs D e s n m + dsg s n m * D (s - 2 ^ (n - 1 - m)) * e (n - 1 - m) else dcs D e s n m
def dI (en : Nat → Nat → Int) (n : Nat) : Nat → Nat → Int
  | 0 => fun _ => 1
  | k + 1 => fun s => dcs (dI en n k) (en k) s n n
def Sx (En : Nat → Nat → Int → Int) (n s : Nat) (t : Int) : Int := dI (fun r c => En r c t) n (pc8 s) s
def Cx (En : Nat → Nat → Int → Int) (n s m : Nat) (t : Int) : Int := dcs (dI (fun r c => En r c t) n (pc8 s - 1)) (fun c => En (pc8 s - 1) c t) s n m
theorem Cx_0 (En : Nat → Nat → Int → Int) (n s : Nat) (t : Int) : Cx En n s 0 t = 0 := rfl
theorem Cx_n {En : Nat → Nat → Int → Int} {n s : Nat} (h : 1 ≤ pc8 s) (t : Int) : Cx En n s n t = Sx En n s t := by
  unfold Cx Sx
  obtain ⟨k, hk⟩ : ∃ k, pc8 s = k + 1 := ⟨pc8 s - 1, by omega⟩
  rw [hk]
  rfl
theorem Cx_1 {En : Nat → Nat → Int → Int} {n s m c : Nat} (hc : c = n - 1 - m) (hb : s / 2 ^ c % 2 = 1) (hp : pc8 (s - 2 ^ c) + 1 = pc8 s) (t : Int) : Cx En n s (m + 1) t = Cx En n s m t + dsg s n m * Sx En n (s - 2 ^ c) t * En (pc8 s - 1) c t := by
  have e : pc8 (s - 2 ^ c) = pc8 s - 1 := by omega
  unfold Sx
  rw [e]
  subst hc
  show dcs _ _ s n (m + 1) = _
  unfold dcs
  rw [if_pos hb]
  rfl
theorem Cx_2 {En : Nat → Nat → Int → Int} {n s m c : Nat} (hc : c = n - 1 - m) (hb : ¬ s / 2 ^ c % 2 = 1) (t : Int) : Cx En n s (m + 1) t = Cx En n s m t := by
  subst hc
  show dcs _ _ s n (m + 1) = _
  unfold dcs
  rw [if_neg hb]
  unfold Cx
  cases m <;> rfl
theorem dsg_1 {s n m c : Nat} (hc : c = n - 1 - m) (hb : s / 2 ^ c % 2 = 1) : dsg s n (m + 1) = -dsg s n m := by
  subst hc
  exact if_pos hb
theorem dsg_2 {s n m c : Nat} (hc : c = n - 1 - m) (hb : ¬ s / 2 ^ c % 2 = 1) : dsg s n (m + 1) = dsg s n m := by
  subst hc
  exact if_neg hb
