section
/-! the reference's roots: what its methods need to go through -/
def d2x (f : Nat → Int64) (z : Int) : Prop := 0 ≤ z → ∃ a b : Int, 0 ≤ a ∧ a < 7 ∧ 0 ≤ b ∧ b < 7 ∧ a + b = z ∧ f (7 * a + b).toNat ≠ 0
theorem d2_s {f : Nat → Int64} {i j d : Int} (hi : 0 ≤ i ∧ i < 7) (hj : 0 ≤ j ∧ j < 7) (h : d2x f d) (hne : ¬ f (7 * i + j).toNat = 0) : d2x f (i + j) := fun _ => ⟨i, j, hi.1, hi.2, hj.1, hj.2, rfl, hne⟩
/-- from here on no place of degree d holds anything -/
theorem fo_s {f : Nat → Int64} {i d : Int} (h : ∀ a : Int, i < a → a < 7 → 0 ≤ d - a → d - a < 7 → f (7 * a + (d - a)).toNat = 0) (hz : d - i < 7 → 0 ≤ d - i → f (7 * i + (d - i)).toNat = 0) : ∀ a : Int, i + -1 < a → a < 7 → 0 ≤ d - a → d - a < 7 → f (7 * a + (d - a)).toNat = 0 := by
  intro a h1 h2 h3 h4
  by_cases e : a = i
  · subst e; exact hz h4 h3
  · exact h a (by omega) h2 h3 h4
theorem fo_e {f : Nat → Int64} {d i : Int} (hi : i < 0) (h : ∀ a : Int, i < a → a < 7 → 0 ≤ d - a → d - a < 7 → f (7 * a + (d - a)).toNat = 0) (hd : d2x f d) : d < 0 := by
  rcases Int.lt_or_le d 0 with q | q
  · exact q
  · obtain ⟨a, b, h1, h2, h3, h4, h5, h6⟩ := hd q
    have e : b = d - a := by omega
    rw [e] at h6
    exact absurd (h a (by omega) h2 (by omega) (by omega)) h6
theorem ip_div {a k : Int} (ha : 0 ≤ a ∧ a ≤ 6) (hk : 2 ≤ k ∧ k ≤ 12) : 0 ≤ a / k ∧ a / k ≤ 3 ∧ 0 ≤ (k - 1) * (a / k) ∧ (k - 1) * (a / k) + a / k ≤ a := by
  have h1 : 0 ≤ a / k := Int.ediv_nonneg ha.1 (by omega)
  have h2 : a / k * k ≤ a := Int.ediv_mul_le a (by omega)
  have h3 : (k - 1) * (a / k) + a / k = a / k * k := by rw [Int.sub_mul, Int.one_mul, Int.mul_comm k]; omega
  have h4 : 0 ≤ (k - 1) * (a / k) := Int.mul_nonneg (by omega) h1
  have h5 : a / k * 2 ≤ a / k * k := Int.mul_le_mul_of_nonneg_left hk.1 h1
  exact ⟨h1, by omega, h4, by omega⟩
theorem ip_un {L : Int64} {k : Int} (hk : 2 ≤ k ∧ k ≤ 12) {v : Int64} (h1 : 1 ≤ L.toInt) (h2 : L.toInt ≤ 2000000000) (h3 : L.toInt ^ k.toNat ≤ v.toInt) : ¬ zL (k * L.toInt ^ (k - 1).toNat) = 0 := by
  have hv := Int64.toInt_lt v
  have hp : 1 ≤ L.toInt ^ (k - 1).toNat := Int.pow_pos (by omega)
  have hs : L.toInt ^ k.toNat = L.toInt ^ (k - 1).toNat * L.toInt := by
    rw [show k.toNat = (k - 1).toNat + 1 by omega, Int.pow_succ]
  have hlt : k * L.toInt ^ (k - 1).toNat < 9223372036854775808 := by
    rcases Int.lt_or_le L.toInt 12 with q | q
    · have hb : L.toInt ^ (k - 1).toNat ≤ 11 ^ 11 := by
        obtain ⟨n, hn⟩ := Int.eq_ofNat_of_zero_le (show 0 ≤ L.toInt by omega)
        have hn11 : n ≤ 11 := by omega
        rw [hn]
        have e1 : n ^ (k - 1).toNat ≤ 11 ^ (k - 1).toNat := Nat.pow_le_pow_left hn11 _
        have e2 : 11 ^ (k - 1).toNat ≤ 11 ^ 11 := Nat.pow_le_pow_right (by decide) (by omega)
        exact_mod_cast Nat.le_trans e1 e2
      have hb2 : k * L.toInt ^ (k - 1).toNat ≤ 12 * 11 ^ 11 := Int.mul_le_mul hk.2 hb (by omega) (by omega)
      have : (12 * 11 ^ 11 : Int) < 9223372036854775808 := by decide
      omega
    · have hb2 : k * L.toInt ^ (k - 1).toNat ≤ L.toInt * L.toInt ^ (k - 1).toNat := Int.mul_le_mul_of_nonneg_right (by omega) (by omega)
      rw [Int.mul_comm L.toInt, ← hs] at hb2
      omega
  have hge : 1 ≤ k * L.toInt ^ (k - 1).toNat := by
    have : 1 * 1 ≤ k * L.toInt ^ (k - 1).toNat := Int.mul_le_mul (by omega) hp (by decide) (by omega)
    omega
  intro q
  have e0 := congrArg Int64.toInt q
  rw [zL_toInt (by omega) hlt, l0] at e0
  omega
theorem ip_us {L u : Int64} {k n : Int} (hn : 1 ≤ n) (e : u = zL (k * L.toInt ^ (n - 1).toNat)) : u * L = zL (k * L.toInt ^ (n + 1 - 1).toNat) := by
  rw [e, zL_of L, zL_mul, show (n + 1 - 1).toNat = (n - 1).toNat + 1 by omega, Int.pow_succ, Int.mul_assoc, ← zL_of L]
theorem tl_c {f f' : Nat → Int64} {k : Int} {x r y : Int64} (hk : 0 ≤ k) (e : f' = vp_updL f k.toNat y) (hz : x = 0 → ∀ q : Int, 0 ≤ q → q < k → f q.toNat = 0) (hr : cgE x (f' k.toNat) r) : r = 0 → ∀ q : Int, 0 ≤ q → q < k + 1 → f' q.toNat = 0 := by
  intro h q h1 h2
  obtain ⟨h3, h4⟩ := hr.1 h
  by_cases g : q = k
  · rw [g]; exact h4
  · rw [e, up_at hk h1, if_neg g]; exact hz h3 q h1 (by omega)
theorem fo_no {f : Nat → Int64} {d i : Int} (h : ∀ a : Int, i < a → a < 7 → 0 ≤ d - a → d - a < 7 → f (7 * a + (d - a)).toNat = 0) (hi : i < 0) (hd : d2x f d) (hm : ∀ a b : Int, 0 ≤ a → a < 7 → 0 ≤ b → b < 7 → f (7 * a + b).toNat ≠ 0 → a + b ≤ d) : ∀ a b : Int, 0 ≤ a → a < 7 → 0 ≤ b → b < 7 → f (7 * a + b).toNat = 0 := fun a b h1 h2 h3 h4 => Classical.byContradiction (fun q => by have g1 := fo_e hi h hd; have g2 := hm a b h1 h2 h3 h4 q; omega)
theorem d2_v {f : Nat → Int64} {i j z z' : Int} (h : ∀ a b : Int, 0 ≤ a → a < 7 → 0 ≤ b → b < 7 → (a < i ∨ a = i ∧ b < j) → f (7 * a + b).toNat ≠ 0 → a + b ≤ z) (hz : z ≤ z') (hn : f (7 * i + j).toNat ≠ 0 → i + j ≤ z') : ∀ a b : Int, 0 ≤ a → a < 7 → 0 ≤ b → b < 7 → (a < i ∨ a = i ∧ b < j + 1) → f (7 * a + b).toNat ≠ 0 → a + b ≤ z' := by
  intro a b h1 h2 h3 h4 h5 h6
  by_cases e : a = i ∧ b = j
  · rw [e.1, e.2] at h6 ⊢
    exact hn h6
  · exact Int.le_trans (h a b h1 h2 h3 h4 (by omega) h6) hz
theorem zR_mod {a k : Int} (hk : 2 ≤ k ∧ k ≤ 12) : zR (a % k) := ⟨by have := Int.emod_nonneg a (show k ≠ 0 by omega); omega, by have := Int.emod_lt_of_pos a (show 0 < k by omega); omega⟩
def tz (x : Int64) (f : Nat → Int64) (k : Int) : Prop := x = 0 → ∀ q : Int, 0 ≤ q → q < k → f q.toNat = 0
theorem tl_s {f f' : Nat → Int64} {k : Int} {x r y : Int64} (hk : 0 ≤ k) (e : f' = vp_updL f k.toNat y) (hz : tz x f k) (hr : cgE x (f' k.toNat) r) : tz r f' (k + 1) := tl_c hk e hz hr
theorem tl_f {f : Nat → Int64} {z d : Int} (h : (0 ≤ z ∧ z < 49 ∧ f z.toNat ≠ 0) ∨ (z = -1 ∧ ∀ a b : Int, 0 ≤ a → a < 7 → 0 ≤ b → b < 7 → f (7 * a + b).toNat = 0)) (hd : d2x f d) (h0 : 0 ≤ d) : 0 ≤ z ∧ z < 49 ∧ f z.toNat ≠ 0 := by
  rcases h with q | q
  · exact q
  · obtain ⟨a, b, h1, h2, h3, h4, -, h6⟩ := hd h0
    exact absurd (q.2 a b h1 h2 h3 h4) h6
theorem tl_x {f : Nat → Int64} {z k : Int} {x : Int64} (h : tz x f k) (hz : 0 ≤ z ∧ z < k) (hne : f z.toNat ≠ 0) : ¬ x = 0 := fun q => hne (h q z hz.1 hz.2)
theorem tl_n {x : Int64} (h : ¬ x = 0) : ¬ -x = 0 := fun q => h (by rw [← Int64.neg_neg (a := x), q]; rfl)
def DGok (g : Nat → Int32) : Prop := ∀ j : Int, 0 ≤ j → j < 2 → ∃ z : Int, 0 ≤ z ∧ z ≤ 12 ∧ g j.toNat = zI z
theorem upI_at {f : Nat → Int32} {k : Int} {x : Int32} (hk : 0 ≤ k) {j : Int} (hj : 0 ≤ j) : upd f k.toNat x j.toNat = if j = k then x else f j.toNat := by
  by_cases e : j = k
  · rw [if_pos e, e]; exact if_pos rfl
  · rw [if_neg e]; exact if_neg (by omega)
theorem DG_s {g g' : Nat → Int32} {k d q : Int} (h : DGok g) (hk : 0 ≤ k) (hq : 1 ≤ q ∧ q ≤ d) (hd : d ≤ 12) (e : g' = upd g k.toNat (zI (d / q))) : DGok g' := by
  intro j h1 h2
  rw [e, upI_at hk h1]
  by_cases r : j = k
  · rw [if_pos r]
    refine ⟨d / q, Int.ediv_nonneg (by omega) (by omega), ?_, rfl⟩
    have := Int.ediv_le_self (a := d) q (by omega)
    omega
  · rw [if_neg r]; exact h j h1 h2
end
section
theorem dX7_degree2_0 : decode cX7_degree2 0 = .ok (.iconst (-1), 1) := by decide +kernel
theorem dX7_degree2_1 : decode cX7_degree2 1 = .ok (.istore_n 1, 1) := by decide +kernel
theorem dX7_degree2_2 : decode cX7_degree2 2 = .ok (.iconst 0, 1) := by decide +kernel
theorem dX7_degree2_3 : decode cX7_degree2 3 = .ok (.istore_n 2, 1) := by decide +kernel
theorem dX7_degree2_4 : decode cX7_degree2 4 = .ok (.iload_n 2, 1) := by decide +kernel
theorem dX7_degree2_5 : decode cX7_degree2 5 = .ok (.bipush 7, 2) := by decide +kernel
theorem dX7_degree2_7 : decode cX7_degree2 7 = .ok (.if_icmp .ge 51, 3) := by decide +kernel
theorem dX7_degree2_10 : decode cX7_degree2 10 = .ok (.iconst 0, 1) := by decide +kernel
theorem dX7_degree2_11 : decode cX7_degree2 11 = .ok (.istore_n 3, 1) := by decide +kernel
theorem dX7_degree2_12 : decode cX7_degree2 12 = .ok (.iload_n 3, 1) := by decide +kernel
theorem dX7_degree2_13 : decode cX7_degree2 13 = .ok (.bipush 7, 2) := by decide +kernel
theorem dX7_degree2_15 : decode cX7_degree2 15 = .ok (.if_icmp .ge 37, 3) := by decide +kernel
theorem dX7_degree2_18 : decode cX7_degree2 18 = .ok (.aload_n 0, 1) := by decide +kernel
theorem dX7_degree2_19 : decode cX7_degree2 19 = .ok (.bipush 7, 2) := by decide +kernel
theorem dX7_degree2_21 : decode cX7_degree2 21 = .ok (.iload_n 2, 1) := by decide +kernel
theorem dX7_degree2_22 : decode cX7_degree2 22 = .ok (.imul, 1) := by decide +kernel
theorem dX7_degree2_23 : decode cX7_degree2 23 = .ok (.iload_n 3, 1) := by decide +kernel
theorem dX7_degree2_24 : decode cX7_degree2 24 = .ok (.iadd, 1) := by decide +kernel
theorem dX7_degree2_25 : decode cX7_degree2 25 = .ok (.laload, 1) := by decide +kernel
theorem dX7_degree2_26 : decode cX7_degree2 26 = .ok (.lconst 0, 1) := by decide +kernel
theorem dX7_degree2_27 : decode cX7_degree2 27 = .ok (.lcmp, 1) := by decide +kernel
theorem dX7_degree2_28 : decode cX7_degree2 28 = .ok (.ifCond .eq 16, 3) := by decide +kernel
theorem dX7_degree2_31 : decode cX7_degree2 31 = .ok (.iload_n 2, 1) := by decide +kernel
theorem dX7_degree2_32 : decode cX7_degree2 32 = .ok (.iload_n 3, 1) := by decide +kernel
theorem dX7_degree2_33 : decode cX7_degree2 33 = .ok (.iadd, 1) := by decide +kernel
theorem dX7_degree2_34 : decode cX7_degree2 34 = .ok (.iload_n 1, 1) := by decide +kernel
theorem dX7_degree2_35 : decode cX7_degree2 35 = .ok (.if_icmp .le 9, 3) := by decide +kernel
theorem dX7_degree2_38 : decode cX7_degree2 38 = .ok (.iload_n 2, 1) := by decide +kernel
theorem dX7_degree2_39 : decode cX7_degree2 39 = .ok (.iload_n 3, 1) := by decide +kernel
theorem dX7_degree2_40 : decode cX7_degree2 40 = .ok (.iadd, 1) := by decide +kernel
theorem dX7_degree2_41 : decode cX7_degree2 41 = .ok (.goto 4, 3) := by decide +kernel
theorem dX7_degree2_44 : decode cX7_degree2 44 = .ok (.iload_n 1, 1) := by decide +kernel
theorem dX7_degree2_45 : decode cX7_degree2 45 = .ok (.istore_n 1, 1) := by decide +kernel
theorem dX7_degree2_46 : decode cX7_degree2 46 = .ok (.iinc 3 1, 3) := by decide +kernel
theorem dX7_degree2_49 : decode cX7_degree2 49 = .ok (.goto (-37), 3) := by decide +kernel
theorem dX7_degree2_52 : decode cX7_degree2 52 = .ok (.iinc 2 1, 3) := by decide +kernel
theorem dX7_degree2_55 : decode cX7_degree2 55 = .ok (.goto (-51), 3) := by decide +kernel
theorem dX7_degree2_58 : decode cX7_degree2 58 = .ok (.iload_n 1, 1) := by decide +kernel
theorem dX7_degree2_59 : decode cX7_degree2 59 = .ok (.ireturn, 1) := by decide +kernel
set_option maxHeartbeats 4000000 in
set_option maxRecDepth 100000 in
theorem ct_X7_degree2 (l : Launch) (D : va_G) (ce : Nat → ClassId) (ad : Nat) (f : Nat → Int64)  : Ct l yX7_degree2 cX7_degree2 4 (some .int) { frames := 0, cells := 0, slots := 0, locals := 0 } 0 0 D (TY ce) [.ref ad] ([(ad, .inl (ce 1, 49, .inr (.inl f)))]) (QI D (TY ce) (fun r w1 => ∃ z : Int, r = zI z ∧ w1 = [(ad, .inl (ce 1, 49, .inr (.inl f)))] ∧ (-1 ≤ z ∧ z ≤ 12) ∧ (d2x f z) ∧ (∀ a b : Int, 0 ≤ a → a < 7 → 0 ≤ b → b < 7 →  f (7 * a + b).toNat ≠ 0 → a + b ≤ z))) := by
  refine Ct.ofI (by decide) (Nat.le_of_ble_eq_true rfl) ?_
  intro p e s m args below meth c A Q hX hnm hR
  refine Z.pick (lv' := [(0, .ref ad)]) [0] rfl ?_
  refine Z.iconst hX dX7_degree2_0 ?_
  refine Z.istore_n (lv' := [(1, .int (zI (-1))), (0, .ref ad)]) hX dX7_degree2_1 rfl (by decide) rfl ?_
  refine Z.iconst hX dX7_degree2_2 ?_
  refine Z.istore_n (lv' := [(2, .int (zI 0)), (1, .int (zI (-1))), (0, .ref ad)]) hX dX7_degree2_3 rfl (by decide) rfl ?_
  have key_4 : ∀ (N : Nat), ∀ (i z : Int), (7 - i).toNat < N → (hi : 0 ≤ i ∧ i ≤ 7) → (hz : -1 ≤ z ∧ z ≤ 12) → (hd : d2x f z) → (hv : ∀ a b : Int, 0 ≤ a → a < 7 → 0 ≤ b → b < 7 → a < i → f (7 * a + b).toNat ≠ 0 → a + b ≤ z) → Z p l e { frames := 0, cells := 0, slots := 0, locals := 0 } s m args below meth c D A 4 0 0 Q 4 [(2, .int (zI i)), (1, .int (zI z)), (0, .ref ad)] [] ([(ad, .inl (ce 1, 49, .inr (.inl f)))]) := by
    intro N
    induction N with
    | zero => intro i z hm; exact absurd hm (Nat.not_lt_zero _)
    | succ N ih_4 =>
      intro i z hm hi hz hd hv
      refine Z.iload_n hX dX7_degree2_4 rfl rfl ?_
      refine Z.bipush hX dX7_degree2_5 (by decide) ?_
      refine Z.icmp_ge hX 58 dX7_degree2_7 (by decide) ⟨by omega, by omega⟩ ⟨by omega, by omega⟩ ?_ ?_
      · intro c1
        refine Z.iload_n hX dX7_degree2_58 rfl rfl ?_
        exact hR _ _ _ _ dX7_degree2_59 ⟨z, rfl, rfl, hz, hd, (fun a b h1 h2 h3 h4 h5 => hv a b h1 h2 h3 h4 (by omega) h5)⟩
      · intro c1
        refine Z.iconst hX dX7_degree2_10 ?_
        refine Z.istore_n (lv' := [(3, .int (zI 0)), (2, .int (zI i)), (1, .int (zI z)), (0, .ref ad)]) hX dX7_degree2_11 rfl (by decide) rfl ?_
        have key_12 : ∀ (N : Nat), ∀ (j z : Int), (7 - j).toNat < N → (hj : 0 ≤ j ∧ j ≤ 7) → (hz : -1 ≤ z ∧ z ≤ 12) → (hd : d2x f z) → (hv : ∀ a b : Int, 0 ≤ a → a < 7 → 0 ≤ b → b < 7 → (a < i ∨ a = i ∧ b < j) → f (7 * a + b).toNat ≠ 0 → a + b ≤ z) → Z p l e { frames := 0, cells := 0, slots := 0, locals := 0 } s m args below meth c D A 4 0 0 Q 12 [(3, .int (zI j)), (2, .int (zI i)), (1, .int (zI z)), (0, .ref ad)] [] ([(ad, .inl (ce 1, 49, .inr (.inl f)))]) := by
          intro N
          induction N with
          | zero => intro j z hm; exact absurd hm (Nat.not_lt_zero _)
          | succ N ih_12 =>
            intro j z hm hj hz hd hv
            refine Z.iload_n hX dX7_degree2_12 rfl rfl ?_
            refine Z.bipush hX dX7_degree2_13 (by decide) ?_
            refine Z.icmp_ge hX 52 dX7_degree2_15 (by decide) ⟨by omega, by omega⟩ ⟨by omega, by omega⟩ ?_ ?_
            · intro c2
              refine Z.iinc (lv' := [(2, .int (zI (i + 1))), (3, .int (zI j)), (1, .int (zI z)), (0, .ref ad)]) hX dX7_degree2_52 rfl (by decide) rfl ?_
              refine Z.goto hX 4 dX7_degree2_55 (by decide) ?_
              refine Z.pick [0, 2, 3] rfl ?_
              exact ih_4 _ _ (by omega) (by omega) hz hd (fun a b h1 h2 h3 h4 h5 => hv a b h1 h2 h3 h4 (by omega))
            · intro c2
              have key_45 : ∀ (zz : Int), (hz2 : -1 ≤ zz ∧ zz ≤ 12) → (hd2 : d2x f zz) → (hv2 : ∀ a b : Int, 0 ≤ a → a < 7 → 0 ≤ b → b < 7 → (a < i ∨ a = i ∧ b < j + 1) → f (7 * a + b).toNat ≠ 0 → a + b ≤ zz) → Z p l e { frames := 0, cells := 0, slots := 0, locals := 0 } s m args below meth c D A 4 0 0 Q 45 [(3, .int (zI j)), (2, .int (zI i)), (0, .ref ad)] [.int (zI zz)] ([(ad, .inl (ce 1, 49, .inr (.inl f)))]) := by
                intro zz hz2 hd2 hv2
                refine Z.istore_n (lv' := [(1, .int (zI zz)), (3, .int (zI j)), (2, .int (zI i)), (0, .ref ad)]) hX dX7_degree2_45 rfl (by decide) rfl ?_
                refine Z.iinc (lv' := [(3, .int (zI (j + 1))), (1, .int (zI zz)), (2, .int (zI i)), (0, .ref ad)]) hX dX7_degree2_46 rfl (by decide) rfl ?_
                refine Z.goto hX 12 dX7_degree2_49 (by decide) ?_
                refine Z.pick [0, 2, 1, 3] rfl ?_
                exact ih_12 _ _ (by omega) (by omega) hz2 hd2 hv2
              refine Z.aload_n hX dX7_degree2_18 rfl rfl ?_
              refine Z.bipush hX dX7_degree2_19 (by decide) ?_
              refine Z.iload_n hX dX7_degree2_21 rfl rfl ?_
              refine Z.imul hX dX7_degree2_22 ?_
              refine Z.iload_n hX dX7_degree2_23 rfl rfl ?_
              refine Z.iadd hX dX7_degree2_24 ?_
              refine Z.laload hX 0 1 dX7_degree2_25 rfl rfl (by omega) (by omega) (by decide) ?_
              refine Z.lconst (v := 0) hX dX7_degree2_26 rfl ?_
              refine Z.lcmp_eq hX 44 dX7_degree2_27 dX7_degree2_28 (by decide) ?_ ?_
              · intro c3
                refine Z.iload_n hX dX7_degree2_44 rfl rfl ?_
                refine Z.pick [0, 1, 3] rfl ?_
                exact key_45 _ hz hd (d2_v hv (Int.le_refl _) (fun q => by first | omega | exact absurd (by assumption) q))
              · intro c3
                refine Z.iload_n hX dX7_degree2_31 rfl rfl ?_
                refine Z.iload_n hX dX7_degree2_32 rfl rfl ?_
                refine Z.iadd hX dX7_degree2_33 ?_
                refine Z.iload_n hX dX7_degree2_34 rfl rfl ?_
                refine Z.icmp_le hX 44 dX7_degree2_35 (by decide) ⟨by omega, by omega⟩ ⟨by omega, by omega⟩ ?_ ?_
                · intro c4
                  refine Z.iload_n hX dX7_degree2_44 rfl rfl ?_
                  refine Z.pick [0, 1, 3] rfl ?_
                  exact key_45 _ hz hd (d2_v hv (Int.le_refl _) (fun q => by first | omega | exact absurd (by assumption) q))
                · intro c4
                  refine Z.iload_n hX dX7_degree2_38 rfl rfl ?_
                  refine Z.iload_n hX dX7_degree2_39 rfl rfl ?_
                  refine Z.iadd hX dX7_degree2_40 ?_
                  refine Z.goto hX 45 dX7_degree2_41 (by decide) ?_
                  refine Z.pick [0, 1, 3] rfl ?_
                  exact key_45 _ (by omega) (d2_s (by omega) (by omega) hd (by assumption)) (d2_v hv (by omega) (fun _ => by omega))
        refine Z.pick [0, 1, 2, 3] rfl ?_
        exact key_12 _ _ _ (Nat.lt_succ_self _) (by omega) hz hd (fun a b h1 h2 h3 h4 h5 => hv a b h1 h2 h3 h4 (by omega))
  refine Z.pick [0, 1, 2] rfl ?_
  exact key_4 _ _ _ (Nat.lt_succ_self _) (by omega) (by omega) (fun h => absurd h (by omega)) (fun a b _ _ _ _ h => by omega)

theorem dX7_firstOf_0 : decode cX7_firstOf 0 = .ok (.aload_n 0, 1) := by decide +kernel
theorem dX7_firstOf_1 : decode cX7_firstOf 1 = .ok (.invokestatic 105, 3) := by decide +kernel
theorem dX7_firstOf_4 : decode cX7_firstOf 4 = .ok (.istore_n 1, 1) := by decide +kernel
theorem dX7_firstOf_5 : decode cX7_firstOf 5 = .ok (.iload_n 1, 1) := by decide +kernel
theorem dX7_firstOf_6 : decode cX7_firstOf 6 = .ok (.bipush 6, 2) := by decide +kernel
theorem dX7_firstOf_8 : decode cX7_firstOf 8 = .ok (.if_icmp .ge 7, 3) := by decide +kernel
theorem dX7_firstOf_11 : decode cX7_firstOf 11 = .ok (.iload_n 1, 1) := by decide +kernel
theorem dX7_firstOf_12 : decode cX7_firstOf 12 = .ok (.goto 5, 3) := by decide +kernel
theorem dX7_firstOf_15 : decode cX7_firstOf 15 = .ok (.bipush 6, 2) := by decide +kernel
theorem dX7_firstOf_17 : decode cX7_firstOf 17 = .ok (.istore_n 2, 1) := by decide +kernel
theorem dX7_firstOf_18 : decode cX7_firstOf 18 = .ok (.iload_n 2, 1) := by decide +kernel
theorem dX7_firstOf_19 : decode cX7_firstOf 19 = .ok (.ifCond .lt 41, 3) := by decide +kernel
theorem dX7_firstOf_22 : decode cX7_firstOf 22 = .ok (.iload_n 1, 1) := by decide +kernel
theorem dX7_firstOf_23 : decode cX7_firstOf 23 = .ok (.iload_n 2, 1) := by decide +kernel
theorem dX7_firstOf_24 : decode cX7_firstOf 24 = .ok (.isub, 1) := by decide +kernel
theorem dX7_firstOf_25 : decode cX7_firstOf 25 = .ok (.bipush 7, 2) := by decide +kernel
theorem dX7_firstOf_27 : decode cX7_firstOf 27 = .ok (.if_icmp .ge 27, 3) := by decide +kernel
theorem dX7_firstOf_30 : decode cX7_firstOf 30 = .ok (.aload_n 0, 1) := by decide +kernel
theorem dX7_firstOf_31 : decode cX7_firstOf 31 = .ok (.bipush 7, 2) := by decide +kernel
theorem dX7_firstOf_33 : decode cX7_firstOf 33 = .ok (.iload_n 2, 1) := by decide +kernel
theorem dX7_firstOf_34 : decode cX7_firstOf 34 = .ok (.imul, 1) := by decide +kernel
theorem dX7_firstOf_35 : decode cX7_firstOf 35 = .ok (.iload_n 1, 1) := by decide +kernel
theorem dX7_firstOf_36 : decode cX7_firstOf 36 = .ok (.iadd, 1) := by decide +kernel
theorem dX7_firstOf_37 : decode cX7_firstOf 37 = .ok (.iload_n 2, 1) := by decide +kernel
theorem dX7_firstOf_38 : decode cX7_firstOf 38 = .ok (.isub, 1) := by decide +kernel
theorem dX7_firstOf_39 : decode cX7_firstOf 39 = .ok (.laload, 1) := by decide +kernel
theorem dX7_firstOf_40 : decode cX7_firstOf 40 = .ok (.lconst 0, 1) := by decide +kernel
theorem dX7_firstOf_41 : decode cX7_firstOf 41 = .ok (.lcmp, 1) := by decide +kernel
theorem dX7_firstOf_42 : decode cX7_firstOf 42 = .ok (.ifCond .eq 12, 3) := by decide +kernel
theorem dX7_firstOf_45 : decode cX7_firstOf 45 = .ok (.bipush 7, 2) := by decide +kernel
theorem dX7_firstOf_47 : decode cX7_firstOf 47 = .ok (.iload_n 2, 1) := by decide +kernel
theorem dX7_firstOf_48 : decode cX7_firstOf 48 = .ok (.imul, 1) := by decide +kernel
theorem dX7_firstOf_49 : decode cX7_firstOf 49 = .ok (.iload_n 1, 1) := by decide +kernel
theorem dX7_firstOf_50 : decode cX7_firstOf 50 = .ok (.iadd, 1) := by decide +kernel
theorem dX7_firstOf_51 : decode cX7_firstOf 51 = .ok (.iload_n 2, 1) := by decide +kernel
theorem dX7_firstOf_52 : decode cX7_firstOf 52 = .ok (.isub, 1) := by decide +kernel
theorem dX7_firstOf_53 : decode cX7_firstOf 53 = .ok (.ireturn, 1) := by decide +kernel
theorem dX7_firstOf_54 : decode cX7_firstOf 54 = .ok (.iinc 2 (-1), 3) := by decide +kernel
theorem dX7_firstOf_57 : decode cX7_firstOf 57 = .ok (.goto (-39), 3) := by decide +kernel
theorem dX7_firstOf_60 : decode cX7_firstOf 60 = .ok (.iconst (-1), 1) := by decide +kernel
theorem dX7_firstOf_61 : decode cX7_firstOf 61 = .ok (.ireturn, 1) := by decide +kernel
set_option maxHeartbeats 4000000 in
set_option maxRecDepth 100000 in
theorem ct_X7_firstOf (l : Launch) (D : va_G) (ce : Nat → ClassId) (ad : Nat) (f : Nat → Int64)  : Ct l yX7_firstOf cX7_firstOf 3 (some .int) { frames := 1, cells := 0, slots := 0, locals := 23 } 0 0 D (TY ce) [.ref ad] ([(ad, .inl (ce 1, 49, .inr (.inl f)))]) (QI D (TY ce) (fun r w1 => ∃ z : Int, r = zI z ∧ w1 = [(ad, .inl (ce 1, 49, .inr (.inl f)))] ∧ ((0 ≤ z ∧ z < 49 ∧ f z.toNat ≠ 0) ∨ (z = -1 ∧ ∀ a b : Int, 0 ≤ a → a < 7 → 0 ≤ b → b < 7 → f (7 * a + b).toNat = 0)))) := by
  refine Ct.ofI (by decide) (Nat.le_of_ble_eq_true rfl) ?_
  intro p e s m args below meth c A Q hX hnm hR
  refine Z.pick (lv' := [(0, .ref ad)]) [0] rfl ?_
  refine Z.aload_n hX dX7_firstOf_0 rfl rfl ?_
  refine Z.callS1i (As := [.ref ad]) (rest := []) hX 0 rfl (ct_X7_degree2 l D ce ad f ) mc_X7_degree2 ml_X7_105 st_X7_degree2 ini_X7 nd_X7_degree2 ⟨Nat.le_of_ble_eq_true rfl, Nat.le_of_ble_eq_true rfl⟩ ⟨rfl, rfl⟩ ⟨Nat.le_refl _, Nat.le_refl _⟩ rfl (Nat.le_of_ble_eq_true rfl) dX7_firstOf_1 ?_
  rintro r_1 w1 ⟨d, hr_, hw_, d1, d2, d3⟩
  subst hr_
  refine ⟨_, hw_, ?_⟩
  refine Z.toW (w' := [(ad, .inl (ce 1, 49, .inr (.inl f)))]) rfl ?_
  refine Z.istore_n (lv' := [(1, .int (zI d)), (0, .ref ad)]) hX dX7_firstOf_4 rfl (by decide) rfl ?_
  refine Z.iload_n hX dX7_firstOf_5 rfl rfl ?_
  refine Z.bipush hX dX7_firstOf_6 (by decide) ?_
  refine Z.icmp_ge hX 15 dX7_firstOf_8 (by decide) ⟨by omega, by omega⟩ ⟨by omega, by omega⟩ ?_ ?_
  · intro c2
    refine Z.bipush hX dX7_firstOf_15 (by decide) ?_
    refine Z.istore_n (lv' := [(2, .int (zI 6)), (1, .int (zI d)), (0, .ref ad)]) hX dX7_firstOf_17 rfl (by decide) rfl ?_
    have key_18 : ∀ (N : Nat), ∀ (i : Int), (i + 1).toNat < N → (hi : -1 ≤ i ∧ i ≤ 6 ∧ i ≤ d) → (hn : ∀ a : Int, i < a → a < 7 → 0 ≤ d - a → d - a < 7 → f (7 * a + (d - a)).toNat = 0) → Z p l e { frames := 1, cells := 0, slots := 0, locals := 23 } s m args below meth c D A 3 0 0 Q 18 [(2, .int (zI i)), (1, .int (zI d)), (0, .ref ad)] [] ([(ad, .inl (ce 1, 49, .inr (.inl f)))]) := by
      intro N
      induction N with
      | zero => intro i hm; exact absurd hm (Nat.not_lt_zero _)
      | succ N ih_18 =>
        intro i hm hi hn
        refine Z.iload_n hX dX7_firstOf_18 rfl rfl ?_
        refine Z.if_lt hX 60 dX7_firstOf_19 (by decide) ⟨by omega, by omega⟩ ?_ ?_
        · intro c3
          refine Z.iconst hX dX7_firstOf_60 ?_
          exact hR _ _ _ _ dX7_firstOf_61 ⟨(-1), rfl, rfl, Or.inr ⟨rfl, fo_no hn (by omega) d2 d3⟩⟩
        · intro c3
          refine Z.iload_n hX dX7_firstOf_22 rfl rfl ?_
          refine Z.iload_n hX dX7_firstOf_23 rfl rfl ?_
          refine Z.isub hX dX7_firstOf_24 ?_
          refine Z.bipush hX dX7_firstOf_25 (by decide) ?_
          refine Z.icmp_ge hX 54 dX7_firstOf_27 (by decide) ⟨by omega, by omega⟩ ⟨by omega, by omega⟩ ?_ ?_
          · intro c4
            refine Z.iinc (lv' := [(2, .int (zI (i + -1))), (1, .int (zI d)), (0, .ref ad)]) hX dX7_firstOf_54 rfl (by decide) rfl ?_
            refine Z.goto hX 18 dX7_firstOf_57 (by decide) ?_
            refine Z.pick [0, 1, 2] rfl ?_
            exact ih_18 _ (by omega) (by omega) (fo_s hn (fun h1 h2 => by first | omega | (rw [show 7 * i + (d - i) = 7 * i + d - i by omega]; assumption)))
          · intro c4
            refine Z.aload_n hX dX7_firstOf_30 rfl rfl ?_
            refine Z.bipush hX dX7_firstOf_31 (by decide) ?_
            refine Z.iload_n hX dX7_firstOf_33 rfl rfl ?_
            refine Z.imul hX dX7_firstOf_34 ?_
            refine Z.iload_n hX dX7_firstOf_35 rfl rfl ?_
            refine Z.iadd hX dX7_firstOf_36 ?_
            refine Z.iload_n hX dX7_firstOf_37 rfl rfl ?_
            refine Z.isub hX dX7_firstOf_38 ?_
            refine Z.laload hX 0 1 dX7_firstOf_39 rfl rfl (by omega) (by omega) (by decide) ?_
            refine Z.lconst (v := 0) hX dX7_firstOf_40 rfl ?_
            refine Z.lcmp_eq hX 54 dX7_firstOf_41 dX7_firstOf_42 (by decide) ?_ ?_
            · intro c5
              refine Z.iinc (lv' := [(2, .int (zI (i + -1))), (1, .int (zI d)), (0, .ref ad)]) hX dX7_firstOf_54 rfl (by decide) rfl ?_
              refine Z.goto hX 18 dX7_firstOf_57 (by decide) ?_
              refine Z.pick [0, 1, 2] rfl ?_
              exact ih_18 _ (by omega) (by omega) (fo_s hn (fun h1 h2 => by first | omega | (rw [show 7 * i + (d - i) = 7 * i + d - i by omega]; assumption)))
            · intro c5
              refine Z.bipush hX dX7_firstOf_45 (by decide) ?_
              refine Z.iload_n hX dX7_firstOf_47 rfl rfl ?_
              refine Z.imul hX dX7_firstOf_48 ?_
              refine Z.iload_n hX dX7_firstOf_49 rfl rfl ?_
              refine Z.iadd hX dX7_firstOf_50 ?_
              refine Z.iload_n hX dX7_firstOf_51 rfl rfl ?_
              refine Z.isub hX dX7_firstOf_52 ?_
              exact hR _ _ _ _ dX7_firstOf_53 ⟨(((7 * i) + d) - i), rfl, rfl, Or.inl ⟨by omega, by omega, by assumption⟩⟩
    refine Z.pick [0, 1, 2] rfl ?_
    exact key_18 _ _ (Nat.lt_succ_self _) (by omega) (fun a h1 h2 h3 h4 => by omega)
  · intro c2
    refine Z.iload_n hX dX7_firstOf_11 rfl rfl ?_
    refine Z.goto hX 17 dX7_firstOf_12 (by decide) ?_
    refine Z.istore_n (lv' := [(2, .int (zI d)), (1, .int (zI d)), (0, .ref ad)]) hX dX7_firstOf_17 rfl (by decide) rfl ?_
    have key_18 : ∀ (N : Nat), ∀ (i : Int), (i + 1).toNat < N → (hi : -1 ≤ i ∧ i ≤ 6 ∧ i ≤ d) → (hn : ∀ a : Int, i < a → a < 7 → 0 ≤ d - a → d - a < 7 → f (7 * a + (d - a)).toNat = 0) → Z p l e { frames := 1, cells := 0, slots := 0, locals := 23 } s m args below meth c D A 3 0 0 Q 18 [(2, .int (zI i)), (1, .int (zI d)), (0, .ref ad)] [] ([(ad, .inl (ce 1, 49, .inr (.inl f)))]) := by
      intro N
      induction N with
      | zero => intro i hm; exact absurd hm (Nat.not_lt_zero _)
      | succ N ih_18 =>
        intro i hm hi hn
        refine Z.iload_n hX dX7_firstOf_18 rfl rfl ?_
        refine Z.if_lt hX 60 dX7_firstOf_19 (by decide) ⟨by omega, by omega⟩ ?_ ?_
        · intro c6
          refine Z.iconst hX dX7_firstOf_60 ?_
          exact hR _ _ _ _ dX7_firstOf_61 ⟨(-1), rfl, rfl, Or.inr ⟨rfl, fo_no hn (by omega) d2 d3⟩⟩
        · intro c6
          refine Z.iload_n hX dX7_firstOf_22 rfl rfl ?_
          refine Z.iload_n hX dX7_firstOf_23 rfl rfl ?_
          refine Z.isub hX dX7_firstOf_24 ?_
          refine Z.bipush hX dX7_firstOf_25 (by decide) ?_
          refine Z.icmp_ge hX 54 dX7_firstOf_27 (by decide) ⟨by omega, by omega⟩ ⟨by omega, by omega⟩ ?_ ?_
          · intro c7
            refine Z.iinc (lv' := [(2, .int (zI (i + -1))), (1, .int (zI d)), (0, .ref ad)]) hX dX7_firstOf_54 rfl (by decide) rfl ?_
            refine Z.goto hX 18 dX7_firstOf_57 (by decide) ?_
            refine Z.pick [0, 1, 2] rfl ?_
            exact ih_18 _ (by omega) (by omega) (fo_s hn (fun h1 h2 => by first | omega | (rw [show 7 * i + (d - i) = 7 * i + d - i by omega]; assumption)))
          · intro c7
            refine Z.aload_n hX dX7_firstOf_30 rfl rfl ?_
            refine Z.bipush hX dX7_firstOf_31 (by decide) ?_
            refine Z.iload_n hX dX7_firstOf_33 rfl rfl ?_
            refine Z.imul hX dX7_firstOf_34 ?_
            refine Z.iload_n hX dX7_firstOf_35 rfl rfl ?_
            refine Z.iadd hX dX7_firstOf_36 ?_
            refine Z.iload_n hX dX7_firstOf_37 rfl rfl ?_
            refine Z.isub hX dX7_firstOf_38 ?_
            refine Z.laload hX 0 1 dX7_firstOf_39 rfl rfl (by omega) (by omega) (by decide) ?_
            refine Z.lconst (v := 0) hX dX7_firstOf_40 rfl ?_
            refine Z.lcmp_eq hX 54 dX7_firstOf_41 dX7_firstOf_42 (by decide) ?_ ?_
            · intro c8
              refine Z.iinc (lv' := [(2, .int (zI (i + -1))), (1, .int (zI d)), (0, .ref ad)]) hX dX7_firstOf_54 rfl (by decide) rfl ?_
              refine Z.goto hX 18 dX7_firstOf_57 (by decide) ?_
              refine Z.pick [0, 1, 2] rfl ?_
              exact ih_18 _ (by omega) (by omega) (fo_s hn (fun h1 h2 => by first | omega | (rw [show 7 * i + (d - i) = 7 * i + d - i by omega]; assumption)))
            · intro c8
              refine Z.bipush hX dX7_firstOf_45 (by decide) ?_
              refine Z.iload_n hX dX7_firstOf_47 rfl rfl ?_
              refine Z.imul hX dX7_firstOf_48 ?_
              refine Z.iload_n hX dX7_firstOf_49 rfl rfl ?_
              refine Z.iadd hX dX7_firstOf_50 ?_
              refine Z.iload_n hX dX7_firstOf_51 rfl rfl ?_
              refine Z.isub hX dX7_firstOf_52 ?_
              exact hR _ _ _ _ dX7_firstOf_53 ⟨(((7 * i) + d) - i), rfl, rfl, Or.inl ⟨by omega, by omega, by assumption⟩⟩
    refine Z.pick [0, 1, 2] rfl ?_
    exact key_18 _ _ (Nat.lt_succ_self _) (by omega) (fun a h1 h2 h3 h4 => by omega)

theorem dX7_raise_0 : decode cX7_raise 0 = .ok (.iconst 0, 1) := by decide +kernel
theorem dX7_raise_1 : decode cX7_raise 1 = .ok (.istore_n 2, 1) := by decide +kernel
theorem dX7_raise_2 : decode cX7_raise 2 = .ok (.iload_n 2, 1) := by decide +kernel
theorem dX7_raise_3 : decode cX7_raise 3 = .ok (.bipush 49, 2) := by decide +kernel
theorem dX7_raise_5 : decode cX7_raise 5 = .ok (.if_icmp .ge 24, 3) := by decide +kernel
theorem dX7_raise_8 : decode cX7_raise 8 = .ok (.aload_n 0, 1) := by decide +kernel
theorem dX7_raise_9 : decode cX7_raise 9 = .ok (.getfield 48, 3) := by decide +kernel
theorem dX7_raise_12 : decode cX7_raise 12 = .ok (.iload_n 2, 1) := by decide +kernel
theorem dX7_raise_13 : decode cX7_raise 13 = .ok (.iload_n 2, 1) := by decide +kernel
theorem dX7_raise_14 : decode cX7_raise 14 = .ok (.ifCond .ne 7, 3) := by decide +kernel
theorem dX7_raise_17 : decode cX7_raise 17 = .ok (.lconst 1, 1) := by decide +kernel
theorem dX7_raise_18 : decode cX7_raise 18 = .ok (.goto 4, 3) := by decide +kernel
theorem dX7_raise_21 : decode cX7_raise 21 = .ok (.lconst 0, 1) := by decide +kernel
theorem dX7_raise_22 : decode cX7_raise 22 = .ok (.lastore, 1) := by decide +kernel
theorem dX7_raise_23 : decode cX7_raise 23 = .ok (.iinc 2 1, 3) := by decide +kernel
theorem dX7_raise_26 : decode cX7_raise 26 = .ok (.goto (-24), 3) := by decide +kernel
theorem dX7_raise_29 : decode cX7_raise 29 = .ok (.iconst 0, 1) := by decide +kernel
theorem dX7_raise_30 : decode cX7_raise 30 = .ok (.istore_n 2, 1) := by decide +kernel
theorem dX7_raise_31 : decode cX7_raise 31 = .ok (.iload_n 2, 1) := by decide +kernel
theorem dX7_raise_32 : decode cX7_raise 32 = .ok (.iload_n 1, 1) := by decide +kernel
theorem dX7_raise_33 : decode cX7_raise 33 = .ok (.if_icmp .ge 165, 3) := by decide +kernel
theorem dX7_raise_36 : decode cX7_raise 36 = .ok (.iconst 0, 1) := by decide +kernel
theorem dX7_raise_37 : decode cX7_raise 37 = .ok (.istore_n 3, 1) := by decide +kernel
theorem dX7_raise_38 : decode cX7_raise 38 = .ok (.iload_n 3, 1) := by decide +kernel
theorem dX7_raise_39 : decode cX7_raise 39 = .ok (.bipush 49, 2) := by decide +kernel
theorem dX7_raise_41 : decode cX7_raise 41 = .ok (.if_icmp .ge 16, 3) := by decide +kernel
theorem dX7_raise_44 : decode cX7_raise 44 = .ok (.aload_n 0, 1) := by decide +kernel
theorem dX7_raise_45 : decode cX7_raise 45 = .ok (.getfield 51, 3) := by decide +kernel
theorem dX7_raise_48 : decode cX7_raise 48 = .ok (.iload_n 3, 1) := by decide +kernel
theorem dX7_raise_49 : decode cX7_raise 49 = .ok (.lconst 0, 1) := by decide +kernel
theorem dX7_raise_50 : decode cX7_raise 50 = .ok (.lastore, 1) := by decide +kernel
theorem dX7_raise_51 : decode cX7_raise 51 = .ok (.iinc 3 1, 3) := by decide +kernel
theorem dX7_raise_54 : decode cX7_raise 54 = .ok (.goto (-16), 3) := by decide +kernel
theorem dX7_raise_57 : decode cX7_raise 57 = .ok (.iconst 0, 1) := by decide +kernel
theorem dX7_raise_58 : decode cX7_raise 58 = .ok (.istore_n 3, 1) := by decide +kernel
theorem dX7_raise_59 : decode cX7_raise 59 = .ok (.iload_n 3, 1) := by decide +kernel
theorem dX7_raise_60 : decode cX7_raise 60 = .ok (.bipush 49, 2) := by decide +kernel
theorem dX7_raise_62 : decode cX7_raise 62 = .ok (.if_icmp .ge 104, 3) := by decide +kernel
theorem dX7_raise_65 : decode cX7_raise 65 = .ok (.iconst 0, 1) := by decide +kernel
theorem dX7_raise_66 : decode cX7_raise 66 = .ok (.istore 4, 2) := by decide +kernel
theorem dX7_raise_68 : decode cX7_raise 68 = .ok (.iload 4, 2) := by decide +kernel
theorem dX7_raise_70 : decode cX7_raise 70 = .ok (.bipush 49, 2) := by decide +kernel
theorem dX7_raise_72 : decode cX7_raise 72 = .ok (.if_icmp .ge 88, 3) := by decide +kernel
theorem dX7_raise_75 : decode cX7_raise 75 = .ok (.aload_n 0, 1) := by decide +kernel
theorem dX7_raise_76 : decode cX7_raise 76 = .ok (.getfield 48, 3) := by decide +kernel
theorem dX7_raise_79 : decode cX7_raise 79 = .ok (.iload_n 3, 1) := by decide +kernel
theorem dX7_raise_80 : decode cX7_raise 80 = .ok (.laload, 1) := by decide +kernel
theorem dX7_raise_81 : decode cX7_raise 81 = .ok (.lconst 0, 1) := by decide +kernel
theorem dX7_raise_82 : decode cX7_raise 82 = .ok (.lcmp, 1) := by decide +kernel
theorem dX7_raise_83 : decode cX7_raise 83 = .ok (.ifCond .eq 77, 3) := by decide +kernel
theorem dX7_raise_86 : decode cX7_raise 86 = .ok (.aload_n 0, 1) := by decide +kernel
theorem dX7_raise_87 : decode cX7_raise 87 = .ok (.getfield 45, 3) := by decide +kernel
theorem dX7_raise_90 : decode cX7_raise 90 = .ok (.iload 4, 2) := by decide +kernel
theorem dX7_raise_92 : decode cX7_raise 92 = .ok (.laload, 1) := by decide +kernel
theorem dX7_raise_93 : decode cX7_raise 93 = .ok (.lconst 0, 1) := by decide +kernel
theorem dX7_raise_94 : decode cX7_raise 94 = .ok (.lcmp, 1) := by decide +kernel
theorem dX7_raise_95 : decode cX7_raise 95 = .ok (.ifCond .eq 59, 3) := by decide +kernel
theorem dX7_raise_98 : decode cX7_raise 98 = .ok (.iload_n 3, 1) := by decide +kernel
theorem dX7_raise_99 : decode cX7_raise 99 = .ok (.bipush 7, 2) := by decide +kernel
theorem dX7_raise_101 : decode cX7_raise 101 = .ok (.idiv, 1) := by decide +kernel
theorem dX7_raise_102 : decode cX7_raise 102 = .ok (.iload 4, 2) := by decide +kernel
theorem dX7_raise_104 : decode cX7_raise 104 = .ok (.bipush 7, 2) := by decide +kernel
theorem dX7_raise_106 : decode cX7_raise 106 = .ok (.idiv, 1) := by decide +kernel
theorem dX7_raise_107 : decode cX7_raise 107 = .ok (.iadd, 1) := by decide +kernel
theorem dX7_raise_108 : decode cX7_raise 108 = .ok (.bipush 7, 2) := by decide +kernel
theorem dX7_raise_110 : decode cX7_raise 110 = .ok (.if_icmp .ge 44, 3) := by decide +kernel
theorem dX7_raise_113 : decode cX7_raise 113 = .ok (.iload_n 3, 1) := by decide +kernel
theorem dX7_raise_114 : decode cX7_raise 114 = .ok (.bipush 7, 2) := by decide +kernel
theorem dX7_raise_116 : decode cX7_raise 116 = .ok (.irem, 1) := by decide +kernel
theorem dX7_raise_117 : decode cX7_raise 117 = .ok (.iload 4, 2) := by decide +kernel
theorem dX7_raise_119 : decode cX7_raise 119 = .ok (.bipush 7, 2) := by decide +kernel
theorem dX7_raise_121 : decode cX7_raise 121 = .ok (.irem, 1) := by decide +kernel
theorem dX7_raise_122 : decode cX7_raise 122 = .ok (.iadd, 1) := by decide +kernel
theorem dX7_raise_123 : decode cX7_raise 123 = .ok (.bipush 7, 2) := by decide +kernel
theorem dX7_raise_125 : decode cX7_raise 125 = .ok (.if_icmp .ge 29, 3) := by decide +kernel
theorem dX7_raise_128 : decode cX7_raise 128 = .ok (.aload_n 0, 1) := by decide +kernel
theorem dX7_raise_129 : decode cX7_raise 129 = .ok (.getfield 51, 3) := by decide +kernel
theorem dX7_raise_132 : decode cX7_raise 132 = .ok (.iload_n 3, 1) := by decide +kernel
theorem dX7_raise_133 : decode cX7_raise 133 = .ok (.iload 4, 2) := by decide +kernel
theorem dX7_raise_135 : decode cX7_raise 135 = .ok (.iadd, 1) := by decide +kernel
theorem dX7_raise_136 : decode cX7_raise 136 = .ok (.dup2, 1) := by decide +kernel
theorem dX7_raise_137 : decode cX7_raise 137 = .ok (.laload, 1) := by decide +kernel
theorem dX7_raise_138 : decode cX7_raise 138 = .ok (.aload_n 0, 1) := by decide +kernel
theorem dX7_raise_139 : decode cX7_raise 139 = .ok (.getfield 48, 3) := by decide +kernel
theorem dX7_raise_142 : decode cX7_raise 142 = .ok (.iload_n 3, 1) := by decide +kernel
theorem dX7_raise_143 : decode cX7_raise 143 = .ok (.laload, 1) := by decide +kernel
theorem dX7_raise_144 : decode cX7_raise 144 = .ok (.aload_n 0, 1) := by decide +kernel
theorem dX7_raise_145 : decode cX7_raise 145 = .ok (.getfield 45, 3) := by decide +kernel
theorem dX7_raise_148 : decode cX7_raise 148 = .ok (.iload 4, 2) := by decide +kernel
theorem dX7_raise_150 : decode cX7_raise 150 = .ok (.laload, 1) := by decide +kernel
theorem dX7_raise_151 : decode cX7_raise 151 = .ok (.lmul, 1) := by decide +kernel
theorem dX7_raise_152 : decode cX7_raise 152 = .ok (.ladd, 1) := by decide +kernel
theorem dX7_raise_153 : decode cX7_raise 153 = .ok (.lastore, 1) := by decide +kernel
theorem dX7_raise_154 : decode cX7_raise 154 = .ok (.iinc 4 1, 3) := by decide +kernel
theorem dX7_raise_157 : decode cX7_raise 157 = .ok (.goto (-89), 3) := by decide +kernel
theorem dX7_raise_160 : decode cX7_raise 160 = .ok (.iinc 3 1, 3) := by decide +kernel
theorem dX7_raise_163 : decode cX7_raise 163 = .ok (.goto (-104), 3) := by decide +kernel
theorem dX7_raise_166 : decode cX7_raise 166 = .ok (.iconst 0, 1) := by decide +kernel
theorem dX7_raise_167 : decode cX7_raise 167 = .ok (.istore_n 3, 1) := by decide +kernel
theorem dX7_raise_168 : decode cX7_raise 168 = .ok (.iload_n 3, 1) := by decide +kernel
theorem dX7_raise_169 : decode cX7_raise 169 = .ok (.bipush 49, 2) := by decide +kernel
theorem dX7_raise_171 : decode cX7_raise 171 = .ok (.if_icmp .ge 21, 3) := by decide +kernel
theorem dX7_raise_174 : decode cX7_raise 174 = .ok (.aload_n 0, 1) := by decide +kernel
theorem dX7_raise_175 : decode cX7_raise 175 = .ok (.getfield 48, 3) := by decide +kernel
theorem dX7_raise_178 : decode cX7_raise 178 = .ok (.iload_n 3, 1) := by decide +kernel
theorem dX7_raise_179 : decode cX7_raise 179 = .ok (.aload_n 0, 1) := by decide +kernel
theorem dX7_raise_180 : decode cX7_raise 180 = .ok (.getfield 51, 3) := by decide +kernel
theorem dX7_raise_183 : decode cX7_raise 183 = .ok (.iload_n 3, 1) := by decide +kernel
theorem dX7_raise_184 : decode cX7_raise 184 = .ok (.laload, 1) := by decide +kernel
theorem dX7_raise_185 : decode cX7_raise 185 = .ok (.lastore, 1) := by decide +kernel
theorem dX7_raise_186 : decode cX7_raise 186 = .ok (.iinc 3 1, 3) := by decide +kernel
theorem dX7_raise_189 : decode cX7_raise 189 = .ok (.goto (-21), 3) := by decide +kernel
theorem dX7_raise_192 : decode cX7_raise 192 = .ok (.iinc 2 1, 3) := by decide +kernel
theorem dX7_raise_195 : decode cX7_raise 195 = .ok (.goto (-164), 3) := by decide +kernel
theorem dX7_raise_198 : decode cX7_raise 198 = .ok (.return_, 1) := by decide +kernel
set_option maxHeartbeats 4000000 in
set_option maxRecDepth 100000 in
theorem ct_X7_raise (l : Launch) (D : va_G) (ce : Nat → ClassId) (h : Nat → Nat) (F : Nat → Int) (I : Nat → Nat → Int32) (J : Nat → Nat → Int64) (k : Int) (hk : 0 ≤ k ∧ k ≤ 12) : Ct l yX7_raise cX7_raise 5 none { frames := 0, cells := 0, slots := 0, locals := 0 } 0 0 D (TY ce) [.ref (h 0), .int (zI k)] (rW ce h F I J) (QV D (TY ce) (fun w1 => ∃ J2 : Nat → Nat → Int64, w1 = rW ce h F I J2 ∧ (∀ k, k ≠ 8 → k ≠ 9 → J2 k = J k))) := by
  refine Ct.ofV (by decide) (Nat.le_of_ble_eq_true rfl) ?_
  intro p e s m args below meth c A Q hX hnm hR
  refine Z.pick (lv' := [(0, .ref (h 0)), (1, .int (zI k))]) [0, 1] rfl ?_
  refine Z.iconst hX dX7_raise_0 ?_
  refine Z.istore_n (lv' := [(2, .int (zI 0)), (0, .ref (h 0)), (1, .int (zI k))]) hX dX7_raise_1 rfl (by decide) rfl ?_
  have key_2 : ∀ (N : Nat), ∀ (i : Int) (M : Nat → Nat → Int64), (49 - i).toNat < N → (hi : 0 ≤ i ∧ i ≤ 49) → (hM : ∀ k, k ≠ 8 → k ≠ 9 → M k = J k) → Z p l e { frames := 0, cells := 0, slots := 0, locals := 0 } s m args below meth c D A 5 0 0 Q 2 [(2, .int (zI i)), (1, .int (zI k)), (0, .ref (h 0))] [] (rW ce h F I M) := by
    intro N
    induction N with
    | zero => intro i M hm; exact absurd hm (Nat.not_lt_zero _)
    | succ N ih_2 =>
      intro i M hm hi hM
      refine Z.iload_n hX dX7_raise_2 rfl rfl ?_
      refine Z.bipush hX dX7_raise_3 (by decide) ?_
      refine Z.icmp_ge hX 29 dX7_raise_5 (by decide) ⟨by omega, by omega⟩ ⟨by omega, by omega⟩ ?_ ?_
      · intro c1
        refine Z.iconst hX dX7_raise_29 ?_
        refine Z.istore_n (lv' := [(2, .int (zI 0)), (1, .int (zI k)), (0, .ref (h 0))]) hX dX7_raise_30 rfl (by decide) rfl ?_
        have key_31 : ∀ (N : Nat), ∀ (n : Int) (M : Nat → Nat → Int64), (k - n).toNat < N → (hn : 0 ≤ n ∧ n ≤ k) → (hM : ∀ k, k ≠ 8 → k ≠ 9 → M k = J k) → Z p l e { frames := 0, cells := 0, slots := 0, locals := 0 } s m args below meth c D A 5 0 0 Q 31 [(2, .int (zI n)), (1, .int (zI k)), (0, .ref (h 0))] [] (rW ce h F I M) := by
          intro N
          induction N with
          | zero => intro n M hm; exact absurd hm (Nat.not_lt_zero _)
          | succ N ih_31 =>
            intro n M hm hn hM
            refine Z.iload_n hX dX7_raise_31 rfl rfl ?_
            refine Z.iload_n hX dX7_raise_32 rfl rfl ?_
            refine Z.icmp_ge hX 198 dX7_raise_33 (by decide) ⟨by omega, by omega⟩ ⟨by omega, by omega⟩ ?_ ?_
            · intro c2
              exact hR _ _ _ dX7_raise_198 ⟨M, rfl, (fun k h8 h9 => (hM k h8 h9))⟩
            · intro c2
              refine Z.iconst hX dX7_raise_36 ?_
              refine Z.istore_n (lv' := [(3, .int (zI 0)), (2, .int (zI n)), (1, .int (zI k)), (0, .ref (h 0))]) hX dX7_raise_37 rfl (by decide) rfl ?_
              have key_38 : ∀ (N : Nat), ∀ (i : Int) (M : Nat → Nat → Int64), (49 - i).toNat < N → (hi : 0 ≤ i ∧ i ≤ 49) → (hM : ∀ k, k ≠ 8 → k ≠ 9 → M k = J k) → Z p l e { frames := 0, cells := 0, slots := 0, locals := 0 } s m args below meth c D A 5 0 0 Q 38 [(3, .int (zI i)), (2, .int (zI n)), (1, .int (zI k)), (0, .ref (h 0))] [] (rW ce h F I M) := by
                intro N
                induction N with
                | zero => intro i M hm; exact absurd hm (Nat.not_lt_zero _)
                | succ N ih_38 =>
                  intro i M hm hi hM
                  refine Z.iload_n hX dX7_raise_38 rfl rfl ?_
                  refine Z.bipush hX dX7_raise_39 (by decide) ?_
                  refine Z.icmp_ge hX 57 dX7_raise_41 (by decide) ⟨by omega, by omega⟩ ⟨by omega, by omega⟩ ?_ ?_
                  · intro c3
                    refine Z.iconst hX dX7_raise_57 ?_
                    refine Z.istore_n (lv' := [(3, .int (zI 0)), (2, .int (zI n)), (1, .int (zI k)), (0, .ref (h 0))]) hX dX7_raise_58 rfl (by decide) rfl ?_
                    have key_59 : ∀ (N : Nat), ∀ (a : Int) (M : Nat → Nat → Int64), (49 - a).toNat < N → (ha : 0 ≤ a ∧ a ≤ 49) → (hM : ∀ k, k ≠ 8 → k ≠ 9 → M k = J k) → Z p l e { frames := 0, cells := 0, slots := 0, locals := 0 } s m args below meth c D A 5 0 0 Q 59 [(3, .int (zI a)), (2, .int (zI n)), (1, .int (zI k)), (0, .ref (h 0))] [] (rW ce h F I M) := by
                      intro N
                      induction N with
                      | zero => intro a M hm; exact absurd hm (Nat.not_lt_zero _)
                      | succ N ih_59 =>
                        intro a M hm ha hM
                        refine Z.iload_n hX dX7_raise_59 rfl rfl ?_
                        refine Z.bipush hX dX7_raise_60 (by decide) ?_
                        refine Z.icmp_ge hX 166 dX7_raise_62 (by decide) ⟨by omega, by omega⟩ ⟨by omega, by omega⟩ ?_ ?_
                        · intro c4
                          refine Z.iconst hX dX7_raise_166 ?_
                          refine Z.istore_n (lv' := [(3, .int (zI 0)), (2, .int (zI n)), (1, .int (zI k)), (0, .ref (h 0))]) hX dX7_raise_167 rfl (by decide) rfl ?_
                          have key_168 : ∀ (N : Nat), ∀ (i : Int) (M : Nat → Nat → Int64), (49 - i).toNat < N → (hi : 0 ≤ i ∧ i ≤ 49) → (hM : ∀ k, k ≠ 8 → k ≠ 9 → M k = J k) → Z p l e { frames := 0, cells := 0, slots := 0, locals := 0 } s m args below meth c D A 5 0 0 Q 168 [(3, .int (zI i)), (2, .int (zI n)), (1, .int (zI k)), (0, .ref (h 0))] [] (rW ce h F I M) := by
                            intro N
                            induction N with
                            | zero => intro i M hm; exact absurd hm (Nat.not_lt_zero _)
                            | succ N ih_168 =>
                              intro i M hm hi hM
                              refine Z.iload_n hX dX7_raise_168 rfl rfl ?_
                              refine Z.bipush hX dX7_raise_169 (by decide) ?_
                              refine Z.icmp_ge hX 192 dX7_raise_171 (by decide) ⟨by omega, by omega⟩ ⟨by omega, by omega⟩ ?_ ?_
                              · intro c5
                                refine Z.iinc (lv' := [(2, .int (zI (n + 1))), (3, .int (zI i)), (1, .int (zI k)), (0, .ref (h 0))]) hX dX7_raise_192 rfl (by decide) rfl ?_
                                refine Z.goto hX 31 dX7_raise_195 (by decide) ?_
                                refine Z.pick [0, 2, 3] rfl ?_
                                exact ih_31 _ _ (by omega) (by omega) (fun k h8 h9 => (hM k h8 h9))
                              · intro c5
                                refine Z.aload_n hX dX7_raise_174 rfl rfl ?_
                                refine Z.getf hX 7 0 15 dX7_raise_175 rfl rfl inX7 (by decide) fl_X7_48 rfl rfl ?_
                                refine Z.iload_n hX dX7_raise_178 rfl rfl ?_
                                refine Z.aload_n hX dX7_raise_179 rfl rfl ?_
                                refine Z.getf hX 7 0 16 dX7_raise_180 rfl rfl inX7 (by decide) fl_X7_51 rfl rfl ?_
                                refine Z.iload_n hX dX7_raise_183 rfl rfl ?_
                                refine Z.laload hX 14 1 dX7_raise_184 rfl rfl (by omega) (by omega) (by decide) ?_
                                refine Z.lastore hX 13 1 dX7_raise_185 rfl rfl (by omega) (by omega) (by decide) ?_
                                obtain ⟨J6, eJ6⟩ : ∃ J' : Nat → Nat → Int64, J' = va_up M 8 (vp_updL (M 8) (i : Int).toNat (M 9 (i : Int).toNat)) := ⟨_, rfl⟩
                                refine Z.toW (w' := rW ce h F I J6) (by rw [eJ6]; rfl) ?_
                                have gJ6 : J6 8 = vp_updL (M 8) (i : Int).toNat (M 9 (i : Int).toNat) := by rw [eJ6]; exact up_eq
                                have fJ6 : ∀ k, k ≠ 8 → J6 k = M k := fun k hk => by rw [eJ6]; exact up_ne hk
                                refine Z.iinc (lv' := [(3, .int (zI (i + 1))), (2, .int (zI n)), (1, .int (zI k)), (0, .ref (h 0))]) hX dX7_raise_186 rfl (by decide) rfl ?_
                                refine Z.goto hX 168 dX7_raise_189 (by decide) ?_
                                refine Z.pick [0, 1, 2, 3] rfl ?_
                                exact ih_168 _ _ (by omega) (by omega) (fun k h8 h9 => ((fJ6 k h8).trans (hM k h8 h9)))
                          refine Z.pick [0, 1, 2, 3] rfl ?_
                          exact key_168 _ _ _ (Nat.lt_succ_self _) (by omega) (fun k h8 h9 => (hM k h8 h9))
                        · intro c4
                          refine Z.iconst hX dX7_raise_65 ?_
                          refine Z.istore (lv' := [(4, .int (zI 0)), (3, .int (zI a)), (2, .int (zI n)), (1, .int (zI k)), (0, .ref (h 0))]) hX dX7_raise_66 (by decide) rfl ?_
                          have key_68 : ∀ (N : Nat), ∀ (b : Int) (M : Nat → Nat → Int64), (49 - b).toNat < N → (hb : 0 ≤ b ∧ b ≤ 49) → (hM : ∀ k, k ≠ 8 → k ≠ 9 → M k = J k) → Z p l e { frames := 0, cells := 0, slots := 0, locals := 0 } s m args below meth c D A 5 0 0 Q 68 [(4, .int (zI b)), (3, .int (zI a)), (2, .int (zI n)), (1, .int (zI k)), (0, .ref (h 0))] [] (rW ce h F I M) := by
                            intro N
                            induction N with
                            | zero => intro b M hm; exact absurd hm (Nat.not_lt_zero _)
                            | succ N ih_68 =>
                              intro b M hm hb hM
                              refine Z.iload hX dX7_raise_68 rfl ?_
                              refine Z.bipush hX dX7_raise_70 (by decide) ?_
                              refine Z.icmp_ge hX 160 dX7_raise_72 (by decide) ⟨by omega, by omega⟩ ⟨by omega, by omega⟩ ?_ ?_
                              · intro c7
                                refine Z.iinc (lv' := [(3, .int (zI (a + 1))), (4, .int (zI b)), (2, .int (zI n)), (1, .int (zI k)), (0, .ref (h 0))]) hX dX7_raise_160 rfl (by decide) rfl ?_
                                refine Z.goto hX 59 dX7_raise_163 (by decide) ?_
                                refine Z.pick [0, 2, 3, 4] rfl ?_
                                exact ih_59 _ _ (by omega) (by omega) (fun k h8 h9 => (hM k h8 h9))
                              · intro c7
                                refine Z.aload_n hX dX7_raise_75 rfl rfl ?_
                                refine Z.getf hX 7 0 15 dX7_raise_76 rfl rfl inX7 (by decide) fl_X7_48 rfl rfl ?_
                                refine Z.iload_n hX dX7_raise_79 rfl rfl ?_
                                refine Z.laload hX 13 1 dX7_raise_80 rfl rfl (by omega) (by omega) (by decide) ?_
                                refine Z.lconst (v := 0) hX dX7_raise_81 rfl ?_
                                refine Z.lcmp_eq hX 160 dX7_raise_82 dX7_raise_83 (by decide) ?_ ?_
                                · intro c8
                                  refine Z.iinc (lv' := [(3, .int (zI (a + 1))), (4, .int (zI b)), (2, .int (zI n)), (1, .int (zI k)), (0, .ref (h 0))]) hX dX7_raise_160 rfl (by decide) rfl ?_
                                  refine Z.goto hX 59 dX7_raise_163 (by decide) ?_
                                  refine Z.pick [0, 2, 3, 4] rfl ?_
                                  exact ih_59 _ _ (by omega) (by omega) (fun k h8 h9 => (hM k h8 h9))
                                · intro c8
                                  have key_154 : ∀ (M : Nat → Nat → Int64), (hM : ∀ k, k ≠ 8 → k ≠ 9 → M k = J k) → Z p l e { frames := 0, cells := 0, slots := 0, locals := 0 } s m args below meth c D A 5 0 0 Q 154 [(4, .int (zI b)), (3, .int (zI a)), (2, .int (zI n)), (1, .int (zI k)), (0, .ref (h 0))] [] (rW ce h F I M) := by
                                    intro M hM
                                    refine Z.iinc (lv' := [(4, .int (zI (b + 1))), (3, .int (zI a)), (2, .int (zI n)), (1, .int (zI k)), (0, .ref (h 0))]) hX dX7_raise_154 rfl (by decide) rfl ?_
                                    refine Z.goto hX 68 dX7_raise_157 (by decide) ?_
                                    refine Z.pick [0, 1, 2, 3, 4] rfl ?_
                                    exact ih_68 _ _ (by omega) (by omega) (fun k h8 h9 => (hM k h8 h9))
                                  refine Z.aload_n hX dX7_raise_86 rfl rfl ?_
                                  refine Z.getf hX 7 0 14 dX7_raise_87 rfl rfl inX7 (by decide) fl_X7_45 rfl rfl ?_
                                  refine Z.iload hX dX7_raise_90 rfl ?_
                                  refine Z.laload hX 12 1 dX7_raise_92 rfl rfl (by omega) (by omega) (by decide) ?_
                                  refine Z.lconst (v := 0) hX dX7_raise_93 rfl ?_
                                  refine Z.lcmp_eq hX 154 dX7_raise_94 dX7_raise_95 (by decide) ?_ ?_
                                  · intro c9
                                    refine Z.pick [0, 1, 2, 3, 4] rfl ?_
                                    exact key_154 _ (fun k h8 h9 => (hM k h8 h9))
                                  · intro c9
                                    refine Z.iload_n hX dX7_raise_98 rfl rfl ?_
                                    refine Z.bipush hX dX7_raise_99 (by decide) ?_
                                    refine Z.idiv hX dX7_raise_101 (by omega) (by omega) (by omega) (by omega) ?_
                                    refine Z.iload hX dX7_raise_102 rfl ?_
                                    refine Z.bipush hX dX7_raise_104 (by decide) ?_
                                    refine Z.idiv hX dX7_raise_106 (by omega) (by omega) (by omega) (by omega) ?_
                                    refine Z.iadd hX dX7_raise_107 ?_
                                    refine Z.bipush hX dX7_raise_108 (by decide) ?_
                                    refine Z.icmp_ge hX 154 dX7_raise_110 (by decide) ⟨by omega, by omega⟩ ⟨by omega, by omega⟩ ?_ ?_
                                    · intro c10
                                      refine Z.pick [0, 1, 2, 3, 4] rfl ?_
                                      exact key_154 _ (fun k h8 h9 => (hM k h8 h9))
                                    · intro c10
                                      refine Z.iload_n hX dX7_raise_113 rfl rfl ?_
                                      refine Z.bipush hX dX7_raise_114 (by decide) ?_
                                      refine Z.irem hX dX7_raise_116 (by omega) (by omega) (by omega) (by omega) ?_
                                      refine Z.iload hX dX7_raise_117 rfl ?_
                                      refine Z.bipush hX dX7_raise_119 (by decide) ?_
                                      refine Z.irem hX dX7_raise_121 (by omega) (by omega) (by omega) (by omega) ?_
                                      refine Z.iadd hX dX7_raise_122 ?_
                                      refine Z.bipush hX dX7_raise_123 (by decide) ?_
                                      refine Z.icmp_ge hX 154 dX7_raise_125 (by decide) ⟨by omega, by omega⟩ ⟨by omega, by omega⟩ ?_ ?_
                                      · intro c11
                                        refine Z.pick [0, 1, 2, 3, 4] rfl ?_
                                        exact key_154 _ (fun k h8 h9 => (hM k h8 h9))
                                      · intro c11
                                        refine Z.aload_n hX dX7_raise_128 rfl rfl ?_
                                        refine Z.getf hX 7 0 16 dX7_raise_129 rfl rfl inX7 (by decide) fl_X7_51 rfl rfl ?_
                                        refine Z.iload_n hX dX7_raise_132 rfl rfl ?_
                                        refine Z.iload hX dX7_raise_133 rfl ?_
                                        refine Z.iadd hX dX7_raise_135 ?_
                                        refine Z.dup2 hX dX7_raise_136 rfl rfl ?_
                                        refine Z.laload hX 14 1 dX7_raise_137 rfl rfl (by omega) (by omega) (by decide) ?_
                                        refine Z.aload_n hX dX7_raise_138 rfl rfl ?_
                                        refine Z.getf hX 7 0 15 dX7_raise_139 rfl rfl inX7 (by decide) fl_X7_48 rfl rfl ?_
                                        refine Z.iload_n hX dX7_raise_142 rfl rfl ?_
                                        refine Z.laload hX 13 1 dX7_raise_143 rfl rfl (by omega) (by omega) (by decide) ?_
                                        refine Z.aload_n hX dX7_raise_144 rfl rfl ?_
                                        refine Z.getf hX 7 0 14 dX7_raise_145 rfl rfl inX7 (by decide) fl_X7_45 rfl rfl ?_
                                        refine Z.iload hX dX7_raise_148 rfl ?_
                                        refine Z.laload hX 12 1 dX7_raise_150 rfl rfl (by omega) (by omega) (by decide) ?_
                                        refine Z.lmul hX dX7_raise_151 ?_
                                        refine Z.ladd hX dX7_raise_152 ?_
                                        refine Z.lastore hX 14 1 dX7_raise_153 rfl rfl (by omega) (by omega) (by decide) ?_
                                        obtain ⟨J12, eJ12⟩ : ∃ J' : Nat → Nat → Int64, J' = va_up M 9 (vp_updL (M 9) (a + b : Int).toNat ((M 9 (a + b : Int).toNat) + ((M 8 (a : Int).toNat) * (M 7 (b : Int).toNat)))) := ⟨_, rfl⟩
                                        refine Z.toW (w' := rW ce h F I J12) (by rw [eJ12]; rfl) ?_
                                        have gJ12 : J12 9 = vp_updL (M 9) (a + b : Int).toNat ((M 9 (a + b : Int).toNat) + ((M 8 (a : Int).toNat) * (M 7 (b : Int).toNat))) := by rw [eJ12]; exact up_eq
                                        have fJ12 : ∀ k, k ≠ 9 → J12 k = M k := fun k hk => by rw [eJ12]; exact up_ne hk
                                        refine Z.pick [0, 1, 2, 3, 4] rfl ?_
                                        exact key_154 _ (fun k h8 h9 => ((fJ12 k h9).trans (hM k h8 h9)))
                          refine Z.pick [0, 1, 2, 3, 4] rfl ?_
                          exact key_68 _ _ _ (Nat.lt_succ_self _) (by omega) (fun k h8 h9 => (hM k h8 h9))
                    refine Z.pick [0, 1, 2, 3] rfl ?_
                    exact key_59 _ _ _ (Nat.lt_succ_self _) (by omega) (fun k h8 h9 => (hM k h8 h9))
                  · intro c3
                    refine Z.aload_n hX dX7_raise_44 rfl rfl ?_
                    refine Z.getf hX 7 0 16 dX7_raise_45 rfl rfl inX7 (by decide) fl_X7_51 rfl rfl ?_
                    refine Z.iload_n hX dX7_raise_48 rfl rfl ?_
                    refine Z.lconst (v := 0) hX dX7_raise_49 rfl ?_
                    refine Z.lastore hX 14 1 dX7_raise_50 rfl rfl (by omega) (by omega) (by decide) ?_
                    obtain ⟨J13, eJ13⟩ : ∃ J' : Nat → Nat → Int64, J' = va_up M 9 (vp_updL (M 9) (i : Int).toNat (0)) := ⟨_, rfl⟩
                    refine Z.toW (w' := rW ce h F I J13) (by rw [eJ13]; rfl) ?_
                    have gJ13 : J13 9 = vp_updL (M 9) (i : Int).toNat (0) := by rw [eJ13]; exact up_eq
                    have fJ13 : ∀ k, k ≠ 9 → J13 k = M k := fun k hk => by rw [eJ13]; exact up_ne hk
                    refine Z.iinc (lv' := [(3, .int (zI (i + 1))), (2, .int (zI n)), (1, .int (zI k)), (0, .ref (h 0))]) hX dX7_raise_51 rfl (by decide) rfl ?_
                    refine Z.goto hX 38 dX7_raise_54 (by decide) ?_
                    refine Z.pick [0, 1, 2, 3] rfl ?_
                    exact ih_38 _ _ (by omega) (by omega) (fun k h8 h9 => ((fJ13 k h9).trans (hM k h8 h9)))
              refine Z.pick [0, 1, 2, 3] rfl ?_
              exact key_38 _ _ _ (Nat.lt_succ_self _) (by omega) (fun k h8 h9 => (hM k h8 h9))
        refine Z.pick [0, 1, 2] rfl ?_
        exact key_31 _ _ _ (Nat.lt_succ_self _) (by omega) (fun k h8 h9 => (hM k h8 h9))
      · intro c1
        refine Z.aload_n hX dX7_raise_8 rfl rfl ?_
        refine Z.getf hX 7 0 15 dX7_raise_9 rfl rfl inX7 (by decide) fl_X7_48 rfl rfl ?_
        refine Z.iload_n hX dX7_raise_12 rfl rfl ?_
        refine Z.iload_n hX dX7_raise_13 rfl rfl ?_
        refine Z.if_ne hX 21 dX7_raise_14 (by decide) ⟨by omega, by omega⟩ ?_ ?_
        · intro c14
          refine Z.lconst (v := 0) hX dX7_raise_21 rfl ?_
          refine Z.lastore hX 13 1 dX7_raise_22 rfl rfl (by omega) (by omega) (by decide) ?_
          obtain ⟨J15, eJ15⟩ : ∃ J' : Nat → Nat → Int64, J' = va_up M 8 (vp_updL (M 8) (i : Int).toNat (0)) := ⟨_, rfl⟩
          refine Z.toW (w' := rW ce h F I J15) (by rw [eJ15]; rfl) ?_
          have gJ15 : J15 8 = vp_updL (M 8) (i : Int).toNat (0) := by rw [eJ15]; exact up_eq
          have fJ15 : ∀ k, k ≠ 8 → J15 k = M k := fun k hk => by rw [eJ15]; exact up_ne hk
          refine Z.iinc (lv' := [(2, .int (zI (i + 1))), (1, .int (zI k)), (0, .ref (h 0))]) hX dX7_raise_23 rfl (by decide) rfl ?_
          refine Z.goto hX 2 dX7_raise_26 (by decide) ?_
          refine Z.pick [0, 1, 2] rfl ?_
          exact ih_2 _ _ (by omega) (by omega) (fun k h8 h9 => ((fJ15 k h8).trans (hM k h8 h9)))
        · intro c14
          refine Z.lconst (v := 1) hX dX7_raise_17 rfl ?_
          refine Z.goto hX 22 dX7_raise_18 (by decide) ?_
          refine Z.lastore hX 13 1 dX7_raise_22 rfl rfl (by omega) (by omega) (by decide) ?_
          obtain ⟨J16, eJ16⟩ : ∃ J' : Nat → Nat → Int64, J' = va_up M 8 (vp_updL (M 8) (i : Int).toNat (1)) := ⟨_, rfl⟩
          refine Z.toW (w' := rW ce h F I J16) (by rw [eJ16]; rfl) ?_
          have gJ16 : J16 8 = vp_updL (M 8) (i : Int).toNat (1) := by rw [eJ16]; exact up_eq
          have fJ16 : ∀ k, k ≠ 8 → J16 k = M k := fun k hk => by rw [eJ16]; exact up_ne hk
          refine Z.iinc (lv' := [(2, .int (zI (i + 1))), (1, .int (zI k)), (0, .ref (h 0))]) hX dX7_raise_23 rfl (by decide) rfl ?_
          refine Z.goto hX 2 dX7_raise_26 (by decide) ?_
          refine Z.pick [0, 1, 2] rfl ?_
          exact ih_2 _ _ (by omega) (by omega) (fun k h8 h9 => ((fJ16 k h8).trans (hM k h8 h9)))
  refine Z.pick [0, 2, 1] rfl ?_
  exact key_2 _ _ _ (Nat.lt_succ_self _) (by omega) (fun k h8 h9 => rfl)
end
section
theorem dX7_isPower_0 : decode cX7_isPower 0 = .ok (.iload_n 2, 1) := by decide +kernel
theorem dX7_isPower_1 : decode cX7_isPower 1 = .ok (.bipush 7, 2) := by decide +kernel
theorem dX7_isPower_3 : decode cX7_isPower 3 = .ok (.idiv, 1) := by decide +kernel
theorem dX7_isPower_4 : decode cX7_isPower 4 = .ok (.istore_n 3, 1) := by decide +kernel
theorem dX7_isPower_5 : decode cX7_isPower 5 = .ok (.iload_n 2, 1) := by decide +kernel
theorem dX7_isPower_6 : decode cX7_isPower 6 = .ok (.bipush 7, 2) := by decide +kernel
theorem dX7_isPower_8 : decode cX7_isPower 8 = .ok (.irem, 1) := by decide +kernel
theorem dX7_isPower_9 : decode cX7_isPower 9 = .ok (.istore 4, 2) := by decide +kernel
theorem dX7_isPower_11 : decode cX7_isPower 11 = .ok (.iload_n 3, 1) := by decide +kernel
theorem dX7_isPower_12 : decode cX7_isPower 12 = .ok (.iload_n 1, 1) := by decide +kernel
theorem dX7_isPower_13 : decode cX7_isPower 13 = .ok (.irem, 1) := by decide +kernel
theorem dX7_isPower_14 : decode cX7_isPower 14 = .ok (.ifCond .ne 10, 3) := by decide +kernel
theorem dX7_isPower_17 : decode cX7_isPower 17 = .ok (.iload 4, 2) := by decide +kernel
theorem dX7_isPower_19 : decode cX7_isPower 19 = .ok (.iload_n 1, 1) := by decide +kernel
theorem dX7_isPower_20 : decode cX7_isPower 20 = .ok (.irem, 1) := by decide +kernel
theorem dX7_isPower_21 : decode cX7_isPower 21 = .ok (.ifCond .eq 5, 3) := by decide +kernel
theorem dX7_isPower_24 : decode cX7_isPower 24 = .ok (.iconst 0, 1) := by decide +kernel
theorem dX7_isPower_25 : decode cX7_isPower 25 = .ok (.ireturn, 1) := by decide +kernel
theorem dX7_isPower_26 : decode cX7_isPower 26 = .ok (.aload_n 0, 1) := by decide +kernel
theorem dX7_isPower_27 : decode cX7_isPower 27 = .ok (.getfield 42, 3) := by decide +kernel
theorem dX7_isPower_30 : decode cX7_isPower 30 = .ok (.iload_n 2, 1) := by decide +kernel
theorem dX7_isPower_31 : decode cX7_isPower 31 = .ok (.laload, 1) := by decide +kernel
theorem dX7_isPower_32 : decode cX7_isPower 32 = .ok (.iload_n 1, 1) := by decide +kernel
theorem dX7_isPower_33 : decode cX7_isPower 33 = .ok (.invokestatic 123, 3) := by decide +kernel
theorem dX7_isPower_36 : decode cX7_isPower 36 = .ok (.lstore 5, 2) := by decide +kernel
theorem dX7_isPower_38 : decode cX7_isPower 38 = .ok (.lload 5, 2) := by decide +kernel
theorem dX7_isPower_40 : decode cX7_isPower 40 = .ok (.lconst 0, 1) := by decide +kernel
theorem dX7_isPower_41 : decode cX7_isPower 41 = .ok (.lcmp, 1) := by decide +kernel
theorem dX7_isPower_42 : decode cX7_isPower 42 = .ok (.ifCond .ne 5, 3) := by decide +kernel
theorem dX7_isPower_45 : decode cX7_isPower 45 = .ok (.iconst 0, 1) := by decide +kernel
theorem dX7_isPower_46 : decode cX7_isPower 46 = .ok (.ireturn, 1) := by decide +kernel
theorem dX7_isPower_47 : decode cX7_isPower 47 = .ok (.iconst 0, 1) := by decide +kernel
theorem dX7_isPower_48 : decode cX7_isPower 48 = .ok (.istore 7, 2) := by decide +kernel
theorem dX7_isPower_50 : decode cX7_isPower 50 = .ok (.iload 7, 2) := by decide +kernel
theorem dX7_isPower_52 : decode cX7_isPower 52 = .ok (.bipush 49, 2) := by decide +kernel
theorem dX7_isPower_54 : decode cX7_isPower 54 = .ok (.if_icmp .ge 17, 3) := by decide +kernel
theorem dX7_isPower_57 : decode cX7_isPower 57 = .ok (.aload_n 0, 1) := by decide +kernel
theorem dX7_isPower_58 : decode cX7_isPower 58 = .ok (.getfield 45, 3) := by decide +kernel
theorem dX7_isPower_61 : decode cX7_isPower 61 = .ok (.iload 7, 2) := by decide +kernel
theorem dX7_isPower_63 : decode cX7_isPower 63 = .ok (.lconst 0, 1) := by decide +kernel
theorem dX7_isPower_64 : decode cX7_isPower 64 = .ok (.lastore, 1) := by decide +kernel
theorem dX7_isPower_65 : decode cX7_isPower 65 = .ok (.iinc 7 1, 3) := by decide +kernel
theorem dX7_isPower_68 : decode cX7_isPower 68 = .ok (.goto (-18), 3) := by decide +kernel
theorem dX7_isPower_71 : decode cX7_isPower 71 = .ok (.iload_n 3, 1) := by decide +kernel
theorem dX7_isPower_72 : decode cX7_isPower 72 = .ok (.iload_n 1, 1) := by decide +kernel
theorem dX7_isPower_73 : decode cX7_isPower 73 = .ok (.idiv, 1) := by decide +kernel
theorem dX7_isPower_74 : decode cX7_isPower 74 = .ok (.istore 7, 2) := by decide +kernel
theorem dX7_isPower_76 : decode cX7_isPower 76 = .ok (.iload 4, 2) := by decide +kernel
theorem dX7_isPower_78 : decode cX7_isPower 78 = .ok (.iload_n 1, 1) := by decide +kernel
theorem dX7_isPower_79 : decode cX7_isPower 79 = .ok (.idiv, 1) := by decide +kernel
theorem dX7_isPower_80 : decode cX7_isPower 80 = .ok (.istore 8, 2) := by decide +kernel
theorem dX7_isPower_82 : decode cX7_isPower 82 = .ok (.aload_n 0, 1) := by decide +kernel
theorem dX7_isPower_83 : decode cX7_isPower 83 = .ok (.getfield 45, 3) := by decide +kernel
theorem dX7_isPower_86 : decode cX7_isPower 86 = .ok (.bipush 7, 2) := by decide +kernel
theorem dX7_isPower_88 : decode cX7_isPower 88 = .ok (.iload 7, 2) := by decide +kernel
theorem dX7_isPower_90 : decode cX7_isPower 90 = .ok (.imul, 1) := by decide +kernel
theorem dX7_isPower_91 : decode cX7_isPower 91 = .ok (.iload 8, 2) := by decide +kernel
theorem dX7_isPower_93 : decode cX7_isPower 93 = .ok (.iadd, 1) := by decide +kernel
theorem dX7_isPower_94 : decode cX7_isPower 94 = .ok (.lload 5, 2) := by decide +kernel
theorem dX7_isPower_96 : decode cX7_isPower 96 = .ok (.lastore, 1) := by decide +kernel
theorem dX7_isPower_97 : decode cX7_isPower 97 = .ok (.iload_n 1, 1) := by decide +kernel
theorem dX7_isPower_98 : decode cX7_isPower 98 = .ok (.i2l, 1) := by decide +kernel
theorem dX7_isPower_99 : decode cX7_isPower 99 = .ok (.lstore 9, 2) := by decide +kernel
theorem dX7_isPower_101 : decode cX7_isPower 101 = .ok (.iconst 1, 1) := by decide +kernel
theorem dX7_isPower_102 : decode cX7_isPower 102 = .ok (.istore 11, 2) := by decide +kernel
theorem dX7_isPower_104 : decode cX7_isPower 104 = .ok (.iload 11, 2) := by decide +kernel
theorem dX7_isPower_106 : decode cX7_isPower 106 = .ok (.iload_n 1, 1) := by decide +kernel
theorem dX7_isPower_107 : decode cX7_isPower 107 = .ok (.if_icmp .ge 16, 3) := by decide +kernel
theorem dX7_isPower_110 : decode cX7_isPower 110 = .ok (.lload 9, 2) := by decide +kernel
theorem dX7_isPower_112 : decode cX7_isPower 112 = .ok (.lload 5, 2) := by decide +kernel
theorem dX7_isPower_114 : decode cX7_isPower 114 = .ok (.lmul, 1) := by decide +kernel
theorem dX7_isPower_115 : decode cX7_isPower 115 = .ok (.lstore 9, 2) := by decide +kernel
theorem dX7_isPower_117 : decode cX7_isPower 117 = .ok (.iinc 11 1, 3) := by decide +kernel
theorem dX7_isPower_120 : decode cX7_isPower 120 = .ok (.goto (-16), 3) := by decide +kernel
theorem dX7_isPower_123 : decode cX7_isPower 123 = .ok (.iload 7, 2) := by decide +kernel
theorem dX7_isPower_125 : decode cX7_isPower 125 = .ok (.iload 8, 2) := by decide +kernel
theorem dX7_isPower_127 : decode cX7_isPower 127 = .ok (.iadd, 1) := by decide +kernel
theorem dX7_isPower_128 : decode cX7_isPower 128 = .ok (.istore 11, 2) := by decide +kernel
theorem dX7_isPower_130 : decode cX7_isPower 130 = .ok (.iload 11, 2) := by decide +kernel
theorem dX7_isPower_132 : decode cX7_isPower 132 = .ok (.istore 12, 2) := by decide +kernel
theorem dX7_isPower_134 : decode cX7_isPower 134 = .ok (.iload 12, 2) := by decide +kernel
theorem dX7_isPower_136 : decode cX7_isPower 136 = .ok (.ifCond .lt 163, 3) := by decide +kernel
theorem dX7_isPower_139 : decode cX7_isPower 139 = .ok (.iload 12, 2) := by decide +kernel
theorem dX7_isPower_141 : decode cX7_isPower 141 = .ok (.istore 13, 2) := by decide +kernel
theorem dX7_isPower_143 : decode cX7_isPower 143 = .ok (.iload 13, 2) := by decide +kernel
theorem dX7_isPower_145 : decode cX7_isPower 145 = .ok (.ifCond .lt 148, 3) := by decide +kernel
theorem dX7_isPower_148 : decode cX7_isPower 148 = .ok (.iload 12, 2) := by decide +kernel
theorem dX7_isPower_150 : decode cX7_isPower 150 = .ok (.iload 11, 2) := by decide +kernel
theorem dX7_isPower_152 : decode cX7_isPower 152 = .ok (.if_icmp .lt 10, 3) := by decide +kernel
theorem dX7_isPower_155 : decode cX7_isPower 155 = .ok (.iload 13, 2) := by decide +kernel
theorem dX7_isPower_157 : decode cX7_isPower 157 = .ok (.iload 7, 2) := by decide +kernel
theorem dX7_isPower_159 : decode cX7_isPower 159 = .ok (.if_icmp .ge 7, 3) := by decide +kernel
theorem dX7_isPower_162 : decode cX7_isPower 162 = .ok (.iconst 1, 1) := by decide +kernel
theorem dX7_isPower_163 : decode cX7_isPower 163 = .ok (.goto 4, 3) := by decide +kernel
theorem dX7_isPower_166 : decode cX7_isPower 166 = .ok (.iconst 0, 1) := by decide +kernel
theorem dX7_isPower_167 : decode cX7_isPower 167 = .ok (.istore 14, 2) := by decide +kernel
theorem dX7_isPower_169 : decode cX7_isPower 169 = .ok (.bipush 7, 2) := by decide +kernel
theorem dX7_isPower_171 : decode cX7_isPower 171 = .ok (.iload 13, 2) := by decide +kernel
theorem dX7_isPower_173 : decode cX7_isPower 173 = .ok (.iload_n 1, 1) := by decide +kernel
theorem dX7_isPower_174 : decode cX7_isPower 174 = .ok (.iconst 1, 1) := by decide +kernel
theorem dX7_isPower_175 : decode cX7_isPower 175 = .ok (.isub, 1) := by decide +kernel
theorem dX7_isPower_176 : decode cX7_isPower 176 = .ok (.iload 7, 2) := by decide +kernel
theorem dX7_isPower_178 : decode cX7_isPower 178 = .ok (.imul, 1) := by decide +kernel
theorem dX7_isPower_179 : decode cX7_isPower 179 = .ok (.iadd, 1) := by decide +kernel
theorem dX7_isPower_180 : decode cX7_isPower 180 = .ok (.imul, 1) := by decide +kernel
theorem dX7_isPower_181 : decode cX7_isPower 181 = .ok (.iload 12, 2) := by decide +kernel
theorem dX7_isPower_183 : decode cX7_isPower 183 = .ok (.iadd, 1) := by decide +kernel
theorem dX7_isPower_184 : decode cX7_isPower 184 = .ok (.iload 13, 2) := by decide +kernel
theorem dX7_isPower_186 : decode cX7_isPower 186 = .ok (.isub, 1) := by decide +kernel
theorem dX7_isPower_187 : decode cX7_isPower 187 = .ok (.iload_n 1, 1) := by decide +kernel
theorem dX7_isPower_188 : decode cX7_isPower 188 = .ok (.iconst 1, 1) := by decide +kernel
theorem dX7_isPower_189 : decode cX7_isPower 189 = .ok (.isub, 1) := by decide +kernel
theorem dX7_isPower_190 : decode cX7_isPower 190 = .ok (.iload 8, 2) := by decide +kernel
theorem dX7_isPower_192 : decode cX7_isPower 192 = .ok (.imul, 1) := by decide +kernel
theorem dX7_isPower_193 : decode cX7_isPower 193 = .ok (.iadd, 1) := by decide +kernel
theorem dX7_isPower_194 : decode cX7_isPower 194 = .ok (.istore 15, 2) := by decide +kernel
theorem dX7_isPower_196 : decode cX7_isPower 196 = .ok (.iload 14, 2) := by decide +kernel
theorem dX7_isPower_198 : decode cX7_isPower 198 = .ok (.ifCond .eq 89, 3) := by decide +kernel
theorem dX7_isPower_201 : decode cX7_isPower 201 = .ok (.iload 13, 2) := by decide +kernel
theorem dX7_isPower_203 : decode cX7_isPower 203 = .ok (.iload_n 1, 1) := by decide +kernel
theorem dX7_isPower_204 : decode cX7_isPower 204 = .ok (.iconst 1, 1) := by decide +kernel
theorem dX7_isPower_205 : decode cX7_isPower 205 = .ok (.isub, 1) := by decide +kernel
theorem dX7_isPower_206 : decode cX7_isPower 206 = .ok (.iload 7, 2) := by decide +kernel
theorem dX7_isPower_208 : decode cX7_isPower 208 = .ok (.imul, 1) := by decide +kernel
theorem dX7_isPower_209 : decode cX7_isPower 209 = .ok (.iadd, 1) := by decide +kernel
theorem dX7_isPower_210 : decode cX7_isPower 210 = .ok (.bipush 7, 2) := by decide +kernel
theorem dX7_isPower_212 : decode cX7_isPower 212 = .ok (.if_icmp .ge 75, 3) := by decide +kernel
theorem dX7_isPower_215 : decode cX7_isPower 215 = .ok (.iload 12, 2) := by decide +kernel
theorem dX7_isPower_217 : decode cX7_isPower 217 = .ok (.iload 13, 2) := by decide +kernel
theorem dX7_isPower_219 : decode cX7_isPower 219 = .ok (.isub, 1) := by decide +kernel
theorem dX7_isPower_220 : decode cX7_isPower 220 = .ok (.iload_n 1, 1) := by decide +kernel
theorem dX7_isPower_221 : decode cX7_isPower 221 = .ok (.iconst 1, 1) := by decide +kernel
theorem dX7_isPower_222 : decode cX7_isPower 222 = .ok (.isub, 1) := by decide +kernel
theorem dX7_isPower_223 : decode cX7_isPower 223 = .ok (.iload 8, 2) := by decide +kernel
theorem dX7_isPower_225 : decode cX7_isPower 225 = .ok (.imul, 1) := by decide +kernel
theorem dX7_isPower_226 : decode cX7_isPower 226 = .ok (.iadd, 1) := by decide +kernel
theorem dX7_isPower_227 : decode cX7_isPower 227 = .ok (.bipush 7, 2) := by decide +kernel
theorem dX7_isPower_229 : decode cX7_isPower 229 = .ok (.if_icmp .ge 58, 3) := by decide +kernel
theorem dX7_isPower_232 : decode cX7_isPower 232 = .ok (.aload_n 0, 1) := by decide +kernel
theorem dX7_isPower_233 : decode cX7_isPower 233 = .ok (.iload_n 1, 1) := by decide +kernel
theorem dX7_isPower_234 : decode cX7_isPower 234 = .ok (.invokevirtual 127, 3) := by decide +kernel
theorem dX7_isPower_237 : decode cX7_isPower 237 = .ok (.aload_n 0, 1) := by decide +kernel
theorem dX7_isPower_238 : decode cX7_isPower 238 = .ok (.getfield 42, 3) := by decide +kernel
theorem dX7_isPower_241 : decode cX7_isPower 241 = .ok (.iload 15, 2) := by decide +kernel
theorem dX7_isPower_243 : decode cX7_isPower 243 = .ok (.laload, 1) := by decide +kernel
theorem dX7_isPower_244 : decode cX7_isPower 244 = .ok (.aload_n 0, 1) := by decide +kernel
theorem dX7_isPower_245 : decode cX7_isPower 245 = .ok (.getfield 48, 3) := by decide +kernel
theorem dX7_isPower_248 : decode cX7_isPower 248 = .ok (.iload 15, 2) := by decide +kernel
theorem dX7_isPower_250 : decode cX7_isPower 250 = .ok (.laload, 1) := by decide +kernel
theorem dX7_isPower_251 : decode cX7_isPower 251 = .ok (.lsub, 1) := by decide +kernel
theorem dX7_isPower_252 : decode cX7_isPower 252 = .ok (.lstore 16, 2) := by decide +kernel
theorem dX7_isPower_254 : decode cX7_isPower 254 = .ok (.lload 16, 2) := by decide +kernel
theorem dX7_isPower_256 : decode cX7_isPower 256 = .ok (.lload 9, 2) := by decide +kernel
theorem dX7_isPower_258 : decode cX7_isPower 258 = .ok (.lrem, 1) := by decide +kernel
theorem dX7_isPower_259 : decode cX7_isPower 259 = .ok (.lconst 0, 1) := by decide +kernel
theorem dX7_isPower_260 : decode cX7_isPower 260 = .ok (.lcmp, 1) := by decide +kernel
theorem dX7_isPower_261 : decode cX7_isPower 261 = .ok (.ifCond .eq 5, 3) := by decide +kernel
theorem dX7_isPower_264 : decode cX7_isPower 264 = .ok (.iconst 0, 1) := by decide +kernel
theorem dX7_isPower_265 : decode cX7_isPower 265 = .ok (.ireturn, 1) := by decide +kernel
theorem dX7_isPower_266 : decode cX7_isPower 266 = .ok (.aload_n 0, 1) := by decide +kernel
theorem dX7_isPower_267 : decode cX7_isPower 267 = .ok (.getfield 45, 3) := by decide +kernel
theorem dX7_isPower_270 : decode cX7_isPower 270 = .ok (.bipush 7, 2) := by decide +kernel
theorem dX7_isPower_272 : decode cX7_isPower 272 = .ok (.iload 13, 2) := by decide +kernel
theorem dX7_isPower_274 : decode cX7_isPower 274 = .ok (.imul, 1) := by decide +kernel
theorem dX7_isPower_275 : decode cX7_isPower 275 = .ok (.iload 12, 2) := by decide +kernel
theorem dX7_isPower_277 : decode cX7_isPower 277 = .ok (.iadd, 1) := by decide +kernel
theorem dX7_isPower_278 : decode cX7_isPower 278 = .ok (.iload 13, 2) := by decide +kernel
theorem dX7_isPower_280 : decode cX7_isPower 280 = .ok (.isub, 1) := by decide +kernel
theorem dX7_isPower_281 : decode cX7_isPower 281 = .ok (.lload 16, 2) := by decide +kernel
theorem dX7_isPower_283 : decode cX7_isPower 283 = .ok (.lload 9, 2) := by decide +kernel
theorem dX7_isPower_285 : decode cX7_isPower 285 = .ok (.ldiv, 1) := by decide +kernel
theorem dX7_isPower_286 : decode cX7_isPower 286 = .ok (.lastore, 1) := by decide +kernel
theorem dX7_isPower_287 : decode cX7_isPower 287 = .ok (.iinc 13 (-1), 3) := by decide +kernel
theorem dX7_isPower_290 : decode cX7_isPower 290 = .ok (.goto (-147), 3) := by decide +kernel
theorem dX7_isPower_293 : decode cX7_isPower 293 = .ok (.iinc 12 (-1), 3) := by decide +kernel
theorem dX7_isPower_296 : decode cX7_isPower 296 = .ok (.goto (-162), 3) := by decide +kernel
theorem dX7_isPower_299 : decode cX7_isPower 299 = .ok (.aload_n 0, 1) := by decide +kernel
theorem dX7_isPower_300 : decode cX7_isPower 300 = .ok (.iload_n 1, 1) := by decide +kernel
theorem dX7_isPower_301 : decode cX7_isPower 301 = .ok (.invokevirtual 127, 3) := by decide +kernel
theorem dX7_isPower_304 : decode cX7_isPower 304 = .ok (.iconst 0, 1) := by decide +kernel
theorem dX7_isPower_305 : decode cX7_isPower 305 = .ok (.istore 12, 2) := by decide +kernel
theorem dX7_isPower_307 : decode cX7_isPower 307 = .ok (.iload 12, 2) := by decide +kernel
theorem dX7_isPower_309 : decode cX7_isPower 309 = .ok (.bipush 49, 2) := by decide +kernel
theorem dX7_isPower_311 : decode cX7_isPower 311 = .ok (.if_icmp .ge 29, 3) := by decide +kernel
theorem dX7_isPower_314 : decode cX7_isPower 314 = .ok (.aload_n 0, 1) := by decide +kernel
theorem dX7_isPower_315 : decode cX7_isPower 315 = .ok (.getfield 48, 3) := by decide +kernel
theorem dX7_isPower_318 : decode cX7_isPower 318 = .ok (.iload 12, 2) := by decide +kernel
theorem dX7_isPower_320 : decode cX7_isPower 320 = .ok (.laload, 1) := by decide +kernel
theorem dX7_isPower_321 : decode cX7_isPower 321 = .ok (.aload_n 0, 1) := by decide +kernel
theorem dX7_isPower_322 : decode cX7_isPower 322 = .ok (.getfield 42, 3) := by decide +kernel
theorem dX7_isPower_325 : decode cX7_isPower 325 = .ok (.iload 12, 2) := by decide +kernel
theorem dX7_isPower_327 : decode cX7_isPower 327 = .ok (.laload, 1) := by decide +kernel
theorem dX7_isPower_328 : decode cX7_isPower 328 = .ok (.lcmp, 1) := by decide +kernel
theorem dX7_isPower_329 : decode cX7_isPower 329 = .ok (.ifCond .eq 5, 3) := by decide +kernel
theorem dX7_isPower_332 : decode cX7_isPower 332 = .ok (.iconst 0, 1) := by decide +kernel
theorem dX7_isPower_333 : decode cX7_isPower 333 = .ok (.ireturn, 1) := by decide +kernel
theorem dX7_isPower_334 : decode cX7_isPower 334 = .ok (.iinc 12 1, 3) := by decide +kernel
theorem dX7_isPower_337 : decode cX7_isPower 337 = .ok (.goto (-30), 3) := by decide +kernel
theorem dX7_isPower_340 : decode cX7_isPower 340 = .ok (.iconst 1, 1) := by decide +kernel
theorem dX7_isPower_341 : decode cX7_isPower 341 = .ok (.ireturn, 1) := by decide +kernel
set_option maxHeartbeats 4000000 in
set_option maxRecDepth 100000 in
theorem ct_X7_isPower (l : Launch) (D : va_G) (ce : Nat → ClassId) (h : Nat → Nat) (F : Nat → Int) (I : Nat → Nat → Int32) (J : Nat → Nat → Int64) (k first : Int) (hk : 2 ≤ k ∧ k ≤ 12) (hf : 0 ≤ first ∧ first < 49) : Ct l yX7_isPower cX7_isPower 18 (some .boolean) { frames := 2, cells := 0, slots := 0, locals := 56 } 0 0 D (TY ce) [.ref (h 0), .int (zI k), .int (zI first)] (rW ce h F I J) (QI D (TY ce) (fun r w1 => ∃ z : Int, ∃ J2 : Nat → Nat → Int64, r = zI z ∧ w1 = rW ce h F I J2 ∧ (z = 0 ∨ z = 1) ∧ (∀ k, k ≠ 7 → k ≠ 8 → k ≠ 9 → J2 k = J k))) := by
  refine Ct.ofB (by decide) (Nat.le_of_ble_eq_true rfl) ?_
  intro p e s m args below meth c A Q hX hnm hR
  refine Z.pick (lv' := [(0, .ref (h 0)), (1, .int (zI k)), (2, .int (zI first))]) [0, 1, 2] rfl ?_
  refine Z.iload_n hX dX7_isPower_0 rfl rfl ?_
  refine Z.bipush hX dX7_isPower_1 (by decide) ?_
  refine Z.idiv hX dX7_isPower_3 (by omega) (by omega) (by omega) (by omega) ?_
  refine Z.istore_n (lv' := [(3, .int (zI (first / 7))), (0, .ref (h 0)), (1, .int (zI k)), (2, .int (zI first))]) hX dX7_isPower_4 rfl (by decide) rfl ?_
  refine Z.iload_n hX dX7_isPower_5 rfl rfl ?_
  refine Z.bipush hX dX7_isPower_6 (by decide) ?_
  refine Z.irem hX dX7_isPower_8 (by omega) (by omega) (by omega) (by omega) ?_
  refine Z.istore (lv' := [(4, .int (zI (first % 7))), (3, .int (zI (first / 7))), (0, .ref (h 0)), (1, .int (zI k)), (2, .int (zI first))]) hX dX7_isPower_9 (by decide) rfl ?_
  refine Z.iload_n hX dX7_isPower_11 rfl rfl ?_
  refine Z.iload_n hX dX7_isPower_12 rfl rfl ?_
  refine Z.irem hX dX7_isPower_13 (by omega) (by omega) (by omega) (by omega) ?_
  refine Z.if_ne hX 24 dX7_isPower_14 (by decide) (zR_mod hk) ?_ ?_
  · intro c1
    refine Z.iconst hX dX7_isPower_24 ?_
    exact hR _ _ _ _ dX7_isPower_25 rfl ⟨0, J, rfl, rfl, (by omega), (fun k h7 h8 h9 => rfl)⟩
  · intro c1
    refine Z.iload hX dX7_isPower_17 rfl ?_
    refine Z.iload_n hX dX7_isPower_19 rfl rfl ?_
    refine Z.irem hX dX7_isPower_20 (by omega) (by omega) (by omega) (by omega) ?_
    refine Z.if_eq hX 26 dX7_isPower_21 (by decide) (zR_mod hk) ?_ ?_
    · intro c2
      refine Z.aload_n hX dX7_isPower_26 rfl rfl ?_
      refine Z.getf hX 7 0 13 dX7_isPower_27 rfl rfl inX7 (by decide) fl_X7_42 rfl rfl ?_
      refine Z.iload_n hX dX7_isPower_30 rfl rfl ?_
      refine Z.laload hX 11 1 dX7_isPower_31 rfl rfl (by omega) (by omega) (by decide) ?_
      refine Z.iload_n hX dX7_isPower_32 rfl rfl ?_
      refine Z.callS0l (As := [.long (J 6 (first : Int).toNat), .int (zI k)]) (rest := []) hX (ct_X7_rootOf l D ce (J 6 (first : Int).toNat) k (by omega) (by omega)) mc_X7_rootOf ml_X7_123 st_X7_rootOf ini_X7 nd_X7_rootOf ⟨Nat.le_of_ble_eq_true rfl, Nat.le_of_ble_eq_true rfl⟩ ⟨rfl, rfl⟩ ⟨Nat.le_refl _, Nat.le_refl _⟩ rfl (Nat.le_of_ble_eq_true rfl) dX7_isPower_33 ?_
      rintro lead w1 ⟨r04, hr_, hw_, hl⟩
      subst hr_
      refine ⟨hw_, ?_⟩
      refine Z.lstore (lv' := [(5, .long lead), (4, .int (zI (first % 7))), (3, .int (zI (first / 7))), (0, .ref (h 0)), (1, .int (zI k)), (2, .int (zI first))]) hX dX7_isPower_36 (by decide) rfl ?_
      refine Z.lload hX dX7_isPower_38 rfl ?_
      refine Z.lconst (v := 0) hX dX7_isPower_40 rfl ?_
      refine Z.lcmp_ne hX 47 dX7_isPower_41 dX7_isPower_42 (by decide) ?_ ?_
      · intro c5
        obtain ⟨hl1, hl2, hl3⟩ := hl.resolve_left (by assumption)
        refine Z.iconst hX dX7_isPower_47 ?_
        refine Z.istore (lv' := [(7, .int (zI 0)), (5, .long lead), (4, .int (zI (first % 7))), (3, .int (zI (first / 7))), (0, .ref (h 0)), (1, .int (zI k)), (2, .int (zI first))]) hX dX7_isPower_48 (by decide) rfl ?_
        have key_50 : ∀ (N : Nat), ∀ (i : Int) (M : Nat → Nat → Int64), (49 - i).toNat < N → (hi : 0 ≤ i ∧ i ≤ 49) → (hM : ∀ k, k ≠ 7 → k ≠ 8 → k ≠ 9 → M k = J k) → Z p l e { frames := 2, cells := 0, slots := 0, locals := 56 } s m args below meth c D A 18 0 0 Q 50 [(1, .int (zI k)), (2, .int (zI first)), (3, .int (zI (first / 7))), (4, .int (zI (first % 7))), (5, .long lead), (0, .ref (h 0)), (7, .int (zI i))] [] (rW ce h F I M) := by
          intro N
          induction N with
          | zero => intro i M hm; exact absurd hm (Nat.not_lt_zero _)
          | succ N ih_50 =>
            intro i M hm hi hM
            refine Z.iload hX dX7_isPower_50 rfl ?_
            refine Z.bipush hX dX7_isPower_52 (by decide) ?_
            refine Z.icmp_ge hX 71 dX7_isPower_54 (by decide) ⟨by omega, by omega⟩ ⟨by omega, by omega⟩ ?_ ?_
            · intro c6
              refine Z.iload_n hX dX7_isPower_71 rfl rfl ?_
              refine Z.iload_n hX dX7_isPower_72 rfl rfl ?_
              refine Z.idiv hX dX7_isPower_73 (by omega) (by omega) (by omega) (by omega) ?_
              obtain ⟨ri, eri⟩ : ∃ x, x = first / 7 / k := ⟨_, rfl⟩
              rw [← eri]
              have hri := ip_div (a := first / 7) (k := k) (by omega) hk
              rw [← eri] at hri
              refine Z.istore (lv' := [(7, .int (zI ri)), (1, .int (zI k)), (2, .int (zI first)), (3, .int (zI (first / 7))), (4, .int (zI (first % 7))), (5, .long lead), (0, .ref (h 0))]) hX dX7_isPower_74 (by decide) rfl ?_
              refine Z.iload hX dX7_isPower_76 rfl ?_
              refine Z.iload_n hX dX7_isPower_78 rfl rfl ?_
              refine Z.idiv hX dX7_isPower_79 (by omega) (by omega) (by omega) (by omega) ?_
              obtain ⟨rj, erj⟩ : ∃ x, x = first % 7 / k := ⟨_, rfl⟩
              rw [← erj]
              have hrj := ip_div (a := first % 7) (k := k) (by omega) hk
              rw [← erj] at hrj
              refine Z.istore (lv' := [(8, .int (zI rj)), (7, .int (zI ri)), (1, .int (zI k)), (2, .int (zI first)), (3, .int (zI (first / 7))), (4, .int (zI (first % 7))), (5, .long lead), (0, .ref (h 0))]) hX dX7_isPower_80 (by decide) rfl ?_
              refine Z.aload_n hX dX7_isPower_82 rfl rfl ?_
              refine Z.getf hX 7 0 14 dX7_isPower_83 rfl rfl inX7 (by decide) fl_X7_45 rfl rfl ?_
              refine Z.bipush hX dX7_isPower_86 (by decide) ?_
              refine Z.iload hX dX7_isPower_88 rfl ?_
              refine Z.imul hX dX7_isPower_90 ?_
              refine Z.iload hX dX7_isPower_91 rfl ?_
              refine Z.iadd hX dX7_isPower_93 ?_
              refine Z.lload hX dX7_isPower_94 rfl ?_
              refine Z.lastore hX 12 1 dX7_isPower_96 rfl rfl (by omega) (by omega) (by decide) ?_
              obtain ⟨J7, eJ7⟩ : ∃ J' : Nat → Nat → Int64, J' = va_up M 7 (vp_updL (M 7) ((7 * ri) + rj : Int).toNat (lead)) := ⟨_, rfl⟩
              refine Z.toW (w' := rW ce h F I J7) (by rw [eJ7]; rfl) ?_
              have gJ7 : J7 7 = vp_updL (M 7) ((7 * ri) + rj : Int).toNat (lead) := by rw [eJ7]; exact up_eq
              have fJ7 : ∀ k, k ≠ 7 → J7 k = M k := fun k hk => by rw [eJ7]; exact up_ne hk
              refine Z.iload_n hX dX7_isPower_97 rfl rfl ?_
              refine Z.i2l hX dX7_isPower_98 ⟨by omega, by omega⟩ ?_
              refine Z.lstore (lv' := [(9, .long (zL k)), (8, .int (zI rj)), (7, .int (zI ri)), (1, .int (zI k)), (2, .int (zI first)), (3, .int (zI (first / 7))), (4, .int (zI (first % 7))), (5, .long lead), (0, .ref (h 0))]) hX dX7_isPower_99 (by decide) rfl ?_
              refine Z.iconst hX dX7_isPower_101 ?_
              refine Z.istore (lv' := [(11, .int (zI 1)), (9, .long (zL k)), (8, .int (zI rj)), (7, .int (zI ri)), (1, .int (zI k)), (2, .int (zI first)), (3, .int (zI (first / 7))), (4, .int (zI (first % 7))), (5, .long lead), (0, .ref (h 0))]) hX dX7_isPower_102 (by decide) rfl ?_
              have key_104 : ∀ (N : Nat), ∀ (n : Int) (u : Int64) (M : Nat → Nat → Int64), (k - n).toNat < N → (hn : 1 ≤ n ∧ n ≤ k) → (hu : u = zL (k * lead.toInt ^ (n - 1).toNat)) → (hM : ∀ k, k ≠ 7 → k ≠ 8 → k ≠ 9 → M k = J k) → Z p l e { frames := 2, cells := 0, slots := 0, locals := 56 } s m args below meth c D A 18 0 0 Q 104 [(1, .int (zI k)), (2, .int (zI first)), (5, .long lead), (7, .int (zI ri)), (8, .int (zI rj)), (9, .long u), (0, .ref (h 0)), (11, .int (zI n))] [] (rW ce h F I M) := by
                intro N
                induction N with
                | zero => intro n u M hm; exact absurd hm (Nat.not_lt_zero _)
                | succ N ih_104 =>
                  intro n u M hm hn hu hM
                  refine Z.iload hX dX7_isPower_104 rfl ?_
                  refine Z.iload_n hX dX7_isPower_106 rfl rfl ?_
                  refine Z.icmp_ge hX 123 dX7_isPower_107 (by decide) ⟨by omega, by omega⟩ ⟨by omega, by omega⟩ ?_ ?_
                  · intro c8
                    have hu0 : ¬ u = 0 := by rw [hu, show n = k by omega]; exact ip_un hk hl1 hl2 hl3
                    refine Z.iload hX dX7_isPower_123 rfl ?_
                    refine Z.iload hX dX7_isPower_125 rfl ?_
                    refine Z.iadd hX dX7_isPower_127 ?_
                    refine Z.istore (lv' := [(11, .int (zI (ri + rj))), (1, .int (zI k)), (2, .int (zI first)), (5, .long lead), (7, .int (zI ri)), (8, .int (zI rj)), (9, .long u), (0, .ref (h 0))]) hX dX7_isPower_128 (by decide) rfl ?_
                    refine Z.iload hX dX7_isPower_130 rfl ?_
                    refine Z.istore (lv' := [(12, .int (zI (ri + rj))), (11, .int (zI (ri + rj))), (1, .int (zI k)), (2, .int (zI first)), (5, .long lead), (7, .int (zI ri)), (8, .int (zI rj)), (9, .long u), (0, .ref (h 0))]) hX dX7_isPower_132 (by decide) rfl ?_
                    have key_134 : ∀ (N : Nat), ∀ (ev : Int) (M : Nat → Nat → Int64), (ev + 1).toNat < N → (he : -1 ≤ ev ∧ ev ≤ ri + rj) → (hM : ∀ k, k ≠ 7 → k ≠ 8 → k ≠ 9 → M k = J k) → Z p l e { frames := 2, cells := 0, slots := 0, locals := 56 } s m args below meth c D A 18 0 0 Q 134 [(1, .int (zI k)), (2, .int (zI first)), (5, .long lead), (7, .int (zI ri)), (8, .int (zI rj)), (9, .long u), (11, .int (zI (ri + rj))), (12, .int (zI ev)), (0, .ref (h 0))] [] (rW ce h F I M) := by
                      intro N
                      induction N with
                      | zero => intro ev M hm; exact absurd hm (Nat.not_lt_zero _)
                      | succ N ih_134 =>
                        intro ev M hm he hM
                        refine Z.iload hX dX7_isPower_134 rfl ?_
                        refine Z.if_lt hX 299 dX7_isPower_136 (by decide) ⟨by omega, by omega⟩ ?_ ?_
                        · intro c9
                          refine Z.aload_n hX dX7_isPower_299 rfl rfl ?_
                          refine Z.iload_n hX dX7_isPower_300 rfl rfl ?_
                          refine Z.callVfv (As := [.int (zI k)]) (rest := []) hX 7 0 rfl rfl (ct_X7_raise l D ce h F I M k (by omega)) mc_X7_raise ml_X7_127 im_X7_raise se_X7_raise ini_X7 nd_X7_raise ⟨Nat.le_of_ble_eq_true rfl, Nat.le_of_ble_eq_true rfl⟩ ⟨rfl, rfl⟩ ⟨Nat.le_refl _, Nat.le_refl _⟩ rfl (Nat.le_of_ble_eq_true rfl) dX7_isPower_301 ?_
                          rintro w1 ⟨J211, hw_, hq12⟩
                          subst hw_
                          refine Z.iconst hX dX7_isPower_304 ?_
                          refine Z.istore (lv' := [(12, .int (zI 0)), (1, .int (zI k)), (2, .int (zI first)), (5, .long lead), (7, .int (zI ri)), (8, .int (zI rj)), (9, .long u), (11, .int (zI (ri + rj))), (0, .ref (h 0))]) hX dX7_isPower_305 (by decide) rfl ?_
                          have key_307 : ∀ (N : Nat), ∀ (q : Int) (M : Nat → Nat → Int64), (49 - q).toNat < N → (hq : 0 ≤ q ∧ q ≤ 49) → (hM : ∀ k, k ≠ 7 → k ≠ 8 → k ≠ 9 → M k = J k) → Z p l e { frames := 2, cells := 0, slots := 0, locals := 56 } s m args below meth c D A 18 0 0 Q 307 [(1, .int (zI k)), (0, .ref (h 0)), (12, .int (zI q))] [] (rW ce h F I M) := by
                            intro N
                            induction N with
                            | zero => intro q M hm; exact absurd hm (Nat.not_lt_zero _)
                            | succ N ih_307 =>
                              intro q M hm hq hM
                              refine Z.iload hX dX7_isPower_307 rfl ?_
                              refine Z.bipush hX dX7_isPower_309 (by decide) ?_
                              refine Z.icmp_ge hX 340 dX7_isPower_311 (by decide) ⟨by omega, by omega⟩ ⟨by omega, by omega⟩ ?_ ?_
                              · intro c13
                                refine Z.iconst hX dX7_isPower_340 ?_
                                exact hR _ _ _ _ dX7_isPower_341 rfl ⟨1, M, rfl, rfl, (by omega), (fun k h7 h8 h9 => (hM k h7 h8 h9))⟩
                              · intro c13
                                refine Z.aload_n hX dX7_isPower_314 rfl rfl ?_
                                refine Z.getf hX 7 0 15 dX7_isPower_315 rfl rfl inX7 (by decide) fl_X7_48 rfl rfl ?_
                                refine Z.iload hX dX7_isPower_318 rfl ?_
                                refine Z.laload hX 13 1 dX7_isPower_320 rfl rfl (by omega) (by omega) (by decide) ?_
                                refine Z.aload_n hX dX7_isPower_321 rfl rfl ?_
                                refine Z.getf hX 7 0 13 dX7_isPower_322 rfl rfl inX7 (by decide) fl_X7_42 rfl rfl ?_
                                refine Z.iload hX dX7_isPower_325 rfl ?_
                                refine Z.laload hX 11 1 dX7_isPower_327 rfl rfl (by omega) (by omega) (by decide) ?_
                                refine Z.lcmp_eq hX 334 dX7_isPower_328 dX7_isPower_329 (by decide) ?_ ?_
                                · intro c14
                                  refine Z.iinc (lv' := [(12, .int (zI (q + 1))), (1, .int (zI k)), (0, .ref (h 0))]) hX dX7_isPower_334 rfl (by decide) rfl ?_
                                  refine Z.goto hX 307 dX7_isPower_337 (by decide) ?_
                                  refine Z.pick [1, 2, 0] rfl ?_
                                  exact ih_307 _ _ (by omega) (by omega) (fun k h7 h8 h9 => (hM k h7 h8 h9))
                                · intro c14
                                  refine Z.iconst hX dX7_isPower_332 ?_
                                  exact hR _ _ _ _ dX7_isPower_333 rfl ⟨0, M, rfl, rfl, (by omega), (fun k h7 h8 h9 => (hM k h7 h8 h9))⟩
                          refine Z.pick [1, 8, 0] rfl ?_
                          exact key_307 _ _ _ (Nat.lt_succ_self _) (by omega) (fun k h7 h8 h9 => ((hq12 k h8 h9).trans (hM k h7 h8 h9)))
                        · intro c9
                          refine Z.iload hX dX7_isPower_139 rfl ?_
                          refine Z.istore (lv' := [(13, .int (zI ev)), (1, .int (zI k)), (2, .int (zI first)), (5, .long lead), (7, .int (zI ri)), (8, .int (zI rj)), (9, .long u), (11, .int (zI (ri + rj))), (12, .int (zI ev)), (0, .ref (h 0))]) hX dX7_isPower_141 (by decide) rfl ?_
                          have key_143 : ∀ (N : Nat), ∀ (i : Int) (M : Nat → Nat → Int64), (i + 1).toNat < N → (hi : -1 ≤ i ∧ i ≤ ev) → (hM : ∀ k, k ≠ 7 → k ≠ 8 → k ≠ 9 → M k = J k) → Z p l e { frames := 2, cells := 0, slots := 0, locals := 56 } s m args below meth c D A 18 0 0 Q 143 [(1, .int (zI k)), (2, .int (zI first)), (5, .long lead), (7, .int (zI ri)), (8, .int (zI rj)), (9, .long u), (11, .int (zI (ri + rj))), (12, .int (zI ev)), (13, .int (zI i)), (0, .ref (h 0))] [] (rW ce h F I M) := by
                            intro N
                            induction N with
                            | zero => intro i M hm; exact absurd hm (Nat.not_lt_zero _)
                            | succ N ih_143 =>
                              intro i M hm hi hM
                              refine Z.iload hX dX7_isPower_143 rfl ?_
                              refine Z.if_lt hX 293 dX7_isPower_145 (by decide) ⟨by omega, by omega⟩ ?_ ?_
                              · intro c15
                                refine Z.iinc (lv' := [(12, .int (zI (ev + -1))), (1, .int (zI k)), (2, .int (zI first)), (5, .long lead), (7, .int (zI ri)), (8, .int (zI rj)), (9, .long u), (11, .int (zI (ri + rj))), (13, .int (zI i)), (0, .ref (h 0))]) hX dX7_isPower_293 rfl (by decide) rfl ?_
                                refine Z.goto hX 134 dX7_isPower_296 (by decide) ?_
                                refine Z.pick [1, 2, 3, 4, 5, 6, 7, 0, 9] rfl ?_
                                exact ih_134 _ _ (by omega) (by omega) (fun k h7 h8 h9 => (hM k h7 h8 h9))
                              · intro c15
                                have key_167 : ∀ (bh : Int), (hbh : bh = 0 ∨ bh = 1) → Z p l e { frames := 2, cells := 0, slots := 0, locals := 56 } s m args below meth c D A 18 0 0 Q 167 [(1, .int (zI k)), (2, .int (zI first)), (5, .long lead), (7, .int (zI ri)), (8, .int (zI rj)), (9, .long u), (11, .int (zI (ri + rj))), (12, .int (zI ev)), (13, .int (zI i)), (0, .ref (h 0))] [.int (zI bh)] (rW ce h F I M) := by
                                  intro bh hbh
                                  refine Z.istore (lv' := [(14, .int (zI bh)), (1, .int (zI k)), (2, .int (zI first)), (5, .long lead), (7, .int (zI ri)), (8, .int (zI rj)), (9, .long u), (11, .int (zI (ri + rj))), (12, .int (zI ev)), (13, .int (zI i)), (0, .ref (h 0))]) hX dX7_isPower_167 (by decide) rfl ?_
                                  refine Z.bipush hX dX7_isPower_169 (by decide) ?_
                                  refine Z.iload hX dX7_isPower_171 rfl ?_
                                  refine Z.iload_n hX dX7_isPower_173 rfl rfl ?_
                                  refine Z.iconst hX dX7_isPower_174 ?_
                                  refine Z.isub hX dX7_isPower_175 ?_
                                  refine Z.iload hX dX7_isPower_176 rfl ?_
                                  refine Z.imul hX dX7_isPower_178 ?_
                                  refine Z.iadd hX dX7_isPower_179 ?_
                                  refine Z.imul hX dX7_isPower_180 ?_
                                  refine Z.iload hX dX7_isPower_181 rfl ?_
                                  refine Z.iadd hX dX7_isPower_183 ?_
                                  refine Z.iload hX dX7_isPower_184 rfl ?_
                                  refine Z.isub hX dX7_isPower_186 ?_
                                  refine Z.iload_n hX dX7_isPower_187 rfl rfl ?_
                                  refine Z.iconst hX dX7_isPower_188 ?_
                                  refine Z.isub hX dX7_isPower_189 ?_
                                  refine Z.iload hX dX7_isPower_190 rfl ?_
                                  refine Z.imul hX dX7_isPower_192 ?_
                                  refine Z.iadd hX dX7_isPower_193 ?_
                                  refine Z.istore (lv' := [(15, .int (zI ((((7 * (i + ((k - 1) * ri))) + ev) - i) + ((k - 1) * rj)))), (14, .int (zI bh)), (1, .int (zI k)), (2, .int (zI first)), (5, .long lead), (7, .int (zI ri)), (8, .int (zI rj)), (9, .long u), (11, .int (zI (ri + rj))), (12, .int (zI ev)), (13, .int (zI i)), (0, .ref (h 0))]) hX dX7_isPower_194 (by decide) rfl ?_
                                  have key_287 : ∀ (M : Nat → Nat → Int64), (hM : ∀ k, k ≠ 7 → k ≠ 8 → k ≠ 9 → M k = J k) → Z p l e { frames := 2, cells := 0, slots := 0, locals := 56 } s m args below meth c D A 18 0 0 Q 287 [(1, .int (zI k)), (2, .int (zI first)), (5, .long lead), (7, .int (zI ri)), (8, .int (zI rj)), (9, .long u), (11, .int (zI (ri + rj))), (12, .int (zI ev)), (13, .int (zI i)), (0, .ref (h 0))] [] (rW ce h F I M) := by
                                    intro M hM
                                    refine Z.iinc (lv' := [(13, .int (zI (i + -1))), (1, .int (zI k)), (2, .int (zI first)), (5, .long lead), (7, .int (zI ri)), (8, .int (zI rj)), (9, .long u), (11, .int (zI (ri + rj))), (12, .int (zI ev)), (0, .ref (h 0))]) hX dX7_isPower_287 rfl (by decide) rfl ?_
                                    refine Z.goto hX 143 dX7_isPower_290 (by decide) ?_
                                    refine Z.pick [1, 2, 3, 4, 5, 6, 7, 8, 0, 9] rfl ?_
                                    exact ih_143 _ _ (by omega) (by omega) (fun k h7 h8 h9 => (hM k h7 h8 h9))
                                  refine Z.iload hX dX7_isPower_196 rfl ?_
                                  refine Z.if_eq hX 287 dX7_isPower_198 (by decide) ⟨by omega, by omega⟩ ?_ ?_
                                  · intro c16
                                    refine Z.pick [2, 3, 4, 5, 6, 7, 8, 9, 10, 11] rfl ?_
                                    exact key_287 _ (fun k h7 h8 h9 => (hM k h7 h8 h9))
                                  · intro c16
                                    refine Z.iload hX dX7_isPower_201 rfl ?_
                                    refine Z.iload_n hX dX7_isPower_203 rfl rfl ?_
                                    refine Z.iconst hX dX7_isPower_204 ?_
                                    refine Z.isub hX dX7_isPower_205 ?_
                                    refine Z.iload hX dX7_isPower_206 rfl ?_
                                    refine Z.imul hX dX7_isPower_208 ?_
                                    refine Z.iadd hX dX7_isPower_209 ?_
                                    refine Z.bipush hX dX7_isPower_210 (by decide) ?_
                                    refine Z.icmp_ge hX 287 dX7_isPower_212 (by decide) ⟨by omega, by omega⟩ ⟨by omega, by omega⟩ ?_ ?_
                                    · intro c17
                                      refine Z.pick [2, 3, 4, 5, 6, 7, 8, 9, 10, 11] rfl ?_
                                      exact key_287 _ (fun k h7 h8 h9 => (hM k h7 h8 h9))
                                    · intro c17
                                      refine Z.iload hX dX7_isPower_215 rfl ?_
                                      refine Z.iload hX dX7_isPower_217 rfl ?_
                                      refine Z.isub hX dX7_isPower_219 ?_
                                      refine Z.iload_n hX dX7_isPower_220 rfl rfl ?_
                                      refine Z.iconst hX dX7_isPower_221 ?_
                                      refine Z.isub hX dX7_isPower_222 ?_
                                      refine Z.iload hX dX7_isPower_223 rfl ?_
                                      refine Z.imul hX dX7_isPower_225 ?_
                                      refine Z.iadd hX dX7_isPower_226 ?_
                                      refine Z.bipush hX dX7_isPower_227 (by decide) ?_
                                      refine Z.icmp_ge hX 287 dX7_isPower_229 (by decide) ⟨by omega, by omega⟩ ⟨by omega, by omega⟩ ?_ ?_
                                      · intro c18
                                        refine Z.pick [2, 3, 4, 5, 6, 7, 8, 9, 10, 11] rfl ?_
                                        exact key_287 _ (fun k h7 h8 h9 => (hM k h7 h8 h9))
                                      · intro c18
                                        refine Z.aload_n hX dX7_isPower_232 rfl rfl ?_
                                        refine Z.iload_n hX dX7_isPower_233 rfl rfl ?_
                                        refine Z.callVfv (As := [.int (zI k)]) (rest := []) hX 7 0 rfl rfl (ct_X7_raise l D ce h F I M k (by omega)) mc_X7_raise ml_X7_127 im_X7_raise se_X7_raise ini_X7 nd_X7_raise ⟨Nat.le_of_ble_eq_true rfl, Nat.le_of_ble_eq_true rfl⟩ ⟨rfl, rfl⟩ ⟨Nat.le_refl _, Nat.le_refl _⟩ rfl (Nat.le_of_ble_eq_true rfl) dX7_isPower_234 ?_
                                        rintro w1 ⟨J220, hw_, hq21⟩
                                        subst hw_
                                        refine Z.aload_n hX dX7_isPower_237 rfl rfl ?_
                                        refine Z.getf hX 7 0 13 dX7_isPower_238 rfl rfl inX7 (by decide) fl_X7_42 rfl rfl ?_
                                        refine Z.iload hX dX7_isPower_241 rfl ?_
                                        refine Z.laload hX 11 1 dX7_isPower_243 rfl rfl (by omega) (by omega) (by decide) ?_
                                        refine Z.aload_n hX dX7_isPower_244 rfl rfl ?_
                                        refine Z.getf hX 7 0 15 dX7_isPower_245 rfl rfl inX7 (by decide) fl_X7_48 rfl rfl ?_
                                        refine Z.iload hX dX7_isPower_248 rfl ?_
                                        refine Z.laload hX 13 1 dX7_isPower_250 rfl rfl (by omega) (by omega) (by decide) ?_
                                        refine Z.lsub hX dX7_isPower_251 ?_
                                        refine Z.lstore (lv' := [(16, .long ((J220 6 ((((7 * (i + ((k - 1) * ri))) + ev) - i) + ((k - 1) * rj) : Int).toNat) - (J220 8 ((((7 * (i + ((k - 1) * ri))) + ev) - i) + ((k - 1) * rj) : Int).toNat))), (15, .int (zI ((((7 * (i + ((k - 1) * ri))) + ev) - i) + ((k - 1) * rj)))), (14, .int (zI bh)), (1, .int (zI k)), (2, .int (zI first)), (5, .long lead), (7, .int (zI ri)), (8, .int (zI rj)), (9, .long u), (11, .int (zI (ri + rj))), (12, .int (zI ev)), (13, .int (zI i)), (0, .ref (h 0))]) hX dX7_isPower_252 (by decide) rfl ?_
                                        refine Z.lload hX dX7_isPower_254 rfl ?_
                                        refine Z.lload hX dX7_isPower_256 rfl ?_
                                        refine Z.lrem hX dX7_isPower_258 hu0 ?_
                                        refine Z.lconst (v := 0) hX dX7_isPower_259 rfl ?_
                                        refine Z.lcmp_eq hX 266 dX7_isPower_260 dX7_isPower_261 (by decide) ?_ ?_
                                        · intro c22
                                          refine Z.aload_n hX dX7_isPower_266 rfl rfl ?_
                                          refine Z.getf hX 7 0 14 dX7_isPower_267 rfl rfl inX7 (by decide) fl_X7_45 rfl rfl ?_
                                          refine Z.bipush hX dX7_isPower_270 (by decide) ?_
                                          refine Z.iload hX dX7_isPower_272 rfl ?_
                                          refine Z.imul hX dX7_isPower_274 ?_
                                          refine Z.iload hX dX7_isPower_275 rfl ?_
                                          refine Z.iadd hX dX7_isPower_277 ?_
                                          refine Z.iload hX dX7_isPower_278 rfl ?_
                                          refine Z.isub hX dX7_isPower_280 ?_
                                          refine Z.lload hX dX7_isPower_281 rfl ?_
                                          refine Z.lload hX dX7_isPower_283 rfl ?_
                                          refine Z.ldiv hX dX7_isPower_285 hu0 ?_
                                          refine Z.lastore hX 12 1 dX7_isPower_286 rfl rfl (by omega) (by omega) (by decide) ?_
                                          obtain ⟨J23, eJ23⟩ : ∃ J' : Nat → Nat → Int64, J' = va_up J220 7 (vp_updL (J220 7) (((7 * i) + ev) - i : Int).toNat (((J220 6 ((((7 * (i + ((k - 1) * ri))) + ev) - i) + ((k - 1) * rj) : Int).toNat) - (J220 8 ((((7 * (i + ((k - 1) * ri))) + ev) - i) + ((k - 1) * rj) : Int).toNat)) / u)) := ⟨_, rfl⟩
                                          refine Z.toW (w' := rW ce h F I J23) (by rw [eJ23]; rfl) ?_
                                          have gJ23 : J23 7 = vp_updL (J220 7) (((7 * i) + ev) - i : Int).toNat (((J220 6 ((((7 * (i + ((k - 1) * ri))) + ev) - i) + ((k - 1) * rj) : Int).toNat) - (J220 8 ((((7 * (i + ((k - 1) * ri))) + ev) - i) + ((k - 1) * rj) : Int).toNat)) / u) := by rw [eJ23]; exact up_eq
                                          have fJ23 : ∀ k, k ≠ 7 → J23 k = J220 k := fun k hk => by rw [eJ23]; exact up_ne hk
                                          refine Z.pick [3, 4, 5, 6, 7, 8, 9, 10, 11, 12] rfl ?_
                                          exact key_287 _ (fun k h7 h8 h9 => ((fJ23 k h7).trans ((hq21 k h8 h9).trans (hM k h7 h8 h9))))
                                        · intro c22
                                          refine Z.iconst hX dX7_isPower_264 ?_
                                          exact hR _ _ _ _ dX7_isPower_265 rfl ⟨0, J220, rfl, rfl, (by omega), (fun k h7 h8 h9 => ((hq21 k h8 h9).trans (hM k h7 h8 h9)))⟩
                                refine Z.iload hX dX7_isPower_148 rfl ?_
                                refine Z.iload hX dX7_isPower_150 rfl ?_
                                refine Z.icmp_lt hX 162 dX7_isPower_152 (by decide) ⟨by omega, by omega⟩ ⟨by omega, by omega⟩ ?_ ?_
                                · intro c24
                                  refine Z.iconst hX dX7_isPower_162 ?_
                                  refine Z.goto hX 167 dX7_isPower_163 (by decide) ?_
                                  refine Z.pick [0, 1, 2, 3, 4, 5, 6, 7, 8, 9] rfl ?_
                                  exact key_167 _ (by omega)
                                · intro c24
                                  refine Z.iload hX dX7_isPower_155 rfl ?_
                                  refine Z.iload hX dX7_isPower_157 rfl ?_
                                  refine Z.icmp_ge hX 166 dX7_isPower_159 (by decide) ⟨by omega, by omega⟩ ⟨by omega, by omega⟩ ?_ ?_
                                  · intro c25
                                    refine Z.iconst hX dX7_isPower_166 ?_
                                    refine Z.pick [0, 1, 2, 3, 4, 5, 6, 7, 8, 9] rfl ?_
                                    exact key_167 _ (by omega)
                                  · intro c25
                                    refine Z.iconst hX dX7_isPower_162 ?_
                                    refine Z.goto hX 167 dX7_isPower_163 (by decide) ?_
                                    refine Z.pick [0, 1, 2, 3, 4, 5, 6, 7, 8, 9] rfl ?_
                                    exact key_167 _ (by omega)
                          refine Z.pick [1, 2, 3, 4, 5, 6, 7, 8, 0, 9] rfl ?_
                          exact key_143 _ _ _ (Nat.lt_succ_self _) (by omega) (fun k h7 h8 h9 => (hM k h7 h8 h9))
                    refine Z.pick [2, 3, 4, 5, 6, 7, 1, 0, 8] rfl ?_
                    exact key_134 _ _ _ (Nat.lt_succ_self _) (by omega) (fun k h7 h8 h9 => (hM k h7 h8 h9))
                  · intro c8
                    refine Z.lload hX dX7_isPower_110 rfl ?_
                    refine Z.lload hX dX7_isPower_112 rfl ?_
                    refine Z.lmul hX dX7_isPower_114 ?_
                    refine Z.lstore (lv' := [(9, .long (u * lead)), (1, .int (zI k)), (2, .int (zI first)), (5, .long lead), (7, .int (zI ri)), (8, .int (zI rj)), (0, .ref (h 0)), (11, .int (zI n))]) hX dX7_isPower_115 (by decide) rfl ?_
                    refine Z.iinc (lv' := [(11, .int (zI (n + 1))), (9, .long (u * lead)), (1, .int (zI k)), (2, .int (zI first)), (5, .long lead), (7, .int (zI ri)), (8, .int (zI rj)), (0, .ref (h 0))]) hX dX7_isPower_117 rfl (by decide) rfl ?_
                    refine Z.goto hX 104 dX7_isPower_120 (by decide) ?_
                    refine Z.pick [2, 3, 4, 5, 6, 1, 7, 0] rfl ?_
                    exact ih_104 _ _ _ (by omega) (by omega) (ip_us hn.1 hu) (fun k h7 h8 h9 => (hM k h7 h8 h9))
              refine Z.pick [4, 5, 8, 3, 2, 1, 9, 0] rfl ?_
              exact key_104 _ _ _ _ (Nat.lt_succ_self _) (by omega) (by rw [show ((1 : Int) - 1).toNat = 0 by rfl, Int.pow_zero, Int.mul_one]) (fun k h7 h8 h9 => ((fJ7 k h7).trans (hM k h7 h8 h9)))
            · intro c6
              refine Z.aload_n hX dX7_isPower_57 rfl rfl ?_
              refine Z.getf hX 7 0 14 dX7_isPower_58 rfl rfl inX7 (by decide) fl_X7_45 rfl rfl ?_
              refine Z.iload hX dX7_isPower_61 rfl ?_
              refine Z.lconst (v := 0) hX dX7_isPower_63 rfl ?_
              refine Z.lastore hX 12 1 dX7_isPower_64 rfl rfl (by omega) (by omega) (by decide) ?_
              obtain ⟨J26, eJ26⟩ : ∃ J' : Nat → Nat → Int64, J' = va_up M 7 (vp_updL (M 7) (i : Int).toNat (0)) := ⟨_, rfl⟩
              refine Z.toW (w' := rW ce h F I J26) (by rw [eJ26]; rfl) ?_
              have gJ26 : J26 7 = vp_updL (M 7) (i : Int).toNat (0) := by rw [eJ26]; exact up_eq
              have fJ26 : ∀ k, k ≠ 7 → J26 k = M k := fun k hk => by rw [eJ26]; exact up_ne hk
              refine Z.iinc (lv' := [(7, .int (zI (i + 1))), (1, .int (zI k)), (2, .int (zI first)), (3, .int (zI (first / 7))), (4, .int (zI (first % 7))), (5, .long lead), (0, .ref (h 0))]) hX dX7_isPower_65 rfl (by decide) rfl ?_
              refine Z.goto hX 50 dX7_isPower_68 (by decide) ?_
              refine Z.pick [1, 2, 3, 4, 5, 6, 0] rfl ?_
              exact ih_50 _ _ (by omega) (by omega) (fun k h7 h8 h9 => ((fJ26 k h7).trans (hM k h7 h8 h9)))
        refine Z.pick [5, 6, 3, 2, 1, 4, 0] rfl ?_
        exact key_50 _ _ _ (Nat.lt_succ_self _) (by omega) (fun k h7 h8 h9 => rfl)
      · intro c5
        refine Z.iconst hX dX7_isPower_45 ?_
        exact hR _ _ _ _ dX7_isPower_46 rfl ⟨0, J, rfl, rfl, (by omega), (fun k h7 h8 h9 => rfl)⟩
    · intro c2
      refine Z.iconst hX dX7_isPower_24 ?_
      exact hR _ _ _ _ dX7_isPower_25 rfl ⟨0, J, rfl, rfl, (by omega), (fun k h7 h8 h9 => rfl)⟩

theorem dX7_tell_0 : decode cX7_tell 0 = .ok (.lconst 0, 1) := by decide +kernel
theorem dX7_tell_1 : decode cX7_tell 1 = .ok (.lstore_n 3, 1) := by decide +kernel
theorem dX7_tell_2 : decode cX7_tell 2 = .ok (.iconst 0, 1) := by decide +kernel
theorem dX7_tell_3 : decode cX7_tell 3 = .ok (.istore 5, 2) := by decide +kernel
theorem dX7_tell_5 : decode cX7_tell 5 = .ok (.iload 5, 2) := by decide +kernel
theorem dX7_tell_7 : decode cX7_tell 7 = .ok (.bipush 49, 2) := by decide +kernel
theorem dX7_tell_9 : decode cX7_tell 9 = .ok (.if_icmp .ge 37, 3) := by decide +kernel
theorem dX7_tell_12 : decode cX7_tell 12 = .ok (.aload_n 0, 1) := by decide +kernel
theorem dX7_tell_13 : decode cX7_tell 13 = .ok (.getfield 42, 3) := by decide +kernel
theorem dX7_tell_16 : decode cX7_tell 16 = .ok (.iload 5, 2) := by decide +kernel
theorem dX7_tell_18 : decode cX7_tell 18 = .ok (.aload_n 0, 1) := by decide +kernel
theorem dX7_tell_19 : decode cX7_tell 19 = .ok (.getfield 39, 3) := by decide +kernel
theorem dX7_tell_22 : decode cX7_tell 22 = .ok (.iload_n 2, 1) := by decide +kernel
theorem dX7_tell_23 : decode cX7_tell 23 = .ok (.iload 5, 2) := by decide +kernel
theorem dX7_tell_25 : decode cX7_tell 25 = .ok (.iadd, 1) := by decide +kernel
theorem dX7_tell_26 : decode cX7_tell 26 = .ok (.laload, 1) := by decide +kernel
theorem dX7_tell_27 : decode cX7_tell 27 = .ok (.lastore, 1) := by decide +kernel
theorem dX7_tell_28 : decode cX7_tell 28 = .ok (.lload_n 3, 1) := by decide +kernel
theorem dX7_tell_29 : decode cX7_tell 29 = .ok (.aload_n 0, 1) := by decide +kernel
theorem dX7_tell_30 : decode cX7_tell 30 = .ok (.getfield 42, 3) := by decide +kernel
theorem dX7_tell_33 : decode cX7_tell 33 = .ok (.iload 5, 2) := by decide +kernel
theorem dX7_tell_35 : decode cX7_tell 35 = .ok (.laload, 1) := by decide +kernel
theorem dX7_tell_36 : decode cX7_tell 36 = .ok (.invokestatic 58, 3) := by decide +kernel
theorem dX7_tell_39 : decode cX7_tell 39 = .ok (.lstore_n 3, 1) := by decide +kernel
theorem dX7_tell_40 : decode cX7_tell 40 = .ok (.iinc 5 1, 3) := by decide +kernel
theorem dX7_tell_43 : decode cX7_tell 43 = .ok (.goto (-38), 3) := by decide +kernel
theorem dX7_tell_46 : decode cX7_tell 46 = .ok (.aload_n 0, 1) := by decide +kernel
theorem dX7_tell_47 : decode cX7_tell 47 = .ok (.getfield 42, 3) := by decide +kernel
theorem dX7_tell_50 : decode cX7_tell 50 = .ok (.invokestatic 105, 3) := by decide +kernel
theorem dX7_tell_53 : decode cX7_tell 53 = .ok (.istore 5, 2) := by decide +kernel
theorem dX7_tell_55 : decode cX7_tell 55 = .ok (.iload 5, 2) := by decide +kernel
theorem dX7_tell_57 : decode cX7_tell 57 = .ok (.iconst 1, 1) := by decide +kernel
theorem dX7_tell_58 : decode cX7_tell 58 = .ok (.if_icmp .ge 4, 3) := by decide +kernel
theorem dX7_tell_61 : decode cX7_tell 61 = .ok (.return_, 1) := by decide +kernel
theorem dX7_tell_62 : decode cX7_tell 62 = .ok (.aload_n 0, 1) := by decide +kernel
theorem dX7_tell_63 : decode cX7_tell 63 = .ok (.getfield 42, 3) := by decide +kernel
theorem dX7_tell_66 : decode cX7_tell 66 = .ok (.invokestatic 108, 3) := by decide +kernel
theorem dX7_tell_69 : decode cX7_tell 69 = .ok (.istore 6, 2) := by decide +kernel
theorem dX7_tell_71 : decode cX7_tell 71 = .ok (.aload_n 0, 1) := by decide +kernel
theorem dX7_tell_72 : decode cX7_tell 72 = .ok (.getfield 42, 3) := by decide +kernel
theorem dX7_tell_75 : decode cX7_tell 75 = .ok (.iload 6, 2) := by decide +kernel
theorem dX7_tell_77 : decode cX7_tell 77 = .ok (.laload, 1) := by decide +kernel
theorem dX7_tell_78 : decode cX7_tell 78 = .ok (.lconst 0, 1) := by decide +kernel
theorem dX7_tell_79 : decode cX7_tell 79 = .ok (.lcmp, 1) := by decide +kernel
theorem dX7_tell_80 : decode cX7_tell 80 = .ok (.ifCond .ge 8, 3) := by decide +kernel
theorem dX7_tell_83 : decode cX7_tell 83 = .ok (.lload_n 3, 1) := by decide +kernel
theorem dX7_tell_84 : decode cX7_tell 84 = .ok (.lneg, 1) := by decide +kernel
theorem dX7_tell_85 : decode cX7_tell 85 = .ok (.goto 4, 3) := by decide +kernel
theorem dX7_tell_88 : decode cX7_tell 88 = .ok (.lload_n 3, 1) := by decide +kernel
theorem dX7_tell_89 : decode cX7_tell 89 = .ok (.lstore_n 3, 1) := by decide +kernel
theorem dX7_tell_90 : decode cX7_tell 90 = .ok (.iconst 0, 1) := by decide +kernel
theorem dX7_tell_91 : decode cX7_tell 91 = .ok (.istore 7, 2) := by decide +kernel
theorem dX7_tell_93 : decode cX7_tell 93 = .ok (.iload 7, 2) := by decide +kernel
theorem dX7_tell_95 : decode cX7_tell 95 = .ok (.bipush 49, 2) := by decide +kernel
theorem dX7_tell_97 : decode cX7_tell 97 = .ok (.if_icmp .ge 20, 3) := by decide +kernel
theorem dX7_tell_100 : decode cX7_tell 100 = .ok (.aload_n 0, 1) := by decide +kernel
theorem dX7_tell_101 : decode cX7_tell 101 = .ok (.getfield 42, 3) := by decide +kernel
theorem dX7_tell_104 : decode cX7_tell 104 = .ok (.iload 7, 2) := by decide +kernel
theorem dX7_tell_106 : decode cX7_tell 106 = .ok (.dup2, 1) := by decide +kernel
theorem dX7_tell_107 : decode cX7_tell 107 = .ok (.laload, 1) := by decide +kernel
theorem dX7_tell_108 : decode cX7_tell 108 = .ok (.lload_n 3, 1) := by decide +kernel
theorem dX7_tell_109 : decode cX7_tell 109 = .ok (.ldiv, 1) := by decide +kernel
theorem dX7_tell_110 : decode cX7_tell 110 = .ok (.lastore, 1) := by decide +kernel
theorem dX7_tell_111 : decode cX7_tell 111 = .ok (.iinc 7 1, 3) := by decide +kernel
theorem dX7_tell_114 : decode cX7_tell 114 = .ok (.goto (-21), 3) := by decide +kernel
theorem dX7_tell_117 : decode cX7_tell 117 = .ok (.iload 5, 2) := by decide +kernel
theorem dX7_tell_119 : decode cX7_tell 119 = .ok (.istore 7, 2) := by decide +kernel
theorem dX7_tell_121 : decode cX7_tell 121 = .ok (.iload 7, 2) := by decide +kernel
theorem dX7_tell_123 : decode cX7_tell 123 = .ok (.iconst 1, 1) := by decide +kernel
theorem dX7_tell_124 : decode cX7_tell 124 = .ok (.if_icmp .le 20, 3) := by decide +kernel
theorem dX7_tell_127 : decode cX7_tell 127 = .ok (.aload_n 0, 1) := by decide +kernel
theorem dX7_tell_128 : decode cX7_tell 128 = .ok (.iload 7, 2) := by decide +kernel
theorem dX7_tell_130 : decode cX7_tell 130 = .ok (.iload 6, 2) := by decide +kernel
theorem dX7_tell_132 : decode cX7_tell 132 = .ok (.invokevirtual 111, 3) := by decide +kernel
theorem dX7_tell_135 : decode cX7_tell 135 = .ok (.ifCond .ne 9, 3) := by decide +kernel
theorem dX7_tell_138 : decode cX7_tell 138 = .ok (.iinc 7 (-1), 3) := by decide +kernel
theorem dX7_tell_141 : decode cX7_tell 141 = .ok (.goto (-20), 3) := by decide +kernel
theorem dX7_tell_144 : decode cX7_tell 144 = .ok (.aload_n 0, 1) := by decide +kernel
theorem dX7_tell_145 : decode cX7_tell 145 = .ok (.getfield 17, 3) := by decide +kernel
theorem dX7_tell_148 : decode cX7_tell 148 = .ok (.iload_n 1, 1) := by decide +kernel
theorem dX7_tell_149 : decode cX7_tell 149 = .ok (.iconst 1, 1) := by decide +kernel
theorem dX7_tell_150 : decode cX7_tell 150 = .ok (.bastore, 1) := by decide +kernel
theorem dX7_tell_151 : decode cX7_tell 151 = .ok (.aload_n 0, 1) := by decide +kernel
theorem dX7_tell_152 : decode cX7_tell 152 = .ok (.getfield 27, 3) := by decide +kernel
theorem dX7_tell_155 : decode cX7_tell 155 = .ok (.iload_n 1, 1) := by decide +kernel
theorem dX7_tell_156 : decode cX7_tell 156 = .ok (.iload 7, 2) := by decide +kernel
theorem dX7_tell_158 : decode cX7_tell 158 = .ok (.iastore, 1) := by decide +kernel
theorem dX7_tell_159 : decode cX7_tell 159 = .ok (.aload_n 0, 1) := by decide +kernel
theorem dX7_tell_160 : decode cX7_tell 160 = .ok (.getfield 24, 3) := by decide +kernel
theorem dX7_tell_163 : decode cX7_tell 163 = .ok (.iload_n 1, 1) := by decide +kernel
theorem dX7_tell_164 : decode cX7_tell 164 = .ok (.iload 5, 2) := by decide +kernel
theorem dX7_tell_166 : decode cX7_tell 166 = .ok (.iload 7, 2) := by decide +kernel
theorem dX7_tell_168 : decode cX7_tell 168 = .ok (.idiv, 1) := by decide +kernel
theorem dX7_tell_169 : decode cX7_tell 169 = .ok (.iastore, 1) := by decide +kernel
theorem dX7_tell_170 : decode cX7_tell 170 = .ok (.iconst 0, 1) := by decide +kernel
theorem dX7_tell_171 : decode cX7_tell 171 = .ok (.istore 8, 2) := by decide +kernel
theorem dX7_tell_173 : decode cX7_tell 173 = .ok (.iload 8, 2) := by decide +kernel
theorem dX7_tell_175 : decode cX7_tell 175 = .ok (.bipush 49, 2) := by decide +kernel
theorem dX7_tell_177 : decode cX7_tell 177 = .ok (.if_icmp .ge 44, 3) := by decide +kernel
theorem dX7_tell_180 : decode cX7_tell 180 = .ok (.aload_n 0, 1) := by decide +kernel
theorem dX7_tell_181 : decode cX7_tell 181 = .ok (.getfield 21, 3) := by decide +kernel
theorem dX7_tell_184 : decode cX7_tell 184 = .ok (.bipush 49, 2) := by decide +kernel
theorem dX7_tell_186 : decode cX7_tell 186 = .ok (.iload_n 1, 1) := by decide +kernel
theorem dX7_tell_187 : decode cX7_tell 187 = .ok (.imul, 1) := by decide +kernel
theorem dX7_tell_188 : decode cX7_tell 188 = .ok (.iload 8, 2) := by decide +kernel
theorem dX7_tell_190 : decode cX7_tell 190 = .ok (.iadd, 1) := by decide +kernel
theorem dX7_tell_191 : decode cX7_tell 191 = .ok (.iload 7, 2) := by decide +kernel
theorem dX7_tell_193 : decode cX7_tell 193 = .ok (.iconst 1, 1) := by decide +kernel
theorem dX7_tell_194 : decode cX7_tell 194 = .ok (.if_icmp .le 13, 3) := by decide +kernel
theorem dX7_tell_197 : decode cX7_tell 197 = .ok (.aload_n 0, 1) := by decide +kernel
theorem dX7_tell_198 : decode cX7_tell 198 = .ok (.getfield 45, 3) := by decide +kernel
theorem dX7_tell_201 : decode cX7_tell 201 = .ok (.iload 8, 2) := by decide +kernel
theorem dX7_tell_203 : decode cX7_tell 203 = .ok (.laload, 1) := by decide +kernel
theorem dX7_tell_204 : decode cX7_tell 204 = .ok (.goto 10, 3) := by decide +kernel
theorem dX7_tell_207 : decode cX7_tell 207 = .ok (.aload_n 0, 1) := by decide +kernel
theorem dX7_tell_208 : decode cX7_tell 208 = .ok (.getfield 42, 3) := by decide +kernel
theorem dX7_tell_211 : decode cX7_tell 211 = .ok (.iload 8, 2) := by decide +kernel
theorem dX7_tell_213 : decode cX7_tell 213 = .ok (.laload, 1) := by decide +kernel
theorem dX7_tell_214 : decode cX7_tell 214 = .ok (.lastore, 1) := by decide +kernel
theorem dX7_tell_215 : decode cX7_tell 215 = .ok (.iinc 8 1, 3) := by decide +kernel
theorem dX7_tell_218 : decode cX7_tell 218 = .ok (.goto (-45), 3) := by decide +kernel
theorem dX7_tell_221 : decode cX7_tell 221 = .ok (.return_, 1) := by decide +kernel
set_option maxHeartbeats 4000000 in
set_option maxRecDepth 100000 in
theorem ct_X7_tell (l : Launch) (D : va_G) (ce : Nat → ClassId) (h : Nat → Nat) (F : Nat → Int) (I : Nat → Nat → Int32) (J : Nat → Nat → Int64) (sort fr : Int) (hso : 0 ≤ sort ∧ sort ≤ 1) (hfr : 0 ≤ fr ∧ fr ≤ 12495) (hdg : DGok (I 2)) : Ct l yX7_tell cX7_tell 9 none { frames := 3, cells := 0, slots := 0, locals := 93 } 0 0 D (TY ce) [.ref (h 0), .int (zI sort), .int (zI fr)] (rW ce h F I J) (QV D (TY ce) (fun w1 => ∃ I2 : Nat → Nat → Int32, ∃ J2 : Nat → Nat → Int64, w1 = rW ce h F I2 J2 ∧ (∀ k, k ≠ 1 → k ≠ 6 → k ≠ 7 → k ≠ 8 → k ≠ 9 → J2 k = J k) ∧ (∀ k, k ≠ 1 → k ≠ 2 → k ≠ 3 → I2 k = I k) ∧ (DGok (I2 2)))) := by
  refine Ct.ofV (by decide) (Nat.le_of_ble_eq_true rfl) ?_
  intro p e s m args below meth c A Q hX hnm hR
  refine Z.pick (lv' := [(0, .ref (h 0)), (1, .int (zI sort)), (2, .int (zI fr))]) [0, 1, 2] rfl ?_
  refine Z.lconst (v := 0) hX dX7_tell_0 rfl ?_
  refine Z.lstore_n (lv' := [(3, .long 0), (0, .ref (h 0)), (1, .int (zI sort)), (2, .int (zI fr))]) hX dX7_tell_1 rfl (by decide) rfl ?_
  refine Z.iconst hX dX7_tell_2 ?_
  refine Z.istore (lv' := [(5, .int (zI 0)), (3, .long 0), (0, .ref (h 0)), (1, .int (zI sort)), (2, .int (zI fr))]) hX dX7_tell_3 (by decide) rfl ?_
  have key_5 : ∀ (N : Nat), ∀ (i : Int) (x : Int64) (M : Nat → Nat → Int64), (49 - i).toNat < N → (hi : 0 ≤ i ∧ i ≤ 49) → (htz : tz x (M 6) i) → (hM : ∀ k, k ≠ 1 → k ≠ 6 → k ≠ 7 → k ≠ 8 → k ≠ 9 → M k = J k) → Z p l e { frames := 3, cells := 0, slots := 0, locals := 93 } s m args below meth c D A 9 0 0 Q 5 [(5, .int (zI i)), (3, .long x), (2, .int (zI fr)), (1, .int (zI sort)), (0, .ref (h 0))] [] (rW ce h F I M) := by
    intro N
    induction N with
    | zero => intro i x M hm; exact absurd hm (Nat.not_lt_zero _)
    | succ N ih_5 =>
      intro i x M hm hi htz hM
      refine Z.iload hX dX7_tell_5 rfl ?_
      refine Z.bipush hX dX7_tell_7 (by decide) ?_
      refine Z.icmp_ge hX 46 dX7_tell_9 (by decide) ⟨by omega, by omega⟩ ⟨by omega, by omega⟩ ?_ ?_
      · intro c1
        refine Z.aload_n hX dX7_tell_46 rfl rfl ?_
        refine Z.getf hX 7 0 13 dX7_tell_47 rfl rfl inX7 (by decide) fl_X7_42 rfl rfl ?_
        refine Z.callS1i (As := [.ref (h 11)]) (rest := []) hX 11 rfl (ct_X7_degree2 l D ce ((h 11)) (M 6) ) mc_X7_degree2 ml_X7_105 st_X7_degree2 ini_X7 nd_X7_degree2 ⟨Nat.le_of_ble_eq_true rfl, Nat.le_of_ble_eq_true rfl⟩ ⟨rfl, rfl⟩ ⟨Nat.le_refl _, Nat.le_refl _⟩ rfl (Nat.le_of_ble_eq_true rfl) dX7_tell_50 ?_
        rintro r_2 w1 ⟨d, hr_, hw_, d1, d2, d3⟩
        subst hr_
        refine ⟨_, hw_, ?_⟩
        refine Z.toW (w' := rW ce h F I M) rfl ?_
        refine Z.istore (lv' := [(5, .int (zI d)), (3, .long x), (2, .int (zI fr)), (1, .int (zI sort)), (0, .ref (h 0))]) hX dX7_tell_53 (by decide) rfl ?_
        refine Z.iload hX dX7_tell_55 rfl ?_
        refine Z.iconst hX dX7_tell_57 ?_
        refine Z.icmp_ge hX 62 dX7_tell_58 (by decide) ⟨by omega, by omega⟩ ⟨by omega, by omega⟩ ?_ ?_
        · intro c3
          refine Z.aload_n hX dX7_tell_62 rfl rfl ?_
          refine Z.getf hX 7 0 13 dX7_tell_63 rfl rfl inX7 (by decide) fl_X7_42 rfl rfl ?_
          refine Z.callS1i (As := [.ref (h 11)]) (rest := []) hX 11 rfl (ct_X7_firstOf l D ce ((h 11)) (M 6) ) mc_X7_firstOf ml_X7_108 st_X7_firstOf ini_X7 nd_X7_firstOf ⟨Nat.le_of_ble_eq_true rfl, Nat.le_of_ble_eq_true rfl⟩ ⟨rfl, rfl⟩ ⟨Nat.le_refl _, Nat.le_refl _⟩ rfl (Nat.le_of_ble_eq_true rfl) dX7_tell_66 ?_
          rintro r_4 w1 ⟨fi, hr_, hw_, hfi⟩
          subst hr_
          refine ⟨_, hw_, ?_⟩
          refine Z.toW (w' := rW ce h F I M) rfl ?_
          refine Z.istore (lv' := [(6, .int (zI fi)), (5, .int (zI d)), (3, .long x), (2, .int (zI fr)), (1, .int (zI sort)), (0, .ref (h 0))]) hX dX7_tell_69 (by decide) rfl ?_
          obtain ⟨hf1, hf2, hf3⟩ := tl_f hfi d2 (by omega)
          have hx0 : ¬ x = 0 := tl_x htz (by omega) hf3
          have key_89 : ∀ (y : Int64), (hy0 : ¬ y = 0) → Z p l e { frames := 3, cells := 0, slots := 0, locals := 93 } s m args below meth c D A 9 0 0 Q 89 [(6, .int (zI fi)), (5, .int (zI d)), (1, .int (zI sort)), (0, .ref (h 0))] [.long y] (rW ce h F I M) := by
            intro y hy0
            refine Z.lstore_n (lv' := [(3, .long y), (6, .int (zI fi)), (5, .int (zI d)), (1, .int (zI sort)), (0, .ref (h 0))]) hX dX7_tell_89 rfl (by decide) rfl ?_
            refine Z.iconst hX dX7_tell_90 ?_
            refine Z.istore (lv' := [(7, .int (zI 0)), (3, .long y), (6, .int (zI fi)), (5, .int (zI d)), (1, .int (zI sort)), (0, .ref (h 0))]) hX dX7_tell_91 (by decide) rfl ?_
            have key_93 : ∀ (N : Nat), ∀ (i : Int) (M : Nat → Nat → Int64), (49 - i).toNat < N → (hi : 0 ≤ i ∧ i ≤ 49) → (hM : ∀ k, k ≠ 1 → k ≠ 6 → k ≠ 7 → k ≠ 8 → k ≠ 9 → M k = J k) → Z p l e { frames := 3, cells := 0, slots := 0, locals := 93 } s m args below meth c D A 9 0 0 Q 93 [(7, .int (zI i)), (6, .int (zI fi)), (5, .int (zI d)), (3, .long y), (1, .int (zI sort)), (0, .ref (h 0))] [] (rW ce h F I M) := by
              intro N
              induction N with
              | zero => intro i M hm; exact absurd hm (Nat.not_lt_zero _)
              | succ N ih_93 =>
                intro i M hm hi hM
                refine Z.iload hX dX7_tell_93 rfl ?_
                refine Z.bipush hX dX7_tell_95 (by decide) ?_
                refine Z.icmp_ge hX 117 dX7_tell_97 (by decide) ⟨by omega, by omega⟩ ⟨by omega, by omega⟩ ?_ ?_
                · intro c5
                  have key_144 : ∀ (k : Int) (M : Nat → Nat → Int64), (hk : 1 ≤ k ∧ k ≤ d) → (hM : ∀ k, k ≠ 1 → k ≠ 6 → k ≠ 7 → k ≠ 8 → k ≠ 9 → M k = J k) → Z p l e { frames := 3, cells := 0, slots := 0, locals := 93 } s m args below meth c D A 9 0 0 Q 144 [(7, .int (zI k)), (5, .int (zI d)), (1, .int (zI sort)), (0, .ref (h 0))] [] (rW ce h F I M) := by
                    intro k M hk hM
                    refine Z.aload_n hX dX7_tell_144 rfl rfl ?_
                    refine Z.getf hX 7 0 5 dX7_tell_145 rfl rfl inX7 (by decide) fl_X7_17 rfl rfl ?_
                    refine Z.iload_n hX dX7_tell_148 rfl rfl ?_
                    refine Z.iconst hX dX7_tell_149 ?_
                    refine Z.zastore hX 3 2 dX7_tell_150 rfl rfl (by omega) (by omega) (by decide) ?_
                    obtain ⟨I6, eI6⟩ : ∃ J' : Nat → Nat → Int32, J' = va_up I 1 (upd (I 1) (sort : Int).toNat (vp_nar .boolean (zI (1)))) := ⟨_, rfl⟩
                    refine Z.toW (w' := rW ce h F I6 M) (by rw [eI6]; rfl) ?_
                    have gI6 : I6 1 = upd (I 1) (sort : Int).toNat (vp_nar .boolean (zI (1))) := by rw [eI6]; exact up_eq
                    have fI6 : ∀ k, k ≠ 1 → I6 k = I k := fun k hk => by rw [eI6]; exact up_ne hk
                    refine Z.aload_n hX dX7_tell_151 rfl rfl ?_
                    refine Z.getf hX 7 0 8 dX7_tell_152 rfl rfl inX7 (by decide) fl_X7_27 rfl rfl ?_
                    refine Z.iload_n hX dX7_tell_155 rfl rfl ?_
                    refine Z.iload hX dX7_tell_156 rfl ?_
                    refine Z.iastore hX 6 0 dX7_tell_158 rfl rfl (by omega) (by omega) (by decide) ?_
                    obtain ⟨I7, eI7⟩ : ∃ J' : Nat → Nat → Int32, J' = va_up I6 3 (upd (I6 3) (sort : Int).toNat (zI (k))) := ⟨_, rfl⟩
                    refine Z.toW (w' := rW ce h F I7 M) (by rw [eI7]; rfl) ?_
                    have gI7 : I7 3 = upd (I6 3) (sort : Int).toNat (zI (k)) := by rw [eI7]; exact up_eq
                    have fI7 : ∀ k, k ≠ 3 → I7 k = I6 k := fun k hk => by rw [eI7]; exact up_ne hk
                    refine Z.aload_n hX dX7_tell_159 rfl rfl ?_
                    refine Z.getf hX 7 0 7 dX7_tell_160 rfl rfl inX7 (by decide) fl_X7_24 rfl rfl ?_
                    refine Z.iload_n hX dX7_tell_163 rfl rfl ?_
                    refine Z.iload hX dX7_tell_164 rfl ?_
                    refine Z.iload hX dX7_tell_166 rfl ?_
                    refine Z.idiv hX dX7_tell_168 (by omega) (by omega) (by omega) (by omega) ?_
                    refine Z.iastore hX 5 0 dX7_tell_169 rfl rfl (by omega) (by omega) (by decide) ?_
                    obtain ⟨I8, eI8⟩ : ∃ J' : Nat → Nat → Int32, J' = va_up I7 2 (upd (I7 2) (sort : Int).toNat (zI (d / k))) := ⟨_, rfl⟩
                    refine Z.toW (w' := rW ce h F I8 M) (by rw [eI8]; rfl) ?_
                    have gI8 : I8 2 = upd (I7 2) (sort : Int).toNat (zI (d / k)) := by rw [eI8]; exact up_eq
                    have fI8 : ∀ k, k ≠ 2 → I8 k = I7 k := fun k hk => by rw [eI8]; exact up_ne hk
                    have hdgN : DGok (I8 2) := DG_s hdg hso.1 hk (by omega) (by rw [gI8, fI7 2 (by decide), fI6 2 (by decide)])
                    refine Z.iconst hX dX7_tell_170 ?_
                    refine Z.istore (lv' := [(8, .int (zI 0)), (7, .int (zI k)), (5, .int (zI d)), (1, .int (zI sort)), (0, .ref (h 0))]) hX dX7_tell_171 (by decide) rfl ?_
                    have key_173 : ∀ (N : Nat), ∀ (i : Int) (M : Nat → Nat → Int64), (49 - i).toNat < N → (hi : 0 ≤ i ∧ i ≤ 49) → (hM : ∀ k, k ≠ 1 → k ≠ 6 → k ≠ 7 → k ≠ 8 → k ≠ 9 → M k = J k) → Z p l e { frames := 3, cells := 0, slots := 0, locals := 93 } s m args below meth c D A 9 0 0 Q 173 [(8, .int (zI i)), (7, .int (zI k)), (1, .int (zI sort)), (0, .ref (h 0))] [] (rW ce h F I8 M) := by
                      intro N
                      induction N with
                      | zero => intro i M hm; exact absurd hm (Nat.not_lt_zero _)
                      | succ N ih_173 =>
                        intro i M hm hi hM
                        refine Z.iload hX dX7_tell_173 rfl ?_
                        refine Z.bipush hX dX7_tell_175 (by decide) ?_
                        refine Z.icmp_ge hX 221 dX7_tell_177 (by decide) ⟨by omega, by omega⟩ ⟨by omega, by omega⟩ ?_ ?_
                        · intro c9
                          exact hR _ _ _ dX7_tell_221 ⟨I8, M, rfl, (fun k h1 h6 h7 h8 h9 => (hM k h1 h6 h7 h8 h9)), (fun k h1 h2 h3 => ((fI8 k h2).trans ((fI7 k h3).trans ((fI6 k h1).trans rfl)))), hdgN⟩
                        · intro c9
                          refine Z.aload_n hX dX7_tell_180 rfl rfl ?_
                          refine Z.getf hX 7 0 6 dX7_tell_181 rfl rfl inX7 (by decide) fl_X7_21 rfl rfl ?_
                          refine Z.bipush hX dX7_tell_184 (by decide) ?_
                          refine Z.iload_n hX dX7_tell_186 rfl rfl ?_
                          refine Z.imul hX dX7_tell_187 ?_
                          refine Z.iload hX dX7_tell_188 rfl ?_
                          refine Z.iadd hX dX7_tell_190 ?_
                          refine Z.iload hX dX7_tell_191 rfl ?_
                          refine Z.iconst hX dX7_tell_193 ?_
                          refine Z.icmp_le hX 207 dX7_tell_194 (by decide) ⟨by omega, by omega⟩ ⟨by omega, by omega⟩ ?_ ?_
                          · intro c10
                            refine Z.aload_n hX dX7_tell_207 rfl rfl ?_
                            refine Z.getf hX 7 0 13 dX7_tell_208 rfl rfl inX7 (by decide) fl_X7_42 rfl rfl ?_
                            refine Z.iload hX dX7_tell_211 rfl ?_
                            refine Z.laload hX 11 1 dX7_tell_213 rfl rfl (by omega) (by omega) (by decide) ?_
                            refine Z.lastore hX 4 1 dX7_tell_214 rfl rfl (by omega) (by omega) (by decide) ?_
                            obtain ⟨J11, eJ11⟩ : ∃ J' : Nat → Nat → Int64, J' = va_up M 1 (vp_updL (M 1) ((49 * sort) + i : Int).toNat (M 6 (i : Int).toNat)) := ⟨_, rfl⟩
                            refine Z.toW (w' := rW ce h F I8 J11) (by rw [eJ11]; rfl) ?_
                            have gJ11 : J11 1 = vp_updL (M 1) ((49 * sort) + i : Int).toNat (M 6 (i : Int).toNat) := by rw [eJ11]; exact up_eq
                            have fJ11 : ∀ k, k ≠ 1 → J11 k = M k := fun k hk => by rw [eJ11]; exact up_ne hk
                            refine Z.iinc (lv' := [(8, .int (zI (i + 1))), (7, .int (zI k)), (1, .int (zI sort)), (0, .ref (h 0))]) hX dX7_tell_215 rfl (by decide) rfl ?_
                            refine Z.goto hX 173 dX7_tell_218 (by decide) ?_
                            refine Z.pick [0, 1, 2, 3] rfl ?_
                            exact ih_173 _ _ (by omega) (by omega) (fun k h1 h6 h7 h8 h9 => ((fJ11 k h1).trans (hM k h1 h6 h7 h8 h9)))
                          · intro c10
                            refine Z.aload_n hX dX7_tell_197 rfl rfl ?_
                            refine Z.getf hX 7 0 14 dX7_tell_198 rfl rfl inX7 (by decide) fl_X7_45 rfl rfl ?_
                            refine Z.iload hX dX7_tell_201 rfl ?_
                            refine Z.laload hX 12 1 dX7_tell_203 rfl rfl (by omega) (by omega) (by decide) ?_
                            refine Z.goto hX 214 dX7_tell_204 (by decide) ?_
                            refine Z.lastore hX 4 1 dX7_tell_214 rfl rfl (by omega) (by omega) (by decide) ?_
                            obtain ⟨J12, eJ12⟩ : ∃ J' : Nat → Nat → Int64, J' = va_up M 1 (vp_updL (M 1) ((49 * sort) + i : Int).toNat (M 7 (i : Int).toNat)) := ⟨_, rfl⟩
                            refine Z.toW (w' := rW ce h F I8 J12) (by rw [eJ12]; rfl) ?_
                            have gJ12 : J12 1 = vp_updL (M 1) ((49 * sort) + i : Int).toNat (M 7 (i : Int).toNat) := by rw [eJ12]; exact up_eq
                            have fJ12 : ∀ k, k ≠ 1 → J12 k = M k := fun k hk => by rw [eJ12]; exact up_ne hk
                            refine Z.iinc (lv' := [(8, .int (zI (i + 1))), (7, .int (zI k)), (1, .int (zI sort)), (0, .ref (h 0))]) hX dX7_tell_215 rfl (by decide) rfl ?_
                            refine Z.goto hX 173 dX7_tell_218 (by decide) ?_
                            refine Z.pick [0, 1, 2, 3] rfl ?_
                            exact ih_173 _ _ (by omega) (by omega) (fun k h1 h6 h7 h8 h9 => ((fJ12 k h1).trans (hM k h1 h6 h7 h8 h9)))
                    refine Z.pick [0, 1, 3, 4] rfl ?_
                    exact key_173 _ _ _ (Nat.lt_succ_self _) (by omega) (fun k h1 h6 h7 h8 h9 => (hM k h1 h6 h7 h8 h9))
                  refine Z.iload hX dX7_tell_117 rfl ?_
                  refine Z.istore (lv' := [(7, .int (zI d)), (6, .int (zI fi)), (5, .int (zI d)), (3, .long y), (1, .int (zI sort)), (0, .ref (h 0))]) hX dX7_tell_119 (by decide) rfl ?_
                  have key_121 : ∀ (N : Nat), ∀ (k : Int) (M : Nat → Nat → Int64), k.toNat < N → (hk : 1 ≤ k ∧ k ≤ d) → (hM : ∀ k, k ≠ 1 → k ≠ 6 → k ≠ 7 → k ≠ 8 → k ≠ 9 → M k = J k) → Z p l e { frames := 3, cells := 0, slots := 0, locals := 93 } s m args below meth c D A 9 0 0 Q 121 [(7, .int (zI k)), (6, .int (zI fi)), (5, .int (zI d)), (1, .int (zI sort)), (0, .ref (h 0))] [] (rW ce h F I M) := by
                    intro N
                    induction N with
                    | zero => intro k M hm; exact absurd hm (Nat.not_lt_zero _)
                    | succ N ih_121 =>
                      intro k M hm hk hM
                      refine Z.iload hX dX7_tell_121 rfl ?_
                      refine Z.iconst hX dX7_tell_123 ?_
                      refine Z.icmp_le hX 144 dX7_tell_124 (by decide) ⟨by omega, by omega⟩ ⟨by omega, by omega⟩ ?_ ?_
                      · intro c13
                        refine Z.pick [0, 2, 3, 4] rfl ?_
                        exact key_144 _ _ (by omega) (fun k h1 h6 h7 h8 h9 => (hM k h1 h6 h7 h8 h9))
                      · intro c13
                        refine Z.aload_n hX dX7_tell_127 rfl rfl ?_
                        refine Z.iload hX dX7_tell_128 rfl ?_
                        refine Z.iload hX dX7_tell_130 rfl ?_
                        refine Z.callVfi (As := [.int (zI k), .int (zI fi)]) (rest := []) hX 7 0 rfl rfl (ct_X7_isPower l D ce h F I M k fi (by omega) (by omega)) mc_X7_isPower ml_X7_111 im_X7_isPower se_X7_isPower ini_X7 nd_X7_isPower ⟨Nat.le_of_ble_eq_true rfl, Nat.le_of_ble_eq_true rfl⟩ ⟨rfl, rfl⟩ ⟨Nat.le_refl _, Nat.le_refl _⟩ rfl (Nat.le_of_ble_eq_true rfl) dX7_tell_132 ?_
                        rintro r_14 w1 ⟨z15, J216, hr_, hw_, hq17, hq18⟩
                        subst hr_
                        subst hw_
                        refine Z.if_ne hX 144 dX7_tell_135 (by decide) ⟨by omega, by omega⟩ ?_ ?_
                        · intro c19
                          refine Z.pick [0, 2, 3, 4] rfl ?_
                          exact key_144 _ _ (by omega) (fun k h1 h6 h7 h8 h9 => ((hq18 k h7 h8 h9).trans (hM k h1 h6 h7 h8 h9)))
                        · intro c19
                          refine Z.iinc (lv' := [(7, .int (zI (k + -1))), (6, .int (zI fi)), (5, .int (zI d)), (1, .int (zI sort)), (0, .ref (h 0))]) hX dX7_tell_138 rfl (by decide) rfl ?_
                          refine Z.goto hX 121 dX7_tell_141 (by decide) ?_
                          refine Z.pick [0, 1, 2, 3, 4] rfl ?_
                          exact ih_121 _ _ (by omega) (by omega) (fun k h1 h6 h7 h8 h9 => ((hq18 k h7 h8 h9).trans (hM k h1 h6 h7 h8 h9)))
                  refine Z.pick [0, 1, 2, 4, 5] rfl ?_
                  exact key_121 _ _ _ (Nat.lt_succ_self _) (by omega) (fun k h1 h6 h7 h8 h9 => (hM k h1 h6 h7 h8 h9))
                · intro c5
                  refine Z.aload_n hX dX7_tell_100 rfl rfl ?_
                  refine Z.getf hX 7 0 13 dX7_tell_101 rfl rfl inX7 (by decide) fl_X7_42 rfl rfl ?_
                  refine Z.iload hX dX7_tell_104 rfl ?_
                  refine Z.dup2 hX dX7_tell_106 rfl rfl ?_
                  refine Z.laload hX 11 1 dX7_tell_107 rfl rfl (by omega) (by omega) (by decide) ?_
                  refine Z.lload_n hX dX7_tell_108 rfl rfl ?_
                  refine Z.ldiv hX dX7_tell_109 hy0 ?_
                  refine Z.lastore hX 11 1 dX7_tell_110 rfl rfl (by omega) (by omega) (by decide) ?_
                  obtain ⟨J20, eJ20⟩ : ∃ J' : Nat → Nat → Int64, J' = va_up M 6 (vp_updL (M 6) (i : Int).toNat ((M 6 (i : Int).toNat) / y)) := ⟨_, rfl⟩
                  refine Z.toW (w' := rW ce h F I J20) (by rw [eJ20]; rfl) ?_
                  have gJ20 : J20 6 = vp_updL (M 6) (i : Int).toNat ((M 6 (i : Int).toNat) / y) := by rw [eJ20]; exact up_eq
                  have fJ20 : ∀ k, k ≠ 6 → J20 k = M k := fun k hk => by rw [eJ20]; exact up_ne hk
                  refine Z.iinc (lv' := [(7, .int (zI (i + 1))), (6, .int (zI fi)), (5, .int (zI d)), (3, .long y), (1, .int (zI sort)), (0, .ref (h 0))]) hX dX7_tell_111 rfl (by decide) rfl ?_
                  refine Z.goto hX 93 dX7_tell_114 (by decide) ?_
                  refine Z.pick [0, 1, 2, 3, 4, 5] rfl ?_
                  exact ih_93 _ _ (by omega) (by omega) (fun k h1 h6 h7 h8 h9 => ((fJ20 k h6).trans (hM k h1 h6 h7 h8 h9)))
            refine Z.pick [0, 2, 3, 1, 4, 5] rfl ?_
            exact key_93 _ _ _ (Nat.lt_succ_self _) (by omega) (fun k h1 h6 h7 h8 h9 => (hM k h1 h6 h7 h8 h9))
          refine Z.aload_n hX dX7_tell_71 rfl rfl ?_
          refine Z.getf hX 7 0 13 dX7_tell_72 rfl rfl inX7 (by decide) fl_X7_42 rfl rfl ?_
          refine Z.iload hX dX7_tell_75 rfl ?_
          refine Z.laload hX 11 1 dX7_tell_77 rfl rfl (by omega) (by omega) (by decide) ?_
          refine Z.lconst (v := 0) hX dX7_tell_78 rfl ?_
          refine Z.lcmp_ge hX 88 dX7_tell_79 dX7_tell_80 (by decide) ?_ ?_
          · intro c21
            refine Z.lload_n hX dX7_tell_88 rfl rfl ?_
            refine Z.pick [0, 1, 4, 5] rfl ?_
            exact key_89 _ hx0
          · intro c21
            refine Z.lload_n hX dX7_tell_83 rfl rfl ?_
            refine Z.lneg hX dX7_tell_84 ?_
            refine Z.goto hX 89 dX7_tell_85 (by decide) ?_
            refine Z.pick [0, 1, 4, 5] rfl ?_
            exact key_89 _ (tl_n hx0)
        · intro c3
          exact hR _ _ _ dX7_tell_61 ⟨I, M, rfl, (fun k h1 h6 h7 h8 h9 => (hM k h1 h6 h7 h8 h9)), (fun k h1 h2 h3 => rfl), hdg⟩
      · intro c1
        refine Z.aload_n hX dX7_tell_12 rfl rfl ?_
        refine Z.getf hX 7 0 13 dX7_tell_13 rfl rfl inX7 (by decide) fl_X7_42 rfl rfl ?_
        refine Z.iload hX dX7_tell_16 rfl ?_
        refine Z.aload_n hX dX7_tell_18 rfl rfl ?_
        refine Z.getf hX 7 0 12 dX7_tell_19 rfl rfl inX7 (by decide) fl_X7_39 rfl rfl ?_
        refine Z.iload_n hX dX7_tell_22 rfl rfl ?_
        refine Z.iload hX dX7_tell_23 rfl ?_
        refine Z.iadd hX dX7_tell_25 ?_
        refine Z.laload hX 10 1 dX7_tell_26 rfl rfl (by omega) (by omega) (by decide) ?_
        refine Z.lastore hX 11 1 dX7_tell_27 rfl rfl (by omega) (by omega) (by decide) ?_
        obtain ⟨J22, eJ22⟩ : ∃ J' : Nat → Nat → Int64, J' = va_up M 6 (vp_updL (M 6) (i : Int).toNat (M 5 (fr + i : Int).toNat)) := ⟨_, rfl⟩
        refine Z.toW (w' := rW ce h F I J22) (by rw [eJ22]; rfl) ?_
        have gJ22 : J22 6 = vp_updL (M 6) (i : Int).toNat (M 5 (fr + i : Int).toNat) := by rw [eJ22]; exact up_eq
        have fJ22 : ∀ k, k ≠ 6 → J22 k = M k := fun k hk => by rw [eJ22]; exact up_ne hk
        refine Z.lload_n hX dX7_tell_28 rfl rfl ?_
        refine Z.aload_n hX dX7_tell_29 rfl rfl ?_
        refine Z.getf hX 7 0 13 dX7_tell_30 rfl rfl inX7 (by decide) fl_X7_42 rfl rfl ?_
        refine Z.iload hX dX7_tell_33 rfl ?_
        refine Z.laload hX 11 1 dX7_tell_35 rfl rfl (by omega) (by omega) (by decide) ?_
        refine Z.callS0l (As := [.long x, .long (J22 6 (i : Int).toNat)]) (rest := []) hX (ct_X7_common l D ce x (J22 6 (i : Int).toNat) ) mc_X7_common ml_X7_58 st_X7_common ini_X7 nd_X7_common ⟨Nat.le_of_ble_eq_true rfl, Nat.le_of_ble_eq_true rfl⟩ ⟨rfl, rfl⟩ ⟨Nat.le_refl _, Nat.le_refl _⟩ rfl (Nat.le_of_ble_eq_true rfl) dX7_tell_36 ?_
        rintro cg w1 ⟨r024, hr_, hw_, hcg⟩
        subst hr_
        refine ⟨hw_, ?_⟩
        refine Z.lstore_n (lv' := [(3, .long cg), (5, .int (zI i)), (2, .int (zI fr)), (1, .int (zI sort)), (0, .ref (h 0))]) hX dX7_tell_39 rfl (by decide) rfl ?_
        refine Z.iinc (lv' := [(5, .int (zI (i + 1))), (3, .long cg), (2, .int (zI fr)), (1, .int (zI sort)), (0, .ref (h 0))]) hX dX7_tell_40 rfl (by decide) rfl ?_
        refine Z.goto hX 5 dX7_tell_43 (by decide) ?_
        refine Z.pick [0, 1, 2, 3, 4] rfl ?_
        exact ih_5 _ _ _ (by omega) (by omega) (tl_s hi.1 gJ22 htz hcg) (fun k h1 h6 h7 h8 h9 => ((fJ22 k h6).trans (hM k h1 h6 h7 h8 h9)))
  refine Z.pick [0, 1, 4, 3, 2] rfl ?_
  exact key_5 _ _ _ _ (Nat.lt_succ_self _) (by omega) (fun _ q h1 h2 => by omega) (fun k h1 h6 h7 h8 h9 => rfl)
end
section
/-! the greatest power with a coefficient other than 0 -/
def moK (r : Nat → Int32) : Nat → Int
  | 0 => 0
  | k + 1 => if r k ≠ 0 ∨ r (5 + k) ≠ 0 ∨ r (10 + k) ≠ 0 then (k : Int) else moK r k
theorem moK_s {r : Nat → Int32} {k : Int} (hk : 0 ≤ k) {a b d : Int} (ea : r k.toNat = zI a) (eb : r (5 + k).toNat = zI b) (ed : r (10 + k).toNat = zI d) (ra : zR a) (rb : zR b) (rd : zR d) : moK r (k + 1).toNat = if a ≠ 0 ∨ b ≠ 0 ∨ d ≠ 0 then k else moK r k.toNat := by
  obtain ⟨n, rfl⟩ := Int.eq_ofNat_of_zero_le hk
  have e1 : ((n : Int) + 1).toNat = n + 1 := by omega
  have e2 : (5 + (n : Int)).toNat = 5 + n := by omega
  have e3 : (10 + (n : Int)).toNat = 10 + n := by omega
  have e4 : ((n : Int)).toNat = n := rfl
  rw [e4] at ea
  rw [e2] at eb
  rw [e3] at ed
  rw [e1, e4]
  show (if r n ≠ 0 ∨ r (5 + n) ≠ 0 ∨ r (10 + n) ≠ 0 then (n : Int) else moK r n) = _
  have z0 : ∀ {x : Int}, zR x → (zI x ≠ 0 ↔ x ≠ 0) := fun hx => not_congr (zI_eq hx zR_0)
  rw [ea, eb, ed]
  simp only [z0 ra, z0 rb, z0 rd]
theorem moK_b (r : Nat → Int32) : ∀ k : Nat, 0 ≤ moK r k ∧ (moK r k < k ∨ (k = 0 ∧ moK r k = 0))
  | 0 => ⟨Int.le_refl 0, Or.inr ⟨rfl, rfl⟩⟩
  | k + 1 => by
    have ih := moK_b r k
    show 0 ≤ (if _ then (k : Int) else moK r k) ∧ _
    refine ⟨?_, Or.inl ?_⟩
    · split <;> omega
    · show (if _ then (k : Int) else moK r k) < _
      split <;> omega
theorem mo_1 {r : Nat → Int32} {k a : Int} (hk : 0 ≤ k) (ea : r k.toNat = zI a) (ra : zR a) (h : a ≠ 0) : k = moK r (k + 1).toNat := by
  obtain ⟨b, hb1, hb2, eb⟩ := zI_ex (r (5 + k).toNat)
  obtain ⟨d, hd1, hd2, ed⟩ := zI_ex (r (10 + k).toNat)
  rw [moK_s hk ea eb ed ra ⟨hb1, hb2⟩ ⟨hd1, hd2⟩, if_pos (Or.inl h)]
theorem mo_2 {r : Nat → Int32} {k b : Int} (hk : 0 ≤ k) (eb : r (5 + k).toNat = zI b) (rb : zR b) (h : b ≠ 0) : k = moK r (k + 1).toNat := by
  obtain ⟨a, ha1, ha2, ea⟩ := zI_ex (r k.toNat)
  obtain ⟨d, hd1, hd2, ed⟩ := zI_ex (r (10 + k).toNat)
  rw [moK_s hk ea eb ed ⟨ha1, ha2⟩ rb ⟨hd1, hd2⟩, if_pos (Or.inr (Or.inl h))]
theorem mo_3 {r : Nat → Int32} {k d : Int} (hk : 0 ≤ k) (ed : r (10 + k).toNat = zI d) (rd : zR d) (h : d ≠ 0) : k = moK r (k + 1).toNat := by
  obtain ⟨a, ha1, ha2, ea⟩ := zI_ex (r k.toNat)
  obtain ⟨b, hb1, hb2, eb⟩ := zI_ex (r (5 + k).toNat)
  rw [moK_s hk ea eb ed ⟨ha1, ha2⟩ ⟨hb1, hb2⟩ rd, if_pos (Or.inr (Or.inr h))]
theorem mo_0 {r : Nat → Int32} {k a b d x : Int} (hk : 0 ≤ k) (ea : r k.toNat = zI a) (eb : r (5 + k).toNat = zI b) (ed : r (10 + k).toNat = zI d) (ha : a = 0) (hb : b = 0) (hd : d = 0) (hx : x = moK r k.toNat) : x = moK r (k + 1).toNat := by
  subst ha; subst hb; subst hd
  rw [moK_s hk ea eb ed zR_0 zR_0 zR_0, if_neg (by simp), hx]
def knw (F : Nat → Int) (r : Nat → Int32) : Prop := F 2 = 1 → F 0 = moK r 5
/-- what holds of the reference's cells between calls -/
def rOK (F : Nat → Int) (I : Nat → Nat → Int32) : Prop := (F 2 = 0 ∨ F 2 = 1) ∧ (0 ≤ F 0 ∧ F 0 ≤ 4 ∧ 0 ≤ F 1 ∧ F 1 ≤ 4) ∧ knw F (I 0) ∧ DGok (I 2)
theorem rOK_i {F : Nat → Int} {I I2 : Nat → Nat → Int32} (h1 : F 2 = 0 ∨ F 2 = 1) (h2 : 0 ≤ F 0 ∧ F 0 ≤ 4 ∧ 0 ≤ F 1 ∧ F 1 ≤ 4) (h3 : F 0 = moK (I 0) 5) (h4 : I2 0 = I 0) (h5 : DGok (I2 2)) : rOK F I2 := ⟨h1, h2, fun _ => by rw [h4]; exact h3, h5⟩
theorem rOK_u {F : Nat → Int} {I : Nat → Nat → Int32} (h1 : F 2 = 0) (h2 : 0 ≤ F 0 ∧ F 0 ≤ 4 ∧ 0 ≤ F 1 ∧ F 1 ≤ 4) (h5 : DGok (I 2)) : rOK F I := ⟨Or.inl h1, h2, fun q => by omega, h5⟩
theorem DG_z {g : Nat → Int32} {j z : Int} (h : DGok g) (hj : 0 ≤ j ∧ j < 2) (e : g j.toNat = zI z) (h1 : -2147483648 ≤ z) (h2 : z < 2147483648) : 0 ≤ z ∧ z ≤ 12 := by
  obtain ⟨y, g1, g2, g3⟩ := h j hj.1 hj.2
  rw [g3] at e
  have := (zI_eq ⟨by omega, by omega⟩ ⟨h1, h2⟩).mp e
  omega
/-- a value of the row's polynomial at a parameter, term by term -/
def vsum (r : Nat → Int32) (w : Int) (u v : Int64) (n : Int) : Nat → Int64
  | 0 => 0
  | k + 1 => vsum r w u v n k + (r (5 * w + k).toNat).toInt64 * lpow u k * lpow v (n - k).toNat
def vOf (r : Nat → Int32) (w u v : Int) : Int64 := vsum r w (zL u) (zL v) (moK r 5) (moK r 5 + 1).toNat
theorem vsum_s {r : Nat → Int32} {w n k z : Int} {u v x a b : Int64} (hk : 0 ≤ k) (hx : x = vsum r w u v n k.toNat) (ez : r (5 * w + k).toNat = zI z) (hz : zR z) (ha : a = lpow u k.toNat) (hb : b = lpow v (n - k).toNat) : x + zL z * a * b = vsum r w u v n (k + 1).toNat := by
  obtain ⟨m, rfl⟩ := Int.eq_ofNat_of_zero_le hk
  have e1 : ((m : Int) + 1).toNat = m + 1 := by omega
  rw [e1]
  show _ = vsum r w u v n m + (r (5 * w + (m : Int)).toNat).toInt64 * lpow u m * lpow v (n - (m : Int)).toNat
  rw [hx, ha, hb, ez, zL_i2l hz]
  rfl
def cntK (r : Nat → Int32) : Nat → Int
  | 0 => 0
  | k + 1 => cntK r k + (if r k = 0 then 0 else 1)
end
