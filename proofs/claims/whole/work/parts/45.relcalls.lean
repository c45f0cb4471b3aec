theorem rel_at {L : Nat → Nat → Int64} {r : Nat → Int32} (h : rel L r) {a b : Int} (ha : 0 ≤ a ∧ a ≤ 2) (hb : 0 ≤ b ∧ b ≤ 4) : L a.toNat b.toNat = (r (5 * a + b).toNat).toInt64 := by
  rw [h.1 a.toNat (by omega) b.toNat (by omega), show 5 * a.toNat + b.toNat = (5 * a + b).toNat by omega]
theorem i32_64 (x : Int32) : x.toInt64.toInt32 = x := by
  apply Int32.toInt_inj.mp
  rw [Int64.toInt_toInt32, Int32.toInt_toInt64, Int32.toInt_bmod]
theorem term_rel {L L2 : Nat → Nat → Int64} {r r2 : Nat → Int32} {wh i v z z' : Int} (h : rel L r)
    (c0 : ¬ (0 ≤ wh ∧ wh ≤ 2 ∧ 0 ≤ i ∧ i ≤ 4 ∧ -7 ≤ v ∧ v ≤ 7) → z = -100 ∧ L2 = L)
    (c1 : (0 ≤ wh ∧ wh ≤ 2 ∧ 0 ≤ i ∧ i ≤ 4 ∧ -7 ≤ v ∧ v ≤ 7) → (L wh.toNat i.toNat).toInt32 = zI z ∧ ((z = v ∧ L2 = L) ∨ (L2 wh.toNat = vp_updL (L wh.toNat) i.toNat (zL v) ∧ ∀ k, k ≠ wh.toNat → L2 k = L k)))
    (m0 : ¬ (0 ≤ wh ∧ wh ≤ 2 ∧ 0 ≤ i ∧ i ≤ 4 ∧ -7 ≤ v ∧ v ≤ 7) → z' = -100 ∧ r2 = r)
    (m1 : (0 ≤ wh ∧ wh ≤ 2 ∧ 0 ≤ i ∧ i ≤ 4 ∧ -7 ≤ v ∧ v ≤ 7) → r (5 * wh + i).toNat = zI z' ∧ r2 = upd r (5 * wh + i).toNat (zI v)) : zI z = zI z' ∧ rel L2 r2 := by
  by_cases g : 0 ≤ wh ∧ wh ≤ 2 ∧ 0 ≤ i ∧ i ≤ 4 ∧ -7 ≤ v ∧ v ≤ 7
  · obtain ⟨e1, e2⟩ := c1 g
    obtain ⟨f1, f2⟩ := m1 g
    rw [rel_at h ⟨g.1, g.2.1⟩ ⟨g.2.2.1, g.2.2.2.1⟩, i32_64] at e1
    refine ⟨e1.symm.trans f1, ?_⟩
    have hv : (zI v).toInt64 = zL v := zL_i2l ⟨by omega, by omega⟩
    have hb : ∀ k, k < 15 → -7 ≤ (r2 k).toInt ∧ (r2 k).toInt ≤ 7 := fun k hk => by
      rw [f2]
      unfold upd
      by_cases e : k = (5 * wh + i).toNat
      · rw [if_pos e, zI_toInt (by omega) (by omega)]
        omega
      · rw [if_neg e]
        exact h.2 k hk
    refine ⟨fun a ha b hb' => ?_, hb⟩
    rw [f2]
    unfold upd
    rcases e2 with ⟨ez, eL⟩ | ⟨eL, eo⟩
    · rw [eL]
      by_cases e : 5 * a + b = (5 * wh + i).toNat
      · rw [if_pos e, ← ez, ← e1, ← e]
        exact h.1 a ha b hb'
      · rw [if_neg e]
        exact h.1 a ha b hb'
    · by_cases ea : a = wh.toNat
      · rw [ea, eL]
        unfold vp_updL
        by_cases eb : b = i.toNat
        · rw [if_pos eb, if_pos (by omega), hv]
        · rw [if_neg eb, if_neg (by omega)]
          have := h.1 wh.toNat (by omega) b hb'
          exact this
      · rw [eo a ea, if_neg (by omega)]
        exact h.1 a ha b hb'
  · obtain ⟨e1, e2⟩ := c0 g
    obtain ⟨f1, f2⟩ := m0 g
    exact ⟨by rw [e1, f1], by rw [e2, f2]; exact h⟩
theorem value_rel {L : Nat → Nat → Int64} {r : Nat → Int32} {u v part z z' : Int} (h : rel L r)
    (c0 : ¬ ((-9 ≤ u ∧ u ≤ 9 ∧ -9 ≤ v ∧ v ≤ 9 ∧ ¬ (u = 0 ∧ v = 0)) ∧ 0 ≤ part ∧ part ≤ 2) → z = -1000000)
    (c1 : ((-9 ≤ u ∧ u ≤ 9 ∧ -9 ≤ v ∧ v ≤ 9 ∧ ¬ (u = 0 ∧ v = 0)) ∧ 0 ≤ part ∧ part ≤ 2) → ∃ (n : Int) (c1 c2 : Int64), HP L n ∧ cgE (wOf (L 0) u v n) (wOf (L 1) u v n) c1 ∧ cgE c1 (wOf (L 2) u v n) c2 ∧ ((c2 = 0 ∧ z = 0) ∨ (¬ c2 = 0 ∧ ((wOf (L part.toNat) u v n) / c2).toInt32 = zI z)))
    (m0 : ¬ ((-9 ≤ u ∧ u ≤ 9 ∧ -9 ≤ v ∧ v ≤ 9 ∧ ¬ (u = 0 ∧ v = 0)) ∧ 0 ≤ part ∧ part ≤ 2) → z' = -1000000)
    (m1 : ((-9 ≤ u ∧ u ≤ 9 ∧ -9 ≤ v ∧ v ≤ 9 ∧ ¬ (u = 0 ∧ v = 0)) ∧ 0 ≤ part ∧ part ≤ 2) → ∃ c1 c2 : Int64, cgE (vOf r 1 u v) (vOf r 2 u v) c1 ∧ cgE (vOf r 0 u v) c1 c2 ∧ ((c2 = 0 ∧ z' = 0) ∨ (¬ c2 = 0 ∧ (vOf r part u v / c2).toInt32 = zI z'))) : zI z = zI z' := by
  by_cases g : (-9 ≤ u ∧ u ≤ 9 ∧ -9 ≤ v ∧ v ≤ 9 ∧ ¬ (u = 0 ∧ v = 0)) ∧ 0 ≤ part ∧ part ≤ 2
  · obtain ⟨n, x1, x2, hp, a1, a2, a3⟩ := c1 g
    obtain ⟨y1, y2, b1, b2, b3⟩ := m1 g
    have w0 := w_v (u := u) (v := v) h hp (w := 0) (by decide)
    have w1 := w_v (u := u) (v := v) h hp (w := 1) (by decide)
    have w2 := w_v (u := u) (v := v) h hp (w := 2) (by decide)
    have wp := w_v (u := u) (v := v) h hp (w := part.toNat) (by omega)
    rw [Int.toNat_of_nonneg g.2.1] at wp
    rw [w0, w1] at a1
    rw [w2] at a2
    have hu : -9 ≤ u ∧ u ≤ 9 := ⟨g.1.1, g.1.2.1⟩
    have hv : -9 ≤ v ∧ v ≤ 9 := ⟨g.1.2.2.1, g.1.2.2.2.1⟩
    have e : x2 = y2 := cg_order (v_nm h.2 (w := 0) (by decide) hu hv) (v_nm h.2 (w := 1) (by decide) hu hv) (v_nm h.2 (w := 2) (by decide) hu hv) a1 a2 b1 b2
    subst e
    rw [wp] at a3
    rcases a3 with ⟨q1, q2⟩ | ⟨q1, q2⟩
    · rcases b3 with ⟨q3, q4⟩ | ⟨q3, q4⟩
      · rw [q2, q4]
      · exact absurd q1 q3
    · rcases b3 with ⟨q3, q4⟩ | ⟨q3, q4⟩
      · exact absurd q3 q1
      · exact q2.symm.trans q4
  · rw [c0 g, m0 g]
theorem at_rel {L : Nat → Nat → Int64} {r : Nat → Int32} {u v pp qq ss z z' : Int} (h : rel L r)
    (c0 : ¬ ((-9 ≤ u ∧ u ≤ 9 ∧ -9 ≤ v ∧ v ≤ 9 ∧ ¬ (u = 0 ∧ v = 0)) ∧ (-20 ≤ pp ∧ pp ≤ 20 ∧ -20 ≤ qq ∧ qq ≤ 20 ∧ 1 ≤ ss ∧ ss ≤ 9)) → z = -9)
    (c1 : ((-9 ≤ u ∧ u ≤ 9 ∧ -9 ≤ v ∧ v ≤ 9 ∧ ¬ (u = 0 ∧ v = 0)) ∧ (-20 ≤ pp ∧ pp ≤ 20 ∧ -20 ≤ qq ∧ qq ≤ 20 ∧ 1 ≤ ss ∧ ss ≤ 9)) → ∃ n : Int, HP L n ∧ ((z = 1 ∧ (¬ (wOf (L 2) u v n) = 0 ∧ (wOf (L 0) u v n) * zL ss = (wOf (L 2) u v n) * zL pp ∧ (wOf (L 1) u v n) * zL ss = (wOf (L 2) u v n) * zL qq)) ∨ (z = 0 ∧ ¬ (¬ (wOf (L 2) u v n) = 0 ∧ (wOf (L 0) u v n) * zL ss = (wOf (L 2) u v n) * zL pp ∧ (wOf (L 1) u v n) * zL ss = (wOf (L 2) u v n) * zL qq))))
    (m0 : ¬ ((-9 ≤ u ∧ u ≤ 9 ∧ -9 ≤ v ∧ v ≤ 9 ∧ ¬ (u = 0 ∧ v = 0)) ∧ (-20 ≤ pp ∧ pp ≤ 20 ∧ -20 ≤ qq ∧ qq ≤ 20 ∧ 1 ≤ ss ∧ ss ≤ 9)) → z' = -9)
    (m1 : ((-9 ≤ u ∧ u ≤ 9 ∧ -9 ≤ v ∧ v ≤ 9 ∧ ¬ (u = 0 ∧ v = 0)) ∧ (-20 ≤ pp ∧ pp ≤ 20 ∧ -20 ≤ qq ∧ qq ≤ 20 ∧ 1 ≤ ss ∧ ss ≤ 9)) → ((z' = 1 ∧ (¬ vOf r 2 u v = 0 ∧ vOf r 0 u v * zL ss = zL pp * vOf r 2 u v ∧ vOf r 1 u v * zL ss = zL qq * vOf r 2 u v)) ∨ (z' = 0 ∧ ¬ (¬ vOf r 2 u v = 0 ∧ vOf r 0 u v * zL ss = zL pp * vOf r 2 u v ∧ vOf r 1 u v * zL ss = zL qq * vOf r 2 u v)))) : zI z = zI z' := by
  by_cases g : (-9 ≤ u ∧ u ≤ 9 ∧ -9 ≤ v ∧ v ≤ 9 ∧ ¬ (u = 0 ∧ v = 0)) ∧ (-20 ≤ pp ∧ pp ≤ 20 ∧ -20 ≤ qq ∧ qq ≤ 20 ∧ 1 ≤ ss ∧ ss ≤ 9)
  · obtain ⟨n, hp, a3⟩ := c1 g
    have b3 := m1 g
    rw [w_v (u := u) (v := v) h hp (w := 0) (by decide), w_v (u := u) (v := v) h hp (w := 1) (by decide), w_v (u := u) (v := v) h hp (w := 2) (by decide)] at a3
    rw [Int64.mul_comm (zL pp), Int64.mul_comm (zL qq)] at b3
    have e0 : ((0 : Nat) : Int) = 0 := rfl
    have e1 : ((1 : Nat) : Int) = 1 := rfl
    have e2 : ((2 : Nat) : Int) = 2 := rfl
    rw [e0, e1, e2] at a3
    rcases a3 with ⟨q1, q2⟩ | ⟨q1, q2⟩
    · rcases b3 with ⟨q3, q4⟩ | ⟨q3, q4⟩
      · rw [q1, q3]
      · exact absurd q2 q4
    · rcases b3 with ⟨q3, q4⟩ | ⟨q3, q4⟩
      · exact absurd q4 q2
      · rw [q1, q3]
  · rw [c0 g, m0 g]
