/-! follows: both answer alike -/
theorem HP_fo {f : Nat → Int64} : HP (fP f) (foK f 5) := by
  obtain ⟨s1, s2, s3, s4⟩ := foK_spec f 5
  have e : ∀ k : Nat, fP f 0 k = f k ∧ fP f 1 k = f (5 + k) ∧ fP f 2 k = f (10 + k) := fun k => ⟨by show f (5 * 0 + k) = _; rw [show 5 * 0 + k = k by omega], rfl, rfl⟩
  refine ⟨⟨s3, by omega⟩, fun k h1 h2 => ?_, fun h0 => ?_⟩
  · have := s1 k.toNat (by omega) (by omega)
    rw [(e k.toNat).1, (e k.toNat).2.1, (e k.toNat).2.2]
    exact this
  · rw [(e _).1, (e _).2.1, (e _).2.2]
    exact s2 h0
theorem hs_rel {L L2 : Nat → Nat → Int64} {r : Nat → Int32} {F : Nat → Int} {f : Nat → Int64} (h : rel L r) (h1 : FRs L (fun a => L2 (3 + a))) (h2 : FQ r F f) : HSc L2 ↔ HS (fP f) (F 1) := by
  have e := rel_fr h h1 h2.1
  have et : ∀ a, a < 3 → ti (L2 (3 + a)) = ti (fP f a) := fun a ha => ti_ext (fun j x y => e a ha j.toNat (by omega))
  have hp : HP (fun a => L2 (3 + a)) (F 1) := by
    rw [h2.2]
    exact HP_c (fun a ha j x y => (e a ha j.toNat (by omega)).symm) HP_fo
  constructor
  · rintro ⟨n, hn, hs⟩
    exact HS_c et (HP_uq hn hp) hs
  · intro hs
    exact ⟨F 1, hp, HS_c (fun a ha => (et a ha).symm) rfl hs⟩
theorem follows_rel {L L2 J2 : Nat → Nat → Int64} {r : Nat → Int32} {F2 : Nat → Int} {u v x y : Int} (h : rel L r) (c0 : ¬ (-9 ≤ u ∧ u ≤ 9 ∧ -9 ≤ v ∧ v ≤ 9 ∧ ¬ (u = 0 ∧ v = 0)) → x = -1) (c1 : (-9 ≤ u ∧ u ≤ 9 ∧ -9 ≤ v ∧ v ≤ 9 ∧ ¬ (u = 0 ∧ v = 0)) → ∃ n : Int, HP L n ∧ FLc L L2 (wOf (L 2) u v n) x) (m0 : ¬ (-9 ≤ u ∧ u ≤ 9 ∧ -9 ≤ v ∧ v ≤ 9 ∧ ¬ (u = 0 ∧ v = 0)) → y = -1) (m1 : (-9 ≤ u ∧ u ≤ 9 ∧ -9 ≤ v ∧ v ≤ 9 ∧ ¬ (u = 0 ∧ v = 0)) → FQ r F2 (J2 0) ∧ FOL (HS (fP (J2 0)) (F2 1)) (vOf r 2 u v) y) : zI x = zI y := by
  congr 1
  by_cases q : -9 ≤ u ∧ u ≤ 9 ∧ -9 ≤ v ∧ v ≤ 9 ∧ ¬ (u = 0 ∧ v = 0)
  · obtain ⟨n, hn, hc⟩ := c1 q
    obtain ⟨hq, hf⟩ := m1 q
    have ew : wOf (L 2) u v n = vOf r 2 u v := w_v h hn (w := 2) (by decide)
    rw [ew] at hc
    by_cases w0 : vOf r 2 u v = 0
    · rw [hc.1 w0, hf.2 (fun z => z.2 w0)]
    · obtain ⟨h1, h2, h3⟩ := hc.2 w0
      have hs := hs_rel h h1 hq
      by_cases k : HSc L2
      · rw [h2 k, hf.1 ⟨hs.mp k, w0⟩]
      · rw [h3 k, hf.2 (fun z => k (hs.mpr z.1))]
  · rw [c0 q, m0 q]
