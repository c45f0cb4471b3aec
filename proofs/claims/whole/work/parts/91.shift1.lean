theorem nbk6 {x : Int} {A : Nat} (hx : x.natAbs ≤ A) : (6 * x).natAbs ≤ 6 * A := by omega
theorem nbk8 {x : Int} {A : Nat} (hx : x.natAbs ≤ A) : (8 * x).natAbs ≤ 8 * A := by omega
theorem NB_sf {X Y W : Nat → Int} (h : NB (sf X) (sf Y) (sf W)) : NB X Y W := by
  obtain ⟨κ, h1, v1, v2, v3, h2⟩ := h
  exact ⟨κ, fun x y w => by rw [← FF_sf]; exact h1 x y w, v1, v2, v3, fun q => h2 fun j => dL_sf q j⟩
theorem hL_gd (X Y W : Nat → Int) : ∀ k, k < 7 → gd (hL X Y W) k = hP k X Y W
  | 0, _ => rfl
  | 1, _ => rfl
  | 2, _ => rfl
  | 3, _ => rfl
  | 4, _ => rfl
  | 5, _ => rfl
  | 6, _ => rfl
/-- an odd middle at t + 1: nothing -/
theorem plain_1 {X Y W e G : Nat → Int} {c k k3 : Int} {b : Nat} (hS : SQ X Y W e G c) (hc : c ≠ 0) (he : ∃ i, i < 6 ∧ e i % 2 = 1) (hA : dvA b e (sf X) (sf Y) (sf W)) (hk : sP e (sf X) (sf Y) (sf W) 0 2 = 2 ^ b * k) (ok : k % 2 = 1) (hk3 : sP e (sf X) (sf Y) (sf W) 0 3 = 2 ^ b * k3) (ok3 : k3 % 2 = 1) (hb : b ≤ 20) (hx : (sf X 0).natAbs < 64 ∧ (sf Y 0).natAbs < 64 ∧ (sf W 0).natAbs < 64) (hm : (m3 (sf X) (sf Y) (sf W) 1 0 0 0 1).natAbs < 4096 ∧ (m3 (sf X) (sf Y) (sf W) 0 1 0 0 1).natAbs < 4096 ∧ (m3 (sf X) (sf Y) (sf W) 0 0 1 0 1).natAbs < 4096) (hP0 : bP X Y W) (x y w : Int) : FF X Y W x y w = 0 := by
  have hD : (d3 (sf X) (sf Y) (sf W) 0 1 2).natAbs < 2 ^ 16 := by
    have b012 := hP0 0 1 2 (by decide) (by decide) (by decide)
    have b013 := hP0 0 1 3 (by decide) (by decide) (by decide)
    have b014 := hP0 0 1 4 (by decide) (by decide) (by decide)
    have b023 := hP0 0 2 3 (by decide) (by decide) (by decide)
    have b024 := hP0 0 2 4 (by decide) (by decide) (by decide)
    have b034 := hP0 0 3 4 (by decide) (by decide) (by decide)
    have b123 := hP0 1 2 3 (by decide) (by decide) (by decide)
    have b124 := hP0 1 2 4 (by decide) (by decide) (by decide)
    have b134 := hP0 1 3 4 (by decide) (by decide) (by decide)
    have b234 := hP0 2 3 4 (by decide) (by decide) (by decide)
    rw [d3_sf012]
    exact Nat.lt_of_le_of_lt (nadd (nadd (nadd (nadd (nadd (nadd (nadd (nadd (nadd b012 (nbk3 b013)) (nbk6 b014)) (nbk3 b023)) (nbk8 b024)) (nbk6 b034)) b123) (nbk3 b124)) (nbk3 b134)) b234) (by decide)
  obtain ⟨hd, hn, hE⟩ := plain1 (SQ_sf hS) hc he hA hk ok hk3 ok3 hb hx hm hD
  have h7 := NB_h hS hc he (NB_sf hn)
  have h8 : ∀ k, k < 7 → hP k X Y W = 0 := fun k hk => by
    have h9 := h7 k
    rw [hL_gd X Y W k hk] at h9
    exact small_zero h9 (hP_b7 hP0 k hk)
  rcases row_exact hd (hP0_sf h8) (hP1_sf h8) (hP2_sf h8) (hP3_sf h8) with z | z
  · exact absurd z hE
  · rw [← FF_sf]
    exact z x y w
