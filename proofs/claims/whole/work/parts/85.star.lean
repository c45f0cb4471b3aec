def eL (e X Y W : Nat → Int) : List Int := [sE e X Y W 0, sP e X Y W 0 1, sP e X Y W 0 2 + sE e X Y W 1, sP e X Y W 0 3 + sP e X Y W 1 2, sP e X Y W 0 4 + sP e X Y W 1 3 + sE e X Y W 2, sP e X Y W 1 4 + sP e X Y W 2 3, sP e X Y W 2 4 + sE e X Y W 3, sP e X Y W 3 4, sE e X Y W 4]
theorem E_g (e X Y W : Nat → Int) (t : Int) : cE e (pv X t) (pv Y t) (pv W t) = evl (eL e X Y W) t := by
  show _ = sE e X Y W 0 + t * (sP e X Y W 0 1 + t * ((sP e X Y W 0 2 + sE e X Y W 1) + t * ((sP e X Y W 0 3 + sP e X Y W 1 2) + t * ((sP e X Y W 0 4 + sP e X Y W 1 3 + sE e X Y W 2) + t * ((sP e X Y W 1 4 + sP e X Y W 2 3) + t * ((sP e X Y W 2 4 + sE e X Y W 3) + t * (sP e X Y W 3 4 + t * (sE e X Y W 4 + t * 0))))))))
  unfold cE sE sP pv
  grind
/-- the eliminant is, but for a multiple of 2^64 times its content, a conic's square -/
def SQ (X Y W e G : Nat → Int) (c : Int) : Prop := ∀ x y w : Int, FF X Y W x y w = c * (cE e x y w * cE e x y w - 2 ^ 64 * qg G x y w)
theorem Pf_pv (X : Nat → Int) : Pf (fun t => pv X t) := ⟨[X 0, X 1, X 2, X 3, X 4], fun t => by
  show pv X t = X 0 + t * (X 1 + t * (X 2 + t * (X 3 + t * (X 4 + t * 0))))
  unfold pv
  grind⟩
theorem Pf_ev (l : List Int) : Pf (fun t => evl l t) := ⟨l, fun _ => rfl⟩
theorem Pf_qg (G X Y W : Nat → Int) : Pf (fun t => qg G (pv X t) (pv Y t) (pv W t)) := by
  unfold qg
  repeat (first | exact Pf_pv _ | exact Pf.con _ | apply Pf.add | apply Pf.mul)
theorem Pf_dq (G X Y W : Nat → Int) (v1 v2 v3 : Int) : Pf (fun t => dq G (pv X t) (pv Y t) (pv W t) v1 v2 v3) := by
  unfold dq
  repeat (first | exact Pf_pv _ | exact Pf.con _ | apply Pf.add | apply Pf.mul)
theorem Pf_cS (e X Y W : Nat → Int) (v1 v2 v3 : Int) : Pf (fun t => cS e (pv X t) (pv Y t) (pv W t) v1 v2 v3) := by
  unfold cS
  repeat (first | exact Pf_pv _ | exact Pf.con _ | apply Pf.add | apply Pf.mul)
theorem SQ_eL {X Y W e G : Nat → Int} {c : Int} (h : SQ X Y W e G c) (hc : c ≠ 0) (i : Nat) : (2 ^ 32 : Int) ∣ gd (eL e X Y W) i := by
  refine gauss_sq 32 (eL e X Y W) (fun i => ?_) i
  refine prod_dvd (Pf_qg G X Y W) (fun t => ?_) i
  have h1 := h (pv X t) (pv Y t) (pv W t)
  rw [FF_g] at h1
  rcases Int.mul_eq_zero.mp h1.symm with q | q
  · exact absurd q hc
  · rw [← E_g]
    rw [show (2 : Int) ^ (2 * 32) = 2 ^ 64 from rfl]
    omega
theorem SQ_CK {X Y W e G : Nat → Int} {c : Int} (h : SQ X Y W e G c) (hc : c ≠ 0) : CK (2 ^ 32) e X Y W := by
  have k := SQ_eL h hc
  exact ⟨k 0, k 1, k 2, k 3, k 4, k 5, k 6, k 7, k 8⟩
theorem dF_sq {X Y W e G : Nat → Int} {c : Int} (h : SQ X Y W e G c) (x y w v1 v2 v3 : Int) : dF X Y W x y w v1 v2 v3 = c * (2 * cE e x y w * cS e x y w v1 v2 v3 - 2 ^ 64 * dq G x y w v1 v2 v3) := by
  have h1 := FF_fd X Y W x y w v1 v2 v3
  rw [h, h, h, h] at h1
  have h2 := cE_fd e x y w v1 v2 v3
  have h3 := qg_fd G x y w v1 v2 v3
  generalize cE e (x + 1 * v1) (y + 1 * v2) (w + 1 * v3) * cE e (x + 1 * v1) (y + 1 * v2) (w + 1 * v3) = a1 at *
  generalize cE e (x + -1 * v1) (y + -1 * v2) (w + -1 * v3) * cE e (x + -1 * v1) (y + -1 * v2) (w + -1 * v3) = a2 at *
  generalize cE e (x + 2 * v1) (y + 2 * v2) (w + 2 * v3) * cE e (x + 2 * v1) (y + 2 * v2) (w + 2 * v3) = a3 at *
  generalize cE e (x + -2 * v1) (y + -2 * v2) (w + -2 * v3) * cE e (x + -2 * v1) (y + -2 * v2) (w + -2 * v3) = a4 at *
  generalize qg G (x + 1 * v1) (y + 1 * v2) (w + 1 * v3) = b1 at *
  generalize qg G (x + -1 * v1) (y + -1 * v2) (w + -1 * v3) = b2 at *
  generalize qg G (x + 2 * v1) (y + 2 * v2) (w + 2 * v3) = b3 at *
  generalize qg G (x + -2 * v1) (y + -2 * v2) (w + -2 * v3) = b4 at *
  generalize 2 * cE e x y w * cS e x y w v1 v2 v3 = s at *
  generalize dq G x y w v1 v2 v3 = r at *
  generalize dF X Y W x y w v1 v2 v3 = d at *
  have h4 : 12 * d = 12 * (c * (s - 2 ^ 64 * r)) := by
    rw [h1]
    have e1 : 8 * (c * (a1 - 2 ^ 64 * b1)) - 8 * (c * (a2 - 2 ^ 64 * b2)) - c * (a3 - 2 ^ 64 * b3) + c * (a4 - 2 ^ 64 * b4) = c * ((8 * a1 - 8 * a2 - a3 + a4) - 2 ^ 64 * (8 * b1 - 8 * b2 - b3 + b4)) := by grind
    rw [e1, h2, h3]
    grind
  omega
theorem star {X Y W e G : Nat → Int} {c : Int} (h : SQ X Y W e G c) (hc : c ≠ 0) (v1 v2 v3 : Int) (i : Nat) : 2 ^ 33 * c ∣ conv (hL X Y W) (gd (dL X Y W v1 v2 v3)) i := by
  obtain ⟨xl, hx⟩ : ∃ xl : List Int, ∀ t, evl (eL e X Y W) t = 2 ^ 32 * evl xl t := by
    have k := SQ_eL h hc
    obtain ⟨x0, h0⟩ := k 0
    obtain ⟨x1, h1⟩ := k 1
    obtain ⟨x2, h2⟩ := k 2
    obtain ⟨x3, h3⟩ := k 3
    obtain ⟨x4, h4⟩ := k 4
    obtain ⟨x5, h5⟩ := k 5
    obtain ⟨x6, h6⟩ := k 6
    obtain ⟨x7, h7⟩ := k 7
    obtain ⟨x8, h8⟩ := k 8
    refine ⟨[x0, x1, x2, x3, x4, x5, x6, x7, x8], fun t => ?_⟩
    have e1 : eL e X Y W = [gd (eL e X Y W) 0, gd (eL e X Y W) 1, gd (eL e X Y W) 2, gd (eL e X Y W) 3, gd (eL e X Y W) 4, gd (eL e X Y W) 5, gd (eL e X Y W) 6, gd (eL e X Y W) 7, gd (eL e X Y W) 8] := rfl
    rw [e1, h0, h1, h2, h3, h4, h5, h6, h7, h8]
    exact evl_map (2 ^ 32) [x0, x1, x2, x3, x4, x5, x6, x7, x8] t
  refine prod_dvd (F := fun t => evl xl t * cS e (pv X t) (pv Y t) (pv W t) v1 v2 v3 - 2 ^ 31 * dq G (pv X t) (pv Y t) (pv W t) v1 v2 v3) ?_ (fun t => ?_) i
  · exact Pf.sub (Pf.mul (Pf_ev xl) (Pf_cS e X Y W v1 v2 v3)) (Pf.mul (Pf.con _) (Pf_dq G X Y W v1 v2 v3))
  · rw [← dF_g, dF_sq h, E_g, hx]
    generalize evl xl t = a
    generalize cS e (pv X t) (pv Y t) (pv W t) v1 v2 v3 = b
    generalize dq G (pv X t) (pv Y t) (pv W t) v1 v2 v3 = d
    show c * (2 * (2 ^ 32 * a) * b - 2 ^ 64 * d) = 2 ^ 33 * c * (a * b - 2 ^ 31 * d)
    grind
