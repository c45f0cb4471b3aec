/-! no value is too great -/
theorem Pf.pw {F : Int → Int} (h : Pf F) : ∀ n : Nat, Pf (fun t => F t ^ n)
  | 0 => Pf.con' 1 (fun t => Int.pow_zero _)
  | n + 1 => by
    obtain ⟨l, hl⟩ := (Pf.pw h n).mul h
    exact ⟨l, fun t => by show F t ^ (n + 1) = _; rw [Int.pow_succ]; exact hl t⟩
theorem Pf_h6y (t : Nat → Nat → Int) (x w : Int) : Pf (fun y => hom6 t x y w) := by
  unfold hom6
  repeat (first | exact Pf.con _ | exact Pf.var | apply Pf.add | apply Pf.mul)
theorem Pf_h6w (t : Nat → Nat → Int) (x y : Int) : Pf (fun w => hom6 t x y w) := by
  unfold hom6
  repeat (first | exact Pf.con _ | exact Pf.var | apply Pf.add | apply Pf.mul)
theorem hom6_s (t : Nat → Nat → Int) (r x y w : Int) : hom6 t (r * x) (r * y) (r * w) = r ^ 6 * hom6 t x y w := by
  unfold hom6
  grind
theorem h6_pow {k : Nat} {f E : Nat → Int} (hk : 1 ≤ k) (h : tru k f E) (x y w : Int) : hom6 (fun a b => E (7 * a + b)) x y w ^ k = w ^ (6 * k - 6) * hom6 (fun a b => f (7 * a + b)) x y w := by
  have := hom_ext (P := fun x y w => hom6 (fun a b => E (7 * a + b)) x y w ^ k - w ^ (6 * k - 6) * hom6 (fun a b => f (7 * a + b)) x y w) (6 * k) (fun y w => ((Pf_h6x _ y w).pw k).sub ((Pf.con _).mul (Pf_h6x _ y w))) (fun x w => ((Pf_h6y _ x w).pw k).sub ((Pf.con _).mul (Pf_h6y _ x w))) (fun x y => ((Pf_h6w _ x y).pw k).sub ((Pf_pow _).mul (Pf_h6w _ x y))) (fun s x y w => by
      show hom6 _ (s * x) (s * y) (s * w) ^ k - (s * w) ^ (6 * k - 6) * hom6 _ (s * x) (s * y) (s * w) = s ^ (6 * k) * (hom6 _ x y w ^ k - w ^ (6 * k - 6) * hom6 _ x y w)
      rw [hom6_s, hom6_s, Int.mul_pow, Int.mul_pow, ← Int.pow_mul]
      have e : s ^ (6 * k) = s ^ (6 * k - 6) * s ^ 6 := by rw [← Int.pow_add]; congr 1; omega
      rw [e]
      generalize s ^ (6 * k - 6) = u
      generalize s ^ 6 = v
      generalize w ^ (6 * k - 6) = z
      grind) (fun x y => by
      show hom6 _ x y 1 ^ k - 1 ^ (6 * k - 6) * hom6 _ x y 1 = 0
      rw [h x y, Int.one_pow, Int.one_mul, Int.sub_self]) x y w
  have e : hom6 (fun a b => E (7 * a + b)) x y w ^ k - w ^ (6 * k - 6) * hom6 (fun a b => f (7 * a + b)) x y w = 0 := this
  omega
theorem V_pow {k D d : Nat} {f E : Nat → Int} (hk : 1 ≤ k) (hd : d = k * D) (h6 : d ≤ 6) (suE : SUi E D) (suf : SUi f d) (h : tru k f E) {p q s : Int} (hs : 1 ≤ s) : Vl E D p q s ^ k = Vl f d p q s := by
  have hD : D ≤ d := by
    have := Nat.mul_le_mul hk (Nat.le_refl D)
    omega
  have e1 := V_hom (by omega) suE p q s
  have e2 := V_hom h6 suf p q s
  have e3 := h6_pow hk h p q s
  rw [← e1, ← e2, Int.mul_pow, ← Int.pow_mul, ← Int.mul_assoc, ← Int.pow_add] at e3
  have e4 : (6 - D) * k = 6 * k - 6 + (6 - d) := by
    rw [Nat.sub_mul, Nat.mul_comm D k, ← hd]
    omega
  rw [e4] at e3
  have s0 : s ^ (6 * k - 6 + (6 - d)) ≠ 0 := by
    have : 0 < s ^ (6 * k - 6 + (6 - d)) := Int.pow_pos (by omega)
    omega
  exact Int.eq_of_mul_eq_mul_left s0 e3
theorem V_le {k D d : Nat} {f E : Nat → Int} (hk : 1 ≤ k) (hd : d = k * D) (h6 : d ≤ 6) (suE : SUi E D) (suf : SUi f d) (h : tru k f E) {p q s : Int} (hs : 1 ≤ s) : (Vl E D p q s).natAbs ≤ (Vl f d p q s).natAbs := by
  rw [← V_pow hk hd h6 suE suf h hs, Int.natAbs_pow]
  exact Nat.le_self_pow (by omega) _
/-- sizes at one place -/
def Vb (a : Int) (A : Nat) : Prop := a.natAbs ≤ A
theorem Vb.le {a : Int} {A B : Nat} (h : Vb a A) (hab : A ≤ B) : Vb a B := Nat.le_trans h hab
theorem Vb.add {a b : Int} {A B : Nat} (h1 : Vb a A) (h2 : Vb b B) : Vb (a + b) (A + B) := by
  unfold Vb at *
  omega
theorem Vb.sub {a b : Int} {A B : Nat} (h1 : Vb a A) (h2 : Vb b B) : Vb (a - b) (A + B) := by
  unfold Vb at *
  omega
theorem Vb.mul {a b : Int} {A B : Nat} (h1 : Vb a A) (h2 : Vb b B) : Vb (a * b) (A * B) := by
  unfold Vb at *
  rw [Int.natAbs_mul]
  exact Nat.mul_le_mul h1 h2
def PLc (p q s : Int) : Prop := p.natAbs ≤ 20 ∧ q.natAbs ≤ 20 ∧ 1 ≤ s ∧ s ≤ 9
theorem Vb_m3 {X Y W : Nat → Int} {M : Nat} (h : ∀ i, (X i).natAbs ≤ M ∧ (Y i).natAbs ≤ M ∧ (W i).natAbs ≤ M) {p q s : Int} (hp : PLc p q s) (i j : Nat) : Vb (m3 X Y W p q s i j) (98 * (M * M)) := by
  obtain ⟨x1, y1, w1⟩ := h i
  obtain ⟨x2, y2, w2⟩ := h j
  have X1 : Vb (X i) M := x1
  have X2 : Vb (X j) M := x2
  have Y1 : Vb (Y i) M := y1
  have Y2 : Vb (Y j) M := y2
  have W1 : Vb (W i) M := w1
  have W2 : Vb (W j) M := w2
  have P : Vb p 20 := hp.1
  have Q : Vb q 20 := hp.2.1
  have S : Vb s 9 := by
    unfold Vb
    have := hp.2.2
    omega
  unfold m3
  refine (((P.mul ((Y1.mul W2).sub (Y2.mul W1))).sub (Q.mul ((X1.mul W2).sub (X2.mul W1)))).add (S.mul ((X1.mul Y2).sub (X2.mul Y1)))).le ?_
  generalize M * M = N
  omega
theorem Vb_F2 {X Y W : Nat → Int} {M : Nat} (h : ∀ i, (X i).natAbs ≤ M ∧ (Y i).natAbs ≤ M ∧ (W i).natAbs ≤ M) (hM : M ≤ 105) {p q s : Int} (hp : PLc p q s) : Vb (F2 X Y W p q s) 9000000000000000000 := by
  have m := fun i j => (Vb_m3 h hp i j).le (show 98 * (M * M) ≤ 1080450 by have := Nat.mul_le_mul hM hM; omega)
  exact (((m 0 1).mul (m 1 2)).sub ((m 0 2).mul (m 0 2))).le (by decide)
theorem Vb_F3 {X Y W : Nat → Int} {M : Nat} (h : ∀ i, (X i).natAbs ≤ M ∧ (Y i).natAbs ≤ M ∧ (W i).natAbs ≤ M) (hM : M ≤ 56) {p q s : Int} (hp : PLc p q s) : Vb (F3 X Y W p q s) 9000000000000000000 := by
  have m := fun i j => (Vb_m3 h hp i j).le (show 98 * (M * M) ≤ 307328 by have := Nat.mul_le_mul hM hM; omega)
  have d := (m 0 3).add (m 1 2)
  exact ((((m 0 1).mul ((d.mul (m 2 3)).sub ((m 1 3).mul (m 1 3)))).sub ((m 0 2).mul (((m 0 2).mul (m 2 3)).sub ((m 1 3).mul (m 0 3))))).add ((m 0 3).mul (((m 0 2).mul (m 1 3)).sub (d.mul (m 0 3))))).le (by decide)
theorem Vb_FF {X Y W : Nat → Int} (h : ∀ i, (X i).natAbs ≤ 7 ∧ (Y i).natAbs ≤ 7 ∧ (W i).natAbs ≤ 7) {p q s : Int} (hp : PLc p q s) : Vb (FF X Y W p q s) 9000000000000000000 := by
  have m := fun i j => (Vb_m3 h hp i j).le (show 98 * (7 * 7) ≤ 4802 by decide)
  have a := m 0 1
  have b := m 0 2
  have c := m 0 3
  have d := m 0 4
  have e := (m 0 3).add (m 1 2)
  have f := (m 0 4).add (m 1 3)
  have g := m 1 4
  have h := (m 1 4).add (m 2 3)
  have i := m 2 4
  have j := m 3 4
  have k := ((((((((a.mul e).sub (b.mul b)).mul ((h.mul j).sub (i.mul i))).sub (((a.mul f).sub (c.mul b)).mul ((f.mul j).sub (i.mul g)))).add (((a.mul g).sub (d.mul b)).mul ((f.mul i).sub (h.mul g)))).add (((b.mul f).sub (c.mul e)).mul ((c.mul j).sub (i.mul d)))).sub (((b.mul g).sub (d.mul e)).mul ((c.mul i).sub (h.mul d)))).add (((c.mul g).sub (d.mul f)).mul ((c.mul g).sub (f.mul d)))).le (show _ ≤ 9000000000000000000 by decide)
  unfold FF
  rw [dS_lap]
  exact k
theorem qg_h6w {f : Nat → Int} (h : SUi f 4) (x y w : Int) : hom6 (fun a b => f (7 * a + b)) x y w = w * w * qg (c15 f) x y w := by
  have z : ∀ a b, a < 7 → b < 7 → 4 < a + b → f (7 * a + b) = 0 := h
  unfold hom6 qg c15
  simp only [ix15, Nat.reduceMul, Nat.reduceAdd]
  rw [show f 42 = 0 from z 6 0 (by decide) (by decide) (by decide), show f 36 = 0 from z 5 1 (by decide) (by decide) (by decide), show f 35 = 0 from z 5 0 (by decide) (by decide) (by decide), show f 30 = 0 from z 4 2 (by decide) (by decide) (by decide), show f 29 = 0 from z 4 1 (by decide) (by decide) (by decide), show f 24 = 0 from z 3 3 (by decide) (by decide) (by decide), show f 23 = 0 from z 3 2 (by decide) (by decide) (by decide), show f 18 = 0 from z 2 4 (by decide) (by decide) (by decide), show f 17 = 0 from z 2 3 (by decide) (by decide) (by decide), show f 12 = 0 from z 1 5 (by decide) (by decide) (by decide), show f 11 = 0 from z 1 4 (by decide) (by decide) (by decide), show f 6 = 0 from z 0 6 (by decide) (by decide) (by decide), show f 5 = 0 from z 0 5 (by decide) (by decide) (by decide)]
  clear z h
  grind
