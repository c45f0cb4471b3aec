/-! the pair under way: it generates the same, is safe, and its rows are the numbers themselves -/
theorem SFo_dg {A B : Nat → Int} (h : SFo A B) : ∃ a b, dgp A a ∧ dgp B b ∧ 1 ≤ b ∧ b ≤ a := by
  rcases h with ⟨n, a, α, b, β, da, db, h1, h2, -⟩ | ⟨da, db, -, -⟩ | ⟨f, g, -, -, -, -, -, -, h⟩
  · exact ⟨a, b, da, db, h1, h2⟩
  · exact ⟨5, 5, da, db, by omega, by omega⟩
  · rcases h with ⟨da, db, -⟩ | ⟨da, db, -⟩ | ⟨da, db, -⟩ | ⟨da, db, -⟩ | ⟨da, db, -⟩ | ⟨da, db, -⟩
    · exact ⟨_, _, da, db, by omega, by omega⟩
    · exact ⟨_, _, da, db, by omega, by omega⟩
    · exact ⟨_, _, da, db, by omega, by omega⟩
    · exact ⟨_, _, da, db, by omega, by omega⟩
    · exact ⟨_, _, da, db, by omega, by omega⟩
    · exact ⟨_, _, da, db, by omega, by omega⟩
theorem dgp_z {A : Nat → Int} {a : Nat} (h : dgp A a) (z : ∀ i, A i = 0) : a = 0 := dgp_uq h ⟨fun i _ => z i, fun q => absurd q (Nat.lt_irrefl 0)⟩
theorem SF.ord {A B : Nat → Int} {a b : Nat} (h : SF A B) (da : dgp A a) (db : dgp B b) (h1 : 1 ≤ b) (h2 : b ≤ a) : SFo A B := by
  rcases h with z | z | h | ⟨a1, b1, d1, d2, hlt, -⟩
  · have := dgp_z da z; omega
  · have := dgp_z db z; omega
  · exact h
  · have e1 := dgp_uq d1 da
    have e2 := dgp_uq d2 db
    omega
theorem SF.swp {A B : Nat → Int} {a b : Nat} (h : SF A B) (da : dgp A a) (db : dgp B b) (hlt : a < b) : SF B A := by
  rcases h with z | z | h | ⟨a1, b1, d1, d2, -, h⟩
  · exact Or.inr (Or.inl z)
  · exact Or.inl z
  · obtain ⟨a1, b1, d1, d2, h1, h2⟩ := SFo_dg h
    have e1 := dgp_uq d1 da
    have e2 := dgp_uq d2 db
    omega
  · exact Or.inr (Or.inr (Or.inl h))
def IV (X Y f g : Nat → Int64) : Prop := EQ2 (ti X) (ti Y) (ti f) (ti g) ∧ SF (ti f) (ti g) ∧ bd f ∧ bd g
theorem IV.swp {X Y f g : Nat → Int64} {a b : Nat} (h : IV X Y f g) (da : dgp (ti f) a) (db : dgp (ti g) b) (hlt : a < b) : IV X Y g f := ⟨h.1.sw, h.2.1.swp da db hlt, h.2.2.2, h.2.2.1⟩
theorem ti_zL (f : Nat → Int64) {i : Nat} (hi : i < 5) : f i = zL (ti f i) := by
  rw [ti_lo f hi]
  exact zL_of _
def RP (f : Nat → Int64) : Prop := bx 7 (ti f) ∨ Nm (ti f)
theorem stepX {X Y f g f1 f2 : Nat → Int64} {a b : Nat} {c sf ot : Int} (h : IV X Y f g) (da : dgp (ti f) a) (db : dgp (ti g) b) (h1 : 1 ≤ b) (h2 : b ≤ a) (hc : c ≠ 0) (e1 : c * sf = ti g (b - 1)) (e2 : c * ot = ti f (a - 1)) (hf : ∀ i, i < 5 → f1 i = zL (sf * ti f i - ot * shN (a - b) (ti g) i)) (hn : NPm f1 f2) : IV X Y f2 g ∧ Nm (ti f2) ∧ ∃ a1, dgp (ti f2) a1 ∧ a1 < a := by
  obtain ⟨hE, hS, bf, bg⟩ := h
  have hs := step (hS.ord da db h1 h2) da db hc e1 e2 (R := fun i => sf * ti f i - ot * shN (a - b) (ti g) i) (fun _ => rfl)
  have ht := low_top da db h1 h2 hc e1 e2 (R := fun i => sf * ti f i - ot * shN (a - b) (ti g) i) (fun _ => rfl)
  have ha5 : a ≤ 5 := dgp_le da (ti_hi f)
  obtain ⟨n1, n2, n3⟩ := norm hf (fun i hi => ht i (by omega)) hs.1 hs.2.1 hn
  have hz : ∀ i, a - 1 ≤ i → ti f2 i = 0 := fun i hi => by
    rcases n1 with ⟨-, z⟩ | ⟨-, hk⟩
    · exact z i
    · exact nz_hi ht hk i hi
  have sf0 : sf ≠ 0 := fun q => by
    rw [q, Int.mul_zero] at e1
    exact db.2 (by omega) e1.symm
  obtain ⟨a1, ha1, d1⟩ := dgp_ex (a - 1) hz
  have hnm : Nm (ti f2) := by
    rcases n1 with ⟨-, z⟩ | ⟨pr, hk⟩
    · exact Or.inl z
    · by_cases q : a1 = 0
      · subst q; exact Or.inl (dgp_0 d1)
      · obtain ⟨d, rfl⟩ : ∃ d, a1 = d + 1 := ⟨a1 - 1, by omega⟩
        exact Or.inr ⟨d, dgp_tp d1, n3 d d1, pr⟩
  refine ⟨⟨hE.tr ?_, hs.2.2 _ n1, n2, bg⟩, hnm, a1, d1, by omega⟩
  rcases n1 with ⟨z1, z2⟩ | ⟨-, k, hk0, hk⟩
  · exact EQ2.low (m := 1) (sf := sf) (ot := ot) (k := a - b) (by decide) sf0 (fun i => by rw [z2 i, Int.mul_zero]; exact (z1 i).symm)
  · exact EQ2.low (m := k) (sf := sf) (ot := ot) (k := a - b) hk0 sf0 (fun i => (hk i).symm)
/-- a row taken as it is, freed of its numbers' common divisor -/
theorem normX {P Q G : Nat → Int} {f f2 : Nat → Int64} (h : EQ2 P Q (ti f) G) (bf : bd f) (hn : NPm f f2) : EQ2 P Q (ti f2) G ∧ Nm (ti f2) ∧ bd f2 ∧ ∀ B, bx B (ti f) → bx B (ti f2) := by
  have hb : ∀ i, (ti f i).natAbs < 9223372036854775808 := fun i => by
    by_cases q : i < 5
    · have h1 := bf i q
      have h2 := Int64.le_toInt (f i)
      have h3 := Int64.toInt_lt (f i)
      rw [ti_lo f q]
      omega
    · rw [ti_hi f i (by omega)]; decide
  obtain ⟨n1, n2, n3⟩ := norm (R := ti f) (fun i hi => ti_zL f hi) (ti_hi f) (fun i => Nat.lt_trans (hb i) (by decide)) (fun _ => hb) hn
  refine ⟨h.tr ?_, ?_, n2, fun B hB => ?_⟩
  · rcases n1 with ⟨z1, z2⟩ | ⟨-, k, hk0, hk⟩
    · exact EQ2.sc (m := 1) (n := 1) (by decide) (by decide) (fun i => by rw [z1 i, z2 i])
    · exact EQ2.sc (m := k) (n := 1) hk0 (by decide) (fun i => by rw [Int.one_mul]; exact (hk i).symm)
  · rcases n1 with ⟨-, z2⟩ | ⟨pr, -⟩
    · exact Or.inl z2
    · obtain ⟨a1, -, d1⟩ := dgp_ex 5 (ti_hi f2)
      by_cases q : a1 = 0
      · subst q; exact Or.inl (dgp_0 d1)
      · obtain ⟨d, rfl⟩ : ∃ d, a1 = d + 1 := ⟨a1 - 1, by omega⟩
        exact Or.inr ⟨d, dgp_tp d1, n3 d d1, pr⟩
  · rcases n1 with ⟨-, z2⟩ | ⟨-, k, hk0, hk⟩
    · exact fun i => by rw [z2 i]; exact Nat.zero_le _
    · exact bx_mul hk0 hk hB
/-! the end, and that it is one -/
theorem RP.ini {X Y f W : Nat → Int64} (hX : bx 7 (ti X)) (hY : bx 7 (ti Y)) (h : EQ2 (ti X) (ti Y) (ti f) p0) (hf : RP f) (hW : bx 7 (ti W)) : SF (ti f) (ti W) := by
  obtain ⟨a, ha, da⟩ := dgp_ex 5 (ti_hi f)
  refine SF.init (fun i hi => ti_hi f i hi) (fun i hi => ti_hi W i hi) da ?_ hW
  have up : ∀ B, B ≤ 7 → bx B (ti f) → bx (if a = 3 then 105 else 7) (ti f) := fun B hB hb i => by
    have := hb i
    split <;> omega
  rcases hf with h7 | z | ⟨d, td, -, pr⟩
  · exact up 7 (Nat.le_refl 7) h7
  · exact up 0 (by decide) (fun i => by rw [z i]; decide)
  · have hd : a = d + 1 := dgp_uq da ⟨fun i hi => td.2 i hi, fun _ => td.1⟩
    obtain ⟨c, hc⟩ := quo pr h.2.2.1
    obtain ⟨e, he⟩ := quo pr h.2.2.2
    -- one of the two isn't 0
    have hne : (¬ ∀ i, ti X i = 0) ∨ ¬ ∀ i, ti Y i = 0 := by
      by_cases q : ∀ i, ti X i = 0
      · exact Or.inr fun q2 => td.1 (rs_zero q q2 h.1 d)
      · exact Or.inl q
    have sX : ∀ i, 4 < i → ti X i = 0 := fun i hi => ti_hi X i hi
    have sY : ∀ i, 4 < i → ti Y i = 0 := fun i hi => ti_hi Y i hi
    rcases (show d = 0 ∨ d = 1 ∨ d = 2 ∨ d = 3 ∨ d = 4 by omega) with rfl | rfl | rfl | rfl | rfl
    · exact up 1 (by decide) (gb0 pr td)
    · rcases hne with q | q
      · exact up 7 (Nat.le_refl 7) (gb1 hX td hc q)
      · exact up 7 (Nat.le_refl 7) (gb1 hY td he q)
    · rw [if_pos hd]
      rcases hne with q | q
      · exact gb2 hX sX td hc q
      · exact gb2 hY sY td he q
    · exact up 7 (Nat.le_refl 7) (gb3 pr hX hY sX sY td h)
    · rcases hne with q | q
      · exact up 7 (Nat.le_refl 7) (gb4 hX sX td hc q)
      · exact up 7 (Nat.le_refl 7) (gb4 hY sY td he q)
def GG (X Y W g : Nat → Int64) : Prop := ∃ g1 : Nat → Int, EQ2 (ti X) (ti Y) g1 p0 ∧ EQ2 g1 (ti W) (ti g) p0 ∧ Nm (ti g)
theorem rs_in0 {S : (Nat → Int) → Prop} (c : Cl S) {a : Nat → Int} (h : S a) : S p0 := by
  have := c.2.1 0 a h
  rw [show (fun i => 0 * a i) = p0 from funext fun i => Int.zero_mul _] at this
  exact this
theorem EQ2.fst {g g1 W : Nat → Int} (h : EQ2 g p0 g1 p0) : EQ2 g W g1 W := ⟨fun S c x y => h.1 S c x (rs_in0 c x), fun S c x y => y, fun S c x y => h.2.2.1 S c x (rs_in0 c x), fun S c x y => y⟩
theorem GG.uq {X Y W g h : Nat → Int64} (h1 : GG X Y W g) (h2 : GG X Y W h) : ∀ i, i < 5 → g i = h i := by
  obtain ⟨a, ha, hg, ng⟩ := h1
  obtain ⟨b, hb, hh, nh⟩ := h2
  have hab : EQ2 a p0 b p0 := ha.sm.tr hb
  have hgh : EQ2 (ti g) p0 (ti h) p0 := hg.sm.tr ((EQ2.fst (W := ti W) hab).tr hh)
  have hu := uniq hgh ng nh
  intro i hi
  have := hu i
  rw [ti_lo g hi, ti_lo h hi] at this
  exact Int64.toInt_inj.mp this
