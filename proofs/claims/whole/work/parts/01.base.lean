section
theorem outer_eq (cA : ClassId) (h0 : Nat) : Jvm.Free.Multi.outerC cA 3 h0 3 = arrV cA 3 (fun j => va_rf (some (h0 + 1 + j))) := by
  obtain ⟨o1, o2, o3⟩ := Jvm.Free.Multi.outerC_facts cA 3 h0 3
  have hs : (Jvm.Free.Multi.outerC cA 3 h0 3).slots = (arrV cA 3 (fun j => va_rf (some (h0 + 1 + j)))).slots := by
    apply Array.ext_getElem?
    intro j
    by_cases hj : j < 3
    · rw [Jvm.Free.Multi.outerC_slot cA 3 h0 3 j hj, arrV_read _ _ hj, if_pos hj]
      rfl
    · rw [Array.getElem?_eq_none (by omega), Array.getElem?_eq_none (by rw [arrV_size]; omega)]
  have h1 : ∀ x y : Cell, x.cls = y.cls → x.vm = y.vm → x.slots = y.slots → x.monitor = y.monitor → x.hash = y.hash → x = y := by
    intro x y h1 h2 h3 h4 h5
    cases x
    cases y
    simp only at h1 h2 h3 h4 h5
    subst h1; subst h2; subst h3; subst h4; subst h5
    rfl
  exact h1 _ _ o1 o2 hs rfl rfl
end
section
-- ===== PART A: goes FIRST, ahead of the names: the tables' words, and 'selects' of the private methods out of them =====
/-- a private method of a class that the tables say can be made, by its rows of tables_1 -/
def lw_okq (q : MethodName × Nat) : Prop := (q.1.cls ≠ "java/lang/invoke/MethodHandle" ∧ q.1.cls ≠ "java/lang/invoke/VarHandle") ∧ Cond.instantiable q.1.cls q.2 ∈ tables_1 ∧ Cond.privateMethod q.1 ∈ tables_1 ∧ Cond.instanceMethod q.1 ∈ tables_1
theorem lw_p0 : lw_okq (⟨"EliminateLoci", "forget", "()V"⟩, 9) := ⟨⟨by decide +kernel, by decide +kernel⟩, List.mem_of_getElem? (i := 14) (by decide +kernel), List.mem_of_getElem? (i := 181) (by decide +kernel), List.mem_of_getElem? (i := 182) (by decide +kernel)⟩
theorem lw_p1 : lw_okq (⟨"EliminateLoci", "freeRow", "()LEliminateLoci$Row;"⟩, 9) := ⟨⟨by decide +kernel, by decide +kernel⟩, List.mem_of_getElem? (i := 14) (by decide +kernel), List.mem_of_getElem? (i := 201) (by decide +kernel), List.mem_of_getElem? (i := 202) (by decide +kernel)⟩
theorem lw_p2 : lw_okq (⟨"EliminateLoci$Divisor", "shareWithOther", "()V"⟩, 3) := ⟨⟨by decide +kernel, by decide +kernel⟩, List.mem_of_getElem? (i := 38) (by decide +kernel), List.mem_of_getElem? (i := 215) (by decide +kernel), List.mem_of_getElem? (i := 216) (by decide +kernel)⟩
theorem lw_p3 : lw_okq (⟨"EliminateLoci$Divisor", "swap", "()V"⟩, 3) := ⟨⟨by decide +kernel, by decide +kernel⟩, List.mem_of_getElem? (i := 38) (by decide +kernel), List.mem_of_getElem? (i := 222) (by decide +kernel), List.mem_of_getElem? (i := 223) (by decide +kernel)⟩
theorem lw_p4 : lw_okq (⟨"EliminateLoci$Divisor", "lowerShared", "(II)V"⟩, 3) := ⟨⟨by decide +kernel, by decide +kernel⟩, List.mem_of_getElem? (i := 38) (by decide +kernel), List.mem_of_getElem? (i := 226) (by decide +kernel), List.mem_of_getElem? (i := 227) (by decide +kernel)⟩
theorem lw_p5 : lw_okq (⟨"EliminateLoci$Divisor", "makePrimitive", "([J)V"⟩, 3) := ⟨⟨by decide +kernel, by decide +kernel⟩, List.mem_of_getElem? (i := 38) (by decide +kernel), List.mem_of_getElem? (i := 233) (by decide +kernel), List.mem_of_getElem? (i := 234) (by decide +kernel)⟩
theorem lw_p6 : lw_okq (⟨"EliminateLoci$Divisor", "divideByShared", "([J)V"⟩, 3) := ⟨⟨by decide +kernel, by decide +kernel⟩, List.mem_of_getElem? (i := 38) (by decide +kernel), List.mem_of_getElem? (i := 237) (by decide +kernel), List.mem_of_getElem? (i := 238) (by decide +kernel)⟩
theorem lw_p7 : lw_okq (⟨"EliminateLoci", "moveTo", "(II)V"⟩, 9) := ⟨⟨by decide +kernel, by decide +kernel⟩, List.mem_of_getElem? (i := 14) (by decide +kernel), List.mem_of_getElem? (i := 253) (by decide +kernel), List.mem_of_getElem? (i := 254) (by decide +kernel)⟩
theorem lw_p8 : lw_okq (⟨"EliminateLoci", "curveOf", "(I)LEliminateLoci$Curve;"⟩, 9) := ⟨⟨by decide +kernel, by decide +kernel⟩, List.mem_of_getElem? (i := 14) (by decide +kernel), List.mem_of_getElem? (i := 268) (by decide +kernel), List.mem_of_getElem? (i := 269) (by decide +kernel)⟩
theorem lw_p9 : lw_okq (⟨"EliminateLoci$Eliminant", "fillEntry", "(III)V"⟩, 4) := ⟨⟨by decide +kernel, by decide +kernel⟩, List.mem_of_getElem? (i := 54) (by decide +kernel), List.mem_of_getElem? (i := 305) (by decide +kernel), List.mem_of_getElem? (i := 306) (by decide +kernel)⟩
theorem lw_p10 : lw_okq (⟨"EliminateLoci$Eliminant", "fillMinor", "(II)V"⟩, 4) := ⟨⟨by decide +kernel, by decide +kernel⟩, List.mem_of_getElem? (i := 54) (by decide +kernel), List.mem_of_getElem? (i := 326) (by decide +kernel), List.mem_of_getElem? (i := 327) (by decide +kernel)⟩
theorem lw_p11 : lw_okq (⟨"EliminateLoci$RootFinder", "startRoot", "(I)Z"⟩, 4) := ⟨⟨by decide +kernel, by decide +kernel⟩, List.mem_of_getElem? (i := 92) (by decide +kernel), List.mem_of_getElem? (i := 351) (by decide +kernel), List.mem_of_getElem? (i := 352) (by decide +kernel)⟩
theorem lw_p12 : lw_okq (⟨"EliminateLoci$RootFinder", "completeRoot", "(I)Z"⟩, 4) := ⟨⟨by decide +kernel, by decide +kernel⟩, List.mem_of_getElem? (i := 92) (by decide +kernel), List.mem_of_getElem? (i := 365) (by decide +kernel), List.mem_of_getElem? (i := 366) (by decide +kernel)⟩
theorem lw_p13 : lw_okq (⟨"EliminateLoci$RootFinder", "raiseRoot", "(I)V"⟩, 4) := ⟨⟨by decide +kernel, by decide +kernel⟩, List.mem_of_getElem? (i := 92) (by decide +kernel), List.mem_of_getElem? (i := 376) (by decide +kernel), List.mem_of_getElem? (i := 377) (by decide +kernel)⟩
theorem lw_p14 : lw_okq (⟨"EliminateLoci", "slopeByU", "(IIII)J"⟩, 9) := ⟨⟨by decide +kernel, by decide +kernel⟩, List.mem_of_getElem? (i := 14) (by decide +kernel), List.mem_of_getElem? (i := 418) (by decide +kernel), List.mem_of_getElem? (i := 419) (by decide +kernel)⟩
theorem lw_p15 : lw_okq (⟨"EliminateLoci", "slopeByV", "(IIII)J"⟩, 9) := ⟨⟨by decide +kernel, by decide +kernel⟩, List.mem_of_getElem? (i := 14) (by decide +kernel), List.mem_of_getElem? (i := 422) (by decide +kernel), List.mem_of_getElem? (i := 423) (by decide +kernel)⟩
def lw_privs_1 : List (MethodName × Nat) := [(⟨"EliminateLoci", "forget", "()V"⟩, 9), (⟨"EliminateLoci", "freeRow", "()LEliminateLoci$Row;"⟩, 9), (⟨"EliminateLoci$Divisor", "shareWithOther", "()V"⟩, 3), (⟨"EliminateLoci$Divisor", "swap", "()V"⟩, 3), (⟨"EliminateLoci$Divisor", "lowerShared", "(II)V"⟩, 3), (⟨"EliminateLoci$Divisor", "makePrimitive", "([J)V"⟩, 3), (⟨"EliminateLoci$Divisor", "divideByShared", "([J)V"⟩, 3), (⟨"EliminateLoci", "moveTo", "(II)V"⟩, 9), (⟨"EliminateLoci", "curveOf", "(I)LEliminateLoci$Curve;"⟩, 9), (⟨"EliminateLoci$Eliminant", "fillEntry", "(III)V"⟩, 4), (⟨"EliminateLoci$Eliminant", "fillMinor", "(II)V"⟩, 4), (⟨"EliminateLoci$RootFinder", "startRoot", "(I)Z"⟩, 4), (⟨"EliminateLoci$RootFinder", "completeRoot", "(I)Z"⟩, 4), (⟨"EliminateLoci$RootFinder", "raiseRoot", "(I)V"⟩, 4), (⟨"EliminateLoci", "slopeByU", "(IIII)J"⟩, 9), (⟨"EliminateLoci", "slopeByV", "(IIII)J"⟩, 9)]
theorem lw_r1 : ∀ q ∈ lw_privs_1, lw_okq q := List.forall_mem_cons.mpr ⟨lw_p0, List.forall_mem_cons.mpr ⟨lw_p1, List.forall_mem_cons.mpr ⟨lw_p2, List.forall_mem_cons.mpr ⟨lw_p3, List.forall_mem_cons.mpr ⟨lw_p4, List.forall_mem_cons.mpr ⟨lw_p5, List.forall_mem_cons.mpr ⟨lw_p6, List.forall_mem_cons.mpr ⟨lw_p7, List.forall_mem_cons.mpr ⟨lw_p8, List.forall_mem_cons.mpr ⟨lw_p9, List.forall_mem_cons.mpr ⟨lw_p10, List.forall_mem_cons.mpr ⟨lw_p11, List.forall_mem_cons.mpr ⟨lw_p12, List.forall_mem_cons.mpr ⟨lw_p13, List.forall_mem_cons.mpr ⟨lw_p14, List.forall_mem_cons.mpr ⟨lw_p15, fun _ h => absurd h List.not_mem_nil⟩⟩⟩⟩⟩⟩⟩⟩⟩⟩⟩⟩⟩⟩⟩⟩
theorem lw_p16 : lw_okq (⟨"EliminateLociModel", "work", "()V"⟩, 17) := ⟨⟨by decide +kernel, by decide +kernel⟩, List.mem_of_getElem? (i := 426) (by decide +kernel), List.mem_of_getElem? (i := 498) (by decide +kernel), List.mem_of_getElem? (i := 499) (by decide +kernel)⟩
theorem lw_p17 : lw_okq (⟨"EliminateLociModel", "divisor", "()V"⟩, 17) := ⟨⟨by decide +kernel, by decide +kernel⟩, List.mem_of_getElem? (i := 426) (by decide +kernel), List.mem_of_getElem? (i := 502) (by decide +kernel), List.mem_of_getElem? (i := 503) (by decide +kernel)⟩
theorem lw_p18 : lw_okq (⟨"EliminateLociModel", "locus", "()V"⟩, 17) := ⟨⟨by decide +kernel, by decide +kernel⟩, List.mem_of_getElem? (i := 426) (by decide +kernel), List.mem_of_getElem? (i := 515) (by decide +kernel), List.mem_of_getElem? (i := 516) (by decide +kernel)⟩
theorem lw_p19 : lw_okq (⟨"EliminateLociModel", "emptied", "()V"⟩, 17) := ⟨⟨by decide +kernel, by decide +kernel⟩, List.mem_of_getElem? (i := 426) (by decide +kernel), List.mem_of_getElem? (i := 519) (by decide +kernel), List.mem_of_getElem? (i := 520) (by decide +kernel)⟩
theorem lw_p20 : lw_okq (⟨"EliminateLociModel", "entry", "(IIJJJ)V"⟩, 17) := ⟨⟨by decide +kernel, by decide +kernel⟩, List.mem_of_getElem? (i := 426) (by decide +kernel), List.mem_of_getElem? (i := 523) (by decide +kernel), List.mem_of_getElem? (i := 524) (by decide +kernel)⟩
theorem lw_p21 : lw_okq (⟨"EliminateLociModel", "minorsOf", "(I)V"⟩, 17) := ⟨⟨by decide +kernel, by decide +kernel⟩, List.mem_of_getElem? (i := 426) (by decide +kernel), List.mem_of_getElem? (i := 527) (by decide +kernel), List.mem_of_getElem? (i := 528) (by decide +kernel)⟩
theorem lw_p22 : lw_okq (⟨"EliminateLociModel", "tell", "(II)V"⟩, 17) := ⟨⟨by decide +kernel, by decide +kernel⟩, List.mem_of_getElem? (i := 426) (by decide +kernel), List.mem_of_getElem? (i := 534) (by decide +kernel), List.mem_of_getElem? (i := 535) (by decide +kernel)⟩
theorem lw_p23 : lw_okq (⟨"EliminateLociModel", "isPower", "(II)Z"⟩, 17) := ⟨⟨by decide +kernel, by decide +kernel⟩, List.mem_of_getElem? (i := 426) (by decide +kernel), List.mem_of_getElem? (i := 544) (by decide +kernel), List.mem_of_getElem? (i := 545) (by decide +kernel)⟩
theorem lw_p24 : lw_okq (⟨"EliminateLociModel", "raise", "(I)V"⟩, 17) := ⟨⟨by decide +kernel, by decide +kernel⟩, List.mem_of_getElem? (i := 426) (by decide +kernel), List.mem_of_getElem? (i := 556) (by decide +kernel), List.mem_of_getElem? (i := 557) (by decide +kernel)⟩
theorem lw_p25 : lw_okq (⟨"EliminateLociModel", "envelope", "()V"⟩, 17) := ⟨⟨by decide +kernel, by decide +kernel⟩, List.mem_of_getElem? (i := 426) (by decide +kernel), List.mem_of_getElem? (i := 560) (by decide +kernel), List.mem_of_getElem? (i := 561) (by decide +kernel)⟩
theorem lw_p26 : lw_okq (⟨"EliminateLociModel", "valueOf", "(III)J"⟩, 17) := ⟨⟨by decide +kernel, by decide +kernel⟩, List.mem_of_getElem? (i := 426) (by decide +kernel), List.mem_of_getElem? (i := 576) (by decide +kernel), List.mem_of_getElem? (i := 577) (by decide +kernel)⟩
theorem lw_p27 : lw_okq (⟨"EliminateLociModel", "isOn", "(IJJJ)I"⟩, 17) := ⟨⟨by decide +kernel, by decide +kernel⟩, List.mem_of_getElem? (i := 426) (by decide +kernel), List.mem_of_getElem? (i := 614) (by decide +kernel), List.mem_of_getElem? (i := 615) (by decide +kernel)⟩
theorem lw_p28 : lw_okq (⟨"EliminateLociModel", "traced", "(IJJJJ)J"⟩, 17) := ⟨⟨by decide +kernel, by decide +kernel⟩, List.mem_of_getElem? (i := 426) (by decide +kernel), List.mem_of_getElem? (i := 619) (by decide +kernel), List.mem_of_getElem? (i := 620) (by decide +kernel)⟩
theorem lw_p29 : lw_okq (⟨"EliminateLociModel", "slope", "(IIII)J"⟩, 17) := ⟨⟨by decide +kernel, by decide +kernel⟩, List.mem_of_getElem? (i := 426) (by decide +kernel), List.mem_of_getElem? (i := 631) (by decide +kernel), List.mem_of_getElem? (i := 632) (by decide +kernel)⟩
def lw_privs_2 : List (MethodName × Nat) := [(⟨"EliminateLociModel", "work", "()V"⟩, 17), (⟨"EliminateLociModel", "divisor", "()V"⟩, 17), (⟨"EliminateLociModel", "locus", "()V"⟩, 17), (⟨"EliminateLociModel", "emptied", "()V"⟩, 17), (⟨"EliminateLociModel", "entry", "(IIJJJ)V"⟩, 17), (⟨"EliminateLociModel", "minorsOf", "(I)V"⟩, 17), (⟨"EliminateLociModel", "tell", "(II)V"⟩, 17), (⟨"EliminateLociModel", "isPower", "(II)Z"⟩, 17), (⟨"EliminateLociModel", "raise", "(I)V"⟩, 17), (⟨"EliminateLociModel", "envelope", "()V"⟩, 17), (⟨"EliminateLociModel", "valueOf", "(III)J"⟩, 17), (⟨"EliminateLociModel", "isOn", "(IJJJ)I"⟩, 17), (⟨"EliminateLociModel", "traced", "(IJJJJ)J"⟩, 17), (⟨"EliminateLociModel", "slope", "(IIII)J"⟩, 17)]
theorem lw_r2 : ∀ q ∈ lw_privs_2, lw_okq q := List.forall_mem_cons.mpr ⟨lw_p16, List.forall_mem_cons.mpr ⟨lw_p17, List.forall_mem_cons.mpr ⟨lw_p18, List.forall_mem_cons.mpr ⟨lw_p19, List.forall_mem_cons.mpr ⟨lw_p20, List.forall_mem_cons.mpr ⟨lw_p21, List.forall_mem_cons.mpr ⟨lw_p22, List.forall_mem_cons.mpr ⟨lw_p23, List.forall_mem_cons.mpr ⟨lw_p24, List.forall_mem_cons.mpr ⟨lw_p25, List.forall_mem_cons.mpr ⟨lw_p26, List.forall_mem_cons.mpr ⟨lw_p27, List.forall_mem_cons.mpr ⟨lw_p28, List.forall_mem_cons.mpr ⟨lw_p29, fun _ h => absurd h List.not_mem_nil⟩⟩⟩⟩⟩⟩⟩⟩⟩⟩⟩⟩⟩⟩
def lw_privs : List (MethodName × Nat) := lw_privs_1 ++ (lw_privs_2)
def lw_tbl : List Cond := k2_sels lw_privs ++ tables_1
theorem lw_privs_ok : ∀ q ∈ lw_privs, lw_okq q := by
  show ∀ q ∈ lw_privs_1 ++ (lw_privs_2), lw_okq q
  exact List.forall_mem_append.mpr ⟨lw_r1, lw_r2⟩

def RX0 : String := "EliminateLoci$Curve"
def TX0 : u_T := fun k => match k with
  | 0 => ("EliminateLoci$Curve", "root", "LEliminateLoci$Plane;", true)
  | 1 => ("EliminateLoci$Curve", "power", "I", false)
  | 2 => ("EliminateLoci$Curve", "known", "Z", false)
  | _ => ("EliminateLoci$Curve", "found", "Z", false)
def tyX0 : Nat → FieldType := fun k => match k with
  | 0 => .object "EliminateLoci$Plane"
  | 1 => .int
  | 2 => .boolean
  | _ => .boolean
theorem nmX0 : ∀ a, a < 4 → ∀ b, b < 4 → a ≠ b → (TX0 a).2.1 ≠ (TX0 b).2.1 := by decide +kernel
theorem tyX0_ok : ∀ k, k < 4 → parseFieldDescriptor (TX0 k).2.2.1 = some (tyX0 k) := by decide +kernel
abbrev cX0_init : ByteArray := prog_2_method_1_code
def yX0_init : MethodName := ⟨RX0, "<init>", "()V"⟩
def RX1 : String := "EliminateLoci$Divisor"
def TX1 : u_T := fun k => match k with
  | 0 => ("EliminateLoci$Divisor", "shared", "[J", true)
  | 1 => ("EliminateLoci$Divisor", "other", "[J", true)
  | _ => ("EliminateLoci$Divisor", "spare", "[J", true)
def tyX1 : Nat → FieldType := fun k => match k with
  | 0 => .array .long
  | 1 => .array .long
  | _ => .array .long
theorem nmX1 : ∀ a, a < 3 → ∀ b, b < 3 → a ≠ b → (TX1 a).2.1 ≠ (TX1 b).2.1 := by decide +kernel
theorem tyX1_ok : ∀ k, k < 3 → parseFieldDescriptor (TX1 k).2.2.1 = some (tyX1 k) := by decide +kernel
abbrev cX1_init : ByteArray := prog_3_method_1_code
def yX1_init : MethodName := ⟨RX1, "<init>", "()V"⟩
abbrev cX1_free : ByteArray := prog_3_method_2_code
def yX1_free : MethodName := ⟨RX1, "free", "(LEliminateLoci$Row;LEliminateLoci$Row;)V"⟩
abbrev cX1_shareWithOther : ByteArray := prog_3_method_3_code
def yX1_shareWithOther : MethodName := ⟨RX1, "shareWithOther", "()V"⟩
abbrev cX1_swap : ByteArray := prog_3_method_4_code
def yX1_swap : MethodName := ⟨RX1, "swap", "()V"⟩
abbrev cX1_lowerShared : ByteArray := prog_3_method_5_code
def yX1_lowerShared : MethodName := ⟨RX1, "lowerShared", "(II)V"⟩
abbrev cX1_makePrimitive : ByteArray := prog_3_method_6_code
def yX1_makePrimitive : MethodName := ⟨RX1, "makePrimitive", "([J)V"⟩
abbrev cX1_divideByShared : ByteArray := prog_3_method_7_code
def yX1_divideByShared : MethodName := ⟨RX1, "divideByShared", "([J)V"⟩
def RX2 : String := "EliminateLoci$Eliminant"
def TX2 : u_T := fun k => match k with
  | 0 => ("EliminateLoci$Eliminant", "first", "[LEliminateLoci$Plane;", true)
  | 1 => ("EliminateLoci$Eliminant", "second", "[LEliminateLoci$Plane;", true)
  | 2 => ("EliminateLoci$Eliminant", "entries", "[LEliminateLoci$Plane;", true)
  | _ => ("EliminateLoci$Eliminant", "minors", "[LEliminateLoci$Plane;", true)
def tyX2 : Nat → FieldType := fun k => match k with
  | 0 => .array (.object "EliminateLoci$Plane")
  | 1 => .array (.object "EliminateLoci$Plane")
  | 2 => .array (.object "EliminateLoci$Plane")
  | _ => .array (.object "EliminateLoci$Plane")
theorem nmX2 : ∀ a, a < 4 → ∀ b, b < 4 → a ≠ b → (TX2 a).2.1 ≠ (TX2 b).2.1 := by decide +kernel
theorem tyX2_ok : ∀ k, k < 4 → parseFieldDescriptor (TX2 k).2.2.1 = some (tyX2 k) := by decide +kernel
abbrev cX2_init : ByteArray := prog_4_method_1_code
def yX2_init : MethodName := ⟨RX2, "<init>", "()V"⟩
abbrev cX2_takeMover : ByteArray := prog_4_method_2_code
def yX2_takeMover : MethodName := ⟨RX2, "takeMover", "(LEliminateLoci$Row;)I"⟩
abbrev cX2_takeLines : ByteArray := prog_4_method_3_code
def yX2_takeLines : MethodName := ⟨RX2, "takeLines", "(LEliminateLoci$Row;)I"⟩
abbrev cX2_setScaledLine : ByteArray := prog_4_method_4_code
def yX2_setScaledLine : MethodName := ⟨RX2, "setScaledLine", "(LEliminateLoci$Plane;LEliminateLoci$Row;IJ)V"⟩
abbrev cX2_resultant : ByteArray := prog_4_method_5_code
def yX2_resultant : MethodName := ⟨RX2, "resultant", "(I)LEliminateLoci$Plane;"⟩
abbrev cX2_fillEntry : ByteArray := prog_4_method_6_code
def yX2_fillEntry : MethodName := ⟨RX2, "fillEntry", "(III)V"⟩
abbrev cX2_fillMinor : ByteArray := prog_4_method_7_code
def yX2_fillMinor : MethodName := ⟨RX2, "fillMinor", "(II)V"⟩
def RX3 : String := "EliminateLoci$Plane"
def TX3 : u_T := fun k => match k with
  | 0 => ("EliminateLoci$Plane", "cells", "[J", true)
  | _ => ("EliminateLoci$Plane", "bound", "I", false)
def tyX3 : Nat → FieldType := fun k => match k with
  | 0 => .array .long
  | _ => .int
theorem nmX3 : ∀ a, a < 2 → ∀ b, b < 2 → a ≠ b → (TX3 a).2.1 ≠ (TX3 b).2.1 := by decide +kernel
theorem tyX3_ok : ∀ k, k < 2 → parseFieldDescriptor (TX3 k).2.2.1 = some (tyX3 k) := by decide +kernel
abbrev cX3_init : ByteArray := prog_5_method_1_code
def yX3_init : MethodName := ⟨RX3, "<init>", "()V"⟩
abbrev cX3_erase : ByteArray := prog_5_method_2_code
def yX3_erase : MethodName := ⟨RX3, "erase", "()V"⟩
abbrev cX3_setLine : ByteArray := prog_5_method_3_code
def yX3_setLine : MethodName := ⟨RX3, "setLine", "(JJJ)V"⟩
abbrev cX3_copy : ByteArray := prog_5_method_4_code
def yX3_copy : MethodName := ⟨RX3, "copy", "(LEliminateLoci$Plane;)V"⟩
abbrev cX3_addProduct : ByteArray := prog_5_method_5_code
def yX3_addProduct : MethodName := ⟨RX3, "addProduct", "(LEliminateLoci$Plane;LEliminateLoci$Plane;J)V"⟩
abbrev cX3_tighten : ByteArray := prog_5_method_6_code
def yX3_tighten : MethodName := ⟨RX3, "tighten", "()V"⟩
abbrev cX3_firstOfBound : ByteArray := prog_5_method_7_code
def yX3_firstOfBound : MethodName := ⟨RX3, "firstOfBound", "()I"⟩
abbrev cX3_makePrimitive : ByteArray := prog_5_method_8_code
def yX3_makePrimitive : MethodName := ⟨RX3, "makePrimitive", "()V"⟩
abbrev cX3_sumOfSizes : ByteArray := prog_5_method_9_code
def yX3_sumOfSizes : MethodName := ⟨RX3, "sumOfSizes", "()J"⟩
abbrev cX3_isSame : ByteArray := prog_5_method_10_code
def yX3_isSame : MethodName := ⟨RX3, "isSame", "(LEliminateLoci$Plane;)Z"⟩
abbrev cX3_scaledValue : ByteArray := prog_5_method_11_code
def yX3_scaledValue : MethodName := ⟨RX3, "scaledValue", "(JJJ)J"⟩
def RX4 : String := "EliminateLoci$RootFinder"
def TX4 : u_T := fun k => match k with
  | 0 => ("EliminateLoci$RootFinder", "whole", "LEliminateLoci$Plane;", true)
  | 1 => ("EliminateLoci$RootFinder", "root", "LEliminateLoci$Plane;", true)
  | 2 => ("EliminateLoci$RootFinder", "raised", "LEliminateLoci$Plane;", true)
  | _ => ("EliminateLoci$RootFinder", "spare", "LEliminateLoci$Plane;", true)
def tyX4 : Nat → FieldType := fun k => match k with
  | 0 => .object "EliminateLoci$Plane"
  | 1 => .object "EliminateLoci$Plane"
  | 2 => .object "EliminateLoci$Plane"
  | _ => .object "EliminateLoci$Plane"
theorem nmX4 : ∀ a, a < 4 → ∀ b, b < 4 → a ≠ b → (TX4 a).2.1 ≠ (TX4 b).2.1 := by decide +kernel
theorem tyX4_ok : ∀ k, k < 4 → parseFieldDescriptor (TX4 k).2.2.1 = some (tyX4 k) := by decide +kernel
abbrev cX4_init : ByteArray := prog_6_method_1_code
def yX4_init : MethodName := ⟨RX4, "<init>", "()V"⟩
abbrev cX4_findRoot : ByteArray := prog_6_method_2_code
def yX4_findRoot : MethodName := ⟨RX4, "findRoot", "(LEliminateLoci$Plane;LEliminateLoci$Curve;)Z"⟩
abbrev cX4_startRoot : ByteArray := prog_6_method_3_code
def yX4_startRoot : MethodName := ⟨RX4, "startRoot", "(I)Z"⟩
abbrev cX4_completeRoot : ByteArray := prog_6_method_4_code
def yX4_completeRoot : MethodName := ⟨RX4, "completeRoot", "(I)Z"⟩
abbrev cX4_raiseRoot : ByteArray := prog_6_method_5_code
def yX4_raiseRoot : MethodName := ⟨RX4, "raiseRoot", "(I)V"⟩
def RX5 : String := "EliminateLoci$Row"
def TX5 : u_T := fun k => match k with
  | _ => ("EliminateLoci$Row", "parts", "[[J", true)
def tyX5 : Nat → FieldType := fun k => match k with
  | _ => .array (.array .long)
theorem nmX5 : ∀ a, a < 1 → ∀ b, b < 1 → a ≠ b → (TX5 a).2.1 ≠ (TX5 b).2.1 := by decide +kernel
theorem tyX5_ok : ∀ k, k < 1 → parseFieldDescriptor (TX5 k).2.2.1 = some (tyX5 k) := by decide +kernel
abbrev cX5_init : ByteArray := prog_7_method_1_code
def yX5_init : MethodName := ⟨RX5, "<init>", "()V"⟩
abbrev cX5_highestPower : ByteArray := prog_7_method_2_code
def yX5_highestPower : MethodName := ⟨RX5, "highestPower", "()I"⟩
abbrev cX5_isZero : ByteArray := prog_7_method_3_code
def yX5_isZero : MethodName := ⟨RX5, "isZero", "(I)Z"⟩
abbrev cX5_countAndErase : ByteArray := prog_7_method_4_code
def yX5_countAndErase : MethodName := ⟨RX5, "countAndErase", "()I"⟩
abbrev cX5_topOf : ByteArray := prog_7_method_5_code
def yX5_topOf : MethodName := ⟨RX5, "topOf", "([J)I"⟩
def RX6 : String := "EliminateLoci"
def TX6 : u_T := fun k => match k with
  | 0 => ("EliminateLoci", "row", "LEliminateLoci$Row;", true)
  | 1 => ("EliminateLoci", "freedRow", "LEliminateLoci$Row;", true)
  | 2 => ("EliminateLoci", "divisor", "LEliminateLoci$Divisor;", true)
  | 3 => ("EliminateLoci", "eliminant", "LEliminateLoci$Eliminant;", true)
  | 4 => ("EliminateLoci", "finder", "LEliminateLoci$RootFinder;", true)
  | 5 => ("EliminateLoci", "locus", "LEliminateLoci$Curve;", true)
  | 6 => ("EliminateLoci", "envelope", "LEliminateLoci$Curve;", true)
  | 7 => ("EliminateLoci", "spot", "[J", true)
  | _ => ("EliminateLoci", "freedKnown", "Z", false)
def tyX6 : Nat → FieldType := fun k => match k with
  | 0 => .object "EliminateLoci$Row"
  | 1 => .object "EliminateLoci$Row"
  | 2 => .object "EliminateLoci$Divisor"
  | 3 => .object "EliminateLoci$Eliminant"
  | 4 => .object "EliminateLoci$RootFinder"
  | 5 => .object "EliminateLoci$Curve"
  | 6 => .object "EliminateLoci$Curve"
  | 7 => .array .long
  | _ => .boolean
theorem nmX6 : ∀ a, a < 9 → ∀ b, b < 9 → a ≠ b → (TX6 a).2.1 ≠ (TX6 b).2.1 := by decide +kernel
theorem tyX6_ok : ∀ k, k < 9 → parseFieldDescriptor (TX6 k).2.2.1 = some (tyX6 k) := by decide +kernel
abbrev cX6_init : ByteArray := prog_1_method_1_code
def yX6_init : MethodName := ⟨RX6, "<init>", "()V"⟩
abbrev cX6_term : ByteArray := prog_1_method_2_code
def yX6_term : MethodName := ⟨RX6, "term", "(III)I"⟩
abbrev cX6_clear : ByteArray := prog_1_method_3_code
def yX6_clear : MethodName := ⟨RX6, "clear", "()I"⟩
abbrev cX6_degree : ByteArray := prog_1_method_4_code
def yX6_degree : MethodName := ⟨RX6, "degree", "(I)I"⟩
abbrev cX6_freed : ByteArray := prog_1_method_5_code
def yX6_freed : MethodName := ⟨RX6, "freed", "(II)I"⟩
abbrev cX6_value : ByteArray := prog_1_method_6_code
def yX6_value : MethodName := ⟨RX6, "value", "(III)I"⟩
abbrev cX6_trace : ByteArray := prog_1_method_7_code
def yX6_trace : MethodName := ⟨RX6, "trace", "(I)I"⟩
abbrev cX6_times : ByteArray := prog_1_method_8_code
def yX6_times : MethodName := ⟨RX6, "times", "(I)I"⟩
abbrev cX6_coefficient : ByteArray := prog_1_method_9_code
def yX6_coefficient : MethodName := ⟨RX6, "coefficient", "(III)J"⟩
abbrev cX6_side : ByteArray := prog_1_method_10_code
def yX6_side : MethodName := ⟨RX6, "side", "(IIII)I"⟩
abbrev cX6_at : ByteArray := prog_1_method_11_code
def yX6_at : MethodName := ⟨RX6, "at", "(IIIII)I"⟩
abbrev cX6_follows : ByteArray := prog_1_method_12_code
def yX6_follows : MethodName := ⟨RX6, "follows", "(II)I"⟩
abbrev cX6_touches : ByteArray := prog_1_method_13_code
def yX6_touches : MethodName := ⟨RX6, "touches", "(II)I"⟩
abbrev cX6_isPart : ByteArray := prog_1_method_14_code
def yX6_isPart : MethodName := ⟨RX6, "isPart", "(I)Z"⟩
abbrev cX6_isPower : ByteArray := prog_1_method_15_code
def yX6_isPower : MethodName := ⟨RX6, "isPower", "(I)Z"⟩
abbrev cX6_isSort : ByteArray := prog_1_method_16_code
def yX6_isSort : MethodName := ⟨RX6, "isSort", "(I)Z"⟩
abbrev cX6_isWithin : ByteArray := prog_1_method_17_code
def yX6_isWithin : MethodName := ⟨RX6, "isWithin", "(II)Z"⟩
abbrev cX6_isParameter : ByteArray := prog_1_method_18_code
def yX6_isParameter : MethodName := ⟨RX6, "isParameter", "(II)Z"⟩
abbrev cX6_isPlace : ByteArray := prog_1_method_19_code
def yX6_isPlace : MethodName := ⟨RX6, "isPlace", "(III)Z"⟩
abbrev cX6_forget : ByteArray := prog_1_method_20_code
def yX6_forget : MethodName := ⟨RX6, "forget", "()V"⟩
abbrev cX6_freeRow : ByteArray := prog_1_method_21_code
def yX6_freeRow : MethodName := ⟨RX6, "freeRow", "()LEliminateLoci$Row;"⟩
abbrev cX6_curveOf : ByteArray := prog_1_method_22_code
def yX6_curveOf : MethodName := ⟨RX6, "curveOf", "(I)LEliminateLoci$Curve;"⟩
abbrev cX6_moveTo : ByteArray := prog_1_method_23_code
def yX6_moveTo : MethodName := ⟨RX6, "moveTo", "(II)V"⟩
abbrev cX6_slopeByU : ByteArray := prog_1_method_24_code
def yX6_slopeByU : MethodName := ⟨RX6, "slopeByU", "(IIII)J"⟩
abbrev cX6_slopeByV : ByteArray := prog_1_method_25_code
def yX6_slopeByV : MethodName := ⟨RX6, "slopeByV", "(IIII)J"⟩
abbrev cX6_powerOf : ByteArray := prog_1_method_26_code
def yX6_powerOf : MethodName := ⟨RX6, "powerOf", "(JI)J"⟩
abbrev cX6_commonOf : ByteArray := prog_1_method_27_code
def yX6_commonOf : MethodName := ⟨RX6, "commonOf", "(JJ)J"⟩
abbrev cX6_rootOf : ByteArray := prog_1_method_28_code
def yX6_rootOf : MethodName := ⟨RX6, "rootOf", "(JI)J"⟩
abbrev cX6_isPowerWithin : ByteArray := prog_1_method_29_code
def yX6_isPowerWithin : MethodName := ⟨RX6, "isPowerWithin", "(JIJ)Z"⟩
abbrev cX6_slotOf : ByteArray := prog_1_method_30_code
def yX6_slotOf : MethodName := ⟨RX6, "slotOf", "(II)I"⟩
def RX7 : String := "EliminateLociModel"
def TX7 : u_T := fun k => match k with
  | 0 => ("EliminateLociModel", "row", "[I", true)
  | 1 => ("EliminateLociModel", "free", "[J", true)
  | 2 => ("EliminateLociModel", "most", "I", false)
  | 3 => ("EliminateLociModel", "freeMost", "I", false)
  | 4 => ("EliminateLociModel", "known", "Z", false)
  | 5 => ("EliminateLociModel", "has", "[Z", true)
  | 6 => ("EliminateLociModel", "traces", "[J", true)
  | 7 => ("EliminateLociModel", "degrees", "[I", true)
  | 8 => ("EliminateLociModel", "powers", "[I", true)
  | 9 => ("EliminateLociModel", "one", "[J", true)
  | 10 => ("EliminateLociModel", "two", "[J", true)
  | 11 => ("EliminateLociModel", "entries", "[J", true)
  | 12 => ("EliminateLociModel", "minors", "[J", true)
  | 13 => ("EliminateLociModel", "whole", "[J", true)
  | 14 => ("EliminateLociModel", "root", "[J", true)
  | 15 => ("EliminateLociModel", "power", "[J", true)
  | _ => ("EliminateLociModel", "other", "[J", true)
def tyX7 : Nat → FieldType := fun k => match k with
  | 0 => .array .int
  | 1 => .array .long
  | 2 => .int
  | 3 => .int
  | 4 => .boolean
  | 5 => .array .boolean
  | 6 => .array .long
  | 7 => .array .int
  | 8 => .array .int
  | 9 => .array .long
  | 10 => .array .long
  | 11 => .array .long
  | 12 => .array .long
  | 13 => .array .long
  | 14 => .array .long
  | 15 => .array .long
  | _ => .array .long
theorem nmX7 : ∀ a, a < 17 → ∀ b, b < 17 → a ≠ b → (TX7 a).2.1 ≠ (TX7 b).2.1 := by decide +kernel
theorem tyX7_ok : ∀ k, k < 17 → parseFieldDescriptor (TX7 k).2.2.1 = some (tyX7 k) := by decide +kernel
abbrev cX7_init : ByteArray := prog_9_method_1_code
def yX7_init : MethodName := ⟨RX7, "<init>", "()V"⟩
abbrev cX7_term : ByteArray := prog_9_method_2_code
def yX7_term : MethodName := ⟨RX7, "term", "(III)I"⟩
abbrev cX7_clear : ByteArray := prog_9_method_3_code
def yX7_clear : MethodName := ⟨RX7, "clear", "()I"⟩
abbrev cX7_common : ByteArray := prog_9_method_4_code
def yX7_common : MethodName := ⟨RX7, "common", "(JJ)J"⟩
abbrev cX7_degreeOf : ByteArray := prog_9_method_5_code
def yX7_degreeOf : MethodName := ⟨RX7, "degreeOf", "([J)I"⟩
abbrev cX7_reduce : ByteArray := prog_9_method_6_code
def yX7_reduce : MethodName := ⟨RX7, "reduce", "([J)V"⟩
abbrev cX7_divisor : ByteArray := prog_9_method_7_code
def yX7_divisor : MethodName := ⟨RX7, "divisor", "()V"⟩
abbrev cX7_work : ByteArray := prog_9_method_8_code
def yX7_work : MethodName := ⟨RX7, "work", "()V"⟩
abbrev cX7_entry : ByteArray := prog_9_method_9_code
def yX7_entry : MethodName := ⟨RX7, "entry", "(IIJJJ)V"⟩
abbrev cX7_emptied : ByteArray := prog_9_method_10_code
def yX7_emptied : MethodName := ⟨RX7, "emptied", "()V"⟩
abbrev cX7_countOf : ByteArray := prog_9_method_11_code
def yX7_countOf : MethodName := ⟨RX7, "countOf", "(I)I"⟩
abbrev cX7_minorsOf : ByteArray := prog_9_method_12_code
def yX7_minorsOf : MethodName := ⟨RX7, "minorsOf", "(I)V"⟩
abbrev cX7_locus : ByteArray := prog_9_method_13_code
def yX7_locus : MethodName := ⟨RX7, "locus", "()V"⟩
abbrev cX7_envelope : ByteArray := prog_9_method_14_code
def yX7_envelope : MethodName := ⟨RX7, "envelope", "()V"⟩
abbrev cX7_degree2 : ByteArray := prog_9_method_15_code
def yX7_degree2 : MethodName := ⟨RX7, "degree2", "([J)I"⟩
abbrev cX7_firstOf : ByteArray := prog_9_method_16_code
def yX7_firstOf : MethodName := ⟨RX7, "firstOf", "([J)I"⟩
abbrev cX7_tell : ByteArray := prog_9_method_17_code
def yX7_tell : MethodName := ⟨RX7, "tell", "(II)V"⟩
abbrev cX7_rootOf : ByteArray := prog_9_method_18_code
def yX7_rootOf : MethodName := ⟨RX7, "rootOf", "(JI)J"⟩
abbrev cX7_isAbove : ByteArray := prog_9_method_19_code
def yX7_isAbove : MethodName := ⟨RX7, "isAbove", "(JIJ)Z"⟩
abbrev cX7_raise : ByteArray := prog_9_method_20_code
def yX7_raise : MethodName := ⟨RX7, "raise", "(I)V"⟩
abbrev cX7_isPower : ByteArray := prog_9_method_21_code
def yX7_isPower : MethodName := ⟨RX7, "isPower", "(II)Z"⟩
abbrev cX7_degree : ByteArray := prog_9_method_22_code
def yX7_degree : MethodName := ⟨RX7, "degree", "(I)I"⟩
abbrev cX7_freed : ByteArray := prog_9_method_23_code
def yX7_freed : MethodName := ⟨RX7, "freed", "(II)I"⟩
abbrev cX7_isParameter : ByteArray := prog_9_method_24_code
def yX7_isParameter : MethodName := ⟨RX7, "isParameter", "(II)Z"⟩
abbrev cX7_raised : ByteArray := prog_9_method_25_code
def yX7_raised : MethodName := ⟨RX7, "raised", "(JI)J"⟩
abbrev cX7_valueOf : ByteArray := prog_9_method_26_code
def yX7_valueOf : MethodName := ⟨RX7, "valueOf", "(III)J"⟩
abbrev cX7_value : ByteArray := prog_9_method_27_code
def yX7_value : MethodName := ⟨RX7, "value", "(III)I"⟩
abbrev cX7_isSort : ByteArray := prog_9_method_28_code
def yX7_isSort : MethodName := ⟨RX7, "isSort", "(I)Z"⟩
abbrev cX7_trace : ByteArray := prog_9_method_29_code
def yX7_trace : MethodName := ⟨RX7, "trace", "(I)I"⟩
abbrev cX7_times : ByteArray := prog_9_method_30_code
def yX7_times : MethodName := ⟨RX7, "times", "(I)I"⟩
abbrev cX7_coefficient : ByteArray := prog_9_method_31_code
def yX7_coefficient : MethodName := ⟨RX7, "coefficient", "(III)J"⟩
abbrev cX7_isPlace : ByteArray := prog_9_method_32_code
def yX7_isPlace : MethodName := ⟨RX7, "isPlace", "(III)Z"⟩
abbrev cX7_side : ByteArray := prog_9_method_33_code
def yX7_side : MethodName := ⟨RX7, "side", "(IIII)I"⟩
abbrev cX7_at : ByteArray := prog_9_method_34_code
def yX7_at : MethodName := ⟨RX7, "at", "(IIIII)I"⟩
abbrev cX7_rest : ByteArray := prog_9_method_35_code
def yX7_rest : MethodName := ⟨RX7, "rest", "(JJ)J"⟩
abbrev cX7_traced : ByteArray := prog_9_method_36_code
def yX7_traced : MethodName := ⟨RX7, "traced", "(IJJJJ)J"⟩
abbrev cX7_isOn : ByteArray := prog_9_method_37_code
def yX7_isOn : MethodName := ⟨RX7, "isOn", "(IJJJ)I"⟩
abbrev cX7_follows : ByteArray := prog_9_method_38_code
def yX7_follows : MethodName := ⟨RX7, "follows", "(II)I"⟩
abbrev cX7_slope : ByteArray := prog_9_method_39_code
def yX7_slope : MethodName := ⟨RX7, "slope", "(IIII)J"⟩
abbrev cX7_touches : ByteArray := prog_9_method_40_code
def yX7_touches : MethodName := ⟨RX7, "touches", "(II)I"⟩
def RJ6 : String := "java/lang/Integer"
def TJ6 : u_T := fun k => match k with
  | _ => ("", "", "", false)
def tyJ6 : Nat → FieldType := fun k => match k with
  | _ => .int
theorem nmJ6 : ∀ a, a < 0 → ∀ b, b < 0 → a ≠ b → (TJ6 a).2.1 ≠ (TJ6 b).2.1 := by decide +kernel
theorem tyJ6_ok : ∀ k, k < 0 → parseFieldDescriptor (TJ6 k).2.2.1 = some (tyJ6 k) := by decide +kernel
abbrev cJ6_bitCount_0f7a4 : ByteArray := prog_10_method_49_code
def yJ6_bitCount_0f7a4 : MethodName := ⟨RJ6, "bitCount", "(I)I"⟩
def RJ9 : String := "java/lang/Math"
def TJ9 : u_T := fun k => match k with
  | _ => ("", "", "", false)
def tyJ9 : Nat → FieldType := fun k => match k with
  | _ => .int
theorem nmJ9 : ∀ a, a < 0 → ∀ b, b < 0 → a ≠ b → (TJ9 a).2.1 ≠ (TJ9 b).2.1 := by decide +kernel
theorem tyJ9_ok : ∀ k, k < 0 → parseFieldDescriptor (TJ9 k).2.2.1 = some (tyJ9 k) := by decide +kernel
abbrev cJ9_abs_067f4 : ByteArray := prog_11_method_61_code
def yJ9_abs_067f4 : MethodName := ⟨RJ9, "abs", "(J)J"⟩
abbrev cJ9_min_7cf53 : ByteArray := prog_11_method_69_code
def yJ9_min_7cf53 : MethodName := ⟨RJ9, "min", "(II)I"⟩
def RJ10 : String := "java/lang/System"
def TJ10 : u_T := fun k => match k with
  | _ => ("", "", "", false)
def tyJ10 : Nat → FieldType := fun k => match k with
  | _ => .int
theorem nmJ10 : ∀ a, a < 0 → ∀ b, b < 0 → a ≠ b → (TJ10 a).2.1 ≠ (TJ10 b).2.1 := by decide +kernel
theorem tyJ10_ok : ∀ k, k < 0 → parseFieldDescriptor (TJ10 k).2.2.1 = some (tyJ10 k) := by decide +kernel
def RJ7 : String := "java/util/Arrays"
def TJ7 : u_T := fun k => match k with
  | _ => ("", "", "", false)
def tyJ7 : Nat → FieldType := fun k => match k with
  | _ => .int
theorem nmJ7 : ∀ a, a < 0 → ∀ b, b < 0 → a ≠ b → (TJ7 a).2.1 ≠ (TJ7 b).2.1 := by decide +kernel
theorem tyJ7_ok : ∀ k, k < 0 → parseFieldDescriptor (TJ7 k).2.2.1 = some (tyJ7 k) := by decide +kernel
abbrev cJ7_fill_d0a16 : ByteArray := prog_13_method_101_code
def yJ7_fill_d0a16 : MethodName := ⟨RJ7, "fill", "([JJ)V"⟩
abbrev cL_law : ByteArray := code
abbrev vwCl : List vw_C := [(RX0, TX0, 4), (RX1, TX1, 3), (RX2, TX2, 4), (RX3, TX3, 2), (RX4, TX4, 4), (RX5, TX5, 1), (RX6, TX6, 9), (RX7, TX7, 17)]
end
section
/-! the words, once for all methods: every method's own words are its code and the whole table -/
def lw_g : List Cond := lw_tbl.filter goodWord
theorem z_good : GoodIn lw_g lw_g := fun w hw => ⟨hw, good_of_word (List.mem_filter.mp hw).2⟩
theorem z_goodC {y : MethodName} {b : ByteArray} {n : Nat} {r : Option FieldType} (h : Cond.code y b n r ∈ lw_g) : GoodIn lw_g (.code y b n r :: lw_g) := by
  intro w hw
  rcases List.mem_cons.mp hw with rfl | hw
  · exact ⟨h, Or.inl rfl⟩
  · exact z_good w hw
theorem z_mem {k : Nat} {w : Cond} (h : lw_tbl[k]? = some w) (hg : goodWord w = true) : w ∈ lw_g := List.mem_filter.mpr ⟨List.mem_of_getElem? h, hg⟩
theorem z_memD {w : Cond} (h : w ∈ lw_tbl) (hg : goodWord w = true) : w ∈ lw_g := List.mem_filter.mpr ⟨h, hg⟩
/-! ints by their numbers -/
def zI (z : Int) : Int32 := Int32.ofInt z
def zL (z : Int) : Int64 := Int64.ofInt z
theorem zI_ex (x : Int32) : ∃ z : Int, -2147483648 ≤ z ∧ z < 2147483648 ∧ x = zI z := ⟨x.toInt, Int32.le_toInt x, Int32.toInt_lt x, (Int32.ofInt_toInt x).symm⟩
theorem zI_toInt {z : Int} (h1 : -2147483648 ≤ z) (h2 : z < 2147483648) : (zI z).toInt = z := Int32.toInt_ofInt_of_le h1 h2
theorem zI_add (a b : Int) : zI a + zI b = zI (a + b) := (Int32.ofInt_add a b).symm
theorem zI_sub (a b : Int) : zI a - zI b = zI (a - b) := (Int32.ofInt_sub a b).symm
theorem zI_mul (a b : Int) : zI a * zI b = zI (a * b) := (Int32.ofInt_mul a b).symm
theorem zI_neg (a : Int) : -zI a = zI (-a) := (Int32.ofInt_neg a).symm
def zR (z : Int) : Prop := -2147483648 ≤ z ∧ z < 2147483648
theorem zI_lt {a b : Int} (ha : zR a) (hb : zR b) : zI a < zI b ↔ a < b := by
  rw [Int32.lt_iff_toInt_lt, zI_toInt ha.1 ha.2, zI_toInt hb.1 hb.2]
theorem zI_le {a b : Int} (ha : zR a) (hb : zR b) : zI a ≤ zI b ↔ a ≤ b := by
  rw [Int32.le_iff_toInt_le, zI_toInt ha.1 ha.2, zI_toInt hb.1 hb.2]
theorem zI_eq {a b : Int} (ha : zR a) (hb : zR b) : zI a = zI b ↔ a = b := by
  rw [← Int32.toInt_inj, zI_toInt ha.1 ha.2, zI_toInt hb.1 hb.2]
theorem zI_in {z : Int} {n : Nat} (h1 : 0 ≤ z) (h2 : z < n) (hn : n < 2147483648 := by decide) : vp_in (zI z) n := by
  rw [vp_in_iff, zI_toInt (by omega) (by omega)]
  exact ⟨h1, h2⟩
theorem zI_cl {z : Int} (h1 : 0 ≤ z) (h2 : z < 2147483648) : (zI z).toNatClampNeg = z.toNat := by
  show (zI z).toInt.toNat = _
  rw [zI_toInt (by omega) h2]
theorem zI_0 : (0 : Int32) = zI 0 := rfl
theorem zL_i2l {z : Int} (h : zR z) : (zI z).toInt64 = zL z := by
  apply Int64.toInt_inj.mp
  rw [Int32.toInt_toInt64, zI_toInt h.1 h.2]
  exact (Int64.toInt_ofInt_of_le (by have := h.1; omega) (by have := h.2; omega)).symm
theorem lgc_eq (x y : Int64) : lg_cmp x y = 0 ↔ x = y := by
  unfold lg_cmp
  by_cases h : x > y
  · have hne : x ≠ y := fun e => by rw [e] at h; exact absurd h (Int64.lt_irrefl)
    simp [h, hne]
  · by_cases h2 : x = y <;> simp [h, h2]
theorem lgc_lt (x y : Int64) : lg_cmp x y < 0 ↔ x < y := by
  unfold lg_cmp
  by_cases h : x > y
  · rw [if_pos h]
    have h3 : ¬ x < y := by
      rw [gt_iff_lt, Int64.lt_iff_toInt_lt] at h
      rw [Int64.lt_iff_toInt_lt]; omega
    exact ⟨fun q => absurd q (by decide), fun q => absurd q h3⟩
  · rw [if_neg h]
    by_cases h2 : x = y
    · rw [if_pos h2]
      exact ⟨fun q => absurd q (by decide), fun q => by rw [h2] at q; exact absurd q Int64.lt_irrefl⟩
    · rw [if_neg h2]
      refine ⟨fun _ => ?_, fun _ => by decide⟩
      rw [gt_iff_lt, Int64.lt_iff_toInt_lt] at h
      rw [← Int64.toInt_inj] at h2
      rw [Int64.lt_iff_toInt_lt]; omega
/-! private methods and constructors of the nest's other classes -/
def nst : List (String × Nat × MethodName × String) := [(RX6, 9, yX5_init, "EliminateLoci"), (RX6, 21, yX1_init, "EliminateLoci"), (RX2, 26, yX3_init, "EliminateLoci"), (RX6, 35, yX4_init, "EliminateLoci"), (RX4, 9, yX3_init, "EliminateLoci"), (RX6, 42, yX0_init, "EliminateLoci"), (RX0, 9, yX3_init, "EliminateLoci"), (RX1, 60, yX6_commonOf, "EliminateLoci"), (RX3, 28, yX6_slotOf, "EliminateLoci"), (RX3, 45, yX6_commonOf, "EliminateLoci"), (RX4, 61, yX6_slotOf, "EliminateLoci"), (RX4, 67, yX6_rootOf, "EliminateLoci"), (RX4, 74, yX6_powerOf, "EliminateLoci"), (RX3, 55, yX6_powerOf, "EliminateLoci")]
/-- the word on arrays over long[], kept over the tables' warming -/
theorem aoA_moved {u U : State} (hvm : u.vm.Alike U.vm) (h : (Cond.arrayOver (.array .long)).before #[] u = true) : (Cond.arrayOver (.array .long)).before #[] U = true := by
  simp only [Cond.before, Cond.holds, Cond.value, beq_iff_eq] at h
  cases hc : u.vm.findClass (FieldType.array .long).toString with
  | none => simp [hc] at h
  | some comp =>
    simp only [hc, Option.bind_some, Option.bind_eq_some_iff, Option.map_eq_some_iff] at h
    obtain ⟨c, hi, k, hk, hb⟩ := h
    obtain ⟨k', hk', he⟩ := hvm.2.2 _ _ hk
    have e0 : U.vm.bare = u.vm.bare := by first | exact hvm.bare_eq | exact hvm.bare_eq.symm
    have e1 := va_idx_bare U.vm comp
    rw [e0] at e1
    have hi2 := e1.symm.trans ((va_idx_bare u.vm comp).trans hi)
    have f1 : U.vm.findClass (FieldType.array .long).toString = some comp := by rw [hvm.findClass]; exact hc
    have f2 : U.vm.findClass ("[" ++ (FieldType.array .long).toString) = u.vm.findClass ("[" ++ (FieldType.array .long).toString) := by rw [hvm.findClass]
    have hk2 : k'.kind = k.kind := by rw [he]
    unfold Cond.before Cond.holds
    simp only [Cond.value]
    rw [f1, Option.bind_some]
    refine (congrArg (fun o : Option Nat => (o.bind (fun c => (U.vm.classes[c]?).map fun (k : Class) => match k.kind with | .array _ ty => decide (ty = FieldType.array .long) && decide (U.vm.findClass ("[" ++ (FieldType.array .long).toString) = some c) | _ => false) == some true)) hi2).trans ?_
    simp only [Option.bind_some, hk', Option.map_some, hk2, f2]
    cases hkd : k.kind with
    | array component ty =>
      rw [hkd] at hb
      simp at hb
      simp [hb.1, hb.2]
    | _ => rw [hkd] at hb; simp at hb
def NW (U : State) : Prop := (∀ q ∈ nst, va_Nw (.methodLinkNest q.1 q.2.1 q.2.2.1 q.2.2.2) U) ∧ va_AO "EliminateLoci$Plane" U ∧ (Cond.arrayOver (.array .long)).before #[] U = true
theorem NW.warm {s U : State} (h : NW s) (hW : s.WarmedH U.vm) : NW U := ⟨fun q hq => va_Nw.warmM hW (h.1 q hq), va_AO.moved hW.alike h.2.1, aoA_moved hW.alike h.2.2⟩
theorem NW.same {s U : State} (h : NW s) (e : s.vm = U.vm) : NW U := ⟨fun q hq => va_Nw.same rfl e (h.1 q hq), va_AO.moved (by rw [e]; exact Vm.Alike.refl _) h.2.1, aoA_moved (by rw [e]; exact Vm.Alike.refl _) h.2.2⟩
/-! the machine at a frame, with the world as data: pc, locals, stack, cells -/
def Zf (p : Program) (m : MethodId) (c : Code) (cc : ByteArray) (nL : Nat) (s : State) (args : Array Value) (own : String) (D : va_G) (tys : List (ClassId × FieldType)) (A : Nat → Prop) : Prop :=
  p.tables.exec = Jvm.exec ∧ c.code = cc ∧ c.maxLocals = nL ∧ s.vm.findClass own = some m.cls ∧ (∀ w ∈ lw_g, w.before args s = true) ∧ va_K D vwCl tys s ∧ (∀ q, s.heap.size ≤ q → A q) ∧ NW s
def Z (p : Program) (l : Launch) (e : Env) (R : Room) (s : State) (m : MethodId) (args : Array Value) (below : List Frame) (meth : Method) (c : Code) (D : va_G) (A : Nat → Prop) (nL cells slots : Nat) (Q : State → Prop) (pc : Nat) (lv : List (Nat × Value)) (st : List Value) (w : va_W) : Prop :=
  ∀ (H : Heap) (locs : List Loc) (ls : Array Slot), va_P D vwCl w H → va_D A w → va_S A s.heap H locs → lv_has ls nL lv → W p l e R s m args below meth c H locs cells slots Q (F0 m pc ls st)
theorem lv_look {l : List (Nat × Value)} {i : Nat} {v : Value} (h : l.lookup i = some v) : ∃ k : Nat, l[k]? = some (i, v) := by
  induction l with
  | nil => cases h
  | cons a r ih =>
    obtain ⟨j, u⟩ := a
    by_cases hj : i = j
    · subst hj
      rw [List.lookup_cons_self] at h
      cases h
      exact ⟨0, rfl⟩
    · have : (i == j) = false := by simpa using hj
      rw [List.lookup_cons, this] at h
      obtain ⟨k, hk⟩ := ih h
      exact ⟨k + 1, hk⟩
theorem lv_get {ls : Array Slot} {nL : Nat} {l : List (Nat × Value)} {i : Nat} {v : Value} (h : lv_has ls nL l) (hk : l.lookup i = some v) : ls[i]? = some (.val v) := by
  obtain ⟨k, hk⟩ := lv_look hk
  exact lv_at h k hk
section ZR
variable {p : Program} {l : Launch} {e : Env} {R : Room} {s : State} {m : MethodId} {args : Array Value} {below : List Frame} {meth : Method} {c : Code} {D : va_G} {A : Nat → Prop} {nL cells slots : Nat} {Q : State → Prop}
variable {cc : ByteArray} {own : String} {tys : List (ClassId × FieldType)} {pc : Nat} {lv : List (Nat × Value)} {st : List Value} {w : va_W}
theorem Z.toW {w' : va_W} (h : w = w') (k : Z p l e R s m args below meth c D A nL cells slots Q pc lv st w') : Z p l e R s m args below meth c D A nL cells slots Q pc lv st w := h ▸ k
theorem Z.sub {lv' : List (Nat × Value)} (h : lv'.all (fun q => lv.lookup q.1 == some q.2) = true) (k : Z p l e R s m args below meth c D A nL cells slots Q pc lv' st w) : Z p l e R s m args below meth c D A nL cells slots Q pc lv st w := by
  intro H locs ls hP hD hS hv
  refine k H locs ls hP hD hS ⟨hv.1, hv.2.1, fun q hq => ?_⟩
  have h1 := List.all_eq_true.mp h q hq
  exact lv_get hv (eq_of_beq h1)
end ZR
end
section
theorem zR_0 : zR 0 := ⟨by decide, by decide⟩
theorem lgc_gt (x y : Int64) : 0 < lg_cmp x y ↔ y < x := by
  unfold lg_cmp
  by_cases h : x > y
  · rw [if_pos h]
    exact ⟨fun _ => h, fun _ => by decide⟩
  · rw [if_neg h]
    refine ⟨fun q => ?_, fun q => absurd q h⟩
    by_cases h2 : x = y
    · rw [if_pos h2] at q
      exact absurd q (by decide)
    · rw [if_neg h2] at q
      exact absurd q (by decide)
theorem zI_ne0 {b : Int} (h3 : 0 < b) (h4 : b < 2147483648) : ¬ zI b = 0 := by
  intro q
  have h := (zI_eq (a := b) (b := 0) ⟨by omega, h4⟩ zR_0).mp q
  omega
theorem zI_nI {a : Int} (h1 : 0 ≤ a) : zI a = nI a.toNat := by
  obtain ⟨n, rfl⟩ := Int.eq_ofNat_of_zero_le h1
  rfl
theorem zI_div {a b : Int} (h1 : 0 ≤ a) (h2 : a < 2147483648) (h3 : 0 < b) (h4 : b < 2147483648) : zI a / zI b = zI (a / b) := by
  obtain ⟨n, rfl⟩ := Int.eq_ofNat_of_zero_le h1
  obtain ⟨k, rfl⟩ := Int.eq_ofNat_of_zero_le (Int.le_of_lt h3)
  exact pk_div (a := n) (d := k) (by omega) (by omega) (by omega)
theorem zI_rem {a b : Int} (h1 : 0 ≤ a) (h2 : a < 2147483648) (h3 : 0 < b) (h4 : b < 2147483648) : zI a - zI a / zI b * zI b = zI (a % b) := by
  obtain ⟨n, rfl⟩ := Int.eq_ofNat_of_zero_le h1
  obtain ⟨k, rfl⟩ := Int.eq_ofNat_of_zero_le (Int.le_of_lt h3)
  exact pk_rem (a := n) (d := k) (by omega) (by omega) (by omega)
section ZR2
variable {p : Program} {l : Launch} {e : Env} {R : Room} {s : State} {m : MethodId} {args : Array Value} {below : List Frame} {meth : Method} {c : Code} {D : va_G} {A : Nat → Prop} {nL cells slots : Nat} {Q : State → Prop}
variable {cc : ByteArray} {own : String} {tys : List (ClassId × FieldType)} {pc : Nat} {lv : List (Nat × Value)} {st : List Value} {w : va_W}
theorem Z.iconst (hX : Zf p m c cc nL s args own D tys A) {n : Int} (hd : decode cc pc = .ok (.iconst n, 1))  (k : Z p l e R s m args below meth c D A nL cells slots Q (pc + 1) lv (.int (zI n) :: st) w) : Z p l e R s m args below meth c D A nL cells slots Q pc lv (st) w := fun H locs ls hP hD hS hv => lv_iconst hX.1 hX.2.1 hd rfl (k H locs ls hP hD hS hv)
theorem Z.bipush (hX : Zf p m c cc nL s args own D tys A) {n : Int} (hd : decode cc pc = .ok (.bipush n, 2)) (hv0 : (Int8.ofInt n).toInt32 = zI n) (k : Z p l e R s m args below meth c D A nL cells slots Q (pc + 2) lv (.int (zI n) :: st) w) : Z p l e R s m args below meth c D A nL cells slots Q pc lv (st) w := fun H locs ls hP hD hS hv => lv_bipush hX.1 hX.2.1 hd hv0 (k H locs ls hP hD hS hv)
theorem Z.sipush (hX : Zf p m c cc nL s args own D tys A) {n : Int} (hd : decode cc pc = .ok (.sipush n, 3)) (hv0 : (Int16.ofInt n).toInt32 = zI n) (k : Z p l e R s m args below meth c D A nL cells slots Q (pc + 3) lv (.int (zI n) :: st) w) : Z p l e R s m args below meth c D A nL cells slots Q pc lv (st) w := fun H locs ls hP hD hS hv => lv_sipush hX.1 hX.2.1 hd hv0 (k H locs ls hP hD hS hv)
theorem Z.lconst (hX : Zf p m c cc nL s args own D tys A) {n : Fin 2} {v : Int64} (hd : decode cc pc = .ok (.lconst n, 1)) (hv0 : Int64.ofNat (n : Nat) = v) (k : Z p l e R s m args below meth c D A nL cells slots Q (pc + 1) lv (.long v :: st) w) : Z p l e R s m args below meth c D A nL cells slots Q pc lv (st) w := fun H locs ls hP hD hS hv => lv_lconst hX.1 hX.2.1 hd hv0 (k H locs ls hP hD hS hv)
theorem Z.iload_n (hX : Zf p m c cc nL s args own D tys A) {k0 : Fin 4} {i : Nat} {x : Int32} (hd : decode cc pc = .ok (.iload_n k0, 1)) (hi : (k0 : Nat) = i) (hl : lv.lookup i = some (.int x)) (k : Z p l e R s m args below meth c D A nL cells slots Q (pc + 1) lv (.int x :: st) w) : Z p l e R s m args below meth c D A nL cells slots Q pc lv (st) w := fun H locs ls hP hD hS hv => lv_iload_n hX.1 hX.2.1 hd hi (lv_get hv hl) (k H locs ls hP hD hS hv)
theorem Z.iload (hX : Zf p m c cc nL s args own D tys A) {i : Nat} {x : Int32} (hd : decode cc pc = .ok (.iload i, 2)) (hl : lv.lookup i = some (.int x)) (k : Z p l e R s m args below meth c D A nL cells slots Q (pc + 2) lv (.int x :: st) w) : Z p l e R s m args below meth c D A nL cells slots Q pc lv (st) w := fun H locs ls hP hD hS hv => lv_iload hX.1 hX.2.1 hd (lv_get hv hl) (k H locs ls hP hD hS hv)
theorem Z.istore_n (hX : Zf p m c cc nL s args own D tys A) {k0 : Fin 4} {i : Nat} {x : Int32} {lv' : List (Nat × Value)} (hd : decode cc pc = .ok (.istore_n k0, 1)) (hi : (k0 : Nat) = i) (hn : i < nL) (hl : (i, Value.int x) :: lv.filter (fun q => !(q.1 == i) && !(q.1 + 1 == i && q.2.category == 2)) = lv') (k : Z p l e R s m args below meth c D A nL cells slots Q (pc + 1) lv' st w) : Z p l e R s m args below meth c D A nL cells slots Q pc lv (.int x :: st) w := fun H locs ls hP hD hS hv => lv_istore_n hX.1 hX.2.1 hd hi hv hn hl (fun ls' hv' => k H locs ls' hP hD hS hv')
theorem Z.istore (hX : Zf p m c cc nL s args own D tys A) {i : Nat} {x : Int32} {lv' : List (Nat × Value)} (hd : decode cc pc = .ok (.istore i, 2)) (hn : i < nL) (hl : (i, Value.int x) :: lv.filter (fun q => !(q.1 == i) && !(q.1 + 1 == i && q.2.category == 2)) = lv') (k : Z p l e R s m args below meth c D A nL cells slots Q (pc + 2) lv' st w) : Z p l e R s m args below meth c D A nL cells slots Q pc lv (.int x :: st) w := fun H locs ls hP hD hS hv => lv_istore hX.1 hX.2.1 hd hv hn hl (fun ls' hv' => k H locs ls' hP hD hS hv')
theorem Z.lload_n (hX : Zf p m c cc nL s args own D tys A) {k0 : Fin 4} {i : Nat} {x : Int64} (hd : decode cc pc = .ok (.lload_n k0, 1)) (hi : (k0 : Nat) = i) (hl : lv.lookup i = some (.long x)) (k : Z p l e R s m args below meth c D A nL cells slots Q (pc + 1) lv (.long x :: st) w) : Z p l e R s m args below meth c D A nL cells slots Q pc lv (st) w := fun H locs ls hP hD hS hv => lv_lload_n hX.1 hX.2.1 hd hi (lv_get hv hl) (k H locs ls hP hD hS hv)
theorem Z.lload (hX : Zf p m c cc nL s args own D tys A) {i : Nat} {x : Int64} (hd : decode cc pc = .ok (.lload i, 2)) (hl : lv.lookup i = some (.long x)) (k : Z p l e R s m args below meth c D A nL cells slots Q (pc + 2) lv (.long x :: st) w) : Z p l e R s m args below meth c D A nL cells slots Q pc lv (st) w := fun H locs ls hP hD hS hv => lv_lload hX.1 hX.2.1 hd (lv_get hv hl) (k H locs ls hP hD hS hv)
theorem Z.lstore_n (hX : Zf p m c cc nL s args own D tys A) {k0 : Fin 4} {i : Nat} {x : Int64} {lv' : List (Nat × Value)} (hd : decode cc pc = .ok (.lstore_n k0, 1)) (hi : (k0 : Nat) = i) (hn : i + 1 < nL) (hl : (i, Value.long x) :: lv.filter (fun q => !(q.1 == i) && (!(q.1 == i + 1) && !(q.1 + 1 == i && q.2.category == 2))) = lv') (k : Z p l e R s m args below meth c D A nL cells slots Q (pc + 1) lv' st w) : Z p l e R s m args below meth c D A nL cells slots Q pc lv (.long x :: st) w := fun H locs ls hP hD hS hv => lv_lstore_n hX.1 hX.2.1 hd hi hv hn hl (fun ls' hv' => k H locs ls' hP hD hS hv')
theorem Z.lstore (hX : Zf p m c cc nL s args own D tys A) {i : Nat} {x : Int64} {lv' : List (Nat × Value)} (hd : decode cc pc = .ok (.lstore i, 2)) (hn : i + 1 < nL) (hl : (i, Value.long x) :: lv.filter (fun q => !(q.1 == i) && (!(q.1 == i + 1) && !(q.1 + 1 == i && q.2.category == 2))) = lv') (k : Z p l e R s m args below meth c D A nL cells slots Q (pc + 2) lv' st w) : Z p l e R s m args below meth c D A nL cells slots Q pc lv (.long x :: st) w := fun H locs ls hP hD hS hv => lv_lstore hX.1 hX.2.1 hd hv hn hl (fun ls' hv' => k H locs ls' hP hD hS hv')
theorem Z.aload_n (hX : Zf p m c cc nL s args own D tys A) {k0 : Fin 4} {i : Nat} {x : Nat} (hd : decode cc pc = .ok (.aload_n k0, 1)) (hi : (k0 : Nat) = i) (hl : lv.lookup i = some (.ref x)) (k : Z p l e R s m args below meth c D A nL cells slots Q (pc + 1) lv (.ref x :: st) w) : Z p l e R s m args below meth c D A nL cells slots Q pc lv (st) w := fun H locs ls hP hD hS hv => lv_aload_n hX.1 hX.2.1 hd hi (lv_get hv hl) (k H locs ls hP hD hS hv)
theorem Z.aload (hX : Zf p m c cc nL s args own D tys A) {i : Nat} {x : Nat} (hd : decode cc pc = .ok (.aload i, 2)) (hl : lv.lookup i = some (.ref x)) (k : Z p l e R s m args below meth c D A nL cells slots Q (pc + 2) lv (.ref x :: st) w) : Z p l e R s m args below meth c D A nL cells slots Q pc lv (st) w := fun H locs ls hP hD hS hv => lv_aload hX.1 hX.2.1 hd (lv_get hv hl) (k H locs ls hP hD hS hv)
theorem Z.astore_n (hX : Zf p m c cc nL s args own D tys A) {k0 : Fin 4} {i : Nat} {x : Nat} {lv' : List (Nat × Value)} (hd : decode cc pc = .ok (.astore_n k0, 1)) (hi : (k0 : Nat) = i) (hn : i < nL) (hl : (i, Value.ref x) :: lv.filter (fun q => !(q.1 == i) && !(q.1 + 1 == i && q.2.category == 2)) = lv') (k : Z p l e R s m args below meth c D A nL cells slots Q (pc + 1) lv' st w) : Z p l e R s m args below meth c D A nL cells slots Q pc lv (.ref x :: st) w := fun H locs ls hP hD hS hv => lv_astore_n hX.1 hX.2.1 hd hi hv hn hl (fun ls' hv' => k H locs ls' hP hD hS hv')
theorem Z.astore (hX : Zf p m c cc nL s args own D tys A) {i : Nat} {x : Nat} {lv' : List (Nat × Value)} (hd : decode cc pc = .ok (.astore i, 2)) (hn : i < nL) (hl : (i, Value.ref x) :: lv.filter (fun q => !(q.1 == i) && !(q.1 + 1 == i && q.2.category == 2)) = lv') (k : Z p l e R s m args below meth c D A nL cells slots Q (pc + 2) lv' st w) : Z p l e R s m args below meth c D A nL cells slots Q pc lv (.ref x :: st) w := fun H locs ls hP hD hS hv => lv_astore hX.1 hX.2.1 hd hv hn hl (fun ls' hv' => k H locs ls' hP hD hS hv')
theorem Z.iinc (hX : Zf p m c cc nL s args own D tys A) {i : Nat} {n z : Int} {lv' : List (Nat × Value)} (hd : decode cc pc = .ok (.iinc i n, 3)) (hk : lv.lookup i = some (.int (zI z))) (hn : i < nL) (hl : (i, Value.int (zI (z + n))) :: lv.filter (fun q => !(q.1 == i) && !(q.1 + 1 == i && q.2.category == 2)) = lv') (k : Z p l e R s m args below meth c D A nL cells slots Q (pc + 3) lv' st w) : Z p l e R s m args below meth c D A nL cells slots Q pc lv st w := fun H locs ls hP hD hS hv => by
  obtain ⟨k0, hk0⟩ := lv_look hk
  exact lv_iinc hX.1 hX.2.1 hd hv hk0 (zI_add z n) hn hl (fun ls' hv' => k H locs ls' hP hD hS hv')
theorem Z.iadd (hX : Zf p m c cc nL s args own D tys A) {a b : Int} (hd : decode cc pc = .ok (.iadd, 1))  (k : Z p l e R s m args below meth c D A nL cells slots Q (pc + 1) lv (.int (zI (a + b)) :: st) w) : Z p l e R s m args below meth c D A nL cells slots Q pc lv (.int (zI b) :: .int (zI a) :: st) w := fun H locs ls hP hD hS hv => lv_iadd hX.1 hX.2.1 hd (by rw [zI_add]; exact (k H locs ls hP hD hS hv))
theorem Z.isub (hX : Zf p m c cc nL s args own D tys A) {a b : Int} (hd : decode cc pc = .ok (.isub, 1))  (k : Z p l e R s m args below meth c D A nL cells slots Q (pc + 1) lv (.int (zI (a - b)) :: st) w) : Z p l e R s m args below meth c D A nL cells slots Q pc lv (.int (zI b) :: .int (zI a) :: st) w := fun H locs ls hP hD hS hv => lv_isub hX.1 hX.2.1 hd (by rw [zI_sub]; exact (k H locs ls hP hD hS hv))
theorem Z.imul (hX : Zf p m c cc nL s args own D tys A) {a b : Int} (hd : decode cc pc = .ok (.imul, 1))  (k : Z p l e R s m args below meth c D A nL cells slots Q (pc + 1) lv (.int (zI (a * b)) :: st) w) : Z p l e R s m args below meth c D A nL cells slots Q pc lv (.int (zI b) :: .int (zI a) :: st) w := fun H locs ls hP hD hS hv => lv_imul hX.1 hX.2.1 hd (by rw [zI_mul]; exact (k H locs ls hP hD hS hv))
theorem Z.ineg (hX : Zf p m c cc nL s args own D tys A) {a : Int} (hd : decode cc pc = .ok (.ineg, 1))  (k : Z p l e R s m args below meth c D A nL cells slots Q (pc + 1) lv (.int (zI (-a)) :: st) w) : Z p l e R s m args below meth c D A nL cells slots Q pc lv (.int (zI a) :: st) w := fun H locs ls hP hD hS hv => lv_ineg hX.1 hX.2.1 hd (by rw [zI_neg]; exact (k H locs ls hP hD hS hv))
theorem Z.ishl (hX : Zf p m c cc nL s args own D tys A) {x y : Int32} (hd : decode cc pc = .ok (.ishl, 1))  (k : Z p l e R s m args below meth c D A nL cells slots Q (pc + 1) lv (.int (x <<< (y &&& 31)) :: st) w) : Z p l e R s m args below meth c D A nL cells slots Q pc lv (.int y :: .int x :: st) w := fun H locs ls hP hD hS hv => lv_ishl hX.1 hX.2.1 hd (k H locs ls hP hD hS hv)
theorem Z.ishr (hX : Zf p m c cc nL s args own D tys A) {x y : Int32} (hd : decode cc pc = .ok (.ishr, 1))  (k : Z p l e R s m args below meth c D A nL cells slots Q (pc + 1) lv (.int (x >>> (y &&& 31)) :: st) w) : Z p l e R s m args below meth c D A nL cells slots Q pc lv (.int y :: .int x :: st) w := fun H locs ls hP hD hS hv => lv_ishr hX.1 hX.2.1 hd (k H locs ls hP hD hS hv)
theorem Z.ixor (hX : Zf p m c cc nL s args own D tys A) {x y : Int32} (hd : decode cc pc = .ok (.ixor, 1))  (k : Z p l e R s m args below meth c D A nL cells slots Q (pc + 1) lv (.int (x ^^^ y) :: st) w) : Z p l e R s m args below meth c D A nL cells slots Q pc lv (.int y :: .int x :: st) w := fun H locs ls hP hD hS hv => lv_ixor hX.1 hX.2.1 hd (k H locs ls hP hD hS hv)
theorem Z.iand (hX : Zf p m c cc nL s args own D tys A) {x y : Int32} (hd : decode cc pc = .ok (.iand, 1))  (k : Z p l e R s m args below meth c D A nL cells slots Q (pc + 1) lv (.int (x &&& y) :: st) w) : Z p l e R s m args below meth c D A nL cells slots Q pc lv (.int y :: .int x :: st) w := fun H locs ls hP hD hS hv => lv_iand hX.1 hX.2.1 hd (k H locs ls hP hD hS hv)
theorem Z.idiv (hX : Zf p m c cc nL s args own D tys A) {a b : Int} (hd : decode cc pc = .ok (.idiv, 1)) (h1 : 0 ≤ a) (h2 : a < 2147483648) (h3 : 0 < b) (h4 : b < 2147483648) (k : Z p l e R s m args below meth c D A nL cells slots Q (pc + 1) lv (.int (zI (a / b)) :: st) w) : Z p l e R s m args below meth c D A nL cells slots Q pc lv (.int (zI b) :: .int (zI a) :: st) w := fun H locs ls hP hD hS hv => lv_idiv hX.1 hX.2.1 hd (zI_ne0 h3 h4) (by rw [zI_div h1 h2 h3 h4]; exact (k H locs ls hP hD hS hv))
theorem Z.irem (hX : Zf p m c cc nL s args own D tys A) {a b : Int} (hd : decode cc pc = .ok (.irem, 1)) (h1 : 0 ≤ a) (h2 : a < 2147483648) (h3 : 0 < b) (h4 : b < 2147483648) (k : Z p l e R s m args below meth c D A nL cells slots Q (pc + 1) lv (.int (zI (a % b)) :: st) w) : Z p l e R s m args below meth c D A nL cells slots Q pc lv (.int (zI b) :: .int (zI a) :: st) w := fun H locs ls hP hD hS hv => lv_irem hX.1 hX.2.1 hd (zI_ne0 h3 h4) (by rw [zI_rem h1 h2 h3 h4]; exact (k H locs ls hP hD hS hv))
theorem Z.ladd (hX : Zf p m c cc nL s args own D tys A) {x y : Int64} (hd : decode cc pc = .ok (.ladd, 1))  (k : Z p l e R s m args below meth c D A nL cells slots Q (pc + 1) lv (.long (x + y) :: st) w) : Z p l e R s m args below meth c D A nL cells slots Q pc lv (.long y :: .long x :: st) w := fun H locs ls hP hD hS hv => lv_ladd hX.1 hX.2.1 hd (k H locs ls hP hD hS hv)
theorem Z.lsub (hX : Zf p m c cc nL s args own D tys A) {x y : Int64} (hd : decode cc pc = .ok (.lsub, 1))  (k : Z p l e R s m args below meth c D A nL cells slots Q (pc + 1) lv (.long (x - y) :: st) w) : Z p l e R s m args below meth c D A nL cells slots Q pc lv (.long y :: .long x :: st) w := fun H locs ls hP hD hS hv => lv_lsub hX.1 hX.2.1 hd (k H locs ls hP hD hS hv)
theorem Z.lmul (hX : Zf p m c cc nL s args own D tys A) {x y : Int64} (hd : decode cc pc = .ok (.lmul, 1))  (k : Z p l e R s m args below meth c D A nL cells slots Q (pc + 1) lv (.long (x * y) :: st) w) : Z p l e R s m args below meth c D A nL cells slots Q pc lv (.long y :: .long x :: st) w := fun H locs ls hP hD hS hv => lv_lmul hX.1 hX.2.1 hd (k H locs ls hP hD hS hv)
theorem Z.land (hX : Zf p m c cc nL s args own D tys A) {x y : Int64} (hd : decode cc pc = .ok (.land, 1))  (k : Z p l e R s m args below meth c D A nL cells slots Q (pc + 1) lv (.long (x &&& y) :: st) w) : Z p l e R s m args below meth c D A nL cells slots Q pc lv (.long y :: .long x :: st) w := fun H locs ls hP hD hS hv => lv_land hX.1 hX.2.1 hd (k H locs ls hP hD hS hv)
theorem Z.lneg (hX : Zf p m c cc nL s args own D tys A) {x : Int64} (hd : decode cc pc = .ok (.lneg, 1))  (k : Z p l e R s m args below meth c D A nL cells slots Q (pc + 1) lv (.long (-x) :: st) w) : Z p l e R s m args below meth c D A nL cells slots Q pc lv (.long x :: st) w := fun H locs ls hP hD hS hv => lv_lneg hX.1 hX.2.1 hd (k H locs ls hP hD hS hv)
theorem Z.ldiv (hX : Zf p m c cc nL s args own D tys A) {x y : Int64} (hd : decode cc pc = .ok (.ldiv, 1)) (hne : ¬ y = 0) (k : Z p l e R s m args below meth c D A nL cells slots Q (pc + 1) lv (.long (x / y) :: st) w) : Z p l e R s m args below meth c D A nL cells slots Q pc lv (.long y :: .long x :: st) w := fun H locs ls hP hD hS hv => lv_ldiv hX.1 hX.2.1 hd hne (k H locs ls hP hD hS hv)
theorem Z.lrem (hX : Zf p m c cc nL s args own D tys A) {x y : Int64} (hd : decode cc pc = .ok (.lrem, 1)) (hne : ¬ y = 0) (k : Z p l e R s m args below meth c D A nL cells slots Q (pc + 1) lv (.long (x - x / y * y) :: st) w) : Z p l e R s m args below meth c D A nL cells slots Q pc lv (.long y :: .long x :: st) w := fun H locs ls hP hD hS hv => lv_lrem hX.1 hX.2.1 hd hne (k H locs ls hP hD hS hv)
theorem Z.lshr (hX : Zf p m c cc nL s args own D tys A) {x v : Int64} {y : Int32} (hd : decode cc pc = .ok (.lshr, 1)) (hv0 : x >>> (y.toInt64 &&& 63) = v) (k : Z p l e R s m args below meth c D A nL cells slots Q (pc + 1) lv (.long v :: st) w) : Z p l e R s m args below meth c D A nL cells slots Q pc lv (.int y :: .long x :: st) w := fun H locs ls hP hD hS hv => lv_lshr hX.1 hX.2.1 hd hv0 (k H locs ls hP hD hS hv)
theorem Z.lshl (hX : Zf p m c cc nL s args own D tys A) {x v : Int64} {y : Int32} (hd : decode cc pc = .ok (.lshl, 1)) (hv0 : x <<< (y.toInt64 &&& 63) = v) (k : Z p l e R s m args below meth c D A nL cells slots Q (pc + 1) lv (.long v :: st) w) : Z p l e R s m args below meth c D A nL cells slots Q pc lv (.int y :: .long x :: st) w := fun H locs ls hP hD hS hv => lv_lshl hX.1 hX.2.1 hd hv0 (k H locs ls hP hD hS hv)
theorem Z.i2l (hX : Zf p m c cc nL s args own D tys A) {a : Int} (hd : decode cc pc = .ok (.i2l, 1)) (h : zR a) (k : Z p l e R s m args below meth c D A nL cells slots Q (pc + 1) lv (.long (zL a) :: st) w) : Z p l e R s m args below meth c D A nL cells slots Q pc lv (.int (zI a) :: st) w := fun H locs ls hP hD hS hv => lv_i2l hX.1 hX.2.1 hd (zL_i2l h) (k H locs ls hP hD hS hv)
theorem Z.l2i (hX : Zf p m c cc nL s args own D tys A) {x : Int64} (hd : decode cc pc = .ok (.l2i, 1))  (k : Z p l e R s m args below meth c D A nL cells slots Q (pc + 1) lv (.int x.toInt32 :: st) w) : Z p l e R s m args below meth c D A nL cells slots Q pc lv (.long x :: st) w := fun H locs ls hP hD hS hv => lv_l2i hX.1 hX.2.1 hd rfl (k H locs ls hP hD hS hv)
theorem Z.dup (hX : Zf p m c cc nL s args own D tys A) {va : Value} (hd : decode cc pc = .ok (.dup, 1)) (h : va.category = 1) (k : Z p l e R s m args below meth c D A nL cells slots Q (pc + 1) lv (va :: va :: st) w) : Z p l e R s m args below meth c D A nL cells slots Q pc lv (va :: st) w := fun H locs ls hP hD hS hv => lv_dup hX.1 hX.2.1 hd h (k H locs ls hP hD hS hv)
theorem Z.pop (hX : Zf p m c cc nL s args own D tys A) {va : Value} (hd : decode cc pc = .ok (.pop, 1)) (h : va.category = 1) (k : Z p l e R s m args below meth c D A nL cells slots Q (pc + 1) lv (st) w) : Z p l e R s m args below meth c D A nL cells slots Q pc lv (va :: st) w := fun H locs ls hP hD hS hv => lv_pop hX.1 hX.2.1 hd h (k H locs ls hP hD hS hv)
theorem Z.dup2 (hX : Zf p m c cc nL s args own D tys A) {va vb : Value} (hd : decode cc pc = .ok (.dup2, 1)) (h : va.category = 1) (h2 : vb.category = 1) (k : Z p l e R s m args below meth c D A nL cells slots Q (pc + 1) lv (va :: vb :: va :: vb :: st) w) : Z p l e R s m args below meth c D A nL cells slots Q pc lv (va :: vb :: st) w := fun H locs ls hP hD hS hv => lv_dup2_11 hX.1 hX.2.1 hd h h2 (k H locs ls hP hD hS hv)
theorem Z.goto (hX : Zf p m c cc nL s args own D tys A) {off : Int} (tgt : Nat) (hd : decode cc pc = .ok (.goto off, 3)) (ht : (pc : Int) + off = (tgt : Int)) (k : Z p l e R s m args below meth c D A nL cells slots Q tgt lv st w) : Z p l e R s m args below meth c D A nL cells slots Q pc lv st w := fun H locs ls hP hD hS hv => lv_goto hX.1 hX.2.1 hd ht (k H locs ls hP hD hS hv)
theorem Z.topi {x : Int32} (k : ∀ z : Int, -2147483648 ≤ z → z < 2147483648 → x = zI z → Z p l e R s m args below meth c D A nL cells slots Q pc lv (.int (zI z) :: st) w) : Z p l e R s m args below meth c D A nL cells slots Q pc lv (.int x :: st) w := by
  obtain ⟨z, h1, h2, h3⟩ := zI_ex x
  rw [h3]
  exact k z h1 h2 h3
theorem Z.vali {x y : Int32} (h : x = y) (k : Z p l e R s m args below meth c D A nL cells slots Q pc lv (.int y :: st) w) : Z p l e R s m args below meth c D A nL cells slots Q pc lv (.int x :: st) w := h ▸ k
theorem Z.vall {x y : Int64} (h : x = y) (k : Z p l e R s m args below meth c D A nL cells slots Q pc lv (.long y :: st) w) : Z p l e R s m args below meth c D A nL cells slots Q pc lv (.long x :: st) w := h ▸ k
theorem Z.topl {x : Int64} (k : ∀ y : Int64, y = x → Z p l e R s m args below meth c D A nL cells slots Q pc lv (.long y :: st) w) : Z p l e R s m args below meth c D A nL cells slots Q pc lv (.long x :: st) w := k x rfl
theorem Z.icmp_eq (hX : Zf p m c cc nL s args own D tys A) {a b off : Int} (tgt : Nat) (hd : decode cc pc = .ok (.if_icmp .eq off, 3)) (ht : (pc : Int) + off = (tgt : Int)) (ha : zR a) (hb : zR b) (kt : a = b → Z p l e R s m args below meth c D A nL cells slots Q tgt lv st w) (kf : ¬ (a = b) → Z p l e R s m args below meth c D A nL cells slots Q (pc + 3) lv st w) : Z p l e R s m args below meth c D A nL cells slots Q pc lv (.int (zI b) :: .int (zI a) :: st) w := fun H locs ls hP hD hS hv => lv_icmp_eq hX.1 hX.2.1 hd ht (fun q => kt ((zI_eq ha hb).mp q) H locs ls hP hD hS hv) (fun q => kf (fun r => q ((zI_eq ha hb).mpr r)) H locs ls hP hD hS hv)
theorem Z.if_eq (hX : Zf p m c cc nL s args own D tys A) {a off : Int} (tgt : Nat) (hd : decode cc pc = .ok (.ifCond .eq off, 3)) (ht : (pc : Int) + off = (tgt : Int)) (ha : zR a) (kt : a = 0 → Z p l e R s m args below meth c D A nL cells slots Q tgt lv st w) (kf : ¬ (a = 0) → Z p l e R s m args below meth c D A nL cells slots Q (pc + 3) lv st w) : Z p l e R s m args below meth c D A nL cells slots Q pc lv (.int (zI a) :: st) w := fun H locs ls hP hD hS hv => lv_if_eq hX.1 hX.2.1 hd ht (fun q => kt ((zI_eq ha zR_0).mp q) H locs ls hP hD hS hv) (fun q => kf (fun r => q ((zI_eq ha zR_0).mpr r)) H locs ls hP hD hS hv)
theorem Z.lcmp_eq (hX : Zf p m c cc nL s args own D tys A) {x y : Int64} {off : Int} (tgt : Nat) (hd1 : decode cc pc = .ok (.lcmp, 1)) (hd : decode cc (pc + 1) = .ok (.ifCond .eq off, 3)) (ht : ((pc + 1 : Nat) : Int) + off = (tgt : Int)) (kt : x = y → Z p l e R s m args below meth c D A nL cells slots Q tgt lv st w) (kf : ¬ (x = y) → Z p l e R s m args below meth c D A nL cells slots Q (pc + 1 + 3) lv st w) : Z p l e R s m args below meth c D A nL cells slots Q pc lv (.long y :: .long x :: st) w := fun H locs ls hP hD hS hv => W.lcmp hX.1 hX.2.1 hd1 (lv_if_eq hX.1 hX.2.1 hd ht (fun q => kt ((lgc_eq x y).mp q) H locs ls hP hD hS hv) (fun q => kf (fun r => q ((lgc_eq x y).mpr r)) H locs ls hP hD hS hv))
theorem Z.icmp_ne (hX : Zf p m c cc nL s args own D tys A) {a b off : Int} (tgt : Nat) (hd : decode cc pc = .ok (.if_icmp .ne off, 3)) (ht : (pc : Int) + off = (tgt : Int)) (ha : zR a) (hb : zR b) (kt : ¬ a = b → Z p l e R s m args below meth c D A nL cells slots Q tgt lv st w) (kf : a = b → Z p l e R s m args below meth c D A nL cells slots Q (pc + 3) lv st w) : Z p l e R s m args below meth c D A nL cells slots Q pc lv (.int (zI b) :: .int (zI a) :: st) w := fun H locs ls hP hD hS hv => lv_icmp_ne hX.1 hX.2.1 hd ht (fun q => kt ((not_congr (zI_eq ha hb)).mp q) H locs ls hP hD hS hv) (fun q => kf ((zI_eq ha hb).mp q) H locs ls hP hD hS hv)
theorem Z.if_ne (hX : Zf p m c cc nL s args own D tys A) {a off : Int} (tgt : Nat) (hd : decode cc pc = .ok (.ifCond .ne off, 3)) (ht : (pc : Int) + off = (tgt : Int)) (ha : zR a) (kt : ¬ a = 0 → Z p l e R s m args below meth c D A nL cells slots Q tgt lv st w) (kf : a = 0 → Z p l e R s m args below meth c D A nL cells slots Q (pc + 3) lv st w) : Z p l e R s m args below meth c D A nL cells slots Q pc lv (.int (zI a) :: st) w := fun H locs ls hP hD hS hv => lv_if_ne hX.1 hX.2.1 hd ht (fun q => kt ((not_congr (zI_eq ha zR_0)).mp q) H locs ls hP hD hS hv) (fun q => kf ((zI_eq ha zR_0).mp q) H locs ls hP hD hS hv)
theorem Z.lcmp_ne (hX : Zf p m c cc nL s args own D tys A) {x y : Int64} {off : Int} (tgt : Nat) (hd1 : decode cc pc = .ok (.lcmp, 1)) (hd : decode cc (pc + 1) = .ok (.ifCond .ne off, 3)) (ht : ((pc + 1 : Nat) : Int) + off = (tgt : Int)) (kt : ¬ x = y → Z p l e R s m args below meth c D A nL cells slots Q tgt lv st w) (kf : x = y → Z p l e R s m args below meth c D A nL cells slots Q (pc + 1 + 3) lv st w) : Z p l e R s m args below meth c D A nL cells slots Q pc lv (.long y :: .long x :: st) w := fun H locs ls hP hD hS hv => W.lcmp hX.1 hX.2.1 hd1 (lv_if_ne hX.1 hX.2.1 hd ht (fun q => kt ((not_congr (lgc_eq x y)).mp q) H locs ls hP hD hS hv) (fun q => kf ((lgc_eq x y).mp q) H locs ls hP hD hS hv))
theorem Z.icmp_lt (hX : Zf p m c cc nL s args own D tys A) {a b off : Int} (tgt : Nat) (hd : decode cc pc = .ok (.if_icmp .lt off, 3)) (ht : (pc : Int) + off = (tgt : Int)) (ha : zR a) (hb : zR b) (kt : a < b → Z p l e R s m args below meth c D A nL cells slots Q tgt lv st w) (kf : ¬ (a < b) → Z p l e R s m args below meth c D A nL cells slots Q (pc + 3) lv st w) : Z p l e R s m args below meth c D A nL cells slots Q pc lv (.int (zI b) :: .int (zI a) :: st) w := fun H locs ls hP hD hS hv => lv_icmp_lt hX.1 hX.2.1 hd ht (fun q => kt ((zI_lt ha hb).mp q) H locs ls hP hD hS hv) (fun q => kf (fun r => q ((zI_lt ha hb).mpr r)) H locs ls hP hD hS hv)
theorem Z.if_lt (hX : Zf p m c cc nL s args own D tys A) {a off : Int} (tgt : Nat) (hd : decode cc pc = .ok (.ifCond .lt off, 3)) (ht : (pc : Int) + off = (tgt : Int)) (ha : zR a) (kt : a < 0 → Z p l e R s m args below meth c D A nL cells slots Q tgt lv st w) (kf : ¬ (a < 0) → Z p l e R s m args below meth c D A nL cells slots Q (pc + 3) lv st w) : Z p l e R s m args below meth c D A nL cells slots Q pc lv (.int (zI a) :: st) w := fun H locs ls hP hD hS hv => lv_if_lt hX.1 hX.2.1 hd ht (fun q => kt ((zI_lt ha zR_0).mp q) H locs ls hP hD hS hv) (fun q => kf (fun r => q ((zI_lt ha zR_0).mpr r)) H locs ls hP hD hS hv)
theorem Z.lcmp_lt (hX : Zf p m c cc nL s args own D tys A) {x y : Int64} {off : Int} (tgt : Nat) (hd1 : decode cc pc = .ok (.lcmp, 1)) (hd : decode cc (pc + 1) = .ok (.ifCond .lt off, 3)) (ht : ((pc + 1 : Nat) : Int) + off = (tgt : Int)) (kt : x < y → Z p l e R s m args below meth c D A nL cells slots Q tgt lv st w) (kf : ¬ (x < y) → Z p l e R s m args below meth c D A nL cells slots Q (pc + 1 + 3) lv st w) : Z p l e R s m args below meth c D A nL cells slots Q pc lv (.long y :: .long x :: st) w := fun H locs ls hP hD hS hv => W.lcmp hX.1 hX.2.1 hd1 (lv_if_lt hX.1 hX.2.1 hd ht (fun q => kt ((lgc_lt x y).mp q) H locs ls hP hD hS hv) (fun q => kf (fun r => q ((lgc_lt x y).mpr r)) H locs ls hP hD hS hv))
theorem Z.icmp_ge (hX : Zf p m c cc nL s args own D tys A) {a b off : Int} (tgt : Nat) (hd : decode cc pc = .ok (.if_icmp .ge off, 3)) (ht : (pc : Int) + off = (tgt : Int)) (ha : zR a) (hb : zR b) (kt : b ≤ a → Z p l e R s m args below meth c D A nL cells slots Q tgt lv st w) (kf : ¬ (b ≤ a) → Z p l e R s m args below meth c D A nL cells slots Q (pc + 3) lv st w) : Z p l e R s m args below meth c D A nL cells slots Q pc lv (.int (zI b) :: .int (zI a) :: st) w := fun H locs ls hP hD hS hv => lv_icmp_ge hX.1 hX.2.1 hd ht (fun q => kt ((zI_le hb ha).mp q) H locs ls hP hD hS hv) (fun q => kf (fun r => q ((zI_le hb ha).mpr r)) H locs ls hP hD hS hv)
theorem Z.if_ge (hX : Zf p m c cc nL s args own D tys A) {a off : Int} (tgt : Nat) (hd : decode cc pc = .ok (.ifCond .ge off, 3)) (ht : (pc : Int) + off = (tgt : Int)) (ha : zR a) (kt : 0 ≤ a → Z p l e R s m args below meth c D A nL cells slots Q tgt lv st w) (kf : ¬ (0 ≤ a) → Z p l e R s m args below meth c D A nL cells slots Q (pc + 3) lv st w) : Z p l e R s m args below meth c D A nL cells slots Q pc lv (.int (zI a) :: st) w := fun H locs ls hP hD hS hv => lv_if_ge hX.1 hX.2.1 hd ht (fun q => kt ((zI_le zR_0 ha).mp q) H locs ls hP hD hS hv) (fun q => kf (fun r => q ((zI_le zR_0 ha).mpr r)) H locs ls hP hD hS hv)
theorem Z.lcmp_ge (hX : Zf p m c cc nL s args own D tys A) {x y : Int64} {off : Int} (tgt : Nat) (hd1 : decode cc pc = .ok (.lcmp, 1)) (hd : decode cc (pc + 1) = .ok (.ifCond .ge off, 3)) (ht : ((pc + 1 : Nat) : Int) + off = (tgt : Int)) (kt : y ≤ x → Z p l e R s m args below meth c D A nL cells slots Q tgt lv st w) (kf : ¬ (y ≤ x) → Z p l e R s m args below meth c D A nL cells slots Q (pc + 1 + 3) lv st w) : Z p l e R s m args below meth c D A nL cells slots Q pc lv (.long y :: .long x :: st) w := fun H locs ls hP hD hS hv => W.lcmp hX.1 hX.2.1 hd1 (lv_if_ge hX.1 hX.2.1 hd ht (fun q => kt ((lg_cmp_ge x y).mp q) H locs ls hP hD hS hv) (fun q => kf (fun r => q ((lg_cmp_ge x y).mpr r)) H locs ls hP hD hS hv))
theorem Z.icmp_gt (hX : Zf p m c cc nL s args own D tys A) {a b off : Int} (tgt : Nat) (hd : decode cc pc = .ok (.if_icmp .gt off, 3)) (ht : (pc : Int) + off = (tgt : Int)) (ha : zR a) (hb : zR b) (kt : b < a → Z p l e R s m args below meth c D A nL cells slots Q tgt lv st w) (kf : ¬ (b < a) → Z p l e R s m args below meth c D A nL cells slots Q (pc + 3) lv st w) : Z p l e R s m args below meth c D A nL cells slots Q pc lv (.int (zI b) :: .int (zI a) :: st) w := fun H locs ls hP hD hS hv => lv_icmp_gt hX.1 hX.2.1 hd ht (fun q => kt ((zI_lt hb ha).mp q) H locs ls hP hD hS hv) (fun q => kf (fun r => q ((zI_lt hb ha).mpr r)) H locs ls hP hD hS hv)
theorem Z.if_gt (hX : Zf p m c cc nL s args own D tys A) {a off : Int} (tgt : Nat) (hd : decode cc pc = .ok (.ifCond .gt off, 3)) (ht : (pc : Int) + off = (tgt : Int)) (ha : zR a) (kt : 0 < a → Z p l e R s m args below meth c D A nL cells slots Q tgt lv st w) (kf : ¬ (0 < a) → Z p l e R s m args below meth c D A nL cells slots Q (pc + 3) lv st w) : Z p l e R s m args below meth c D A nL cells slots Q pc lv (.int (zI a) :: st) w := fun H locs ls hP hD hS hv => lv_if_gt hX.1 hX.2.1 hd ht (fun q => kt ((zI_lt zR_0 ha).mp q) H locs ls hP hD hS hv) (fun q => kf (fun r => q ((zI_lt zR_0 ha).mpr r)) H locs ls hP hD hS hv)
theorem Z.lcmp_gt (hX : Zf p m c cc nL s args own D tys A) {x y : Int64} {off : Int} (tgt : Nat) (hd1 : decode cc pc = .ok (.lcmp, 1)) (hd : decode cc (pc + 1) = .ok (.ifCond .gt off, 3)) (ht : ((pc + 1 : Nat) : Int) + off = (tgt : Int)) (kt : y < x → Z p l e R s m args below meth c D A nL cells slots Q tgt lv st w) (kf : ¬ (y < x) → Z p l e R s m args below meth c D A nL cells slots Q (pc + 1 + 3) lv st w) : Z p l e R s m args below meth c D A nL cells slots Q pc lv (.long y :: .long x :: st) w := fun H locs ls hP hD hS hv => W.lcmp hX.1 hX.2.1 hd1 (lv_if_gt hX.1 hX.2.1 hd ht (fun q => kt ((lgc_gt x y).mp q) H locs ls hP hD hS hv) (fun q => kf (fun r => q ((lgc_gt x y).mpr r)) H locs ls hP hD hS hv))
theorem Z.icmp_le (hX : Zf p m c cc nL s args own D tys A) {a b off : Int} (tgt : Nat) (hd : decode cc pc = .ok (.if_icmp .le off, 3)) (ht : (pc : Int) + off = (tgt : Int)) (ha : zR a) (hb : zR b) (kt : a ≤ b → Z p l e R s m args below meth c D A nL cells slots Q tgt lv st w) (kf : ¬ (a ≤ b) → Z p l e R s m args below meth c D A nL cells slots Q (pc + 3) lv st w) : Z p l e R s m args below meth c D A nL cells slots Q pc lv (.int (zI b) :: .int (zI a) :: st) w := fun H locs ls hP hD hS hv => lv_icmp_le hX.1 hX.2.1 hd ht (fun q => kt ((zI_le ha hb).mp q) H locs ls hP hD hS hv) (fun q => kf (fun r => q ((zI_le ha hb).mpr r)) H locs ls hP hD hS hv)
theorem Z.if_le (hX : Zf p m c cc nL s args own D tys A) {a off : Int} (tgt : Nat) (hd : decode cc pc = .ok (.ifCond .le off, 3)) (ht : (pc : Int) + off = (tgt : Int)) (ha : zR a) (kt : a ≤ 0 → Z p l e R s m args below meth c D A nL cells slots Q tgt lv st w) (kf : ¬ (a ≤ 0) → Z p l e R s m args below meth c D A nL cells slots Q (pc + 3) lv st w) : Z p l e R s m args below meth c D A nL cells slots Q pc lv (.int (zI a) :: st) w := fun H locs ls hP hD hS hv => lv_if_le hX.1 hX.2.1 hd ht (fun q => kt ((zI_le ha zR_0).mp q) H locs ls hP hD hS hv) (fun q => kf (fun r => q ((zI_le ha zR_0).mpr r)) H locs ls hP hD hS hv)
theorem Z.lcmp_le (hX : Zf p m c cc nL s args own D tys A) {x y : Int64} {off : Int} (tgt : Nat) (hd1 : decode cc pc = .ok (.lcmp, 1)) (hd : decode cc (pc + 1) = .ok (.ifCond .le off, 3)) (ht : ((pc + 1 : Nat) : Int) + off = (tgt : Int)) (kt : x ≤ y → Z p l e R s m args below meth c D A nL cells slots Q tgt lv st w) (kf : ¬ (x ≤ y) → Z p l e R s m args below meth c D A nL cells slots Q (pc + 1 + 3) lv st w) : Z p l e R s m args below meth c D A nL cells slots Q pc lv (.long y :: .long x :: st) w := fun H locs ls hP hD hS hv => W.lcmp hX.1 hX.2.1 hd1 (lv_if_le hX.1 hX.2.1 hd ht (fun q => kt ((lg_cmp_le x y).mp q) H locs ls hP hD hS hv) (fun q => kf (fun r => q ((lg_cmp_le x y).mpr r)) H locs ls hP hD hS hv))
theorem Z.laload (hX : Zf p m c cc nL s args own D tys A) (q0 t0 : Nat) {a : Nat} {cA : ClassId} {n : Nat} {f : Nat → Int64} {z : Int} (hd : decode cc pc = .ok (.laload, 1)) (ha : w[q0]? = some (a, .inl (cA, n, .inr (.inl f)))) (ht : tys[t0]? = some (cA, .long)) (h1 : 0 ≤ z) (h2 : z < n) (hn : n < 2147483648) (k : Z p l e R s m args below meth c D A nL cells slots Q (pc + 1) lv (.long (f z.toNat) :: st) w) : Z p l e R s m args below meth c D A nL cells slots Q pc lv (.int (zI z) :: .ref a :: st) w := fun H locs ls hP hD hS hv => va_lald hX.1 hX.2.1 hX.2.2.2.2.2.1 hP q0 t0 ha ht (zI_in h1 h2 hn) hd (by rw [zI_cl h1 (by omega)]; exact (k H locs ls hP hD hS hv))
theorem Z.iaload (hX : Zf p m c cc nL s args own D tys A) (q0 t0 : Nat) {a : Nat} {cA : ClassId} {n : Nat} {f : Nat → Int32} {z : Int} (hd : decode cc pc = .ok (.iaload, 1)) (ha : w[q0]? = some (a, .inl (cA, n, .inl f))) (ht : tys[t0]? = some (cA, .int)) (h1 : 0 ≤ z) (h2 : z < n) (hn : n < 2147483648) (k : Z p l e R s m args below meth c D A nL cells slots Q (pc + 1) lv (.int (f z.toNat) :: st) w) : Z p l e R s m args below meth c D A nL cells slots Q pc lv (.int (zI z) :: .ref a :: st) w := fun H locs ls hP hD hS hv => va_iald hX.1 hX.2.1 hX.2.2.2.2.2.1 hP q0 t0 ha ht (zI_in h1 h2 hn) hd (by rw [zI_cl h1 (by omega)]; exact (k H locs ls hP hD hS hv))
theorem Z.zaload (hX : Zf p m c cc nL s args own D tys A) (q0 t0 : Nat) {a : Nat} {cA : ClassId} {n : Nat} {f : Nat → Int32} {z : Int} (hd : decode cc pc = .ok (.baload, 1)) (ha : w[q0]? = some (a, .inl (cA, n, .inl f))) (ht : tys[t0]? = some (cA, .boolean)) (h1 : 0 ≤ z) (h2 : z < n) (hn : n < 2147483648) (k : Z p l e R s m args below meth c D A nL cells slots Q (pc + 1) lv (.int (f z.toNat) :: st) w) : Z p l e R s m args below meth c D A nL cells slots Q pc lv (.int (zI z) :: .ref a :: st) w := fun H locs ls hP hD hS hv => va_zald hX.1 hX.2.1 hX.2.2.2.2.2.1 hP q0 t0 ha ht (zI_in h1 h2 hn) hd (by rw [zI_cl h1 (by omega)]; exact (k H locs ls hP hD hS hv))
theorem Z.lastore (hX : Zf p m c cc nL s args own D tys A) (q0 t0 : Nat) {a : Nat} {cA : ClassId} {n : Nat} {f : Nat → Int64} {x : Int64} {z : Int} (hd : decode cc pc = .ok (.lastore, 1)) (ha : w[q0]? = some (a, .inl (cA, n, .inr (.inl f)))) (ht : tys[t0]? = some (cA, .long)) (h1 : 0 ≤ z) (h2 : z < n) (hn : n < 2147483648) (k : Z p l e R s m args below meth c D A nL cells slots Q (pc + 1) lv st (w.set q0 (a, .inl (cA, n, .inr (.inl (vp_updL f z.toNat x)))))) : Z p l e R s m args below meth c D A nL cells slots Q pc lv (.long x :: .int (zI z) :: .ref a :: st) w := fun H locs ls hP hD hS hv => va_last hX.1 hX.2.1 hX.2.2.2.2.2.1 hP hD hS q0 t0 ha ht (zI_in h1 h2 hn) hd (fun H1 locs1 hP1 hD1 hS1 => by rw [zI_cl h1 (by omega)] at hP1 hD1; exact k H1 locs1 ls hP1 hD1 hS1 hv)
theorem Z.iastore (hX : Zf p m c cc nL s args own D tys A) (q0 t0 : Nat) {a : Nat} {cA : ClassId} {n : Nat} {f : Nat → Int32} {x : Int32} {z : Int} (hd : decode cc pc = .ok (.iastore, 1)) (ha : w[q0]? = some (a, .inl (cA, n, .inl f))) (ht : tys[t0]? = some (cA, .int)) (h1 : 0 ≤ z) (h2 : z < n) (hn : n < 2147483648) (k : Z p l e R s m args below meth c D A nL cells slots Q (pc + 1) lv st (w.set q0 (a, .inl (cA, n, .inl (upd f z.toNat x))))) : Z p l e R s m args below meth c D A nL cells slots Q pc lv (.int x :: .int (zI z) :: .ref a :: st) w := fun H locs ls hP hD hS hv => va_iast hX.1 hX.2.1 hX.2.2.2.2.2.1 hP hD hS q0 t0 ha ht (zI_in h1 h2 hn) hd (fun H1 locs1 hP1 hD1 hS1 => by rw [zI_cl h1 (by omega)] at hP1 hD1; exact k H1 locs1 ls hP1 hD1 hS1 hv)
theorem Z.zastore (hX : Zf p m c cc nL s args own D tys A) (q0 t0 : Nat) {a : Nat} {cA : ClassId} {n : Nat} {f : Nat → Int32} {x : Int32} {z : Int} (hd : decode cc pc = .ok (.bastore, 1)) (ha : w[q0]? = some (a, .inl (cA, n, .inl f))) (ht : tys[t0]? = some (cA, .boolean)) (h1 : 0 ≤ z) (h2 : z < n) (hn : n < 2147483648) (k : Z p l e R s m args below meth c D A nL cells slots Q (pc + 1) lv st (w.set q0 (a, .inl (cA, n, .inl (upd f z.toNat (vp_nar .boolean x)))))) : Z p l e R s m args below meth c D A nL cells slots Q pc lv (.int x :: .int (zI z) :: .ref a :: st) w := fun H locs ls hP hD hS hv => va_zast hX.1 hX.2.1 hX.2.2.2.2.2.1 hP hD hS q0 t0 ha ht (zI_in h1 h2 hn) hd (fun H1 locs1 hP1 hD1 hS1 => by rw [zI_cl h1 (by omega)] at hP1 hD1; exact k H1 locs1 ls hP1 hD1 hS1 hv)
theorem Z.ldc (hX : Zf p m c cc nL s args own D tys A) {index : Nat} {v : Int32} (z : Int) (hd : decode cc pc = .ok (.ldc index, 2)) (hc : Cond.constant own index v ∈ lw_g) (hz : v = zI z) (k : Z p l e R s m args below meth c D A nL cells slots Q (pc + 2) lv (.int (zI z) :: st) w) : Z p l e R s m args below meth c D A nL cells slots Q pc lv st w := fun H locs ls hP hD hS hv => lv_ldc hX.1 hX.2.1 hX.2.2.2.1 (hX.2.2.2.2.1 _ hc) hd (by rw [hz]; exact (k H locs ls hP hD hS hv))
theorem Z.ldc2 (hX : Zf p m c cc nL s args own D tys A) {index : Nat} {v : Int64} (hd : decode cc pc = .ok (.ldc2_w index, 3)) (hc : Cond.constantLong own index v ∈ lw_g) (k : Z p l e R s m args below meth c D A nL cells slots Q (pc + 3) lv (.long v :: st) w) : Z p l e R s m args below meth c D A nL cells slots Q pc lv st w := fun H locs ls hP hD hS hv => lv_ldc2 hX.1 hX.2.1 hX.2.2.2.1 (hX.2.2.2.2.1 _ hc) hd (k H locs ls hP hD hS hv)
theorem Z.getf (hX : Zf p m c cc nL s args own D tys A) {ref C : String} {T : u_T} {N index a : Nat} (ci q0 fk : Nat) {fs : List Value} {v : Value} (hd : decode cc pc = .ok (.getfield index, 3)) (he : w[q0]? = some (a, .inr (ci, fs))) (hc : vwCl[ci]? = some (C, T, N)) (hin : ∀ x ∈ u_ws C T N, x ∈ lw_g) (hk : fk < N) (hl : Cond.fieldLink own index ref (T fk).2.1 (T fk).2.2.1 ∈ lw_g) (hs : ref = (T fk).1) (hv0 : fs[fk]? = some v) (k : Z p l e R s m args below meth c D A nL cells slots Q (pc + 3) lv (v :: st) w) : Z p l e R s m args below meth c D A nL cells slots Q pc lv (.ref a :: st) w := fun H locs ls hP hD hS hv => va_get hX.1 hX.2.1 hX.2.2.2.2.1 hin hX.2.2.2.1 hX.2.2.2.2.2.1 hP q0 he hc fk hk (hX.2.2.2.2.1 _ hl) (fun x h => by rw [hs]; exact h) hv0 hd (k H locs ls hP hD hS hv)
theorem Z.putf (hX : Zf p m c cc nL s args own D tys A) {ref C : String} {T : u_T} {N index a : Nat} (ci q0 fk : Nat) {fs : List Value} {v : Value} {ty : FieldType} (ty0 : Nat → FieldType) (hd : decode cc pc = .ok (.putfield index, 3)) (he : w[q0]? = some (a, .inr (ci, fs))) (hc : vwCl[ci]? = some (C, T, N)) (hin : ∀ x ∈ u_ws C T N, x ∈ lw_g) (hty : ∀ k, k < N → parseFieldDescriptor (T k).2.2.1 = some (ty0 k)) (hnm : ∀ a, a < N → ∀ b, b < N → a ≠ b → (T a).2.1 ≠ (T b).2.1) (hk : fk < N) (hl : Cond.fieldLink own index ref (T fk).2.1 (T fk).2.2.1 ∈ lw_g) (hs : ref = (T fk).1) (hfin : (T fk).2.2.2 = false) (hdd : parseFieldDescriptor (T fk).2.2.1 = some ty) (hn : narrow ty v = v) (hfit : fits ty v = true) (hll : fk < fs.length) (k : Z p l e R s m args below meth c D A nL cells slots Q (pc + 3) lv st (w.set q0 (a, .inr (ci, fs.set fk v)))) : Z p l e R s m args below meth c D A nL cells slots Q pc lv (v :: .ref a :: st) w := fun H locs ls hP hD hS hv => va_put hX.1 hX.2.1 hX.2.2.2.2.1 hin ty0 hty hnm hX.2.2.2.1 hX.2.2.2.2.2.1 hP hD hS q0 he hc fk hk (hX.2.2.2.2.1 _ hl) (fun x h => by rw [hs]; exact h) hfin hdd hn hfit hll hd (fun H1 locs1 hP1 hD1 hS1 => k H1 locs1 ls hP1 hD1 hS1 hv)
end ZR2
end
section
theorem z_fm {α β : Type} (f : α → Option β) : ∀ (l : List α) (r : List β), l.map f = r.map some → l.filterMap f = r
  | [], [], _ => rfl
  | [], _ :: _, h => by cases h
  | _ :: _, [], h => by cases h
  | a :: l, b :: r, h => by
    have h1 : f a = some b ∧ l.map f = r.map some := by simpa using h
    rw [List.filterMap_cons, h1.1, z_fm f l r h1.2]
abbrev Bw (D : va_G) (tys : List (ClassId × FieldType)) (A : Nat → Prop) : va_W → State → Prop := fun w t => va_P D vwCl w t.heap ∧ va_K D vwCl tys t ∧ va_D A w
abbrev Pw (D : va_G) (tys : List (ClassId × FieldType)) (avs : List Value) (w : va_W) (sz : Nat) : Array Value → State → Prop := va_Pc avs (fun U => U.heap.size = sz ∧ va_P D vwCl w U.heap ∧ va_K D vwCl tys U ∧ va_D (fun _ => True) w ∧ NW U)
abbrev QI (D : va_G) (tys : List (ClassId × FieldType)) (post : Int32 → va_W → Prop) (A : Nat → Prop) := va_Qi post (Bw D tys A) A
abbrev QL (D : va_G) (tys : List (ClassId × FieldType)) (post : Int64 → va_W → Prop) (A : Nat → Prop) := va_Ql post (Bw D tys A) A
abbrev QV (D : va_G) (tys : List (ClassId × FieldType)) (post : va_W → Prop) (A : Nat → Prop) := va_Qv post (Bw D tys A) A
/-- a method's contract: from the cells w and the arguments avs it returns, and QQ holds -/
def Ct (l : Launch) (y : MethodName) (cc : ByteArray) (nL : Nat) (ret : Option FieldType) (rm : Room) (mc ms : Nat) (D : va_G) (tys : List (ClassId × FieldType)) (avs : List Value) (w : va_W) (QQ : (Nat → Prop) → Array Value → State → Outcome → State → Prop) : Prop :=
  ∀ sz : Nat, Met l y (.code y cc nL ret :: lw_g) rm (Pw D tys avs w sz) (QQ (va_A w sz)) mc ms (va_A w sz)
theorem Ct.of {l : Launch} {y : MethodName} {cc : ByteArray} {nL : Nat} {ret : Option FieldType} {rm : Room} {mc ms : Nat} {D : va_G} {tys : List (ClassId × FieldType)} {avs : List Value} {w : va_W} {QQ : (Nat → Prop) → Array Value → State → Outcome → State → Prop} (hy : plainName y.cls = true) (hlen : (lg_sl avs).length ≤ nL)
    (body : ∀ (p : Program) (e : Env) (s : State) (m : MethodId) (args : Array Value) (below : List Frame) (meth : Method) (c : Code) (A : Nat → Prop), Zf p m c cc nL s args y.cls D tys A → meth.sig.returnType = ret → meth.locks = false → Z p l e rm s m args below meth c D A nL 0 0 (MQ below (QQ A) args s mc ms A) 0 (lv_args 0 avs) [] w) : Ct l y cc nL ret rm mc ms D tys avs w QQ := by
  intro sz
  refine Met.ofW (cc := cc) (maxL := nL) (ret := ret) hy rfl ?_
  intro p e s m args below meth c s₁ B hml hv
  obtain ⟨rfl, hsz, hP, hK, hD0, hN⟩ := hv
  subst hsz
  have hts := atoms_spec (ws := .code y cc nL ret :: lw_g) B.pre
  have hX : Zf p m c cc nL s avs.toArray y.cls D tys (va_A w s.heap.size) := ⟨B.exec, B.bytes, hml, findClass_of_methodNamed B.named, fun x hx => hts x (List.mem_cons_of_mem _ hx), hK, fun q h => Or.inr h, hN⟩
  rw [lg_entry_eq]
  exact body p e s m avs.toArray below meth c (va_A w s.heap.size) hX B.returns B.notSynchronized s.heap [] _ hP hD0.self va_S.rf (lv_entry avs hlen)
section ZR3
variable {p : Program} {l : Launch} {e : Env} {R : Room} {s : State} {m : MethodId} {args : Array Value} {below : List Frame} {meth : Method} {c : Code} {D : va_G} {A : Nat → Prop} {nL cells slots : Nat} {Q : State → Prop}
variable {cc : ByteArray} {own : String} {tys : List (ClassId × FieldType)} {pc : Nat} {lv : List (Nat × Value)} {st : List Value} {w : va_W}
theorem Z.perm {w' : va_W} (is : List Nat) (h1 : va_nd is = true) (h2 : is.map (fun i => w[i]?) = w'.map some) (k : Z p l e R s m args below meth c D A nL cells slots Q pc lv st w') : Z p l e R s m args below meth c D A nL cells slots Q pc lv st w := fun H locs ls hP hD hS hv => k H locs ls (hP.sub is (z_fm _ _ _ h2)) (hD.sub is h1 h2) hS hv
theorem Z.widen {k n : Nat} (h1 : cells ≤ k) (h2 : slots ≤ n) (kk : Z p l e R s m args below meth c D A nL k n Q pc lv st w) : Z p l e R s m args below meth c D A nL cells slots Q pc lv st w := fun H locs ls hP hD hS hv => W.widen h1 h2 (kk H locs ls hP hD hS hv)
theorem Z.iret (hX : Zf p m c cc nL s args own D tys A) {mc ms : Nat} {post : Int32 → va_W → Prop} {v : Int32} (hr : meth.sig.returnType = some .int) (hlk : meth.locks = false) (hd : decode cc pc = .ok (.ireturn, 1)) (h : post v w) : Z p l e R s m args below meth c D A nL mc ms (MQ below (QI D tys post A) args s mc ms A) pc lv [.int v] w := fun H locs ls hP hD hS hv => W.iret hX.1 hX.2.1 hr (fun t ht hW => ⟨⟨v, w, rfl, h, by rw [ht]; exact hP, va_K.moved hW.alike hX.2.2.2.2.2.1, hD⟩, hS.F ht⟩) hS.2.2 hd hlk
theorem Z.zret (hX : Zf p m c cc nL s args own D tys A) {mc ms : Nat} {post : Int32 → va_W → Prop} {v : Int32} (hr : meth.sig.returnType = some .boolean) (hlk : meth.locks = false) (hd : decode cc pc = .ok (.ireturn, 1)) (hn : narrow .boolean (.int v) = .int v) (h : post v w) : Z p l e R s m args below meth c D A nL mc ms (MQ below (QI D tys post A) args s mc ms A) pc lv [.int v] w := fun H locs ls hP hD hS hv => W.zret hX.1 hX.2.1 hr hn (fun t ht hW => ⟨⟨v, w, rfl, h, by rw [ht]; exact hP, va_K.moved hW.alike hX.2.2.2.2.2.1, hD⟩, hS.F ht⟩) hS.2.2 hd hlk
theorem Z.lret (hX : Zf p m c cc nL s args own D tys A) {mc ms : Nat} {post : Int64 → va_W → Prop} {v : Int64} (hr : meth.sig.returnType = some .long) (hlk : meth.locks = false) (hd : decode cc pc = .ok (.lreturn, 1)) (h : post v w) : Z p l e R s m args below meth c D A nL mc ms (MQ below (QL D tys post A) args s mc ms A) pc lv [.long v] w := fun H locs ls hP hD hS hv => W.lret hX.1 hX.2.1 hr (fun t ht hW => ⟨⟨v, w, rfl, h, by rw [ht]; exact hP, va_K.moved hW.alike hX.2.2.2.2.2.1, hD⟩, hS.F ht⟩) hS.2.2 hd hlk
theorem Z.vret (hX : Zf p m c cc nL s args own D tys A) {mc ms : Nat} {post : va_W → Prop} (hr : meth.sig.returnType = none) (hlk : meth.locks = false) (hd : decode cc pc = .ok (.return_, 1)) (h : post w) : Z p l e R s m args below meth c D A nL mc ms (MQ below (QV D tys post A) args s mc ms A) pc lv [] w := fun H locs ls hP hD hS hv => W.vret hX.1 hX.2.1 hr (fun t ht hW => ⟨⟨w, rfl, h, by rw [ht]; exact hP, va_K.moved hW.alike hX.2.2.2.2.2.1, hD⟩, hS.F ht⟩) hS.2.2 hd hlk
theorem Z.callSi (hX : Zf p m c cc nL s args own D tys A) {y : MethodName} {bytes : ByteArray} {maxL mc ms index : Nat} {ret : Option FieldType} {rm : Room} {As rest : List Value} {wc wr : va_W} {post : Int32 → va_W → Prop}  (hM : Ct l y bytes maxL ret rm mc ms D tys As wc (QI D tys post)) (hcode : Cond.code y bytes maxL ret ∈ lw_g) (hlk : Cond.methodLink own index y ∈ lw_g) (hst : Cond.static y ∈ lw_g) (hini : Cond.initialized y.cls ∈ lw_g) (hdd : y.cls ≠ "java/lang/invoke/MethodHandle" ∧ y.cls ≠ "java/lang/invoke/VarHandle" ∧ (parseMethodDescriptor y.desc).map (fun d => d.parameters.length) = some As.length) (hR : rm.frames + 1 ≤ R.frames ∧ 8 + (maxL + 11) + rm.locals ≤ R.locals) (hcs : rm.cells = mc ∧ rm.slots = ms) (hroom : cells + mc ≤ R.cells ∧ slots + ms ≤ R.slots) (isC isR : List Nat) (hC : isC.map (fun i => w[i]?) = wc.map some) (hRr : isR.map (fun i => w[i]?) = wr.map some) (hnc : va_nd isC = true) (hnd : va_nd isR = true) (hdis : ∀ i ∈ isR, i ∉ isC) (hstk : st = As.reverse ++ rest) (hcat : (rest.map fun v => v.category).sum ≤ 8) (hd : decode cc pc = .ok (.invokestatic index, 3)) (k : ∀ (r : Int32) (w1 : va_W), post r w1 → Z p l e R s m args below meth c D A nL (cells + mc) (slots + ms) Q (pc + 3) lv (.int r :: rest) (wr ++ w1)) : Z p l e R s m args below meth c D A nL cells slots Q pc lv st w := by
  intro H locs ls hP hD hS hv
  obtain ⟨hx, hb, hml, hown, hts, hK, hA, hN⟩ := id hX
  have hPc := hP.sub isC (z_fm _ _ _ hC)
  have hDc := hD.sub isC hnc hC
  have hFc := va_free (wc := wc) hD hS hA isC hC
  have hCB : CallB R s args own index y bytes maxL ret (.code y bytes maxL ret :: lw_g) rm mc ms As.length := callB_of As.length hts (z_goodC hcode) rfl hcs.1 hcs.2 (hts _ hini) (hts _ hlk) hdd hR
  refine va_calli (va_runS (As := As) (rest := rest) ⟨hx, hb, hml, hown, hts⟩ (hM H.size) ⟨hCB, hts _ hst⟩ ⟨fun a U g mk q => by obtain ⟨q0, q1, qP, qK, qD, qN⟩ := q; exact ⟨q0, q1, qP, va_K.moved (u := U) (U := U.calling g mk a) (Vm.Alike.refl U.vm) qK, qD, NW.same qN rfl⟩, fun U hU hW => ⟨rfl, by rw [hU], by rw [hU]; exact hPc, va_K.moved hW.alike hK, hDc.weaken (fun _ _ _ _ => trivial), hN.warm hW⟩⟩ rfl rfl hv.1 hstk (lv_room hcat) hd hroom) hS (fun q _ h => hFc q h) hFc (fun r u t H1 locs1 ht hvm hw hB hz1 hk1 hS1 => ?_)
  obtain ⟨hP1, hK1, hD1⟩ := hB
  rw [ht] at hP1
  obtain ⟨hP2, hD2⟩ := va_join (wr := wr) (w1 := u) hP hD isC isR hC hRr hnd hdis hk1 hFc hP1 hD1
  exact k r u hw H1 locs1 ls hP2 hD2 hS1 hv
theorem Z.callVi (hX : Zf p m c cc nL s args own D tys A) {y : MethodName} {bytes : ByteArray} {maxL mc ms index : Nat} {ret : Option FieldType} {rm : Room} {As rest : List Value} {wc wr : va_W} {post : Int32 → va_W → Prop} {C : String} {T : u_T} {N b : Nat} {fs : List Value} (ci qb : Nat) (hci : vwCl[ci]? = some (C, T, N)) (hqb : wc[qb]? = some (b, .inr (ci, fs))) (hM : Ct l y bytes maxL ret rm mc ms D tys (.ref b :: As) wc (QI D tys post)) (hcode : Cond.code y bytes maxL ret ∈ lw_g) (hlk : Cond.methodLink own index y ∈ lw_g) (hins : Cond.instanceMethod y ∈ lw_g) (hsel : Cond.selects C y y ∈ lw_g) (hini : Cond.initialized y.cls ∈ lw_g) (hdd : y.cls ≠ "java/lang/invoke/MethodHandle" ∧ y.cls ≠ "java/lang/invoke/VarHandle" ∧ (parseMethodDescriptor y.desc).map (fun d => d.parameters.length) = some As.length) (hR : rm.frames + 1 ≤ R.frames ∧ 8 + (maxL + 11) + rm.locals ≤ R.locals) (hcs : rm.cells = mc ∧ rm.slots = ms) (hroom : cells + mc ≤ R.cells ∧ slots + ms ≤ R.slots) (isC isR : List Nat) (hC : isC.map (fun i => w[i]?) = wc.map some) (hRr : isR.map (fun i => w[i]?) = wr.map some) (hnc : va_nd isC = true) (hnd : va_nd isR = true) (hdis : ∀ i ∈ isR, i ∉ isC) (hstk : st = As.reverse ++ .ref b :: rest) (hcat : (rest.map fun v => v.category).sum ≤ 8) (hd : decode cc pc = .ok (.invokevirtual index, 3)) (k : ∀ (r : Int32) (w1 : va_W), post r w1 → Z p l e R s m args below meth c D A nL (cells + mc) (slots + ms) Q (pc + 3) lv (.int r :: rest) (wr ++ w1)) : Z p l e R s m args below meth c D A nL cells slots Q pc lv st w := by
  intro H locs ls hP hD hS hv
  obtain ⟨hx, hb, hml, hown, hts, hK, hA, hN⟩ := id hX
  have hPc := hP.sub isC (z_fm _ _ _ hC)
  have hDc := hD.sub isC hnc hC
  have hFc := va_free (wc := wc) hD hS hA isC hC
  have hCB : CallB R s args own index y bytes maxL ret (.code y bytes maxL ret :: lw_g) rm mc ms As.length := callB_of As.length hts (z_goodC hcode) rfl hcs.1 hcs.2 (hts _ hini) (hts _ hlk) hdd hR
  refine va_calli (va_runV (C := C) (b := b) (As := As) (rest := rest) ⟨hx, hb, hml, hown, hts⟩ (hM H.size) ⟨hCB, hts _ hins, hts _ hsel⟩ ⟨fun a U g mk q => by obtain ⟨q0, q1, qP, qK, qD, qN⟩ := q; exact ⟨q0, q1, qP, va_K.moved (u := U) (U := U.calling g mk a) (Vm.Alike.refl U.vm) qK, qD, NW.same qN rfl⟩, va_recv hK hPc (ci := ci) (q0 := qb) hci hqb, fun U hU hW => ⟨rfl, by rw [hU], by rw [hU]; exact hPc, va_K.moved hW.alike hK, hDc.weaken (fun _ _ _ _ => trivial), hN.warm hW⟩⟩ rfl rfl hv.1 hstk (lv_room hcat) hd hroom) hS (fun q _ h => hFc q h) hFc (fun r u t H1 locs1 ht hvm hw hB hz1 hk1 hS1 => ?_)
  obtain ⟨hP1, hK1, hD1⟩ := hB
  rw [ht] at hP1
  obtain ⟨hP2, hD2⟩ := va_join (wr := wr) (w1 := u) hP hD isC isR hC hRr hnd hdis hk1 hFc hP1 hD1
  exact k r u hw H1 locs1 ls hP2 hD2 hS1 hv
theorem Z.callSl (hX : Zf p m c cc nL s args own D tys A) {y : MethodName} {bytes : ByteArray} {maxL mc ms index : Nat} {ret : Option FieldType} {rm : Room} {As rest : List Value} {wc wr : va_W} {post : Int64 → va_W → Prop}  (hM : Ct l y bytes maxL ret rm mc ms D tys As wc (QL D tys post)) (hcode : Cond.code y bytes maxL ret ∈ lw_g) (hlk : Cond.methodLink own index y ∈ lw_g) (hst : Cond.static y ∈ lw_g) (hini : Cond.initialized y.cls ∈ lw_g) (hdd : y.cls ≠ "java/lang/invoke/MethodHandle" ∧ y.cls ≠ "java/lang/invoke/VarHandle" ∧ (parseMethodDescriptor y.desc).map (fun d => d.parameters.length) = some As.length) (hR : rm.frames + 1 ≤ R.frames ∧ 8 + (maxL + 11) + rm.locals ≤ R.locals) (hcs : rm.cells = mc ∧ rm.slots = ms) (hroom : cells + mc ≤ R.cells ∧ slots + ms ≤ R.slots) (isC isR : List Nat) (hC : isC.map (fun i => w[i]?) = wc.map some) (hRr : isR.map (fun i => w[i]?) = wr.map some) (hnc : va_nd isC = true) (hnd : va_nd isR = true) (hdis : ∀ i ∈ isR, i ∉ isC) (hstk : st = As.reverse ++ rest) (hcat : (rest.map fun v => v.category).sum ≤ 8) (hd : decode cc pc = .ok (.invokestatic index, 3)) (k : ∀ (r : Int64) (w1 : va_W), post r w1 → Z p l e R s m args below meth c D A nL (cells + mc) (slots + ms) Q (pc + 3) lv (.long r :: rest) (wr ++ w1)) : Z p l e R s m args below meth c D A nL cells slots Q pc lv st w := by
  intro H locs ls hP hD hS hv
  obtain ⟨hx, hb, hml, hown, hts, hK, hA, hN⟩ := id hX
  have hPc := hP.sub isC (z_fm _ _ _ hC)
  have hDc := hD.sub isC hnc hC
  have hFc := va_free (wc := wc) hD hS hA isC hC
  have hCB : CallB R s args own index y bytes maxL ret (.code y bytes maxL ret :: lw_g) rm mc ms As.length := callB_of As.length hts (z_goodC hcode) rfl hcs.1 hcs.2 (hts _ hini) (hts _ hlk) hdd hR
  refine va_calll (va_runS (As := As) (rest := rest) ⟨hx, hb, hml, hown, hts⟩ (hM H.size) ⟨hCB, hts _ hst⟩ ⟨fun a U g mk q => by obtain ⟨q0, q1, qP, qK, qD, qN⟩ := q; exact ⟨q0, q1, qP, va_K.moved (u := U) (U := U.calling g mk a) (Vm.Alike.refl U.vm) qK, qD, NW.same qN rfl⟩, fun U hU hW => ⟨rfl, by rw [hU], by rw [hU]; exact hPc, va_K.moved hW.alike hK, hDc.weaken (fun _ _ _ _ => trivial), hN.warm hW⟩⟩ rfl rfl hv.1 hstk (lv_room hcat) hd hroom) hS (fun q _ h => hFc q h) hFc (fun r u t H1 locs1 ht hvm hw hB hz1 hk1 hS1 => ?_)
  obtain ⟨hP1, hK1, hD1⟩ := hB
  rw [ht] at hP1
  obtain ⟨hP2, hD2⟩ := va_join (wr := wr) (w1 := u) hP hD isC isR hC hRr hnd hdis hk1 hFc hP1 hD1
  exact k r u hw H1 locs1 ls hP2 hD2 hS1 hv
theorem Z.callVl (hX : Zf p m c cc nL s args own D tys A) {y : MethodName} {bytes : ByteArray} {maxL mc ms index : Nat} {ret : Option FieldType} {rm : Room} {As rest : List Value} {wc wr : va_W} {post : Int64 → va_W → Prop} {C : String} {T : u_T} {N b : Nat} {fs : List Value} (ci qb : Nat) (hci : vwCl[ci]? = some (C, T, N)) (hqb : wc[qb]? = some (b, .inr (ci, fs))) (hM : Ct l y bytes maxL ret rm mc ms D tys (.ref b :: As) wc (QL D tys post)) (hcode : Cond.code y bytes maxL ret ∈ lw_g) (hlk : Cond.methodLink own index y ∈ lw_g) (hins : Cond.instanceMethod y ∈ lw_g) (hsel : Cond.selects C y y ∈ lw_g) (hini : Cond.initialized y.cls ∈ lw_g) (hdd : y.cls ≠ "java/lang/invoke/MethodHandle" ∧ y.cls ≠ "java/lang/invoke/VarHandle" ∧ (parseMethodDescriptor y.desc).map (fun d => d.parameters.length) = some As.length) (hR : rm.frames + 1 ≤ R.frames ∧ 8 + (maxL + 11) + rm.locals ≤ R.locals) (hcs : rm.cells = mc ∧ rm.slots = ms) (hroom : cells + mc ≤ R.cells ∧ slots + ms ≤ R.slots) (isC isR : List Nat) (hC : isC.map (fun i => w[i]?) = wc.map some) (hRr : isR.map (fun i => w[i]?) = wr.map some) (hnc : va_nd isC = true) (hnd : va_nd isR = true) (hdis : ∀ i ∈ isR, i ∉ isC) (hstk : st = As.reverse ++ .ref b :: rest) (hcat : (rest.map fun v => v.category).sum ≤ 8) (hd : decode cc pc = .ok (.invokevirtual index, 3)) (k : ∀ (r : Int64) (w1 : va_W), post r w1 → Z p l e R s m args below meth c D A nL (cells + mc) (slots + ms) Q (pc + 3) lv (.long r :: rest) (wr ++ w1)) : Z p l e R s m args below meth c D A nL cells slots Q pc lv st w := by
  intro H locs ls hP hD hS hv
  obtain ⟨hx, hb, hml, hown, hts, hK, hA, hN⟩ := id hX
  have hPc := hP.sub isC (z_fm _ _ _ hC)
  have hDc := hD.sub isC hnc hC
  have hFc := va_free (wc := wc) hD hS hA isC hC
  have hCB : CallB R s args own index y bytes maxL ret (.code y bytes maxL ret :: lw_g) rm mc ms As.length := callB_of As.length hts (z_goodC hcode) rfl hcs.1 hcs.2 (hts _ hini) (hts _ hlk) hdd hR
  refine va_calll (va_runV (C := C) (b := b) (As := As) (rest := rest) ⟨hx, hb, hml, hown, hts⟩ (hM H.size) ⟨hCB, hts _ hins, hts _ hsel⟩ ⟨fun a U g mk q => by obtain ⟨q0, q1, qP, qK, qD, qN⟩ := q; exact ⟨q0, q1, qP, va_K.moved (u := U) (U := U.calling g mk a) (Vm.Alike.refl U.vm) qK, qD, NW.same qN rfl⟩, va_recv hK hPc (ci := ci) (q0 := qb) hci hqb, fun U hU hW => ⟨rfl, by rw [hU], by rw [hU]; exact hPc, va_K.moved hW.alike hK, hDc.weaken (fun _ _ _ _ => trivial), hN.warm hW⟩⟩ rfl rfl hv.1 hstk (lv_room hcat) hd hroom) hS (fun q _ h => hFc q h) hFc (fun r u t H1 locs1 ht hvm hw hB hz1 hk1 hS1 => ?_)
  obtain ⟨hP1, hK1, hD1⟩ := hB
  rw [ht] at hP1
  obtain ⟨hP2, hD2⟩ := va_join (wr := wr) (w1 := u) hP hD isC isR hC hRr hnd hdis hk1 hFc hP1 hD1
  exact k r u hw H1 locs1 ls hP2 hD2 hS1 hv
theorem Z.callSv (hX : Zf p m c cc nL s args own D tys A) {y : MethodName} {bytes : ByteArray} {maxL mc ms index : Nat} {ret : Option FieldType} {rm : Room} {As rest : List Value} {wc wr : va_W} {post : va_W → Prop}  (hM : Ct l y bytes maxL ret rm mc ms D tys As wc (QV D tys post)) (hcode : Cond.code y bytes maxL ret ∈ lw_g) (hlk : Cond.methodLink own index y ∈ lw_g) (hst : Cond.static y ∈ lw_g) (hini : Cond.initialized y.cls ∈ lw_g) (hdd : y.cls ≠ "java/lang/invoke/MethodHandle" ∧ y.cls ≠ "java/lang/invoke/VarHandle" ∧ (parseMethodDescriptor y.desc).map (fun d => d.parameters.length) = some As.length) (hR : rm.frames + 1 ≤ R.frames ∧ 8 + (maxL + 11) + rm.locals ≤ R.locals) (hcs : rm.cells = mc ∧ rm.slots = ms) (hroom : cells + mc ≤ R.cells ∧ slots + ms ≤ R.slots) (isC isR : List Nat) (hC : isC.map (fun i => w[i]?) = wc.map some) (hRr : isR.map (fun i => w[i]?) = wr.map some) (hnc : va_nd isC = true) (hnd : va_nd isR = true) (hdis : ∀ i ∈ isR, i ∉ isC) (hstk : st = As.reverse ++ rest) (hcat : (rest.map fun v => v.category).sum ≤ 8) (hd : decode cc pc = .ok (.invokestatic index, 3)) (k : ∀ (w1 : va_W), post w1 → Z p l e R s m args below meth c D A nL (cells + mc) (slots + ms) Q (pc + 3) lv (rest) (wr ++ w1)) : Z p l e R s m args below meth c D A nL cells slots Q pc lv st w := by
  intro H locs ls hP hD hS hv
  obtain ⟨hx, hb, hml, hown, hts, hK, hA, hN⟩ := id hX
  have hPc := hP.sub isC (z_fm _ _ _ hC)
  have hDc := hD.sub isC hnc hC
  have hFc := va_free (wc := wc) hD hS hA isC hC
  have hCB : CallB R s args own index y bytes maxL ret (.code y bytes maxL ret :: lw_g) rm mc ms As.length := callB_of As.length hts (z_goodC hcode) rfl hcs.1 hcs.2 (hts _ hini) (hts _ hlk) hdd hR
  refine va_callv (va_runS (As := As) (rest := rest) ⟨hx, hb, hml, hown, hts⟩ (hM H.size) ⟨hCB, hts _ hst⟩ ⟨fun a U g mk q => by obtain ⟨q0, q1, qP, qK, qD, qN⟩ := q; exact ⟨q0, q1, qP, va_K.moved (u := U) (U := U.calling g mk a) (Vm.Alike.refl U.vm) qK, qD, NW.same qN rfl⟩, fun U hU hW => ⟨rfl, by rw [hU], by rw [hU]; exact hPc, va_K.moved hW.alike hK, hDc.weaken (fun _ _ _ _ => trivial), hN.warm hW⟩⟩ rfl rfl hv.1 hstk (lv_room hcat) hd hroom) hS (fun q _ h => hFc q h) hFc (fun u t H1 locs1 ht hvm hw hB hz1 hk1 hS1 => ?_)
  obtain ⟨hP1, hK1, hD1⟩ := hB
  rw [ht] at hP1
  obtain ⟨hP2, hD2⟩ := va_join (wr := wr) (w1 := u) hP hD isC isR hC hRr hnd hdis hk1 hFc hP1 hD1
  exact k u hw H1 locs1 ls hP2 hD2 hS1 hv
theorem Z.callVv (hX : Zf p m c cc nL s args own D tys A) {y : MethodName} {bytes : ByteArray} {maxL mc ms index : Nat} {ret : Option FieldType} {rm : Room} {As rest : List Value} {wc wr : va_W} {post : va_W → Prop} {C : String} {T : u_T} {N b : Nat} {fs : List Value} (ci qb : Nat) (hci : vwCl[ci]? = some (C, T, N)) (hqb : wc[qb]? = some (b, .inr (ci, fs))) (hM : Ct l y bytes maxL ret rm mc ms D tys (.ref b :: As) wc (QV D tys post)) (hcode : Cond.code y bytes maxL ret ∈ lw_g) (hlk : Cond.methodLink own index y ∈ lw_g) (hins : Cond.instanceMethod y ∈ lw_g) (hsel : Cond.selects C y y ∈ lw_g) (hini : Cond.initialized y.cls ∈ lw_g) (hdd : y.cls ≠ "java/lang/invoke/MethodHandle" ∧ y.cls ≠ "java/lang/invoke/VarHandle" ∧ (parseMethodDescriptor y.desc).map (fun d => d.parameters.length) = some As.length) (hR : rm.frames + 1 ≤ R.frames ∧ 8 + (maxL + 11) + rm.locals ≤ R.locals) (hcs : rm.cells = mc ∧ rm.slots = ms) (hroom : cells + mc ≤ R.cells ∧ slots + ms ≤ R.slots) (isC isR : List Nat) (hC : isC.map (fun i => w[i]?) = wc.map some) (hRr : isR.map (fun i => w[i]?) = wr.map some) (hnc : va_nd isC = true) (hnd : va_nd isR = true) (hdis : ∀ i ∈ isR, i ∉ isC) (hstk : st = As.reverse ++ .ref b :: rest) (hcat : (rest.map fun v => v.category).sum ≤ 8) (hd : decode cc pc = .ok (.invokevirtual index, 3)) (k : ∀ (w1 : va_W), post w1 → Z p l e R s m args below meth c D A nL (cells + mc) (slots + ms) Q (pc + 3) lv (rest) (wr ++ w1)) : Z p l e R s m args below meth c D A nL cells slots Q pc lv st w := by
  intro H locs ls hP hD hS hv
  obtain ⟨hx, hb, hml, hown, hts, hK, hA, hN⟩ := id hX
  have hPc := hP.sub isC (z_fm _ _ _ hC)
  have hDc := hD.sub isC hnc hC
  have hFc := va_free (wc := wc) hD hS hA isC hC
  have hCB : CallB R s args own index y bytes maxL ret (.code y bytes maxL ret :: lw_g) rm mc ms As.length := callB_of As.length hts (z_goodC hcode) rfl hcs.1 hcs.2 (hts _ hini) (hts _ hlk) hdd hR
  refine va_callv (va_runV (C := C) (b := b) (As := As) (rest := rest) ⟨hx, hb, hml, hown, hts⟩ (hM H.size) ⟨hCB, hts _ hins, hts _ hsel⟩ ⟨fun a U g mk q => by obtain ⟨q0, q1, qP, qK, qD, qN⟩ := q; exact ⟨q0, q1, qP, va_K.moved (u := U) (U := U.calling g mk a) (Vm.Alike.refl U.vm) qK, qD, NW.same qN rfl⟩, va_recv hK hPc (ci := ci) (q0 := qb) hci hqb, fun U hU hW => ⟨rfl, by rw [hU], by rw [hU]; exact hPc, va_K.moved hW.alike hK, hDc.weaken (fun _ _ _ _ => trivial), hN.warm hW⟩⟩ rfl rfl hv.1 hstk (lv_room hcat) hd hroom) hS (fun q _ h => hFc q h) hFc (fun u t H1 locs1 ht hvm hw hB hz1 hk1 hS1 => ?_)
  obtain ⟨hP1, hK1, hD1⟩ := hB
  rw [ht] at hP1
  obtain ⟨hP2, hD2⟩ := va_join (wr := wr) (w1 := u) hP hD isC isR hC hRr hnd hdis hk1 hFc hP1 hD1
  exact k u hw H1 locs1 ls hP2 hD2 hS1 hv
theorem Z.callIv (hX : Zf p m c cc nL s args own D tys A) {y : MethodName} {bytes : ByteArray} {maxL mc ms index : Nat} {ret : Option FieldType} {rm : Room} {As rest : List Value} {wc wr : va_W} {post : va_W → Prop} {b : Nat} (hM : Ct l y bytes maxL none rm mc ms D tys (.ref b :: As) wc (QV D tys post)) (hcode : Cond.code y bytes maxL none ∈ lw_g) (hlk : Cond.methodLink own index y ∈ lw_g) (hnm : y.name = "<init>") (hins : Cond.instanceMethod y ∈ lw_g) (hini : Cond.initialized y.cls ∈ lw_g) (hdd : y.cls ≠ "java/lang/invoke/MethodHandle" ∧ y.cls ≠ "java/lang/invoke/VarHandle" ∧ (parseMethodDescriptor y.desc).map (fun d => d.parameters.length) = some As.length) (hR : rm.frames + 1 ≤ R.frames ∧ 8 + (maxL + 11) + rm.locals ≤ R.locals) (hcs : rm.cells = mc ∧ rm.slots = ms) (hroom : cells + mc ≤ R.cells ∧ slots + ms ≤ R.slots) (isC isR : List Nat) (hC : isC.map (fun i => w[i]?) = wc.map some) (hRr : isR.map (fun i => w[i]?) = wr.map some) (hnc : va_nd isC = true) (hnd : va_nd isR = true) (hdis : ∀ i ∈ isR, i ∉ isC) (hstk : st = As.reverse ++ .ref b :: rest) (hcat : (rest.map fun v => v.category).sum ≤ 8) (hd : decode cc pc = .ok (.invokespecial index, 3)) (k : ∀ (w1 : va_W), post w1 → Z p l e R s m args below meth c D A nL (cells + mc) (slots + ms) Q (pc + 3) lv (rest) (wr ++ w1)) : Z p l e R s m args below meth c D A nL cells slots Q pc lv st w := by
  intro H locs ls hP hD hS hv
  obtain ⟨hx, hb, hml, hown, hts, hK, hA, hN⟩ := id hX
  have hPc := hP.sub isC (z_fm _ _ _ hC)
  have hDc := hD.sub isC hnc hC
  have hFc := va_free (wc := wc) hD hS hA isC hC
  have hCB : CallB R s args own index y bytes maxL none (.code y bytes maxL none :: lw_g) rm mc ms As.length := callB_of As.length hts (z_goodC hcode) rfl hcs.1 hcs.2 (hts _ hini) (hts _ hlk) hdd hR
  refine va_callv (va_runI (b := b) (As := As) (rest := rest) ⟨hx, hb, hml, hown, hts⟩ (hM H.size) ⟨hCB, hnm, hts _ hins⟩ ⟨fun a U g mk q => by obtain ⟨q0, q1, qP, qK, qD, qN⟩ := q; exact ⟨q0, q1, qP, va_K.moved (u := U) (U := U.calling g mk a) (Vm.Alike.refl U.vm) qK, qD, NW.same qN rfl⟩, fun U hU hW => ⟨rfl, by rw [hU], by rw [hU]; exact hPc, va_K.moved hW.alike hK, hDc.weaken (fun _ _ _ _ => trivial), hN.warm hW⟩⟩ rfl rfl hv.1 hstk (lv_room hcat) hd hroom) hS (fun q _ h => hFc q h) hFc (fun u t H1 locs1 ht hvm hw hB hz1 hk1 hS1 => ?_)
  obtain ⟨hP1, hK1, hD1⟩ := hB
  rw [ht] at hP1
  obtain ⟨hP2, hD2⟩ := va_join (wr := wr) (w1 := u) hP hD isC isR hC hRr hnd hdis hk1 hFc hP1 hD1
  exact k u hw H1 locs1 ls hP2 hD2 hS1 hv
end ZR3
end
section
theorem Ct.ofI {l : Launch} {y : MethodName} {cc : ByteArray} {nL : Nat} {rm : Room} {mc ms : Nat} {D : va_G} {tys : List (ClassId × FieldType)} {avs : List Value} {w : va_W} {post : Int32 → va_W → Prop} (hy : plainName y.cls = true) (hlen : (lg_sl avs).length ≤ nL)
    (body : ∀ (p : Program) (e : Env) (s : State) (m : MethodId) (args : Array Value) (below : List Frame) (meth : Method) (c : Code) (A : Nat → Prop) (Q : State → Prop), Zf p m c cc nL s args y.cls D tys A → meth.name = y.name → (∀ (pc : Nat) (lv : List (Nat × Value)) (v : Int32) (w1 : va_W), decode cc pc = .ok (.ireturn, 1) → post v w1 → Z p l e rm s m args below meth c D A nL mc ms Q pc lv [.int v] w1) → Z p l e rm s m args below meth c D A nL 0 0 Q 0 (lv_args 0 avs) [] w) : Ct l y cc nL (some .int) rm mc ms D tys avs w (QI D tys post) := by
  intro sz
  refine Met.ofW (cc := cc) (maxL := nL) (ret := (some .int)) hy rfl ?_
  intro p e s m args below meth c s₁ B hml hv
  obtain ⟨rfl, hsz, hP, hK, hD0, hN⟩ := hv
  subst hsz
  have hts := atoms_spec (ws := .code y cc nL (some .int) :: lw_g) B.pre
  have hX : Zf p m c cc nL s avs.toArray y.cls D tys (va_A w s.heap.size) := ⟨B.exec, B.bytes, hml, findClass_of_methodNamed B.named, fun x hx => hts x (List.mem_cons_of_mem _ hx), hK, fun q h => Or.inr h, hN⟩
  have hnm : meth.name = y.name := (name_of_methodNamed B.named B.method).1
  rw [lg_entry_eq]
  exact body p e s m avs.toArray below meth c (va_A w s.heap.size) _ hX hnm (fun pc lv v w1 hd h => Z.iret hX B.returns B.notSynchronized hd h) s.heap [] _ hP hD0.self va_S.rf (lv_entry avs hlen)
theorem Ct.ofB {l : Launch} {y : MethodName} {cc : ByteArray} {nL : Nat} {rm : Room} {mc ms : Nat} {D : va_G} {tys : List (ClassId × FieldType)} {avs : List Value} {w : va_W} {post : Int32 → va_W → Prop} (hy : plainName y.cls = true) (hlen : (lg_sl avs).length ≤ nL)
    (body : ∀ (p : Program) (e : Env) (s : State) (m : MethodId) (args : Array Value) (below : List Frame) (meth : Method) (c : Code) (A : Nat → Prop) (Q : State → Prop), Zf p m c cc nL s args y.cls D tys A → meth.name = y.name → (∀ (pc : Nat) (lv : List (Nat × Value)) (v : Int32) (w1 : va_W), decode cc pc = .ok (.ireturn, 1) → narrow .boolean (.int v) = .int v → post v w1 → Z p l e rm s m args below meth c D A nL mc ms Q pc lv [.int v] w1) → Z p l e rm s m args below meth c D A nL 0 0 Q 0 (lv_args 0 avs) [] w) : Ct l y cc nL (some .boolean) rm mc ms D tys avs w (QI D tys post) := by
  intro sz
  refine Met.ofW (cc := cc) (maxL := nL) (ret := (some .boolean)) hy rfl ?_
  intro p e s m args below meth c s₁ B hml hv
  obtain ⟨rfl, hsz, hP, hK, hD0, hN⟩ := hv
  subst hsz
  have hts := atoms_spec (ws := .code y cc nL (some .boolean) :: lw_g) B.pre
  have hX : Zf p m c cc nL s avs.toArray y.cls D tys (va_A w s.heap.size) := ⟨B.exec, B.bytes, hml, findClass_of_methodNamed B.named, fun x hx => hts x (List.mem_cons_of_mem _ hx), hK, fun q h => Or.inr h, hN⟩
  have hnm : meth.name = y.name := (name_of_methodNamed B.named B.method).1
  rw [lg_entry_eq]
  exact body p e s m avs.toArray below meth c (va_A w s.heap.size) _ hX hnm (fun pc lv v w1 hd hn h => Z.zret hX B.returns B.notSynchronized hd hn h) s.heap [] _ hP hD0.self va_S.rf (lv_entry avs hlen)
theorem Ct.ofL {l : Launch} {y : MethodName} {cc : ByteArray} {nL : Nat} {rm : Room} {mc ms : Nat} {D : va_G} {tys : List (ClassId × FieldType)} {avs : List Value} {w : va_W} {post : Int64 → va_W → Prop} (hy : plainName y.cls = true) (hlen : (lg_sl avs).length ≤ nL)
    (body : ∀ (p : Program) (e : Env) (s : State) (m : MethodId) (args : Array Value) (below : List Frame) (meth : Method) (c : Code) (A : Nat → Prop) (Q : State → Prop), Zf p m c cc nL s args y.cls D tys A → meth.name = y.name → (∀ (pc : Nat) (lv : List (Nat × Value)) (v : Int64) (w1 : va_W), decode cc pc = .ok (.lreturn, 1) → post v w1 → Z p l e rm s m args below meth c D A nL mc ms Q pc lv [.long v] w1) → Z p l e rm s m args below meth c D A nL 0 0 Q 0 (lv_args 0 avs) [] w) : Ct l y cc nL (some .long) rm mc ms D tys avs w (QL D tys post) := by
  intro sz
  refine Met.ofW (cc := cc) (maxL := nL) (ret := (some .long)) hy rfl ?_
  intro p e s m args below meth c s₁ B hml hv
  obtain ⟨rfl, hsz, hP, hK, hD0, hN⟩ := hv
  subst hsz
  have hts := atoms_spec (ws := .code y cc nL (some .long) :: lw_g) B.pre
  have hX : Zf p m c cc nL s avs.toArray y.cls D tys (va_A w s.heap.size) := ⟨B.exec, B.bytes, hml, findClass_of_methodNamed B.named, fun x hx => hts x (List.mem_cons_of_mem _ hx), hK, fun q h => Or.inr h, hN⟩
  have hnm : meth.name = y.name := (name_of_methodNamed B.named B.method).1
  rw [lg_entry_eq]
  exact body p e s m avs.toArray below meth c (va_A w s.heap.size) _ hX hnm (fun pc lv v w1 hd h => Z.lret hX B.returns B.notSynchronized hd h) s.heap [] _ hP hD0.self va_S.rf (lv_entry avs hlen)
theorem Ct.ofV {l : Launch} {y : MethodName} {cc : ByteArray} {nL : Nat} {rm : Room} {mc ms : Nat} {D : va_G} {tys : List (ClassId × FieldType)} {avs : List Value} {w : va_W} {post : va_W → Prop} (hy : plainName y.cls = true) (hlen : (lg_sl avs).length ≤ nL)
    (body : ∀ (p : Program) (e : Env) (s : State) (m : MethodId) (args : Array Value) (below : List Frame) (meth : Method) (c : Code) (A : Nat → Prop) (Q : State → Prop), Zf p m c cc nL s args y.cls D tys A → meth.name = y.name → (∀ (pc : Nat) (lv : List (Nat × Value)) (w1 : va_W), decode cc pc = .ok (.return_, 1) → post w1 → Z p l e rm s m args below meth c D A nL mc ms Q pc lv [] w1) → Z p l e rm s m args below meth c D A nL 0 0 Q 0 (lv_args 0 avs) [] w) : Ct l y cc nL none rm mc ms D tys avs w (QV D tys post) := by
  intro sz
  refine Met.ofW (cc := cc) (maxL := nL) (ret := none) hy rfl ?_
  intro p e s m args below meth c s₁ B hml hv
  obtain ⟨rfl, hsz, hP, hK, hD0, hN⟩ := hv
  subst hsz
  have hts := atoms_spec (ws := .code y cc nL none :: lw_g) B.pre
  have hX : Zf p m c cc nL s avs.toArray y.cls D tys (va_A w s.heap.size) := ⟨B.exec, B.bytes, hml, findClass_of_methodNamed B.named, fun x hx => hts x (List.mem_cons_of_mem _ hx), hK, fun q h => Or.inr h, hN⟩
  have hnm : meth.name = y.name := (name_of_methodNamed B.named B.method).1
  rw [lg_entry_eq]
  exact body p e s m avs.toArray below meth c (va_A w s.heap.size) _ hX hnm (fun pc lv w1 hd h => Z.vret hX B.returns B.notSynchronized hd h) s.heap [] _ hP hD0.self va_S.rf (lv_entry avs hlen)
theorem va_join1 {A0 : Nat → Prop} {D : va_G} {cl : List vw_C} {ws : va_W} {q a : Nat} {e0 e1 : va_E} {H H1 : Heap} (hP : va_P D cl ws H) (hD : va_D A0 ws) (hq : ws[q]? = some (a, e0)) (hk : ∀ x : Nat, x < H.size → ¬ va_A [(a, e0)] H.size x → H1[x]? = H[x]?) (hP1 : va_P D cl [(a, e1)] H1) : va_P D cl (ws.set q (a, e1)) H1 := by
  intro k x hx
  by_cases hkq : q = k
  · subst hkq
    have hl : q < ws.length := (List.getElem?_eq_some_iff.mp hq).1
    rw [List.getElem?_set_self hl] at hx
    cases hx
    exact hP1 0 _ rfl
  · rw [List.getElem?_set_ne hkq] at hx
    have h1 := hP k x hx
    refine h1.kept (hk x.1 h1.lt ?_)
    rintro (⟨j, e2, hj⟩ | h)
    · match j, hj with
      | 0, hj =>
        have hj2 : (a, e0) = (x.1, e2) := Option.some.inj hj
        have hax : x.1 = a := (Prod.mk.inj hj2).1.symm
        exact hkq (hD.1 q k (a, e0) x hq hx hax.symm)
      | j + 1, hj => cases hj
    · have := h1.lt
      omega
theorem z_rng {α : Type} : ∀ (w : List α), (List.range w.length).map (fun i => w[i]?) = w.map some := by
  intro w
  apply List.ext_getElem (by simp)
  intro i h1 h2
  simp at h1 h2 ⊢
theorem z_ndr (n : Nat) : va_nd (List.range n) = true := by
  have h : ∀ (l : List Nat), l.Nodup → va_nd l = true := by
    intro l hl
    induction l with
    | nil => rfl
    | cons a r ih =>
      have h2 := List.nodup_cons.mp hl
      simp [va_nd, ih h2.2, h2.1]
  exact h _ List.nodup_range
section ZR4
variable {p : Program} {l : Launch} {e : Env} {R : Room} {s : State} {m : MethodId} {args : Array Value} {below : List Frame} {meth : Method} {c : Code} {D : va_G} {A : Nat → Prop} {nL cells slots : Nat} {Q : State → Prop}
variable {cc : ByteArray} {own : String} {tys : List (ClassId × FieldType)} {pc : Nat} {lv : List (Nat × Value)} {st : List Value} {w : va_W}
theorem Z.pick {lv' : List (Nat × Value)} (ks : List Nat) (h : lv_pick lv ks = lv') (k : Z p l e R s m args below meth c D A nL cells slots Q pc lv' st w) : Z p l e R s m args below meth c D A nL cells slots Q pc lv st w := fun H locs ls hP hD hS hv => k H locs ls hP hD hS (lv_sub hv ks h)
theorem Z.callS0i (hX : Zf p m c cc nL s args own D tys A) {y : MethodName} {bytes : ByteArray} {maxL index : Nat} {ret : Option FieldType} {rm : Room} {As rest : List Value} {post : Int32 → va_W → Prop} (hM : Ct l y bytes maxL ret rm 0 0 D tys As [] (QI D tys post)) (hcode : Cond.code y bytes maxL ret ∈ lw_g) (hlk : Cond.methodLink own index y ∈ lw_g) (hst : Cond.static y ∈ lw_g) (hini : Cond.initialized y.cls ∈ lw_g) (hdd : y.cls ≠ "java/lang/invoke/MethodHandle" ∧ y.cls ≠ "java/lang/invoke/VarHandle" ∧ (parseMethodDescriptor y.desc).map (fun d => d.parameters.length) = some As.length) (hR : rm.frames + 1 ≤ R.frames ∧ 8 + (maxL + 11) + rm.locals ≤ R.locals) (hcs : rm.cells = 0 ∧ rm.slots = 0) (hroom : cells ≤ R.cells ∧ slots ≤ R.slots) (hstk : st = As.reverse ++ rest) (hcat : (rest.map fun v => v.category).sum ≤ 8) (hd : decode cc pc = .ok (.invokestatic index, 3)) (k : ∀ (r : Int32) (w1 : va_W), post r w1 → w1 = [] ∧ Z p l e R s m args below meth c D A nL cells slots Q (pc + 3) lv (.int r :: rest) w) : Z p l e R s m args below meth c D A nL cells slots Q pc lv st w :=
  Z.callSi hX hM hcode hlk hst hini hdd hR hcs hroom [] (List.range w.length) rfl (z_rng w) rfl (z_ndr _) (fun _ _ h => by cases h) hstk hcat hd (fun r w1 h => by
    obtain ⟨h1, h2⟩ := k r w1 h
    rw [h1, List.append_nil]
    exact h2)
theorem Z.callSfi (hX : Zf p m c cc nL s args own D tys A) {y : MethodName} {bytes : ByteArray} {maxL index : Nat} {ret : Option FieldType} {rm : Room} {As rest : List Value} {post : Int32 → va_W → Prop}  (hM : Ct l y bytes maxL ret rm 0 0 D tys As w (QI D tys post)) (hcode : Cond.code y bytes maxL ret ∈ lw_g) (hlk : Cond.methodLink own index y ∈ lw_g) (hst : Cond.static y ∈ lw_g) (hini : Cond.initialized y.cls ∈ lw_g) (hdd : y.cls ≠ "java/lang/invoke/MethodHandle" ∧ y.cls ≠ "java/lang/invoke/VarHandle" ∧ (parseMethodDescriptor y.desc).map (fun d => d.parameters.length) = some As.length) (hR : rm.frames + 1 ≤ R.frames ∧ 8 + (maxL + 11) + rm.locals ≤ R.locals) (hcs : rm.cells = 0 ∧ rm.slots = 0) (hroom : cells ≤ R.cells ∧ slots ≤ R.slots) (hstk : st = As.reverse ++ rest) (hcat : (rest.map fun v => v.category).sum ≤ 8) (hd : decode cc pc = .ok (.invokestatic index, 3)) (k : ∀ (r : Int32) (w1 : va_W), post r w1 → Z p l e R s m args below meth c D A nL cells slots Q (pc + 3) lv (.int r :: rest) w1) : Z p l e R s m args below meth c D A nL cells slots Q pc lv st w :=
  Z.callSi (wr := []) hX hM hcode hlk hst hini hdd hR hcs hroom (List.range w.length) [] (z_rng w) rfl (z_ndr _) rfl (fun _ h => by cases h) hstk hcat hd (fun r w1 h => k r w1 h)
theorem Z.callVfi (hX : Zf p m c cc nL s args own D tys A) {y : MethodName} {bytes : ByteArray} {maxL index : Nat} {ret : Option FieldType} {rm : Room} {As rest : List Value} {post : Int32 → va_W → Prop} {C : String} {T : u_T} {N b : Nat} {fs : List Value} (ci qb : Nat) (hci : vwCl[ci]? = some (C, T, N)) (hqb : w[qb]? = some (b, .inr (ci, fs))) (hM : Ct l y bytes maxL ret rm 0 0 D tys (.ref b :: As) w (QI D tys post)) (hcode : Cond.code y bytes maxL ret ∈ lw_g) (hlk : Cond.methodLink own index y ∈ lw_g) (hins : Cond.instanceMethod y ∈ lw_g) (hsel : Cond.selects C y y ∈ lw_g) (hini : Cond.initialized y.cls ∈ lw_g) (hdd : y.cls ≠ "java/lang/invoke/MethodHandle" ∧ y.cls ≠ "java/lang/invoke/VarHandle" ∧ (parseMethodDescriptor y.desc).map (fun d => d.parameters.length) = some As.length) (hR : rm.frames + 1 ≤ R.frames ∧ 8 + (maxL + 11) + rm.locals ≤ R.locals) (hcs : rm.cells = 0 ∧ rm.slots = 0) (hroom : cells ≤ R.cells ∧ slots ≤ R.slots) (hstk : st = As.reverse ++ .ref b :: rest) (hcat : (rest.map fun v => v.category).sum ≤ 8) (hd : decode cc pc = .ok (.invokevirtual index, 3)) (k : ∀ (r : Int32) (w1 : va_W), post r w1 → Z p l e R s m args below meth c D A nL cells slots Q (pc + 3) lv (.int r :: rest) w1) : Z p l e R s m args below meth c D A nL cells slots Q pc lv st w :=
  Z.callVi (wr := []) hX ci qb hci hqb hM hcode hlk hins hsel hini hdd hR hcs hroom (List.range w.length) [] (z_rng w) rfl (z_ndr _) rfl (fun _ h => by cases h) hstk hcat hd (fun r w1 h => k r w1 h)
theorem Z.callS1i (hX : Zf p m c cc nL s args own D tys A) {y : MethodName} {bytes : ByteArray} {maxL index : Nat} {ret : Option FieldType} {rm : Room} {As rest : List Value} {post : Int32 → va_W → Prop} (q0 : Nat) {a0 : Nat} {e0 : va_E} (hq0 : w[q0]? = some (a0, e0)) (hM : Ct l y bytes maxL ret rm 0 0 D tys As [(a0, e0)] (QI D tys post)) (hcode : Cond.code y bytes maxL ret ∈ lw_g) (hlk : Cond.methodLink own index y ∈ lw_g) (hst : Cond.static y ∈ lw_g) (hini : Cond.initialized y.cls ∈ lw_g) (hdd : y.cls ≠ "java/lang/invoke/MethodHandle" ∧ y.cls ≠ "java/lang/invoke/VarHandle" ∧ (parseMethodDescriptor y.desc).map (fun d => d.parameters.length) = some As.length) (hR : rm.frames + 1 ≤ R.frames ∧ 8 + (maxL + 11) + rm.locals ≤ R.locals) (hcs : rm.cells = 0 ∧ rm.slots = 0) (hroom : cells ≤ R.cells ∧ slots ≤ R.slots) (hstk : st = As.reverse ++ rest) (hcat : (rest.map fun v => v.category).sum ≤ 8) (hd : decode cc pc = .ok (.invokestatic index, 3)) (k : ∀ (r : Int32) (w1 : va_W), post r w1 → ∃ e1, w1 = [(a0, e1)] ∧ Z p l e R s m args below meth c D A nL cells slots Q (pc + 3) lv (.int r :: rest) (w.set q0 (a0, e1))) : Z p l e R s m args below meth c D A nL cells slots Q pc lv st w := by
  intro H locs ls hP hD hS hv
  obtain ⟨hx, hb, hml, hown, hts, hK, hA, hN⟩ := id hX
  have hC : [q0].map (fun i => w[i]?) = ([(a0, e0)] : va_W).map some := by rw [List.map_cons, hq0]; rfl
  have hPc := hP.sub [q0] (z_fm _ _ _ hC)
  have hDc := hD.sub [q0] rfl hC
  have hFc := va_free (wc := [(a0, e0)]) hD hS hA [q0] hC
  have hCB : CallB R s args own index y bytes maxL ret (.code y bytes maxL ret :: lw_g) rm 0 0 As.length := callB_of As.length hts (z_goodC hcode) rfl hcs.1 hcs.2 (hts _ hini) (hts _ hlk) hdd hR
  refine va_calli (va_runS (As := As) (rest := rest) ⟨hx, hb, hml, hown, hts⟩ (hM H.size) ⟨hCB, hts _ hst⟩ ⟨fun a U g mk q => by obtain ⟨q0, q1, qP, qK, qD, qN⟩ := q; exact ⟨q0, q1, qP, va_K.moved (u := U) (U := U.calling g mk a) (Vm.Alike.refl U.vm) qK, qD, NW.same qN rfl⟩, fun U hU hW => ⟨rfl, by rw [hU], by rw [hU]; exact hPc, va_K.moved hW.alike hK, hDc.weaken (fun _ _ _ _ => trivial), hN.warm hW⟩⟩ rfl rfl hv.1 hstk (lv_room hcat) hd hroom) hS (fun q _ h => hFc q h) hFc (fun r u t H1 locs1 ht hvm hw hB hz1 hk1 hS1 => ?_)
  obtain ⟨hP1, hK1, hD1⟩ := hB
  rw [ht] at hP1
  obtain ⟨e1, rfl, hk⟩ := k r u hw
  exact hk H1 locs1 ls (va_join1 hP hD hq0 hk1 hP1) (hD.set hq0) hS1 hv
theorem Z.callS0l (hX : Zf p m c cc nL s args own D tys A) {y : MethodName} {bytes : ByteArray} {maxL index : Nat} {ret : Option FieldType} {rm : Room} {As rest : List Value} {post : Int64 → va_W → Prop} (hM : Ct l y bytes maxL ret rm 0 0 D tys As [] (QL D tys post)) (hcode : Cond.code y bytes maxL ret ∈ lw_g) (hlk : Cond.methodLink own index y ∈ lw_g) (hst : Cond.static y ∈ lw_g) (hini : Cond.initialized y.cls ∈ lw_g) (hdd : y.cls ≠ "java/lang/invoke/MethodHandle" ∧ y.cls ≠ "java/lang/invoke/VarHandle" ∧ (parseMethodDescriptor y.desc).map (fun d => d.parameters.length) = some As.length) (hR : rm.frames + 1 ≤ R.frames ∧ 8 + (maxL + 11) + rm.locals ≤ R.locals) (hcs : rm.cells = 0 ∧ rm.slots = 0) (hroom : cells ≤ R.cells ∧ slots ≤ R.slots) (hstk : st = As.reverse ++ rest) (hcat : (rest.map fun v => v.category).sum ≤ 8) (hd : decode cc pc = .ok (.invokestatic index, 3)) (k : ∀ (r : Int64) (w1 : va_W), post r w1 → w1 = [] ∧ Z p l e R s m args below meth c D A nL cells slots Q (pc + 3) lv (.long r :: rest) w) : Z p l e R s m args below meth c D A nL cells slots Q pc lv st w :=
  Z.callSl hX hM hcode hlk hst hini hdd hR hcs hroom [] (List.range w.length) rfl (z_rng w) rfl (z_ndr _) (fun _ _ h => by cases h) hstk hcat hd (fun r w1 h => by
    obtain ⟨h1, h2⟩ := k r w1 h
    rw [h1, List.append_nil]
    exact h2)
theorem Z.callSfl (hX : Zf p m c cc nL s args own D tys A) {y : MethodName} {bytes : ByteArray} {maxL index : Nat} {ret : Option FieldType} {rm : Room} {As rest : List Value} {post : Int64 → va_W → Prop}  (hM : Ct l y bytes maxL ret rm 0 0 D tys As w (QL D tys post)) (hcode : Cond.code y bytes maxL ret ∈ lw_g) (hlk : Cond.methodLink own index y ∈ lw_g) (hst : Cond.static y ∈ lw_g) (hini : Cond.initialized y.cls ∈ lw_g) (hdd : y.cls ≠ "java/lang/invoke/MethodHandle" ∧ y.cls ≠ "java/lang/invoke/VarHandle" ∧ (parseMethodDescriptor y.desc).map (fun d => d.parameters.length) = some As.length) (hR : rm.frames + 1 ≤ R.frames ∧ 8 + (maxL + 11) + rm.locals ≤ R.locals) (hcs : rm.cells = 0 ∧ rm.slots = 0) (hroom : cells ≤ R.cells ∧ slots ≤ R.slots) (hstk : st = As.reverse ++ rest) (hcat : (rest.map fun v => v.category).sum ≤ 8) (hd : decode cc pc = .ok (.invokestatic index, 3)) (k : ∀ (r : Int64) (w1 : va_W), post r w1 → Z p l e R s m args below meth c D A nL cells slots Q (pc + 3) lv (.long r :: rest) w1) : Z p l e R s m args below meth c D A nL cells slots Q pc lv st w :=
  Z.callSl (wr := []) hX hM hcode hlk hst hini hdd hR hcs hroom (List.range w.length) [] (z_rng w) rfl (z_ndr _) rfl (fun _ h => by cases h) hstk hcat hd (fun r w1 h => k r w1 h)
theorem Z.callVfl (hX : Zf p m c cc nL s args own D tys A) {y : MethodName} {bytes : ByteArray} {maxL index : Nat} {ret : Option FieldType} {rm : Room} {As rest : List Value} {post : Int64 → va_W → Prop} {C : String} {T : u_T} {N b : Nat} {fs : List Value} (ci qb : Nat) (hci : vwCl[ci]? = some (C, T, N)) (hqb : w[qb]? = some (b, .inr (ci, fs))) (hM : Ct l y bytes maxL ret rm 0 0 D tys (.ref b :: As) w (QL D tys post)) (hcode : Cond.code y bytes maxL ret ∈ lw_g) (hlk : Cond.methodLink own index y ∈ lw_g) (hins : Cond.instanceMethod y ∈ lw_g) (hsel : Cond.selects C y y ∈ lw_g) (hini : Cond.initialized y.cls ∈ lw_g) (hdd : y.cls ≠ "java/lang/invoke/MethodHandle" ∧ y.cls ≠ "java/lang/invoke/VarHandle" ∧ (parseMethodDescriptor y.desc).map (fun d => d.parameters.length) = some As.length) (hR : rm.frames + 1 ≤ R.frames ∧ 8 + (maxL + 11) + rm.locals ≤ R.locals) (hcs : rm.cells = 0 ∧ rm.slots = 0) (hroom : cells ≤ R.cells ∧ slots ≤ R.slots) (hstk : st = As.reverse ++ .ref b :: rest) (hcat : (rest.map fun v => v.category).sum ≤ 8) (hd : decode cc pc = .ok (.invokevirtual index, 3)) (k : ∀ (r : Int64) (w1 : va_W), post r w1 → Z p l e R s m args below meth c D A nL cells slots Q (pc + 3) lv (.long r :: rest) w1) : Z p l e R s m args below meth c D A nL cells slots Q pc lv st w :=
  Z.callVl (wr := []) hX ci qb hci hqb hM hcode hlk hins hsel hini hdd hR hcs hroom (List.range w.length) [] (z_rng w) rfl (z_ndr _) rfl (fun _ h => by cases h) hstk hcat hd (fun r w1 h => k r w1 h)
theorem Z.callS1l (hX : Zf p m c cc nL s args own D tys A) {y : MethodName} {bytes : ByteArray} {maxL index : Nat} {ret : Option FieldType} {rm : Room} {As rest : List Value} {post : Int64 → va_W → Prop} (q0 : Nat) {a0 : Nat} {e0 : va_E} (hq0 : w[q0]? = some (a0, e0)) (hM : Ct l y bytes maxL ret rm 0 0 D tys As [(a0, e0)] (QL D tys post)) (hcode : Cond.code y bytes maxL ret ∈ lw_g) (hlk : Cond.methodLink own index y ∈ lw_g) (hst : Cond.static y ∈ lw_g) (hini : Cond.initialized y.cls ∈ lw_g) (hdd : y.cls ≠ "java/lang/invoke/MethodHandle" ∧ y.cls ≠ "java/lang/invoke/VarHandle" ∧ (parseMethodDescriptor y.desc).map (fun d => d.parameters.length) = some As.length) (hR : rm.frames + 1 ≤ R.frames ∧ 8 + (maxL + 11) + rm.locals ≤ R.locals) (hcs : rm.cells = 0 ∧ rm.slots = 0) (hroom : cells ≤ R.cells ∧ slots ≤ R.slots) (hstk : st = As.reverse ++ rest) (hcat : (rest.map fun v => v.category).sum ≤ 8) (hd : decode cc pc = .ok (.invokestatic index, 3)) (k : ∀ (r : Int64) (w1 : va_W), post r w1 → ∃ e1, w1 = [(a0, e1)] ∧ Z p l e R s m args below meth c D A nL cells slots Q (pc + 3) lv (.long r :: rest) (w.set q0 (a0, e1))) : Z p l e R s m args below meth c D A nL cells slots Q pc lv st w := by
  intro H locs ls hP hD hS hv
  obtain ⟨hx, hb, hml, hown, hts, hK, hA, hN⟩ := id hX
  have hC : [q0].map (fun i => w[i]?) = ([(a0, e0)] : va_W).map some := by rw [List.map_cons, hq0]; rfl
  have hPc := hP.sub [q0] (z_fm _ _ _ hC)
  have hDc := hD.sub [q0] rfl hC
  have hFc := va_free (wc := [(a0, e0)]) hD hS hA [q0] hC
  have hCB : CallB R s args own index y bytes maxL ret (.code y bytes maxL ret :: lw_g) rm 0 0 As.length := callB_of As.length hts (z_goodC hcode) rfl hcs.1 hcs.2 (hts _ hini) (hts _ hlk) hdd hR
  refine va_calll (va_runS (As := As) (rest := rest) ⟨hx, hb, hml, hown, hts⟩ (hM H.size) ⟨hCB, hts _ hst⟩ ⟨fun a U g mk q => by obtain ⟨q0, q1, qP, qK, qD, qN⟩ := q; exact ⟨q0, q1, qP, va_K.moved (u := U) (U := U.calling g mk a) (Vm.Alike.refl U.vm) qK, qD, NW.same qN rfl⟩, fun U hU hW => ⟨rfl, by rw [hU], by rw [hU]; exact hPc, va_K.moved hW.alike hK, hDc.weaken (fun _ _ _ _ => trivial), hN.warm hW⟩⟩ rfl rfl hv.1 hstk (lv_room hcat) hd hroom) hS (fun q _ h => hFc q h) hFc (fun r u t H1 locs1 ht hvm hw hB hz1 hk1 hS1 => ?_)
  obtain ⟨hP1, hK1, hD1⟩ := hB
  rw [ht] at hP1
  obtain ⟨e1, rfl, hk⟩ := k r u hw
  exact hk H1 locs1 ls (va_join1 hP hD hq0 hk1 hP1) (hD.set hq0) hS1 hv
theorem Z.callS0v (hX : Zf p m c cc nL s args own D tys A) {y : MethodName} {bytes : ByteArray} {maxL index : Nat} {ret : Option FieldType} {rm : Room} {As rest : List Value} {post : va_W → Prop} (hM : Ct l y bytes maxL ret rm 0 0 D tys As [] (QV D tys post)) (hcode : Cond.code y bytes maxL ret ∈ lw_g) (hlk : Cond.methodLink own index y ∈ lw_g) (hst : Cond.static y ∈ lw_g) (hini : Cond.initialized y.cls ∈ lw_g) (hdd : y.cls ≠ "java/lang/invoke/MethodHandle" ∧ y.cls ≠ "java/lang/invoke/VarHandle" ∧ (parseMethodDescriptor y.desc).map (fun d => d.parameters.length) = some As.length) (hR : rm.frames + 1 ≤ R.frames ∧ 8 + (maxL + 11) + rm.locals ≤ R.locals) (hcs : rm.cells = 0 ∧ rm.slots = 0) (hroom : cells ≤ R.cells ∧ slots ≤ R.slots) (hstk : st = As.reverse ++ rest) (hcat : (rest.map fun v => v.category).sum ≤ 8) (hd : decode cc pc = .ok (.invokestatic index, 3)) (k : ∀ (w1 : va_W), post w1 → w1 = [] ∧ Z p l e R s m args below meth c D A nL cells slots Q (pc + 3) lv (rest) w) : Z p l e R s m args below meth c D A nL cells slots Q pc lv st w :=
  Z.callSv hX hM hcode hlk hst hini hdd hR hcs hroom [] (List.range w.length) rfl (z_rng w) rfl (z_ndr _) (fun _ _ h => by cases h) hstk hcat hd (fun w1 h => by
    obtain ⟨h1, h2⟩ := k w1 h
    rw [h1, List.append_nil]
    exact h2)
theorem Z.callSfv (hX : Zf p m c cc nL s args own D tys A) {y : MethodName} {bytes : ByteArray} {maxL index : Nat} {ret : Option FieldType} {rm : Room} {As rest : List Value} {post : va_W → Prop}  (hM : Ct l y bytes maxL ret rm 0 0 D tys As w (QV D tys post)) (hcode : Cond.code y bytes maxL ret ∈ lw_g) (hlk : Cond.methodLink own index y ∈ lw_g) (hst : Cond.static y ∈ lw_g) (hini : Cond.initialized y.cls ∈ lw_g) (hdd : y.cls ≠ "java/lang/invoke/MethodHandle" ∧ y.cls ≠ "java/lang/invoke/VarHandle" ∧ (parseMethodDescriptor y.desc).map (fun d => d.parameters.length) = some As.length) (hR : rm.frames + 1 ≤ R.frames ∧ 8 + (maxL + 11) + rm.locals ≤ R.locals) (hcs : rm.cells = 0 ∧ rm.slots = 0) (hroom : cells ≤ R.cells ∧ slots ≤ R.slots) (hstk : st = As.reverse ++ rest) (hcat : (rest.map fun v => v.category).sum ≤ 8) (hd : decode cc pc = .ok (.invokestatic index, 3)) (k : ∀ (w1 : va_W), post w1 → Z p l e R s m args below meth c D A nL cells slots Q (pc + 3) lv (rest) w1) : Z p l e R s m args below meth c D A nL cells slots Q pc lv st w :=
  Z.callSv (wr := []) hX hM hcode hlk hst hini hdd hR hcs hroom (List.range w.length) [] (z_rng w) rfl (z_ndr _) rfl (fun _ h => by cases h) hstk hcat hd (fun w1 h => k w1 h)
theorem Z.callVfv (hX : Zf p m c cc nL s args own D tys A) {y : MethodName} {bytes : ByteArray} {maxL index : Nat} {ret : Option FieldType} {rm : Room} {As rest : List Value} {post : va_W → Prop} {C : String} {T : u_T} {N b : Nat} {fs : List Value} (ci qb : Nat) (hci : vwCl[ci]? = some (C, T, N)) (hqb : w[qb]? = some (b, .inr (ci, fs))) (hM : Ct l y bytes maxL ret rm 0 0 D tys (.ref b :: As) w (QV D tys post)) (hcode : Cond.code y bytes maxL ret ∈ lw_g) (hlk : Cond.methodLink own index y ∈ lw_g) (hins : Cond.instanceMethod y ∈ lw_g) (hsel : Cond.selects C y y ∈ lw_g) (hini : Cond.initialized y.cls ∈ lw_g) (hdd : y.cls ≠ "java/lang/invoke/MethodHandle" ∧ y.cls ≠ "java/lang/invoke/VarHandle" ∧ (parseMethodDescriptor y.desc).map (fun d => d.parameters.length) = some As.length) (hR : rm.frames + 1 ≤ R.frames ∧ 8 + (maxL + 11) + rm.locals ≤ R.locals) (hcs : rm.cells = 0 ∧ rm.slots = 0) (hroom : cells ≤ R.cells ∧ slots ≤ R.slots) (hstk : st = As.reverse ++ .ref b :: rest) (hcat : (rest.map fun v => v.category).sum ≤ 8) (hd : decode cc pc = .ok (.invokevirtual index, 3)) (k : ∀ (w1 : va_W), post w1 → Z p l e R s m args below meth c D A nL cells slots Q (pc + 3) lv (rest) w1) : Z p l e R s m args below meth c D A nL cells slots Q pc lv st w :=
  Z.callVv (wr := []) hX ci qb hci hqb hM hcode hlk hins hsel hini hdd hR hcs hroom (List.range w.length) [] (z_rng w) rfl (z_ndr _) rfl (fun _ h => by cases h) hstk hcat hd (fun w1 h => k w1 h)
theorem Z.callS1v (hX : Zf p m c cc nL s args own D tys A) {y : MethodName} {bytes : ByteArray} {maxL index : Nat} {ret : Option FieldType} {rm : Room} {As rest : List Value} {post : va_W → Prop} (q0 : Nat) {a0 : Nat} {e0 : va_E} (hq0 : w[q0]? = some (a0, e0)) (hM : Ct l y bytes maxL ret rm 0 0 D tys As [(a0, e0)] (QV D tys post)) (hcode : Cond.code y bytes maxL ret ∈ lw_g) (hlk : Cond.methodLink own index y ∈ lw_g) (hst : Cond.static y ∈ lw_g) (hini : Cond.initialized y.cls ∈ lw_g) (hdd : y.cls ≠ "java/lang/invoke/MethodHandle" ∧ y.cls ≠ "java/lang/invoke/VarHandle" ∧ (parseMethodDescriptor y.desc).map (fun d => d.parameters.length) = some As.length) (hR : rm.frames + 1 ≤ R.frames ∧ 8 + (maxL + 11) + rm.locals ≤ R.locals) (hcs : rm.cells = 0 ∧ rm.slots = 0) (hroom : cells ≤ R.cells ∧ slots ≤ R.slots) (hstk : st = As.reverse ++ rest) (hcat : (rest.map fun v => v.category).sum ≤ 8) (hd : decode cc pc = .ok (.invokestatic index, 3)) (k : ∀ (w1 : va_W), post w1 → ∃ e1, w1 = [(a0, e1)] ∧ Z p l e R s m args below meth c D A nL cells slots Q (pc + 3) lv (rest) (w.set q0 (a0, e1))) : Z p l e R s m args below meth c D A nL cells slots Q pc lv st w := by
  intro H locs ls hP hD hS hv
  obtain ⟨hx, hb, hml, hown, hts, hK, hA, hN⟩ := id hX
  have hC : [q0].map (fun i => w[i]?) = ([(a0, e0)] : va_W).map some := by rw [List.map_cons, hq0]; rfl
  have hPc := hP.sub [q0] (z_fm _ _ _ hC)
  have hDc := hD.sub [q0] rfl hC
  have hFc := va_free (wc := [(a0, e0)]) hD hS hA [q0] hC
  have hCB : CallB R s args own index y bytes maxL ret (.code y bytes maxL ret :: lw_g) rm 0 0 As.length := callB_of As.length hts (z_goodC hcode) rfl hcs.1 hcs.2 (hts _ hini) (hts _ hlk) hdd hR
  refine va_callv (va_runS (As := As) (rest := rest) ⟨hx, hb, hml, hown, hts⟩ (hM H.size) ⟨hCB, hts _ hst⟩ ⟨fun a U g mk q => by obtain ⟨q0, q1, qP, qK, qD, qN⟩ := q; exact ⟨q0, q1, qP, va_K.moved (u := U) (U := U.calling g mk a) (Vm.Alike.refl U.vm) qK, qD, NW.same qN rfl⟩, fun U hU hW => ⟨rfl, by rw [hU], by rw [hU]; exact hPc, va_K.moved hW.alike hK, hDc.weaken (fun _ _ _ _ => trivial), hN.warm hW⟩⟩ rfl rfl hv.1 hstk (lv_room hcat) hd hroom) hS (fun q _ h => hFc q h) hFc (fun u t H1 locs1 ht hvm hw hB hz1 hk1 hS1 => ?_)
  obtain ⟨hP1, hK1, hD1⟩ := hB
  rw [ht] at hP1
  obtain ⟨e1, rfl, hk⟩ := k u hw
  exact hk H1 locs1 ls (va_join1 hP hD hq0 hk1 hP1) (hD.set hq0) hS1 hv
end ZR4
/-! the array classes, and the reference's cells -/
abbrev TY (ce : Nat → ClassId) : List (ClassId × FieldType) := [(ce 0, .int), (ce 1, .long), (ce 2, .boolean), (ce 3, .array .long), (ce 4, .object "EliminateLoci$Plane")]
def rW (ce : Nat → ClassId) (h : Nat → Nat) (F : Nat → Int) (I : Nat → Nat → Int32) (J : Nat → Nat → Int64) : va_W :=
  [(h 0, .inr (7, [.ref (h 1), .ref (h 2), .int (zI (F 0)), .int (zI (F 1)), .int (zI (F 2)), .ref (h 3), .ref (h 4), .ref (h 5), .ref (h 6), .ref (h 7), .ref (h 8), .ref (h 9), .ref (h 10), .ref (h 11), .ref (h 12), .ref (h 13), .ref (h 14)])),
   (h 1, .inl (ce 0, 15, .inl (I 0))), (h 2, .inl (ce 1, 15, .inr (.inl (J 0)))), (h 3, .inl (ce 2, 2, .inl (I 1))), (h 4, .inl (ce 1, 98, .inr (.inl (J 1)))), (h 5, .inl (ce 0, 2, .inl (I 2))), (h 6, .inl (ce 0, 2, .inl (I 3))),
   (h 7, .inl (ce 1, 5, .inr (.inl (J 2)))), (h 8, .inl (ce 1, 5, .inr (.inl (J 3)))), (h 9, .inl (ce 1, 192, .inr (.inl (J 4)))), (h 10, .inl (ce 1, 12544, .inr (.inl (J 5)))), (h 11, .inl (ce 1, 49, .inr (.inl (J 6)))), (h 12, .inl (ce 1, 49, .inr (.inl (J 7)))), (h 13, .inl (ce 1, 49, .inr (.inl (J 8)))), (h 14, .inl (ce 1, 49, .inr (.inl (J 9))))]
end
section
set_option maxRecDepth 100000 in
theorem ini_X7 : Cond.initialized RX7 ∈ lw_g := z_mem (k := 38) rfl rfl
theorem inX7 : ∀ x ∈ u_ws RX7 TX7 17, x ∈ lw_g := by
  have h : (u_ws RX7 TX7 17).all (fun x => decide (x ∈ lw_tbl) && goodWord x) = true := by decide +kernel
  intro x hx
  have h1 := List.all_eq_true.mp h x hx
  simp only [Bool.and_eq_true, decide_eq_true_eq] at h1
  exact z_memD h1.1 h1.2
set_option maxRecDepth 100000 in
theorem fl_X7_7 : Cond.fieldLink RX7 7 "EliminateLociModel" "row" "[I" ∈ lw_g := z_mem (k := 461) rfl rfl
set_option maxRecDepth 100000 in
theorem fl_X7_13 : Cond.fieldLink RX7 13 "EliminateLociModel" "free" "[J" ∈ lw_g := z_mem (k := 462) rfl rfl
set_option maxRecDepth 100000 in
theorem fl_X7_70 : Cond.fieldLink RX7 70 "EliminateLociModel" "most" "I" ∈ lw_g := z_mem (k := 463) rfl rfl
set_option maxRecDepth 100000 in
theorem fl_X7_77 : Cond.fieldLink RX7 77 "EliminateLociModel" "freeMost" "I" ∈ lw_g := z_mem (k := 464) rfl rfl
set_option maxRecDepth 100000 in
theorem fl_X7_54 : Cond.fieldLink RX7 54 "EliminateLociModel" "known" "Z" ∈ lw_g := z_mem (k := 465) rfl rfl
set_option maxRecDepth 100000 in
theorem fl_X7_17 : Cond.fieldLink RX7 17 "EliminateLociModel" "has" "[Z" ∈ lw_g := z_mem (k := 466) rfl rfl
set_option maxRecDepth 100000 in
theorem fl_X7_21 : Cond.fieldLink RX7 21 "EliminateLociModel" "traces" "[J" ∈ lw_g := z_mem (k := 467) rfl rfl
set_option maxRecDepth 100000 in
theorem fl_X7_24 : Cond.fieldLink RX7 24 "EliminateLociModel" "degrees" "[I" ∈ lw_g := z_mem (k := 468) rfl rfl
set_option maxRecDepth 100000 in
theorem fl_X7_27 : Cond.fieldLink RX7 27 "EliminateLociModel" "powers" "[I" ∈ lw_g := z_mem (k := 469) rfl rfl
set_option maxRecDepth 100000 in
theorem fl_X7_30 : Cond.fieldLink RX7 30 "EliminateLociModel" "one" "[J" ∈ lw_g := z_mem (k := 470) rfl rfl
set_option maxRecDepth 100000 in
theorem fl_X7_33 : Cond.fieldLink RX7 33 "EliminateLociModel" "two" "[J" ∈ lw_g := z_mem (k := 471) rfl rfl
set_option maxRecDepth 100000 in
theorem fl_X7_36 : Cond.fieldLink RX7 36 "EliminateLociModel" "entries" "[J" ∈ lw_g := z_mem (k := 472) rfl rfl
set_option maxRecDepth 100000 in
theorem fl_X7_39 : Cond.fieldLink RX7 39 "EliminateLociModel" "minors" "[J" ∈ lw_g := z_mem (k := 473) rfl rfl
set_option maxRecDepth 100000 in
theorem fl_X7_42 : Cond.fieldLink RX7 42 "EliminateLociModel" "whole" "[J" ∈ lw_g := z_mem (k := 474) rfl rfl
set_option maxRecDepth 100000 in
theorem fl_X7_45 : Cond.fieldLink RX7 45 "EliminateLociModel" "root" "[J" ∈ lw_g := z_mem (k := 475) rfl rfl
set_option maxRecDepth 100000 in
theorem fl_X7_48 : Cond.fieldLink RX7 48 "EliminateLociModel" "power" "[J" ∈ lw_g := z_mem (k := 476) rfl rfl
set_option maxRecDepth 100000 in
theorem fl_X7_51 : Cond.fieldLink RX7 51 "EliminateLociModel" "other" "[J" ∈ lw_g := z_mem (k := 477) rfl rfl
set_option maxRecDepth 100000 in
theorem ml_X7_130 : Cond.methodLink RX7 130 yX7_work ∈ lw_g := z_mem (k := 527) rfl rfl
set_option maxRecDepth 100000 in
theorem ml_X7_74 : Cond.methodLink RX7 74 yX7_divisor ∈ lw_g := z_mem (k := 531) rfl rfl
set_option maxRecDepth 100000 in
theorem ml_X7_66 : Cond.methodLink RX7 66 yX7_reduce ∈ lw_g := z_mem (k := 535) rfl rfl
set_option maxRecDepth 100000 in
theorem ml_X7_58 : Cond.methodLink RX7 58 yX7_common ∈ lw_g := z_mem (k := 538) rfl rfl
set_option maxRecDepth 100000 in
theorem ml_X7_62 : Cond.methodLink RX7 62 yX7_degreeOf ∈ lw_g := z_mem (k := 541) rfl rfl
set_option maxRecDepth 100000 in
theorem ml_X7_80 : Cond.methodLink RX7 80 yX7_locus ∈ lw_g := z_mem (k := 544) rfl rfl
set_option maxRecDepth 100000 in
theorem ml_X7_90 : Cond.methodLink RX7 90 yX7_emptied ∈ lw_g := z_mem (k := 548) rfl rfl
set_option maxRecDepth 100000 in
theorem ml_X7_93 : Cond.methodLink RX7 93 yX7_entry ∈ lw_g := z_mem (k := 552) rfl rfl
set_option maxRecDepth 100000 in
theorem ml_X7_97 : Cond.methodLink RX7 97 yX7_minorsOf ∈ lw_g := z_mem (k := 556) rfl rfl
set_option maxRecDepth 100000 in
theorem ml_X7_86 : Cond.methodLink RX7 86 yX7_countOf ∈ lw_g := z_mem (k := 560) rfl rfl
set_option maxRecDepth 100000 in
theorem ml_X7_101 : Cond.methodLink RX7 101 yX7_tell ∈ lw_g := z_mem (k := 563) rfl rfl
set_option maxRecDepth 100000 in
theorem ml_X7_105 : Cond.methodLink RX7 105 yX7_degree2 ∈ lw_g := z_mem (k := 567) rfl rfl
set_option maxRecDepth 100000 in
theorem ml_X7_108 : Cond.methodLink RX7 108 yX7_firstOf ∈ lw_g := z_mem (k := 570) rfl rfl
set_option maxRecDepth 100000 in
theorem ml_X7_111 : Cond.methodLink RX7 111 yX7_isPower ∈ lw_g := z_mem (k := 573) rfl rfl
set_option maxRecDepth 100000 in
theorem ml_X7_123 : Cond.methodLink RX7 123 yX7_rootOf ∈ lw_g := z_mem (k := 577) rfl rfl
set_option maxRecDepth 100000 in
theorem co_X7_115 : Cond.constantLong RX7 115 (2000000000) ∈ lw_g := z_mem (k := 580) rfl rfl
set_option maxRecDepth 100000 in
theorem co_X7_117 : Cond.constantLong RX7 117 (2) ∈ lw_g := z_mem (k := 581) rfl rfl
set_option maxRecDepth 100000 in
theorem ml_X7_119 : Cond.methodLink RX7 119 yX7_isAbove ∈ lw_g := z_mem (k := 582) rfl rfl
set_option maxRecDepth 100000 in
theorem ml_X7_127 : Cond.methodLink RX7 127 yX7_raise ∈ lw_g := z_mem (k := 585) rfl rfl
set_option maxRecDepth 100000 in
theorem ml_X7_83 : Cond.methodLink RX7 83 yX7_envelope ∈ lw_g := z_mem (k := 589) rfl rfl
set_option maxRecDepth 100000 in
theorem co_X7_133 : Cond.constant RX7 133 (-1000000) ∈ lw_g := z_mem (k := 597) rfl rfl
set_option maxRecDepth 100000 in
theorem ml_X7_137 : Cond.methodLink RX7 137 yX7_isParameter ∈ lw_g := z_mem (k := 602) rfl rfl
set_option maxRecDepth 100000 in
theorem ml_X7_140 : Cond.methodLink RX7 140 yX7_valueOf ∈ lw_g := z_mem (k := 605) rfl rfl
set_option maxRecDepth 100000 in
theorem ml_X7_134 : Cond.methodLink RX7 134 yX7_raised ∈ lw_g := z_mem (k := 609) rfl rfl
set_option maxRecDepth 100000 in
theorem ml_X7_144 : Cond.methodLink RX7 144 yX7_isSort ∈ lw_g := z_mem (k := 616) rfl rfl
set_option maxRecDepth 100000 in
theorem ml_X7_148 : Cond.methodLink RX7 148 yX7_isPlace ∈ lw_g := z_mem (k := 631) rfl rfl
set_option maxRecDepth 100000 in
theorem co_X7_152 : Cond.constantLong RX7 152 (1073741823) ∈ lw_g := z_mem (k := 634) rfl rfl
set_option maxRecDepth 100000 in
theorem ml_X7_165 : Cond.methodLink RX7 165 yX7_isOn ∈ lw_g := z_mem (k := 643) rfl rfl
set_option maxRecDepth 100000 in
theorem co_X7_157 : Cond.constantLong RX7 157 (2147483647) ∈ lw_g := z_mem (k := 647) rfl rfl
set_option maxRecDepth 100000 in
theorem ml_X7_159 : Cond.methodLink RX7 159 yX7_traced ∈ lw_g := z_mem (k := 648) rfl rfl
set_option maxRecDepth 100000 in
theorem ml_X7_154 : Cond.methodLink RX7 154 yX7_rest ∈ lw_g := z_mem (k := 652) rfl rfl
set_option maxRecDepth 100000 in
theorem co_X7_163 : Cond.constantLong RX7 163 (2147483629) ∈ lw_g := z_mem (k := 655) rfl rfl
set_option maxRecDepth 100000 in
theorem ml_X7_169 : Cond.methodLink RX7 169 yX7_slope ∈ lw_g := z_mem (k := 660) rfl rfl
set_option maxRecDepth 100000 in
theorem mc_X7_init : Cond.code yX7_init cX7_init 1 none ∈ lw_g := z_mem (k := 459) rfl rfl
theorem nd_X7_init : yX7_init.cls ≠ "java/lang/invoke/MethodHandle" ∧ yX7_init.cls ≠ "java/lang/invoke/VarHandle" ∧ (parseMethodDescriptor yX7_init.desc).map (fun d => d.parameters.length) = some 0 := by decide +kernel
set_option maxRecDepth 100000 in
theorem im_X7_init : Cond.instanceMethod yX7_init ∈ lw_g := z_mem (k := 458) rfl rfl
set_option maxRecDepth 100000 in
theorem mc_X7_term : Cond.code yX7_term cX7_term 5 (some .int) ∈ lw_g := z_mem (k := 518) rfl rfl
theorem nd_X7_term : yX7_term.cls ≠ "java/lang/invoke/MethodHandle" ∧ yX7_term.cls ≠ "java/lang/invoke/VarHandle" ∧ (parseMethodDescriptor yX7_term.desc).map (fun d => d.parameters.length) = some 3 := by decide +kernel
set_option maxRecDepth 100000 in
theorem im_X7_term : Cond.instanceMethod yX7_term ∈ lw_g := z_mem (k := 516) rfl rfl
set_option maxRecDepth 100000 in
theorem se_X7_term : Cond.selects RX7 yX7_term yX7_term ∈ lw_g := z_mem (k := 517) rfl rfl
set_option maxRecDepth 100000 in
theorem mc_X7_clear : Cond.code yX7_clear cX7_clear 3 (some .int) ∈ lw_g := z_mem (k := 522) rfl rfl
theorem nd_X7_clear : yX7_clear.cls ≠ "java/lang/invoke/MethodHandle" ∧ yX7_clear.cls ≠ "java/lang/invoke/VarHandle" ∧ (parseMethodDescriptor yX7_clear.desc).map (fun d => d.parameters.length) = some 0 := by decide +kernel
set_option maxRecDepth 100000 in
theorem im_X7_clear : Cond.instanceMethod yX7_clear ∈ lw_g := z_mem (k := 520) rfl rfl
set_option maxRecDepth 100000 in
theorem se_X7_clear : Cond.selects RX7 yX7_clear yX7_clear ∈ lw_g := z_mem (k := 521) rfl rfl
set_option maxRecDepth 100000 in
theorem mc_X7_common : Cond.code yX7_common cX7_common 10 (some .long) ∈ lw_g := z_mem (k := 540) rfl rfl
theorem nd_X7_common : yX7_common.cls ≠ "java/lang/invoke/MethodHandle" ∧ yX7_common.cls ≠ "java/lang/invoke/VarHandle" ∧ (parseMethodDescriptor yX7_common.desc).map (fun d => d.parameters.length) = some 2 := by decide +kernel
set_option maxRecDepth 100000 in
theorem st_X7_common : Cond.static yX7_common ∈ lw_g := z_mem (k := 539) rfl rfl
set_option maxRecDepth 100000 in
theorem mc_X7_degreeOf : Cond.code yX7_degreeOf cX7_degreeOf 2 (some .int) ∈ lw_g := z_mem (k := 543) rfl rfl
theorem nd_X7_degreeOf : yX7_degreeOf.cls ≠ "java/lang/invoke/MethodHandle" ∧ yX7_degreeOf.cls ≠ "java/lang/invoke/VarHandle" ∧ (parseMethodDescriptor yX7_degreeOf.desc).map (fun d => d.parameters.length) = some 1 := by decide +kernel
set_option maxRecDepth 100000 in
theorem st_X7_degreeOf : Cond.static yX7_degreeOf ∈ lw_g := z_mem (k := 542) rfl rfl
set_option maxRecDepth 100000 in
theorem mc_X7_reduce : Cond.code yX7_reduce cX7_reduce 5 none ∈ lw_g := z_mem (k := 537) rfl rfl
theorem nd_X7_reduce : yX7_reduce.cls ≠ "java/lang/invoke/MethodHandle" ∧ yX7_reduce.cls ≠ "java/lang/invoke/VarHandle" ∧ (parseMethodDescriptor yX7_reduce.desc).map (fun d => d.parameters.length) = some 1 := by decide +kernel
set_option maxRecDepth 100000 in
theorem st_X7_reduce : Cond.static yX7_reduce ∈ lw_g := z_mem (k := 536) rfl rfl
set_option maxRecDepth 100000 in
theorem mc_X7_divisor : Cond.code yX7_divisor cX7_divisor 8 none ∈ lw_g := z_mem (k := 534) rfl rfl
theorem nd_X7_divisor : yX7_divisor.cls ≠ "java/lang/invoke/MethodHandle" ∧ yX7_divisor.cls ≠ "java/lang/invoke/VarHandle" ∧ (parseMethodDescriptor yX7_divisor.desc).map (fun d => d.parameters.length) = some 0 := by decide +kernel
set_option maxRecDepth 100000 in
theorem im_X7_divisor : Cond.instanceMethod yX7_divisor ∈ lw_g := z_mem (k := 533) rfl rfl
set_option maxRecDepth 100000 in
theorem se_X7_divisor : Cond.selects RX7 yX7_divisor yX7_divisor ∈ lw_g := z_mem (k := 17) rfl rfl
set_option maxRecDepth 100000 in
theorem mc_X7_work : Cond.code yX7_work cX7_work 7 none ∈ lw_g := z_mem (k := 530) rfl rfl
theorem nd_X7_work : yX7_work.cls ≠ "java/lang/invoke/MethodHandle" ∧ yX7_work.cls ≠ "java/lang/invoke/VarHandle" ∧ (parseMethodDescriptor yX7_work.desc).map (fun d => d.parameters.length) = some 0 := by decide +kernel
set_option maxRecDepth 100000 in
theorem im_X7_work : Cond.instanceMethod yX7_work ∈ lw_g := z_mem (k := 529) rfl rfl
set_option maxRecDepth 100000 in
theorem se_X7_work : Cond.selects RX7 yX7_work yX7_work ∈ lw_g := z_mem (k := 16) rfl rfl
set_option maxRecDepth 100000 in
theorem mc_X7_entry : Cond.code yX7_entry cX7_entry 9 none ∈ lw_g := z_mem (k := 555) rfl rfl
theorem nd_X7_entry : yX7_entry.cls ≠ "java/lang/invoke/MethodHandle" ∧ yX7_entry.cls ≠ "java/lang/invoke/VarHandle" ∧ (parseMethodDescriptor yX7_entry.desc).map (fun d => d.parameters.length) = some 5 := by decide +kernel
set_option maxRecDepth 100000 in
theorem im_X7_entry : Cond.instanceMethod yX7_entry ∈ lw_g := z_mem (k := 554) rfl rfl
set_option maxRecDepth 100000 in
theorem se_X7_entry : Cond.selects RX7 yX7_entry yX7_entry ∈ lw_g := z_mem (k := 20) rfl rfl
set_option maxRecDepth 100000 in
theorem mc_X7_emptied : Cond.code yX7_emptied cX7_emptied 2 none ∈ lw_g := z_mem (k := 551) rfl rfl
theorem nd_X7_emptied : yX7_emptied.cls ≠ "java/lang/invoke/MethodHandle" ∧ yX7_emptied.cls ≠ "java/lang/invoke/VarHandle" ∧ (parseMethodDescriptor yX7_emptied.desc).map (fun d => d.parameters.length) = some 0 := by decide +kernel
set_option maxRecDepth 100000 in
theorem im_X7_emptied : Cond.instanceMethod yX7_emptied ∈ lw_g := z_mem (k := 550) rfl rfl
set_option maxRecDepth 100000 in
theorem se_X7_emptied : Cond.selects RX7 yX7_emptied yX7_emptied ∈ lw_g := z_mem (k := 19) rfl rfl
set_option maxRecDepth 100000 in
theorem mc_X7_countOf : Cond.code yX7_countOf cX7_countOf 3 (some .int) ∈ lw_g := z_mem (k := 562) rfl rfl
theorem nd_X7_countOf : yX7_countOf.cls ≠ "java/lang/invoke/MethodHandle" ∧ yX7_countOf.cls ≠ "java/lang/invoke/VarHandle" ∧ (parseMethodDescriptor yX7_countOf.desc).map (fun d => d.parameters.length) = some 1 := by decide +kernel
set_option maxRecDepth 100000 in
theorem st_X7_countOf : Cond.static yX7_countOf ∈ lw_g := z_mem (k := 561) rfl rfl
set_option maxRecDepth 100000 in
theorem mc_X7_minorsOf : Cond.code yX7_minorsOf cX7_minorsOf 12 none ∈ lw_g := z_mem (k := 559) rfl rfl
theorem nd_X7_minorsOf : yX7_minorsOf.cls ≠ "java/lang/invoke/MethodHandle" ∧ yX7_minorsOf.cls ≠ "java/lang/invoke/VarHandle" ∧ (parseMethodDescriptor yX7_minorsOf.desc).map (fun d => d.parameters.length) = some 1 := by decide +kernel
set_option maxRecDepth 100000 in
theorem im_X7_minorsOf : Cond.instanceMethod yX7_minorsOf ∈ lw_g := z_mem (k := 558) rfl rfl
set_option maxRecDepth 100000 in
theorem se_X7_minorsOf : Cond.selects RX7 yX7_minorsOf yX7_minorsOf ∈ lw_g := z_mem (k := 21) rfl rfl
set_option maxRecDepth 100000 in
theorem mc_X7_locus : Cond.code yX7_locus cX7_locus 4 none ∈ lw_g := z_mem (k := 547) rfl rfl
theorem nd_X7_locus : yX7_locus.cls ≠ "java/lang/invoke/MethodHandle" ∧ yX7_locus.cls ≠ "java/lang/invoke/VarHandle" ∧ (parseMethodDescriptor yX7_locus.desc).map (fun d => d.parameters.length) = some 0 := by decide +kernel
set_option maxRecDepth 100000 in
theorem im_X7_locus : Cond.instanceMethod yX7_locus ∈ lw_g := z_mem (k := 546) rfl rfl
set_option maxRecDepth 100000 in
theorem se_X7_locus : Cond.selects RX7 yX7_locus yX7_locus ∈ lw_g := z_mem (k := 18) rfl rfl
set_option maxRecDepth 100000 in
theorem mc_X7_envelope : Cond.code yX7_envelope cX7_envelope 8 none ∈ lw_g := z_mem (k := 592) rfl rfl
theorem nd_X7_envelope : yX7_envelope.cls ≠ "java/lang/invoke/MethodHandle" ∧ yX7_envelope.cls ≠ "java/lang/invoke/VarHandle" ∧ (parseMethodDescriptor yX7_envelope.desc).map (fun d => d.parameters.length) = some 0 := by decide +kernel
set_option maxRecDepth 100000 in
theorem im_X7_envelope : Cond.instanceMethod yX7_envelope ∈ lw_g := z_mem (k := 591) rfl rfl
set_option maxRecDepth 100000 in
theorem se_X7_envelope : Cond.selects RX7 yX7_envelope yX7_envelope ∈ lw_g := z_mem (k := 25) rfl rfl
set_option maxRecDepth 100000 in
theorem mc_X7_degree2 : Cond.code yX7_degree2 cX7_degree2 4 (some .int) ∈ lw_g := z_mem (k := 569) rfl rfl
theorem nd_X7_degree2 : yX7_degree2.cls ≠ "java/lang/invoke/MethodHandle" ∧ yX7_degree2.cls ≠ "java/lang/invoke/VarHandle" ∧ (parseMethodDescriptor yX7_degree2.desc).map (fun d => d.parameters.length) = some 1 := by decide +kernel
set_option maxRecDepth 100000 in
theorem st_X7_degree2 : Cond.static yX7_degree2 ∈ lw_g := z_mem (k := 568) rfl rfl
set_option maxRecDepth 100000 in
theorem mc_X7_firstOf : Cond.code yX7_firstOf cX7_firstOf 3 (some .int) ∈ lw_g := z_mem (k := 572) rfl rfl
theorem nd_X7_firstOf : yX7_firstOf.cls ≠ "java/lang/invoke/MethodHandle" ∧ yX7_firstOf.cls ≠ "java/lang/invoke/VarHandle" ∧ (parseMethodDescriptor yX7_firstOf.desc).map (fun d => d.parameters.length) = some 1 := by decide +kernel
set_option maxRecDepth 100000 in
theorem st_X7_firstOf : Cond.static yX7_firstOf ∈ lw_g := z_mem (k := 571) rfl rfl
set_option maxRecDepth 100000 in
theorem mc_X7_tell : Cond.code yX7_tell cX7_tell 9 none ∈ lw_g := z_mem (k := 566) rfl rfl
theorem nd_X7_tell : yX7_tell.cls ≠ "java/lang/invoke/MethodHandle" ∧ yX7_tell.cls ≠ "java/lang/invoke/VarHandle" ∧ (parseMethodDescriptor yX7_tell.desc).map (fun d => d.parameters.length) = some 2 := by decide +kernel
set_option maxRecDepth 100000 in
theorem im_X7_tell : Cond.instanceMethod yX7_tell ∈ lw_g := z_mem (k := 565) rfl rfl
set_option maxRecDepth 100000 in
theorem se_X7_tell : Cond.selects RX7 yX7_tell yX7_tell ∈ lw_g := z_mem (k := 22) rfl rfl
set_option maxRecDepth 100000 in
theorem mc_X7_rootOf : Cond.code yX7_rootOf cX7_rootOf 10 (some .long) ∈ lw_g := z_mem (k := 579) rfl rfl
theorem nd_X7_rootOf : yX7_rootOf.cls ≠ "java/lang/invoke/MethodHandle" ∧ yX7_rootOf.cls ≠ "java/lang/invoke/VarHandle" ∧ (parseMethodDescriptor yX7_rootOf.desc).map (fun d => d.parameters.length) = some 2 := by decide +kernel
set_option maxRecDepth 100000 in
theorem st_X7_rootOf : Cond.static yX7_rootOf ∈ lw_g := z_mem (k := 578) rfl rfl
set_option maxRecDepth 100000 in
theorem mc_X7_isAbove : Cond.code yX7_isAbove cX7_isAbove 8 (some .boolean) ∈ lw_g := z_mem (k := 584) rfl rfl
theorem nd_X7_isAbove : yX7_isAbove.cls ≠ "java/lang/invoke/MethodHandle" ∧ yX7_isAbove.cls ≠ "java/lang/invoke/VarHandle" ∧ (parseMethodDescriptor yX7_isAbove.desc).map (fun d => d.parameters.length) = some 3 := by decide +kernel
set_option maxRecDepth 100000 in
theorem st_X7_isAbove : Cond.static yX7_isAbove ∈ lw_g := z_mem (k := 583) rfl rfl
set_option maxRecDepth 100000 in
theorem mc_X7_raise : Cond.code yX7_raise cX7_raise 5 none ∈ lw_g := z_mem (k := 588) rfl rfl
theorem nd_X7_raise : yX7_raise.cls ≠ "java/lang/invoke/MethodHandle" ∧ yX7_raise.cls ≠ "java/lang/invoke/VarHandle" ∧ (parseMethodDescriptor yX7_raise.desc).map (fun d => d.parameters.length) = some 1 := by decide +kernel
set_option maxRecDepth 100000 in
theorem im_X7_raise : Cond.instanceMethod yX7_raise ∈ lw_g := z_mem (k := 587) rfl rfl
set_option maxRecDepth 100000 in
theorem se_X7_raise : Cond.selects RX7 yX7_raise yX7_raise ∈ lw_g := z_mem (k := 24) rfl rfl
set_option maxRecDepth 100000 in
theorem mc_X7_isPower : Cond.code yX7_isPower cX7_isPower 18 (some .boolean) ∈ lw_g := z_mem (k := 576) rfl rfl
theorem nd_X7_isPower : yX7_isPower.cls ≠ "java/lang/invoke/MethodHandle" ∧ yX7_isPower.cls ≠ "java/lang/invoke/VarHandle" ∧ (parseMethodDescriptor yX7_isPower.desc).map (fun d => d.parameters.length) = some 2 := by decide +kernel
set_option maxRecDepth 100000 in
theorem im_X7_isPower : Cond.instanceMethod yX7_isPower ∈ lw_g := z_mem (k := 575) rfl rfl
set_option maxRecDepth 100000 in
theorem se_X7_isPower : Cond.selects RX7 yX7_isPower yX7_isPower ∈ lw_g := z_mem (k := 23) rfl rfl
set_option maxRecDepth 100000 in
theorem mc_X7_degree : Cond.code yX7_degree cX7_degree 2 (some .int) ∈ lw_g := z_mem (k := 526) rfl rfl
theorem nd_X7_degree : yX7_degree.cls ≠ "java/lang/invoke/MethodHandle" ∧ yX7_degree.cls ≠ "java/lang/invoke/VarHandle" ∧ (parseMethodDescriptor yX7_degree.desc).map (fun d => d.parameters.length) = some 1 := by decide +kernel
set_option maxRecDepth 100000 in
theorem im_X7_degree : Cond.instanceMethod yX7_degree ∈ lw_g := z_mem (k := 524) rfl rfl
set_option maxRecDepth 100000 in
theorem se_X7_degree : Cond.selects RX7 yX7_degree yX7_degree ∈ lw_g := z_mem (k := 525) rfl rfl
set_option maxRecDepth 100000 in
theorem mc_X7_freed : Cond.code yX7_freed cX7_freed 3 (some .int) ∈ lw_g := z_mem (k := 596) rfl rfl
theorem nd_X7_freed : yX7_freed.cls ≠ "java/lang/invoke/MethodHandle" ∧ yX7_freed.cls ≠ "java/lang/invoke/VarHandle" ∧ (parseMethodDescriptor yX7_freed.desc).map (fun d => d.parameters.length) = some 2 := by decide +kernel
set_option maxRecDepth 100000 in
theorem im_X7_freed : Cond.instanceMethod yX7_freed ∈ lw_g := z_mem (k := 594) rfl rfl
set_option maxRecDepth 100000 in
theorem se_X7_freed : Cond.selects RX7 yX7_freed yX7_freed ∈ lw_g := z_mem (k := 595) rfl rfl
set_option maxRecDepth 100000 in
theorem mc_X7_isParameter : Cond.code yX7_isParameter cX7_isParameter 2 (some .boolean) ∈ lw_g := z_mem (k := 604) rfl rfl
theorem nd_X7_isParameter : yX7_isParameter.cls ≠ "java/lang/invoke/MethodHandle" ∧ yX7_isParameter.cls ≠ "java/lang/invoke/VarHandle" ∧ (parseMethodDescriptor yX7_isParameter.desc).map (fun d => d.parameters.length) = some 2 := by decide +kernel
set_option maxRecDepth 100000 in
theorem st_X7_isParameter : Cond.static yX7_isParameter ∈ lw_g := z_mem (k := 603) rfl rfl
set_option maxRecDepth 100000 in
theorem mc_X7_raised : Cond.code yX7_raised cX7_raised 6 (some .long) ∈ lw_g := z_mem (k := 611) rfl rfl
theorem nd_X7_raised : yX7_raised.cls ≠ "java/lang/invoke/MethodHandle" ∧ yX7_raised.cls ≠ "java/lang/invoke/VarHandle" ∧ (parseMethodDescriptor yX7_raised.desc).map (fun d => d.parameters.length) = some 2 := by decide +kernel
set_option maxRecDepth 100000 in
theorem st_X7_raised : Cond.static yX7_raised ∈ lw_g := z_mem (k := 610) rfl rfl
set_option maxRecDepth 100000 in
theorem mc_X7_valueOf : Cond.code yX7_valueOf cX7_valueOf 7 (some .long) ∈ lw_g := z_mem (k := 608) rfl rfl
theorem nd_X7_valueOf : yX7_valueOf.cls ≠ "java/lang/invoke/MethodHandle" ∧ yX7_valueOf.cls ≠ "java/lang/invoke/VarHandle" ∧ (parseMethodDescriptor yX7_valueOf.desc).map (fun d => d.parameters.length) = some 3 := by decide +kernel
set_option maxRecDepth 100000 in
theorem im_X7_valueOf : Cond.instanceMethod yX7_valueOf ∈ lw_g := z_mem (k := 607) rfl rfl
set_option maxRecDepth 100000 in
theorem se_X7_valueOf : Cond.selects RX7 yX7_valueOf yX7_valueOf ∈ lw_g := z_mem (k := 26) rfl rfl
set_option maxRecDepth 100000 in
theorem mc_X7_value : Cond.code yX7_value cX7_value 6 (some .int) ∈ lw_g := z_mem (k := 601) rfl rfl
theorem nd_X7_value : yX7_value.cls ≠ "java/lang/invoke/MethodHandle" ∧ yX7_value.cls ≠ "java/lang/invoke/VarHandle" ∧ (parseMethodDescriptor yX7_value.desc).map (fun d => d.parameters.length) = some 3 := by decide +kernel
set_option maxRecDepth 100000 in
theorem im_X7_value : Cond.instanceMethod yX7_value ∈ lw_g := z_mem (k := 599) rfl rfl
set_option maxRecDepth 100000 in
theorem se_X7_value : Cond.selects RX7 yX7_value yX7_value ∈ lw_g := z_mem (k := 600) rfl rfl
set_option maxRecDepth 100000 in
theorem mc_X7_isSort : Cond.code yX7_isSort cX7_isSort 1 (some .boolean) ∈ lw_g := z_mem (k := 618) rfl rfl
theorem nd_X7_isSort : yX7_isSort.cls ≠ "java/lang/invoke/MethodHandle" ∧ yX7_isSort.cls ≠ "java/lang/invoke/VarHandle" ∧ (parseMethodDescriptor yX7_isSort.desc).map (fun d => d.parameters.length) = some 1 := by decide +kernel
set_option maxRecDepth 100000 in
theorem st_X7_isSort : Cond.static yX7_isSort ∈ lw_g := z_mem (k := 617) rfl rfl
set_option maxRecDepth 100000 in
theorem mc_X7_trace : Cond.code yX7_trace cX7_trace 2 (some .int) ∈ lw_g := z_mem (k := 615) rfl rfl
theorem nd_X7_trace : yX7_trace.cls ≠ "java/lang/invoke/MethodHandle" ∧ yX7_trace.cls ≠ "java/lang/invoke/VarHandle" ∧ (parseMethodDescriptor yX7_trace.desc).map (fun d => d.parameters.length) = some 1 := by decide +kernel
set_option maxRecDepth 100000 in
theorem im_X7_trace : Cond.instanceMethod yX7_trace ∈ lw_g := z_mem (k := 613) rfl rfl
set_option maxRecDepth 100000 in
theorem se_X7_trace : Cond.selects RX7 yX7_trace yX7_trace ∈ lw_g := z_mem (k := 614) rfl rfl
set_option maxRecDepth 100000 in
theorem mc_X7_times : Cond.code yX7_times cX7_times 2 (some .int) ∈ lw_g := z_mem (k := 622) rfl rfl
theorem nd_X7_times : yX7_times.cls ≠ "java/lang/invoke/MethodHandle" ∧ yX7_times.cls ≠ "java/lang/invoke/VarHandle" ∧ (parseMethodDescriptor yX7_times.desc).map (fun d => d.parameters.length) = some 1 := by decide +kernel
set_option maxRecDepth 100000 in
theorem im_X7_times : Cond.instanceMethod yX7_times ∈ lw_g := z_mem (k := 620) rfl rfl
set_option maxRecDepth 100000 in
theorem se_X7_times : Cond.selects RX7 yX7_times yX7_times ∈ lw_g := z_mem (k := 621) rfl rfl
set_option maxRecDepth 100000 in
theorem mc_X7_coefficient : Cond.code yX7_coefficient cX7_coefficient 4 (some .long) ∈ lw_g := z_mem (k := 626) rfl rfl
theorem nd_X7_coefficient : yX7_coefficient.cls ≠ "java/lang/invoke/MethodHandle" ∧ yX7_coefficient.cls ≠ "java/lang/invoke/VarHandle" ∧ (parseMethodDescriptor yX7_coefficient.desc).map (fun d => d.parameters.length) = some 3 := by decide +kernel
set_option maxRecDepth 100000 in
theorem im_X7_coefficient : Cond.instanceMethod yX7_coefficient ∈ lw_g := z_mem (k := 624) rfl rfl
set_option maxRecDepth 100000 in
theorem se_X7_coefficient : Cond.selects RX7 yX7_coefficient yX7_coefficient ∈ lw_g := z_mem (k := 625) rfl rfl
set_option maxRecDepth 100000 in
theorem mc_X7_isPlace : Cond.code yX7_isPlace cX7_isPlace 3 (some .boolean) ∈ lw_g := z_mem (k := 633) rfl rfl
theorem nd_X7_isPlace : yX7_isPlace.cls ≠ "java/lang/invoke/MethodHandle" ∧ yX7_isPlace.cls ≠ "java/lang/invoke/VarHandle" ∧ (parseMethodDescriptor yX7_isPlace.desc).map (fun d => d.parameters.length) = some 3 := by decide +kernel
set_option maxRecDepth 100000 in
theorem st_X7_isPlace : Cond.static yX7_isPlace ∈ lw_g := z_mem (k := 632) rfl rfl
set_option maxRecDepth 100000 in
theorem mc_X7_side : Cond.code yX7_side cX7_side 15 (some .int) ∈ lw_g := z_mem (k := 630) rfl rfl
theorem nd_X7_side : yX7_side.cls ≠ "java/lang/invoke/MethodHandle" ∧ yX7_side.cls ≠ "java/lang/invoke/VarHandle" ∧ (parseMethodDescriptor yX7_side.desc).map (fun d => d.parameters.length) = some 4 := by decide +kernel
set_option maxRecDepth 100000 in
theorem im_X7_side : Cond.instanceMethod yX7_side ∈ lw_g := z_mem (k := 628) rfl rfl
set_option maxRecDepth 100000 in
theorem se_X7_side : Cond.selects RX7 yX7_side yX7_side ∈ lw_g := z_mem (k := 629) rfl rfl
set_option maxRecDepth 100000 in
theorem mc_X7_at : Cond.code yX7_at cX7_at 8 (some .int) ∈ lw_g := z_mem (k := 638) rfl rfl
theorem nd_X7_at : yX7_at.cls ≠ "java/lang/invoke/MethodHandle" ∧ yX7_at.cls ≠ "java/lang/invoke/VarHandle" ∧ (parseMethodDescriptor yX7_at.desc).map (fun d => d.parameters.length) = some 5 := by decide +kernel
set_option maxRecDepth 100000 in
theorem im_X7_at : Cond.instanceMethod yX7_at ∈ lw_g := z_mem (k := 636) rfl rfl
set_option maxRecDepth 100000 in
theorem se_X7_at : Cond.selects RX7 yX7_at yX7_at ∈ lw_g := z_mem (k := 637) rfl rfl
set_option maxRecDepth 100000 in
theorem mc_X7_rest : Cond.code yX7_rest cX7_rest 4 (some .long) ∈ lw_g := z_mem (k := 654) rfl rfl
theorem nd_X7_rest : yX7_rest.cls ≠ "java/lang/invoke/MethodHandle" ∧ yX7_rest.cls ≠ "java/lang/invoke/VarHandle" ∧ (parseMethodDescriptor yX7_rest.desc).map (fun d => d.parameters.length) = some 2 := by decide +kernel
set_option maxRecDepth 100000 in
theorem st_X7_rest : Cond.static yX7_rest ∈ lw_g := z_mem (k := 653) rfl rfl
set_option maxRecDepth 100000 in
theorem mc_X7_traced : Cond.code yX7_traced cX7_traced 19 (some .long) ∈ lw_g := z_mem (k := 651) rfl rfl
theorem nd_X7_traced : yX7_traced.cls ≠ "java/lang/invoke/MethodHandle" ∧ yX7_traced.cls ≠ "java/lang/invoke/VarHandle" ∧ (parseMethodDescriptor yX7_traced.desc).map (fun d => d.parameters.length) = some 5 := by decide +kernel
set_option maxRecDepth 100000 in
theorem im_X7_traced : Cond.instanceMethod yX7_traced ∈ lw_g := z_mem (k := 650) rfl rfl
set_option maxRecDepth 100000 in
theorem se_X7_traced : Cond.selects RX7 yX7_traced yX7_traced ∈ lw_g := z_mem (k := 28) rfl rfl
set_option maxRecDepth 100000 in
theorem mc_X7_isOn : Cond.code yX7_isOn cX7_isOn 8 (some .int) ∈ lw_g := z_mem (k := 646) rfl rfl
theorem nd_X7_isOn : yX7_isOn.cls ≠ "java/lang/invoke/MethodHandle" ∧ yX7_isOn.cls ≠ "java/lang/invoke/VarHandle" ∧ (parseMethodDescriptor yX7_isOn.desc).map (fun d => d.parameters.length) = some 4 := by decide +kernel
set_option maxRecDepth 100000 in
theorem im_X7_isOn : Cond.instanceMethod yX7_isOn ∈ lw_g := z_mem (k := 645) rfl rfl
set_option maxRecDepth 100000 in
theorem se_X7_isOn : Cond.selects RX7 yX7_isOn yX7_isOn ∈ lw_g := z_mem (k := 27) rfl rfl
set_option maxRecDepth 100000 in
theorem mc_X7_follows : Cond.code yX7_follows cX7_follows 5 (some .int) ∈ lw_g := z_mem (k := 642) rfl rfl
theorem nd_X7_follows : yX7_follows.cls ≠ "java/lang/invoke/MethodHandle" ∧ yX7_follows.cls ≠ "java/lang/invoke/VarHandle" ∧ (parseMethodDescriptor yX7_follows.desc).map (fun d => d.parameters.length) = some 2 := by decide +kernel
set_option maxRecDepth 100000 in
theorem im_X7_follows : Cond.instanceMethod yX7_follows ∈ lw_g := z_mem (k := 640) rfl rfl
set_option maxRecDepth 100000 in
theorem se_X7_follows : Cond.selects RX7 yX7_follows yX7_follows ∈ lw_g := z_mem (k := 641) rfl rfl
set_option maxRecDepth 100000 in
theorem mc_X7_slope : Cond.code yX7_slope cX7_slope 10 (some .long) ∈ lw_g := z_mem (k := 663) rfl rfl
theorem nd_X7_slope : yX7_slope.cls ≠ "java/lang/invoke/MethodHandle" ∧ yX7_slope.cls ≠ "java/lang/invoke/VarHandle" ∧ (parseMethodDescriptor yX7_slope.desc).map (fun d => d.parameters.length) = some 4 := by decide +kernel
set_option maxRecDepth 100000 in
theorem im_X7_slope : Cond.instanceMethod yX7_slope ∈ lw_g := z_mem (k := 662) rfl rfl
set_option maxRecDepth 100000 in
theorem se_X7_slope : Cond.selects RX7 yX7_slope yX7_slope ∈ lw_g := z_mem (k := 29) rfl rfl
set_option maxRecDepth 100000 in
theorem mc_X7_touches : Cond.code yX7_touches cX7_touches 17 (some .int) ∈ lw_g := z_mem (k := 659) rfl rfl
theorem nd_X7_touches : yX7_touches.cls ≠ "java/lang/invoke/MethodHandle" ∧ yX7_touches.cls ≠ "java/lang/invoke/VarHandle" ∧ (parseMethodDescriptor yX7_touches.desc).map (fun d => d.parameters.length) = some 2 := by decide +kernel
set_option maxRecDepth 100000 in
theorem im_X7_touches : Cond.instanceMethod yX7_touches ∈ lw_g := z_mem (k := 657) rfl rfl
set_option maxRecDepth 100000 in
theorem se_X7_touches : Cond.selects RX7 yX7_touches yX7_touches ∈ lw_g := z_mem (k := 658) rfl rfl
end
section
/-! numbers under the reference's small methods -/
def lab (a : Int64) : Int64 := if a < 0 then -a else a
theorem lab_pos {a : Int64} (h : (0 : Int64) ≤ a) : a = lab a := by
  unfold lab
  rw [if_neg]
  intro q
  rw [Int64.lt_iff_toInt_lt] at q
  rw [Int64.le_iff_toInt_le] at h
  omega
theorem lab_neg {a : Int64} (h : ¬ (0 : Int64) ≤ a) : -a = lab a := by
  unfold lab
  rw [if_pos]
  rw [Int64.le_iff_toInt_le] at h
  rw [Int64.lt_iff_toInt_lt]
  omega
theorem l0 : (0 : Int64).toInt = 0 := rfl
theorem lab_0 {a : Int64} (h : lab a = 0) : a = 0 := by
  unfold lab at h
  by_cases q : a < 0
  · rw [if_pos q] at h
    rw [← Int64.neg_neg (a := a), h]
    rfl
  · rw [if_neg q] at h
    exact h
theorem lab_toInt {a : Int64} (h : a.toInt ≠ -9223372036854775808) : (lab a).toInt = a.toInt.natAbs := by
  have h1 := Int64.le_toInt a
  have h2 := Int64.toInt_lt a
  unfold lab
  by_cases q : a < 0
  · rw [if_pos q]
    rw [Int64.lt_iff_toInt_lt, l0] at q
    rw [Int64.toInt_neg, Int.bmod_eq_of_le (by omega) (by omega)]
    omega
  · rw [if_neg q]
    rw [Int64.lt_iff_toInt_lt, l0] at q
    omega
theorem l_rem (x y : Int64) : (x - (x / y) * y).toInt = x.toInt.tmod y.toInt := by
  have a := (x % y).toInt_lt
  have b := (x % y).le_toInt
  rw [Int64.toInt_mod] at a b
  rw [Int64.toInt_sub, Int64.toInt_mul, Int64.toInt_div, Int.bmod_mul_bmod, Int.sub_bmod_bmod, Int.mul_comm, ← Int.tmod_def]
  exact Int.bmod_eq_of_le (by omega) (by omega)
/-- the greatest common divisor under way -/
def cgI (a b x y : Int64) : Prop := (x = 0 → y = 0 → a = 0 ∧ b = 0) ∧ (a.toInt ≠ -9223372036854775808 → b.toInt ≠ -9223372036854775808 → 0 ≤ x.toInt ∧ 0 ≤ y.toInt ∧ Int.gcd x.toInt y.toInt = Int.gcd a.toInt b.toInt)
def cgE (a b r : Int64) : Prop := (r = 0 → a = 0 ∧ b = 0) ∧ (a.toInt ≠ -9223372036854775808 → b.toInt ≠ -9223372036854775808 → r.toInt = Int.gcd a.toInt b.toInt)
theorem cgI_0 (a b : Int64) : cgI a b (lab a) (lab b) := by
  refine ⟨fun h1 h2 => ⟨lab_0 h1, lab_0 h2⟩, fun h1 h2 => ?_⟩
  rw [lab_toInt h1, lab_toInt h2]
  refine ⟨by omega, by omega, ?_⟩
  simp [Int.gcd]
theorem cgI_s {a b x y : Int64} (hy : ¬ y = 0) (h : cgI a b x y) : cgI a b y (x - x / y * y) := by
  refine ⟨fun h1 _ => absurd h1 hy, fun h1 h2 => ?_⟩
  obtain ⟨g1, g2, g3⟩ := h.2 h1 h2
  have hy0 : y.toInt ≠ 0 := fun q => hy (Int64.toInt_inj.mp q)
  rw [l_rem, Int.tmod_eq_emod_of_nonneg g1]
  refine ⟨g2, Int.emod_nonneg _ hy0, ?_⟩
  rw [← g3]
  obtain ⟨u, hu⟩ := Int.eq_ofNat_of_zero_le g1
  obtain ⟨v, hv⟩ := Int.eq_ofNat_of_zero_le g2
  rw [hu, hv]
  show Nat.gcd v (u % v) = Nat.gcd u v
  rw [Nat.gcd_comm v (u % v), ← Nat.gcd_rec v u, Nat.gcd_comm]
theorem cgI_e {a b x y : Int64} (hy : y = 0) (h : cgI a b x y) : cgE a b x := by
  refine ⟨fun q => h.1 q hy, fun h1 h2 => ?_⟩
  obtain ⟨g1, g2, g3⟩ := h.2 h1 h2
  rw [hy, l0] at g3
  rw [← g3]
  simp
  omega
theorem cg_dec {x y : Int64} (hy : ¬ y = 0) : (x - x / y * y).toInt.natAbs < y.toInt.natAbs := by
  have hy0 : y.toInt ≠ 0 := fun q => hy (Int64.toInt_inj.mp q)
  rw [l_rem, Int.natAbs_tmod]
  exact Nat.mod_lt _ (by omega)
def lpow (b : Int64) : Nat → Int64
  | 0 => 1
  | n + 1 => lpow b n * b
theorem lpow_s {b : Int64} {k : Int} (h : 0 ≤ k) : lpow b k.toNat * b = lpow b (k + 1).toNat := by
  have : (k + 1).toNat = k.toNat + 1 := by omega
  rw [this]
  rfl
def pc8 (n : Nat) : Nat := n % 2 + n / 2 % 2 + n / 4 % 2 + n / 8 % 2 + n / 16 % 2 + n / 32 % 2 + n / 64 % 2 + n / 128 % 2
theorem pc8_t : ∀ n : Fin 256, n.val ≠ 0 → zI (n.val : Int) &&& zI ((n.val : Int) - 1) = zI ((n.val &&& (n.val - 1) : Nat) : Int) ∧ (n.val &&& (n.val - 1)) < n.val ∧ pc8 (n.val &&& (n.val - 1)) + 1 = pc8 n.val := by decide +kernel
theorem pc8_s {a : Int} (h0 : 0 ≤ a) (h1 : a < 256) (hn : ¬ a = 0) : ∃ t : Int, zI a &&& zI (a - 1) = zI t ∧ 0 ≤ t ∧ t < a ∧ (pc8 t.toNat : Int) + 1 = pc8 a.toNat := by
  obtain ⟨n, rfl⟩ := Int.eq_ofNat_of_zero_le h0
  obtain ⟨e1, e2, e3⟩ := pc8_t ⟨n, by omega⟩ (by simpa using hn)
  refine ⟨((n &&& (n - 1) : Nat) : Int), e1, by omega, by exact_mod_cast e2, ?_⟩
  show ((pc8 (n &&& (n - 1)) : Nat) : Int) + 1 = (pc8 n : Nat)
  exact_mod_cast e3
theorem zL_toInt {z : Int} (h1 : -9223372036854775808 ≤ z) (h2 : z < 9223372036854775808) : (zL z).toInt = z := Int64.toInt_ofInt_of_le h1 h2
theorem zL_add (a b : Int) : zL a + zL b = zL (a + b) := (Int64.ofInt_add a b).symm
theorem zL_sub (a b : Int) : zL a - zL b = zL (a - b) := (Int64.ofInt_sub a b).symm
theorem zL_mul (a b : Int) : zL a * zL b = zL (a * b) := (Int64.ofInt_mul a b).symm
theorem zL_1 : (1 : Int64) = zL 1 := rfl
theorem zL_of (x : Int64) : x = zL x.toInt := (Int64.ofInt_toInt x).symm
/-- powers that don't pass v -/
def abI (b v p : Int64) (i : Int) : Prop := p.toInt = b.toInt ^ i.toNat ∧ 1 ≤ p.toInt ∧ (i = 0 ∨ p.toInt ≤ v.toInt)
theorem abI_0 (b v : Int64) : abI b v 1 0 := ⟨by show (1 : Int) = b.toInt ^ 0; rw [Int.pow_zero], by decide, Or.inl rfl⟩
theorem abI_s {b v p : Int64} {i : Int} (hb : 1 ≤ b.toInt) (hi : 0 ≤ i) (h : abI b v p i) (hc : p ≤ v / b) : abI b v (p * b) (i + 1) := by
  obtain ⟨h1, h2, -⟩ := h
  have hbm := Int64.toInt_lt b
  have hvm := Int64.toInt_lt v
  have hvl := Int64.le_toInt v
  rw [Int64.le_iff_toInt_le, Int64.toInt_div_of_ne_right v b (by intro q; rw [q] at hb; exact absurd hb (by decide))] at hc
  have hv : 0 ≤ v.toInt := by
    rcases Int.le_total 0 v.toInt with q | q
    · exact q
    · have e1 : v.toInt.tdiv b.toInt = -((-v.toInt).tdiv b.toInt) := by rw [Int.neg_tdiv, Int.neg_neg]
      have e2 : 0 ≤ (-v.toInt).tdiv b.toInt := Int.tdiv_nonneg (by omega) (by omega)
      omega
  rw [Int.tdiv_eq_ediv_of_nonneg hv] at hc
  have h3 : p.toInt * b.toInt ≤ v.toInt := (Int.le_ediv_iff_mul_le (by omega)).mp hc
  have h4 : 1 ≤ p.toInt * b.toInt := by
    have := Int.mul_le_mul h2 hb (by decide) (by omega)
    omega
  have h5 : (p * b).toInt = p.toInt * b.toInt := by
    rw [Int64.toInt_mul]
    exact Int.bmod_eq_of_le (by omega) (by omega)
  refine ⟨?_, by omega, Or.inr (by omega)⟩
  have : (i + 1).toNat = i.toNat + 1 := by omega
  rw [h5, h1, this, Int.pow_succ]
theorem pc8_e {t n a : Int} (e0 : t = 0) (hn : n + pc8 t.toNat = pc8 a.toNat) : n = pc8 a.toNat := by
  rw [e0] at hn
  have : (pc8 (0 : Int).toNat : Int) = 0 := rfl
  omega
theorem abI_e {b v p : Int64} {i k : Int} (h : abI b v p i) (e : i = k) (hc : p ≤ v) : b.toInt ^ k.toNat ≤ v.toInt := by
  rw [← e, ← h.1]
  exact Int64.le_iff_toInt_le.mp hc
theorem dg_ih {f : Nat → Int64} {z : Int} (h2 : ∀ k : Int, z < k → k ≤ 4 → f k.toNat = 0) (h : f z.toNat = 0) : ∀ k : Int, z + -1 < k → k ≤ 4 → f k.toNat = 0 := by
  intro k h3 h4
  by_cases e : k = z
  · rw [e]; exact h
  · exact h2 k (by omega) h4
theorem zL_le {a b : Int} (ha : -9223372036854775808 ≤ a ∧ a < 9223372036854775808) (hb : -9223372036854775808 ≤ b ∧ b < 9223372036854775808) : zL a ≤ zL b ↔ a ≤ b := by
  rw [Int64.le_iff_toInt_le, zL_toInt ha.1 ha.2, zL_toInt hb.1 hb.2]
theorem zL_nle {a b : Int} (ha : -9223372036854775808 ≤ a ∧ a < 9223372036854775808) (hb : -9223372036854775808 ≤ b ∧ b < 9223372036854775808) (h : ¬ zL b ≤ zL a) : a < b := by
  rw [zL_le hb ha] at h
  omega
theorem zL_mid {a b : Int} (h : 1 ≤ a ∧ a ≤ b ∧ b ≤ 2000000000) : (zL a + zL b + 1) / 2 = zL ((a + b + 1) / 2) := by
  rw [zL_1, zL_add, zL_add]
  apply Int64.toInt_inj.mp
  rw [Int64.toInt_div_of_ne_right _ _ (by decide), zL_toInt (by omega) (by omega), zL_toInt (by omega) (by omega)]
  exact Int.tdiv_eq_ediv_of_nonneg (by omega)
theorem lpow_one : ∀ n : Nat, lpow (zL 1) n = 1
  | 0 => rfl
  | n + 1 => by
    show lpow (zL 1) n * zL 1 = 1
    rw [lpow_one n]
    rfl
theorem rt_mid {a b k : Int} {v : Int64} (h : 1 ≤ a ∧ a ≤ b ∧ b ≤ 2000000000) (hq : (zL ((a + b + 1) / 2)).toInt ^ k.toNat ≤ v.toInt) : (a + b + 1) / 2 = 1 ∨ ((a + b + 1) / 2) ^ k.toNat ≤ v.toInt := by
  rw [zL_toInt (by omega) (by omega)] at hq
  exact Or.inr hq
theorem rt_end {a b k i : Int} {v q : Int64} (h : 1 ≤ a ∧ a ≤ b ∧ b ≤ 2000000000) (hv : a = 1 ∨ a ^ k.toNat ≤ v.toInt) (hq : q = lpow (zL a) i.toNat) (hqv : q = v) : zL a = 0 ∨ (1 ≤ (zL a).toInt ∧ (zL a).toInt ≤ 2000000000 ∧ (zL a).toInt ^ k.toNat ≤ v.toInt) := by
  rw [zL_toInt (by omega) (by omega)]
  refine Or.inr ⟨h.1, by omega, ?_⟩
  rcases hv with e | e
  · rw [e, lpow_one] at hq
    rw [e, Int.one_pow, ← hqv, hq]
    decide
  · exact e
theorem up_eq {α : Type} {f : Nat → α} {k : Nat} {v : α} : va_up f k v k = v := if_pos rfl
theorem up_ne {α : Type} {f : Nat → α} {k j : Nat} {v : α} (h : j ≠ k) : va_up f k v j = f j := if_neg h
theorem up_at {f : Nat → Int64} {k : Int} {x : Int64} (hk : 0 ≤ k) {j : Int} (hj : 0 ≤ j) : vp_updL f k.toNat x j.toNat = if j = k then x else f j.toNat := by
  by_cases e : j = k
  · rw [if_pos e, e]; exact if_pos rfl
  · rw [if_neg e]; exact if_neg (by omega)
theorem red_z {f g : Nat → Int64} {k : Int} {c : Int64} (hk : 0 ≤ k) (hz : ∀ j : Int, 0 ≤ j → j < 5 → f j.toNat = 0 → g j.toNat = 0) : ∀ j : Int, 0 ≤ j → j < 5 → f j.toNat = 0 → vp_updL g k.toNat (g k.toNat / c) j.toNat = 0 := by
  intro j h1 h2 h3
  rw [up_at hk h1]
  by_cases e : j = k
  · rw [if_pos e, ← e, hz j h1 h2 h3]; exact Int64.zero_div
  · rw [if_neg e]; exact hz j h1 h2 h3
theorem dg_uq {f : Nat → Int64} {z z' : Int} (h1 : -1 ≤ z ∧ z ≤ 4) (h2 : ∀ k : Int, z < k → k ≤ 4 → f k.toNat = 0) (h3 : 0 ≤ z → f z.toNat ≠ 0) (g1 : -1 ≤ z' ∧ z' ≤ 4) (g2 : ∀ k : Int, z' < k → k ≤ 4 → f k.toNat = 0) (g3 : 0 ≤ z' → f z'.toNat ≠ 0) : z = z' := by
  rcases Int.lt_trichotomy z z' with q | q | q
  · exact absurd (h2 z' q g1.2) (g3 (by omega))
  · exact q
  · exact absurd (g2 z q h1.2) (h3 (by omega))
theorem dv_mul {X X' Y : Nat → Int64} {k : Int} {b : Int64} (hk : 0 ≤ k) (e : X' = vp_updL X k.toNat (X k.toNat * b)) (hp : ∀ j : Int, 0 ≤ j → j ≤ 4 → X j.toNat = if j < k then Y j.toNat * b else Y j.toNat) : ∀ j : Int, 0 ≤ j → j ≤ 4 → X' j.toNat = if j < k + 1 then Y j.toNat * b else Y j.toNat := by
  intro j h1 h2
  rw [e, up_at hk h1]
  by_cases q : j = k
  · rw [if_pos q, if_pos (by omega), ← q, hp j h1 h2, if_neg (by omega)]
  · rw [if_neg q, hp j h1 h2]
    by_cases r : j < k
    · rw [if_pos r, if_pos (by omega)]
    · rw [if_neg r, if_neg (by omega)]
theorem dv_sub {X X' T : Nat → Int64} {k d e0 : Int} {a : Int64} (he : 0 ≤ e0) (hde : d ≤ e0) (hk : 0 ≤ k ∧ k ≤ d) (e : X' = vp_updL X (e0 - d + k).toNat (X (e0 - d + k).toNat - a * T k.toNat)) (h : (k ≤ d → X e0.toNat = a * T d.toNat) ∧ (d < k → X e0.toNat = 0)) : (k + 1 ≤ d → X' e0.toNat = a * T d.toNat) ∧ (d < k + 1 → X' e0.toNat = 0) := by
  rw [e, up_at (by omega) he]
  by_cases q : k = d
  · refine ⟨fun h1 => by omega, fun _ => ?_⟩
    rw [if_pos (by omega), show e0 - d + k = e0 by omega, h.1 (by omega), q]
    exact Int64.sub_self _
  · refine ⟨fun _ => ?_, fun h1 => by omega⟩
    rw [if_neg (by omega)]
    exact h.1 hk.2
theorem dv_sw {X Y X' Y' U W : Nat → Int64} {k : Int} (hk : 0 ≤ k) (eX : X' = vp_updL X k.toNat (Y k.toNat)) (eY : Y' = vp_updL Y k.toNat (X k.toNat)) (hk4 : k ≤ 4) (h0 : ∀ j : Int, k ≤ j → j ≤ 4 → X j.toNat = U j.toNat ∧ Y j.toNat = W j.toNat) (hs : ∀ j : Int, 0 ≤ j → j < k → X j.toNat = W j.toNat ∧ Y j.toNat = U j.toNat) :
    (∀ j : Int, k + 1 ≤ j → j ≤ 4 → X' j.toNat = U j.toNat ∧ Y' j.toNat = W j.toNat) ∧ (∀ j : Int, 0 ≤ j → j < k + 1 → X' j.toNat = W j.toNat ∧ Y' j.toNat = U j.toNat) := by
  constructor
  · intro j h1 h2
    rw [eX, eY, up_at hk (by omega), up_at hk (by omega), if_neg (by omega), if_neg (by omega)]
    exact h0 j (by omega) h2
  · intro j h1 h2
    rw [eX, eY, up_at hk h1, up_at hk h1]
    by_cases q : j = k
    · rw [if_pos q, if_pos q, ← q]
      have := h0 j (by omega) (by omega)
      exact ⟨this.2, this.1⟩
    · rw [if_neg q, if_neg q]
      exact hs j h1 (by omega)
theorem dg_le {f : Nat → Int64} {z t : Int} (h1 : -1 ≤ z ∧ z ≤ 4) (h3 : 0 ≤ z → f z.toNat ≠ 0) (hz : ∀ k : Int, t < k → k ≤ 4 → f k.toNat = 0) (h0 : 0 ≤ z) : z ≤ t := by
  rcases Int.lt_or_le t z with q | q
  · exact absurd (hz z q h1.2) (h3 h0)
  · exact q
theorem dv_top {X : Nat → Int64} {e0 j : Int} (h : X e0.toNat = 0) (hz : ∀ j : Int, e0 < j → j ≤ 4 → X j.toNat = 0) (h1 : e0 ≤ j) (h2 : j ≤ 4) : X j.toNat = 0 := by
  by_cases e : j = e0
  · rw [e]; exact h
  · exact hz j (by omega) h2
end
