section
-- ===== PART A: goes FIRST, ahead of the names: the tables' words, and 'selects' of the private methods out of them =====
/-- a private method of a class that the tables say can be made, by its rows of tables_1 -/
def lw_okq (q : MethodName × Nat) : Prop := (q.1.cls ≠ "java/lang/invoke/MethodHandle" ∧ q.1.cls ≠ "java/lang/invoke/VarHandle") ∧ Cond.instantiable q.1.cls q.2 ∈ tables_1 ∧ Cond.privateMethod q.1 ∈ tables_1 ∧ Cond.instanceMethod q.1 ∈ tables_1
theorem lw_p0 : lw_okq (⟨"EliminateLoci", "forget", "()V"⟩, 9) := ⟨⟨by decide +kernel, by decide +kernel⟩, List.mem_of_getElem? (i := 14) (by decide +kernel), List.mem_of_getElem? (i := 181) (by decide +kernel), List.mem_of_getElem? (i := 182) (by decide +kernel)⟩
theorem lw_p1 : lw_okq (⟨"EliminateLoci", "freeRow", "()LEliminateLoci$Row;"⟩, 9) := ⟨⟨by decide +kernel, by decide +kernel⟩, List.mem_of_getElem? (i := 14) (by decide +kernel), List.mem_of_getElem? (i := 201) (by decide +kernel), List.mem_of_getElem? (i := 202) (by decide +kernel)⟩
theorem lw_p2 : lw_okq (⟨"EliminateLoci$Divisor", "shareWithOther", "()V"⟩, 3) := ⟨⟨by decide +kernel, by decide +kernel⟩, List.mem_of_getElem? (i := 38) (by decide +kernel), List.mem_of_getElem? (i := 215) (by decide +kernel), List.mem_of_getElem? (i := 216) (by decide +kernel)⟩
theorem lw_p3 : lw_okq (⟨"EliminateLoci$Divisor", "swap", "()V"⟩, 3) := ⟨⟨by decide +kernel, by decide +kernel⟩, List.mem_of_getElem? (i := 38) (by decide +kernel), List.mem_of_getElem? (i := 222) (by decide +kernel), List.mem_of_getElem? (i := 223) (by decide +kernel)⟩
theorem lw_p4 : lw_okq (⟨"EliminateLoci$Divisor", "lowerShared", "(II)V"⟩, 3) := ⟨⟨by decide +kernel, by decide +kernel⟩, List.mem_of_getElem? (i := 38) (by decide +kernel), List.mem_of_getElem? (i := 226) (by decide +kernel), List.mem_of_getElem? (i := 227) (by decide +kernel)⟩
theorem lw_p5 : lw_okq (⟨"EliminateLoci$Divisor", "makePrimitive", "([J)V"⟩, 3) := ⟨⟨by decide +kernel, by decide +kernel⟩, List.mem_of_getElem? (i := 38) (by decide +kernel), List.mem_of_getElem? (i := 233) (by decide +kernel), List.mem_of_getElem? (i := 234) (by decide +kernel)⟩
theorem lw_p6 : lw_okq (⟨"EliminateLoci$Divisor", "divideByShared", "([J)V"⟩, 3) := ⟨⟨by decide +kernel, by decide +kernel⟩, List.mem_of_getElem? (i := 38) (by decide +kernel), List.mem_of_getElem? (i := 237) (by decide +kernel), List.mem_of_getElem? (i := 238) (by decide +kernel)⟩
theorem lw_p7 : lw_okq (⟨"EliminateLoci", "moveTo", "(II)V"⟩, 9) := ⟨⟨by decide +kernel, by decide +kernel⟩, List.mem_of_getElem? (i := 14) (by decide +kernel), List.mem_of_getElem? (i := 253) (by decide +kernel), List.mem_of_getElem? (i := 254) (by decide +kernel)⟩
theorem lw_p8 : lw_okq (⟨"EliminateLoci", "curveOf", "(I)LEliminateLoci$Curve;"⟩, 9) := ⟨⟨by decide +kernel, by decide +kernel⟩, List.mem_of_getElem? (i := 14) (by decide +kernel), List.mem_of_getElem? (i := 268) (by decide +kernel), List.mem_of_getElem? (i := 269) (by decide +kernel)⟩
theorem lw_p9 : lw_okq (⟨"EliminateLoci$Eliminant", "fillEntry", "(III)V"⟩, 4) := ⟨⟨by decide +kernel, by decide +kernel⟩, List.mem_of_getElem? (i := 54) (by decide +kernel), List.mem_of_getElem? (i := 305) (by decide +kernel), List.mem_of_getElem? (i := 306) (by decide +kernel)⟩
theorem lw_p10 : lw_okq (⟨"EliminateLoci$Eliminant", "fillMinor", "(II)V"⟩, 4) := ⟨⟨by decide +kernel, by decide +kernel⟩, List.mem_of_getElem? (i := 54) (by decide +kernel), List.mem_of_getElem? (i := 326) (by decide +kernel), List.mem_of_getElem? (i := 327) (by decide +kernel)⟩
theorem lw_p11 : lw_okq (⟨"EliminateLoci$RootFinder", "startRoot", "(I)Z"⟩, 4) := ⟨⟨by decide +kernel, by decide +kernel⟩, List.mem_of_getElem? (i := 92) (by decide +kernel), List.mem_of_getElem? (i := 351) (by decide +kernel), List.mem_of_getElem? (i := 352) (by decide +kernel)⟩
theorem lw_p12 : lw_okq (⟨"EliminateLoci$RootFinder", "completeRoot", "(I)Z"⟩, 4) := ⟨⟨by decide +kernel, by decide +kernel⟩, List.mem_of_getElem? (i := 92) (by decide +kernel), List.mem_of_getElem? (i := 365) (by decide +kernel), List.mem_of_getElem? (i := 366) (by decide +kernel)⟩
theorem lw_p13 : lw_okq (⟨"EliminateLoci$RootFinder", "raiseRoot", "(I)V"⟩, 4) := ⟨⟨by decide +kernel, by decide +kernel⟩, List.mem_of_getElem? (i := 92) (by decide +kernel), List.mem_of_getElem? (i := 376) (by decide +kernel), List.mem_of_getElem? (i := 377) (by decide +kernel)⟩
theorem lw_p14 : lw_okq (⟨"EliminateLoci", "slopeByU", "(IIII)J"⟩, 9) := ⟨⟨by decide +kernel, by decide +kernel⟩, List.mem_of_getElem? (i := 14) (by decide +kernel), List.mem_of_getElem? (i := 418) (by decide +kernel), List.mem_of_getElem? (i := 419) (by decide +kernel)⟩
theorem lw_p15 : lw_okq (⟨"EliminateLoci", "slopeByV", "(IIII)J"⟩, 9) := ⟨⟨by decide +kernel, by decide +kernel⟩, List.mem_of_getElem? (i := 14) (by decide +kernel), List.mem_of_getElem? (i := 422) (by decide +kernel), List.mem_of_getElem? (i := 423) (by decide +kernel)⟩
def lw_privs_1 : List (MethodName × Nat) := [(⟨"EliminateLoci", "forget", "()V"⟩, 9), (⟨"EliminateLoci", "freeRow", "()LEliminateLoci$Row;"⟩, 9), (⟨"EliminateLoci$Divisor", "shareWithOther", "()V"⟩, 3), (⟨"EliminateLoci$Divisor", "swap", "()V"⟩, 3), (⟨"EliminateLoci$Divisor", "lowerShared", "(II)V"⟩, 3), (⟨"EliminateLoci$Divisor", "makePrimitive", "([J)V"⟩, 3), (⟨"EliminateLoci$Divisor", "divideByShared", "([J)V"⟩, 3), (⟨"EliminateLoci", "moveTo", "(II)V"⟩, 9), (⟨"EliminateLoci", "curveOf", "(I)LEliminateLoci$Curve;"⟩, 9), (⟨"EliminateLoci$Eliminant", "fillEntry", "(III)V"⟩, 4), (⟨"EliminateLoci$Eliminant", "fillMinor", "(II)V"⟩, 4), (⟨"EliminateLoci$RootFinder", "startRoot", "(I)Z"⟩, 4), (⟨"EliminateLoci$RootFinder", "completeRoot", "(I)Z"⟩, 4), (⟨"EliminateLoci$RootFinder", "raiseRoot", "(I)V"⟩, 4), (⟨"EliminateLoci", "slopeByU", "(IIII)J"⟩, 9), (⟨"EliminateLoci", "slopeByV", "(IIII)J"⟩, 9)]
theorem lw_r1 : ∀ q ∈ lw_privs_1, lw_okq q := List.forall_mem_cons.mpr ⟨lw_p0, List.forall_mem_cons.mpr ⟨lw_p1, List.forall_mem_cons.mpr ⟨lw_p2, List.forall_mem_cons.mpr ⟨lw_p3, List.forall_mem_cons.mpr ⟨lw_p4, List.forall_mem_cons.mpr ⟨lw_p5, List.forall_mem_cons.mpr ⟨lw_p6, List.forall_mem_cons.mpr ⟨lw_p7, List.forall_mem_cons.mpr ⟨lw_p8, List.forall_mem_cons.mpr ⟨lw_p9, List.forall_mem_cons.mpr ⟨lw_p10, List.forall_mem_cons.mpr ⟨lw_p11, List.forall_mem_cons.mpr ⟨lw_p12, List.forall_mem_cons.mpr ⟨lw_p13, List.forall_mem_cons.mpr ⟨lw_p14, List.forall_mem_cons.mpr ⟨lw_p15, fun _ h => absurd h List.not_mem_nil⟩⟩⟩⟩⟩⟩⟩⟩⟩⟩⟩⟩⟩⟩⟩⟩
theorem lw_p16 : lw_okq (⟨"EliminateLociModel", "work", "()V"⟩, 17) := ⟨⟨by decide +kernel, by decide +kernel⟩, List.mem_of_getElem? (i := 426) (by decide +kernel), List.mem_of_getElem? (i := 498) (by decide +kernel), List.mem_of_getElem? (i := 499) (by decide +kernel)⟩
theorem lw_p17 : lw_okq (⟨"EliminateLociModel", "divisor", "()V"⟩, 17) := ⟨⟨by decide +kernel, by decide +kernel⟩, List.mem_of_getElem? (i := 426) (by decide +kernel), List.mem_of_getElem? (i := 502) (by decide +kernel), List.mem_of_getElem? (i := 503) (by decide +kernel)⟩
theorem lw_p18 : lw_okq (⟨"EliminateLociModel", "locus", "()V"⟩, 17) := ⟨⟨by decide +kernel, by decide +kernel⟩, List.mem_of_getElem? (i := 426) (by decide +kernel), List.mem_of_getElem? (i := 515) (by decide +kernel), List.mem_of_getElem? (i := 516) (by decide +kernel)⟩
theorem lw_p19 : lw_okq (⟨"EliminateLociModel", "emptied", "()V"⟩, 17) := ⟨⟨by decide +kernel, by decide +kernel⟩, List.mem_of_getElem? (i := 426) (by decide +kernel), List.mem_of_getElem? (i := 519) (by decide +kernel), List.mem_of_getElem? (i := 520) (by decide +kernel)⟩
theorem lw_p20 : lw_okq (⟨"EliminateLociModel", "entry", "(IIJJJ)V"⟩, 17) := ⟨⟨by decide +kernel, by decide +kernel⟩, List.mem_of_getElem? (i := 426) (by decide +kernel), List.mem_of_getElem? (i := 523) (by decide +kernel), List.mem_of_getElem? (i := 524) (by decide +kernel)⟩
theorem lw_p21 : lw_okq (⟨"EliminateLociModel", "minorsOf", "(I)V"⟩, 17) := ⟨⟨by decide +kernel, by decide +kernel⟩, List.mem_of_getElem? (i := 426) (by decide +kernel), List.mem_of_getElem? (i := 527) (by decide +kernel), List.mem_of_getElem? (i := 528) (by decide +kernel)⟩
theorem lw_p22 : lw_okq (⟨"EliminateLociModel", "tell", "(II)V"⟩, 17) := ⟨⟨by decide +kernel, by decide +kernel⟩, List.mem_of_getElem? (i := 426) (by decide +kernel), List.mem_of_getElem? (i := 534) (by decide +kernel), List.mem_of_getElem? (i := 535) (by decide +kernel)⟩
theorem lw_p23 : lw_okq (⟨"EliminateLociModel", "isPower", "(II)Z"⟩, 17) := ⟨⟨by decide +kernel, by decide +kernel⟩, List.mem_of_getElem? (i := 426) (by decide +kernel), List.mem_of_getElem? (i := 544) (by decide +kernel), List.mem_of_getElem? (i := 545) (by decide +kernel)⟩
theorem lw_p24 : lw_okq (⟨"EliminateLociModel", "raise", "(I)V"⟩, 17) := ⟨⟨by decide +kernel, by decide +kernel⟩, List.mem_of_getElem? (i := 426) (by decide +kernel), List.mem_of_getElem? (i := 556) (by decide +kernel), List.mem_of_getElem? (i := 557) (by decide +kernel)⟩
theorem lw_p25 : lw_okq (⟨"EliminateLociModel", "envelope", "()V"⟩, 17) := ⟨⟨by decide +kernel, by decide +kernel⟩, List.mem_of_getElem? (i := 426) (by decide +kernel), List.mem_of_getElem? (i := 560) (by decide +kernel), List.mem_of_getElem? (i := 561) (by decide +kernel)⟩
theorem lw_p26 : lw_okq (⟨"EliminateLociModel", "valueOf", "(III)J"⟩, 17) := ⟨⟨by decide +kernel, by decide +kernel⟩, List.mem_of_getElem? (i := 426) (by decide +kernel), List.mem_of_getElem? (i := 576) (by decide +kernel), List.mem_of_getElem? (i := 577) (by decide +kernel)⟩
theorem lw_p27 : lw_okq (⟨"EliminateLociModel", "isOn", "(IJJJ)I"⟩, 17) := ⟨⟨by decide +kernel, by decide +kernel⟩, List.mem_of_getElem? (i := 426) (by decide +kernel), List.mem_of_getElem? (i := 614) (by decide +kernel), List.mem_of_getElem? (i := 615) (by decide +kernel)⟩
theorem lw_p28 : lw_okq (⟨"EliminateLociModel", "traced", "(IJJJJ)J"⟩, 17) := ⟨⟨by decide +kernel, by decide +kernel⟩, List.mem_of_getElem? (i := 426) (by decide +kernel), List.mem_of_getElem? (i := 619) (by decide +kernel), List.mem_of_getElem? (i := 620) (by decide +kernel)⟩
theorem lw_p29 : lw_okq (⟨"EliminateLociModel", "slope", "(IIII)J"⟩, 17) := ⟨⟨by decide +kernel, by decide +kernel⟩, List.mem_of_getElem? (i := 426) (by decide +kernel), List.mem_of_getElem? (i := 631) (by decide +kernel), List.mem_of_getElem? (i := 632) (by decide +kernel)⟩
def lw_privs_2 : List (MethodName × Nat) := [(⟨"EliminateLociModel", "work", "()V"⟩, 17), (⟨"EliminateLociModel", "divisor", "()V"⟩, 17), (⟨"EliminateLociModel", "locus", "()V"⟩, 17), (⟨"EliminateLociModel", "emptied", "()V"⟩, 17), (⟨"EliminateLociModel", "entry", "(IIJJJ)V"⟩, 17), (⟨"EliminateLociModel", "minorsOf", "(I)V"⟩, 17), (⟨"EliminateLociModel", "tell", "(II)V"⟩, 17), (⟨"EliminateLociModel", "isPower", "(II)Z"⟩, 17), (⟨"EliminateLociModel", "raise", "(I)V"⟩, 17), (⟨"EliminateLociModel", "envelope", "()V"⟩, 17), (⟨"EliminateLociModel", "valueOf", "(III)J"⟩, 17), (⟨"EliminateLociModel", "isOn", "(IJJJ)I"⟩, 17), (⟨"EliminateLociModel", "traced", "(IJJJJ)J"⟩, 17), (⟨"EliminateLociModel", "slope", "(IIII)J"⟩, 17)]
theorem lw_r2 : ∀ q ∈ lw_privs_2, lw_okq q := List.forall_mem_cons.mpr ⟨lw_p16, List.forall_mem_cons.mpr ⟨lw_p17, List.forall_mem_cons.mpr ⟨lw_p18, List.forall_mem_cons.mpr ⟨lw_p19, List.forall_mem_cons.mpr ⟨lw_p20, List.forall_mem_cons.mpr ⟨lw_p21, List.forall_mem_cons.mpr ⟨lw_p22, List.forall_mem_cons.mpr ⟨lw_p23, List.forall_mem_cons.mpr ⟨lw_p24, List.forall_mem_cons.mpr ⟨lw_p25, List.forall_mem_cons.mpr ⟨lw_p26, List.forall_mem_cons.mpr ⟨lw_p27, List.forall_mem_cons.mpr ⟨lw_p28, List.forall_mem_cons.mpr ⟨lw_p29, fun _ h => absurd h List.not_mem_nil⟩⟩⟩⟩⟩⟩⟩⟩⟩⟩⟩⟩⟩⟩
def lw_privs : List (MethodName × Nat) := lw_privs_1 ++ (lw_privs_2)
def lw_tbl : List Cond := k2_sels lw_privs ++ tables_1
theorem lw_privs_ok : ∀ q ∈ lw_privs, lw_okq q := by
  show ∀ q ∈ lw_privs_1 ++ (lw_privs_2), lw_okq q
  exact List.forall_mem_append.mpr ⟨lw_r1, lw_r2⟩

def RX0 : String := "EliminateLoci$Curve"
def TX0 : u_T := fun k => match k with
  | 0 => ("EliminateLoci$Curve", "root", "LEliminateLoci$Plane;", true)
  | 1 => ("EliminateLoci$Curve", "power", "I", false)
  | 2 => ("EliminateLoci$Curve", "known", "Z", false)
  | _ => ("EliminateLoci$Curve", "found", "Z", false)
def tyX0 : Nat → FieldType := fun k => match k with
  | 0 => .object "EliminateLoci$Plane"
  | 1 => .int
  | 2 => .boolean
  | _ => .boolean
theorem nmX0 : ∀ a, a < 4 → ∀ b, b < 4 → a ≠ b → (TX0 a).2.1 ≠ (TX0 b).2.1 := by decide +kernel
theorem tyX0_ok : ∀ k, k < 4 → parseFieldDescriptor (TX0 k).2.2.1 = some (tyX0 k) := by decide +kernel
abbrev cX0_init : ByteArray := prog_2_method_1_code
def yX0_init : MethodName := ⟨RX0, "<init>", "()V"⟩
def RX1 : String := "EliminateLoci$Divisor"
def TX1 : u_T := fun k => match k with
  | 0 => ("EliminateLoci$Divisor", "shared", "[J", true)
  | 1 => ("EliminateLoci$Divisor", "other", "[J", true)
  | _ => ("EliminateLoci$Divisor", "spare", "[J", true)
def tyX1 : Nat → FieldType := fun k => match k with
  | 0 => .array .long
  | 1 => .array .long
  | _ => .array .long
theorem nmX1 : ∀ a, a < 3 → ∀ b, b < 3 → a ≠ b → (TX1 a).2.1 ≠ (TX1 b).2.1 := by decide +kernel
theorem tyX1_ok : ∀ k, k < 3 → parseFieldDescriptor (TX1 k).2.2.1 = some (tyX1 k) := by decide +kernel
abbrev cX1_init : ByteArray := prog_3_method_1_code
def yX1_init : MethodName := ⟨RX1, "<init>", "()V"⟩
abbrev cX1_free : ByteArray := prog_3_method_2_code
def yX1_free : MethodName := ⟨RX1, "free", "(LEliminateLoci$Row;LEliminateLoci$Row;)V"⟩
abbrev cX1_shareWithOther : ByteArray := prog_3_method_3_code
def yX1_shareWithOther : MethodName := ⟨RX1, "shareWithOther", "()V"⟩
abbrev cX1_swap : ByteArray := prog_3_method_4_code
def yX1_swap : MethodName := ⟨RX1, "swap", "()V"⟩
abbrev cX1_lowerShared : ByteArray := prog_3_method_5_code
def yX1_lowerShared : MethodName := ⟨RX1, "lowerShared", "(II)V"⟩
abbrev cX1_makePrimitive : ByteArray := prog_3_method_6_code
def yX1_makePrimitive : MethodName := ⟨RX1, "makePrimitive", "([J)V"⟩
abbrev cX1_divideByShared : ByteArray := prog_3_method_7_code
def yX1_divideByShared : MethodName := ⟨RX1, "divideByShared", "([J)V"⟩
def RX2 : String := "EliminateLoci$Eliminant"
def TX2 : u_T := fun k => match k with
  | 0 => ("EliminateLoci$Eliminant", "first", "[LEliminateLoci$Plane;", true)
  | 1 => ("EliminateLoci$Eliminant", "second", "[LEliminateLoci$Plane;", true)
  | 2 => ("EliminateLoci$Eliminant", "entries", "[LEliminateLoci$Plane;", true)
  | _ => ("EliminateLoci$Eliminant", "minors", "[LEliminateLoci$Plane;", true)
def tyX2 : Nat → FieldType := fun k => match k with
  | 0 => .array (.object "EliminateLoci$Plane")
  | 1 => .array (.object "EliminateLoci$Plane")
  | 2 => .array (.object "EliminateLoci$Plane")
  | _ => .array (.object "EliminateLoci$Plane")
theorem nmX2 : ∀ a, a < 4 → ∀ b, b < 4 → a ≠ b → (TX2 a).2.1 ≠ (TX2 b).2.1 := by decide +kernel
theorem tyX2_ok : ∀ k, k < 4 → parseFieldDescriptor (TX2 k).2.2.1 = some (tyX2 k) := by decide +kernel
abbrev cX2_init : ByteArray := prog_4_method_1_code
def yX2_init : MethodName := ⟨RX2, "<init>", "()V"⟩
abbrev cX2_takeMover : ByteArray := prog_4_method_2_code
def yX2_takeMover : MethodName := ⟨RX2, "takeMover", "(LEliminateLoci$Row;)I"⟩
abbrev cX2_takeLines : ByteArray := prog_4_method_3_code
def yX2_takeLines : MethodName := ⟨RX2, "takeLines", "(LEliminateLoci$Row;)I"⟩
abbrev cX2_setScaledLine : ByteArray := prog_4_method_4_code
def yX2_setScaledLine : MethodName := ⟨RX2, "setScaledLine", "(LEliminateLoci$Plane;LEliminateLoci$Row;IJ)V"⟩
abbrev cX2_resultant : ByteArray := prog_4_method_5_code
def yX2_resultant : MethodName := ⟨RX2, "resultant", "(I)LEliminateLoci$Plane;"⟩
abbrev cX2_fillEntry : ByteArray := prog_4_method_6_code
def yX2_fillEntry : MethodName := ⟨RX2, "fillEntry", "(III)V"⟩
abbrev cX2_fillMinor : ByteArray := prog_4_method_7_code
def yX2_fillMinor : MethodName := ⟨RX2, "fillMinor", "(II)V"⟩
def RX3 : String := "EliminateLoci$Plane"
def TX3 : u_T := fun k => match k with
  | 0 => ("EliminateLoci$Plane", "cells", "[J", true)
  | _ => ("EliminateLoci$Plane", "bound", "I", false)
def tyX3 : Nat → FieldType := fun k => match k with
  | 0 => .array .long
  | _ => .int
theorem nmX3 : ∀ a, a < 2 → ∀ b, b < 2 → a ≠ b → (TX3 a).2.1 ≠ (TX3 b).2.1 := by decide +kernel
theorem tyX3_ok : ∀ k, k < 2 → parseFieldDescriptor (TX3 k).2.2.1 = some (tyX3 k) := by decide +kernel
abbrev cX3_init : ByteArray := prog_5_method_1_code
def yX3_init : MethodName := ⟨RX3, "<init>", "()V"⟩
abbrev cX3_erase : ByteArray := prog_5_method_2_code
def yX3_erase : MethodName := ⟨RX3, "erase", "()V"⟩
abbrev cX3_setLine : ByteArray := prog_5_method_3_code
def yX3_setLine : MethodName := ⟨RX3, "setLine", "(JJJ)V"⟩
abbrev cX3_copy : ByteArray := prog_5_method_4_code
def yX3_copy : MethodName := ⟨RX3, "copy", "(LEliminateLoci$Plane;)V"⟩
abbrev cX3_addProduct : ByteArray := prog_5_method_5_code
def yX3_addProduct : MethodName := ⟨RX3, "addProduct", "(LEliminateLoci$Plane;LEliminateLoci$Plane;J)V"⟩
abbrev cX3_tighten : ByteArray := prog_5_method_6_code
def yX3_tighten : MethodName := ⟨RX3, "tighten", "()V"⟩
abbrev cX3_firstOfBound : ByteArray := prog_5_method_7_code
def yX3_firstOfBound : MethodName := ⟨RX3, "firstOfBound", "()I"⟩
abbrev cX3_makePrimitive : ByteArray := prog_5_method_8_code
def yX3_makePrimitive : MethodName := ⟨RX3, "makePrimitive", "()V"⟩
abbrev cX3_sumOfSizes : ByteArray := prog_5_method_9_code
def yX3_sumOfSizes : MethodName := ⟨RX3, "sumOfSizes", "()J"⟩
abbrev cX3_isSame : ByteArray := prog_5_method_10_code
def yX3_isSame : MethodName := ⟨RX3, "isSame", "(LEliminateLoci$Plane;)Z"⟩
abbrev cX3_scaledValue : ByteArray := prog_5_method_11_code
def yX3_scaledValue : MethodName := ⟨RX3, "scaledValue", "(JJJ)J"⟩
def RX4 : String := "EliminateLoci$RootFinder"
def TX4 : u_T := fun k => match k with
  | 0 => ("EliminateLoci$RootFinder", "whole", "LEliminateLoci$Plane;", true)
  | 1 => ("EliminateLoci$RootFinder", "root", "LEliminateLoci$Plane;", true)
  | 2 => ("EliminateLoci$RootFinder", "raised", "LEliminateLoci$Plane;", true)
  | _ => ("EliminateLoci$RootFinder", "spare", "LEliminateLoci$Plane;", true)
def tyX4 : Nat → FieldType := fun k => match k with
  | 0 => .object "EliminateLoci$Plane"
  | 1 => .object "EliminateLoci$Plane"
  | 2 => .object "EliminateLoci$Plane"
  | _ => .object "EliminateLoci$Plane"
theorem nmX4 : ∀ a, a < 4 → ∀ b, b < 4 → a ≠ b → (TX4 a).2.1 ≠ (TX4 b).2.1 := by decide +kernel
theorem tyX4_ok : ∀ k, k < 4 → parseFieldDescriptor (TX4 k).2.2.1 = some (tyX4 k) := by decide +kernel
abbrev cX4_init : ByteArray := prog_6_method_1_code
def yX4_init : MethodName := ⟨RX4, "<init>", "()V"⟩
abbrev cX4_findRoot : ByteArray := prog_6_method_2_code
def yX4_findRoot : MethodName := ⟨RX4, "findRoot", "(LEliminateLoci$Plane;LEliminateLoci$Curve;)Z"⟩
abbrev cX4_startRoot : ByteArray := prog_6_method_3_code
def yX4_startRoot : MethodName := ⟨RX4, "startRoot", "(I)Z"⟩
abbrev cX4_completeRoot : ByteArray := prog_6_method_4_code
def yX4_completeRoot : MethodName := ⟨RX4, "completeRoot", "(I)Z"⟩
abbrev cX4_raiseRoot : ByteArray := prog_6_method_5_code
def yX4_raiseRoot : MethodName := ⟨RX4, "raiseRoot", "(I)V"⟩
def RX5 : String := "EliminateLoci$Row"
def TX5 : u_T := fun k => match k with
  | _ => ("EliminateLoci$Row", "parts", "[[J", true)
def tyX5 : Nat → FieldType := fun k => match k with
  | _ => .array (.array .long)
theorem nmX5 : ∀ a, a < 1 → ∀ b, b < 1 → a ≠ b → (TX5 a).2.1 ≠ (TX5 b).2.1 := by decide +kernel
theorem tyX5_ok : ∀ k, k < 1 → parseFieldDescriptor (TX5 k).2.2.1 = some (tyX5 k) := by decide +kernel
abbrev cX5_init : ByteArray := prog_7_method_1_code
def yX5_init : MethodName := ⟨RX5, "<init>", "()V"⟩
abbrev cX5_highestPower : ByteArray := prog_7_method_2_code
def yX5_highestPower : MethodName := ⟨RX5, "highestPower", "()I"⟩
abbrev cX5_isZero : ByteArray := prog_7_method_3_code
def yX5_isZero : MethodName := ⟨RX5, "isZero", "(I)Z"⟩
abbrev cX5_countAndErase : ByteArray := prog_7_method_4_code
def yX5_countAndErase : MethodName := ⟨RX5, "countAndErase", "()I"⟩
abbrev cX5_topOf : ByteArray := prog_7_method_5_code
def yX5_topOf : MethodName := ⟨RX5, "topOf", "([J)I"⟩
def RX6 : String := "EliminateLoci"
def TX6 : u_T := fun k => match k with
  | 0 => ("EliminateLoci", "row", "LEliminateLoci$Row;", true)
  | 1 => ("EliminateLoci", "freedRow", "LEliminateLoci$Row;", true)
  | 2 => ("EliminateLoci", "divisor", "LEliminateLoci$Divisor;", true)
  | 3 => ("EliminateLoci", "eliminant", "LEliminateLoci$Eliminant;", true)
  | 4 => ("EliminateLoci", "finder", "LEliminateLoci$RootFinder;", true)
  | 5 => ("EliminateLoci", "locus", "LEliminateLoci$Curve;", true)
  | 6 => ("EliminateLoci", "envelope", "LEliminateLoci$Curve;", true)
  | 7 => ("EliminateLoci", "spot", "[J", true)
  | _ => ("EliminateLoci", "freedKnown", "Z", false)
def tyX6 : Nat → FieldType := fun k => match k with
  | 0 => .object "EliminateLoci$Row"
  | 1 => .object "EliminateLoci$Row"
  | 2 => .object "EliminateLoci$Divisor"
  | 3 => .object "EliminateLoci$Eliminant"
  | 4 => .object "EliminateLoci$RootFinder"
  | 5 => .object "EliminateLoci$Curve"
  | 6 => .object "EliminateLoci$Curve"
  | 7 => .array .long
  | _ => .boolean
theorem nmX6 : ∀ a, a < 9 → ∀ b, b < 9 → a ≠ b → (TX6 a).2.1 ≠ (TX6 b).2.1 := by decide +kernel
theorem tyX6_ok : ∀ k, k < 9 → parseFieldDescriptor (TX6 k).2.2.1 = some (tyX6 k) := by decide +kernel
abbrev cX6_init : ByteArray := prog_1_method_1_code
def yX6_init : MethodName := ⟨RX6, "<init>", "()V"⟩
abbrev cX6_term : ByteArray := prog_1_method_2_code
def yX6_term : MethodName := ⟨RX6, "term", "(III)I"⟩
abbrev cX6_clear : ByteArray := prog_1_method_3_code
def yX6_clear : MethodName := ⟨RX6, "clear", "()I"⟩
abbrev cX6_degree : ByteArray := prog_1_method_4_code
def yX6_degree : MethodName := ⟨RX6, "degree", "(I)I"⟩
abbrev cX6_freed : ByteArray := prog_1_method_5_code
def yX6_freed : MethodName := ⟨RX6, "freed", "(II)I"⟩
abbrev cX6_value : ByteArray := prog_1_method_6_code
def yX6_value : MethodName := ⟨RX6, "value", "(III)I"⟩
abbrev cX6_trace : ByteArray := prog_1_method_7_code
def yX6_trace : MethodName := ⟨RX6, "trace", "(I)I"⟩
abbrev cX6_times : ByteArray := prog_1_method_8_code
def yX6_times : MethodName := ⟨RX6, "times", "(I)I"⟩
abbrev cX6_coefficient : ByteArray := prog_1_method_9_code
def yX6_coefficient : MethodName := ⟨RX6, "coefficient", "(III)J"⟩
abbrev cX6_side : ByteArray := prog_1_method_10_code
def yX6_side : MethodName := ⟨RX6, "side", "(IIII)I"⟩
abbrev cX6_at : ByteArray := prog_1_method_11_code
def yX6_at : MethodName := ⟨RX6, "at", "(IIIII)I"⟩
abbrev cX6_follows : ByteArray := prog_1_method_12_code
def yX6_follows : MethodName := ⟨RX6, "follows", "(II)I"⟩
abbrev cX6_touches : ByteArray := prog_1_method_13_code
def yX6_touches : MethodName := ⟨RX6, "touches", "(II)I"⟩
abbrev cX6_isPart : ByteArray := prog_1_method_14_code
def yX6_isPart : MethodName := ⟨RX6, "isPart", "(I)Z"⟩
abbrev cX6_isPower : ByteArray := prog_1_method_15_code
def yX6_isPower : MethodName := ⟨RX6, "isPower", "(I)Z"⟩
abbrev cX6_isSort : ByteArray := prog_1_method_16_code
def yX6_isSort : MethodName := ⟨RX6, "isSort", "(I)Z"⟩
abbrev cX6_isWithin : ByteArray := prog_1_method_17_code
def yX6_isWithin : MethodName := ⟨RX6, "isWithin", "(II)Z"⟩
abbrev cX6_isParameter : ByteArray := prog_1_method_18_code
def yX6_isParameter : MethodName := ⟨RX6, "isParameter", "(II)Z"⟩
abbrev cX6_isPlace : ByteArray := prog_1_method_19_code
def yX6_isPlace : MethodName := ⟨RX6, "isPlace", "(III)Z"⟩
abbrev cX6_forget : ByteArray := prog_1_method_20_code
def yX6_forget : MethodName := ⟨RX6, "forget", "()V"⟩
abbrev cX6_freeRow : ByteArray := prog_1_method_21_code
def yX6_freeRow : MethodName := ⟨RX6, "freeRow", "()LEliminateLoci$Row;"⟩
abbrev cX6_curveOf : ByteArray := prog_1_method_22_code
def yX6_curveOf : MethodName := ⟨RX6, "curveOf", "(I)LEliminateLoci$Curve;"⟩
abbrev cX6_moveTo : ByteArray := prog_1_method_23_code
def yX6_moveTo : MethodName := ⟨RX6, "moveTo", "(II)V"⟩
abbrev cX6_slopeByU : ByteArray := prog_1_method_24_code
def yX6_slopeByU : MethodName := ⟨RX6, "slopeByU", "(IIII)J"⟩
abbrev cX6_slopeByV : ByteArray := prog_1_method_25_code
def yX6_slopeByV : MethodName := ⟨RX6, "slopeByV", "(IIII)J"⟩
abbrev cX6_powerOf : ByteArray := prog_1_method_26_code
def yX6_powerOf : MethodName := ⟨RX6, "powerOf", "(JI)J"⟩
abbrev cX6_commonOf : ByteArray := prog_1_method_27_code
def yX6_commonOf : MethodName := ⟨RX6, "commonOf", "(JJ)J"⟩
abbrev cX6_rootOf : ByteArray := prog_1_method_28_code
def yX6_rootOf : MethodName := ⟨RX6, "rootOf", "(JI)J"⟩
abbrev cX6_isPowerWithin : ByteArray := prog_1_method_29_code
def yX6_isPowerWithin : MethodName := ⟨RX6, "isPowerWithin", "(JIJ)Z"⟩
abbrev cX6_slotOf : ByteArray := prog_1_method_30_code
def yX6_slotOf : MethodName := ⟨RX6, "slotOf", "(II)I"⟩
def RX7 : String := "EliminateLociModel"
def TX7 : u_T := fun k => match k with
  | 0 => ("EliminateLociModel", "row", "[I", true)
  | 1 => ("EliminateLociModel", "free", "[J", true)
  | 2 => ("EliminateLociModel", "most", "I", false)
  | 3 => ("EliminateLociModel", "freeMost", "I", false)
  | 4 => ("EliminateLociModel", "known", "Z", false)
  | 5 => ("EliminateLociModel", "has", "[Z", true)
  | 6 => ("EliminateLociModel", "traces", "[J", true)
  | 7 => ("EliminateLociModel", "degrees", "[I", true)
  | 8 => ("EliminateLociModel", "powers", "[I", true)
  | 9 => ("EliminateLociModel", "one", "[J", true)
  | 10 => ("EliminateLociModel", "two", "[J", true)
  | 11 => ("EliminateLociModel", "entries", "[J", true)
  | 12 => ("EliminateLociModel", "minors", "[J", true)
  | 13 => ("EliminateLociModel", "whole", "[J", true)
  | 14 => ("EliminateLociModel", "root", "[J", true)
  | 15 => ("EliminateLociModel", "power", "[J", true)
  | _ => ("EliminateLociModel", "other", "[J", true)
def tyX7 : Nat → FieldType := fun k => match k with
  | 0 => .array .int
  | 1 => .array .long
  | 2 => .int
  | 3 => .int
  | 4 => .boolean
  | 5 => .array .boolean
  | 6 => .array .long
  | 7 => .array .int
  | 8 => .array .int
  | 9 => .array .long
  | 10 => .array .long
  | 11 => .array .long
  | 12 => .array .long
  | 13 => .array .long
  | 14 => .array .long
  | 15 => .array .long
  | _ => .array .long
theorem nmX7 : ∀ a, a < 17 → ∀ b, b < 17 → a ≠ b → (TX7 a).2.1 ≠ (TX7 b).2.1 := by decide +kernel
theorem tyX7_ok : ∀ k, k < 17 → parseFieldDescriptor (TX7 k).2.2.1 = some (tyX7 k) := by decide +kernel
abbrev cX7_init : ByteArray := prog_9_method_1_code
def yX7_init : MethodName := ⟨RX7, "<init>", "()V"⟩
abbrev cX7_term : ByteArray := prog_9_method_2_code
def yX7_term : MethodName := ⟨RX7, "term", "(III)I"⟩
abbrev cX7_clear : ByteArray := prog_9_method_3_code
def yX7_clear : MethodName := ⟨RX7, "clear", "()I"⟩
abbrev cX7_common : ByteArray := prog_9_method_4_code
def yX7_common : MethodName := ⟨RX7, "common", "(JJ)J"⟩
abbrev cX7_degreeOf : ByteArray := prog_9_method_5_code
def yX7_degreeOf : MethodName := ⟨RX7, "degreeOf", "([J)I"⟩
abbrev cX7_reduce : ByteArray := prog_9_method_6_code
def yX7_reduce : MethodName := ⟨RX7, "reduce", "([J)V"⟩
abbrev cX7_divisor : ByteArray := prog_9_method_7_code
def yX7_divisor : MethodName := ⟨RX7, "divisor", "()V"⟩
abbrev cX7_work : ByteArray := prog_9_method_8_code
def yX7_work : MethodName := ⟨RX7, "work", "()V"⟩
abbrev cX7_entry : ByteArray := prog_9_method_9_code
def yX7_entry : MethodName := ⟨RX7, "entry", "(IIJJJ)V"⟩
abbrev cX7_emptied : ByteArray := prog_9_method_10_code
def yX7_emptied : MethodName := ⟨RX7, "emptied", "()V"⟩
abbrev cX7_countOf : ByteArray := prog_9_method_11_code
def yX7_countOf : MethodName := ⟨RX7, "countOf", "(I)I"⟩
abbrev cX7_minorsOf : ByteArray := prog_9_method_12_code
def yX7_minorsOf : MethodName := ⟨RX7, "minorsOf", "(I)V"⟩
abbrev cX7_locus : ByteArray := prog_9_method_13_code
def yX7_locus : MethodName := ⟨RX7, "locus", "()V"⟩
abbrev cX7_envelope : ByteArray := prog_9_method_14_code
def yX7_envelope : MethodName := ⟨RX7, "envelope", "()V"⟩
abbrev cX7_degree2 : ByteArray := prog_9_method_15_code
def yX7_degree2 : MethodName := ⟨RX7, "degree2", "([J)I"⟩
abbrev cX7_firstOf : ByteArray := prog_9_method_16_code
def yX7_firstOf : MethodName := ⟨RX7, "firstOf", "([J)I"⟩
abbrev cX7_tell : ByteArray := prog_9_method_17_code
def yX7_tell : MethodName := ⟨RX7, "tell", "(II)V"⟩
abbrev cX7_rootOf : ByteArray := prog_9_method_18_code
def yX7_rootOf : MethodName := ⟨RX7, "rootOf", "(JI)J"⟩
abbrev cX7_isAbove : ByteArray := prog_9_method_19_code
def yX7_isAbove : MethodName := ⟨RX7, "isAbove", "(JIJ)Z"⟩
abbrev cX7_raise : ByteArray := prog_9_method_20_code
def yX7_raise : MethodName := ⟨RX7, "raise", "(I)V"⟩
abbrev cX7_isPower : ByteArray := prog_9_method_21_code
def yX7_isPower : MethodName := ⟨RX7, "isPower", "(II)Z"⟩
abbrev cX7_degree : ByteArray := prog_9_method_22_code
def yX7_degree : MethodName := ⟨RX7, "degree", "(I)I"⟩
abbrev cX7_freed : ByteArray := prog_9_method_23_code
def yX7_freed : MethodName := ⟨RX7, "freed", "(II)I"⟩
abbrev cX7_isParameter : ByteArray := prog_9_method_24_code
def yX7_isParameter : MethodName := ⟨RX7, "isParameter", "(II)Z"⟩
abbrev cX7_raised : ByteArray := prog_9_method_25_code
def yX7_raised : MethodName := ⟨RX7, "raised", "(JI)J"⟩
abbrev cX7_valueOf : ByteArray := prog_9_method_26_code
def yX7_valueOf : MethodName := ⟨RX7, "valueOf", "(III)J"⟩
abbrev cX7_value : ByteArray := prog_9_method_27_code
def yX7_value : MethodName := ⟨RX7, "value", "(III)I"⟩
abbrev cX7_isSort : ByteArray := prog_9_method_28_code
def yX7_isSort : MethodName := ⟨RX7, "isSort", "(I)Z"⟩
abbrev cX7_trace : ByteArray := prog_9_method_29_code
def yX7_trace : MethodName := ⟨RX7, "trace", "(I)I"⟩
abbrev cX7_times : ByteArray := prog_9_method_30_code
def yX7_times : MethodName := ⟨RX7, "times", "(I)I"⟩
abbrev cX7_coefficient : ByteArray := prog_9_method_31_code
def yX7_coefficient : MethodName := ⟨RX7, "coefficient", "(III)J"⟩
abbrev cX7_isPlace : ByteArray := prog_9_method_32_code
def yX7_isPlace : MethodName := ⟨RX7, "isPlace", "(III)Z"⟩
abbrev cX7_side : ByteArray := prog_9_method_33_code
def yX7_side : MethodName := ⟨RX7, "side", "(IIII)I"⟩
abbrev cX7_at : ByteArray := prog_9_method_34_code
def yX7_at : MethodName := ⟨RX7, "at", "(IIIII)I"⟩
abbrev cX7_rest : ByteArray := prog_9_method_35_code
def yX7_rest : MethodName := ⟨RX7, "rest", "(JJ)J"⟩
abbrev cX7_traced : ByteArray := prog_9_method_36_code
def yX7_traced : MethodName := ⟨RX7, "traced", "(IJJJJ)J"⟩
abbrev cX7_isOn : ByteArray := prog_9_method_37_code
def yX7_isOn : MethodName := ⟨RX7, "isOn", "(IJJJ)I"⟩
abbrev cX7_follows : ByteArray := prog_9_method_38_code
def yX7_follows : MethodName := ⟨RX7, "follows", "(II)I"⟩
abbrev cX7_slope : ByteArray := prog_9_method_39_code
def yX7_slope : MethodName := ⟨RX7, "slope", "(IIII)J"⟩
abbrev cX7_touches : ByteArray := prog_9_method_40_code
def yX7_touches : MethodName := ⟨RX7, "touches", "(II)I"⟩
def RJ6 : String := "java/lang/Integer"
def TJ6 : u_T := fun k => match k with
  | _ => ("", "", "", false)
def tyJ6 : Nat → FieldType := fun k => match k with
  | _ => .int
theorem nmJ6 : ∀ a, a < 0 → ∀ b, b < 0 → a ≠ b → (TJ6 a).2.1 ≠ (TJ6 b).2.1 := by decide +kernel
theorem tyJ6_ok : ∀ k, k < 0 → parseFieldDescriptor (TJ6 k).2.2.1 = some (tyJ6 k) := by decide +kernel
abbrev cJ6_bitCount_0f7a4 : ByteArray := prog_10_method_49_code
def yJ6_bitCount_0f7a4 : MethodName := ⟨RJ6, "bitCount", "(I)I"⟩
def RJ9 : String := "java/lang/Math"
def TJ9 : u_T := fun k => match k with
  | _ => ("", "", "", false)
def tyJ9 : Nat → FieldType := fun k => match k with
  | _ => .int
theorem nmJ9 : ∀ a, a < 0 → ∀ b, b < 0 → a ≠ b → (TJ9 a).2.1 ≠ (TJ9 b).2.1 := by decide +kernel
theorem tyJ9_ok : ∀ k, k < 0 → parseFieldDescriptor (TJ9 k).2.2.1 = some (tyJ9 k) := by decide +kernel
abbrev cJ9_abs_067f4 : ByteArray := prog_11_method_61_code
def yJ9_abs_067f4 : MethodName := ⟨RJ9, "abs", "(J)J"⟩
abbrev cJ9_min_7cf53 : ByteArray := prog_11_method_69_code
def yJ9_min_7cf53 : MethodName := ⟨RJ9, "min", "(II)I"⟩
def RJ10 : String := "java/lang/System"
def TJ10 : u_T := fun k => match k with
  | _ => ("", "", "", false)
def tyJ10 : Nat → FieldType := fun k => match k with
  | _ => .int
theorem nmJ10 : ∀ a, a < 0 → ∀ b, b < 0 → a ≠ b → (TJ10 a).2.1 ≠ (TJ10 b).2.1 := by decide +kernel
theorem tyJ10_ok : ∀ k, k < 0 → parseFieldDescriptor (TJ10 k).2.2.1 = some (tyJ10 k) := by decide +kernel
def RJ7 : String := "java/util/Arrays"
def TJ7 : u_T := fun k => match k with
  | _ => ("", "", "", false)
def tyJ7 : Nat → FieldType := fun k => match k with
  | _ => .int
theorem nmJ7 : ∀ a, a < 0 → ∀ b, b < 0 → a ≠ b → (TJ7 a).2.1 ≠ (TJ7 b).2.1 := by decide +kernel
theorem tyJ7_ok : ∀ k, k < 0 → parseFieldDescriptor (TJ7 k).2.2.1 = some (tyJ7 k) := by decide +kernel
abbrev cJ7_fill_d0a16 : ByteArray := prog_13_method_101_code
def yJ7_fill_d0a16 : MethodName := ⟨RJ7, "fill", "([JJ)V"⟩
abbrev cL_law : ByteArray := code
abbrev vwCl : List vw_C := [(RX0, TX0, 4), (RX1, TX1, 3), (RX2, TX2, 4), (RX3, TX3, 2), (RX4, TX4, 4), (RX5, TX5, 1), (RX6, TX6, 9), (RX7, TX7, 17)]
end
section
/-! the words, once for all methods: every method's own words are its code and the whole table -/
def lw_g : List Cond := lw_tbl.filter goodWord
theorem z_good : GoodIn lw_g lw_g := fun w hw => ⟨hw, good_of_word (List.mem_filter.mp hw).2⟩
theorem z_goodC {y : MethodName} {b : ByteArray} {n : Nat} {r : Option FieldType} (h : Cond.code y b n r ∈ lw_g) : GoodIn lw_g (.code y b n r :: lw_g) := by
  intro w hw
  rcases List.mem_cons.mp hw with rfl | hw
  · exact ⟨h, Or.inl rfl⟩
  · exact z_good w hw
theorem z_mem {k : Nat} {w : Cond} (h : lw_tbl[k]? = some w) (hg : goodWord w = true) : w ∈ lw_g := List.mem_filter.mpr ⟨List.mem_of_getElem? h, hg⟩
theorem z_memD {w : Cond} (h : w ∈ lw_tbl) (hg : goodWord w = true) : w ∈ lw_g := List.mem_filter.mpr ⟨h, hg⟩
/-! ints by their numbers -/
def zI (z : Int) : Int32 := Int32.ofInt z
def zL (z : Int) : Int64 := Int64.ofInt z
theorem zI_ex (x : Int32) : ∃ z : Int, -2147483648 ≤ z ∧ z < 2147483648 ∧ x = zI z := ⟨x.toInt, Int32.le_toInt x, Int32.toInt_lt x, (Int32.ofInt_toInt x).symm⟩
theorem zI_toInt {z : Int} (h1 : -2147483648 ≤ z) (h2 : z < 2147483648) : (zI z).toInt = z := Int32.toInt_ofInt_of_le h1 h2
theorem zI_add (a b : Int) : zI a + zI b = zI (a + b) := (Int32.ofInt_add a b).symm
theorem zI_sub (a b : Int) : zI a - zI b = zI (a - b) := (Int32.ofInt_sub a b).symm
theorem zI_mul (a b : Int) : zI a * zI b = zI (a * b) := (Int32.ofInt_mul a b).symm
theorem zI_neg (a : Int) : -zI a = zI (-a) := (Int32.ofInt_neg a).symm
def zR (z : Int) : Prop := -2147483648 ≤ z ∧ z < 2147483648
theorem zI_lt {a b : Int} (ha : zR a) (hb : zR b) : zI a < zI b ↔ a < b := by
  rw [Int32.lt_iff_toInt_lt, zI_toInt ha.1 ha.2, zI_toInt hb.1 hb.2]
theorem zI_le {a b : Int} (ha : zR a) (hb : zR b) : zI a ≤ zI b ↔ a ≤ b := by
  rw [Int32.le_iff_toInt_le, zI_toInt ha.1 ha.2, zI_toInt hb.1 hb.2]
theorem zI_eq {a b : Int} (ha : zR a) (hb : zR b) : zI a = zI b ↔ a = b := by
  rw [← Int32.toInt_inj, zI_toInt ha.1 ha.2, zI_toInt hb.1 hb.2]
theorem zI_in {z : Int} {n : Nat} (h1 : 0 ≤ z) (h2 : z < n) (hn : n < 2147483648 := by decide) : vp_in (zI z) n := by
  rw [vp_in_iff, zI_toInt (by omega) (by omega)]
  exact ⟨h1, h2⟩
theorem zI_cl {z : Int} (h1 : 0 ≤ z) (h2 : z < 2147483648) : (zI z).toNatClampNeg = z.toNat := by
  show (zI z).toInt.toNat = _
  rw [zI_toInt (by omega) h2]
theorem zI_0 : (0 : Int32) = zI 0 := rfl
theorem zL_i2l {z : Int} (h : zR z) : (zI z).toInt64 = zL z := by
  apply Int64.toInt_inj.mp
  rw [Int32.toInt_toInt64, zI_toInt h.1 h.2]
  exact (Int64.toInt_ofInt_of_le (by have := h.1; omega) (by have := h.2; omega)).symm
theorem lgc_eq (x y : Int64) : lg_cmp x y = 0 ↔ x = y := by
  unfold lg_cmp
  by_cases h : x > y
  · have hne : x ≠ y := fun e => by rw [e] at h; exact absurd h (Int64.lt_irrefl)
    simp [h, hne]
  · by_cases h2 : x = y <;> simp [h, h2]
theorem lgc_lt (x y : Int64) : lg_cmp x y < 0 ↔ x < y := by
  unfold lg_cmp
  by_cases h : x > y
  · rw [if_pos h]
    have h3 : ¬ x < y := by
      rw [gt_iff_lt, Int64.lt_iff_toInt_lt] at h
      rw [Int64.lt_iff_toInt_lt]; omega
    exact ⟨fun q => absurd q (by decide), fun q => absurd q h3⟩
  · rw [if_neg h]
    by_cases h2 : x = y
    · rw [if_pos h2]
      exact ⟨fun q => absurd q (by decide), fun q => by rw [h2] at q; exact absurd q Int64.lt_irrefl⟩
    · rw [if_neg h2]
      refine ⟨fun _ => ?_, fun _ => by decide⟩
      rw [gt_iff_lt, Int64.lt_iff_toInt_lt] at h
      rw [← Int64.toInt_inj] at h2
      rw [Int64.lt_iff_toInt_lt]; omega
/-! private methods and constructors of the nest's other classes -/
def nst : List (String × Nat × MethodName × String) := [(RX6, 9, yX5_init, "EliminateLoci"), (RX6, 21, yX1_init, "EliminateLoci"), (RX2, 26, yX3_init, "EliminateLoci"), (RX6, 35, yX4_init, "EliminateLoci"), (RX4, 9, yX3_init, "EliminateLoci"), (RX6, 42, yX0_init, "EliminateLoci"), (RX0, 9, yX3_init, "EliminateLoci"), (RX1, 60, yX6_commonOf, "EliminateLoci"), (RX3, 28, yX6_slotOf, "EliminateLoci"), (RX3, 45, yX6_commonOf, "EliminateLoci"), (RX4, 61, yX6_slotOf, "EliminateLoci"), (RX4, 67, yX6_rootOf, "EliminateLoci"), (RX4, 74, yX6_powerOf, "EliminateLoci"), (RX3, 55, yX6_powerOf, "EliminateLoci")]
/-- the word on arrays over long[], kept over the tables' warming -/
theorem aoA_moved {u U : State} (hvm : u.vm.Alike U.vm) (h : (Cond.arrayOver (.array .long)).before #[] u = true) : (Cond.arrayOver (.array .long)).before #[] U = true := by
  simp only [Cond.before, Cond.holds, Cond.value, beq_iff_eq] at h
  cases hc : u.vm.findClass (FieldType.array .long).toString with
  | none => simp [hc] at h
  | some comp =>
    simp only [hc, Option.bind_some, Option.bind_eq_some_iff, Option.map_eq_some_iff] at h
    obtain ⟨c, hi, k, hk, hb⟩ := h
    obtain ⟨k', hk', he⟩ := hvm.2.2 _ _ hk
    have e0 : U.vm.bare = u.vm.bare := by first | exact hvm.bare_eq | exact hvm.bare_eq.symm
    have e1 := va_idx_bare U.vm comp
    rw [e0] at e1
    have hi2 := e1.symm.trans ((va_idx_bare u.vm comp).trans hi)
    have f1 : U.vm.findClass (FieldType.array .long).toString = some comp := by rw [hvm.findClass]; exact hc
    have f2 : U.vm.findClass ("[" ++ (FieldType.array .long).toString) = u.vm.findClass ("[" ++ (FieldType.array .long).toString) := by rw [hvm.findClass]
    have hk2 : k'.kind = k.kind := by rw [he]
    unfold Cond.before Cond.holds
    simp only [Cond.value]
    rw [f1, Option.bind_some]
    refine (congrArg (fun o : Option Nat => (o.bind (fun c => (U.vm.classes[c]?).map fun (k : Class) => match k.kind with | .array _ ty => decide (ty = FieldType.array .long) && decide (U.vm.findClass ("[" ++ (FieldType.array .long).toString) = some c) | _ => false) == some true)) hi2).trans ?_
    simp only [Option.bind_some, hk', Option.map_some, hk2, f2]
    cases hkd : k.kind with
    | array component ty =>
      rw [hkd] at hb
      simp at hb
      simp [hb.1, hb.2]
    | _ => rw [hkd] at hb; simp at hb
def NW (U : State) : Prop := (∀ q ∈ nst, va_Nw (.methodLinkNest q.1 q.2.1 q.2.2.1 q.2.2.2) U) ∧ va_AO "EliminateLoci$Plane" U ∧ (Cond.arrayOver (.array .long)).before #[] U = true
theorem NW.warm {s U : State} (h : NW s) (hW : s.WarmedH U.vm) : NW U := ⟨fun q hq => va_Nw.warmM hW (h.1 q hq), va_AO.moved hW.alike h.2.1, aoA_moved hW.alike h.2.2⟩
theorem NW.same {s U : State} (h : NW s) (e : s.vm = U.vm) : NW U := ⟨fun q hq => va_Nw.same rfl e (h.1 q hq), va_AO.moved (by rw [e]; exact Vm.Alike.refl _) h.2.1, aoA_moved (by rw [e]; exact Vm.Alike.refl _) h.2.2⟩
/-! the machine at a frame, with the world as data: pc, locals, stack, cells -/
def Zf (p : Program) (m : MethodId) (c : Code) (cc : ByteArray) (nL : Nat) (s : State) (args : Array Value) (own : String) (D : va_G) (tys : List (ClassId × FieldType)) (A : Nat → Prop) : Prop :=
  p.tables.exec = Jvm.exec ∧ c.code = cc ∧ c.maxLocals = nL ∧ s.vm.findClass own = some m.cls ∧ (∀ w ∈ lw_g, w.before args s = true) ∧ va_K D vwCl tys s ∧ (∀ q, s.heap.size ≤ q → A q) ∧ NW s
def Z (p : Program) (l : Launch) (e : Env) (R : Room) (s : State) (m : MethodId) (args : Array Value) (below : List Frame) (meth : Method) (c : Code) (D : va_G) (A : Nat → Prop) (nL cells slots : Nat) (Q : State → Prop) (pc : Nat) (lv : List (Nat × Value)) (st : List Value) (w : va_W) : Prop :=
  ∀ (H : Heap) (locs : List Loc) (ls : Array Slot), va_P D vwCl w H → va_D A w → va_S A s.heap H locs → lv_has ls nL lv → W p l e R s m args below meth c H locs cells slots Q (F0 m pc ls st)
theorem lv_look {l : List (Nat × Value)} {i : Nat} {v : Value} (h : l.lookup i = some v) : ∃ k : Nat, l[k]? = some (i, v) := by
  induction l with
  | nil => cases h
  | cons a r ih =>
    obtain ⟨j, u⟩ := a
    by_cases hj : i = j
    · subst hj
      rw [List.lookup_cons_self] at h
      cases h
      exact ⟨0, rfl⟩
    · have : (i == j) = false := by simpa using hj
      rw [List.lookup_cons, this] at h
      obtain ⟨k, hk⟩ := ih h
      exact ⟨k + 1, hk⟩
theorem lv_get {ls : Array Slot} {nL : Nat} {l : List (Nat × Value)} {i : Nat} {v : Value} (h : lv_has ls nL l) (hk : l.lookup i = some v) : ls[i]? = some (.val v) := by
  obtain ⟨k, hk⟩ := lv_look hk
  exact lv_at h k hk
section ZR
variable {p : Program} {l : Launch} {e : Env} {R : Room} {s : State} {m : MethodId} {args : Array Value} {below : List Frame} {meth : Method} {c : Code} {D : va_G} {A : Nat → Prop} {nL cells slots : Nat} {Q : State → Prop}
variable {cc : ByteArray} {own : String} {tys : List (ClassId × FieldType)} {pc : Nat} {lv : List (Nat × Value)} {st : List Value} {w : va_W}
theorem Z.toW {w' : va_W} (h : w = w') (k : Z p l e R s m args below meth c D A nL cells slots Q pc lv st w') : Z p l e R s m args below meth c D A nL cells slots Q pc lv st w := h ▸ k
theorem Z.sub {lv' : List (Nat × Value)} (h : lv'.all (fun q => lv.lookup q.1 == some q.2) = true) (k : Z p l e R s m args below meth c D A nL cells slots Q pc lv' st w) : Z p l e R s m args below meth c D A nL cells slots Q pc lv st w := by
  intro H locs ls hP hD hS hv
  refine k H locs ls hP hD hS ⟨hv.1, hv.2.1, fun q hq => ?_⟩
  have h1 := List.all_eq_true.mp h q hq
  exact lv_get hv (eq_of_beq h1)
end ZR
end
section
theorem zR_0 : zR 0 := ⟨by decide, by decide⟩
theorem lgc_gt (x y : Int64) : 0 < lg_cmp x y ↔ y < x := by
  unfold lg_cmp
  by_cases h : x > y
  · rw [if_pos h]
    exact ⟨fun _ => h, fun _ => by decide⟩
  · rw [if_neg h]
    refine ⟨fun q => ?_, fun q => absurd q h⟩
    by_cases h2 : x = y
    · rw [if_pos h2] at q
      exact absurd q (by decide)
    · rw [if_neg h2] at q
      exact absurd q (by decide)
theorem zI_ne0 {b : Int} (h3 : 0 < b) (h4 : b < 2147483648) : ¬ zI b = 0 := by
  intro q
  have h := (zI_eq (a := b) (b := 0) ⟨by omega, h4⟩ zR_0).mp q
  omega
theorem zI_nI {a : Int} (h1 : 0 ≤ a) : zI a = nI a.toNat := by
  obtain ⟨n, rfl⟩ := Int.eq_ofNat_of_zero_le h1
  rfl
theorem zI_div {a b : Int} (h1 : 0 ≤ a) (h2 : a < 2147483648) (h3 : 0 < b) (h4 : b < 2147483648) : zI a / zI b = zI (a / b) := by
  obtain ⟨n, rfl⟩ := Int.eq_ofNat_of_zero_le h1
  obtain ⟨k, rfl⟩ := Int.eq_ofNat_of_zero_le (Int.le_of_lt h3)
  exact pk_div (a := n) (d := k) (by omega) (by omega) (by omega)
theorem zI_rem {a b : Int} (h1 : 0 ≤ a) (h2 : a < 2147483648) (h3 : 0 < b) (h4 : b < 2147483648) : zI a - zI a / zI b * zI b = zI (a % b) := by
  obtain ⟨n, rfl⟩ := Int.eq_ofNat_of_zero_le h1
  obtain ⟨k, rfl⟩ := Int.eq_ofNat_of_zero_le (Int.le_of_lt h3)
  exact pk_rem (a := n) (d := k) (by omega) (by omega) (by omega)
section ZR2
variable {p : Program} {l : Launch} {e : Env} {R : Room} {s : State} {m : MethodId} {args : Array Value} {below : List Frame} {meth : Method} {c : Code} {D : va_G} {A : Nat → Prop} {nL cells slots : Nat} {Q : State → Prop}
variable {cc : ByteArray} {own : String} {tys : List (ClassId × FieldType)} {pc : Nat} {lv : List (Nat × Value)} {st : List Value} {w : va_W}
theorem Z.iconst (hX : Zf p m c cc nL s args own D tys A) {n : Int} (hd : decode cc pc = .ok (.iconst n, 1))  (k : Z p l e R s m args below meth c D A nL cells slots Q (pc + 1) lv (.int (zI n) :: st) w) : Z p l e R s m args below meth c D A nL cells slots Q pc lv (st) w := fun H locs ls hP hD hS hv => lv_iconst hX.1 hX.2.1 hd rfl (k H locs ls hP hD hS hv)
theorem Z.bipush (hX : Zf p m c cc nL s args own D tys A) {n : Int} (hd : decode cc pc = .ok (.bipush n, 2)) (hv0 : (Int8.ofInt n).toInt32 = zI n) (k : Z p l e R s m args below meth c D A nL cells slots Q (pc + 2) lv (.int (zI n) :: st) w) : Z p l e R s m args below meth c D A nL cells slots Q pc lv (st) w := fun H locs ls hP hD hS hv => lv_bipush hX.1 hX.2.1 hd hv0 (k H locs ls hP hD hS hv)
theorem Z.sipush (hX : Zf p m c cc nL s args own D tys A) {n : Int} (hd : decode cc pc = .ok (.sipush n, 3)) (hv0 : (Int16.ofInt n).toInt32 = zI n) (k : Z p l e R s m args below meth c D A nL cells slots Q (pc + 3) lv (.int (zI n) :: st) w) : Z p l e R s m args below meth c D A nL cells slots Q pc lv (st) w := fun H locs ls hP hD hS hv => lv_sipush hX.1 hX.2.1 hd hv0 (k H locs ls hP hD hS hv)
theorem Z.lconst (hX : Zf p m c cc nL s args own D tys A) {n : Fin 2} {v : Int64} (hd : decode cc pc = .ok (.lconst n, 1)) (hv0 : Int64.ofNat (n : Nat) = v) (k : Z p l e R s m args below meth c D A nL cells slots Q (pc + 1) lv (.long v :: st) w) : Z p l e R s m args below meth c D A nL cells slots Q pc lv (st) w := fun H locs ls hP hD hS hv => lv_lconst hX.1 hX.2.1 hd hv0 (k H locs ls hP hD hS hv)
theorem Z.iload_n (hX : Zf p m c cc nL s args own D tys A) {k0 : Fin 4} {i : Nat} {x : Int32} (hd : decode cc pc = .ok (.iload_n k0, 1)) (hi : (k0 : Nat) = i) (hl : lv.lookup i = some (.int x)) (k : Z p l e R s m args below meth c D A nL cells slots Q (pc + 1) lv (.int x :: st) w) : Z p l e R s m args below meth c D A nL cells slots Q pc lv (st) w := fun H locs ls hP hD hS hv => lv_iload_n hX.1 hX.2.1 hd hi (lv_get hv hl) (k H locs ls hP hD hS hv)
theorem Z.iload (hX : Zf p m c cc nL s args own D tys A) {i : Nat} {x : Int32} (hd : decode cc pc = .ok (.iload i, 2)) (hl : lv.lookup i = some (.int x)) (k : Z p l e R s m args below meth c D A nL cells slots Q (pc + 2) lv (.int x :: st) w) : Z p l e R s m args below meth c D A nL cells slots Q pc lv (st) w := fun H locs ls hP hD hS hv => lv_iload hX.1 hX.2.1 hd (lv_get hv hl) (k H locs ls hP hD hS hv)
theorem Z.istore_n (hX : Zf p m c cc nL s args own D tys A) {k0 : Fin 4} {i : Nat} {x : Int32} {lv' : List (Nat × Value)} (hd : decode cc pc = .ok (.istore_n k0, 1)) (hi : (k0 : Nat) = i) (hn : i < nL) (hl : (i, Value.int x) :: lv.filter (fun q => !(q.1 == i) && !(q.1 + 1 == i && q.2.category == 2)) = lv') (k : Z p l e R s m args below meth c D A nL cells slots Q (pc + 1) lv' st w) : Z p l e R s m args below meth c D A nL cells slots Q pc lv (.int x :: st) w := fun H locs ls hP hD hS hv => lv_istore_n hX.1 hX.2.1 hd hi hv hn hl (fun ls' hv' => k H locs ls' hP hD hS hv')
theorem Z.istore (hX : Zf p m c cc nL s args own D tys A) {i : Nat} {x : Int32} {lv' : List (Nat × Value)} (hd : decode cc pc = .ok (.istore i, 2)) (hn : i < nL) (hl : (i, Value.int x) :: lv.filter (fun q => !(q.1 == i) && !(q.1 + 1 == i && q.2.category == 2)) = lv') (k : Z p l e R s m args below meth c D A nL cells slots Q (pc + 2) lv' st w) : Z p l e R s m args below meth c D A nL cells slots Q pc lv (.int x :: st) w := fun H locs ls hP hD hS hv => lv_istore hX.1 hX.2.1 hd hv hn hl (fun ls' hv' => k H locs ls' hP hD hS hv')
theorem Z.lload_n (hX : Zf p m c cc nL s args own D tys A) {k0 : Fin 4} {i : Nat} {x : Int64} (hd : decode cc pc = .ok (.lload_n k0, 1)) (hi : (k0 : Nat) = i) (hl : lv.lookup i = some (.long x)) (k : Z p l e R s m args below meth c D A nL cells slots Q (pc + 1) lv (.long x :: st) w) : Z p l e R s m args below meth c D A nL cells slots Q pc lv (st) w := fun H locs ls hP hD hS hv => lv_lload_n hX.1 hX.2.1 hd hi (lv_get hv hl) (k H locs ls hP hD hS hv)
theorem Z.lload (hX : Zf p m c cc nL s args own D tys A) {i : Nat} {x : Int64} (hd : decode cc pc = .ok (.lload i, 2)) (hl : lv.lookup i = some (.long x)) (k : Z p l e R s m args below meth c D A nL cells slots Q (pc + 2) lv (.long x :: st) w) : Z p l e R s m args below meth c D A nL cells slots Q pc lv (st) w := fun H locs ls hP hD hS hv => lv_lload hX.1 hX.2.1 hd (lv_get hv hl) (k H locs ls hP hD hS hv)
theorem Z.lstore_n (hX : Zf p m c cc nL s args own D tys A) {k0 : Fin 4} {i : Nat} {x : Int64} {lv' : List (Nat × Value)} (hd : decode cc pc = .ok (.lstore_n k0, 1)) (hi : (k0 : Nat) = i) (hn : i + 1 < nL) (hl : (i, Value.long x) :: lv.filter (fun q => !(q.1 == i) && (!(q.1 == i + 1) && !(q.1 + 1 == i && q.2.category == 2))) = lv') (k : Z p l e R s m args below meth c D A nL cells slots Q (pc + 1) lv' st w) : Z p l e R s m args below meth c D A nL cells slots Q pc lv (.long x :: st) w := fun H locs ls hP hD hS hv => lv_lstore_n hX.1 hX.2.1 hd hi hv hn hl (fun ls' hv' => k H locs ls' hP hD hS hv')
theorem Z.lstore (hX : Zf p m c cc nL s args own D tys A) {i : Nat} {x : Int64} {lv' : List (Nat × Value)} (hd : decode cc pc = .ok (.lstore i, 2)) (hn : i + 1 < nL) (hl : (i, Value.long x) :: lv.filter (fun q => !(q.1 == i) && (!(q.1 == i + 1) && !(q.1 + 1 == i && q.2.category == 2))) = lv') (k : Z p l e R s m args below meth c D A nL cells slots Q (pc + 2) lv' st w) : Z p l e R s m args below meth c D A nL cells slots Q pc lv (.long x :: st) w := fun H locs ls hP hD hS hv => lv_lstore hX.1 hX.2.1 hd hv hn hl (fun ls' hv' => k H locs ls' hP hD hS hv')
theorem Z.aload_n (hX : Zf p m c cc nL s args own D tys A) {k0 : Fin 4} {i : Nat} {x : Nat} (hd : decode cc pc = .ok (.aload_n k0, 1)) (hi : (k0 : Nat) = i) (hl : lv.lookup i = some (.ref x)) (k : Z p l e R s m args below meth c D A nL cells slots Q (pc + 1) lv (.ref x :: st) w) : Z p l e R s m args below meth c D A nL cells slots Q pc lv (st) w := fun H locs ls hP hD hS hv => lv_aload_n hX.1 hX.2.1 hd hi (lv_get hv hl) (k H locs ls hP hD hS hv)
theorem Z.aload (hX : Zf p m c cc nL s args own D tys A) {i : Nat} {x : Nat} (hd : decode cc pc = .ok (.aload i, 2)) (hl : lv.lookup i = some (.ref x)) (k : Z p l e R s m args below meth c D A nL cells slots Q (pc + 2) lv (.ref x :: st) w) : Z p l e R s m args below meth c D A nL cells slots Q pc lv (st) w := fun H locs ls hP hD hS hv => lv_aload hX.1 hX.2.1 hd (lv_get hv hl) (k H locs ls hP hD hS hv)
theorem Z.astore_n (hX : Zf p m c cc nL s args own D tys A) {k0 : Fin 4} {i : Nat} {x : Nat} {lv' : List (Nat × Value)} (hd : decode cc pc = .ok (.astore_n k0, 1)) (hi : (k0 : Nat) = i) (hn : i < nL) (hl : (i, Value.ref x) :: lv.filter (fun q => !(q.1 == i) && !(q.1 + 1 == i && q.2.category == 2)) = lv') (k : Z p l e R s m args below meth c D A nL cells slots Q (pc + 1) lv' st w) : Z p l e R s m args below meth c D A nL cells slots Q pc lv (.ref x :: st) w := fun H locs ls hP hD hS hv => lv_astore_n hX.1 hX.2.1 hd hi hv hn hl (fun ls' hv' => k H locs ls' hP hD hS hv')
theorem Z.astore (hX : Zf p m c cc nL s args own D tys A) {i : Nat} {x : Nat} {lv' : List (Nat × Value)} (hd : decode cc pc = .ok (.astore i, 2)) (hn : i < nL) (hl : (i, Value.ref x) :: lv.filter (fun q => !(q.1 == i) && !(q.1 + 1 == i && q.2.category == 2)) = lv') (k : Z p l e R s m args below meth c D A nL cells slots Q (pc + 2) lv' st w) : Z p l e R s m args below meth c D A nL cells slots Q pc lv (.ref x :: st) w := fun H locs ls hP hD hS hv => lv_astore hX.1 hX.2.1 hd hv hn hl (fun ls' hv' => k H locs ls' hP hD hS hv')
theorem Z.iinc (hX : Zf p m c cc nL s args own D tys A) {i : Nat} {n z : Int} {lv' : List (Nat × Value)} (hd : decode cc pc = .ok (.iinc i n, 3)) (hk : lv.lookup i = some (.int (zI z))) (hn : i < nL) (hl : (i, Value.int (zI (z + n))) :: lv.filter (fun q => !(q.1 == i) && !(q.1 + 1 == i && q.2.category == 2)) = lv') (k : Z p l e R s m args below meth c D A nL cells slots Q (pc + 3) lv' st w) : Z p l e R s m args below meth c D A nL cells slots Q pc lv st w := fun H locs ls hP hD hS hv => by
  obtain ⟨k0, hk0⟩ := lv_look hk
  exact lv_iinc hX.1 hX.2.1 hd hv hk0 (zI_add z n) hn hl (fun ls' hv' => k H locs ls' hP hD hS hv')
theorem Z.iadd (hX : Zf p m c cc nL s args own D tys A) {a b : Int} (hd : decode cc pc = .ok (.iadd, 1))  (k : Z p l e R s m args below meth c D A nL cells slots Q (pc + 1) lv (.int (zI (a + b)) :: st) w) : Z p l e R s m args below meth c D A nL cells slots Q pc lv (.int (zI b) :: .int (zI a) :: st) w := fun H locs ls hP hD hS hv => lv_iadd hX.1 hX.2.1 hd (by rw [zI_add]; exact (k H locs ls hP hD hS hv))
theorem Z.isub (hX : Zf p m c cc nL s args own D tys A) {a b : Int} (hd : decode cc pc = .ok (.isub, 1))  (k : Z p l e R s m args below meth c D A nL cells slots Q (pc + 1) lv (.int (zI (a - b)) :: st) w) : Z p l e R s m args below meth c D A nL cells slots Q pc lv (.int (zI b) :: .int (zI a) :: st) w := fun H locs ls hP hD hS hv => lv_isub hX.1 hX.2.1 hd (by rw [zI_sub]; exact (k H locs ls hP hD hS hv))
theorem Z.imul (hX : Zf p m c cc nL s args own D tys A) {a b : Int} (hd : decode cc pc = .ok (.imul, 1))  (k : Z p l e R s m args below meth c D A nL cells slots Q (pc + 1) lv (.int (zI (a * b)) :: st) w) : Z p l e R s m args below meth c D A nL cells slots Q pc lv (.int (zI b) :: .int (zI a) :: st) w := fun H locs ls hP hD hS hv => lv_imul hX.1 hX.2.1 hd (by rw [zI_mul]; exact (k H locs ls hP hD hS hv))
theorem Z.ineg (hX : Zf p m c cc nL s args own D tys A) {a : Int} (hd : decode cc pc = .ok (.ineg, 1))  (k : Z p l e R s m args below meth c D A nL cells slots Q (pc + 1) lv (.int (zI (-a)) :: st) w) : Z p l e R s m args below meth c D A nL cells slots Q pc lv (.int (zI a) :: st) w := fun H locs ls hP hD hS hv => lv_ineg hX.1 hX.2.1 hd (by rw [zI_neg]; exact (k H locs ls hP hD hS hv))
theorem Z.ishl (hX : Zf p m c cc nL s args own D tys A) {x y : Int32} (hd : decode cc pc = .ok (.ishl, 1))  (k : Z p l e R s m args below meth c D A nL cells slots Q (pc + 1) lv (.int (x <<< (y &&& 31)) :: st) w) : Z p l e R s m args below meth c D A nL cells slots Q pc lv (.int y :: .int x :: st) w := fun H locs ls hP hD hS hv => lv_ishl hX.1 hX.2.1 hd (k H locs ls hP hD hS hv)
theorem Z.ishr (hX : Zf p m c cc nL s args own D tys A) {x y : Int32} (hd : decode cc pc = .ok (.ishr, 1))  (k : Z p l e R s m args below meth c D A nL cells slots Q (pc + 1) lv (.int (x >>> (y &&& 31)) :: st) w) : Z p l e R s m args below meth c D A nL cells slots Q pc lv (.int y :: .int x :: st) w := fun H locs ls hP hD hS hv => lv_ishr hX.1 hX.2.1 hd (k H locs ls hP hD hS hv)
theorem Z.ixor (hX : Zf p m c cc nL s args own D tys A) {x y : Int32} (hd : decode cc pc = .ok (.ixor, 1))  (k : Z p l e R s m args below meth c D A nL cells slots Q (pc + 1) lv (.int (x ^^^ y) :: st) w) : Z p l e R s m args below meth c D A nL cells slots Q pc lv (.int y :: .int x :: st) w := fun H locs ls hP hD hS hv => lv_ixor hX.1 hX.2.1 hd (k H locs ls hP hD hS hv)
theorem Z.iand (hX : Zf p m c cc nL s args own D tys A) {x y : Int32} (hd : decode cc pc = .ok (.iand, 1))  (k : Z p l e R s m args below meth c D A nL cells slots Q (pc + 1) lv (.int (x &&& y) :: st) w) : Z p l e R s m args below meth c D A nL cells slots Q pc lv (.int y :: .int x :: st) w := fun H locs ls hP hD hS hv => lv_iand hX.1 hX.2.1 hd (k H locs ls hP hD hS hv)
theorem Z.idiv (hX : Zf p m c cc nL s args own D tys A) {a b : Int} (hd : decode cc pc = .ok (.idiv, 1)) (h1 : 0 ≤ a) (h2 : a < 2147483648) (h3 : 0 < b) (h4 : b < 2147483648) (k : Z p l e R s m args below meth c D A nL cells slots Q (pc + 1) lv (.int (zI (a / b)) :: st) w) : Z p l e R s m args below meth c D A nL cells slots Q pc lv (.int (zI b) :: .int (zI a) :: st) w := fun H locs ls hP hD hS hv => lv_idiv hX.1 hX.2.1 hd (zI_ne0 h3 h4) (by rw [zI_div h1 h2 h3 h4]; exact (k H locs ls hP hD hS hv))
theorem Z.irem (hX : Zf p m c cc nL s args own D tys A) {a b : Int} (hd : decode cc pc = .ok (.irem, 1)) (h1 : 0 ≤ a) (h2 : a < 2147483648) (h3 : 0 < b) (h4 : b < 2147483648) (k : Z p l e R s m args below meth c D A nL cells slots Q (pc + 1) lv (.int (zI (a % b)) :: st) w) : Z p l e R s m args below meth c D A nL cells slots Q pc lv (.int (zI b) :: .int (zI a) :: st) w := fun H locs ls hP hD hS hv => lv_irem hX.1 hX.2.1 hd (zI_ne0 h3 h4) (by rw [zI_rem h1 h2 h3 h4]; exact (k H locs ls hP hD hS hv))
theorem Z.ladd (hX : Zf p m c cc nL s args own D tys A) {x y : Int64} (hd : decode cc pc = .ok (.ladd, 1))  (k : Z p l e R s m args below meth c D A nL cells slots Q (pc + 1) lv (.long (x + y) :: st) w) : Z p l e R s m args below meth c D A nL cells slots Q pc lv (.long y :: .long x :: st) w := fun H locs ls hP hD hS hv => lv_ladd hX.1 hX.2.1 hd (k H locs ls hP hD hS hv)
theorem Z.lsub (hX : Zf p m c cc nL s args own D tys A) {x y : Int64} (hd : decode cc pc = .ok (.lsub, 1))  (k : Z p l e R s m args below meth c D A nL cells slots Q (pc + 1) lv (.long (x - y) :: st) w) : Z p l e R s m args below meth c D A nL cells slots Q pc lv (.long y :: .long x :: st) w := fun H locs ls hP hD hS hv => lv_lsub hX.1 hX.2.1 hd (k H locs ls hP hD hS hv)
theorem Z.lmul (hX : Zf p m c cc nL s args own D tys A) {x y : Int64} (hd : decode cc pc = .ok (.lmul, 1))  (k : Z p l e R s m args below meth c D A nL cells slots Q (pc + 1) lv (.long (x * y) :: st) w) : Z p l e R s m args below meth c D A nL cells slots Q pc lv (.long y :: .long x :: st) w := fun H locs ls hP hD hS hv => lv_lmul hX.1 hX.2.1 hd (k H locs ls hP hD hS hv)
theorem Z.land (hX : Zf p m c cc nL s args own D tys A) {x y : Int64} (hd : decode cc pc = .ok (.land, 1))  (k : Z p l e R s m args below meth c D A nL cells slots Q (pc + 1) lv (.long (x &&& y) :: st) w) : Z p l e R s m args below meth c D A nL cells slots Q pc lv (.long y :: .long x :: st) w := fun H locs ls hP hD hS hv => lv_land hX.1 hX.2.1 hd (k H locs ls hP hD hS hv)
theorem Z.lneg (hX : Zf p m c cc nL s args own D tys A) {x : Int64} (hd : decode cc pc = .ok (.lneg, 1))  (k : Z p l e R s m args below meth c D A nL cells slots Q (pc + 1) lv (.long (-x) :: st) w) : Z p l e R s m args below meth c D A nL cells slots Q pc lv (.long x :: st) w := fun H locs ls hP hD hS hv => lv_lneg hX.1 hX.2.1 hd (k H locs ls hP hD hS hv)
theorem Z.ldiv (hX : Zf p m c cc nL s args own D tys A) {x y : Int64} (hd : decode cc pc = .ok (.ldiv, 1)) (hne : ¬ y = 0) (k : Z p l e R s m args below meth c D A nL cells slots Q (pc + 1) lv (.long (x / y) :: st) w) : Z p l e R s m args below meth c D A nL cells slots Q pc lv (.long y :: .long x :: st) w := fun H locs ls hP hD hS hv => lv_ldiv hX.1 hX.2.1 hd hne (k H locs ls hP hD hS hv)
theorem Z.lrem (hX : Zf p m c cc nL s args own D tys A) {x y : Int64} (hd : decode cc pc = .ok (.lrem, 1)) (hne : ¬ y = 0) (k : Z p l e R s m args below meth c D A nL cells slots Q (pc + 1) lv (.long (x - x / y * y) :: st) w) : Z p l e R s m args below meth c D A nL cells slots Q pc lv (.long y :: .long x :: st) w := fun H locs ls hP hD hS hv => lv_lrem hX.1 hX.2.1 hd hne (k H locs ls hP hD hS hv)
theorem Z.lshr (hX : Zf p m c cc nL s args own D tys A) {x v : Int64} {y : Int32} (hd : decode cc pc = .ok (.lshr, 1)) (hv0 : x >>> (y.toInt64 &&& 63) = v) (k : Z p l e R s m args below meth c D A nL cells slots Q (pc + 1) lv (.long v :: st) w) : Z p l e R s m args below meth c D A nL cells slots Q pc lv (.int y :: .long x :: st) w := fun H locs ls hP hD hS hv => lv_lshr hX.1 hX.2.1 hd hv0 (k H locs ls hP hD hS hv)
theorem Z.lshl (hX : Zf p m c cc nL s args own D tys A) {x v : Int64} {y : Int32} (hd : decode cc pc = .ok (.lshl, 1)) (hv0 : x <<< (y.toInt64 &&& 63) = v) (k : Z p l e R s m args below meth c D A nL cells slots Q (pc + 1) lv (.long v :: st) w) : Z p l e R s m args below meth c D A nL cells slots Q pc lv (.int y :: .long x :: st) w := fun H locs ls hP hD hS hv => lv_lshl hX.1 hX.2.1 hd hv0 (k H locs ls hP hD hS hv)
theorem Z.i2l (hX : Zf p m c cc nL s args own D tys A) {a : Int} (hd : decode cc pc = .ok (.i2l, 1)) (h : zR a) (k : Z p l e R s m args below meth c D A nL cells slots Q (pc + 1) lv (.long (zL a) :: st) w) : Z p l e R s m args below meth c D A nL cells slots Q pc lv (.int (zI a) :: st) w := fun H locs ls hP hD hS hv => lv_i2l hX.1 hX.2.1 hd (zL_i2l h) (k H locs ls hP hD hS hv)
theorem Z.l2i (hX : Zf p m c cc nL s args own D tys A) {x : Int64} (hd : decode cc pc = .ok (.l2i, 1))  (k : Z p l e R s m args below meth c D A nL cells slots Q (pc + 1) lv (.int x.toInt32 :: st) w) : Z p l e R s m args below meth c D A nL cells slots Q pc lv (.long x :: st) w := fun H locs ls hP hD hS hv => lv_l2i hX.1 hX.2.1 hd rfl (k H locs ls hP hD hS hv)
theorem Z.dup (hX : Zf p m c cc nL s args own D tys A) {va : Value} (hd : decode cc pc = .ok (.dup, 1)) (h : va.category = 1) (k : Z p l e R s m args below meth c D A nL cells slots Q (pc + 1) lv (va :: va :: st) w) : Z p l e R s m args below meth c D A nL cells slots Q pc lv (va :: st) w := fun H locs ls hP hD hS hv => lv_dup hX.1 hX.2.1 hd h (k H locs ls hP hD hS hv)
theorem Z.pop (hX : Zf p m c cc nL s args own D tys A) {va : Value} (hd : decode cc pc = .ok (.pop, 1)) (h : va.category = 1) (k : Z p l e R s m args below meth c D A nL cells slots Q (pc + 1) lv (st) w) : Z p l e R s m args below meth c D A nL cells slots Q pc lv (va :: st) w := fun H locs ls hP hD hS hv => lv_pop hX.1 hX.2.1 hd h (k H locs ls hP hD hS hv)
theorem Z.dup2 (hX : Zf p m c cc nL s args own D tys A) {va vb : Value} (hd : decode cc pc = .ok (.dup2, 1)) (h : va.category = 1) (h2 : vb.category = 1) (k : Z p l e R s m args below meth c D A nL cells slots Q (pc + 1) lv (va :: vb :: va :: vb :: st) w) : Z p l e R s m args below meth c D A nL cells slots Q pc lv (va :: vb :: st) w := fun H locs ls hP hD hS hv => lv_dup2_11 hX.1 hX.2.1 hd h h2 (k H locs ls hP hD hS hv)
theorem Z.goto (hX : Zf p m c cc nL s args own D tys A) {off : Int} (tgt : Nat) (hd : decode cc pc = .ok (.goto off, 3)) (ht : (pc : Int) + off = (tgt : Int)) (k : Z p l e R s m args below meth c D A nL cells slots Q tgt lv st w) : Z p l e R s m args below meth c D A nL cells slots Q pc lv st w := fun H locs ls hP hD hS hv => lv_goto hX.1 hX.2.1 hd ht (k H locs ls hP hD hS hv)
theorem Z.topi {x : Int32} (k : ∀ z : Int, -2147483648 ≤ z → z < 2147483648 → x = zI z → Z p l e R s m args below meth c D A nL cells slots Q pc lv (.int (zI z) :: st) w) : Z p l e R s m args below meth c D A nL cells slots Q pc lv (.int x :: st) w := by
  obtain ⟨z, h1, h2, h3⟩ := zI_ex x
  rw [h3]
  exact k z h1 h2 h3
theorem Z.vali {x y : Int32} (h : x = y) (k : Z p l e R s m args below meth c D A nL cells slots Q pc lv (.int y :: st) w) : Z p l e R s m args below meth c D A nL cells slots Q pc lv (.int x :: st) w := h ▸ k
theorem Z.vall {x y : Int64} (h : x = y) (k : Z p l e R s m args below meth c D A nL cells slots Q pc lv (.long y :: st) w) : Z p l e R s m args below meth c D A nL cells slots Q pc lv (.long x :: st) w := h ▸ k
theorem Z.topl {x : Int64} (k : ∀ y : Int64, y = x → Z p l e R s m args below meth c D A nL cells slots Q pc lv (.long y :: st) w) : Z p l e R s m args below meth c D A nL cells slots Q pc lv (.long x :: st) w := k x rfl
theorem Z.icmp_eq (hX : Zf p m c cc nL s args own D tys A) {a b off : Int} (tgt : Nat) (hd : decode cc pc = .ok (.if_icmp .eq off, 3)) (ht : (pc : Int) + off = (tgt : Int)) (ha : zR a) (hb : zR b) (kt : a = b → Z p l e R s m args below meth c D A nL cells slots Q tgt lv st w) (kf : ¬ (a = b) → Z p l e R s m args below meth c D A nL cells slots Q (pc + 3) lv st w) : Z p l e R s m args below meth c D A nL cells slots Q pc lv (.int (zI b) :: .int (zI a) :: st) w := fun H locs ls hP hD hS hv => lv_icmp_eq hX.1 hX.2.1 hd ht (fun q => kt ((zI_eq ha hb).mp q) H locs ls hP hD hS hv) (fun q => kf (fun r => q ((zI_eq ha hb).mpr r)) H locs ls hP hD hS hv)
theorem Z.if_eq (hX : Zf p m c cc nL s args own D tys A) {a off : Int} (tgt : Nat) (hd : decode cc pc = .ok (.ifCond .eq off, 3)) (ht : (pc : Int) + off = (tgt : Int)) (ha : zR a) (kt : a = 0 → Z p l e R s m args below meth c D A nL cells slots Q tgt lv st w) (kf : ¬ (a = 0) → Z p l e R s m args below meth c D A nL cells slots Q (pc + 3) lv st w) : Z p l e R s m args below meth c D A nL cells slots Q pc lv (.int (zI a) :: st) w := fun H locs ls hP hD hS hv => lv_if_eq hX.1 hX.2.1 hd ht (fun q => kt ((zI_eq ha zR_0).mp q) H locs ls hP hD hS hv) (fun q => kf (fun r => q ((zI_eq ha zR_0).mpr r)) H locs ls hP hD hS hv)
theorem Z.lcmp_eq (hX : Zf p m c cc nL s args own D tys A) {x y : Int64} {off : Int} (tgt : Nat) (hd1 : decode cc pc = .ok (.lcmp, 1)) (hd : decode cc (pc + 1) = .ok (.ifCond .eq off, 3)) (ht : ((pc + 1 : Nat) : Int) + off = (tgt : Int)) (kt : x = y → Z p l e R s m args below meth c D A nL cells slots Q tgt lv st w) (kf : ¬ (x = y) → Z p l e R s m args below meth c D A nL cells slots Q (pc + 1 + 3) lv st w) : Z p l e R s m args below meth c D A nL cells slots Q pc lv (.long y :: .long x :: st) w := fun H locs ls hP hD hS hv => W.lcmp hX.1 hX.2.1 hd1 (lv_if_eq hX.1 hX.2.1 hd ht (fun q => kt ((lgc_eq x y).mp q) H locs ls hP hD hS hv) (fun q => kf (fun r => q ((lgc_eq x y).mpr r)) H locs ls hP hD hS hv))
theorem Z.icmp_ne (hX : Zf p m c cc nL s args own D tys A) {a b off : Int} (tgt : Nat) (hd : decode cc pc = .ok (.if_icmp .ne off, 3)) (ht : (pc : Int) + off = (tgt : Int)) (ha : zR a) (hb : zR b) (kt : ¬ a = b → Z p l e R s m args below meth c D A nL cells slots Q tgt lv st w) (kf : a = b → Z p l e R s m args below meth c D A nL cells slots Q (pc + 3) lv st w) : Z p l e R s m args below meth c D A nL cells slots Q pc lv (.int (zI b) :: .int (zI a) :: st) w := fun H locs ls hP hD hS hv => lv_icmp_ne hX.1 hX.2.1 hd ht (fun q => kt ((not_congr (zI_eq ha hb)).mp q) H locs ls hP hD hS hv) (fun q => kf ((zI_eq ha hb).mp q) H locs ls hP hD hS hv)
theorem Z.if_ne (hX : Zf p m c cc nL s args own D tys A) {a off : Int} (tgt : Nat) (hd : decode cc pc = .ok (.ifCond .ne off, 3)) (ht : (pc : Int) + off = (tgt : Int)) (ha : zR a) (kt : ¬ a = 0 → Z p l e R s m args below meth c D A nL cells slots Q tgt lv st w) (kf : a = 0 → Z p l e R s m args below meth c D A nL cells slots Q (pc + 3) lv st w) : Z p l e R s m args below meth c D A nL cells slots Q pc lv (.int (zI a) :: st) w := fun H locs ls hP hD hS hv => lv_if_ne hX.1 hX.2.1 hd ht (fun q => kt ((not_congr (zI_eq ha zR_0)).mp q) H locs ls hP hD hS hv) (fun q => kf ((zI_eq ha zR_0).mp q) H locs ls hP hD hS hv)
theorem Z.lcmp_ne (hX : Zf p m c cc nL s args own D tys A) {x y : Int64} {off : Int} (tgt : Nat) (hd1 : decode cc pc = .ok (.lcmp, 1)) (hd : decode cc (pc + 1) = .ok (.ifCond .ne off, 3)) (ht : ((pc + 1 : Nat) : Int) + off = (tgt : Int)) (kt : ¬ x = y → Z p l e R s m args below meth c D A nL cells slots Q tgt lv st w) (kf : x = y → Z p l e R s m args below meth c D A nL cells slots Q (pc + 1 + 3) lv st w) : Z p l e R s m args below meth c D A nL cells slots Q pc lv (.long y :: .long x :: st) w := fun H locs ls hP hD hS hv => W.lcmp hX.1 hX.2.1 hd1 (lv_if_ne hX.1 hX.2.1 hd ht (fun q => kt ((not_congr (lgc_eq x y)).mp q) H locs ls hP hD hS hv) (fun q => kf ((lgc_eq x y).mp q) H locs ls hP hD hS hv))
theorem Z.icmp_lt (hX : Zf p m c cc nL s args own D tys A) {a b off : Int} (tgt : Nat) (hd : decode cc pc = .ok (.if_icmp .lt off, 3)) (ht : (pc : Int) + off = (tgt : Int)) (ha : zR a) (hb : zR b) (kt : a < b → Z p l e R s m args below meth c D A nL cells slots Q tgt lv st w) (kf : ¬ (a < b) → Z p l e R s m args below meth c D A nL cells slots Q (pc + 3) lv st w) : Z p l e R s m args below meth c D A nL cells slots Q pc lv (.int (zI b) :: .int (zI a) :: st) w := fun H locs ls hP hD hS hv => lv_icmp_lt hX.1 hX.2.1 hd ht (fun q => kt ((zI_lt ha hb).mp q) H locs ls hP hD hS hv) (fun q => kf (fun r => q ((zI_lt ha hb).mpr r)) H locs ls hP hD hS hv)
theorem Z.if_lt (hX : Zf p m c cc nL s args own D tys A) {a off : Int} (tgt : Nat) (hd : decode cc pc = .ok (.ifCond .lt off, 3)) (ht : (pc : Int) + off = (tgt : Int)) (ha : zR a) (kt : a < 0 → Z p l e R s m args below meth c D A nL cells slots Q tgt lv st w) (kf : ¬ (a < 0) → Z p l e R s m args below meth c D A nL cells slots Q (pc + 3) lv st w) : Z p l e R s m args below meth c D A nL cells slots Q pc lv (.int (zI a) :: st) w := fun H locs ls hP hD hS hv => lv_if_lt hX.1 hX.2.1 hd ht (fun q => kt ((zI_lt ha zR_0).mp q) H locs ls hP hD hS hv) (fun q => kf (fun r => q ((zI_lt ha zR_0).mpr r)) H locs ls hP hD hS hv)
theorem Z.lcmp_lt (hX : Zf p m c cc nL s args own D tys A) {x y : Int64} {off : Int} (tgt : Nat) (hd1 : decode cc pc = .ok (.lcmp, 1)) (hd : decode cc (pc + 1) = .ok (.ifCond .lt off, 3)) (ht : ((pc + 1 : Nat) : Int) + off = (tgt : Int)) (kt : x < y → Z p l e R s m args below meth c D A nL cells slots Q tgt lv st w) (kf : ¬ (x < y) → Z p l e R s m args below meth c D A nL cells slots Q (pc + 1 + 3) lv st w) : Z p l e R s m args below meth c D A nL cells slots Q pc lv (.long y :: .long x :: st) w := fun H locs ls hP hD hS hv => W.lcmp hX.1 hX.2.1 hd1 (lv_if_lt hX.1 hX.2.1 hd ht (fun q => kt ((lgc_lt x y).mp q) H locs ls hP hD hS hv) (fun q => kf (fun r => q ((lgc_lt x y).mpr r)) H locs ls hP hD hS hv))
theorem Z.icmp_ge (hX : Zf p m c cc nL s args own D tys A) {a b off : Int} (tgt : Nat) (hd : decode cc pc = .ok (.if_icmp .ge off, 3)) (ht : (pc : Int) + off = (tgt : Int)) (ha : zR a) (hb : zR b) (kt : b ≤ a → Z p l e R s m args below meth c D A nL cells slots Q tgt lv st w) (kf : ¬ (b ≤ a) → Z p l e R s m args below meth c D A nL cells slots Q (pc + 3) lv st w) : Z p l e R s m args below meth c D A nL cells slots Q pc lv (.int (zI b) :: .int (zI a) :: st) w := fun H locs ls hP hD hS hv => lv_icmp_ge hX.1 hX.2.1 hd ht (fun q => kt ((zI_le hb ha).mp q) H locs ls hP hD hS hv) (fun q => kf (fun r => q ((zI_le hb ha).mpr r)) H locs ls hP hD hS hv)
theorem Z.if_ge (hX : Zf p m c cc nL s args own D tys A) {a off : Int} (tgt : Nat) (hd : decode cc pc = .ok (.ifCond .ge off, 3)) (ht : (pc : Int) + off = (tgt : Int)) (ha : zR a) (kt : 0 ≤ a → Z p l e R s m args below meth c D A nL cells slots Q tgt lv st w) (kf : ¬ (0 ≤ a) → Z p l e R s m args below meth c D A nL cells slots Q (pc + 3) lv st w) : Z p l e R s m args below meth c D A nL cells slots Q pc lv (.int (zI a) :: st) w := fun H locs ls hP hD hS hv => lv_if_ge hX.1 hX.2.1 hd ht (fun q => kt ((zI_le zR_0 ha).mp q) H locs ls hP hD hS hv) (fun q => kf (fun r => q ((zI_le zR_0 ha).mpr r)) H locs ls hP hD hS hv)
theorem Z.lcmp_ge (hX : Zf p m c cc nL s args own D tys A) {x y : Int64} {off : Int} (tgt : Nat) (hd1 : decode cc pc = .ok (.lcmp, 1)) (hd : decode cc (pc + 1) = .ok (.ifCond .ge off, 3)) (ht : ((pc + 1 : Nat) : Int) + off = (tgt : Int)) (kt : y ≤ x → Z p l e R s m args below meth c D A nL cells slots Q tgt lv st w) (kf : ¬ (y ≤ x) → Z p l e R s m args below meth c D A nL cells slots Q (pc + 1 + 3) lv st w) : Z p l e R s m args below meth c D A nL cells slots Q pc lv (.long y :: .long x :: st) w := fun H locs ls hP hD hS hv => W.lcmp hX.1 hX.2.1 hd1 (lv_if_ge hX.1 hX.2.1 hd ht (fun q => kt ((lg_cmp_ge x y).mp q) H locs ls hP hD hS hv) (fun q => kf (fun r => q ((lg_cmp_ge x y).mpr r)) H locs ls hP hD hS hv))
theorem Z.icmp_gt (hX : Zf p m c cc nL s args own D tys A) {a b off : Int} (tgt : Nat) (hd : decode cc pc = .ok (.if_icmp .gt off, 3)) (ht : (pc : Int) + off = (tgt : Int)) (ha : zR a) (hb : zR b) (kt : b < a → Z p l e R s m args below meth c D A nL cells slots Q tgt lv st w) (kf : ¬ (b < a) → Z p l e R s m args below meth c D A nL cells slots Q (pc + 3) lv st w) : Z p l e R s m args below meth c D A nL cells slots Q pc lv (.int (zI b) :: .int (zI a) :: st) w := fun H locs ls hP hD hS hv => lv_icmp_gt hX.1 hX.2.1 hd ht (fun q => kt ((zI_lt hb ha).mp q) H locs ls hP hD hS hv) (fun q => kf (fun r => q ((zI_lt hb ha).mpr r)) H locs ls hP hD hS hv)
theorem Z.if_gt (hX : Zf p m c cc nL s args own D tys A) {a off : Int} (tgt : Nat) (hd : decode cc pc = .ok (.ifCond .gt off, 3)) (ht : (pc : Int) + off = (tgt : Int)) (ha : zR a) (kt : 0 < a → Z p l e R s m args below meth c D A nL cells slots Q tgt lv st w) (kf : ¬ (0 < a) → Z p l e R s m args below meth c D A nL cells slots Q (pc + 3) lv st w) : Z p l e R s m args below meth c D A nL cells slots Q pc lv (.int (zI a) :: st) w := fun H locs ls hP hD hS hv => lv_if_gt hX.1 hX.2.1 hd ht (fun q => kt ((zI_lt zR_0 ha).mp q) H locs ls hP hD hS hv) (fun q => kf (fun r => q ((zI_lt zR_0 ha).mpr r)) H locs ls hP hD hS hv)
theorem Z.lcmp_gt (hX : Zf p m c cc nL s args own D tys A) {x y : Int64} {off : Int} (tgt : Nat) (hd1 : decode cc pc = .ok (.lcmp, 1)) (hd : decode cc (pc + 1) = .ok (.ifCond .gt off, 3)) (ht : ((pc + 1 : Nat) : Int) + off = (tgt : Int)) (kt : y < x → Z p l e R s m args below meth c D A nL cells slots Q tgt lv st w) (kf : ¬ (y < x) → Z p l e R s m args below meth c D A nL cells slots Q (pc + 1 + 3) lv st w) : Z p l e R s m args below meth c D A nL cells slots Q pc lv (.long y :: .long x :: st) w := fun H locs ls hP hD hS hv => W.lcmp hX.1 hX.2.1 hd1 (lv_if_gt hX.1 hX.2.1 hd ht (fun q => kt ((lgc_gt x y).mp q) H locs ls hP hD hS hv) (fun q => kf (fun r => q ((lgc_gt x y).mpr r)) H locs ls hP hD hS hv))
theorem Z.icmp_le (hX : Zf p m c cc nL s args own D tys A) {a b off : Int} (tgt : Nat) (hd : decode cc pc = .ok (.if_icmp .le off, 3)) (ht : (pc : Int) + off = (tgt : Int)) (ha : zR a) (hb : zR b) (kt : a ≤ b → Z p l e R s m args below meth c D A nL cells slots Q tgt lv st w) (kf : ¬ (a ≤ b) → Z p l e R s m args below meth c D A nL cells slots Q (pc + 3) lv st w) : Z p l e R s m args below meth c D A nL cells slots Q pc lv (.int (zI b) :: .int (zI a) :: st) w := fun H locs ls hP hD hS hv => lv_icmp_le hX.1 hX.2.1 hd ht (fun q => kt ((zI_le ha hb).mp q) H locs ls hP hD hS hv) (fun q => kf (fun r => q ((zI_le ha hb).mpr r)) H locs ls hP hD hS hv)
theorem Z.if_le (hX : Zf p m c cc nL s args own D tys A) {a off : Int} (tgt : Nat) (hd : decode cc pc = .ok (.ifCond .le off, 3)) (ht : (pc : Int) + off = (tgt : Int)) (ha : zR a) (kt : a ≤ 0 → Z p l e R s m args below meth c D A nL cells slots Q tgt lv st w) (kf : ¬ (a ≤ 0) → Z p l e R s m args below meth c D A nL cells slots Q (pc + 3) lv st w) : Z p l e R s m args below meth c D A nL cells slots Q pc lv (.int (zI a) :: st) w := fun H locs ls hP hD hS hv => lv_if_le hX.1 hX.2.1 hd ht (fun q => kt ((zI_le ha zR_0).mp q) H locs ls hP hD hS hv) (fun q => kf (fun r => q ((zI_le ha zR_0).mpr r)) H locs ls hP hD hS hv)
theorem Z.lcmp_le (hX : Zf p m c cc nL s args own D tys A) {x y : Int64} {off : Int} (tgt : Nat) (hd1 : decode cc pc = .ok (.lcmp, 1)) (hd : decode cc (pc + 1) = .ok (.ifCond .le off, 3)) (ht : ((pc + 1 : Nat) : Int) + off = (tgt : Int)) (kt : x ≤ y → Z p l e R s m args below meth c D A nL cells slots Q tgt lv st w) (kf : ¬ (x ≤ y) → Z p l e R s m args below meth c D A nL cells slots Q (pc + 1 + 3) lv st w) : Z p l e R s m args below meth c D A nL cells slots Q pc lv (.long y :: .long x :: st) w := fun H locs ls hP hD hS hv => W.lcmp hX.1 hX.2.1 hd1 (lv_if_le hX.1 hX.2.1 hd ht (fun q => kt ((lg_cmp_le x y).mp q) H locs ls hP hD hS hv) (fun q => kf (fun r => q ((lg_cmp_le x y).mpr r)) H locs ls hP hD hS hv))
theorem Z.laload (hX : Zf p m c cc nL s args own D tys A) (q0 t0 : Nat) {a : Nat} {cA : ClassId} {n : Nat} {f : Nat → Int64} {z : Int} (hd : decode cc pc = .ok (.laload, 1)) (ha : w[q0]? = some (a, .inl (cA, n, .inr (.inl f)))) (ht : tys[t0]? = some (cA, .long)) (h1 : 0 ≤ z) (h2 : z < n) (hn : n < 2147483648) (k : Z p l e R s m args below meth c D A nL cells slots Q (pc + 1) lv (.long (f z.toNat) :: st) w) : Z p l e R s m args below meth c D A nL cells slots Q pc lv (.int (zI z) :: .ref a :: st) w := fun H locs ls hP hD hS hv => va_lald hX.1 hX.2.1 hX.2.2.2.2.2.1 hP q0 t0 ha ht (zI_in h1 h2 hn) hd (by rw [zI_cl h1 (by omega)]; exact (k H locs ls hP hD hS hv))
theorem Z.iaload (hX : Zf p m c cc nL s args own D tys A) (q0 t0 : Nat) {a : Nat} {cA : ClassId} {n : Nat} {f : Nat → Int32} {z : Int} (hd : decode cc pc = .ok (.iaload, 1)) (ha : w[q0]? = some (a, .inl (cA, n, .inl f))) (ht : tys[t0]? = some (cA, .int)) (h1 : 0 ≤ z) (h2 : z < n) (hn : n < 2147483648) (k : Z p l e R s m args below meth c D A nL cells slots Q (pc + 1) lv (.int (f z.toNat) :: st) w) : Z p l e R s m args below meth c D A nL cells slots Q pc lv (.int (zI z) :: .ref a :: st) w := fun H locs ls hP hD hS hv => va_iald hX.1 hX.2.1 hX.2.2.2.2.2.1 hP q0 t0 ha ht (zI_in h1 h2 hn) hd (by rw [zI_cl h1 (by omega)]; exact (k H locs ls hP hD hS hv))
theorem Z.zaload (hX : Zf p m c cc nL s args own D tys A) (q0 t0 : Nat) {a : Nat} {cA : ClassId} {n : Nat} {f : Nat → Int32} {z : Int} (hd : decode cc pc = .ok (.baload, 1)) (ha : w[q0]? = some (a, .inl (cA, n, .inl f))) (ht : tys[t0]? = some (cA, .boolean)) (h1 : 0 ≤ z) (h2 : z < n) (hn : n < 2147483648) (k : Z p l e R s m args below meth c D A nL cells slots Q (pc + 1) lv (.int (f z.toNat) :: st) w) : Z p l e R s m args below meth c D A nL cells slots Q pc lv (.int (zI z) :: .ref a :: st) w := fun H locs ls hP hD hS hv => va_zald hX.1 hX.2.1 hX.2.2.2.2.2.1 hP q0 t0 ha ht (zI_in h1 h2 hn) hd (by rw [zI_cl h1 (by omega)]; exact (k H locs ls hP hD hS hv))
theorem Z.lastore (hX : Zf p m c cc nL s args own D tys A) (q0 t0 : Nat) {a : Nat} {cA : ClassId} {n : Nat} {f : Nat → Int64} {x : Int64} {z : Int} (hd : decode cc pc = .ok (.lastore, 1)) (ha : w[q0]? = some (a, .inl (cA, n, .inr (.inl f)))) (ht : tys[t0]? = some (cA, .long)) (h1 : 0 ≤ z) (h2 : z < n) (hn : n < 2147483648) (k : Z p l e R s m args below meth c D A nL cells slots Q (pc + 1) lv st (w.set q0 (a, .inl (cA, n, .inr (.inl (vp_updL f z.toNat x)))))) : Z p l e R s m args below meth c D A nL cells slots Q pc lv (.long x :: .int (zI z) :: .ref a :: st) w := fun H locs ls hP hD hS hv => va_last hX.1 hX.2.1 hX.2.2.2.2.2.1 hP hD hS q0 t0 ha ht (zI_in h1 h2 hn) hd (fun H1 locs1 hP1 hD1 hS1 => by rw [zI_cl h1 (by omega)] at hP1 hD1; exact k H1 locs1 ls hP1 hD1 hS1 hv)
theorem Z.iastore (hX : Zf p m c cc nL s args own D tys A) (q0 t0 : Nat) {a : Nat} {cA : ClassId} {n : Nat} {f : Nat → Int32} {x : Int32} {z : Int} (hd : decode cc pc = .ok (.iastore, 1)) (ha : w[q0]? = some (a, .inl (cA, n, .inl f))) (ht : tys[t0]? = some (cA, .int)) (h1 : 0 ≤ z) (h2 : z < n) (hn : n < 2147483648) (k : Z p l e R s m args below meth c D A nL cells slots Q (pc + 1) lv st (w.set q0 (a, .inl (cA, n, .inl (upd f z.toNat x))))) : Z p l e R s m args below meth c D A nL cells slots Q pc lv (.int x :: .int (zI z) :: .ref a :: st) w := fun H locs ls hP hD hS hv => va_iast hX.1 hX.2.1 hX.2.2.2.2.2.1 hP hD hS q0 t0 ha ht (zI_in h1 h2 hn) hd (fun H1 locs1 hP1 hD1 hS1 => by rw [zI_cl h1 (by omega)] at hP1 hD1; exact k H1 locs1 ls hP1 hD1 hS1 hv)
theorem Z.zastore (hX : Zf p m c cc nL s args own D tys A) (q0 t0 : Nat) {a : Nat} {cA : ClassId} {n : Nat} {f : Nat → Int32} {x : Int32} {z : Int} (hd : decode cc pc = .ok (.bastore, 1)) (ha : w[q0]? = some (a, .inl (cA, n, .inl f))) (ht : tys[t0]? = some (cA, .boolean)) (h1 : 0 ≤ z) (h2 : z < n) (hn : n < 2147483648) (k : Z p l e R s m args below meth c D A nL cells slots Q (pc + 1) lv st (w.set q0 (a, .inl (cA, n, .inl (upd f z.toNat (vp_nar .boolean x)))))) : Z p l e R s m args below meth c D A nL cells slots Q pc lv (.int x :: .int (zI z) :: .ref a :: st) w := fun H locs ls hP hD hS hv => va_zast hX.1 hX.2.1 hX.2.2.2.2.2.1 hP hD hS q0 t0 ha ht (zI_in h1 h2 hn) hd (fun H1 locs1 hP1 hD1 hS1 => by rw [zI_cl h1 (by omega)] at hP1 hD1; exact k H1 locs1 ls hP1 hD1 hS1 hv)
theorem Z.ldc (hX : Zf p m c cc nL s args own D tys A) {index : Nat} {v : Int32} (z : Int) (hd : decode cc pc = .ok (.ldc index, 2)) (hc : Cond.constant own index v ∈ lw_g) (hz : v = zI z) (k : Z p l e R s m args below meth c D A nL cells slots Q (pc + 2) lv (.int (zI z) :: st) w) : Z p l e R s m args below meth c D A nL cells slots Q pc lv st w := fun H locs ls hP hD hS hv => lv_ldc hX.1 hX.2.1 hX.2.2.2.1 (hX.2.2.2.2.1 _ hc) hd (by rw [hz]; exact (k H locs ls hP hD hS hv))
theorem Z.ldc2 (hX : Zf p m c cc nL s args own D tys A) {index : Nat} {v : Int64} (hd : decode cc pc = .ok (.ldc2_w index, 3)) (hc : Cond.constantLong own index v ∈ lw_g) (k : Z p l e R s m args below meth c D A nL cells slots Q (pc + 3) lv (.long v :: st) w) : Z p l e R s m args below meth c D A nL cells slots Q pc lv st w := fun H locs ls hP hD hS hv => lv_ldc2 hX.1 hX.2.1 hX.2.2.2.1 (hX.2.2.2.2.1 _ hc) hd (k H locs ls hP hD hS hv)
theorem Z.getf (hX : Zf p m c cc nL s args own D tys A) {ref C : String} {T : u_T} {N index a : Nat} (ci q0 fk : Nat) {fs : List Value} {v : Value} (hd : decode cc pc = .ok (.getfield index, 3)) (he : w[q0]? = some (a, .inr (ci, fs))) (hc : vwCl[ci]? = some (C, T, N)) (hin : ∀ x ∈ u_ws C T N, x ∈ lw_g) (hk : fk < N) (hl : Cond.fieldLink own index ref (T fk).2.1 (T fk).2.2.1 ∈ lw_g) (hs : ref = (T fk).1) (hv0 : fs[fk]? = some v) (k : Z p l e R s m args below meth c D A nL cells slots Q (pc + 3) lv (v :: st) w) : Z p l e R s m args below meth c D A nL cells slots Q pc lv (.ref a :: st) w := fun H locs ls hP hD hS hv => va_get hX.1 hX.2.1 hX.2.2.2.2.1 hin hX.2.2.2.1 hX.2.2.2.2.2.1 hP q0 he hc fk hk (hX.2.2.2.2.1 _ hl) (fun x h => by rw [hs]; exact h) hv0 hd (k H locs ls hP hD hS hv)
theorem Z.putf (hX : Zf p m c cc nL s args own D tys A) {ref C : String} {T : u_T} {N index a : Nat} (ci q0 fk : Nat) {fs : List Value} {v : Value} {ty : FieldType} (ty0 : Nat → FieldType) (hd : decode cc pc = .ok (.putfield index, 3)) (he : w[q0]? = some (a, .inr (ci, fs))) (hc : vwCl[ci]? = some (C, T, N)) (hin : ∀ x ∈ u_ws C T N, x ∈ lw_g) (hty : ∀ k, k < N → parseFieldDescriptor (T k).2.2.1 = some (ty0 k)) (hnm : ∀ a, a < N → ∀ b, b < N → a ≠ b → (T a).2.1 ≠ (T b).2.1) (hk : fk < N) (hl : Cond.fieldLink own index ref (T fk).2.1 (T fk).2.2.1 ∈ lw_g) (hs : ref = (T fk).1) (hfin : (T fk).2.2.2 = false) (hdd : parseFieldDescriptor (T fk).2.2.1 = some ty) (hn : narrow ty v = v) (hfit : fits ty v = true) (hll : fk < fs.length) (k : Z p l e R s m args below meth c D A nL cells slots Q (pc + 3) lv st (w.set q0 (a, .inr (ci, fs.set fk v)))) : Z p l e R s m args below meth c D A nL cells slots Q pc lv (v :: .ref a :: st) w := fun H locs ls hP hD hS hv => va_put hX.1 hX.2.1 hX.2.2.2.2.1 hin ty0 hty hnm hX.2.2.2.1 hX.2.2.2.2.2.1 hP hD hS q0 he hc fk hk (hX.2.2.2.2.1 _ hl) (fun x h => by rw [hs]; exact h) hfin hdd hn hfit hll hd (fun H1 locs1 hP1 hD1 hS1 => k H1 locs1 ls hP1 hD1 hS1 hv)
end ZR2
end
section
theorem z_fm {α β : Type} (f : α → Option β) : ∀ (l : List α) (r : List β), l.map f = r.map some → l.filterMap f = r
  | [], [], _ => rfl
  | [], _ :: _, h => by cases h
  | _ :: _, [], h => by cases h
  | a :: l, b :: r, h => by
    have h1 : f a = some b ∧ l.map f = r.map some := by simpa using h
    rw [List.filterMap_cons, h1.1, z_fm f l r h1.2]
abbrev Bw (D : va_G) (tys : List (ClassId × FieldType)) (A : Nat → Prop) : va_W → State → Prop := fun w t => va_P D vwCl w t.heap ∧ va_K D vwCl tys t ∧ va_D A w
abbrev Pw (D : va_G) (tys : List (ClassId × FieldType)) (avs : List Value) (w : va_W) (sz : Nat) : Array Value → State → Prop := va_Pc avs (fun U => U.heap.size = sz ∧ va_P D vwCl w U.heap ∧ va_K D vwCl tys U ∧ va_D (fun _ => True) w ∧ NW U)
abbrev QI (D : va_G) (tys : List (ClassId × FieldType)) (post : Int32 → va_W → Prop) (A : Nat → Prop) := va_Qi post (Bw D tys A) A
abbrev QL (D : va_G) (tys : List (ClassId × FieldType)) (post : Int64 → va_W → Prop) (A : Nat → Prop) := va_Ql post (Bw D tys A) A
abbrev QV (D : va_G) (tys : List (ClassId × FieldType)) (post : va_W → Prop) (A : Nat → Prop) := va_Qv post (Bw D tys A) A
/-- a method's contract: from the cells w and the arguments avs it returns, and QQ holds -/
def Ct (l : Launch) (y : MethodName) (cc : ByteArray) (nL : Nat) (ret : Option FieldType) (rm : Room) (mc ms : Nat) (D : va_G) (tys : List (ClassId × FieldType)) (avs : List Value) (w : va_W) (QQ : (Nat → Prop) → Array Value → State → Outcome → State → Prop) : Prop :=
  ∀ sz : Nat, Met l y (.code y cc nL ret :: lw_g) rm (Pw D tys avs w sz) (QQ (va_A w sz)) mc ms (va_A w sz)
theorem Ct.of {l : Launch} {y : MethodName} {cc : ByteArray} {nL : Nat} {ret : Option FieldType} {rm : Room} {mc ms : Nat} {D : va_G} {tys : List (ClassId × FieldType)} {avs : List Value} {w : va_W} {QQ : (Nat → Prop) → Array Value → State → Outcome → State → Prop} (hy : plainName y.cls = true) (hlen : (lg_sl avs).length ≤ nL)
    (body : ∀ (p : Program) (e : Env) (s : State) (m : MethodId) (args : Array Value) (below : List Frame) (meth : Method) (c : Code) (A : Nat → Prop), Zf p m c cc nL s args y.cls D tys A → meth.sig.returnType = ret → meth.locks = false → Z p l e rm s m args below meth c D A nL 0 0 (MQ below (QQ A) args s mc ms A) 0 (lv_args 0 avs) [] w) : Ct l y cc nL ret rm mc ms D tys avs w QQ := by
  intro sz
  refine Met.ofW (cc := cc) (maxL := nL) (ret := ret) hy rfl ?_
  intro p e s m args below meth c s₁ B hml hv
  obtain ⟨rfl, hsz, hP, hK, hD0, hN⟩ := hv
  subst hsz
  have hts := atoms_spec (ws := .code y cc nL ret :: lw_g) B.pre
  have hX : Zf p m c cc nL s avs.toArray y.cls D tys (va_A w s.heap.size) := ⟨B.exec, B.bytes, hml, findClass_of_methodNamed B.named, fun x hx => hts x (List.mem_cons_of_mem _ hx), hK, fun q h => Or.inr h, hN⟩
  rw [lg_entry_eq]
  exact body p e s m avs.toArray below meth c (va_A w s.heap.size) hX B.returns B.notSynchronized s.heap [] _ hP hD0.self va_S.rf (lv_entry avs hlen)
section ZR3
variable {p : Program} {l : Launch} {e : Env} {R : Room} {s : State} {m : MethodId} {args : Array Value} {below : List Frame} {meth : Method} {c : Code} {D : va_G} {A : Nat → Prop} {nL cells slots : Nat} {Q : State → Prop}
variable {cc : ByteArray} {own : String} {tys : List (ClassId × FieldType)} {pc : Nat} {lv : List (Nat × Value)} {st : List Value} {w : va_W}
theorem Z.perm {w' : va_W} (is : List Nat) (h1 : va_nd is = true) (h2 : is.map (fun i => w[i]?) = w'.map some) (k : Z p l e R s m args below meth c D A nL cells slots Q pc lv st w') : Z p l e R s m args below meth c D A nL cells slots Q pc lv st w := fun H locs ls hP hD hS hv => k H locs ls (hP.sub is (z_fm _ _ _ h2)) (hD.sub is h1 h2) hS hv
theorem Z.widen {k n : Nat} (h1 : cells ≤ k) (h2 : slots ≤ n) (kk : Z p l e R s m args below meth c D A nL k n Q pc lv st w) : Z p l e R s m args below meth c D A nL cells slots Q pc lv st w := fun H locs ls hP hD hS hv => W.widen h1 h2 (kk H locs ls hP hD hS hv)
theorem Z.iret (hX : Zf p m c cc nL s args own D tys A) {mc ms : Nat} {post : Int32 → va_W → Prop} {v : Int32} (hr : meth.sig.returnType = some .int) (hlk : meth.locks = false) (hd : decode cc pc = .ok (.ireturn, 1)) (h : post v w) : Z p l e R s m args below meth c D A nL mc ms (MQ below (QI D tys post A) args s mc ms A) pc lv [.int v] w := fun H locs ls hP hD hS hv => W.iret hX.1 hX.2.1 hr (fun t ht hW => ⟨⟨v, w, rfl, h, by rw [ht]; exact hP, va_K.moved hW.alike hX.2.2.2.2.2.1, hD⟩, hS.F ht⟩) hS.2.2 hd hlk
theorem Z.zret (hX : Zf p m c cc nL s args own D tys A) {mc ms : Nat} {post : Int32 → va_W → Prop} {v : Int32} (hr : meth.sig.returnType = some .boolean) (hlk : meth.locks = false) (hd : decode cc pc = .ok (.ireturn, 1)) (hn : narrow .boolean (.int v) = .int v) (h : post v w) : Z p l e R s m args below meth c D A nL mc ms (MQ below (QI D tys post A) args s mc ms A) pc lv [.int v] w := fun H locs ls hP hD hS hv => W.zret hX.1 hX.2.1 hr hn (fun t ht hW => ⟨⟨v, w, rfl, h, by rw [ht]; exact hP, va_K.moved hW.alike hX.2.2.2.2.2.1, hD⟩, hS.F ht⟩) hS.2.2 hd hlk
theorem Z.lret (hX : Zf p m c cc nL s args own D tys A) {mc ms : Nat} {post : Int64 → va_W → Prop} {v : Int64} (hr : meth.sig.returnType = some .long) (hlk : meth.locks = false) (hd : decode cc pc = .ok (.lreturn, 1)) (h : post v w) : Z p l e R s m args below meth c D A nL mc ms (MQ below (QL D tys post A) args s mc ms A) pc lv [.long v] w := fun H locs ls hP hD hS hv => W.lret hX.1 hX.2.1 hr (fun t ht hW => ⟨⟨v, w, rfl, h, by rw [ht]; exact hP, va_K.moved hW.alike hX.2.2.2.2.2.1, hD⟩, hS.F ht⟩) hS.2.2 hd hlk
theorem Z.vret (hX : Zf p m c cc nL s args own D tys A) {mc ms : Nat} {post : va_W → Prop} (hr : meth.sig.returnType = none) (hlk : meth.locks = false) (hd : decode cc pc = .ok (.return_, 1)) (h : post w) : Z p l e R s m args below meth c D A nL mc ms (MQ below (QV D tys post A) args s mc ms A) pc lv [] w := fun H locs ls hP hD hS hv => W.vret hX.1 hX.2.1 hr (fun t ht hW => ⟨⟨w, rfl, h, by rw [ht]; exact hP, va_K.moved hW.alike hX.2.2.2.2.2.1, hD⟩, hS.F ht⟩) hS.2.2 hd hlk
theorem Z.callSi (hX : Zf p m c cc nL s args own D tys A) {y : MethodName} {bytes : ByteArray} {maxL mc ms index : Nat} {ret : Option FieldType} {rm : Room} {As rest : List Value} {wc wr : va_W} {post : Int32 → va_W → Prop}  (hM : Ct l y bytes maxL ret rm mc ms D tys As wc (QI D tys post)) (hcode : Cond.code y bytes maxL ret ∈ lw_g) (hlk : Cond.methodLink own index y ∈ lw_g) (hst : Cond.static y ∈ lw_g) (hini : Cond.initialized y.cls ∈ lw_g) (hdd : y.cls ≠ "java/lang/invoke/MethodHandle" ∧ y.cls ≠ "java/lang/invoke/VarHandle" ∧ (parseMethodDescriptor y.desc).map (fun d => d.parameters.length) = some As.length) (hR : rm.frames + 1 ≤ R.frames ∧ 8 + (maxL + 11) + rm.locals ≤ R.locals) (hcs : rm.cells = mc ∧ rm.slots = ms) (hroom : cells + mc ≤ R.cells ∧ slots + ms ≤ R.slots) (isC isR : List Nat) (hC : isC.map (fun i => w[i]?) = wc.map some) (hRr : isR.map (fun i => w[i]?) = wr.map some) (hnc : va_nd isC = true) (hnd : va_nd isR = true) (hdis : ∀ i ∈ isR, i ∉ isC) (hstk : st = As.reverse ++ rest) (hcat : (rest.map fun v => v.category).sum ≤ 8) (hd : decode cc pc = .ok (.invokestatic index, 3)) (k : ∀ (r : Int32) (w1 : va_W), post r w1 → Z p l e R s m args below meth c D A nL (cells + mc) (slots + ms) Q (pc + 3) lv (.int r :: rest) (wr ++ w1)) : Z p l e R s m args below meth c D A nL cells slots Q pc lv st w := by
  intro H locs ls hP hD hS hv
  obtain ⟨hx, hb, hml, hown, hts, hK, hA, hN⟩ := id hX
  have hPc := hP.sub isC (z_fm _ _ _ hC)
  have hDc := hD.sub isC hnc hC
  have hFc := va_free (wc := wc) hD hS hA isC hC
  have hCB : CallB R s args own index y bytes maxL ret (.code y bytes maxL ret :: lw_g) rm mc ms As.length := callB_of As.length hts (z_goodC hcode) rfl hcs.1 hcs.2 (hts _ hini) (hts _ hlk) hdd hR
  refine va_calli (va_runS (As := As) (rest := rest) ⟨hx, hb, hml, hown, hts⟩ (hM H.size) ⟨hCB, hts _ hst⟩ ⟨fun a U g mk q => by obtain ⟨q0, q1, qP, qK, qD, qN⟩ := q; exact ⟨q0, q1, qP, va_K.moved (u := U) (U := U.calling g mk a) (Vm.Alike.refl U.vm) qK, qD, NW.same qN rfl⟩, fun U hU hW => ⟨rfl, by rw [hU], by rw [hU]; exact hPc, va_K.moved hW.alike hK, hDc.weaken (fun _ _ _ _ => trivial), hN.warm hW⟩⟩ rfl rfl hv.1 hstk (lv_room hcat) hd hroom) hS (fun q _ h => hFc q h) hFc (fun r u t H1 locs1 ht hvm hw hB hz1 hk1 hS1 => ?_)
  obtain ⟨hP1, hK1, hD1⟩ := hB
  rw [ht] at hP1
  obtain ⟨hP2, hD2⟩ := va_join (wr := wr) (w1 := u) hP hD isC isR hC hRr hnd hdis hk1 hFc hP1 hD1
  exact k r u hw H1 locs1 ls hP2 hD2 hS1 hv
theorem Z.callVi (hX : Zf p m c cc nL s args own D tys A) {y : MethodName} {bytes : ByteArray} {maxL mc ms index : Nat} {ret : Option FieldType} {rm : Room} {As rest : List Value} {wc wr : va_W} {post : Int32 → va_W → Prop} {C : String} {T : u_T} {N b : Nat} {fs : List Value} (ci qb : Nat) (hci : vwCl[ci]? = some (C, T, N)) (hqb : wc[qb]? = some (b, .inr (ci, fs))) (hM : Ct l y bytes maxL ret rm mc ms D tys (.ref b :: As) wc (QI D tys post)) (hcode : Cond.code y bytes maxL ret ∈ lw_g) (hlk : Cond.methodLink own index y ∈ lw_g) (hins : Cond.instanceMethod y ∈ lw_g) (hsel : Cond.selects C y y ∈ lw_g) (hini : Cond.initialized y.cls ∈ lw_g) (hdd : y.cls ≠ "java/lang/invoke/MethodHandle" ∧ y.cls ≠ "java/lang/invoke/VarHandle" ∧ (parseMethodDescriptor y.desc).map (fun d => d.parameters.length) = some As.length) (hR : rm.frames + 1 ≤ R.frames ∧ 8 + (maxL + 11) + rm.locals ≤ R.locals) (hcs : rm.cells = mc ∧ rm.slots = ms) (hroom : cells + mc ≤ R.cells ∧ slots + ms ≤ R.slots) (isC isR : List Nat) (hC : isC.map (fun i => w[i]?) = wc.map some) (hRr : isR.map (fun i => w[i]?) = wr.map some) (hnc : va_nd isC = true) (hnd : va_nd isR = true) (hdis : ∀ i ∈ isR, i ∉ isC) (hstk : st = As.reverse ++ .ref b :: rest) (hcat : (rest.map fun v => v.category).sum ≤ 8) (hd : decode cc pc = .ok (.invokevirtual index, 3)) (k : ∀ (r : Int32) (w1 : va_W), post r w1 → Z p l e R s m args below meth c D A nL (cells + mc) (slots + ms) Q (pc + 3) lv (.int r :: rest) (wr ++ w1)) : Z p l e R s m args below meth c D A nL cells slots Q pc lv st w := by
  intro H locs ls hP hD hS hv
  obtain ⟨hx, hb, hml, hown, hts, hK, hA, hN⟩ := id hX
  have hPc := hP.sub isC (z_fm _ _ _ hC)
  have hDc := hD.sub isC hnc hC
  have hFc := va_free (wc := wc) hD hS hA isC hC
  have hCB : CallB R s args own index y bytes maxL ret (.code y bytes maxL ret :: lw_g) rm mc ms As.length := callB_of As.length hts (z_goodC hcode) rfl hcs.1 hcs.2 (hts _ hini) (hts _ hlk) hdd hR
  refine va_calli (va_runV (C := C) (b := b) (As := As) (rest := rest) ⟨hx, hb, hml, hown, hts⟩ (hM H.size) ⟨hCB, hts _ hins, hts _ hsel⟩ ⟨fun a U g mk q => by obtain ⟨q0, q1, qP, qK, qD, qN⟩ := q; exact ⟨q0, q1, qP, va_K.moved (u := U) (U := U.calling g mk a) (Vm.Alike.refl U.vm) qK, qD, NW.same qN rfl⟩, va_recv hK hPc (ci := ci) (q0 := qb) hci hqb, fun U hU hW => ⟨rfl, by rw [hU], by rw [hU]; exact hPc, va_K.moved hW.alike hK, hDc.weaken (fun _ _ _ _ => trivial), hN.warm hW⟩⟩ rfl rfl hv.1 hstk (lv_room hcat) hd hroom) hS (fun q _ h => hFc q h) hFc (fun r u t H1 locs1 ht hvm hw hB hz1 hk1 hS1 => ?_)
  obtain ⟨hP1, hK1, hD1⟩ := hB
  rw [ht] at hP1
  obtain ⟨hP2, hD2⟩ := va_join (wr := wr) (w1 := u) hP hD isC isR hC hRr hnd hdis hk1 hFc hP1 hD1
  exact k r u hw H1 locs1 ls hP2 hD2 hS1 hv
theorem Z.callSl (hX : Zf p m c cc nL s args own D tys A) {y : MethodName} {bytes : ByteArray} {maxL mc ms index : Nat} {ret : Option FieldType} {rm : Room} {As rest : List Value} {wc wr : va_W} {post : Int64 → va_W → Prop}  (hM : Ct l y bytes maxL ret rm mc ms D tys As wc (QL D tys post)) (hcode : Cond.code y bytes maxL ret ∈ lw_g) (hlk : Cond.methodLink own index y ∈ lw_g) (hst : Cond.static y ∈ lw_g) (hini : Cond.initialized y.cls ∈ lw_g) (hdd : y.cls ≠ "java/lang/invoke/MethodHandle" ∧ y.cls ≠ "java/lang/invoke/VarHandle" ∧ (parseMethodDescriptor y.desc).map (fun d => d.parameters.length) = some As.length) (hR : rm.frames + 1 ≤ R.frames ∧ 8 + (maxL + 11) + rm.locals ≤ R.locals) (hcs : rm.cells = mc ∧ rm.slots = ms) (hroom : cells + mc ≤ R.cells ∧ slots + ms ≤ R.slots) (isC isR : List Nat) (hC : isC.map (fun i => w[i]?) = wc.map some) (hRr : isR.map (fun i => w[i]?) = wr.map some) (hnc : va_nd isC = true) (hnd : va_nd isR = true) (hdis : ∀ i ∈ isR, i ∉ isC) (hstk : st = As.reverse ++ rest) (hcat : (rest.map fun v => v.category).sum ≤ 8) (hd : decode cc pc = .ok (.invokestatic index, 3)) (k : ∀ (r : Int64) (w1 : va_W), post r w1 → Z p l e R s m args below meth c D A nL (cells + mc) (slots + ms) Q (pc + 3) lv (.long r :: rest) (wr ++ w1)) : Z p l e R s m args below meth c D A nL cells slots Q pc lv st w := by
  intro H locs ls hP hD hS hv
  obtain ⟨hx, hb, hml, hown, hts, hK, hA, hN⟩ := id hX
  have hPc := hP.sub isC (z_fm _ _ _ hC)
  have hDc := hD.sub isC hnc hC
  have hFc := va_free (wc := wc) hD hS hA isC hC
  have hCB : CallB R s args own index y bytes maxL ret (.code y bytes maxL ret :: lw_g) rm mc ms As.length := callB_of As.length hts (z_goodC hcode) rfl hcs.1 hcs.2 (hts _ hini) (hts _ hlk) hdd hR
  refine va_calll (va_runS (As := As) (rest := rest) ⟨hx, hb, hml, hown, hts⟩ (hM H.size) ⟨hCB, hts _ hst⟩ ⟨fun a U g mk q => by obtain ⟨q0, q1, qP, qK, qD, qN⟩ := q; exact ⟨q0, q1, qP, va_K.moved (u := U) (U := U.calling g mk a) (Vm.Alike.refl U.vm) qK, qD, NW.same qN rfl⟩, fun U hU hW => ⟨rfl, by rw [hU], by rw [hU]; exact hPc, va_K.moved hW.alike hK, hDc.weaken (fun _ _ _ _ => trivial), hN.warm hW⟩⟩ rfl rfl hv.1 hstk (lv_room hcat) hd hroom) hS (fun q _ h => hFc q h) hFc (fun r u t H1 locs1 ht hvm hw hB hz1 hk1 hS1 => ?_)
  obtain ⟨hP1, hK1, hD1⟩ := hB
  rw [ht] at hP1
  obtain ⟨hP2, hD2⟩ := va_join (wr := wr) (w1 := u) hP hD isC isR hC hRr hnd hdis hk1 hFc hP1 hD1
  exact k r u hw H1 locs1 ls hP2 hD2 hS1 hv
theorem Z.callVl (hX : Zf p m c cc nL s args own D tys A) {y : MethodName} {bytes : ByteArray} {maxL mc ms index : Nat} {ret : Option FieldType} {rm : Room} {As rest : List Value} {wc wr : va_W} {post : Int64 → va_W → Prop} {C : String} {T : u_T} {N b : Nat} {fs : List Value} (ci qb : Nat) (hci : vwCl[ci]? = some (C, T, N)) (hqb : wc[qb]? = some (b, .inr (ci, fs))) (hM : Ct l y bytes maxL ret rm mc ms D tys (.ref b :: As) wc (QL D tys post)) (hcode : Cond.code y bytes maxL ret ∈ lw_g) (hlk : Cond.methodLink own index y ∈ lw_g) (hins : Cond.instanceMethod y ∈ lw_g) (hsel : Cond.selects C y y ∈ lw_g) (hini : Cond.initialized y.cls ∈ lw_g) (hdd : y.cls ≠ "java/lang/invoke/MethodHandle" ∧ y.cls ≠ "java/lang/invoke/VarHandle" ∧ (parseMethodDescriptor y.desc).map (fun d => d.parameters.length) = some As.length) (hR : rm.frames + 1 ≤ R.frames ∧ 8 + (maxL + 11) + rm.locals ≤ R.locals) (hcs : rm.cells = mc ∧ rm.slots = ms) (hroom : cells + mc ≤ R.cells ∧ slots + ms ≤ R.slots) (isC isR : List Nat) (hC : isC.map (fun i => w[i]?) = wc.map some) (hRr : isR.map (fun i => w[i]?) = wr.map some) (hnc : va_nd isC = true) (hnd : va_nd isR = true) (hdis : ∀ i ∈ isR, i ∉ isC) (hstk : st = As.reverse ++ .ref b :: rest) (hcat : (rest.map fun v => v.category).sum ≤ 8) (hd : decode cc pc = .ok (.invokevirtual index, 3)) (k : ∀ (r : Int64) (w1 : va_W), post r w1 → Z p l e R s m args below meth c D A nL (cells + mc) (slots + ms) Q (pc + 3) lv (.long r :: rest) (wr ++ w1)) : Z p l e R s m args below meth c D A nL cells slots Q pc lv st w := by
  intro H locs ls hP hD hS hv
  obtain ⟨hx, hb, hml, hown, hts, hK, hA, hN⟩ := id hX
  have hPc := hP.sub isC (z_fm _ _ _ hC)
  have hDc := hD.sub isC hnc hC
  have hFc := va_free (wc := wc) hD hS hA isC hC
  have hCB : CallB R s args own index y bytes maxL ret (.code y bytes maxL ret :: lw_g) rm mc ms As.length := callB_of As.length hts (z_goodC hcode) rfl hcs.1 hcs.2 (hts _ hini) (hts _ hlk) hdd hR
  refine va_calll (va_runV (C := C) (b := b) (As := As) (rest := rest) ⟨hx, hb, hml, hown, hts⟩ (hM H.size) ⟨hCB, hts _ hins, hts _ hsel⟩ ⟨fun a U g mk q => by obtain ⟨q0, q1, qP, qK, qD, qN⟩ := q; exact ⟨q0, q1, qP, va_K.moved (u := U) (U := U.calling g mk a) (Vm.Alike.refl U.vm) qK, qD, NW.same qN rfl⟩, va_recv hK hPc (ci := ci) (q0 := qb) hci hqb, fun U hU hW => ⟨rfl, by rw [hU], by rw [hU]; exact hPc, va_K.moved hW.alike hK, hDc.weaken (fun _ _ _ _ => trivial), hN.warm hW⟩⟩ rfl rfl hv.1 hstk (lv_room hcat) hd hroom) hS (fun q _ h => hFc q h) hFc (fun r u t H1 locs1 ht hvm hw hB hz1 hk1 hS1 => ?_)
  obtain ⟨hP1, hK1, hD1⟩ := hB
  rw [ht] at hP1
  obtain ⟨hP2, hD2⟩ := va_join (wr := wr) (w1 := u) hP hD isC isR hC hRr hnd hdis hk1 hFc hP1 hD1
  exact k r u hw H1 locs1 ls hP2 hD2 hS1 hv
theorem Z.callSv (hX : Zf p m c cc nL s args own D tys A) {y : MethodName} {bytes : ByteArray} {maxL mc ms index : Nat} {ret : Option FieldType} {rm : Room} {As rest : List Value} {wc wr : va_W} {post : va_W → Prop}  (hM : Ct l y bytes maxL ret rm mc ms D tys As wc (QV D tys post)) (hcode : Cond.code y bytes maxL ret ∈ lw_g) (hlk : Cond.methodLink own index y ∈ lw_g) (hst : Cond.static y ∈ lw_g) (hini : Cond.initialized y.cls ∈ lw_g) (hdd : y.cls ≠ "java/lang/invoke/MethodHandle" ∧ y.cls ≠ "java/lang/invoke/VarHandle" ∧ (parseMethodDescriptor y.desc).map (fun d => d.parameters.length) = some As.length) (hR : rm.frames + 1 ≤ R.frames ∧ 8 + (maxL + 11) + rm.locals ≤ R.locals) (hcs : rm.cells = mc ∧ rm.slots = ms) (hroom : cells + mc ≤ R.cells ∧ slots + ms ≤ R.slots) (isC isR : List Nat) (hC : isC.map (fun i => w[i]?) = wc.map some) (hRr : isR.map (fun i => w[i]?) = wr.map some) (hnc : va_nd isC = true) (hnd : va_nd isR = true) (hdis : ∀ i ∈ isR, i ∉ isC) (hstk : st = As.reverse ++ rest) (hcat : (rest.map fun v => v.category).sum ≤ 8) (hd : decode cc pc = .ok (.invokestatic index, 3)) (k : ∀ (w1 : va_W), post w1 → Z p l e R s m args below meth c D A nL (cells + mc) (slots + ms) Q (pc + 3) lv (rest) (wr ++ w1)) : Z p l e R s m args below meth c D A nL cells slots Q pc lv st w := by
  intro H locs ls hP hD hS hv
  obtain ⟨hx, hb, hml, hown, hts, hK, hA, hN⟩ := id hX
  have hPc := hP.sub isC (z_fm _ _ _ hC)
  have hDc := hD.sub isC hnc hC
  have hFc := va_free (wc := wc) hD hS hA isC hC
  have hCB : CallB R s args own index y bytes maxL ret (.code y bytes maxL ret :: lw_g) rm mc ms As.length := callB_of As.length hts (z_goodC hcode) rfl hcs.1 hcs.2 (hts _ hini) (hts _ hlk) hdd hR
  refine va_callv (va_runS (As := As) (rest := rest) ⟨hx, hb, hml, hown, hts⟩ (hM H.size) ⟨hCB, hts _ hst⟩ ⟨fun a U g mk q => by obtain ⟨q0, q1, qP, qK, qD, qN⟩ := q; exact ⟨q0, q1, qP, va_K.moved (u := U) (U := U.calling g mk a) (Vm.Alike.refl U.vm) qK, qD, NW.same qN rfl⟩, fun U hU hW => ⟨rfl, by rw [hU], by rw [hU]; exact hPc, va_K.moved hW.alike hK, hDc.weaken (fun _ _ _ _ => trivial), hN.warm hW⟩⟩ rfl rfl hv.1 hstk (lv_room hcat) hd hroom) hS (fun q _ h => hFc q h) hFc (fun u t H1 locs1 ht hvm hw hB hz1 hk1 hS1 => ?_)
  obtain ⟨hP1, hK1, hD1⟩ := hB
  rw [ht] at hP1
  obtain ⟨hP2, hD2⟩ := va_join (wr := wr) (w1 := u) hP hD isC isR hC hRr hnd hdis hk1 hFc hP1 hD1
  exact k u hw H1 locs1 ls hP2 hD2 hS1 hv
theorem Z.callVv (hX : Zf p m c cc nL s args own D tys A) {y : MethodName} {bytes : ByteArray} {maxL mc ms index : Nat} {ret : Option FieldType} {rm : Room} {As rest : List Value} {wc wr : va_W} {post : va_W → Prop} {C : String} {T : u_T} {N b : Nat} {fs : List Value} (ci qb : Nat) (hci : vwCl[ci]? = some (C, T, N)) (hqb : wc[qb]? = some (b, .inr (ci, fs))) (hM : Ct l y bytes maxL ret rm mc ms D tys (.ref b :: As) wc (QV D tys post)) (hcode : Cond.code y bytes maxL ret ∈ lw_g) (hlk : Cond.methodLink own index y ∈ lw_g) (hins : Cond.instanceMethod y ∈ lw_g) (hsel : Cond.selects C y y ∈ lw_g) (hini : Cond.initialized y.cls ∈ lw_g) (hdd : y.cls ≠ "java/lang/invoke/MethodHandle" ∧ y.cls ≠ "java/lang/invoke/VarHandle" ∧ (parseMethodDescriptor y.desc).map (fun d => d.parameters.length) = some As.length) (hR : rm.frames + 1 ≤ R.frames ∧ 8 + (maxL + 11) + rm.locals ≤ R.locals) (hcs : rm.cells = mc ∧ rm.slots = ms) (hroom : cells + mc ≤ R.cells ∧ slots + ms ≤ R.slots) (isC isR : List Nat) (hC : isC.map (fun i => w[i]?) = wc.map some) (hRr : isR.map (fun i => w[i]?) = wr.map some) (hnc : va_nd isC = true) (hnd : va_nd isR = true) (hdis : ∀ i ∈ isR, i ∉ isC) (hstk : st = As.reverse ++ .ref b :: rest) (hcat : (rest.map fun v => v.category).sum ≤ 8) (hd : decode cc pc = .ok (.invokevirtual index, 3)) (k : ∀ (w1 : va_W), post w1 → Z p l e R s m args below meth c D A nL (cells + mc) (slots + ms) Q (pc + 3) lv (rest) (wr ++ w1)) : Z p l e R s m args below meth c D A nL cells slots Q pc lv st w := by
  intro H locs ls hP hD hS hv
  obtain ⟨hx, hb, hml, hown, hts, hK, hA, hN⟩ := id hX
  have hPc := hP.sub isC (z_fm _ _ _ hC)
  have hDc := hD.sub isC hnc hC
  have hFc := va_free (wc := wc) hD hS hA isC hC
  have hCB : CallB R s args own index y bytes maxL ret (.code y bytes maxL ret :: lw_g) rm mc ms As.length := callB_of As.length hts (z_goodC hcode) rfl hcs.1 hcs.2 (hts _ hini) (hts _ hlk) hdd hR
  refine va_callv (va_runV (C := C) (b := b) (As := As) (rest := rest) ⟨hx, hb, hml, hown, hts⟩ (hM H.size) ⟨hCB, hts _ hins, hts _ hsel⟩ ⟨fun a U g mk q => by obtain ⟨q0, q1, qP, qK, qD, qN⟩ := q; exact ⟨q0, q1, qP, va_K.moved (u := U) (U := U.calling g mk a) (Vm.Alike.refl U.vm) qK, qD, NW.same qN rfl⟩, va_recv hK hPc (ci := ci) (q0 := qb) hci hqb, fun U hU hW => ⟨rfl, by rw [hU], by rw [hU]; exact hPc, va_K.moved hW.alike hK, hDc.weaken (fun _ _ _ _ => trivial), hN.warm hW⟩⟩ rfl rfl hv.1 hstk (lv_room hcat) hd hroom) hS (fun q _ h => hFc q h) hFc (fun u t H1 locs1 ht hvm hw hB hz1 hk1 hS1 => ?_)
  obtain ⟨hP1, hK1, hD1⟩ := hB
  rw [ht] at hP1
  obtain ⟨hP2, hD2⟩ := va_join (wr := wr) (w1 := u) hP hD isC isR hC hRr hnd hdis hk1 hFc hP1 hD1
  exact k u hw H1 locs1 ls hP2 hD2 hS1 hv
theorem Z.callIv (hX : Zf p m c cc nL s args own D tys A) {y : MethodName} {bytes : ByteArray} {maxL mc ms index : Nat} {ret : Option FieldType} {rm : Room} {As rest : List Value} {wc wr : va_W} {post : va_W → Prop} {b : Nat} (hM : Ct l y bytes maxL none rm mc ms D tys (.ref b :: As) wc (QV D tys post)) (hcode : Cond.code y bytes maxL none ∈ lw_g) (hlk : Cond.methodLink own index y ∈ lw_g) (hnm : y.name = "<init>") (hins : Cond.instanceMethod y ∈ lw_g) (hini : Cond.initialized y.cls ∈ lw_g) (hdd : y.cls ≠ "java/lang/invoke/MethodHandle" ∧ y.cls ≠ "java/lang/invoke/VarHandle" ∧ (parseMethodDescriptor y.desc).map (fun d => d.parameters.length) = some As.length) (hR : rm.frames + 1 ≤ R.frames ∧ 8 + (maxL + 11) + rm.locals ≤ R.locals) (hcs : rm.cells = mc ∧ rm.slots = ms) (hroom : cells + mc ≤ R.cells ∧ slots + ms ≤ R.slots) (isC isR : List Nat) (hC : isC.map (fun i => w[i]?) = wc.map some) (hRr : isR.map (fun i => w[i]?) = wr.map some) (hnc : va_nd isC = true) (hnd : va_nd isR = true) (hdis : ∀ i ∈ isR, i ∉ isC) (hstk : st = As.reverse ++ .ref b :: rest) (hcat : (rest.map fun v => v.category).sum ≤ 8) (hd : decode cc pc = .ok (.invokespecial index, 3)) (k : ∀ (w1 : va_W), post w1 → Z p l e R s m args below meth c D A nL (cells + mc) (slots + ms) Q (pc + 3) lv (rest) (wr ++ w1)) : Z p l e R s m args below meth c D A nL cells slots Q pc lv st w := by
  intro H locs ls hP hD hS hv
  obtain ⟨hx, hb, hml, hown, hts, hK, hA, hN⟩ := id hX
  have hPc := hP.sub isC (z_fm _ _ _ hC)
  have hDc := hD.sub isC hnc hC
  have hFc := va_free (wc := wc) hD hS hA isC hC
  have hCB : CallB R s args own index y bytes maxL none (.code y bytes maxL none :: lw_g) rm mc ms As.length := callB_of As.length hts (z_goodC hcode) rfl hcs.1 hcs.2 (hts _ hini) (hts _ hlk) hdd hR
  refine va_callv (va_runI (b := b) (As := As) (rest := rest) ⟨hx, hb, hml, hown, hts⟩ (hM H.size) ⟨hCB, hnm, hts _ hins⟩ ⟨fun a U g mk q => by obtain ⟨q0, q1, qP, qK, qD, qN⟩ := q; exact ⟨q0, q1, qP, va_K.moved (u := U) (U := U.calling g mk a) (Vm.Alike.refl U.vm) qK, qD, NW.same qN rfl⟩, fun U hU hW => ⟨rfl, by rw [hU], by rw [hU]; exact hPc, va_K.moved hW.alike hK, hDc.weaken (fun _ _ _ _ => trivial), hN.warm hW⟩⟩ rfl rfl hv.1 hstk (lv_room hcat) hd hroom) hS (fun q _ h => hFc q h) hFc (fun u t H1 locs1 ht hvm hw hB hz1 hk1 hS1 => ?_)
  obtain ⟨hP1, hK1, hD1⟩ := hB
  rw [ht] at hP1
  obtain ⟨hP2, hD2⟩ := va_join (wr := wr) (w1 := u) hP hD isC isR hC hRr hnd hdis hk1 hFc hP1 hD1
  exact k u hw H1 locs1 ls hP2 hD2 hS1 hv
end ZR3
end
section
theorem Ct.ofI {l : Launch} {y : MethodName} {cc : ByteArray} {nL : Nat} {rm : Room} {mc ms : Nat} {D : va_G} {tys : List (ClassId × FieldType)} {avs : List Value} {w : va_W} {post : Int32 → va_W → Prop} (hy : plainName y.cls = true) (hlen : (lg_sl avs).length ≤ nL)
    (body : ∀ (p : Program) (e : Env) (s : State) (m : MethodId) (args : Array Value) (below : List Frame) (meth : Method) (c : Code) (A : Nat → Prop) (Q : State → Prop), Zf p m c cc nL s args y.cls D tys A → meth.name = y.name → (∀ (pc : Nat) (lv : List (Nat × Value)) (v : Int32) (w1 : va_W), decode cc pc = .ok (.ireturn, 1) → post v w1 → Z p l e rm s m args below meth c D A nL mc ms Q pc lv [.int v] w1) → Z p l e rm s m args below meth c D A nL 0 0 Q 0 (lv_args 0 avs) [] w) : Ct l y cc nL (some .int) rm mc ms D tys avs w (QI D tys post) := by
  intro sz
  refine Met.ofW (cc := cc) (maxL := nL) (ret := (some .int)) hy rfl ?_
  intro p e s m args below meth c s₁ B hml hv
  obtain ⟨rfl, hsz, hP, hK, hD0, hN⟩ := hv
  subst hsz
  have hts := atoms_spec (ws := .code y cc nL (some .int) :: lw_g) B.pre
  have hX : Zf p m c cc nL s avs.toArray y.cls D tys (va_A w s.heap.size) := ⟨B.exec, B.bytes, hml, findClass_of_methodNamed B.named, fun x hx => hts x (List.mem_cons_of_mem _ hx), hK, fun q h => Or.inr h, hN⟩
  have hnm : meth.name = y.name := (name_of_methodNamed B.named B.method).1
  rw [lg_entry_eq]
  exact body p e s m avs.toArray below meth c (va_A w s.heap.size) _ hX hnm (fun pc lv v w1 hd h => Z.iret hX B.returns B.notSynchronized hd h) s.heap [] _ hP hD0.self va_S.rf (lv_entry avs hlen)
theorem Ct.ofB {l : Launch} {y : MethodName} {cc : ByteArray} {nL : Nat} {rm : Room} {mc ms : Nat} {D : va_G} {tys : List (ClassId × FieldType)} {avs : List Value} {w : va_W} {post : Int32 → va_W → Prop} (hy : plainName y.cls = true) (hlen : (lg_sl avs).length ≤ nL)
    (body : ∀ (p : Program) (e : Env) (s : State) (m : MethodId) (args : Array Value) (below : List Frame) (meth : Method) (c : Code) (A : Nat → Prop) (Q : State → Prop), Zf p m c cc nL s args y.cls D tys A → meth.name = y.name → (∀ (pc : Nat) (lv : List (Nat × Value)) (v : Int32) (w1 : va_W), decode cc pc = .ok (.ireturn, 1) → narrow .boolean (.int v) = .int v → post v w1 → Z p l e rm s m args below meth c D A nL mc ms Q pc lv [.int v] w1) → Z p l e rm s m args below meth c D A nL 0 0 Q 0 (lv_args 0 avs) [] w) : Ct l y cc nL (some .boolean) rm mc ms D tys avs w (QI D tys post) := by
  intro sz
  refine Met.ofW (cc := cc) (maxL := nL) (ret := (some .boolean)) hy rfl ?_
  intro p e s m args below meth c s₁ B hml hv
  obtain ⟨rfl, hsz, hP, hK, hD0, hN⟩ := hv
  subst hsz
  have hts := atoms_spec (ws := .code y cc nL (some .boolean) :: lw_g) B.pre
  have hX : Zf p m c cc nL s avs.toArray y.cls D tys (va_A w s.heap.size) := ⟨B.exec, B.bytes, hml, findClass_of_methodNamed B.named, fun x hx => hts x (List.mem_cons_of_mem _ hx), hK, fun q h => Or.inr h, hN⟩
  have hnm : meth.name = y.name := (name_of_methodNamed B.named B.method).1
  rw [lg_entry_eq]
  exact body p e s m avs.toArray below meth c (va_A w s.heap.size) _ hX hnm (fun pc lv v w1 hd hn h => Z.zret hX B.returns B.notSynchronized hd hn h) s.heap [] _ hP hD0.self va_S.rf (lv_entry avs hlen)
theorem Ct.ofL {l : Launch} {y : MethodName} {cc : ByteArray} {nL : Nat} {rm : Room} {mc ms : Nat} {D : va_G} {tys : List (ClassId × FieldType)} {avs : List Value} {w : va_W} {post : Int64 → va_W → Prop} (hy : plainName y.cls = true) (hlen : (lg_sl avs).length ≤ nL)
    (body : ∀ (p : Program) (e : Env) (s : State) (m : MethodId) (args : Array Value) (below : List Frame) (meth : Method) (c : Code) (A : Nat → Prop) (Q : State → Prop), Zf p m c cc nL s args y.cls D tys A → meth.name = y.name → (∀ (pc : Nat) (lv : List (Nat × Value)) (v : Int64) (w1 : va_W), decode cc pc = .ok (.lreturn, 1) → post v w1 → Z p l e rm s m args below meth c D A nL mc ms Q pc lv [.long v] w1) → Z p l e rm s m args below meth c D A nL 0 0 Q 0 (lv_args 0 avs) [] w) : Ct l y cc nL (some .long) rm mc ms D tys avs w (QL D tys post) := by
  intro sz
  refine Met.ofW (cc := cc) (maxL := nL) (ret := (some .long)) hy rfl ?_
  intro p e s m args below meth c s₁ B hml hv
  obtain ⟨rfl, hsz, hP, hK, hD0, hN⟩ := hv
  subst hsz
  have hts := atoms_spec (ws := .code y cc nL (some .long) :: lw_g) B.pre
  have hX : Zf p m c cc nL s avs.toArray y.cls D tys (va_A w s.heap.size) := ⟨B.exec, B.bytes, hml, findClass_of_methodNamed B.named, fun x hx => hts x (List.mem_cons_of_mem _ hx), hK, fun q h => Or.inr h, hN⟩
  have hnm : meth.name = y.name := (name_of_methodNamed B.named B.method).1
  rw [lg_entry_eq]
  exact body p e s m avs.toArray below meth c (va_A w s.heap.size) _ hX hnm (fun pc lv v w1 hd h => Z.lret hX B.returns B.notSynchronized hd h) s.heap [] _ hP hD0.self va_S.rf (lv_entry avs hlen)
theorem Ct.ofV {l : Launch} {y : MethodName} {cc : ByteArray} {nL : Nat} {rm : Room} {mc ms : Nat} {D : va_G} {tys : List (ClassId × FieldType)} {avs : List Value} {w : va_W} {post : va_W → Prop} (hy : plainName y.cls = true) (hlen : (lg_sl avs).length ≤ nL)
    (body : ∀ (p : Program) (e : Env) (s : State) (m : MethodId) (args : Array Value) (below : List Frame) (meth : Method) (c : Code) (A : Nat → Prop) (Q : State → Prop), Zf p m c cc nL s args y.cls D tys A → meth.name = y.name → (∀ (pc : Nat) (lv : List (Nat × Value)) (w1 : va_W), decode cc pc = .ok (.return_, 1) → post w1 → Z p l e rm s m args below meth c D A nL mc ms Q pc lv [] w1) → Z p l e rm s m args below meth c D A nL 0 0 Q 0 (lv_args 0 avs) [] w) : Ct l y cc nL none rm mc ms D tys avs w (QV D tys post) := by
  intro sz
  refine Met.ofW (cc := cc) (maxL := nL) (ret := none) hy rfl ?_
  intro p e s m args below meth c s₁ B hml hv
  obtain ⟨rfl, hsz, hP, hK, hD0, hN⟩ := hv
  subst hsz
  have hts := atoms_spec (ws := .code y cc nL none :: lw_g) B.pre
  have hX : Zf p m c cc nL s avs.toArray y.cls D tys (va_A w s.heap.size) := ⟨B.exec, B.bytes, hml, findClass_of_methodNamed B.named, fun x hx => hts x (List.mem_cons_of_mem _ hx), hK, fun q h => Or.inr h, hN⟩
  have hnm : meth.name = y.name := (name_of_methodNamed B.named B.method).1
  rw [lg_entry_eq]
  exact body p e s m avs.toArray below meth c (va_A w s.heap.size) _ hX hnm (fun pc lv w1 hd h => Z.vret hX B.returns B.notSynchronized hd h) s.heap [] _ hP hD0.self va_S.rf (lv_entry avs hlen)
theorem va_join1 {A0 : Nat → Prop} {D : va_G} {cl : List vw_C} {ws : va_W} {q a : Nat} {e0 e1 : va_E} {H H1 : Heap} (hP : va_P D cl ws H) (hD : va_D A0 ws) (hq : ws[q]? = some (a, e0)) (hk : ∀ x : Nat, x < H.size → ¬ va_A [(a, e0)] H.size x → H1[x]? = H[x]?) (hP1 : va_P D cl [(a, e1)] H1) : va_P D cl (ws.set q (a, e1)) H1 := by
  intro k x hx
  by_cases hkq : q = k
  · subst hkq
    have hl : q < ws.length := (List.getElem?_eq_some_iff.mp hq).1
    rw [List.getElem?_set_self hl] at hx
    cases hx
    exact hP1 0 _ rfl
  · rw [List.getElem?_set_ne hkq] at hx
    have h1 := hP k x hx
    refine h1.kept (hk x.1 h1.lt ?_)
    rintro (⟨j, e2, hj⟩ | h)
    · match j, hj with
      | 0, hj =>
        have hj2 : (a, e0) = (x.1, e2) := Option.some.inj hj
        have hax : x.1 = a := (Prod.mk.inj hj2).1.symm
        exact hkq (hD.1 q k (a, e0) x hq hx hax.symm)
      | j + 1, hj => cases hj
    · have := h1.lt
      omega
theorem z_rng {α : Type} : ∀ (w : List α), (List.range w.length).map (fun i => w[i]?) = w.map some := by
  intro w
  apply List.ext_getElem (by simp)
  intro i h1 h2
  simp at h1 h2 ⊢
theorem z_ndr (n : Nat) : va_nd (List.range n) = true := by
  have h : ∀ (l : List Nat), l.Nodup → va_nd l = true := by
    intro l hl
    induction l with
    | nil => rfl
    | cons a r ih =>
      have h2 := List.nodup_cons.mp hl
      simp [va_nd, ih h2.2, h2.1]
  exact h _ List.nodup_range
section ZR4
variable {p : Program} {l : Launch} {e : Env} {R : Room} {s : State} {m : MethodId} {args : Array Value} {below : List Frame} {meth : Method} {c : Code} {D : va_G} {A : Nat → Prop} {nL cells slots : Nat} {Q : State → Prop}
variable {cc : ByteArray} {own : String} {tys : List (ClassId × FieldType)} {pc : Nat} {lv : List (Nat × Value)} {st : List Value} {w : va_W}
theorem Z.pick {lv' : List (Nat × Value)} (ks : List Nat) (h : lv_pick lv ks = lv') (k : Z p l e R s m args below meth c D A nL cells slots Q pc lv' st w) : Z p l e R s m args below meth c D A nL cells slots Q pc lv st w := fun H locs ls hP hD hS hv => k H locs ls hP hD hS (lv_sub hv ks h)
theorem Z.callS0i (hX : Zf p m c cc nL s args own D tys A) {y : MethodName} {bytes : ByteArray} {maxL index : Nat} {ret : Option FieldType} {rm : Room} {As rest : List Value} {post : Int32 → va_W → Prop} (hM : Ct l y bytes maxL ret rm 0 0 D tys As [] (QI D tys post)) (hcode : Cond.code y bytes maxL ret ∈ lw_g) (hlk : Cond.methodLink own index y ∈ lw_g) (hst : Cond.static y ∈ lw_g) (hini : Cond.initialized y.cls ∈ lw_g) (hdd : y.cls ≠ "java/lang/invoke/MethodHandle" ∧ y.cls ≠ "java/lang/invoke/VarHandle" ∧ (parseMethodDescriptor y.desc).map (fun d => d.parameters.length) = some As.length) (hR : rm.frames + 1 ≤ R.frames ∧ 8 + (maxL + 11) + rm.locals ≤ R.locals) (hcs : rm.cells = 0 ∧ rm.slots = 0) (hroom : cells ≤ R.cells ∧ slots ≤ R.slots) (hstk : st = As.reverse ++ rest) (hcat : (rest.map fun v => v.category).sum ≤ 8) (hd : decode cc pc = .ok (.invokestatic index, 3)) (k : ∀ (r : Int32) (w1 : va_W), post r w1 → w1 = [] ∧ Z p l e R s m args below meth c D A nL cells slots Q (pc + 3) lv (.int r :: rest) w) : Z p l e R s m args below meth c D A nL cells slots Q pc lv st w :=
  Z.callSi hX hM hcode hlk hst hini hdd hR hcs hroom [] (List.range w.length) rfl (z_rng w) rfl (z_ndr _) (fun _ _ h => by cases h) hstk hcat hd (fun r w1 h => by
    obtain ⟨h1, h2⟩ := k r w1 h
    rw [h1, List.append_nil]
    exact h2)
theorem Z.callSfi (hX : Zf p m c cc nL s args own D tys A) {y : MethodName} {bytes : ByteArray} {maxL index : Nat} {ret : Option FieldType} {rm : Room} {As rest : List Value} {post : Int32 → va_W → Prop}  (hM : Ct l y bytes maxL ret rm 0 0 D tys As w (QI D tys post)) (hcode : Cond.code y bytes maxL ret ∈ lw_g) (hlk : Cond.methodLink own index y ∈ lw_g) (hst : Cond.static y ∈ lw_g) (hini : Cond.initialized y.cls ∈ lw_g) (hdd : y.cls ≠ "java/lang/invoke/MethodHandle" ∧ y.cls ≠ "java/lang/invoke/VarHandle" ∧ (parseMethodDescriptor y.desc).map (fun d => d.parameters.length) = some As.length) (hR : rm.frames + 1 ≤ R.frames ∧ 8 + (maxL + 11) + rm.locals ≤ R.locals) (hcs : rm.cells = 0 ∧ rm.slots = 0) (hroom : cells ≤ R.cells ∧ slots ≤ R.slots) (hstk : st = As.reverse ++ rest) (hcat : (rest.map fun v => v.category).sum ≤ 8) (hd : decode cc pc = .ok (.invokestatic index, 3)) (k : ∀ (r : Int32) (w1 : va_W), post r w1 → Z p l e R s m args below meth c D A nL cells slots Q (pc + 3) lv (.int r :: rest) w1) : Z p l e R s m args below meth c D A nL cells slots Q pc lv st w :=
  Z.callSi (wr := []) hX hM hcode hlk hst hini hdd hR hcs hroom (List.range w.length) [] (z_rng w) rfl (z_ndr _) rfl (fun _ h => by cases h) hstk hcat hd (fun r w1 h => k r w1 h)
theorem Z.callVfi (hX : Zf p m c cc nL s args own D tys A) {y : MethodName} {bytes : ByteArray} {maxL index : Nat} {ret : Option FieldType} {rm : Room} {As rest : List Value} {post : Int32 → va_W → Prop} {C : String} {T : u_T} {N b : Nat} {fs : List Value} (ci qb : Nat) (hci : vwCl[ci]? = some (C, T, N)) (hqb : w[qb]? = some (b, .inr (ci, fs))) (hM : Ct l y bytes maxL ret rm 0 0 D tys (.ref b :: As) w (QI D tys post)) (hcode : Cond.code y bytes maxL ret ∈ lw_g) (hlk : Cond.methodLink own index y ∈ lw_g) (hins : Cond.instanceMethod y ∈ lw_g) (hsel : Cond.selects C y y ∈ lw_g) (hini : Cond.initialized y.cls ∈ lw_g) (hdd : y.cls ≠ "java/lang/invoke/MethodHandle" ∧ y.cls ≠ "java/lang/invoke/VarHandle" ∧ (parseMethodDescriptor y.desc).map (fun d => d.parameters.length) = some As.length) (hR : rm.frames + 1 ≤ R.frames ∧ 8 + (maxL + 11) + rm.locals ≤ R.locals) (hcs : rm.cells = 0 ∧ rm.slots = 0) (hroom : cells ≤ R.cells ∧ slots ≤ R.slots) (hstk : st = As.reverse ++ .ref b :: rest) (hcat : (rest.map fun v => v.category).sum ≤ 8) (hd : decode cc pc = .ok (.invokevirtual index, 3)) (k : ∀ (r : Int32) (w1 : va_W), post r w1 → Z p l e R s m args below meth c D A nL cells slots Q (pc + 3) lv (.int r :: rest) w1) : Z p l e R s m args below meth c D A nL cells slots Q pc lv st w :=
  Z.callVi (wr := []) hX ci qb hci hqb hM hcode hlk hins hsel hini hdd hR hcs hroom (List.range w.length) [] (z_rng w) rfl (z_ndr _) rfl (fun _ h => by cases h) hstk hcat hd (fun r w1 h => k r w1 h)
theorem Z.callS1i (hX : Zf p m c cc nL s args own D tys A) {y : MethodName} {bytes : ByteArray} {maxL index : Nat} {ret : Option FieldType} {rm : Room} {As rest : List Value} {post : Int32 → va_W → Prop} (q0 : Nat) {a0 : Nat} {e0 : va_E} (hq0 : w[q0]? = some (a0, e0)) (hM : Ct l y bytes maxL ret rm 0 0 D tys As [(a0, e0)] (QI D tys post)) (hcode : Cond.code y bytes maxL ret ∈ lw_g) (hlk : Cond.methodLink own index y ∈ lw_g) (hst : Cond.static y ∈ lw_g) (hini : Cond.initialized y.cls ∈ lw_g) (hdd : y.cls ≠ "java/lang/invoke/MethodHandle" ∧ y.cls ≠ "java/lang/invoke/VarHandle" ∧ (parseMethodDescriptor y.desc).map (fun d => d.parameters.length) = some As.length) (hR : rm.frames + 1 ≤ R.frames ∧ 8 + (maxL + 11) + rm.locals ≤ R.locals) (hcs : rm.cells = 0 ∧ rm.slots = 0) (hroom : cells ≤ R.cells ∧ slots ≤ R.slots) (hstk : st = As.reverse ++ rest) (hcat : (rest.map fun v => v.category).sum ≤ 8) (hd : decode cc pc = .ok (.invokestatic index, 3)) (k : ∀ (r : Int32) (w1 : va_W), post r w1 → ∃ e1, w1 = [(a0, e1)] ∧ Z p l e R s m args below meth c D A nL cells slots Q (pc + 3) lv (.int r :: rest) (w.set q0 (a0, e1))) : Z p l e R s m args below meth c D A nL cells slots Q pc lv st w := by
  intro H locs ls hP hD hS hv
  obtain ⟨hx, hb, hml, hown, hts, hK, hA, hN⟩ := id hX
  have hC : [q0].map (fun i => w[i]?) = ([(a0, e0)] : va_W).map some := by rw [List.map_cons, hq0]; rfl
  have hPc := hP.sub [q0] (z_fm _ _ _ hC)
  have hDc := hD.sub [q0] rfl hC
  have hFc := va_free (wc := [(a0, e0)]) hD hS hA [q0] hC
  have hCB : CallB R s args own index y bytes maxL ret (.code y bytes maxL ret :: lw_g) rm 0 0 As.length := callB_of As.length hts (z_goodC hcode) rfl hcs.1 hcs.2 (hts _ hini) (hts _ hlk) hdd hR
  refine va_calli (va_runS (As := As) (rest := rest) ⟨hx, hb, hml, hown, hts⟩ (hM H.size) ⟨hCB, hts _ hst⟩ ⟨fun a U g mk q => by obtain ⟨q0, q1, qP, qK, qD, qN⟩ := q; exact ⟨q0, q1, qP, va_K.moved (u := U) (U := U.calling g mk a) (Vm.Alike.refl U.vm) qK, qD, NW.same qN rfl⟩, fun U hU hW => ⟨rfl, by rw [hU], by rw [hU]; exact hPc, va_K.moved hW.alike hK, hDc.weaken (fun _ _ _ _ => trivial), hN.warm hW⟩⟩ rfl rfl hv.1 hstk (lv_room hcat) hd hroom) hS (fun q _ h => hFc q h) hFc (fun r u t H1 locs1 ht hvm hw hB hz1 hk1 hS1 => ?_)
  obtain ⟨hP1, hK1, hD1⟩ := hB
  rw [ht] at hP1
  obtain ⟨e1, rfl, hk⟩ := k r u hw
  exact hk H1 locs1 ls (va_join1 hP hD hq0 hk1 hP1) (hD.set hq0) hS1 hv
theorem Z.callS0l (hX : Zf p m c cc nL s args own D tys A) {y : MethodName} {bytes : ByteArray} {maxL index : Nat} {ret : Option FieldType} {rm : Room} {As rest : List Value} {post : Int64 → va_W → Prop} (hM : Ct l y bytes maxL ret rm 0 0 D tys As [] (QL D tys post)) (hcode : Cond.code y bytes maxL ret ∈ lw_g) (hlk : Cond.methodLink own index y ∈ lw_g) (hst : Cond.static y ∈ lw_g) (hini : Cond.initialized y.cls ∈ lw_g) (hdd : y.cls ≠ "java/lang/invoke/MethodHandle" ∧ y.cls ≠ "java/lang/invoke/VarHandle" ∧ (parseMethodDescriptor y.desc).map (fun d => d.parameters.length) = some As.length) (hR : rm.frames + 1 ≤ R.frames ∧ 8 + (maxL + 11) + rm.locals ≤ R.locals) (hcs : rm.cells = 0 ∧ rm.slots = 0) (hroom : cells ≤ R.cells ∧ slots ≤ R.slots) (hstk : st = As.reverse ++ rest) (hcat : (rest.map fun v => v.category).sum ≤ 8) (hd : decode cc pc = .ok (.invokestatic index, 3)) (k : ∀ (r : Int64) (w1 : va_W), post r w1 → w1 = [] ∧ Z p l e R s m args below meth c D A nL cells slots Q (pc + 3) lv (.long r :: rest) w) : Z p l e R s m args below meth c D A nL cells slots Q pc lv st w :=
  Z.callSl hX hM hcode hlk hst hini hdd hR hcs hroom [] (List.range w.length) rfl (z_rng w) rfl (z_ndr _) (fun _ _ h => by cases h) hstk hcat hd (fun r w1 h => by
    obtain ⟨h1, h2⟩ := k r w1 h
    rw [h1, List.append_nil]
    exact h2)
theorem Z.callSfl (hX : Zf p m c cc nL s args own D tys A) {y : MethodName} {bytes : ByteArray} {maxL index : Nat} {ret : Option FieldType} {rm : Room} {As rest : List Value} {post : Int64 → va_W → Prop}  (hM : Ct l y bytes maxL ret rm 0 0 D tys As w (QL D tys post)) (hcode : Cond.code y bytes maxL ret ∈ lw_g) (hlk : Cond.methodLink own index y ∈ lw_g) (hst : Cond.static y ∈ lw_g) (hini : Cond.initialized y.cls ∈ lw_g) (hdd : y.cls ≠ "java/lang/invoke/MethodHandle" ∧ y.cls ≠ "java/lang/invoke/VarHandle" ∧ (parseMethodDescriptor y.desc).map (fun d => d.parameters.length) = some As.length) (hR : rm.frames + 1 ≤ R.frames ∧ 8 + (maxL + 11) + rm.locals ≤ R.locals) (hcs : rm.cells = 0 ∧ rm.slots = 0) (hroom : cells ≤ R.cells ∧ slots ≤ R.slots) (hstk : st = As.reverse ++ rest) (hcat : (rest.map fun v => v.category).sum ≤ 8) (hd : decode cc pc = .ok (.invokestatic index, 3)) (k : ∀ (r : Int64) (w1 : va_W), post r w1 → Z p l e R s m args below meth c D A nL cells slots Q (pc + 3) lv (.long r :: rest) w1) : Z p l e R s m args below meth c D A nL cells slots Q pc lv st w :=
  Z.callSl (wr := []) hX hM hcode hlk hst hini hdd hR hcs hroom (List.range w.length) [] (z_rng w) rfl (z_ndr _) rfl (fun _ h => by cases h) hstk hcat hd (fun r w1 h => k r w1 h)
theorem Z.callVfl (hX : Zf p m c cc nL s args own D tys A) {y : MethodName} {bytes : ByteArray} {maxL index : Nat} {ret : Option FieldType} {rm : Room} {As rest : List Value} {post : Int64 → va_W → Prop} {C : String} {T : u_T} {N b : Nat} {fs : List Value} (ci qb : Nat) (hci : vwCl[ci]? = some (C, T, N)) (hqb : w[qb]? = some (b, .inr (ci, fs))) (hM : Ct l y bytes maxL ret rm 0 0 D tys (.ref b :: As) w (QL D tys post)) (hcode : Cond.code y bytes maxL ret ∈ lw_g) (hlk : Cond.methodLink own index y ∈ lw_g) (hins : Cond.instanceMethod y ∈ lw_g) (hsel : Cond.selects C y y ∈ lw_g) (hini : Cond.initialized y.cls ∈ lw_g) (hdd : y.cls ≠ "java/lang/invoke/MethodHandle" ∧ y.cls ≠ "java/lang/invoke/VarHandle" ∧ (parseMethodDescriptor y.desc).map (fun d => d.parameters.length) = some As.length) (hR : rm.frames + 1 ≤ R.frames ∧ 8 + (maxL + 11) + rm.locals ≤ R.locals) (hcs : rm.cells = 0 ∧ rm.slots = 0) (hroom : cells ≤ R.cells ∧ slots ≤ R.slots) (hstk : st = As.reverse ++ .ref b :: rest) (hcat : (rest.map fun v => v.category).sum ≤ 8) (hd : decode cc pc = .ok (.invokevirtual index, 3)) (k : ∀ (r : Int64) (w1 : va_W), post r w1 → Z p l e R s m args below meth c D A nL cells slots Q (pc + 3) lv (.long r :: rest) w1) : Z p l e R s m args below meth c D A nL cells slots Q pc lv st w :=
  Z.callVl (wr := []) hX ci qb hci hqb hM hcode hlk hins hsel hini hdd hR hcs hroom (List.range w.length) [] (z_rng w) rfl (z_ndr _) rfl (fun _ h => by cases h) hstk hcat hd (fun r w1 h => k r w1 h)
theorem Z.callS1l (hX : Zf p m c cc nL s args own D tys A) {y : MethodName} {bytes : ByteArray} {maxL index : Nat} {ret : Option FieldType} {rm : Room} {As rest : List Value} {post : Int64 → va_W → Prop} (q0 : Nat) {a0 : Nat} {e0 : va_E} (hq0 : w[q0]? = some (a0, e0)) (hM : Ct l y bytes maxL ret rm 0 0 D tys As [(a0, e0)] (QL D tys post)) (hcode : Cond.code y bytes maxL ret ∈ lw_g) (hlk : Cond.methodLink own index y ∈ lw_g) (hst : Cond.static y ∈ lw_g) (hini : Cond.initialized y.cls ∈ lw_g) (hdd : y.cls ≠ "java/lang/invoke/MethodHandle" ∧ y.cls ≠ "java/lang/invoke/VarHandle" ∧ (parseMethodDescriptor y.desc).map (fun d => d.parameters.length) = some As.length) (hR : rm.frames + 1 ≤ R.frames ∧ 8 + (maxL + 11) + rm.locals ≤ R.locals) (hcs : rm.cells = 0 ∧ rm.slots = 0) (hroom : cells ≤ R.cells ∧ slots ≤ R.slots) (hstk : st = As.reverse ++ rest) (hcat : (rest.map fun v => v.category).sum ≤ 8) (hd : decode cc pc = .ok (.invokestatic index, 3)) (k : ∀ (r : Int64) (w1 : va_W), post r w1 → ∃ e1, w1 = [(a0, e1)] ∧ Z p l e R s m args below meth c D A nL cells slots Q (pc + 3) lv (.long r :: rest) (w.set q0 (a0, e1))) : Z p l e R s m args below meth c D A nL cells slots Q pc lv st w := by
  intro H locs ls hP hD hS hv
  obtain ⟨hx, hb, hml, hown, hts, hK, hA, hN⟩ := id hX
  have hC : [q0].map (fun i => w[i]?) = ([(a0, e0)] : va_W).map some := by rw [List.map_cons, hq0]; rfl
  have hPc := hP.sub [q0] (z_fm _ _ _ hC)
  have hDc := hD.sub [q0] rfl hC
  have hFc := va_free (wc := [(a0, e0)]) hD hS hA [q0] hC
  have hCB : CallB R s args own index y bytes maxL ret (.code y bytes maxL ret :: lw_g) rm 0 0 As.length := callB_of As.length hts (z_goodC hcode) rfl hcs.1 hcs.2 (hts _ hini) (hts _ hlk) hdd hR
  refine va_calll (va_runS (As := As) (rest := rest) ⟨hx, hb, hml, hown, hts⟩ (hM H.size) ⟨hCB, hts _ hst⟩ ⟨fun a U g mk q => by obtain ⟨q0, q1, qP, qK, qD, qN⟩ := q; exact ⟨q0, q1, qP, va_K.moved (u := U) (U := U.calling g mk a) (Vm.Alike.refl U.vm) qK, qD, NW.same qN rfl⟩, fun U hU hW => ⟨rfl, by rw [hU], by rw [hU]; exact hPc, va_K.moved hW.alike hK, hDc.weaken (fun _ _ _ _ => trivial), hN.warm hW⟩⟩ rfl rfl hv.1 hstk (lv_room hcat) hd hroom) hS (fun q _ h => hFc q h) hFc (fun r u t H1 locs1 ht hvm hw hB hz1 hk1 hS1 => ?_)
  obtain ⟨hP1, hK1, hD1⟩ := hB
  rw [ht] at hP1
  obtain ⟨e1, rfl, hk⟩ := k r u hw
  exact hk H1 locs1 ls (va_join1 hP hD hq0 hk1 hP1) (hD.set hq0) hS1 hv
theorem Z.callS0v (hX : Zf p m c cc nL s args own D tys A) {y : MethodName} {bytes : ByteArray} {maxL index : Nat} {ret : Option FieldType} {rm : Room} {As rest : List Value} {post : va_W → Prop} (hM : Ct l y bytes maxL ret rm 0 0 D tys As [] (QV D tys post)) (hcode : Cond.code y bytes maxL ret ∈ lw_g) (hlk : Cond.methodLink own index y ∈ lw_g) (hst : Cond.static y ∈ lw_g) (hini : Cond.initialized y.cls ∈ lw_g) (hdd : y.cls ≠ "java/lang/invoke/MethodHandle" ∧ y.cls ≠ "java/lang/invoke/VarHandle" ∧ (parseMethodDescriptor y.desc).map (fun d => d.parameters.length) = some As.length) (hR : rm.frames + 1 ≤ R.frames ∧ 8 + (maxL + 11) + rm.locals ≤ R.locals) (hcs : rm.cells = 0 ∧ rm.slots = 0) (hroom : cells ≤ R.cells ∧ slots ≤ R.slots) (hstk : st = As.reverse ++ rest) (hcat : (rest.map fun v => v.category).sum ≤ 8) (hd : decode cc pc = .ok (.invokestatic index, 3)) (k : ∀ (w1 : va_W), post w1 → w1 = [] ∧ Z p l e R s m args below meth c D A nL cells slots Q (pc + 3) lv (rest) w) : Z p l e R s m args below meth c D A nL cells slots Q pc lv st w :=
  Z.callSv hX hM hcode hlk hst hini hdd hR hcs hroom [] (List.range w.length) rfl (z_rng w) rfl (z_ndr _) (fun _ _ h => by cases h) hstk hcat hd (fun w1 h => by
    obtain ⟨h1, h2⟩ := k w1 h
    rw [h1, List.append_nil]
    exact h2)
theorem Z.callSfv (hX : Zf p m c cc nL s args own D tys A) {y : MethodName} {bytes : ByteArray} {maxL index : Nat} {ret : Option FieldType} {rm : Room} {As rest : List Value} {post : va_W → Prop}  (hM : Ct l y bytes maxL ret rm 0 0 D tys As w (QV D tys post)) (hcode : Cond.code y bytes maxL ret ∈ lw_g) (hlk : Cond.methodLink own index y ∈ lw_g) (hst : Cond.static y ∈ lw_g) (hini : Cond.initialized y.cls ∈ lw_g) (hdd : y.cls ≠ "java/lang/invoke/MethodHandle" ∧ y.cls ≠ "java/lang/invoke/VarHandle" ∧ (parseMethodDescriptor y.desc).map (fun d => d.parameters.length) = some As.length) (hR : rm.frames + 1 ≤ R.frames ∧ 8 + (maxL + 11) + rm.locals ≤ R.locals) (hcs : rm.cells = 0 ∧ rm.slots = 0) (hroom : cells ≤ R.cells ∧ slots ≤ R.slots) (hstk : st = As.reverse ++ rest) (hcat : (rest.map fun v => v.category).sum ≤ 8) (hd : decode cc pc = .ok (.invokestatic index, 3)) (k : ∀ (w1 : va_W), post w1 → Z p l e R s m args below meth c D A nL cells slots Q (pc + 3) lv (rest) w1) : Z p l e R s m args below meth c D A nL cells slots Q pc lv st w :=
  Z.callSv (wr := []) hX hM hcode hlk hst hini hdd hR hcs hroom (List.range w.length) [] (z_rng w) rfl (z_ndr _) rfl (fun _ h => by cases h) hstk hcat hd (fun w1 h => k w1 h)
theorem Z.callVfv (hX : Zf p m c cc nL s args own D tys A) {y : MethodName} {bytes : ByteArray} {maxL index : Nat} {ret : Option FieldType} {rm : Room} {As rest : List Value} {post : va_W → Prop} {C : String} {T : u_T} {N b : Nat} {fs : List Value} (ci qb : Nat) (hci : vwCl[ci]? = some (C, T, N)) (hqb : w[qb]? = some (b, .inr (ci, fs))) (hM : Ct l y bytes maxL ret rm 0 0 D tys (.ref b :: As) w (QV D tys post)) (hcode : Cond.code y bytes maxL ret ∈ lw_g) (hlk : Cond.methodLink own index y ∈ lw_g) (hins : Cond.instanceMethod y ∈ lw_g) (hsel : Cond.selects C y y ∈ lw_g) (hini : Cond.initialized y.cls ∈ lw_g) (hdd : y.cls ≠ "java/lang/invoke/MethodHandle" ∧ y.cls ≠ "java/lang/invoke/VarHandle" ∧ (parseMethodDescriptor y.desc).map (fun d => d.parameters.length) = some As.length) (hR : rm.frames + 1 ≤ R.frames ∧ 8 + (maxL + 11) + rm.locals ≤ R.locals) (hcs : rm.cells = 0 ∧ rm.slots = 0) (hroom : cells ≤ R.cells ∧ slots ≤ R.slots) (hstk : st = As.reverse ++ .ref b :: rest) (hcat : (rest.map fun v => v.category).sum ≤ 8) (hd : decode cc pc = .ok (.invokevirtual index, 3)) (k : ∀ (w1 : va_W), post w1 → Z p l e R s m args below meth c D A nL cells slots Q (pc + 3) lv (rest) w1) : Z p l e R s m args below meth c D A nL cells slots Q pc lv st w :=
  Z.callVv (wr := []) hX ci qb hci hqb hM hcode hlk hins hsel hini hdd hR hcs hroom (List.range w.length) [] (z_rng w) rfl (z_ndr _) rfl (fun _ h => by cases h) hstk hcat hd (fun w1 h => k w1 h)
theorem Z.callS1v (hX : Zf p m c cc nL s args own D tys A) {y : MethodName} {bytes : ByteArray} {maxL index : Nat} {ret : Option FieldType} {rm : Room} {As rest : List Value} {post : va_W → Prop} (q0 : Nat) {a0 : Nat} {e0 : va_E} (hq0 : w[q0]? = some (a0, e0)) (hM : Ct l y bytes maxL ret rm 0 0 D tys As [(a0, e0)] (QV D tys post)) (hcode : Cond.code y bytes maxL ret ∈ lw_g) (hlk : Cond.methodLink own index y ∈ lw_g) (hst : Cond.static y ∈ lw_g) (hini : Cond.initialized y.cls ∈ lw_g) (hdd : y.cls ≠ "java/lang/invoke/MethodHandle" ∧ y.cls ≠ "java/lang/invoke/VarHandle" ∧ (parseMethodDescriptor y.desc).map (fun d => d.parameters.length) = some As.length) (hR : rm.frames + 1 ≤ R.frames ∧ 8 + (maxL + 11) + rm.locals ≤ R.locals) (hcs : rm.cells = 0 ∧ rm.slots = 0) (hroom : cells ≤ R.cells ∧ slots ≤ R.slots) (hstk : st = As.reverse ++ rest) (hcat : (rest.map fun v => v.category).sum ≤ 8) (hd : decode cc pc = .ok (.invokestatic index, 3)) (k : ∀ (w1 : va_W), post w1 → ∃ e1, w1 = [(a0, e1)] ∧ Z p l e R s m args below meth c D A nL cells slots Q (pc + 3) lv (rest) (w.set q0 (a0, e1))) : Z p l e R s m args below meth c D A nL cells slots Q pc lv st w := by
  intro H locs ls hP hD hS hv
  obtain ⟨hx, hb, hml, hown, hts, hK, hA, hN⟩ := id hX
  have hC : [q0].map (fun i => w[i]?) = ([(a0, e0)] : va_W).map some := by rw [List.map_cons, hq0]; rfl
  have hPc := hP.sub [q0] (z_fm _ _ _ hC)
  have hDc := hD.sub [q0] rfl hC
  have hFc := va_free (wc := [(a0, e0)]) hD hS hA [q0] hC
  have hCB : CallB R s args own index y bytes maxL ret (.code y bytes maxL ret :: lw_g) rm 0 0 As.length := callB_of As.length hts (z_goodC hcode) rfl hcs.1 hcs.2 (hts _ hini) (hts _ hlk) hdd hR
  refine va_callv (va_runS (As := As) (rest := rest) ⟨hx, hb, hml, hown, hts⟩ (hM H.size) ⟨hCB, hts _ hst⟩ ⟨fun a U g mk q => by obtain ⟨q0, q1, qP, qK, qD, qN⟩ := q; exact ⟨q0, q1, qP, va_K.moved (u := U) (U := U.calling g mk a) (Vm.Alike.refl U.vm) qK, qD, NW.same qN rfl⟩, fun U hU hW => ⟨rfl, by rw [hU], by rw [hU]; exact hPc, va_K.moved hW.alike hK, hDc.weaken (fun _ _ _ _ => trivial), hN.warm hW⟩⟩ rfl rfl hv.1 hstk (lv_room hcat) hd hroom) hS (fun q _ h => hFc q h) hFc (fun u t H1 locs1 ht hvm hw hB hz1 hk1 hS1 => ?_)
  obtain ⟨hP1, hK1, hD1⟩ := hB
  rw [ht] at hP1
  obtain ⟨e1, rfl, hk⟩ := k u hw
  exact hk H1 locs1 ls (va_join1 hP hD hq0 hk1 hP1) (hD.set hq0) hS1 hv
end ZR4
/-! the array classes, and the reference's cells -/
abbrev TY (ce : Nat → ClassId) : List (ClassId × FieldType) := [(ce 0, .int), (ce 1, .long), (ce 2, .boolean), (ce 3, .array .long), (ce 4, .object "EliminateLoci$Plane")]
def rW (ce : Nat → ClassId) (h : Nat → Nat) (F : Nat → Int) (I : Nat → Nat → Int32) (J : Nat → Nat → Int64) : va_W :=
  [(h 0, .inr (7, [.ref (h 1), .ref (h 2), .int (zI (F 0)), .int (zI (F 1)), .int (zI (F 2)), .ref (h 3), .ref (h 4), .ref (h 5), .ref (h 6), .ref (h 7), .ref (h 8), .ref (h 9), .ref (h 10), .ref (h 11), .ref (h 12), .ref (h 13), .ref (h 14)])),
   (h 1, .inl (ce 0, 15, .inl (I 0))), (h 2, .inl (ce 1, 15, .inr (.inl (J 0)))), (h 3, .inl (ce 2, 2, .inl (I 1))), (h 4, .inl (ce 1, 98, .inr (.inl (J 1)))), (h 5, .inl (ce 0, 2, .inl (I 2))), (h 6, .inl (ce 0, 2, .inl (I 3))),
   (h 7, .inl (ce 1, 5, .inr (.inl (J 2)))), (h 8, .inl (ce 1, 5, .inr (.inl (J 3)))), (h 9, .inl (ce 1, 192, .inr (.inl (J 4)))), (h 10, .inl (ce 1, 12544, .inr (.inl (J 5)))), (h 11, .inl (ce 1, 49, .inr (.inl (J 6)))), (h 12, .inl (ce 1, 49, .inr (.inl (J 7)))), (h 13, .inl (ce 1, 49, .inr (.inl (J 8)))), (h 14, .inl (ce 1, 49, .inr (.inl (J 9))))]
end
section
set_option maxRecDepth 100000 in
theorem ini_X7 : Cond.initialized RX7 ∈ lw_g := z_mem (k := 38) rfl rfl
theorem inX7 : ∀ x ∈ u_ws RX7 TX7 17, x ∈ lw_g := by
  have h : (u_ws RX7 TX7 17).all (fun x => decide (x ∈ lw_tbl) && goodWord x) = true := by decide +kernel
  intro x hx
  have h1 := List.all_eq_true.mp h x hx
  simp only [Bool.and_eq_true, decide_eq_true_eq] at h1
  exact z_memD h1.1 h1.2
set_option maxRecDepth 100000 in
theorem fl_X7_7 : Cond.fieldLink RX7 7 "EliminateLociModel" "row" "[I" ∈ lw_g := z_mem (k := 461) rfl rfl
set_option maxRecDepth 100000 in
theorem fl_X7_13 : Cond.fieldLink RX7 13 "EliminateLociModel" "free" "[J" ∈ lw_g := z_mem (k := 462) rfl rfl
set_option maxRecDepth 100000 in
theorem fl_X7_70 : Cond.fieldLink RX7 70 "EliminateLociModel" "most" "I" ∈ lw_g := z_mem (k := 463) rfl rfl
set_option maxRecDepth 100000 in
theorem fl_X7_77 : Cond.fieldLink RX7 77 "EliminateLociModel" "freeMost" "I" ∈ lw_g := z_mem (k := 464) rfl rfl
set_option maxRecDepth 100000 in
theorem fl_X7_54 : Cond.fieldLink RX7 54 "EliminateLociModel" "known" "Z" ∈ lw_g := z_mem (k := 465) rfl rfl
set_option maxRecDepth 100000 in
theorem fl_X7_17 : Cond.fieldLink RX7 17 "EliminateLociModel" "has" "[Z" ∈ lw_g := z_mem (k := 466) rfl rfl
set_option maxRecDepth 100000 in
theorem fl_X7_21 : Cond.fieldLink RX7 21 "EliminateLociModel" "traces" "[J" ∈ lw_g := z_mem (k := 467) rfl rfl
set_option maxRecDepth 100000 in
theorem fl_X7_24 : Cond.fieldLink RX7 24 "EliminateLociModel" "degrees" "[I" ∈ lw_g := z_mem (k := 468) rfl rfl
set_option maxRecDepth 100000 in
theorem fl_X7_27 : Cond.fieldLink RX7 27 "EliminateLociModel" "powers" "[I" ∈ lw_g := z_mem (k := 469) rfl rfl
set_option maxRecDepth 100000 in
theorem fl_X7_30 : Cond.fieldLink RX7 30 "EliminateLociModel" "one" "[J" ∈ lw_g := z_mem (k := 470) rfl rfl
set_option maxRecDepth 100000 in
theorem fl_X7_33 : Cond.fieldLink RX7 33 "EliminateLociModel" "two" "[J" ∈ lw_g := z_mem (k := 471) rfl rfl
set_option maxRecDepth 100000 in
theorem fl_X7_36 : Cond.fieldLink RX7 36 "EliminateLociModel" "entries" "[J" ∈ lw_g := z_mem (k := 472) rfl rfl
set_option maxRecDepth 100000 in
theorem fl_X7_39 : Cond.fieldLink RX7 39 "EliminateLociModel" "minors" "[J" ∈ lw_g := z_mem (k := 473) rfl rfl
set_option maxRecDepth 100000 in
theorem fl_X7_42 : Cond.fieldLink RX7 42 "EliminateLociModel" "whole" "[J" ∈ lw_g := z_mem (k := 474) rfl rfl
set_option maxRecDepth 100000 in
theorem fl_X7_45 : Cond.fieldLink RX7 45 "EliminateLociModel" "root" "[J" ∈ lw_g := z_mem (k := 475) rfl rfl
set_option maxRecDepth 100000 in
theorem fl_X7_48 : Cond.fieldLink RX7 48 "EliminateLociModel" "power" "[J" ∈ lw_g := z_mem (k := 476) rfl rfl
set_option maxRecDepth 100000 in
theorem fl_X7_51 : Cond.fieldLink RX7 51 "EliminateLociModel" "other" "[J" ∈ lw_g := z_mem (k := 477) rfl rfl
set_option maxRecDepth 100000 in
theorem ml_X7_130 : Cond.methodLink RX7 130 yX7_work ∈ lw_g := z_mem (k := 527) rfl rfl
set_option maxRecDepth 100000 in
theorem ml_X7_74 : Cond.methodLink RX7 74 yX7_divisor ∈ lw_g := z_mem (k := 531) rfl rfl
set_option maxRecDepth 100000 in
theorem ml_X7_66 : Cond.methodLink RX7 66 yX7_reduce ∈ lw_g := z_mem (k := 535) rfl rfl
set_option maxRecDepth 100000 in
theorem ml_X7_58 : Cond.methodLink RX7 58 yX7_common ∈ lw_g := z_mem (k := 538) rfl rfl
set_option maxRecDepth 100000 in
theorem ml_X7_62 : Cond.methodLink RX7 62 yX7_degreeOf ∈ lw_g := z_mem (k := 541) rfl rfl
set_option maxRecDepth 100000 in
theorem ml_X7_80 : Cond.methodLink RX7 80 yX7_locus ∈ lw_g := z_mem (k := 544) rfl rfl
set_option maxRecDepth 100000 in
theorem ml_X7_90 : Cond.methodLink RX7 90 yX7_emptied ∈ lw_g := z_mem (k := 548) rfl rfl
set_option maxRecDepth 100000 in
theorem ml_X7_93 : Cond.methodLink RX7 93 yX7_entry ∈ lw_g := z_mem (k := 552) rfl rfl
set_option maxRecDepth 100000 in
theorem ml_X7_97 : Cond.methodLink RX7 97 yX7_minorsOf ∈ lw_g := z_mem (k := 556) rfl rfl
set_option maxRecDepth 100000 in
theorem ml_X7_86 : Cond.methodLink RX7 86 yX7_countOf ∈ lw_g := z_mem (k := 560) rfl rfl
set_option maxRecDepth 100000 in
theorem ml_X7_101 : Cond.methodLink RX7 101 yX7_tell ∈ lw_g := z_mem (k := 563) rfl rfl
set_option maxRecDepth 100000 in
theorem ml_X7_105 : Cond.methodLink RX7 105 yX7_degree2 ∈ lw_g := z_mem (k := 567) rfl rfl
set_option maxRecDepth 100000 in
theorem ml_X7_108 : Cond.methodLink RX7 108 yX7_firstOf ∈ lw_g := z_mem (k := 570) rfl rfl
set_option maxRecDepth 100000 in
theorem ml_X7_111 : Cond.methodLink RX7 111 yX7_isPower ∈ lw_g := z_mem (k := 573) rfl rfl
set_option maxRecDepth 100000 in
theorem ml_X7_123 : Cond.methodLink RX7 123 yX7_rootOf ∈ lw_g := z_mem (k := 577) rfl rfl
set_option maxRecDepth 100000 in
theorem co_X7_115 : Cond.constantLong RX7 115 (2000000000) ∈ lw_g := z_mem (k := 580) rfl rfl
set_option maxRecDepth 100000 in
theorem co_X7_117 : Cond.constantLong RX7 117 (2) ∈ lw_g := z_mem (k := 581) rfl rfl
set_option maxRecDepth 100000 in
theorem ml_X7_119 : Cond.methodLink RX7 119 yX7_isAbove ∈ lw_g := z_mem (k := 582) rfl rfl
set_option maxRecDepth 100000 in
theorem ml_X7_127 : Cond.methodLink RX7 127 yX7_raise ∈ lw_g := z_mem (k := 585) rfl rfl
set_option maxRecDepth 100000 in
theorem ml_X7_83 : Cond.methodLink RX7 83 yX7_envelope ∈ lw_g := z_mem (k := 589) rfl rfl
set_option maxRecDepth 100000 in
theorem co_X7_133 : Cond.constant RX7 133 (-1000000) ∈ lw_g := z_mem (k := 597) rfl rfl
set_option maxRecDepth 100000 in
theorem ml_X7_137 : Cond.methodLink RX7 137 yX7_isParameter ∈ lw_g := z_mem (k := 602) rfl rfl
set_option maxRecDepth 100000 in
theorem ml_X7_140 : Cond.methodLink RX7 140 yX7_valueOf ∈ lw_g := z_mem (k := 605) rfl rfl
set_option maxRecDepth 100000 in
theorem ml_X7_134 : Cond.methodLink RX7 134 yX7_raised ∈ lw_g := z_mem (k := 609) rfl rfl
set_option maxRecDepth 100000 in
theorem ml_X7_144 : Cond.methodLink RX7 144 yX7_isSort ∈ lw_g := z_mem (k := 616) rfl rfl
set_option maxRecDepth 100000 in
theorem ml_X7_148 : Cond.methodLink RX7 148 yX7_isPlace ∈ lw_g := z_mem (k := 631) rfl rfl
set_option maxRecDepth 100000 in
theorem co_X7_152 : Cond.constantLong RX7 152 (1073741823) ∈ lw_g := z_mem (k := 634) rfl rfl
set_option maxRecDepth 100000 in
theorem ml_X7_165 : Cond.methodLink RX7 165 yX7_isOn ∈ lw_g := z_mem (k := 643) rfl rfl
set_option maxRecDepth 100000 in
theorem co_X7_157 : Cond.constantLong RX7 157 (2147483647) ∈ lw_g := z_mem (k := 647) rfl rfl
set_option maxRecDepth 100000 in
theorem ml_X7_159 : Cond.methodLink RX7 159 yX7_traced ∈ lw_g := z_mem (k := 648) rfl rfl
set_option maxRecDepth 100000 in
theorem ml_X7_154 : Cond.methodLink RX7 154 yX7_rest ∈ lw_g := z_mem (k := 652) rfl rfl
set_option maxRecDepth 100000 in
theorem co_X7_163 : Cond.constantLong RX7 163 (2147483629) ∈ lw_g := z_mem (k := 655) rfl rfl
set_option maxRecDepth 100000 in
theorem ml_X7_169 : Cond.methodLink RX7 169 yX7_slope ∈ lw_g := z_mem (k := 660) rfl rfl
set_option maxRecDepth 100000 in
theorem mc_X7_init : Cond.code yX7_init cX7_init 1 none ∈ lw_g := z_mem (k := 459) rfl rfl
theorem nd_X7_init : yX7_init.cls ≠ "java/lang/invoke/MethodHandle" ∧ yX7_init.cls ≠ "java/lang/invoke/VarHandle" ∧ (parseMethodDescriptor yX7_init.desc).map (fun d => d.parameters.length) = some 0 := by decide +kernel
set_option maxRecDepth 100000 in
theorem im_X7_init : Cond.instanceMethod yX7_init ∈ lw_g := z_mem (k := 458) rfl rfl
set_option maxRecDepth 100000 in
theorem mc_X7_term : Cond.code yX7_term cX7_term 5 (some .int) ∈ lw_g := z_mem (k := 518) rfl rfl
theorem nd_X7_term : yX7_term.cls ≠ "java/lang/invoke/MethodHandle" ∧ yX7_term.cls ≠ "java/lang/invoke/VarHandle" ∧ (parseMethodDescriptor yX7_term.desc).map (fun d => d.parameters.length) = some 3 := by decide +kernel
set_option maxRecDepth 100000 in
theorem im_X7_term : Cond.instanceMethod yX7_term ∈ lw_g := z_mem (k := 516) rfl rfl
set_option maxRecDepth 100000 in
theorem se_X7_term : Cond.selects RX7 yX7_term yX7_term ∈ lw_g := z_mem (k := 517) rfl rfl
set_option maxRecDepth 100000 in
theorem mc_X7_clear : Cond.code yX7_clear cX7_clear 3 (some .int) ∈ lw_g := z_mem (k := 522) rfl rfl
theorem nd_X7_clear : yX7_clear.cls ≠ "java/lang/invoke/MethodHandle" ∧ yX7_clear.cls ≠ "java/lang/invoke/VarHandle" ∧ (parseMethodDescriptor yX7_clear.desc).map (fun d => d.parameters.length) = some 0 := by decide +kernel
set_option maxRecDepth 100000 in
theorem im_X7_clear : Cond.instanceMethod yX7_clear ∈ lw_g := z_mem (k := 520) rfl rfl
set_option maxRecDepth 100000 in
theorem se_X7_clear : Cond.selects RX7 yX7_clear yX7_clear ∈ lw_g := z_mem (k := 521) rfl rfl
set_option maxRecDepth 100000 in
theorem mc_X7_common : Cond.code yX7_common cX7_common 10 (some .long) ∈ lw_g := z_mem (k := 540) rfl rfl
theorem nd_X7_common : yX7_common.cls ≠ "java/lang/invoke/MethodHandle" ∧ yX7_common.cls ≠ "java/lang/invoke/VarHandle" ∧ (parseMethodDescriptor yX7_common.desc).map (fun d => d.parameters.length) = some 2 := by decide +kernel
set_option maxRecDepth 100000 in
theorem st_X7_common : Cond.static yX7_common ∈ lw_g := z_mem (k := 539) rfl rfl
set_option maxRecDepth 100000 in
theorem mc_X7_degreeOf : Cond.code yX7_degreeOf cX7_degreeOf 2 (some .int) ∈ lw_g := z_mem (k := 543) rfl rfl
theorem nd_X7_degreeOf : yX7_degreeOf.cls ≠ "java/lang/invoke/MethodHandle" ∧ yX7_degreeOf.cls ≠ "java/lang/invoke/VarHandle" ∧ (parseMethodDescriptor yX7_degreeOf.desc).map (fun d => d.parameters.length) = some 1 := by decide +kernel
set_option maxRecDepth 100000 in
theorem st_X7_degreeOf : Cond.static yX7_degreeOf ∈ lw_g := z_mem (k := 542) rfl rfl
set_option maxRecDepth 100000 in
theorem mc_X7_reduce : Cond.code yX7_reduce cX7_reduce 5 none ∈ lw_g := z_mem (k := 537) rfl rfl
theorem nd_X7_reduce : yX7_reduce.cls ≠ "java/lang/invoke/MethodHandle" ∧ yX7_reduce.cls ≠ "java/lang/invoke/VarHandle" ∧ (parseMethodDescriptor yX7_reduce.desc).map (fun d => d.parameters.length) = some 1 := by decide +kernel
set_option maxRecDepth 100000 in
theorem st_X7_reduce : Cond.static yX7_reduce ∈ lw_g := z_mem (k := 536) rfl rfl
set_option maxRecDepth 100000 in
theorem mc_X7_divisor : Cond.code yX7_divisor cX7_divisor 8 none ∈ lw_g := z_mem (k := 534) rfl rfl
theorem nd_X7_divisor : yX7_divisor.cls ≠ "java/lang/invoke/MethodHandle" ∧ yX7_divisor.cls ≠ "java/lang/invoke/VarHandle" ∧ (parseMethodDescriptor yX7_divisor.desc).map (fun d => d.parameters.length) = some 0 := by decide +kernel
set_option maxRecDepth 100000 in
theorem im_X7_divisor : Cond.instanceMethod yX7_divisor ∈ lw_g := z_mem (k := 533) rfl rfl
set_option maxRecDepth 100000 in
theorem se_X7_divisor : Cond.selects RX7 yX7_divisor yX7_divisor ∈ lw_g := z_mem (k := 17) rfl rfl
set_option maxRecDepth 100000 in
theorem mc_X7_work : Cond.code yX7_work cX7_work 7 none ∈ lw_g := z_mem (k := 530) rfl rfl
theorem nd_X7_work : yX7_work.cls ≠ "java/lang/invoke/MethodHandle" ∧ yX7_work.cls ≠ "java/lang/invoke/VarHandle" ∧ (parseMethodDescriptor yX7_work.desc).map (fun d => d.parameters.length) = some 0 := by decide +kernel
set_option maxRecDepth 100000 in
theorem im_X7_work : Cond.instanceMethod yX7_work ∈ lw_g := z_mem (k := 529) rfl rfl
set_option maxRecDepth 100000 in
theorem se_X7_work : Cond.selects RX7 yX7_work yX7_work ∈ lw_g := z_mem (k := 16) rfl rfl
set_option maxRecDepth 100000 in
theorem mc_X7_entry : Cond.code yX7_entry cX7_entry 9 none ∈ lw_g := z_mem (k := 555) rfl rfl
theorem nd_X7_entry : yX7_entry.cls ≠ "java/lang/invoke/MethodHandle" ∧ yX7_entry.cls ≠ "java/lang/invoke/VarHandle" ∧ (parseMethodDescriptor yX7_entry.desc).map (fun d => d.parameters.length) = some 5 := by decide +kernel
set_option maxRecDepth 100000 in
theorem im_X7_entry : Cond.instanceMethod yX7_entry ∈ lw_g := z_mem (k := 554) rfl rfl
set_option maxRecDepth 100000 in
theorem se_X7_entry : Cond.selects RX7 yX7_entry yX7_entry ∈ lw_g := z_mem (k := 20) rfl rfl
set_option maxRecDepth 100000 in
theorem mc_X7_emptied : Cond.code yX7_emptied cX7_emptied 2 none ∈ lw_g := z_mem (k := 551) rfl rfl
theorem nd_X7_emptied : yX7_emptied.cls ≠ "java/lang/invoke/MethodHandle" ∧ yX7_emptied.cls ≠ "java/lang/invoke/VarHandle" ∧ (parseMethodDescriptor yX7_emptied.desc).map (fun d => d.parameters.length) = some 0 := by decide +kernel
set_option maxRecDepth 100000 in
theorem im_X7_emptied : Cond.instanceMethod yX7_emptied ∈ lw_g := z_mem (k := 550) rfl rfl
set_option maxRecDepth 100000 in
theorem se_X7_emptied : Cond.selects RX7 yX7_emptied yX7_emptied ∈ lw_g := z_mem (k := 19) rfl rfl
set_option maxRecDepth 100000 in
theorem mc_X7_countOf : Cond.code yX7_countOf cX7_countOf 3 (some .int) ∈ lw_g := z_mem (k := 562) rfl rfl
theorem nd_X7_countOf : yX7_countOf.cls ≠ "java/lang/invoke/MethodHandle" ∧ yX7_countOf.cls ≠ "java/lang/invoke/VarHandle" ∧ (parseMethodDescriptor yX7_countOf.desc).map (fun d => d.parameters.length) = some 1 := by decide +kernel
set_option maxRecDepth 100000 in
theorem st_X7_countOf : Cond.static yX7_countOf ∈ lw_g := z_mem (k := 561) rfl rfl
set_option maxRecDepth 100000 in
theorem mc_X7_minorsOf : Cond.code yX7_minorsOf cX7_minorsOf 12 none ∈ lw_g := z_mem (k := 559) rfl rfl
theorem nd_X7_minorsOf : yX7_minorsOf.cls ≠ "java/lang/invoke/MethodHandle" ∧ yX7_minorsOf.cls ≠ "java/lang/invoke/VarHandle" ∧ (parseMethodDescriptor yX7_minorsOf.desc).map (fun d => d.parameters.length) = some 1 := by decide +kernel
set_option maxRecDepth 100000 in
theorem im_X7_minorsOf : Cond.instanceMethod yX7_minorsOf ∈ lw_g := z_mem (k := 558) rfl rfl
set_option maxRecDepth 100000 in
theorem se_X7_minorsOf : Cond.selects RX7 yX7_minorsOf yX7_minorsOf ∈ lw_g := z_mem (k := 21) rfl rfl
set_option maxRecDepth 100000 in
theorem mc_X7_locus : Cond.code yX7_locus cX7_locus 4 none ∈ lw_g := z_mem (k := 547) rfl rfl
theorem nd_X7_locus : yX7_locus.cls ≠ "java/lang/invoke/MethodHandle" ∧ yX7_locus.cls ≠ "java/lang/invoke/VarHandle" ∧ (parseMethodDescriptor yX7_locus.desc).map (fun d => d.parameters.length) = some 0 := by decide +kernel
set_option maxRecDepth 100000 in
theorem im_X7_locus : Cond.instanceMethod yX7_locus ∈ lw_g := z_mem (k := 546) rfl rfl
set_option maxRecDepth 100000 in
theorem se_X7_locus : Cond.selects RX7 yX7_locus yX7_locus ∈ lw_g := z_mem (k := 18) rfl rfl
set_option maxRecDepth 100000 in
theorem mc_X7_envelope : Cond.code yX7_envelope cX7_envelope 8 none ∈ lw_g := z_mem (k := 592) rfl rfl
theorem nd_X7_envelope : yX7_envelope.cls ≠ "java/lang/invoke/MethodHandle" ∧ yX7_envelope.cls ≠ "java/lang/invoke/VarHandle" ∧ (parseMethodDescriptor yX7_envelope.desc).map (fun d => d.parameters.length) = some 0 := by decide +kernel
set_option maxRecDepth 100000 in
theorem im_X7_envelope : Cond.instanceMethod yX7_envelope ∈ lw_g := z_mem (k := 591) rfl rfl
set_option maxRecDepth 100000 in
theorem se_X7_envelope : Cond.selects RX7 yX7_envelope yX7_envelope ∈ lw_g := z_mem (k := 25) rfl rfl
set_option maxRecDepth 100000 in
theorem mc_X7_degree2 : Cond.code yX7_degree2 cX7_degree2 4 (some .int) ∈ lw_g := z_mem (k := 569) rfl rfl
theorem nd_X7_degree2 : yX7_degree2.cls ≠ "java/lang/invoke/MethodHandle" ∧ yX7_degree2.cls ≠ "java/lang/invoke/VarHandle" ∧ (parseMethodDescriptor yX7_degree2.desc).map (fun d => d.parameters.length) = some 1 := by decide +kernel
set_option maxRecDepth 100000 in
theorem st_X7_degree2 : Cond.static yX7_degree2 ∈ lw_g := z_mem (k := 568) rfl rfl
set_option maxRecDepth 100000 in
theorem mc_X7_firstOf : Cond.code yX7_firstOf cX7_firstOf 3 (some .int) ∈ lw_g := z_mem (k := 572) rfl rfl
theorem nd_X7_firstOf : yX7_firstOf.cls ≠ "java/lang/invoke/MethodHandle" ∧ yX7_firstOf.cls ≠ "java/lang/invoke/VarHandle" ∧ (parseMethodDescriptor yX7_firstOf.desc).map (fun d => d.parameters.length) = some 1 := by decide +kernel
set_option maxRecDepth 100000 in
theorem st_X7_firstOf : Cond.static yX7_firstOf ∈ lw_g := z_mem (k := 571) rfl rfl
set_option maxRecDepth 100000 in
theorem mc_X7_tell : Cond.code yX7_tell cX7_tell 9 none ∈ lw_g := z_mem (k := 566) rfl rfl
theorem nd_X7_tell : yX7_tell.cls ≠ "java/lang/invoke/MethodHandle" ∧ yX7_tell.cls ≠ "java/lang/invoke/VarHandle" ∧ (parseMethodDescriptor yX7_tell.desc).map (fun d => d.parameters.length) = some 2 := by decide +kernel
set_option maxRecDepth 100000 in
theorem im_X7_tell : Cond.instanceMethod yX7_tell ∈ lw_g := z_mem (k := 565) rfl rfl
set_option maxRecDepth 100000 in
theorem se_X7_tell : Cond.selects RX7 yX7_tell yX7_tell ∈ lw_g := z_mem (k := 22) rfl rfl
set_option maxRecDepth 100000 in
theorem mc_X7_rootOf : Cond.code yX7_rootOf cX7_rootOf 10 (some .long) ∈ lw_g := z_mem (k := 579) rfl rfl
theorem nd_X7_rootOf : yX7_rootOf.cls ≠ "java/lang/invoke/MethodHandle" ∧ yX7_rootOf.cls ≠ "java/lang/invoke/VarHandle" ∧ (parseMethodDescriptor yX7_rootOf.desc).map (fun d => d.parameters.length) = some 2 := by decide +kernel
set_option maxRecDepth 100000 in
theorem st_X7_rootOf : Cond.static yX7_rootOf ∈ lw_g := z_mem (k := 578) rfl rfl
set_option maxRecDepth 100000 in
theorem mc_X7_isAbove : Cond.code yX7_isAbove cX7_isAbove 8 (some .boolean) ∈ lw_g := z_mem (k := 584) rfl rfl
theorem nd_X7_isAbove : yX7_isAbove.cls ≠ "java/lang/invoke/MethodHandle" ∧ yX7_isAbove.cls ≠ "java/lang/invoke/VarHandle" ∧ (parseMethodDescriptor yX7_isAbove.desc).map (fun d => d.parameters.length) = some 3 := by decide +kernel
set_option maxRecDepth 100000 in
theorem st_X7_isAbove : Cond.static yX7_isAbove ∈ lw_g := z_mem (k := 583) rfl rfl
set_option maxRecDepth 100000 in
theorem mc_X7_raise : Cond.code yX7_raise cX7_raise 5 none ∈ lw_g := z_mem (k := 588) rfl rfl
theorem nd_X7_raise : yX7_raise.cls ≠ "java/lang/invoke/MethodHandle" ∧ yX7_raise.cls ≠ "java/lang/invoke/VarHandle" ∧ (parseMethodDescriptor yX7_raise.desc).map (fun d => d.parameters.length) = some 1 := by decide +kernel
set_option maxRecDepth 100000 in
theorem im_X7_raise : Cond.instanceMethod yX7_raise ∈ lw_g := z_mem (k := 587) rfl rfl
set_option maxRecDepth 100000 in
theorem se_X7_raise : Cond.selects RX7 yX7_raise yX7_raise ∈ lw_g := z_mem (k := 24) rfl rfl
set_option maxRecDepth 100000 in
theorem mc_X7_isPower : Cond.code yX7_isPower cX7_isPower 18 (some .boolean) ∈ lw_g := z_mem (k := 576) rfl rfl
theorem nd_X7_isPower : yX7_isPower.cls ≠ "java/lang/invoke/MethodHandle" ∧ yX7_isPower.cls ≠ "java/lang/invoke/VarHandle" ∧ (parseMethodDescriptor yX7_isPower.desc).map (fun d => d.parameters.length) = some 2 := by decide +kernel
set_option maxRecDepth 100000 in
theorem im_X7_isPower : Cond.instanceMethod yX7_isPower ∈ lw_g := z_mem (k := 575) rfl rfl
set_option maxRecDepth 100000 in
theorem se_X7_isPower : Cond.selects RX7 yX7_isPower yX7_isPower ∈ lw_g := z_mem (k := 23) rfl rfl
set_option maxRecDepth 100000 in
theorem mc_X7_degree : Cond.code yX7_degree cX7_degree 2 (some .int) ∈ lw_g := z_mem (k := 526) rfl rfl
theorem nd_X7_degree : yX7_degree.cls ≠ "java/lang/invoke/MethodHandle" ∧ yX7_degree.cls ≠ "java/lang/invoke/VarHandle" ∧ (parseMethodDescriptor yX7_degree.desc).map (fun d => d.parameters.length) = some 1 := by decide +kernel
set_option maxRecDepth 100000 in
theorem im_X7_degree : Cond.instanceMethod yX7_degree ∈ lw_g := z_mem (k := 524) rfl rfl
set_option maxRecDepth 100000 in
theorem se_X7_degree : Cond.selects RX7 yX7_degree yX7_degree ∈ lw_g := z_mem (k := 525) rfl rfl
set_option maxRecDepth 100000 in
theorem mc_X7_freed : Cond.code yX7_freed cX7_freed 3 (some .int) ∈ lw_g := z_mem (k := 596) rfl rfl
theorem nd_X7_freed : yX7_freed.cls ≠ "java/lang/invoke/MethodHandle" ∧ yX7_freed.cls ≠ "java/lang/invoke/VarHandle" ∧ (parseMethodDescriptor yX7_freed.desc).map (fun d => d.parameters.length) = some 2 := by decide +kernel
set_option maxRecDepth 100000 in
theorem im_X7_freed : Cond.instanceMethod yX7_freed ∈ lw_g := z_mem (k := 594) rfl rfl
set_option maxRecDepth 100000 in
theorem se_X7_freed : Cond.selects RX7 yX7_freed yX7_freed ∈ lw_g := z_mem (k := 595) rfl rfl
set_option maxRecDepth 100000 in
theorem mc_X7_isParameter : Cond.code yX7_isParameter cX7_isParameter 2 (some .boolean) ∈ lw_g := z_mem (k := 604) rfl rfl
theorem nd_X7_isParameter : yX7_isParameter.cls ≠ "java/lang/invoke/MethodHandle" ∧ yX7_isParameter.cls ≠ "java/lang/invoke/VarHandle" ∧ (parseMethodDescriptor yX7_isParameter.desc).map (fun d => d.parameters.length) = some 2 := by decide +kernel
set_option maxRecDepth 100000 in
theorem st_X7_isParameter : Cond.static yX7_isParameter ∈ lw_g := z_mem (k := 603) rfl rfl
set_option maxRecDepth 100000 in
theorem mc_X7_raised : Cond.code yX7_raised cX7_raised 6 (some .long) ∈ lw_g := z_mem (k := 611) rfl rfl
theorem nd_X7_raised : yX7_raised.cls ≠ "java/lang/invoke/MethodHandle" ∧ yX7_raised.cls ≠ "java/lang/invoke/VarHandle" ∧ (parseMethodDescriptor yX7_raised.desc).map (fun d => d.parameters.length) = some 2 := by decide +kernel
set_option maxRecDepth 100000 in
theorem st_X7_raised : Cond.static yX7_raised ∈ lw_g := z_mem (k := 610) rfl rfl
set_option maxRecDepth 100000 in
theorem mc_X7_valueOf : Cond.code yX7_valueOf cX7_valueOf 7 (some .long) ∈ lw_g := z_mem (k := 608) rfl rfl
theorem nd_X7_valueOf : yX7_valueOf.cls ≠ "java/lang/invoke/MethodHandle" ∧ yX7_valueOf.cls ≠ "java/lang/invoke/VarHandle" ∧ (parseMethodDescriptor yX7_valueOf.desc).map (fun d => d.parameters.length) = some 3 := by decide +kernel
set_option maxRecDepth 100000 in
theorem im_X7_valueOf : Cond.instanceMethod yX7_valueOf ∈ lw_g := z_mem (k := 607) rfl rfl
set_option maxRecDepth 100000 in
theorem se_X7_valueOf : Cond.selects RX7 yX7_valueOf yX7_valueOf ∈ lw_g := z_mem (k := 26) rfl rfl
set_option maxRecDepth 100000 in
theorem mc_X7_value : Cond.code yX7_value cX7_value 6 (some .int) ∈ lw_g := z_mem (k := 601) rfl rfl
theorem nd_X7_value : yX7_value.cls ≠ "java/lang/invoke/MethodHandle" ∧ yX7_value.cls ≠ "java/lang/invoke/VarHandle" ∧ (parseMethodDescriptor yX7_value.desc).map (fun d => d.parameters.length) = some 3 := by decide +kernel
set_option maxRecDepth 100000 in
theorem im_X7_value : Cond.instanceMethod yX7_value ∈ lw_g := z_mem (k := 599) rfl rfl
set_option maxRecDepth 100000 in
theorem se_X7_value : Cond.selects RX7 yX7_value yX7_value ∈ lw_g := z_mem (k := 600) rfl rfl
set_option maxRecDepth 100000 in
theorem mc_X7_isSort : Cond.code yX7_isSort cX7_isSort 1 (some .boolean) ∈ lw_g := z_mem (k := 618) rfl rfl
theorem nd_X7_isSort : yX7_isSort.cls ≠ "java/lang/invoke/MethodHandle" ∧ yX7_isSort.cls ≠ "java/lang/invoke/VarHandle" ∧ (parseMethodDescriptor yX7_isSort.desc).map (fun d => d.parameters.length) = some 1 := by decide +kernel
set_option maxRecDepth 100000 in
theorem st_X7_isSort : Cond.static yX7_isSort ∈ lw_g := z_mem (k := 617) rfl rfl
set_option maxRecDepth 100000 in
theorem mc_X7_trace : Cond.code yX7_trace cX7_trace 2 (some .int) ∈ lw_g := z_mem (k := 615) rfl rfl
theorem nd_X7_trace : yX7_trace.cls ≠ "java/lang/invoke/MethodHandle" ∧ yX7_trace.cls ≠ "java/lang/invoke/VarHandle" ∧ (parseMethodDescriptor yX7_trace.desc).map (fun d => d.parameters.length) = some 1 := by decide +kernel
set_option maxRecDepth 100000 in
theorem im_X7_trace : Cond.instanceMethod yX7_trace ∈ lw_g := z_mem (k := 613) rfl rfl
set_option maxRecDepth 100000 in
theorem se_X7_trace : Cond.selects RX7 yX7_trace yX7_trace ∈ lw_g := z_mem (k := 614) rfl rfl
set_option maxRecDepth 100000 in
theorem mc_X7_times : Cond.code yX7_times cX7_times 2 (some .int) ∈ lw_g := z_mem (k := 622) rfl rfl
theorem nd_X7_times : yX7_times.cls ≠ "java/lang/invoke/MethodHandle" ∧ yX7_times.cls ≠ "java/lang/invoke/VarHandle" ∧ (parseMethodDescriptor yX7_times.desc).map (fun d => d.parameters.length) = some 1 := by decide +kernel
set_option maxRecDepth 100000 in
theorem im_X7_times : Cond.instanceMethod yX7_times ∈ lw_g := z_mem (k := 620) rfl rfl
set_option maxRecDepth 100000 in
theorem se_X7_times : Cond.selects RX7 yX7_times yX7_times ∈ lw_g := z_mem (k := 621) rfl rfl
set_option maxRecDepth 100000 in
theorem mc_X7_coefficient : Cond.code yX7_coefficient cX7_coefficient 4 (some .long) ∈ lw_g := z_mem (k := 626) rfl rfl
theorem nd_X7_coefficient : yX7_coefficient.cls ≠ "java/lang/invoke/MethodHandle" ∧ yX7_coefficient.cls ≠ "java/lang/invoke/VarHandle" ∧ (parseMethodDescriptor yX7_coefficient.desc).map (fun d => d.parameters.length) = some 3 := by decide +kernel
set_option maxRecDepth 100000 in
theorem im_X7_coefficient : Cond.instanceMethod yX7_coefficient ∈ lw_g := z_mem (k := 624) rfl rfl
set_option maxRecDepth 100000 in
theorem se_X7_coefficient : Cond.selects RX7 yX7_coefficient yX7_coefficient ∈ lw_g := z_mem (k := 625) rfl rfl
set_option maxRecDepth 100000 in
theorem mc_X7_isPlace : Cond.code yX7_isPlace cX7_isPlace 3 (some .boolean) ∈ lw_g := z_mem (k := 633) rfl rfl
theorem nd_X7_isPlace : yX7_isPlace.cls ≠ "java/lang/invoke/MethodHandle" ∧ yX7_isPlace.cls ≠ "java/lang/invoke/VarHandle" ∧ (parseMethodDescriptor yX7_isPlace.desc).map (fun d => d.parameters.length) = some 3 := by decide +kernel
set_option maxRecDepth 100000 in
theorem st_X7_isPlace : Cond.static yX7_isPlace ∈ lw_g := z_mem (k := 632) rfl rfl
set_option maxRecDepth 100000 in
theorem mc_X7_side : Cond.code yX7_side cX7_side 15 (some .int) ∈ lw_g := z_mem (k := 630) rfl rfl
theorem nd_X7_side : yX7_side.cls ≠ "java/lang/invoke/MethodHandle" ∧ yX7_side.cls ≠ "java/lang/invoke/VarHandle" ∧ (parseMethodDescriptor yX7_side.desc).map (fun d => d.parameters.length) = some 4 := by decide +kernel
set_option maxRecDepth 100000 in
theorem im_X7_side : Cond.instanceMethod yX7_side ∈ lw_g := z_mem (k := 628) rfl rfl
set_option maxRecDepth 100000 in
theorem se_X7_side : Cond.selects RX7 yX7_side yX7_side ∈ lw_g := z_mem (k := 629) rfl rfl
set_option maxRecDepth 100000 in
theorem mc_X7_at : Cond.code yX7_at cX7_at 8 (some .int) ∈ lw_g := z_mem (k := 638) rfl rfl
theorem nd_X7_at : yX7_at.cls ≠ "java/lang/invoke/MethodHandle" ∧ yX7_at.cls ≠ "java/lang/invoke/VarHandle" ∧ (parseMethodDescriptor yX7_at.desc).map (fun d => d.parameters.length) = some 5 := by decide +kernel
set_option maxRecDepth 100000 in
theorem im_X7_at : Cond.instanceMethod yX7_at ∈ lw_g := z_mem (k := 636) rfl rfl
set_option maxRecDepth 100000 in
theorem se_X7_at : Cond.selects RX7 yX7_at yX7_at ∈ lw_g := z_mem (k := 637) rfl rfl
set_option maxRecDepth 100000 in
theorem mc_X7_rest : Cond.code yX7_rest cX7_rest 4 (some .long) ∈ lw_g := z_mem (k := 654) rfl rfl
theorem nd_X7_rest : yX7_rest.cls ≠ "java/lang/invoke/MethodHandle" ∧ yX7_rest.cls ≠ "java/lang/invoke/VarHandle" ∧ (parseMethodDescriptor yX7_rest.desc).map (fun d => d.parameters.length) = some 2 := by decide +kernel
set_option maxRecDepth 100000 in
theorem st_X7_rest : Cond.static yX7_rest ∈ lw_g := z_mem (k := 653) rfl rfl
set_option maxRecDepth 100000 in
theorem mc_X7_traced : Cond.code yX7_traced cX7_traced 19 (some .long) ∈ lw_g := z_mem (k := 651) rfl rfl
theorem nd_X7_traced : yX7_traced.cls ≠ "java/lang/invoke/MethodHandle" ∧ yX7_traced.cls ≠ "java/lang/invoke/VarHandle" ∧ (parseMethodDescriptor yX7_traced.desc).map (fun d => d.parameters.length) = some 5 := by decide +kernel
set_option maxRecDepth 100000 in
theorem im_X7_traced : Cond.instanceMethod yX7_traced ∈ lw_g := z_mem (k := 650) rfl rfl
set_option maxRecDepth 100000 in
theorem se_X7_traced : Cond.selects RX7 yX7_traced yX7_traced ∈ lw_g := z_mem (k := 28) rfl rfl
set_option maxRecDepth 100000 in
theorem mc_X7_isOn : Cond.code yX7_isOn cX7_isOn 8 (some .int) ∈ lw_g := z_mem (k := 646) rfl rfl
theorem nd_X7_isOn : yX7_isOn.cls ≠ "java/lang/invoke/MethodHandle" ∧ yX7_isOn.cls ≠ "java/lang/invoke/VarHandle" ∧ (parseMethodDescriptor yX7_isOn.desc).map (fun d => d.parameters.length) = some 4 := by decide +kernel
set_option maxRecDepth 100000 in
theorem im_X7_isOn : Cond.instanceMethod yX7_isOn ∈ lw_g := z_mem (k := 645) rfl rfl
set_option maxRecDepth 100000 in
theorem se_X7_isOn : Cond.selects RX7 yX7_isOn yX7_isOn ∈ lw_g := z_mem (k := 27) rfl rfl
set_option maxRecDepth 100000 in
theorem mc_X7_follows : Cond.code yX7_follows cX7_follows 5 (some .int) ∈ lw_g := z_mem (k := 642) rfl rfl
theorem nd_X7_follows : yX7_follows.cls ≠ "java/lang/invoke/MethodHandle" ∧ yX7_follows.cls ≠ "java/lang/invoke/VarHandle" ∧ (parseMethodDescriptor yX7_follows.desc).map (fun d => d.parameters.length) = some 2 := by decide +kernel
set_option maxRecDepth 100000 in
theorem im_X7_follows : Cond.instanceMethod yX7_follows ∈ lw_g := z_mem (k := 640) rfl rfl
set_option maxRecDepth 100000 in
theorem se_X7_follows : Cond.selects RX7 yX7_follows yX7_follows ∈ lw_g := z_mem (k := 641) rfl rfl
set_option maxRecDepth 100000 in
theorem mc_X7_slope : Cond.code yX7_slope cX7_slope 10 (some .long) ∈ lw_g := z_mem (k := 663) rfl rfl
theorem nd_X7_slope : yX7_slope.cls ≠ "java/lang/invoke/MethodHandle" ∧ yX7_slope.cls ≠ "java/lang/invoke/VarHandle" ∧ (parseMethodDescriptor yX7_slope.desc).map (fun d => d.parameters.length) = some 4 := by decide +kernel
set_option maxRecDepth 100000 in
theorem im_X7_slope : Cond.instanceMethod yX7_slope ∈ lw_g := z_mem (k := 662) rfl rfl
set_option maxRecDepth 100000 in
theorem se_X7_slope : Cond.selects RX7 yX7_slope yX7_slope ∈ lw_g := z_mem (k := 29) rfl rfl
set_option maxRecDepth 100000 in
theorem mc_X7_touches : Cond.code yX7_touches cX7_touches 17 (some .int) ∈ lw_g := z_mem (k := 659) rfl rfl
theorem nd_X7_touches : yX7_touches.cls ≠ "java/lang/invoke/MethodHandle" ∧ yX7_touches.cls ≠ "java/lang/invoke/VarHandle" ∧ (parseMethodDescriptor yX7_touches.desc).map (fun d => d.parameters.length) = some 2 := by decide +kernel
set_option maxRecDepth 100000 in
theorem im_X7_touches : Cond.instanceMethod yX7_touches ∈ lw_g := z_mem (k := 657) rfl rfl
set_option maxRecDepth 100000 in
theorem se_X7_touches : Cond.selects RX7 yX7_touches yX7_touches ∈ lw_g := z_mem (k := 658) rfl rfl
end
section
/-! numbers under the reference's small methods -/
def lab (a : Int64) : Int64 := if a < 0 then -a else a
theorem lab_pos {a : Int64} (h : (0 : Int64) ≤ a) : a = lab a := by
  unfold lab
  rw [if_neg]
  intro q
  rw [Int64.lt_iff_toInt_lt] at q
  rw [Int64.le_iff_toInt_le] at h
  omega
theorem lab_neg {a : Int64} (h : ¬ (0 : Int64) ≤ a) : -a = lab a := by
  unfold lab
  rw [if_pos]
  rw [Int64.le_iff_toInt_le] at h
  rw [Int64.lt_iff_toInt_lt]
  omega
theorem l0 : (0 : Int64).toInt = 0 := rfl
theorem lab_0 {a : Int64} (h : lab a = 0) : a = 0 := by
  unfold lab at h
  by_cases q : a < 0
  · rw [if_pos q] at h
    rw [← Int64.neg_neg (a := a), h]
    rfl
  · rw [if_neg q] at h
    exact h
theorem lab_toInt {a : Int64} (h : a.toInt ≠ -9223372036854775808) : (lab a).toInt = a.toInt.natAbs := by
  have h1 := Int64.le_toInt a
  have h2 := Int64.toInt_lt a
  unfold lab
  by_cases q : a < 0
  · rw [if_pos q]
    rw [Int64.lt_iff_toInt_lt, l0] at q
    rw [Int64.toInt_neg, Int.bmod_eq_of_le (by omega) (by omega)]
    omega
  · rw [if_neg q]
    rw [Int64.lt_iff_toInt_lt, l0] at q
    omega
theorem l_rem (x y : Int64) : (x - (x / y) * y).toInt = x.toInt.tmod y.toInt := by
  have a := (x % y).toInt_lt
  have b := (x % y).le_toInt
  rw [Int64.toInt_mod] at a b
  rw [Int64.toInt_sub, Int64.toInt_mul, Int64.toInt_div, Int.bmod_mul_bmod, Int.sub_bmod_bmod, Int.mul_comm, ← Int.tmod_def]
  exact Int.bmod_eq_of_le (by omega) (by omega)
/-- the greatest common divisor under way -/
def cgI (a b x y : Int64) : Prop := (x = 0 → y = 0 → a = 0 ∧ b = 0) ∧ (a.toInt ≠ -9223372036854775808 → b.toInt ≠ -9223372036854775808 → 0 ≤ x.toInt ∧ 0 ≤ y.toInt ∧ Int.gcd x.toInt y.toInt = Int.gcd a.toInt b.toInt)
def cgE (a b r : Int64) : Prop := (r = 0 → a = 0 ∧ b = 0) ∧ (a.toInt ≠ -9223372036854775808 → b.toInt ≠ -9223372036854775808 → r.toInt = Int.gcd a.toInt b.toInt)
theorem cgI_0 (a b : Int64) : cgI a b (lab a) (lab b) := by
  refine ⟨fun h1 h2 => ⟨lab_0 h1, lab_0 h2⟩, fun h1 h2 => ?_⟩
  rw [lab_toInt h1, lab_toInt h2]
  refine ⟨by omega, by omega, ?_⟩
  simp [Int.gcd]
theorem cgI_s {a b x y : Int64} (hy : ¬ y = 0) (h : cgI a b x y) : cgI a b y (x - x / y * y) := by
  refine ⟨fun h1 _ => absurd h1 hy, fun h1 h2 => ?_⟩
  obtain ⟨g1, g2, g3⟩ := h.2 h1 h2
  have hy0 : y.toInt ≠ 0 := fun q => hy (Int64.toInt_inj.mp q)
  rw [l_rem, Int.tmod_eq_emod_of_nonneg g1]
  refine ⟨g2, Int.emod_nonneg _ hy0, ?_⟩
  rw [← g3]
  obtain ⟨u, hu⟩ := Int.eq_ofNat_of_zero_le g1
  obtain ⟨v, hv⟩ := Int.eq_ofNat_of_zero_le g2
  rw [hu, hv]
  show Nat.gcd v (u % v) = Nat.gcd u v
  rw [Nat.gcd_comm v (u % v), ← Nat.gcd_rec v u, Nat.gcd_comm]
theorem cgI_e {a b x y : Int64} (hy : y = 0) (h : cgI a b x y) : cgE a b x := by
  refine ⟨fun q => h.1 q hy, fun h1 h2 => ?_⟩
  obtain ⟨g1, g2, g3⟩ := h.2 h1 h2
  rw [hy, l0] at g3
  rw [← g3]
  simp
  omega
theorem cg_dec {x y : Int64} (hy : ¬ y = 0) : (x - x / y * y).toInt.natAbs < y.toInt.natAbs := by
  have hy0 : y.toInt ≠ 0 := fun q => hy (Int64.toInt_inj.mp q)
  rw [l_rem, Int.natAbs_tmod]
  exact Nat.mod_lt _ (by omega)
def lpow (b : Int64) : Nat → Int64
  | 0 => 1
  | n + 1 => lpow b n * b
theorem lpow_s {b : Int64} {k : Int} (h : 0 ≤ k) : lpow b k.toNat * b = lpow b (k + 1).toNat := by
  have : (k + 1).toNat = k.toNat + 1 := by omega
  rw [this]
  rfl
def pc8 (n : Nat) : Nat := n % 2 + n / 2 % 2 + n / 4 % 2 + n / 8 % 2 + n / 16 % 2 + n / 32 % 2 + n / 64 % 2 + n / 128 % 2
theorem pc8_t : ∀ n : Fin 256, n.val ≠ 0 → zI (n.val : Int) &&& zI ((n.val : Int) - 1) = zI ((n.val &&& (n.val - 1) : Nat) : Int) ∧ (n.val &&& (n.val - 1)) < n.val ∧ pc8 (n.val &&& (n.val - 1)) + 1 = pc8 n.val := by decide +kernel
theorem pc8_s {a : Int} (h0 : 0 ≤ a) (h1 : a < 256) (hn : ¬ a = 0) : ∃ t : Int, zI a &&& zI (a - 1) = zI t ∧ 0 ≤ t ∧ t < a ∧ (pc8 t.toNat : Int) + 1 = pc8 a.toNat := by
  obtain ⟨n, rfl⟩ := Int.eq_ofNat_of_zero_le h0
  obtain ⟨e1, e2, e3⟩ := pc8_t ⟨n, by omega⟩ (by simpa using hn)
  refine ⟨((n &&& (n - 1) : Nat) : Int), e1, by omega, by exact_mod_cast e2, ?_⟩
  show ((pc8 (n &&& (n - 1)) : Nat) : Int) + 1 = (pc8 n : Nat)
  exact_mod_cast e3
theorem zL_toInt {z : Int} (h1 : -9223372036854775808 ≤ z) (h2 : z < 9223372036854775808) : (zL z).toInt = z := Int64.toInt_ofInt_of_le h1 h2
theorem zL_add (a b : Int) : zL a + zL b = zL (a + b) := (Int64.ofInt_add a b).symm
theorem zL_sub (a b : Int) : zL a - zL b = zL (a - b) := (Int64.ofInt_sub a b).symm
theorem zL_mul (a b : Int) : zL a * zL b = zL (a * b) := (Int64.ofInt_mul a b).symm
theorem zL_1 : (1 : Int64) = zL 1 := rfl
theorem zL_of (x : Int64) : x = zL x.toInt := (Int64.ofInt_toInt x).symm
/-- powers that don't pass v -/
def abI (b v p : Int64) (i : Int) : Prop := p.toInt = b.toInt ^ i.toNat ∧ 1 ≤ p.toInt ∧ (i = 0 ∨ p.toInt ≤ v.toInt)
theorem abI_0 (b v : Int64) : abI b v 1 0 := ⟨by show (1 : Int) = b.toInt ^ 0; rw [Int.pow_zero], by decide, Or.inl rfl⟩
theorem abI_s {b v p : Int64} {i : Int} (hb : 1 ≤ b.toInt) (hi : 0 ≤ i) (h : abI b v p i) (hc : p ≤ v / b) : abI b v (p * b) (i + 1) := by
  obtain ⟨h1, h2, -⟩ := h
  have hbm := Int64.toInt_lt b
  have hvm := Int64.toInt_lt v
  have hvl := Int64.le_toInt v
  rw [Int64.le_iff_toInt_le, Int64.toInt_div_of_ne_right v b (by intro q; rw [q] at hb; exact absurd hb (by decide))] at hc
  have hv : 0 ≤ v.toInt := by
    rcases Int.le_total 0 v.toInt with q | q
    · exact q
    · have e1 : v.toInt.tdiv b.toInt = -((-v.toInt).tdiv b.toInt) := by rw [Int.neg_tdiv, Int.neg_neg]
      have e2 : 0 ≤ (-v.toInt).tdiv b.toInt := Int.tdiv_nonneg (by omega) (by omega)
      omega
  rw [Int.tdiv_eq_ediv_of_nonneg hv] at hc
  have h3 : p.toInt * b.toInt ≤ v.toInt := (Int.le_ediv_iff_mul_le (by omega)).mp hc
  have h4 : 1 ≤ p.toInt * b.toInt := by
    have := Int.mul_le_mul h2 hb (by decide) (by omega)
    omega
  have h5 : (p * b).toInt = p.toInt * b.toInt := by
    rw [Int64.toInt_mul]
    exact Int.bmod_eq_of_le (by omega) (by omega)
  refine ⟨?_, by omega, Or.inr (by omega)⟩
  have : (i + 1).toNat = i.toNat + 1 := by omega
  rw [h5, h1, this, Int.pow_succ]
theorem pc8_e {t n a : Int} (e0 : t = 0) (hn : n + pc8 t.toNat = pc8 a.toNat) : n = pc8 a.toNat := by
  rw [e0] at hn
  have : (pc8 (0 : Int).toNat : Int) = 0 := rfl
  omega
theorem abI_e {b v p : Int64} {i k : Int} (h : abI b v p i) (e : i = k) (hc : p ≤ v) : b.toInt ^ k.toNat ≤ v.toInt := by
  rw [← e, ← h.1]
  exact Int64.le_iff_toInt_le.mp hc
theorem dg_ih {f : Nat → Int64} {z : Int} (h2 : ∀ k : Int, z < k → k ≤ 4 → f k.toNat = 0) (h : f z.toNat = 0) : ∀ k : Int, z + -1 < k → k ≤ 4 → f k.toNat = 0 := by
  intro k h3 h4
  by_cases e : k = z
  · rw [e]; exact h
  · exact h2 k (by omega) h4
theorem zL_le {a b : Int} (ha : -9223372036854775808 ≤ a ∧ a < 9223372036854775808) (hb : -9223372036854775808 ≤ b ∧ b < 9223372036854775808) : zL a ≤ zL b ↔ a ≤ b := by
  rw [Int64.le_iff_toInt_le, zL_toInt ha.1 ha.2, zL_toInt hb.1 hb.2]
theorem zL_nle {a b : Int} (ha : -9223372036854775808 ≤ a ∧ a < 9223372036854775808) (hb : -9223372036854775808 ≤ b ∧ b < 9223372036854775808) (h : ¬ zL b ≤ zL a) : a < b := by
  rw [zL_le hb ha] at h
  omega
theorem zL_mid {a b : Int} (h : 1 ≤ a ∧ a ≤ b ∧ b ≤ 2000000000) : (zL a + zL b + 1) / 2 = zL ((a + b + 1) / 2) := by
  rw [zL_1, zL_add, zL_add]
  apply Int64.toInt_inj.mp
  rw [Int64.toInt_div_of_ne_right _ _ (by decide), zL_toInt (by omega) (by omega), zL_toInt (by omega) (by omega)]
  exact Int.tdiv_eq_ediv_of_nonneg (by omega)
theorem lpow_one : ∀ n : Nat, lpow (zL 1) n = 1
  | 0 => rfl
  | n + 1 => by
    show lpow (zL 1) n * zL 1 = 1
    rw [lpow_one n]
    rfl
theorem rt_mid {a b k : Int} {v : Int64} (h : 1 ≤ a ∧ a ≤ b ∧ b ≤ 2000000000) (hq : (zL ((a + b + 1) / 2)).toInt ^ k.toNat ≤ v.toInt) : (a + b + 1) / 2 = 1 ∨ ((a + b + 1) / 2) ^ k.toNat ≤ v.toInt := by
  rw [zL_toInt (by omega) (by omega)] at hq
  exact Or.inr hq
theorem rt_end {a b k i : Int} {v q : Int64} (h : 1 ≤ a ∧ a ≤ b ∧ b ≤ 2000000000) (hv : a = 1 ∨ a ^ k.toNat ≤ v.toInt) (hq : q = lpow (zL a) i.toNat) (hqv : q = v) : zL a = 0 ∨ (1 ≤ (zL a).toInt ∧ (zL a).toInt ≤ 2000000000 ∧ (zL a).toInt ^ k.toNat ≤ v.toInt) := by
  rw [zL_toInt (by omega) (by omega)]
  refine Or.inr ⟨h.1, by omega, ?_⟩
  rcases hv with e | e
  · rw [e, lpow_one] at hq
    rw [e, Int.one_pow, ← hqv, hq]
    decide
  · exact e
theorem up_eq {α : Type} {f : Nat → α} {k : Nat} {v : α} : va_up f k v k = v := if_pos rfl
theorem up_ne {α : Type} {f : Nat → α} {k j : Nat} {v : α} (h : j ≠ k) : va_up f k v j = f j := if_neg h
theorem up_at {f : Nat → Int64} {k : Int} {x : Int64} (hk : 0 ≤ k) {j : Int} (hj : 0 ≤ j) : vp_updL f k.toNat x j.toNat = if j = k then x else f j.toNat := by
  by_cases e : j = k
  · rw [if_pos e, e]; exact if_pos rfl
  · rw [if_neg e]; exact if_neg (by omega)
theorem red_z {f g : Nat → Int64} {k : Int} {c : Int64} (hk : 0 ≤ k) (hz : ∀ j : Int, 0 ≤ j → j < 5 → f j.toNat = 0 → g j.toNat = 0) : ∀ j : Int, 0 ≤ j → j < 5 → f j.toNat = 0 → vp_updL g k.toNat (g k.toNat / c) j.toNat = 0 := by
  intro j h1 h2 h3
  rw [up_at hk h1]
  by_cases e : j = k
  · rw [if_pos e, ← e, hz j h1 h2 h3]; exact Int64.zero_div
  · rw [if_neg e]; exact hz j h1 h2 h3
theorem dg_uq {f : Nat → Int64} {z z' : Int} (h1 : -1 ≤ z ∧ z ≤ 4) (h2 : ∀ k : Int, z < k → k ≤ 4 → f k.toNat = 0) (h3 : 0 ≤ z → f z.toNat ≠ 0) (g1 : -1 ≤ z' ∧ z' ≤ 4) (g2 : ∀ k : Int, z' < k → k ≤ 4 → f k.toNat = 0) (g3 : 0 ≤ z' → f z'.toNat ≠ 0) : z = z' := by
  rcases Int.lt_trichotomy z z' with q | q | q
  · exact absurd (h2 z' q g1.2) (g3 (by omega))
  · exact q
  · exact absurd (g2 z q h1.2) (h3 (by omega))
theorem dv_mul {X X' Y : Nat → Int64} {k : Int} {b : Int64} (hk : 0 ≤ k) (e : X' = vp_updL X k.toNat (X k.toNat * b)) (hp : ∀ j : Int, 0 ≤ j → j ≤ 4 → X j.toNat = if j < k then Y j.toNat * b else Y j.toNat) : ∀ j : Int, 0 ≤ j → j ≤ 4 → X' j.toNat = if j < k + 1 then Y j.toNat * b else Y j.toNat := by
  intro j h1 h2
  rw [e, up_at hk h1]
  by_cases q : j = k
  · rw [if_pos q, if_pos (by omega), ← q, hp j h1 h2, if_neg (by omega)]
  · rw [if_neg q, hp j h1 h2]
    by_cases r : j < k
    · rw [if_pos r, if_pos (by omega)]
    · rw [if_neg r, if_neg (by omega)]
theorem dv_sub {X X' T : Nat → Int64} {k d e0 : Int} {a : Int64} (he : 0 ≤ e0) (hde : d ≤ e0) (hk : 0 ≤ k ∧ k ≤ d) (e : X' = vp_updL X (e0 - d + k).toNat (X (e0 - d + k).toNat - a * T k.toNat)) (h : (k ≤ d → X e0.toNat = a * T d.toNat) ∧ (d < k → X e0.toNat = 0)) : (k + 1 ≤ d → X' e0.toNat = a * T d.toNat) ∧ (d < k + 1 → X' e0.toNat = 0) := by
  rw [e, up_at (by omega) he]
  by_cases q : k = d
  · refine ⟨fun h1 => by omega, fun _ => ?_⟩
    rw [if_pos (by omega), show e0 - d + k = e0 by omega, h.1 (by omega), q]
    exact Int64.sub_self _
  · refine ⟨fun _ => ?_, fun h1 => by omega⟩
    rw [if_neg (by omega)]
    exact h.1 hk.2
theorem dv_sw {X Y X' Y' U W : Nat → Int64} {k : Int} (hk : 0 ≤ k) (eX : X' = vp_updL X k.toNat (Y k.toNat)) (eY : Y' = vp_updL Y k.toNat (X k.toNat)) (hk4 : k ≤ 4) (h0 : ∀ j : Int, k ≤ j → j ≤ 4 → X j.toNat = U j.toNat ∧ Y j.toNat = W j.toNat) (hs : ∀ j : Int, 0 ≤ j → j < k → X j.toNat = W j.toNat ∧ Y j.toNat = U j.toNat) :
    (∀ j : Int, k + 1 ≤ j → j ≤ 4 → X' j.toNat = U j.toNat ∧ Y' j.toNat = W j.toNat) ∧ (∀ j : Int, 0 ≤ j → j < k + 1 → X' j.toNat = W j.toNat ∧ Y' j.toNat = U j.toNat) := by
  constructor
  · intro j h1 h2
    rw [eX, eY, up_at hk (by omega), up_at hk (by omega), if_neg (by omega), if_neg (by omega)]
    exact h0 j (by omega) h2
  · intro j h1 h2
    rw [eX, eY, up_at hk h1, up_at hk h1]
    by_cases q : j = k
    · rw [if_pos q, if_pos q, ← q]
      have := h0 j (by omega) (by omega)
      exact ⟨this.2, this.1⟩
    · rw [if_neg q, if_neg q]
      exact hs j h1 (by omega)
theorem dg_le {f : Nat → Int64} {z t : Int} (h1 : -1 ≤ z ∧ z ≤ 4) (h3 : 0 ≤ z → f z.toNat ≠ 0) (hz : ∀ k : Int, t < k → k ≤ 4 → f k.toNat = 0) (h0 : 0 ≤ z) : z ≤ t := by
  rcases Int.lt_or_le t z with q | q
  · exact absurd (hz z q h1.2) (h3 h0)
  · exact q
theorem dv_top {X : Nat → Int64} {e0 j : Int} (h : X e0.toNat = 0) (hz : ∀ j : Int, e0 < j → j ≤ 4 → X j.toNat = 0) (h1 : e0 ≤ j) (h2 : j ≤ 4) : X j.toNat = 0 := by
  by_cases e : j = e0
  · rw [e]; exact h
  · exact hz j (by omega) h2
end
section
theorem dX7_common_0 : decode cX7_common 0 = .ok (.lload_n 0, 1) := by decide +kernel
theorem dX7_common_1 : decode cX7_common 1 = .ok (.lconst 0, 1) := by decide +kernel
theorem dX7_common_2 : decode cX7_common 2 = .ok (.lcmp, 1) := by decide +kernel
theorem dX7_common_3 : decode cX7_common 3 = .ok (.ifCond .ge 8, 3) := by decide +kernel
theorem dX7_common_6 : decode cX7_common 6 = .ok (.lload_n 0, 1) := by decide +kernel
theorem dX7_common_7 : decode cX7_common 7 = .ok (.lneg, 1) := by decide +kernel
theorem dX7_common_8 : decode cX7_common 8 = .ok (.goto 4, 3) := by decide +kernel
theorem dX7_common_11 : decode cX7_common 11 = .ok (.lload_n 0, 1) := by decide +kernel
theorem dX7_common_12 : decode cX7_common 12 = .ok (.lstore 4, 2) := by decide +kernel
theorem dX7_common_14 : decode cX7_common 14 = .ok (.lload_n 2, 1) := by decide +kernel
theorem dX7_common_15 : decode cX7_common 15 = .ok (.lconst 0, 1) := by decide +kernel
theorem dX7_common_16 : decode cX7_common 16 = .ok (.lcmp, 1) := by decide +kernel
theorem dX7_common_17 : decode cX7_common 17 = .ok (.ifCond .ge 8, 3) := by decide +kernel
theorem dX7_common_20 : decode cX7_common 20 = .ok (.lload_n 2, 1) := by decide +kernel
theorem dX7_common_21 : decode cX7_common 21 = .ok (.lneg, 1) := by decide +kernel
theorem dX7_common_22 : decode cX7_common 22 = .ok (.goto 4, 3) := by decide +kernel
theorem dX7_common_25 : decode cX7_common 25 = .ok (.lload_n 2, 1) := by decide +kernel
theorem dX7_common_26 : decode cX7_common 26 = .ok (.lstore 6, 2) := by decide +kernel
theorem dX7_common_28 : decode cX7_common 28 = .ok (.lload 6, 2) := by decide +kernel
theorem dX7_common_30 : decode cX7_common 30 = .ok (.lconst 0, 1) := by decide +kernel
theorem dX7_common_31 : decode cX7_common 31 = .ok (.lcmp, 1) := by decide +kernel
theorem dX7_common_32 : decode cX7_common 32 = .ok (.ifCond .eq 21, 3) := by decide +kernel
theorem dX7_common_35 : decode cX7_common 35 = .ok (.lload 4, 2) := by decide +kernel
theorem dX7_common_37 : decode cX7_common 37 = .ok (.lload 6, 2) := by decide +kernel
theorem dX7_common_39 : decode cX7_common 39 = .ok (.lrem, 1) := by decide +kernel
theorem dX7_common_40 : decode cX7_common 40 = .ok (.lstore 8, 2) := by decide +kernel
theorem dX7_common_42 : decode cX7_common 42 = .ok (.lload 6, 2) := by decide +kernel
theorem dX7_common_44 : decode cX7_common 44 = .ok (.lstore 4, 2) := by decide +kernel
theorem dX7_common_46 : decode cX7_common 46 = .ok (.lload 8, 2) := by decide +kernel
theorem dX7_common_48 : decode cX7_common 48 = .ok (.lstore 6, 2) := by decide +kernel
theorem dX7_common_50 : decode cX7_common 50 = .ok (.goto (-22), 3) := by decide +kernel
theorem dX7_common_53 : decode cX7_common 53 = .ok (.lload 4, 2) := by decide +kernel
theorem dX7_common_55 : decode cX7_common 55 = .ok (.lreturn, 1) := by decide +kernel
set_option maxHeartbeats 4000000 in
set_option maxRecDepth 100000 in
theorem ct_X7_common (l : Launch) (D : va_G) (ce : Nat → ClassId) (a b : Int64)  : Ct l yX7_common cX7_common 10 (some .long) { frames := 0, cells := 0, slots := 0, locals := 0 } 0 0 D (TY ce) [.long a, .long b] ([]) (QL D (TY ce) (fun r w1 => ∃ r0 : Int64, r = r0 ∧ w1 = [] ∧ (cgE a b r0))) := by
  refine Ct.ofL (by decide) (Nat.le_of_ble_eq_true rfl) ?_
  intro p e s m args below meth c A Q hX hnm hR
  refine Z.pick (lv' := [(0, .long a), (2, .long b)]) [0, 1] rfl ?_
  have key_12 : ∀ (x : Int64), (hx1 : x = lab a) → Z p l e { frames := 0, cells := 0, slots := 0, locals := 0 } s m args below meth c D A 10 0 0 Q 12 [(0, .long a), (2, .long b)] [.long x] ([]) := by
    intro x hx1
    refine Z.lstore (lv' := [(4, .long x), (0, .long a), (2, .long b)]) hX dX7_common_12 (by decide) rfl ?_
    have key_26 : ∀ (y : Int64), (hy1 : y = lab b) → Z p l e { frames := 0, cells := 0, slots := 0, locals := 0 } s m args below meth c D A 10 0 0 Q 26 [(4, .long x)] [.long y] ([]) := by
      intro y hy1
      refine Z.lstore (lv' := [(6, .long y), (4, .long x)]) hX dX7_common_26 (by decide) rfl ?_
      have key_28 : ∀ (N : Nat), ∀ (x y : Int64), y.toInt.natAbs < N → (hi : cgI a b x y) → Z p l e { frames := 0, cells := 0, slots := 0, locals := 0 } s m args below meth c D A 10 0 0 Q 28 [(4, .long x), (6, .long y)] [] ([]) := by
        intro N
        induction N with
        | zero => intro x y hm; exact absurd hm (Nat.not_lt_zero _)
        | succ N ih_28 =>
          intro x y hm hi
          refine Z.lload hX dX7_common_28 rfl ?_
          refine Z.lconst (v := 0) hX dX7_common_30 rfl ?_
          refine Z.lcmp_eq hX 53 dX7_common_31 dX7_common_32 (by decide) ?_ ?_
          · intro c1
            refine Z.lload hX dX7_common_53 rfl ?_
            exact hR _ _ _ _ dX7_common_55 ⟨x, rfl, rfl, cgI_e (by assumption) hi⟩
          · intro c1
            refine Z.lload hX dX7_common_35 rfl ?_
            refine Z.lload hX dX7_common_37 rfl ?_
            refine Z.lrem hX dX7_common_39 (by assumption) ?_
            refine Z.lstore (lv' := [(8, .long (x - x / y * y)), (4, .long x), (6, .long y)]) hX dX7_common_40 (by decide) rfl ?_
            refine Z.lload hX dX7_common_42 rfl ?_
            refine Z.lstore (lv' := [(4, .long y), (8, .long (x - x / y * y)), (6, .long y)]) hX dX7_common_44 (by decide) rfl ?_
            refine Z.lload hX dX7_common_46 rfl ?_
            refine Z.lstore (lv' := [(6, .long (x - x / y * y)), (4, .long y), (8, .long (x - x / y * y))]) hX dX7_common_48 (by decide) rfl ?_
            refine Z.goto hX 28 dX7_common_50 (by decide) ?_
            refine Z.pick [1, 0] rfl ?_
            exact ih_28 _ _ (Nat.lt_of_lt_of_le (cg_dec (by assumption)) (Nat.le_of_lt_succ hm)) (cgI_s (by assumption) hi)
      refine Z.pick [1, 0] rfl ?_
      exact key_28 _ _ _ (Nat.lt_succ_self _) (by rw [hx1, hy1]; exact cgI_0 a b)
    refine Z.lload_n hX dX7_common_14 rfl rfl ?_
    refine Z.lconst (v := 0) hX dX7_common_15 rfl ?_
    refine Z.lcmp_ge hX 25 dX7_common_16 dX7_common_17 (by decide) ?_ ?_
    · intro c2
      refine Z.lload_n hX dX7_common_25 rfl rfl ?_
      refine Z.pick [0] rfl ?_
      exact key_26 _ (lab_pos (by assumption))
    · intro c2
      refine Z.lload_n hX dX7_common_20 rfl rfl ?_
      refine Z.lneg hX dX7_common_21 ?_
      refine Z.goto hX 26 dX7_common_22 (by decide) ?_
      refine Z.pick [0] rfl ?_
      exact key_26 _ (lab_neg (by assumption))
  refine Z.lload_n hX dX7_common_0 rfl rfl ?_
  refine Z.lconst (v := 0) hX dX7_common_1 rfl ?_
  refine Z.lcmp_ge hX 11 dX7_common_2 dX7_common_3 (by decide) ?_ ?_
  · intro c3
    refine Z.lload_n hX dX7_common_11 rfl rfl ?_
    refine Z.pick [0, 1] rfl ?_
    exact key_12 _ (lab_pos (by assumption))
  · intro c3
    refine Z.lload_n hX dX7_common_6 rfl rfl ?_
    refine Z.lneg hX dX7_common_7 ?_
    refine Z.goto hX 12 dX7_common_8 (by decide) ?_
    refine Z.pick [0, 1] rfl ?_
    exact key_12 _ (lab_neg (by assumption))

theorem dX7_degreeOf_0 : decode cX7_degreeOf 0 = .ok (.iconst 4, 1) := by decide +kernel
theorem dX7_degreeOf_1 : decode cX7_degreeOf 1 = .ok (.istore_n 1, 1) := by decide +kernel
theorem dX7_degreeOf_2 : decode cX7_degreeOf 2 = .ok (.iload_n 1, 1) := by decide +kernel
theorem dX7_degreeOf_3 : decode cX7_degreeOf 3 = .ok (.ifCond .lt 17, 3) := by decide +kernel
theorem dX7_degreeOf_6 : decode cX7_degreeOf 6 = .ok (.aload_n 0, 1) := by decide +kernel
theorem dX7_degreeOf_7 : decode cX7_degreeOf 7 = .ok (.iload_n 1, 1) := by decide +kernel
theorem dX7_degreeOf_8 : decode cX7_degreeOf 8 = .ok (.laload, 1) := by decide +kernel
theorem dX7_degreeOf_9 : decode cX7_degreeOf 9 = .ok (.lconst 0, 1) := by decide +kernel
theorem dX7_degreeOf_10 : decode cX7_degreeOf 10 = .ok (.lcmp, 1) := by decide +kernel
theorem dX7_degreeOf_11 : decode cX7_degreeOf 11 = .ok (.ifCond .ne 9, 3) := by decide +kernel
theorem dX7_degreeOf_14 : decode cX7_degreeOf 14 = .ok (.iinc 1 (-1), 3) := by decide +kernel
theorem dX7_degreeOf_17 : decode cX7_degreeOf 17 = .ok (.goto (-15), 3) := by decide +kernel
theorem dX7_degreeOf_20 : decode cX7_degreeOf 20 = .ok (.iload_n 1, 1) := by decide +kernel
theorem dX7_degreeOf_21 : decode cX7_degreeOf 21 = .ok (.ireturn, 1) := by decide +kernel
set_option maxHeartbeats 4000000 in
set_option maxRecDepth 100000 in
theorem ct_X7_degreeOf (l : Launch) (D : va_G) (ce : Nat → ClassId) (ad : Nat) (f : Nat → Int64)  : Ct l yX7_degreeOf cX7_degreeOf 2 (some .int) { frames := 0, cells := 0, slots := 0, locals := 0 } 0 0 D (TY ce) [.ref ad] ([(ad, .inl (ce 1, 5, .inr (.inl f)))]) (QI D (TY ce) (fun r w1 => ∃ z : Int, r = zI z ∧ w1 = [(ad, .inl (ce 1, 5, .inr (.inl f)))] ∧ (-1 ≤ z ∧ z ≤ 4) ∧ (∀ k : Int, z < k → k ≤ 4 → f k.toNat = 0) ∧ (0 ≤ z → f z.toNat ≠ 0))) := by
  refine Ct.ofI (by decide) (Nat.le_of_ble_eq_true rfl) ?_
  intro p e s m args below meth c A Q hX hnm hR
  refine Z.pick (lv' := [(0, .ref ad)]) [0] rfl ?_
  refine Z.iconst hX dX7_degreeOf_0 ?_
  refine Z.istore_n (lv' := [(1, .int (zI 4)), (0, .ref ad)]) hX dX7_degreeOf_1 rfl (by decide) rfl ?_
  have key_2 : ∀ (N : Nat), ∀ (z : Int), (z + 1).toNat < N → (h1 : -1 ≤ z ∧ z ≤ 4) → (h2 : ∀ k : Int, z < k → k ≤ 4 → f k.toNat = 0) → Z p l e { frames := 0, cells := 0, slots := 0, locals := 0 } s m args below meth c D A 2 0 0 Q 2 [(1, .int (zI z)), (0, .ref ad)] [] ([(ad, .inl (ce 1, 5, .inr (.inl f)))]) := by
    intro N
    induction N with
    | zero => intro z hm; exact absurd hm (Nat.not_lt_zero _)
    | succ N ih_2 =>
      intro z hm h1 h2
      refine Z.iload_n hX dX7_degreeOf_2 rfl rfl ?_
      refine Z.if_lt hX 20 dX7_degreeOf_3 (by decide) ⟨by omega, by omega⟩ ?_ ?_
      · intro c1
        refine Z.iload_n hX dX7_degreeOf_20 rfl rfl ?_
        exact hR _ _ _ _ dX7_degreeOf_21 ⟨z, rfl, rfl, h1, h2, (fun h => by first | omega | assumption)⟩
      · intro c1
        refine Z.aload_n hX dX7_degreeOf_6 rfl rfl ?_
        refine Z.iload_n hX dX7_degreeOf_7 rfl rfl ?_
        refine Z.laload hX 0 1 dX7_degreeOf_8 rfl rfl (by omega) (by omega) (by decide) ?_
        refine Z.lconst (v := 0) hX dX7_degreeOf_9 rfl ?_
        refine Z.lcmp_ne hX 20 dX7_degreeOf_10 dX7_degreeOf_11 (by decide) ?_ ?_
        · intro c2
          refine Z.iload_n hX dX7_degreeOf_20 rfl rfl ?_
          exact hR _ _ _ _ dX7_degreeOf_21 ⟨z, rfl, rfl, h1, h2, (fun h => by first | omega | assumption)⟩
        · intro c2
          refine Z.iinc (lv' := [(1, .int (zI (z + -1))), (0, .ref ad)]) hX dX7_degreeOf_14 rfl (by decide) rfl ?_
          refine Z.goto hX 2 dX7_degreeOf_17 (by decide) ?_
          refine Z.pick [0, 1] rfl ?_
          exact ih_2 _ (by omega) (by omega) (dg_ih h2 (by assumption))
  refine Z.pick [0, 1] rfl ?_
  exact key_2 _ _ (Nat.lt_succ_self _) (by omega) (fun k h3 h4 => by omega)

theorem dX7_isSort_0 : decode cX7_isSort 0 = .ok (.iload_n 0, 1) := by decide +kernel
theorem dX7_isSort_1 : decode cX7_isSort 1 = .ok (.ifCond .eq 8, 3) := by decide +kernel
theorem dX7_isSort_4 : decode cX7_isSort 4 = .ok (.iload_n 0, 1) := by decide +kernel
theorem dX7_isSort_5 : decode cX7_isSort 5 = .ok (.iconst 1, 1) := by decide +kernel
theorem dX7_isSort_6 : decode cX7_isSort 6 = .ok (.if_icmp .ne 7, 3) := by decide +kernel
theorem dX7_isSort_9 : decode cX7_isSort 9 = .ok (.iconst 1, 1) := by decide +kernel
theorem dX7_isSort_10 : decode cX7_isSort 10 = .ok (.goto 4, 3) := by decide +kernel
theorem dX7_isSort_13 : decode cX7_isSort 13 = .ok (.iconst 0, 1) := by decide +kernel
theorem dX7_isSort_14 : decode cX7_isSort 14 = .ok (.ireturn, 1) := by decide +kernel
set_option maxHeartbeats 4000000 in
set_option maxRecDepth 100000 in
theorem ct_X7_isSort (l : Launch) (D : va_G) (ce : Nat → ClassId) (a : Int) (ha : -2147483648 ≤ a ∧ a < 2147483648) : Ct l yX7_isSort cX7_isSort 1 (some .boolean) { frames := 0, cells := 0, slots := 0, locals := 0 } 0 0 D (TY ce) [.int (zI a)] ([]) (QI D (TY ce) (fun r w1 => ∃ z : Int, r = zI z ∧ w1 = [] ∧ ((z = 1 ∧ (a = 0 ∨ a = 1)) ∨ (z = 0 ∧ ¬ (a = 0 ∨ a = 1))))) := by
  refine Ct.ofB (by decide) (Nat.le_of_ble_eq_true rfl) ?_
  intro p e s m args below meth c A Q hX hnm hR
  refine Z.pick (lv' := [(0, .int (zI a))]) [0] rfl ?_
  refine Z.iload_n hX dX7_isSort_0 rfl rfl ?_
  refine Z.if_eq hX 9 dX7_isSort_1 (by decide) ⟨by omega, by omega⟩ ?_ ?_
  · intro c1
    refine Z.iconst hX dX7_isSort_9 ?_
    refine Z.goto hX 14 dX7_isSort_10 (by decide) ?_
    exact hR _ _ _ _ dX7_isSort_14 rfl ⟨1, rfl, rfl, (by omega)⟩
  · intro c1
    refine Z.iload_n hX dX7_isSort_4 rfl rfl ?_
    refine Z.iconst hX dX7_isSort_5 ?_
    refine Z.icmp_ne hX 13 dX7_isSort_6 (by decide) ⟨by omega, by omega⟩ ⟨by omega, by omega⟩ ?_ ?_
    · intro c2
      refine Z.iconst hX dX7_isSort_13 ?_
      exact hR _ _ _ _ dX7_isSort_14 rfl ⟨0, rfl, rfl, (by omega)⟩
    · intro c2
      refine Z.iconst hX dX7_isSort_9 ?_
      refine Z.goto hX 14 dX7_isSort_10 (by decide) ?_
      exact hR _ _ _ _ dX7_isSort_14 rfl ⟨1, rfl, rfl, (by omega)⟩

theorem dX7_isParameter_0 : decode cX7_isParameter 0 = .ok (.iload_n 0, 1) := by decide +kernel
theorem dX7_isParameter_1 : decode cX7_isParameter 1 = .ok (.bipush (-9), 2) := by decide +kernel
theorem dX7_isParameter_3 : decode cX7_isParameter 3 = .ok (.if_icmp .lt 33, 3) := by decide +kernel
theorem dX7_isParameter_6 : decode cX7_isParameter 6 = .ok (.iload_n 0, 1) := by decide +kernel
theorem dX7_isParameter_7 : decode cX7_isParameter 7 = .ok (.bipush 9, 2) := by decide +kernel
theorem dX7_isParameter_9 : decode cX7_isParameter 9 = .ok (.if_icmp .gt 27, 3) := by decide +kernel
theorem dX7_isParameter_12 : decode cX7_isParameter 12 = .ok (.iload_n 1, 1) := by decide +kernel
theorem dX7_isParameter_13 : decode cX7_isParameter 13 = .ok (.bipush (-9), 2) := by decide +kernel
theorem dX7_isParameter_15 : decode cX7_isParameter 15 = .ok (.if_icmp .lt 21, 3) := by decide +kernel
theorem dX7_isParameter_18 : decode cX7_isParameter 18 = .ok (.iload_n 1, 1) := by decide +kernel
theorem dX7_isParameter_19 : decode cX7_isParameter 19 = .ok (.bipush 9, 2) := by decide +kernel
theorem dX7_isParameter_21 : decode cX7_isParameter 21 = .ok (.if_icmp .gt 15, 3) := by decide +kernel
theorem dX7_isParameter_24 : decode cX7_isParameter 24 = .ok (.iload_n 0, 1) := by decide +kernel
theorem dX7_isParameter_25 : decode cX7_isParameter 25 = .ok (.ifCond .ne 7, 3) := by decide +kernel
theorem dX7_isParameter_28 : decode cX7_isParameter 28 = .ok (.iload_n 1, 1) := by decide +kernel
theorem dX7_isParameter_29 : decode cX7_isParameter 29 = .ok (.ifCond .eq 7, 3) := by decide +kernel
theorem dX7_isParameter_32 : decode cX7_isParameter 32 = .ok (.iconst 1, 1) := by decide +kernel
theorem dX7_isParameter_33 : decode cX7_isParameter 33 = .ok (.goto 4, 3) := by decide +kernel
theorem dX7_isParameter_36 : decode cX7_isParameter 36 = .ok (.iconst 0, 1) := by decide +kernel
theorem dX7_isParameter_37 : decode cX7_isParameter 37 = .ok (.ireturn, 1) := by decide +kernel
set_option maxHeartbeats 4000000 in
set_option maxRecDepth 100000 in
theorem ct_X7_isParameter (l : Launch) (D : va_G) (ce : Nat → ClassId) (a b : Int) (ha : -2147483648 ≤ a ∧ a < 2147483648) (hb : -2147483648 ≤ b ∧ b < 2147483648) : Ct l yX7_isParameter cX7_isParameter 2 (some .boolean) { frames := 0, cells := 0, slots := 0, locals := 0 } 0 0 D (TY ce) [.int (zI a), .int (zI b)] ([]) (QI D (TY ce) (fun r w1 => ∃ z : Int, r = zI z ∧ w1 = [] ∧ ((z = 1 ∧ (-9 ≤ a ∧ a ≤ 9 ∧ -9 ≤ b ∧ b ≤ 9 ∧ ¬ (a = 0 ∧ b = 0))) ∨ (z = 0 ∧ ¬ (-9 ≤ a ∧ a ≤ 9 ∧ -9 ≤ b ∧ b ≤ 9 ∧ ¬ (a = 0 ∧ b = 0)))))) := by
  refine Ct.ofB (by decide) (Nat.le_of_ble_eq_true rfl) ?_
  intro p e s m args below meth c A Q hX hnm hR
  refine Z.pick (lv' := [(0, .int (zI a)), (1, .int (zI b))]) [0, 1] rfl ?_
  refine Z.iload_n hX dX7_isParameter_0 rfl rfl ?_
  refine Z.bipush hX dX7_isParameter_1 (by decide) ?_
  refine Z.icmp_lt hX 36 dX7_isParameter_3 (by decide) ⟨by omega, by omega⟩ ⟨by omega, by omega⟩ ?_ ?_
  · intro c1
    refine Z.iconst hX dX7_isParameter_36 ?_
    exact hR _ _ _ _ dX7_isParameter_37 rfl ⟨0, rfl, rfl, (by omega)⟩
  · intro c1
    refine Z.iload_n hX dX7_isParameter_6 rfl rfl ?_
    refine Z.bipush hX dX7_isParameter_7 (by decide) ?_
    refine Z.icmp_gt hX 36 dX7_isParameter_9 (by decide) ⟨by omega, by omega⟩ ⟨by omega, by omega⟩ ?_ ?_
    · intro c2
      refine Z.iconst hX dX7_isParameter_36 ?_
      exact hR _ _ _ _ dX7_isParameter_37 rfl ⟨0, rfl, rfl, (by omega)⟩
    · intro c2
      refine Z.iload_n hX dX7_isParameter_12 rfl rfl ?_
      refine Z.bipush hX dX7_isParameter_13 (by decide) ?_
      refine Z.icmp_lt hX 36 dX7_isParameter_15 (by decide) ⟨by omega, by omega⟩ ⟨by omega, by omega⟩ ?_ ?_
      · intro c3
        refine Z.iconst hX dX7_isParameter_36 ?_
        exact hR _ _ _ _ dX7_isParameter_37 rfl ⟨0, rfl, rfl, (by omega)⟩
      · intro c3
        refine Z.iload_n hX dX7_isParameter_18 rfl rfl ?_
        refine Z.bipush hX dX7_isParameter_19 (by decide) ?_
        refine Z.icmp_gt hX 36 dX7_isParameter_21 (by decide) ⟨by omega, by omega⟩ ⟨by omega, by omega⟩ ?_ ?_
        · intro c4
          refine Z.iconst hX dX7_isParameter_36 ?_
          exact hR _ _ _ _ dX7_isParameter_37 rfl ⟨0, rfl, rfl, (by omega)⟩
        · intro c4
          refine Z.iload_n hX dX7_isParameter_24 rfl rfl ?_
          refine Z.if_ne hX 32 dX7_isParameter_25 (by decide) ⟨by omega, by omega⟩ ?_ ?_
          · intro c5
            refine Z.iconst hX dX7_isParameter_32 ?_
            refine Z.goto hX 37 dX7_isParameter_33 (by decide) ?_
            exact hR _ _ _ _ dX7_isParameter_37 rfl ⟨1, rfl, rfl, (by omega)⟩
          · intro c5
            refine Z.iload_n hX dX7_isParameter_28 rfl rfl ?_
            refine Z.if_eq hX 36 dX7_isParameter_29 (by decide) ⟨by omega, by omega⟩ ?_ ?_
            · intro c6
              refine Z.iconst hX dX7_isParameter_36 ?_
              exact hR _ _ _ _ dX7_isParameter_37 rfl ⟨0, rfl, rfl, (by omega)⟩
            · intro c6
              refine Z.iconst hX dX7_isParameter_32 ?_
              refine Z.goto hX 37 dX7_isParameter_33 (by decide) ?_
              exact hR _ _ _ _ dX7_isParameter_37 rfl ⟨1, rfl, rfl, (by omega)⟩

theorem dX7_isPlace_0 : decode cX7_isPlace 0 = .ok (.iload_n 0, 1) := by decide +kernel
theorem dX7_isPlace_1 : decode cX7_isPlace 1 = .ok (.bipush (-20), 2) := by decide +kernel
theorem dX7_isPlace_3 : decode cX7_isPlace 3 = .ok (.if_icmp .lt 36, 3) := by decide +kernel
theorem dX7_isPlace_6 : decode cX7_isPlace 6 = .ok (.iload_n 0, 1) := by decide +kernel
theorem dX7_isPlace_7 : decode cX7_isPlace 7 = .ok (.bipush 20, 2) := by decide +kernel
theorem dX7_isPlace_9 : decode cX7_isPlace 9 = .ok (.if_icmp .gt 30, 3) := by decide +kernel
theorem dX7_isPlace_12 : decode cX7_isPlace 12 = .ok (.iload_n 1, 1) := by decide +kernel
theorem dX7_isPlace_13 : decode cX7_isPlace 13 = .ok (.bipush (-20), 2) := by decide +kernel
theorem dX7_isPlace_15 : decode cX7_isPlace 15 = .ok (.if_icmp .lt 24, 3) := by decide +kernel
theorem dX7_isPlace_18 : decode cX7_isPlace 18 = .ok (.iload_n 1, 1) := by decide +kernel
theorem dX7_isPlace_19 : decode cX7_isPlace 19 = .ok (.bipush 20, 2) := by decide +kernel
theorem dX7_isPlace_21 : decode cX7_isPlace 21 = .ok (.if_icmp .gt 18, 3) := by decide +kernel
theorem dX7_isPlace_24 : decode cX7_isPlace 24 = .ok (.iload_n 2, 1) := by decide +kernel
theorem dX7_isPlace_25 : decode cX7_isPlace 25 = .ok (.iconst 1, 1) := by decide +kernel
theorem dX7_isPlace_26 : decode cX7_isPlace 26 = .ok (.if_icmp .lt 13, 3) := by decide +kernel
theorem dX7_isPlace_29 : decode cX7_isPlace 29 = .ok (.iload_n 2, 1) := by decide +kernel
theorem dX7_isPlace_30 : decode cX7_isPlace 30 = .ok (.bipush 9, 2) := by decide +kernel
theorem dX7_isPlace_32 : decode cX7_isPlace 32 = .ok (.if_icmp .gt 7, 3) := by decide +kernel
theorem dX7_isPlace_35 : decode cX7_isPlace 35 = .ok (.iconst 1, 1) := by decide +kernel
theorem dX7_isPlace_36 : decode cX7_isPlace 36 = .ok (.goto 4, 3) := by decide +kernel
theorem dX7_isPlace_39 : decode cX7_isPlace 39 = .ok (.iconst 0, 1) := by decide +kernel
theorem dX7_isPlace_40 : decode cX7_isPlace 40 = .ok (.ireturn, 1) := by decide +kernel
set_option maxHeartbeats 4000000 in
set_option maxRecDepth 100000 in
theorem ct_X7_isPlace (l : Launch) (D : va_G) (ce : Nat → ClassId) (a b d : Int) (ha : -2147483648 ≤ a ∧ a < 2147483648) (hb : -2147483648 ≤ b ∧ b < 2147483648) (hd : -2147483648 ≤ d ∧ d < 2147483648) : Ct l yX7_isPlace cX7_isPlace 3 (some .boolean) { frames := 0, cells := 0, slots := 0, locals := 0 } 0 0 D (TY ce) [.int (zI a), .int (zI b), .int (zI d)] ([]) (QI D (TY ce) (fun r w1 => ∃ z : Int, r = zI z ∧ w1 = [] ∧ ((z = 1 ∧ (-20 ≤ a ∧ a ≤ 20 ∧ -20 ≤ b ∧ b ≤ 20 ∧ 1 ≤ d ∧ d ≤ 9)) ∨ (z = 0 ∧ ¬ (-20 ≤ a ∧ a ≤ 20 ∧ -20 ≤ b ∧ b ≤ 20 ∧ 1 ≤ d ∧ d ≤ 9))))) := by
  refine Ct.ofB (by decide) (Nat.le_of_ble_eq_true rfl) ?_
  intro p e s m args below meth c A Q hX hnm hR
  refine Z.pick (lv' := [(0, .int (zI a)), (1, .int (zI b)), (2, .int (zI d))]) [0, 1, 2] rfl ?_
  refine Z.iload_n hX dX7_isPlace_0 rfl rfl ?_
  refine Z.bipush hX dX7_isPlace_1 (by decide) ?_
  refine Z.icmp_lt hX 39 dX7_isPlace_3 (by decide) ⟨by omega, by omega⟩ ⟨by omega, by omega⟩ ?_ ?_
  · intro c1
    refine Z.iconst hX dX7_isPlace_39 ?_
    exact hR _ _ _ _ dX7_isPlace_40 rfl ⟨0, rfl, rfl, (by omega)⟩
  · intro c1
    refine Z.iload_n hX dX7_isPlace_6 rfl rfl ?_
    refine Z.bipush hX dX7_isPlace_7 (by decide) ?_
    refine Z.icmp_gt hX 39 dX7_isPlace_9 (by decide) ⟨by omega, by omega⟩ ⟨by omega, by omega⟩ ?_ ?_
    · intro c2
      refine Z.iconst hX dX7_isPlace_39 ?_
      exact hR _ _ _ _ dX7_isPlace_40 rfl ⟨0, rfl, rfl, (by omega)⟩
    · intro c2
      refine Z.iload_n hX dX7_isPlace_12 rfl rfl ?_
      refine Z.bipush hX dX7_isPlace_13 (by decide) ?_
      refine Z.icmp_lt hX 39 dX7_isPlace_15 (by decide) ⟨by omega, by omega⟩ ⟨by omega, by omega⟩ ?_ ?_
      · intro c3
        refine Z.iconst hX dX7_isPlace_39 ?_
        exact hR _ _ _ _ dX7_isPlace_40 rfl ⟨0, rfl, rfl, (by omega)⟩
      · intro c3
        refine Z.iload_n hX dX7_isPlace_18 rfl rfl ?_
        refine Z.bipush hX dX7_isPlace_19 (by decide) ?_
        refine Z.icmp_gt hX 39 dX7_isPlace_21 (by decide) ⟨by omega, by omega⟩ ⟨by omega, by omega⟩ ?_ ?_
        · intro c4
          refine Z.iconst hX dX7_isPlace_39 ?_
          exact hR _ _ _ _ dX7_isPlace_40 rfl ⟨0, rfl, rfl, (by omega)⟩
        · intro c4
          refine Z.iload_n hX dX7_isPlace_24 rfl rfl ?_
          refine Z.iconst hX dX7_isPlace_25 ?_
          refine Z.icmp_lt hX 39 dX7_isPlace_26 (by decide) ⟨by omega, by omega⟩ ⟨by omega, by omega⟩ ?_ ?_
          · intro c5
            refine Z.iconst hX dX7_isPlace_39 ?_
            exact hR _ _ _ _ dX7_isPlace_40 rfl ⟨0, rfl, rfl, (by omega)⟩
          · intro c5
            refine Z.iload_n hX dX7_isPlace_29 rfl rfl ?_
            refine Z.bipush hX dX7_isPlace_30 (by decide) ?_
            refine Z.icmp_gt hX 39 dX7_isPlace_32 (by decide) ⟨by omega, by omega⟩ ⟨by omega, by omega⟩ ?_ ?_
            · intro c6
              refine Z.iconst hX dX7_isPlace_39 ?_
              exact hR _ _ _ _ dX7_isPlace_40 rfl ⟨0, rfl, rfl, (by omega)⟩
            · intro c6
              refine Z.iconst hX dX7_isPlace_35 ?_
              refine Z.goto hX 40 dX7_isPlace_36 (by decide) ?_
              exact hR _ _ _ _ dX7_isPlace_40 rfl ⟨1, rfl, rfl, (by omega)⟩

theorem dX7_raised_0 : decode cX7_raised 0 = .ok (.lconst 1, 1) := by decide +kernel
theorem dX7_raised_1 : decode cX7_raised 1 = .ok (.lstore_n 3, 1) := by decide +kernel
theorem dX7_raised_2 : decode cX7_raised 2 = .ok (.iconst 0, 1) := by decide +kernel
theorem dX7_raised_3 : decode cX7_raised 3 = .ok (.istore 5, 2) := by decide +kernel
theorem dX7_raised_5 : decode cX7_raised 5 = .ok (.iload 5, 2) := by decide +kernel
theorem dX7_raised_7 : decode cX7_raised 7 = .ok (.iload_n 2, 1) := by decide +kernel
theorem dX7_raised_8 : decode cX7_raised 8 = .ok (.if_icmp .ge 13, 3) := by decide +kernel
theorem dX7_raised_11 : decode cX7_raised 11 = .ok (.lload_n 3, 1) := by decide +kernel
theorem dX7_raised_12 : decode cX7_raised 12 = .ok (.lload_n 0, 1) := by decide +kernel
theorem dX7_raised_13 : decode cX7_raised 13 = .ok (.lmul, 1) := by decide +kernel
theorem dX7_raised_14 : decode cX7_raised 14 = .ok (.lstore_n 3, 1) := by decide +kernel
theorem dX7_raised_15 : decode cX7_raised 15 = .ok (.iinc 5 1, 3) := by decide +kernel
theorem dX7_raised_18 : decode cX7_raised 18 = .ok (.goto (-13), 3) := by decide +kernel
theorem dX7_raised_21 : decode cX7_raised 21 = .ok (.lload_n 3, 1) := by decide +kernel
theorem dX7_raised_22 : decode cX7_raised 22 = .ok (.lreturn, 1) := by decide +kernel
set_option maxHeartbeats 4000000 in
set_option maxRecDepth 100000 in
theorem ct_X7_raised (l : Launch) (D : va_G) (ce : Nat → ClassId) (b : Int64) (n : Int) (hn : -2147483648 ≤ n ∧ n < 2147483648) : Ct l yX7_raised cX7_raised 6 (some .long) { frames := 0, cells := 0, slots := 0, locals := 0 } 0 0 D (TY ce) [.long b, .int (zI n)] ([]) (QL D (TY ce) (fun r w1 => ∃ r0 : Int64, r = r0 ∧ w1 = [] ∧ (r0 = lpow b n.toNat))) := by
  refine Ct.ofL (by decide) (Nat.le_of_ble_eq_true rfl) ?_
  intro p e s m args below meth c A Q hX hnm hR
  refine Z.pick (lv' := [(0, .long b), (2, .int (zI n))]) [0, 1] rfl ?_
  refine Z.lconst (v := 1) hX dX7_raised_0 rfl ?_
  refine Z.lstore_n (lv' := [(3, .long 1), (0, .long b), (2, .int (zI n))]) hX dX7_raised_1 rfl (by decide) rfl ?_
  refine Z.iconst hX dX7_raised_2 ?_
  refine Z.istore (lv' := [(5, .int (zI 0)), (3, .long 1), (0, .long b), (2, .int (zI n))]) hX dX7_raised_3 (by decide) rfl ?_
  have key_5 : ∀ (N : Nat), ∀ (k : Int) (r : Int64), (n - k).toNat < N → (hk : 0 ≤ k ∧ (k ≤ n ∨ k = 0)) → (hr : r = lpow b k.toNat) → Z p l e { frames := 0, cells := 0, slots := 0, locals := 0 } s m args below meth c D A 6 0 0 Q 5 [(5, .int (zI k)), (3, .long r), (0, .long b), (2, .int (zI n))] [] ([]) := by
    intro N
    induction N with
    | zero => intro k r hm; exact absurd hm (Nat.not_lt_zero _)
    | succ N ih_5 =>
      intro k r hm hk hr
      refine Z.iload hX dX7_raised_5 rfl ?_
      refine Z.iload_n hX dX7_raised_7 rfl rfl ?_
      refine Z.icmp_ge hX 21 dX7_raised_8 (by decide) ⟨by omega, by omega⟩ ⟨by omega, by omega⟩ ?_ ?_
      · intro c1
        refine Z.lload_n hX dX7_raised_21 rfl rfl ?_
        exact hR _ _ _ _ dX7_raised_22 ⟨r, rfl, rfl, by rw [hr]; congr 1; omega⟩
      · intro c1
        refine Z.lload_n hX dX7_raised_11 rfl rfl ?_
        refine Z.lload_n hX dX7_raised_12 rfl rfl ?_
        refine Z.lmul hX dX7_raised_13 ?_
        refine Z.lstore_n (lv' := [(3, .long (r * b)), (5, .int (zI k)), (0, .long b), (2, .int (zI n))]) hX dX7_raised_14 rfl (by decide) rfl ?_
        refine Z.iinc (lv' := [(5, .int (zI (k + 1))), (3, .long (r * b)), (0, .long b), (2, .int (zI n))]) hX dX7_raised_15 rfl (by decide) rfl ?_
        refine Z.goto hX 5 dX7_raised_18 (by decide) ?_
        refine Z.pick [0, 1, 2, 3] rfl ?_
        exact ih_5 _ _ (by omega) (by omega) (by rw [hr]; exact lpow_s hk.1)
  refine Z.pick [0, 1, 2, 3] rfl ?_
  exact key_5 _ _ _ (Nat.lt_succ_self _) (by omega) rfl

theorem dX7_rest_0 : decode cX7_rest 0 = .ok (.lload_n 0, 1) := by decide +kernel
theorem dX7_rest_1 : decode cX7_rest 1 = .ok (.lload_n 2, 1) := by decide +kernel
theorem dX7_rest_2 : decode cX7_rest 2 = .ok (.lrem, 1) := by decide +kernel
theorem dX7_rest_3 : decode cX7_rest 3 = .ok (.lload_n 2, 1) := by decide +kernel
theorem dX7_rest_4 : decode cX7_rest 4 = .ok (.ladd, 1) := by decide +kernel
theorem dX7_rest_5 : decode cX7_rest 5 = .ok (.lload_n 2, 1) := by decide +kernel
theorem dX7_rest_6 : decode cX7_rest 6 = .ok (.lrem, 1) := by decide +kernel
theorem dX7_rest_7 : decode cX7_rest 7 = .ok (.lreturn, 1) := by decide +kernel
set_option maxHeartbeats 4000000 in
set_option maxRecDepth 100000 in
theorem ct_X7_rest (l : Launch) (D : va_G) (ce : Nat → ClassId) (v q : Int64) (hq : ¬ q = 0) : Ct l yX7_rest cX7_rest 4 (some .long) { frames := 0, cells := 0, slots := 0, locals := 0 } 0 0 D (TY ce) [.long v, .long q] ([]) (QL D (TY ce) (fun r w1 => ∃ r0 : Int64, r = r0 ∧ w1 = [])) := by
  refine Ct.ofL (by decide) (Nat.le_of_ble_eq_true rfl) ?_
  intro p e s m args below meth c A Q hX hnm hR
  refine Z.pick (lv' := [(0, .long v), (2, .long q)]) [0, 1] rfl ?_
  refine Z.lload_n hX dX7_rest_0 rfl rfl ?_
  refine Z.lload_n hX dX7_rest_1 rfl rfl ?_
  refine Z.lrem hX dX7_rest_2 (by assumption) ?_
  refine Z.lload_n hX dX7_rest_3 rfl rfl ?_
  refine Z.ladd hX dX7_rest_4 ?_
  refine Z.lload_n hX dX7_rest_5 rfl rfl ?_
  refine Z.lrem hX dX7_rest_6 (by assumption) ?_
  exact hR _ _ _ _ dX7_rest_7 ⟨(((v - v / q * q) + q) - ((v - v / q * q) + q) / q * q), rfl, rfl⟩

theorem dX7_countOf_0 : decode cX7_countOf 0 = .ok (.iconst 0, 1) := by decide +kernel
theorem dX7_countOf_1 : decode cX7_countOf 1 = .ok (.istore_n 1, 1) := by decide +kernel
theorem dX7_countOf_2 : decode cX7_countOf 2 = .ok (.iload_n 0, 1) := by decide +kernel
theorem dX7_countOf_3 : decode cX7_countOf 3 = .ok (.istore_n 2, 1) := by decide +kernel
theorem dX7_countOf_4 : decode cX7_countOf 4 = .ok (.iload_n 2, 1) := by decide +kernel
theorem dX7_countOf_5 : decode cX7_countOf 5 = .ok (.ifCond .eq 15, 3) := by decide +kernel
theorem dX7_countOf_8 : decode cX7_countOf 8 = .ok (.iinc 1 1, 3) := by decide +kernel
theorem dX7_countOf_11 : decode cX7_countOf 11 = .ok (.iload_n 2, 1) := by decide +kernel
theorem dX7_countOf_12 : decode cX7_countOf 12 = .ok (.iload_n 2, 1) := by decide +kernel
theorem dX7_countOf_13 : decode cX7_countOf 13 = .ok (.iconst 1, 1) := by decide +kernel
theorem dX7_countOf_14 : decode cX7_countOf 14 = .ok (.isub, 1) := by decide +kernel
theorem dX7_countOf_15 : decode cX7_countOf 15 = .ok (.iand, 1) := by decide +kernel
theorem dX7_countOf_16 : decode cX7_countOf 16 = .ok (.istore_n 2, 1) := by decide +kernel
theorem dX7_countOf_17 : decode cX7_countOf 17 = .ok (.goto (-13), 3) := by decide +kernel
theorem dX7_countOf_20 : decode cX7_countOf 20 = .ok (.iload_n 1, 1) := by decide +kernel
theorem dX7_countOf_21 : decode cX7_countOf 21 = .ok (.ireturn, 1) := by decide +kernel
set_option maxHeartbeats 4000000 in
set_option maxRecDepth 100000 in
theorem ct_X7_countOf (l : Launch) (D : va_G) (ce : Nat → ClassId) (a : Int) (ha : 0 ≤ a ∧ a < 256) : Ct l yX7_countOf cX7_countOf 3 (some .int) { frames := 0, cells := 0, slots := 0, locals := 0 } 0 0 D (TY ce) [.int (zI a)] ([]) (QI D (TY ce) (fun r w1 => ∃ z : Int, r = zI z ∧ w1 = [] ∧ (z = pc8 a.toNat))) := by
  refine Ct.ofI (by decide) (Nat.le_of_ble_eq_true rfl) ?_
  intro p e s m args below meth c A Q hX hnm hR
  refine Z.pick (lv' := [(0, .int (zI a))]) [0] rfl ?_
  refine Z.iconst hX dX7_countOf_0 ?_
  refine Z.istore_n (lv' := [(1, .int (zI 0)), (0, .int (zI a))]) hX dX7_countOf_1 rfl (by decide) rfl ?_
  refine Z.iload_n hX dX7_countOf_2 rfl rfl ?_
  refine Z.istore_n (lv' := [(2, .int (zI a)), (1, .int (zI 0)), (0, .int (zI a))]) hX dX7_countOf_3 rfl (by decide) rfl ?_
  have key_4 : ∀ (N : Nat), ∀ (t n : Int), t.toNat < N → (ht : 0 ≤ t ∧ t < 256) → (hn : n + pc8 t.toNat = pc8 a.toNat) → Z p l e { frames := 0, cells := 0, slots := 0, locals := 0 } s m args below meth c D A 3 0 0 Q 4 [(2, .int (zI t)), (1, .int (zI n))] [] ([]) := by
    intro N
    induction N with
    | zero => intro t n hm; exact absurd hm (Nat.not_lt_zero _)
    | succ N ih_4 =>
      intro t n hm ht hn
      refine Z.iload_n hX dX7_countOf_4 rfl rfl ?_
      refine Z.if_eq hX 20 dX7_countOf_5 (by decide) ⟨by omega, by omega⟩ ?_ ?_
      · intro c1
        refine Z.iload_n hX dX7_countOf_20 rfl rfl ?_
        exact hR _ _ _ _ dX7_countOf_21 ⟨n, rfl, rfl, pc8_e (by assumption) hn⟩
      · intro c1
        refine Z.iinc (lv' := [(1, .int (zI (n + 1))), (2, .int (zI t))]) hX dX7_countOf_8 rfl (by decide) rfl ?_
        refine Z.iload_n hX dX7_countOf_11 rfl rfl ?_
        refine Z.iload_n hX dX7_countOf_12 rfl rfl ?_
        refine Z.iconst hX dX7_countOf_13 ?_
        refine Z.isub hX dX7_countOf_14 ?_
        obtain ⟨t2, et2, ht1, ht2, ht3⟩ := pc8_s ht.1 ht.2 (by assumption)
        refine Z.iand hX dX7_countOf_15 ?_
        refine Z.vali (y := zI t2) et2 ?_
        refine Z.istore_n (lv' := [(2, .int (zI t2)), (1, .int (zI (n + 1)))]) hX dX7_countOf_16 rfl (by decide) rfl ?_
        refine Z.goto hX 4 dX7_countOf_17 (by decide) ?_
        refine Z.pick [0, 1] rfl ?_
        exact ih_4 _ _ (by omega) (by omega) (by omega)
  refine Z.pick [0, 1] rfl ?_
  exact key_4 _ _ _ (Nat.lt_succ_self _) (by omega) (by omega)

theorem dX7_isAbove_0 : decode cX7_isAbove 0 = .ok (.lconst 1, 1) := by decide +kernel
theorem dX7_isAbove_1 : decode cX7_isAbove 1 = .ok (.lstore 5, 2) := by decide +kernel
theorem dX7_isAbove_3 : decode cX7_isAbove 3 = .ok (.iconst 0, 1) := by decide +kernel
theorem dX7_isAbove_4 : decode cX7_isAbove 4 = .ok (.istore 7, 2) := by decide +kernel
theorem dX7_isAbove_6 : decode cX7_isAbove 6 = .ok (.iload 7, 2) := by decide +kernel
theorem dX7_isAbove_8 : decode cX7_isAbove 8 = .ok (.iload_n 2, 1) := by decide +kernel
theorem dX7_isAbove_9 : decode cX7_isAbove 9 = .ok (.if_icmp .ge 26, 3) := by decide +kernel
theorem dX7_isAbove_12 : decode cX7_isAbove 12 = .ok (.lload 5, 2) := by decide +kernel
theorem dX7_isAbove_14 : decode cX7_isAbove 14 = .ok (.lload_n 3, 1) := by decide +kernel
theorem dX7_isAbove_15 : decode cX7_isAbove 15 = .ok (.lload_n 0, 1) := by decide +kernel
theorem dX7_isAbove_16 : decode cX7_isAbove 16 = .ok (.ldiv, 1) := by decide +kernel
theorem dX7_isAbove_17 : decode cX7_isAbove 17 = .ok (.lcmp, 1) := by decide +kernel
theorem dX7_isAbove_18 : decode cX7_isAbove 18 = .ok (.ifCond .le 5, 3) := by decide +kernel
theorem dX7_isAbove_21 : decode cX7_isAbove 21 = .ok (.iconst 1, 1) := by decide +kernel
theorem dX7_isAbove_22 : decode cX7_isAbove 22 = .ok (.ireturn, 1) := by decide +kernel
theorem dX7_isAbove_23 : decode cX7_isAbove 23 = .ok (.lload 5, 2) := by decide +kernel
theorem dX7_isAbove_25 : decode cX7_isAbove 25 = .ok (.lload_n 0, 1) := by decide +kernel
theorem dX7_isAbove_26 : decode cX7_isAbove 26 = .ok (.lmul, 1) := by decide +kernel
theorem dX7_isAbove_27 : decode cX7_isAbove 27 = .ok (.lstore 5, 2) := by decide +kernel
theorem dX7_isAbove_29 : decode cX7_isAbove 29 = .ok (.iinc 7 1, 3) := by decide +kernel
theorem dX7_isAbove_32 : decode cX7_isAbove 32 = .ok (.goto (-26), 3) := by decide +kernel
theorem dX7_isAbove_35 : decode cX7_isAbove 35 = .ok (.lload 5, 2) := by decide +kernel
theorem dX7_isAbove_37 : decode cX7_isAbove 37 = .ok (.lload_n 3, 1) := by decide +kernel
theorem dX7_isAbove_38 : decode cX7_isAbove 38 = .ok (.lcmp, 1) := by decide +kernel
theorem dX7_isAbove_39 : decode cX7_isAbove 39 = .ok (.ifCond .le 7, 3) := by decide +kernel
theorem dX7_isAbove_42 : decode cX7_isAbove 42 = .ok (.iconst 1, 1) := by decide +kernel
theorem dX7_isAbove_43 : decode cX7_isAbove 43 = .ok (.goto 4, 3) := by decide +kernel
theorem dX7_isAbove_46 : decode cX7_isAbove 46 = .ok (.iconst 0, 1) := by decide +kernel
theorem dX7_isAbove_47 : decode cX7_isAbove 47 = .ok (.ireturn, 1) := by decide +kernel
set_option maxHeartbeats 4000000 in
set_option maxRecDepth 100000 in
theorem ct_X7_isAbove (l : Launch) (D : va_G) (ce : Nat → ClassId) (b : Int64) (k : Int) (v : Int64) (hb : 1 ≤ b.toInt) (hk : -2147483648 ≤ k ∧ k < 2147483648) : Ct l yX7_isAbove cX7_isAbove 8 (some .boolean) { frames := 0, cells := 0, slots := 0, locals := 0 } 0 0 D (TY ce) [.long b, .int (zI k), .long v] ([]) (QI D (TY ce) (fun r w1 => ∃ z : Int, r = zI z ∧ w1 = [] ∧ (z = 0 ∨ z = 1) ∧ (z = 0 → 0 ≤ k → b.toInt ^ k.toNat ≤ v.toInt))) := by
  refine Ct.ofB (by decide) (Nat.le_of_ble_eq_true rfl) ?_
  intro p e s m args below meth c A Q hX hnm hR
  refine Z.pick (lv' := [(0, .long b), (2, .int (zI k)), (3, .long v)]) [0, 1, 2] rfl ?_
  have hb0 : ¬ b = 0 := fun q => by rw [q] at hb; exact absurd hb (by decide)
  refine Z.lconst (v := 1) hX dX7_isAbove_0 rfl ?_
  refine Z.lstore (lv' := [(5, .long 1), (0, .long b), (2, .int (zI k)), (3, .long v)]) hX dX7_isAbove_1 (by decide) rfl ?_
  refine Z.iconst hX dX7_isAbove_3 ?_
  refine Z.istore (lv' := [(7, .int (zI 0)), (5, .long 1), (0, .long b), (2, .int (zI k)), (3, .long v)]) hX dX7_isAbove_4 (by decide) rfl ?_
  have key_6 : ∀ (N : Nat), ∀ (i : Int) (p0 : Int64), (k - i).toNat < N → (hi : 0 ≤ i ∧ (i ≤ k ∨ i = 0)) → (hp : abI b v p0 i) → Z p l e { frames := 0, cells := 0, slots := 0, locals := 0 } s m args below meth c D A 8 0 0 Q 6 [(7, .int (zI i)), (5, .long p0), (0, .long b), (2, .int (zI k)), (3, .long v)] [] ([]) := by
    intro N
    induction N with
    | zero => intro i p0 hm; exact absurd hm (Nat.not_lt_zero _)
    | succ N ih_6 =>
      intro i p0 hm hi hp
      refine Z.iload hX dX7_isAbove_6 rfl ?_
      refine Z.iload_n hX dX7_isAbove_8 rfl rfl ?_
      refine Z.icmp_ge hX 35 dX7_isAbove_9 (by decide) ⟨by omega, by omega⟩ ⟨by omega, by omega⟩ ?_ ?_
      · intro c1
        refine Z.lload hX dX7_isAbove_35 rfl ?_
        refine Z.lload_n hX dX7_isAbove_37 rfl rfl ?_
        refine Z.lcmp_le hX 46 dX7_isAbove_38 dX7_isAbove_39 (by decide) ?_ ?_
        · intro c2
          refine Z.iconst hX dX7_isAbove_46 ?_
          exact hR _ _ _ _ dX7_isAbove_47 rfl ⟨0, rfl, rfl, (by omega), (fun _ hk0 => abI_e hp (by omega) (by assumption))⟩
        · intro c2
          refine Z.iconst hX dX7_isAbove_42 ?_
          refine Z.goto hX 47 dX7_isAbove_43 (by decide) ?_
          exact hR _ _ _ _ dX7_isAbove_47 rfl ⟨1, rfl, rfl, (by omega), (fun h => absurd h (by omega))⟩
      · intro c1
        refine Z.lload hX dX7_isAbove_12 rfl ?_
        refine Z.lload_n hX dX7_isAbove_14 rfl rfl ?_
        refine Z.lload_n hX dX7_isAbove_15 rfl rfl ?_
        refine Z.ldiv hX dX7_isAbove_16 (by assumption) ?_
        refine Z.lcmp_le hX 23 dX7_isAbove_17 dX7_isAbove_18 (by decide) ?_ ?_
        · intro c3
          refine Z.lload hX dX7_isAbove_23 rfl ?_
          refine Z.lload_n hX dX7_isAbove_25 rfl rfl ?_
          refine Z.lmul hX dX7_isAbove_26 ?_
          refine Z.lstore (lv' := [(5, .long (p0 * b)), (7, .int (zI i)), (0, .long b), (2, .int (zI k)), (3, .long v)]) hX dX7_isAbove_27 (by decide) rfl ?_
          refine Z.iinc (lv' := [(7, .int (zI (i + 1))), (5, .long (p0 * b)), (0, .long b), (2, .int (zI k)), (3, .long v)]) hX dX7_isAbove_29 rfl (by decide) rfl ?_
          refine Z.goto hX 6 dX7_isAbove_32 (by decide) ?_
          refine Z.pick [0, 1, 2, 3, 4] rfl ?_
          exact ih_6 _ _ (by omega) (by omega) (abI_s hb hi.1 hp (by assumption))
        · intro c3
          refine Z.iconst hX dX7_isAbove_21 ?_
          exact hR _ _ _ _ dX7_isAbove_22 rfl ⟨1, rfl, rfl, (by omega), (fun h => absurd h (by omega))⟩
  refine Z.pick [0, 1, 2, 3, 4] rfl ?_
  exact key_6 _ _ _ (Nat.lt_succ_self _) (by omega) (abI_0 b v)

theorem dX7_rootOf_0 : decode cX7_rootOf 0 = .ok (.lconst 1, 1) := by decide +kernel
theorem dX7_rootOf_1 : decode cX7_rootOf 1 = .ok (.lstore_n 3, 1) := by decide +kernel
theorem dX7_rootOf_2 : decode cX7_rootOf 2 = .ok (.ldc2_w 115, 3) := by decide +kernel
theorem dX7_rootOf_5 : decode cX7_rootOf 5 = .ok (.lstore 5, 2) := by decide +kernel
theorem dX7_rootOf_7 : decode cX7_rootOf 7 = .ok (.lload_n 3, 1) := by decide +kernel
theorem dX7_rootOf_8 : decode cX7_rootOf 8 = .ok (.lload 5, 2) := by decide +kernel
theorem dX7_rootOf_10 : decode cX7_rootOf 10 = .ok (.lcmp, 1) := by decide +kernel
theorem dX7_rootOf_11 : decode cX7_rootOf 11 = .ok (.ifCond .ge 40, 3) := by decide +kernel
theorem dX7_rootOf_14 : decode cX7_rootOf 14 = .ok (.lload_n 3, 1) := by decide +kernel
theorem dX7_rootOf_15 : decode cX7_rootOf 15 = .ok (.lload 5, 2) := by decide +kernel
theorem dX7_rootOf_17 : decode cX7_rootOf 17 = .ok (.ladd, 1) := by decide +kernel
theorem dX7_rootOf_18 : decode cX7_rootOf 18 = .ok (.lconst 1, 1) := by decide +kernel
theorem dX7_rootOf_19 : decode cX7_rootOf 19 = .ok (.ladd, 1) := by decide +kernel
theorem dX7_rootOf_20 : decode cX7_rootOf 20 = .ok (.ldc2_w 117, 3) := by decide +kernel
theorem dX7_rootOf_23 : decode cX7_rootOf 23 = .ok (.ldiv, 1) := by decide +kernel
theorem dX7_rootOf_24 : decode cX7_rootOf 24 = .ok (.lstore 7, 2) := by decide +kernel
theorem dX7_rootOf_26 : decode cX7_rootOf 26 = .ok (.lload 7, 2) := by decide +kernel
theorem dX7_rootOf_28 : decode cX7_rootOf 28 = .ok (.iload_n 2, 1) := by decide +kernel
theorem dX7_rootOf_29 : decode cX7_rootOf 29 = .ok (.lload_n 0, 1) := by decide +kernel
theorem dX7_rootOf_30 : decode cX7_rootOf 30 = .ok (.invokestatic 119, 3) := by decide +kernel
theorem dX7_rootOf_33 : decode cX7_rootOf 33 = .ok (.ifCond .eq 12, 3) := by decide +kernel
theorem dX7_rootOf_36 : decode cX7_rootOf 36 = .ok (.lload 7, 2) := by decide +kernel
theorem dX7_rootOf_38 : decode cX7_rootOf 38 = .ok (.lconst 1, 1) := by decide +kernel
theorem dX7_rootOf_39 : decode cX7_rootOf 39 = .ok (.lsub, 1) := by decide +kernel
theorem dX7_rootOf_40 : decode cX7_rootOf 40 = .ok (.lstore 5, 2) := by decide +kernel
theorem dX7_rootOf_42 : decode cX7_rootOf 42 = .ok (.goto 6, 3) := by decide +kernel
theorem dX7_rootOf_45 : decode cX7_rootOf 45 = .ok (.lload 7, 2) := by decide +kernel
theorem dX7_rootOf_47 : decode cX7_rootOf 47 = .ok (.lstore_n 3, 1) := by decide +kernel
theorem dX7_rootOf_48 : decode cX7_rootOf 48 = .ok (.goto (-41), 3) := by decide +kernel
theorem dX7_rootOf_51 : decode cX7_rootOf 51 = .ok (.lconst 1, 1) := by decide +kernel
theorem dX7_rootOf_52 : decode cX7_rootOf 52 = .ok (.lstore 7, 2) := by decide +kernel
theorem dX7_rootOf_54 : decode cX7_rootOf 54 = .ok (.iconst 0, 1) := by decide +kernel
theorem dX7_rootOf_55 : decode cX7_rootOf 55 = .ok (.istore 9, 2) := by decide +kernel
theorem dX7_rootOf_57 : decode cX7_rootOf 57 = .ok (.iload 9, 2) := by decide +kernel
theorem dX7_rootOf_59 : decode cX7_rootOf 59 = .ok (.iload_n 2, 1) := by decide +kernel
theorem dX7_rootOf_60 : decode cX7_rootOf 60 = .ok (.if_icmp .ge 15, 3) := by decide +kernel
theorem dX7_rootOf_63 : decode cX7_rootOf 63 = .ok (.lload 7, 2) := by decide +kernel
theorem dX7_rootOf_65 : decode cX7_rootOf 65 = .ok (.lload_n 3, 1) := by decide +kernel
theorem dX7_rootOf_66 : decode cX7_rootOf 66 = .ok (.lmul, 1) := by decide +kernel
theorem dX7_rootOf_67 : decode cX7_rootOf 67 = .ok (.lstore 7, 2) := by decide +kernel
theorem dX7_rootOf_69 : decode cX7_rootOf 69 = .ok (.iinc 9 1, 3) := by decide +kernel
theorem dX7_rootOf_72 : decode cX7_rootOf 72 = .ok (.goto (-15), 3) := by decide +kernel
theorem dX7_rootOf_75 : decode cX7_rootOf 75 = .ok (.lload 7, 2) := by decide +kernel
theorem dX7_rootOf_77 : decode cX7_rootOf 77 = .ok (.lload_n 0, 1) := by decide +kernel
theorem dX7_rootOf_78 : decode cX7_rootOf 78 = .ok (.lcmp, 1) := by decide +kernel
theorem dX7_rootOf_79 : decode cX7_rootOf 79 = .ok (.ifCond .ne 7, 3) := by decide +kernel
theorem dX7_rootOf_82 : decode cX7_rootOf 82 = .ok (.lload_n 3, 1) := by decide +kernel
theorem dX7_rootOf_83 : decode cX7_rootOf 83 = .ok (.goto 4, 3) := by decide +kernel
theorem dX7_rootOf_86 : decode cX7_rootOf 86 = .ok (.lconst 0, 1) := by decide +kernel
theorem dX7_rootOf_87 : decode cX7_rootOf 87 = .ok (.lreturn, 1) := by decide +kernel
set_option maxHeartbeats 4000000 in
set_option maxRecDepth 100000 in
theorem ct_X7_rootOf (l : Launch) (D : va_G) (ce : Nat → ClassId) (v : Int64) (k : Int) (hk : -2147483648 ≤ k ∧ k < 2147483648) (hk0 : 0 ≤ k) : Ct l yX7_rootOf cX7_rootOf 10 (some .long) { frames := 1, cells := 0, slots := 0, locals := 27 } 0 0 D (TY ce) [.long v, .int (zI k)] ([]) (QL D (TY ce) (fun r w1 => ∃ r0 : Int64, r = r0 ∧ w1 = [] ∧ (r0 = 0 ∨ (1 ≤ r0.toInt ∧ r0.toInt ≤ 2000000000 ∧ r0.toInt ^ k.toNat ≤ v.toInt)))) := by
  refine Ct.ofL (by decide) (Nat.le_of_ble_eq_true rfl) ?_
  intro p e s m args below meth c A Q hX hnm hR
  refine Z.pick (lv' := [(0, .long v), (2, .int (zI k))]) [0, 1] rfl ?_
  refine Z.lconst (v := 1) hX dX7_rootOf_0 rfl ?_
  refine Z.vall (y := zL 1) rfl ?_
  refine Z.lstore_n (lv' := [(3, .long (zL 1)), (0, .long v), (2, .int (zI k))]) hX dX7_rootOf_1 rfl (by decide) rfl ?_
  refine Z.ldc2 hX dX7_rootOf_2 co_X7_115 ?_
  refine Z.vall (y := zL 2000000000) rfl ?_
  refine Z.lstore (lv' := [(5, .long (zL 2000000000)), (3, .long (zL 1)), (0, .long v), (2, .int (zI k))]) hX dX7_rootOf_5 (by decide) rfl ?_
  have key_7 : ∀ (N : Nat), ∀ (a b : Int), (b - a).toNat < N → (hab : 1 ≤ a ∧ a ≤ b ∧ b ≤ 2000000000) → (hv : a = 1 ∨ a ^ k.toNat ≤ v.toInt) → Z p l e { frames := 1, cells := 0, slots := 0, locals := 27 } s m args below meth c D A 10 0 0 Q 7 [(3, .long (zL a)), (5, .long (zL b)), (0, .long v), (2, .int (zI k))] [] ([]) := by
    intro N
    induction N with
    | zero => intro a b hm; exact absurd hm (Nat.not_lt_zero _)
    | succ N ih_7 =>
      intro a b hm hab hv
      refine Z.lload_n hX dX7_rootOf_7 rfl rfl ?_
      refine Z.lload hX dX7_rootOf_8 rfl ?_
      refine Z.lcmp_ge hX 51 dX7_rootOf_10 dX7_rootOf_11 (by decide) ?_ ?_
      · intro c1
        refine Z.lconst (v := 1) hX dX7_rootOf_51 rfl ?_
        refine Z.lstore (lv' := [(7, .long 1), (3, .long (zL a)), (5, .long (zL b)), (0, .long v), (2, .int (zI k))]) hX dX7_rootOf_52 (by decide) rfl ?_
        refine Z.iconst hX dX7_rootOf_54 ?_
        refine Z.istore (lv' := [(9, .int (zI 0)), (7, .long 1), (3, .long (zL a)), (5, .long (zL b)), (0, .long v), (2, .int (zI k))]) hX dX7_rootOf_55 (by decide) rfl ?_
        have key_57 : ∀ (N : Nat), ∀ (i : Int) (q : Int64), (k - i).toNat < N → (hi : 0 ≤ i ∧ (i ≤ k ∨ i = 0)) → (hq : q = lpow (zL a) i.toNat) → Z p l e { frames := 1, cells := 0, slots := 0, locals := 27 } s m args below meth c D A 10 0 0 Q 57 [(9, .int (zI i)), (7, .long q), (3, .long (zL a)), (0, .long v), (2, .int (zI k))] [] ([]) := by
          intro N
          induction N with
          | zero => intro i q hm; exact absurd hm (Nat.not_lt_zero _)
          | succ N ih_57 =>
            intro i q hm hi hq
            refine Z.iload hX dX7_rootOf_57 rfl ?_
            refine Z.iload_n hX dX7_rootOf_59 rfl rfl ?_
            refine Z.icmp_ge hX 75 dX7_rootOf_60 (by decide) ⟨by omega, by omega⟩ ⟨by omega, by omega⟩ ?_ ?_
            · intro c2
              refine Z.lload hX dX7_rootOf_75 rfl ?_
              refine Z.lload_n hX dX7_rootOf_77 rfl rfl ?_
              refine Z.lcmp_ne hX 86 dX7_rootOf_78 dX7_rootOf_79 (by decide) ?_ ?_
              · intro c3
                refine Z.lconst (v := 0) hX dX7_rootOf_86 rfl ?_
                exact hR _ _ _ _ dX7_rootOf_87 ⟨0, rfl, rfl, Or.inl rfl⟩
              · intro c3
                refine Z.lload_n hX dX7_rootOf_82 rfl rfl ?_
                refine Z.goto hX 87 dX7_rootOf_83 (by decide) ?_
                exact hR _ _ _ _ dX7_rootOf_87 ⟨(zL a), rfl, rfl, rt_end hab hv hq (by assumption)⟩
            · intro c2
              refine Z.lload hX dX7_rootOf_63 rfl ?_
              refine Z.lload_n hX dX7_rootOf_65 rfl rfl ?_
              refine Z.lmul hX dX7_rootOf_66 ?_
              refine Z.lstore (lv' := [(7, .long (q * (zL a))), (9, .int (zI i)), (3, .long (zL a)), (0, .long v), (2, .int (zI k))]) hX dX7_rootOf_67 (by decide) rfl ?_
              refine Z.iinc (lv' := [(9, .int (zI (i + 1))), (7, .long (q * (zL a))), (3, .long (zL a)), (0, .long v), (2, .int (zI k))]) hX dX7_rootOf_69 rfl (by decide) rfl ?_
              refine Z.goto hX 57 dX7_rootOf_72 (by decide) ?_
              refine Z.pick [0, 1, 2, 3, 4] rfl ?_
              exact ih_57 _ _ (by omega) (by omega) (by rw [hq]; exact lpow_s hi.1)
        refine Z.pick [0, 1, 2, 4, 5] rfl ?_
        exact key_57 _ _ _ (Nat.lt_succ_self _) (by omega) rfl
      · intro c1
        have hlt : a < b := zL_nle (by omega) (by omega) (by assumption)
        refine Z.lload_n hX dX7_rootOf_14 rfl rfl ?_
        refine Z.lload hX dX7_rootOf_15 rfl ?_
        refine Z.ladd hX dX7_rootOf_17 ?_
        refine Z.lconst (v := 1) hX dX7_rootOf_18 rfl ?_
        refine Z.ladd hX dX7_rootOf_19 ?_
        refine Z.ldc2 hX dX7_rootOf_20 co_X7_117 ?_
        refine Z.ldiv hX dX7_rootOf_23 (by decide) ?_
        refine Z.vall (y := zL ((a + b + 1) / 2)) (zL_mid hab) ?_
        refine Z.lstore (lv' := [(7, .long (zL ((a + b + 1) / 2))), (3, .long (zL a)), (5, .long (zL b)), (0, .long v), (2, .int (zI k))]) hX dX7_rootOf_24 (by decide) rfl ?_
        refine Z.lload hX dX7_rootOf_26 rfl ?_
        refine Z.iload_n hX dX7_rootOf_28 rfl rfl ?_
        refine Z.lload_n hX dX7_rootOf_29 rfl rfl ?_
        refine Z.callS0i (As := [.long (zL ((a + b + 1) / 2)), .int (zI k), .long v]) (rest := []) hX (ct_X7_isAbove l D ce (zL ((a + b + 1) / 2)) k v (by rw [zL_toInt (by omega) (by omega)]; omega) hk) mc_X7_isAbove ml_X7_119 st_X7_isAbove ini_X7 nd_X7_isAbove ⟨Nat.le_of_ble_eq_true rfl, Nat.le_of_ble_eq_true rfl⟩ ⟨rfl, rfl⟩ ⟨Nat.le_refl _, Nat.le_refl _⟩ rfl (Nat.le_of_ble_eq_true rfl) dX7_rootOf_30 ?_
        rintro r_4 w1 ⟨z5, hr_, hw_, hq6, hq7⟩
        subst hr_
        refine ⟨hw_, ?_⟩
        refine Z.if_eq hX 45 dX7_rootOf_33 (by decide) ⟨by omega, by omega⟩ ?_ ?_
        · intro c8
          refine Z.lload hX dX7_rootOf_45 rfl ?_
          refine Z.lstore_n (lv' := [(3, .long (zL ((a + b + 1) / 2))), (7, .long (zL ((a + b + 1) / 2))), (5, .long (zL b)), (0, .long v), (2, .int (zI k))]) hX dX7_rootOf_47 rfl (by decide) rfl ?_
          refine Z.goto hX 7 dX7_rootOf_48 (by decide) ?_
          refine Z.pick [0, 2, 3, 4] rfl ?_
          exact ih_7 _ _ (by omega) (by omega) (by first | exact hv | exact rt_mid hab (by apply_assumption <;> omega))
        · intro c8
          refine Z.lload hX dX7_rootOf_36 rfl ?_
          refine Z.lconst (v := 1) hX dX7_rootOf_38 rfl ?_
          refine Z.lsub hX dX7_rootOf_39 ?_
          refine Z.vall (y := zL ((a + b + 1) / 2 - 1)) (zL_sub _ 1) ?_
          refine Z.lstore (lv' := [(5, .long (zL ((a + b + 1) / 2 - 1))), (7, .long (zL ((a + b + 1) / 2))), (3, .long (zL a)), (0, .long v), (2, .int (zI k))]) hX dX7_rootOf_40 (by decide) rfl ?_
          refine Z.goto hX 48 dX7_rootOf_42 (by decide) ?_
          refine Z.goto hX 7 dX7_rootOf_48 (by decide) ?_
          refine Z.pick [2, 0, 3, 4] rfl ?_
          exact ih_7 _ _ (by omega) (by omega) (by first | exact hv | exact rt_mid hab (by apply_assumption <;> omega))
  refine Z.pick [1, 0, 2, 3] rfl ?_
  exact key_7 _ _ _ (Nat.lt_succ_self _) (by omega) (Or.inl rfl)
end
section
theorem dX7_reduce_0 : decode cX7_reduce 0 = .ok (.lconst 0, 1) := by decide +kernel
theorem dX7_reduce_1 : decode cX7_reduce 1 = .ok (.lstore_n 1, 1) := by decide +kernel
theorem dX7_reduce_2 : decode cX7_reduce 2 = .ok (.iconst 0, 1) := by decide +kernel
theorem dX7_reduce_3 : decode cX7_reduce 3 = .ok (.istore_n 3, 1) := by decide +kernel
theorem dX7_reduce_4 : decode cX7_reduce 4 = .ok (.iload_n 3, 1) := by decide +kernel
theorem dX7_reduce_5 : decode cX7_reduce 5 = .ok (.iconst 5, 1) := by decide +kernel
theorem dX7_reduce_6 : decode cX7_reduce 6 = .ok (.if_icmp .ge 17, 3) := by decide +kernel
theorem dX7_reduce_9 : decode cX7_reduce 9 = .ok (.lload_n 1, 1) := by decide +kernel
theorem dX7_reduce_10 : decode cX7_reduce 10 = .ok (.aload_n 0, 1) := by decide +kernel
theorem dX7_reduce_11 : decode cX7_reduce 11 = .ok (.iload_n 3, 1) := by decide +kernel
theorem dX7_reduce_12 : decode cX7_reduce 12 = .ok (.laload, 1) := by decide +kernel
theorem dX7_reduce_13 : decode cX7_reduce 13 = .ok (.invokestatic 58, 3) := by decide +kernel
theorem dX7_reduce_16 : decode cX7_reduce 16 = .ok (.lstore_n 1, 1) := by decide +kernel
theorem dX7_reduce_17 : decode cX7_reduce 17 = .ok (.iinc 3 1, 3) := by decide +kernel
theorem dX7_reduce_20 : decode cX7_reduce 20 = .ok (.goto (-16), 3) := by decide +kernel
theorem dX7_reduce_23 : decode cX7_reduce 23 = .ok (.aload_n 0, 1) := by decide +kernel
theorem dX7_reduce_24 : decode cX7_reduce 24 = .ok (.invokestatic 62, 3) := by decide +kernel
theorem dX7_reduce_27 : decode cX7_reduce 27 = .ok (.istore_n 3, 1) := by decide +kernel
theorem dX7_reduce_28 : decode cX7_reduce 28 = .ok (.iload_n 3, 1) := by decide +kernel
theorem dX7_reduce_29 : decode cX7_reduce 29 = .ok (.ifCond .lt 14, 3) := by decide +kernel
theorem dX7_reduce_32 : decode cX7_reduce 32 = .ok (.aload_n 0, 1) := by decide +kernel
theorem dX7_reduce_33 : decode cX7_reduce 33 = .ok (.iload_n 3, 1) := by decide +kernel
theorem dX7_reduce_34 : decode cX7_reduce 34 = .ok (.laload, 1) := by decide +kernel
theorem dX7_reduce_35 : decode cX7_reduce 35 = .ok (.lconst 0, 1) := by decide +kernel
theorem dX7_reduce_36 : decode cX7_reduce 36 = .ok (.lcmp, 1) := by decide +kernel
theorem dX7_reduce_37 : decode cX7_reduce 37 = .ok (.ifCond .ge 6, 3) := by decide +kernel
theorem dX7_reduce_40 : decode cX7_reduce 40 = .ok (.lload_n 1, 1) := by decide +kernel
theorem dX7_reduce_41 : decode cX7_reduce 41 = .ok (.lneg, 1) := by decide +kernel
theorem dX7_reduce_42 : decode cX7_reduce 42 = .ok (.lstore_n 1, 1) := by decide +kernel
theorem dX7_reduce_43 : decode cX7_reduce 43 = .ok (.iconst 0, 1) := by decide +kernel
theorem dX7_reduce_44 : decode cX7_reduce 44 = .ok (.istore 4, 2) := by decide +kernel
theorem dX7_reduce_46 : decode cX7_reduce 46 = .ok (.iload 4, 2) := by decide +kernel
theorem dX7_reduce_48 : decode cX7_reduce 48 = .ok (.iconst 5, 1) := by decide +kernel
theorem dX7_reduce_49 : decode cX7_reduce 49 = .ok (.if_icmp .ge 23, 3) := by decide +kernel
theorem dX7_reduce_52 : decode cX7_reduce 52 = .ok (.lload_n 1, 1) := by decide +kernel
theorem dX7_reduce_53 : decode cX7_reduce 53 = .ok (.lconst 0, 1) := by decide +kernel
theorem dX7_reduce_54 : decode cX7_reduce 54 = .ok (.lcmp, 1) := by decide +kernel
theorem dX7_reduce_55 : decode cX7_reduce 55 = .ok (.ifCond .eq 17, 3) := by decide +kernel
theorem dX7_reduce_58 : decode cX7_reduce 58 = .ok (.aload_n 0, 1) := by decide +kernel
theorem dX7_reduce_59 : decode cX7_reduce 59 = .ok (.iload 4, 2) := by decide +kernel
theorem dX7_reduce_61 : decode cX7_reduce 61 = .ok (.dup2, 1) := by decide +kernel
theorem dX7_reduce_62 : decode cX7_reduce 62 = .ok (.laload, 1) := by decide +kernel
theorem dX7_reduce_63 : decode cX7_reduce 63 = .ok (.lload_n 1, 1) := by decide +kernel
theorem dX7_reduce_64 : decode cX7_reduce 64 = .ok (.ldiv, 1) := by decide +kernel
theorem dX7_reduce_65 : decode cX7_reduce 65 = .ok (.lastore, 1) := by decide +kernel
theorem dX7_reduce_66 : decode cX7_reduce 66 = .ok (.iinc 4 1, 3) := by decide +kernel
theorem dX7_reduce_69 : decode cX7_reduce 69 = .ok (.goto (-23), 3) := by decide +kernel
theorem dX7_reduce_72 : decode cX7_reduce 72 = .ok (.return_, 1) := by decide +kernel
set_option maxHeartbeats 4000000 in
set_option maxRecDepth 100000 in
theorem ct_X7_reduce (l : Launch) (D : va_G) (ce : Nat → ClassId) (ad : Nat) (f : Nat → Int64)  : Ct l yX7_reduce cX7_reduce 5 none { frames := 1, cells := 0, slots := 0, locals := 29 } 0 0 D (TY ce) [.ref ad] ([(ad, .inl (ce 1, 5, .inr (.inl f)))]) (QV D (TY ce) (fun w1 => ∃ f2 : Nat → Int64, w1 = [(ad, .inl (ce 1, 5, .inr (.inl f2)))] ∧ (∀ j : Int, 0 ≤ j → j < 5 → f j.toNat = 0 → f2 j.toNat = 0))) := by
  refine Ct.ofV (by decide) (Nat.le_of_ble_eq_true rfl) ?_
  intro p e s m args below meth c A Q hX hnm hR
  refine Z.pick (lv' := [(0, .ref ad)]) [0] rfl ?_
  refine Z.lconst (v := 0) hX dX7_reduce_0 rfl ?_
  refine Z.lstore_n (lv' := [(1, .long 0), (0, .ref ad)]) hX dX7_reduce_1 rfl (by decide) rfl ?_
  refine Z.iconst hX dX7_reduce_2 ?_
  refine Z.istore_n (lv' := [(3, .int (zI 0)), (1, .long 0), (0, .ref ad)]) hX dX7_reduce_3 rfl (by decide) rfl ?_
  have key_4 : ∀ (N : Nat), ∀ (k : Int) (x : Int64), (5 - k).toNat < N → (hk : 0 ≤ k ∧ k ≤ 5) → Z p l e { frames := 1, cells := 0, slots := 0, locals := 29 } s m args below meth c D A 5 0 0 Q 4 [(3, .int (zI k)), (1, .long x), (0, .ref ad)] [] ([(ad, .inl (ce 1, 5, .inr (.inl f)))]) := by
    intro N
    induction N with
    | zero => intro k x hm; exact absurd hm (Nat.not_lt_zero _)
    | succ N ih_4 =>
      intro k x hm hk
      refine Z.iload_n hX dX7_reduce_4 rfl rfl ?_
      refine Z.iconst hX dX7_reduce_5 ?_
      refine Z.icmp_ge hX 23 dX7_reduce_6 (by decide) ⟨by omega, by omega⟩ ⟨by omega, by omega⟩ ?_ ?_
      · intro c1
        refine Z.aload_n hX dX7_reduce_23 rfl rfl ?_
        refine Z.callS1i (As := [.ref ad]) (rest := []) hX 0 rfl (ct_X7_degreeOf l D ce ad f ) mc_X7_degreeOf ml_X7_62 st_X7_degreeOf ini_X7 nd_X7_degreeOf ⟨Nat.le_of_ble_eq_true rfl, Nat.le_of_ble_eq_true rfl⟩ ⟨rfl, rfl⟩ ⟨Nat.le_refl _, Nat.le_refl _⟩ rfl (Nat.le_of_ble_eq_true rfl) dX7_reduce_24 ?_
        rintro r_2 w1 ⟨z3, hr_, hw_, hq4, hq5, hq6⟩
        subst hr_
        refine ⟨_, hw_, ?_⟩
        refine Z.toW (w' := [(ad, .inl (ce 1, 5, .inr (.inl f)))]) rfl ?_
        refine Z.istore_n (lv' := [(3, .int (zI z3)), (1, .long x), (0, .ref ad)]) hX dX7_reduce_27 rfl (by decide) rfl ?_
        have key_43 : ∀ (x : Int64), Z p l e { frames := 1, cells := 0, slots := 0, locals := 29 } s m args below meth c D A 5 0 0 Q 43 [(1, .long x), (0, .ref ad)] [] ([(ad, .inl (ce 1, 5, .inr (.inl f)))]) := by
          intro x 
          refine Z.iconst hX dX7_reduce_43 ?_
          refine Z.istore (lv' := [(4, .int (zI 0)), (1, .long x), (0, .ref ad)]) hX dX7_reduce_44 (by decide) rfl ?_
          have key_46 : ∀ (N : Nat), ∀ (k : Int) (g : Nat → Int64), (5 - k).toNat < N → (hk2 : 0 ≤ k ∧ k ≤ 5) → (hz : ∀ j : Int, 0 ≤ j → j < 5 → f j.toNat = 0 → g j.toNat = 0) → Z p l e { frames := 1, cells := 0, slots := 0, locals := 29 } s m args below meth c D A 5 0 0 Q 46 [(4, .int (zI k)), (1, .long x), (0, .ref ad)] [] ([(ad, .inl (ce 1, 5, .inr (.inl g)))]) := by
            intro N
            induction N with
            | zero => intro k g hm; exact absurd hm (Nat.not_lt_zero _)
            | succ N ih_46 =>
              intro k g hm hk2 hz
              refine Z.iload hX dX7_reduce_46 rfl ?_
              refine Z.iconst hX dX7_reduce_48 ?_
              refine Z.icmp_ge hX 72 dX7_reduce_49 (by decide) ⟨by omega, by omega⟩ ⟨by omega, by omega⟩ ?_ ?_
              · intro c7
                exact hR _ _ _ dX7_reduce_72 ⟨g, rfl, hz⟩
              · intro c7
                refine Z.lload_n hX dX7_reduce_52 rfl rfl ?_
                refine Z.lconst (v := 0) hX dX7_reduce_53 rfl ?_
                refine Z.lcmp_eq hX 72 dX7_reduce_54 dX7_reduce_55 (by decide) ?_ ?_
                · intro c8
                  exact hR _ _ _ dX7_reduce_72 ⟨g, rfl, hz⟩
                · intro c8
                  refine Z.aload_n hX dX7_reduce_58 rfl rfl ?_
                  refine Z.iload hX dX7_reduce_59 rfl ?_
                  refine Z.dup2 hX dX7_reduce_61 rfl rfl ?_
                  refine Z.laload hX 0 1 dX7_reduce_62 rfl rfl (by omega) (by omega) (by decide) ?_
                  refine Z.lload_n hX dX7_reduce_63 rfl rfl ?_
                  refine Z.ldiv hX dX7_reduce_64 (by assumption) ?_
                  refine Z.lastore hX 0 1 dX7_reduce_65 rfl rfl (by omega) (by omega) (by decide) ?_
                  obtain ⟨f9, ef9⟩ : ∃ J' : Nat → Int64, J' = vp_updL (g) (k : Int).toNat ((g (k : Int).toNat) / x) := ⟨_, rfl⟩
                  refine Z.toW (w' := [(ad, .inl (ce 1, 5, .inr (.inl f9)))]) (by rw [ef9]; rfl) ?_
                  refine Z.iinc (lv' := [(4, .int (zI (k + 1))), (1, .long x), (0, .ref ad)]) hX dX7_reduce_66 rfl (by decide) rfl ?_
                  refine Z.goto hX 46 dX7_reduce_69 (by decide) ?_
                  refine Z.pick [0, 1, 2] rfl ?_
                  exact ih_46 _ _ (by omega) (by omega) (by rw [ef9]; exact red_z hk2.1 hz)
          refine Z.pick [0, 1, 2] rfl ?_
          exact key_46 _ _ _ (Nat.lt_succ_self _) (by omega) (fun _ _ _ h => h)
        refine Z.iload_n hX dX7_reduce_28 rfl rfl ?_
        refine Z.if_lt hX 43 dX7_reduce_29 (by decide) ⟨by omega, by omega⟩ ?_ ?_
        · intro c10
          refine Z.pick [1, 2] rfl ?_
          exact key_43 _
        · intro c10
          refine Z.aload_n hX dX7_reduce_32 rfl rfl ?_
          refine Z.iload_n hX dX7_reduce_33 rfl rfl ?_
          refine Z.laload hX 0 1 dX7_reduce_34 rfl rfl (by omega) (by omega) (by decide) ?_
          refine Z.lconst (v := 0) hX dX7_reduce_35 rfl ?_
          refine Z.lcmp_ge hX 43 dX7_reduce_36 dX7_reduce_37 (by decide) ?_ ?_
          · intro c11
            refine Z.pick [1, 2] rfl ?_
            exact key_43 _
          · intro c11
            refine Z.lload_n hX dX7_reduce_40 rfl rfl ?_
            refine Z.lneg hX dX7_reduce_41 ?_
            refine Z.lstore_n (lv' := [(1, .long (-x)), (3, .int (zI z3)), (0, .ref ad)]) hX dX7_reduce_42 rfl (by decide) rfl ?_
            refine Z.pick [0, 2] rfl ?_
            exact key_43 _
      · intro c1
        refine Z.lload_n hX dX7_reduce_9 rfl rfl ?_
        refine Z.aload_n hX dX7_reduce_10 rfl rfl ?_
        refine Z.iload_n hX dX7_reduce_11 rfl rfl ?_
        refine Z.laload hX 0 1 dX7_reduce_12 rfl rfl (by omega) (by omega) (by decide) ?_
        refine Z.callS0l (As := [.long x, .long (f (k : Int).toNat)]) (rest := []) hX (ct_X7_common l D ce x (f (k : Int).toNat) ) mc_X7_common ml_X7_58 st_X7_common ini_X7 nd_X7_common ⟨Nat.le_of_ble_eq_true rfl, Nat.le_of_ble_eq_true rfl⟩ ⟨rfl, rfl⟩ ⟨Nat.le_refl _, Nat.le_refl _⟩ rfl (Nat.le_of_ble_eq_true rfl) dX7_reduce_13 ?_
        rintro r_12 w1 ⟨r013, hr_, hw_, hq14⟩
        subst hr_
        refine ⟨hw_, ?_⟩
        refine Z.lstore_n (lv' := [(1, .long r_12), (3, .int (zI k)), (0, .ref ad)]) hX dX7_reduce_16 rfl (by decide) rfl ?_
        refine Z.iinc (lv' := [(3, .int (zI (k + 1))), (1, .long r_12), (0, .ref ad)]) hX dX7_reduce_17 rfl (by decide) rfl ?_
        refine Z.goto hX 4 dX7_reduce_20 (by decide) ?_
        refine Z.pick [0, 1, 2] rfl ?_
        exact ih_4 _ _ (by omega) (by omega)
  refine Z.pick [0, 1, 2] rfl ?_
  exact key_4 _ _ _ (Nat.lt_succ_self _) (by omega)

theorem dX7_divisor_0 : decode cX7_divisor 0 = .ok (.aload_n 0, 1) := by decide +kernel
theorem dX7_divisor_1 : decode cX7_divisor 1 = .ok (.getfield 30, 3) := by decide +kernel
theorem dX7_divisor_4 : decode cX7_divisor 4 = .ok (.invokestatic 66, 3) := by decide +kernel
theorem dX7_divisor_7 : decode cX7_divisor 7 = .ok (.aload_n 0, 1) := by decide +kernel
theorem dX7_divisor_8 : decode cX7_divisor 8 = .ok (.getfield 33, 3) := by decide +kernel
theorem dX7_divisor_11 : decode cX7_divisor 11 = .ok (.invokestatic 66, 3) := by decide +kernel
theorem dX7_divisor_14 : decode cX7_divisor 14 = .ok (.aload_n 0, 1) := by decide +kernel
theorem dX7_divisor_15 : decode cX7_divisor 15 = .ok (.getfield 33, 3) := by decide +kernel
theorem dX7_divisor_18 : decode cX7_divisor 18 = .ok (.invokestatic 62, 3) := by decide +kernel
theorem dX7_divisor_21 : decode cX7_divisor 21 = .ok (.ifCond .lt 162, 3) := by decide +kernel
theorem dX7_divisor_24 : decode cX7_divisor 24 = .ok (.aload_n 0, 1) := by decide +kernel
theorem dX7_divisor_25 : decode cX7_divisor 25 = .ok (.getfield 33, 3) := by decide +kernel
theorem dX7_divisor_28 : decode cX7_divisor 28 = .ok (.invokestatic 62, 3) := by decide +kernel
theorem dX7_divisor_31 : decode cX7_divisor 31 = .ok (.istore_n 1, 1) := by decide +kernel
theorem dX7_divisor_32 : decode cX7_divisor 32 = .ok (.aload_n 0, 1) := by decide +kernel
theorem dX7_divisor_33 : decode cX7_divisor 33 = .ok (.getfield 30, 3) := by decide +kernel
theorem dX7_divisor_36 : decode cX7_divisor 36 = .ok (.invokestatic 62, 3) := by decide +kernel
theorem dX7_divisor_39 : decode cX7_divisor 39 = .ok (.iload_n 1, 1) := by decide +kernel
theorem dX7_divisor_40 : decode cX7_divisor 40 = .ok (.if_icmp .lt 101, 3) := by decide +kernel
theorem dX7_divisor_43 : decode cX7_divisor 43 = .ok (.aload_n 0, 1) := by decide +kernel
theorem dX7_divisor_44 : decode cX7_divisor 44 = .ok (.getfield 30, 3) := by decide +kernel
theorem dX7_divisor_47 : decode cX7_divisor 47 = .ok (.invokestatic 62, 3) := by decide +kernel
theorem dX7_divisor_50 : decode cX7_divisor 50 = .ok (.istore_n 2, 1) := by decide +kernel
theorem dX7_divisor_51 : decode cX7_divisor 51 = .ok (.aload_n 0, 1) := by decide +kernel
theorem dX7_divisor_52 : decode cX7_divisor 52 = .ok (.getfield 30, 3) := by decide +kernel
theorem dX7_divisor_55 : decode cX7_divisor 55 = .ok (.iload_n 2, 1) := by decide +kernel
theorem dX7_divisor_56 : decode cX7_divisor 56 = .ok (.laload, 1) := by decide +kernel
theorem dX7_divisor_57 : decode cX7_divisor 57 = .ok (.lstore_n 3, 1) := by decide +kernel
theorem dX7_divisor_58 : decode cX7_divisor 58 = .ok (.aload_n 0, 1) := by decide +kernel
theorem dX7_divisor_59 : decode cX7_divisor 59 = .ok (.getfield 33, 3) := by decide +kernel
theorem dX7_divisor_62 : decode cX7_divisor 62 = .ok (.iload_n 1, 1) := by decide +kernel
theorem dX7_divisor_63 : decode cX7_divisor 63 = .ok (.laload, 1) := by decide +kernel
theorem dX7_divisor_64 : decode cX7_divisor 64 = .ok (.lstore 5, 2) := by decide +kernel
theorem dX7_divisor_66 : decode cX7_divisor 66 = .ok (.iconst 0, 1) := by decide +kernel
theorem dX7_divisor_67 : decode cX7_divisor 67 = .ok (.istore 7, 2) := by decide +kernel
theorem dX7_divisor_69 : decode cX7_divisor 69 = .ok (.iload 7, 2) := by decide +kernel
theorem dX7_divisor_71 : decode cX7_divisor 71 = .ok (.iconst 5, 1) := by decide +kernel
theorem dX7_divisor_72 : decode cX7_divisor 72 = .ok (.if_icmp .ge 21, 3) := by decide +kernel
theorem dX7_divisor_75 : decode cX7_divisor 75 = .ok (.aload_n 0, 1) := by decide +kernel
theorem dX7_divisor_76 : decode cX7_divisor 76 = .ok (.getfield 30, 3) := by decide +kernel
theorem dX7_divisor_79 : decode cX7_divisor 79 = .ok (.iload 7, 2) := by decide +kernel
theorem dX7_divisor_81 : decode cX7_divisor 81 = .ok (.dup2, 1) := by decide +kernel
theorem dX7_divisor_82 : decode cX7_divisor 82 = .ok (.laload, 1) := by decide +kernel
theorem dX7_divisor_83 : decode cX7_divisor 83 = .ok (.lload 5, 2) := by decide +kernel
theorem dX7_divisor_85 : decode cX7_divisor 85 = .ok (.lmul, 1) := by decide +kernel
theorem dX7_divisor_86 : decode cX7_divisor 86 = .ok (.lastore, 1) := by decide +kernel
theorem dX7_divisor_87 : decode cX7_divisor 87 = .ok (.iinc 7 1, 3) := by decide +kernel
theorem dX7_divisor_90 : decode cX7_divisor 90 = .ok (.goto (-21), 3) := by decide +kernel
theorem dX7_divisor_93 : decode cX7_divisor 93 = .ok (.iconst 0, 1) := by decide +kernel
theorem dX7_divisor_94 : decode cX7_divisor 94 = .ok (.istore 7, 2) := by decide +kernel
theorem dX7_divisor_96 : decode cX7_divisor 96 = .ok (.iload 7, 2) := by decide +kernel
theorem dX7_divisor_98 : decode cX7_divisor 98 = .ok (.iload_n 1, 1) := by decide +kernel
theorem dX7_divisor_99 : decode cX7_divisor 99 = .ok (.if_icmp .gt 32, 3) := by decide +kernel
theorem dX7_divisor_102 : decode cX7_divisor 102 = .ok (.aload_n 0, 1) := by decide +kernel
theorem dX7_divisor_103 : decode cX7_divisor 103 = .ok (.getfield 30, 3) := by decide +kernel
theorem dX7_divisor_106 : decode cX7_divisor 106 = .ok (.iload_n 2, 1) := by decide +kernel
theorem dX7_divisor_107 : decode cX7_divisor 107 = .ok (.iload_n 1, 1) := by decide +kernel
theorem dX7_divisor_108 : decode cX7_divisor 108 = .ok (.isub, 1) := by decide +kernel
theorem dX7_divisor_109 : decode cX7_divisor 109 = .ok (.iload 7, 2) := by decide +kernel
theorem dX7_divisor_111 : decode cX7_divisor 111 = .ok (.iadd, 1) := by decide +kernel
theorem dX7_divisor_112 : decode cX7_divisor 112 = .ok (.dup2, 1) := by decide +kernel
theorem dX7_divisor_113 : decode cX7_divisor 113 = .ok (.laload, 1) := by decide +kernel
theorem dX7_divisor_114 : decode cX7_divisor 114 = .ok (.lload_n 3, 1) := by decide +kernel
theorem dX7_divisor_115 : decode cX7_divisor 115 = .ok (.aload_n 0, 1) := by decide +kernel
theorem dX7_divisor_116 : decode cX7_divisor 116 = .ok (.getfield 33, 3) := by decide +kernel
theorem dX7_divisor_119 : decode cX7_divisor 119 = .ok (.iload 7, 2) := by decide +kernel
theorem dX7_divisor_121 : decode cX7_divisor 121 = .ok (.laload, 1) := by decide +kernel
theorem dX7_divisor_122 : decode cX7_divisor 122 = .ok (.lmul, 1) := by decide +kernel
theorem dX7_divisor_123 : decode cX7_divisor 123 = .ok (.lsub, 1) := by decide +kernel
theorem dX7_divisor_124 : decode cX7_divisor 124 = .ok (.lastore, 1) := by decide +kernel
theorem dX7_divisor_125 : decode cX7_divisor 125 = .ok (.iinc 7 1, 3) := by decide +kernel
theorem dX7_divisor_128 : decode cX7_divisor 128 = .ok (.goto (-32), 3) := by decide +kernel
theorem dX7_divisor_131 : decode cX7_divisor 131 = .ok (.aload_n 0, 1) := by decide +kernel
theorem dX7_divisor_132 : decode cX7_divisor 132 = .ok (.getfield 30, 3) := by decide +kernel
theorem dX7_divisor_135 : decode cX7_divisor 135 = .ok (.invokestatic 66, 3) := by decide +kernel
theorem dX7_divisor_138 : decode cX7_divisor 138 = .ok (.goto (-106), 3) := by decide +kernel
theorem dX7_divisor_141 : decode cX7_divisor 141 = .ok (.iconst 0, 1) := by decide +kernel
theorem dX7_divisor_142 : decode cX7_divisor 142 = .ok (.istore_n 2, 1) := by decide +kernel
theorem dX7_divisor_143 : decode cX7_divisor 143 = .ok (.iload_n 2, 1) := by decide +kernel
theorem dX7_divisor_144 : decode cX7_divisor 144 = .ok (.iconst 5, 1) := by decide +kernel
theorem dX7_divisor_145 : decode cX7_divisor 145 = .ok (.if_icmp .ge 35, 3) := by decide +kernel
theorem dX7_divisor_148 : decode cX7_divisor 148 = .ok (.aload_n 0, 1) := by decide +kernel
theorem dX7_divisor_149 : decode cX7_divisor 149 = .ok (.getfield 30, 3) := by decide +kernel
theorem dX7_divisor_152 : decode cX7_divisor 152 = .ok (.iload_n 2, 1) := by decide +kernel
theorem dX7_divisor_153 : decode cX7_divisor 153 = .ok (.laload, 1) := by decide +kernel
theorem dX7_divisor_154 : decode cX7_divisor 154 = .ok (.lstore_n 3, 1) := by decide +kernel
theorem dX7_divisor_155 : decode cX7_divisor 155 = .ok (.aload_n 0, 1) := by decide +kernel
theorem dX7_divisor_156 : decode cX7_divisor 156 = .ok (.getfield 30, 3) := by decide +kernel
theorem dX7_divisor_159 : decode cX7_divisor 159 = .ok (.iload_n 2, 1) := by decide +kernel
theorem dX7_divisor_160 : decode cX7_divisor 160 = .ok (.aload_n 0, 1) := by decide +kernel
theorem dX7_divisor_161 : decode cX7_divisor 161 = .ok (.getfield 33, 3) := by decide +kernel
theorem dX7_divisor_164 : decode cX7_divisor 164 = .ok (.iload_n 2, 1) := by decide +kernel
theorem dX7_divisor_165 : decode cX7_divisor 165 = .ok (.laload, 1) := by decide +kernel
theorem dX7_divisor_166 : decode cX7_divisor 166 = .ok (.lastore, 1) := by decide +kernel
theorem dX7_divisor_167 : decode cX7_divisor 167 = .ok (.aload_n 0, 1) := by decide +kernel
theorem dX7_divisor_168 : decode cX7_divisor 168 = .ok (.getfield 33, 3) := by decide +kernel
theorem dX7_divisor_171 : decode cX7_divisor 171 = .ok (.iload_n 2, 1) := by decide +kernel
theorem dX7_divisor_172 : decode cX7_divisor 172 = .ok (.lload_n 3, 1) := by decide +kernel
theorem dX7_divisor_173 : decode cX7_divisor 173 = .ok (.lastore, 1) := by decide +kernel
theorem dX7_divisor_174 : decode cX7_divisor 174 = .ok (.iinc 2 1, 3) := by decide +kernel
theorem dX7_divisor_177 : decode cX7_divisor 177 = .ok (.goto (-34), 3) := by decide +kernel
theorem dX7_divisor_180 : decode cX7_divisor 180 = .ok (.goto (-166), 3) := by decide +kernel
theorem dX7_divisor_183 : decode cX7_divisor 183 = .ok (.return_, 1) := by decide +kernel
set_option maxHeartbeats 4000000 in
set_option maxRecDepth 100000 in
theorem ct_X7_divisor (l : Launch) (D : va_G) (ce : Nat → ClassId) (h : Nat → Nat) (F : Nat → Int) (I : Nat → Nat → Int32) (J : Nat → Nat → Int64)  : Ct l yX7_divisor cX7_divisor 8 none { frames := 2, cells := 0, slots := 0, locals := 53 } 0 0 D (TY ce) [.ref (h 0)] (rW ce h F I J) (QV D (TY ce) (fun w1 => ∃ J2 : Nat → Nat → Int64, w1 = rW ce h F I J2 ∧ (∀ k, k ≠ 2 → k ≠ 3 → J2 k = J k))) := by
  refine Ct.ofV (by decide) (Nat.le_of_ble_eq_true rfl) ?_
  intro p e s m args below meth c A Q hX hnm hR
  refine Z.pick (lv' := [(0, .ref (h 0))]) [0] rfl ?_
  refine Z.aload_n hX dX7_divisor_0 rfl rfl ?_
  refine Z.getf hX 7 0 9 dX7_divisor_1 rfl rfl inX7 (by decide) fl_X7_30 rfl rfl ?_
  refine Z.callS1v (As := [.ref (h 7)]) (rest := []) hX 7 rfl (ct_X7_reduce l D ce ((h 7)) (J 2) ) mc_X7_reduce ml_X7_66 st_X7_reduce ini_X7 nd_X7_reduce ⟨Nat.le_of_ble_eq_true rfl, Nat.le_of_ble_eq_true rfl⟩ ⟨rfl, rfl⟩ ⟨Nat.le_refl _, Nat.le_refl _⟩ rfl (Nat.le_of_ble_eq_true rfl) dX7_divisor_4 ?_
  rintro w1 ⟨f22, hw_, hq3⟩
  refine ⟨_, hw_, ?_⟩
  obtain ⟨J4, eJ4⟩ : ∃ J' : Nat → Nat → Int64, J' = va_up J 2 (f22) := ⟨_, rfl⟩
  refine Z.toW (w' := rW ce h F I J4) (by rw [eJ4]; rfl) ?_
  have gJ4 : J4 2 = f22 := by rw [eJ4]; exact up_eq
  have fJ4 : ∀ k, k ≠ 2 → J4 k = J k := fun k hk => by rw [eJ4]; exact up_ne hk
  refine Z.aload_n hX dX7_divisor_7 rfl rfl ?_
  refine Z.getf hX 7 0 10 dX7_divisor_8 rfl rfl inX7 (by decide) fl_X7_33 rfl rfl ?_
  refine Z.callS1v (As := [.ref (h 8)]) (rest := []) hX 8 rfl (ct_X7_reduce l D ce ((h 8)) (J4 3) ) mc_X7_reduce ml_X7_66 st_X7_reduce ini_X7 nd_X7_reduce ⟨Nat.le_of_ble_eq_true rfl, Nat.le_of_ble_eq_true rfl⟩ ⟨rfl, rfl⟩ ⟨Nat.le_refl _, Nat.le_refl _⟩ rfl (Nat.le_of_ble_eq_true rfl) dX7_divisor_11 ?_
  rintro w1 ⟨f26, hw_, hq7⟩
  refine ⟨_, hw_, ?_⟩
  obtain ⟨J8, eJ8⟩ : ∃ J' : Nat → Nat → Int64, J' = va_up J4 3 (f26) := ⟨_, rfl⟩
  refine Z.toW (w' := rW ce h F I J8) (by rw [eJ8]; rfl) ?_
  have gJ8 : J8 3 = f26 := by rw [eJ8]; exact up_eq
  have fJ8 : ∀ k, k ≠ 3 → J8 k = J4 k := fun k hk => by rw [eJ8]; exact up_ne hk
  have key_14 : ∀ (N : Nat), ∀ (t : Int) (M : Nat → Nat → Int64), (t + 1).toNat < N → (ht : -1 ≤ t ∧ t ≤ 4) → (hz : ∀ j : Int, t < j → j ≤ 4 → M 3 j.toNat = 0) → (hM : ∀ k, k ≠ 2 → k ≠ 3 → M k = J k) → Z p l e { frames := 2, cells := 0, slots := 0, locals := 53 } s m args below meth c D A 8 0 0 Q 14 [(0, .ref (h 0))] [] (rW ce h F I M) := by
    intro N
    induction N with
    | zero => intro t M hm; exact absurd hm (Nat.not_lt_zero _)
    | succ N ih_14 =>
      intro t M hm ht hz hM
      refine Z.aload_n hX dX7_divisor_14 rfl rfl ?_
      refine Z.getf hX 7 0 10 dX7_divisor_15 rfl rfl inX7 (by decide) fl_X7_33 rfl rfl ?_
      refine Z.callS1i (As := [.ref (h 8)]) (rest := []) hX 8 rfl (ct_X7_degreeOf l D ce ((h 8)) (M 3) ) mc_X7_degreeOf ml_X7_62 st_X7_degreeOf ini_X7 nd_X7_degreeOf ⟨Nat.le_of_ble_eq_true rfl, Nat.le_of_ble_eq_true rfl⟩ ⟨rfl, rfl⟩ ⟨Nat.le_refl _, Nat.le_refl _⟩ rfl (Nat.le_of_ble_eq_true rfl) dX7_divisor_18 ?_
      rintro r_9 w1 ⟨z1, hr_, hw_, p1, p2, p3⟩
      subst hr_
      refine ⟨_, hw_, ?_⟩
      refine Z.toW (w' := rW ce h F I M) rfl ?_
      refine Z.if_lt hX 183 dX7_divisor_21 (by decide) ⟨by omega, by omega⟩ ?_ ?_
      · intro c10
        exact hR _ _ _ dX7_divisor_183 ⟨M, rfl, (fun k h2 h3 => (hM k h2 h3))⟩
      · intro c10
        refine Z.aload_n hX dX7_divisor_24 rfl rfl ?_
        refine Z.getf hX 7 0 10 dX7_divisor_25 rfl rfl inX7 (by decide) fl_X7_33 rfl rfl ?_
        refine Z.callS1i (As := [.ref (h 8)]) (rest := []) hX 8 rfl (ct_X7_degreeOf l D ce ((h 8)) (M 3) ) mc_X7_degreeOf ml_X7_62 st_X7_degreeOf ini_X7 nd_X7_degreeOf ⟨Nat.le_of_ble_eq_true rfl, Nat.le_of_ble_eq_true rfl⟩ ⟨rfl, rfl⟩ ⟨Nat.le_refl _, Nat.le_refl _⟩ rfl (Nat.le_of_ble_eq_true rfl) dX7_divisor_28 ?_
        rintro r_11 w1 ⟨d, hr_, hw_, d1, d2, d3⟩
        subst hr_
        refine ⟨_, hw_, ?_⟩
        refine Z.toW (w' := rW ce h F I M) rfl ?_
        have ed : z1 = d := dg_uq p1 p2 p3 d1 d2 d3
        refine Z.istore_n (lv' := [(1, .int (zI d)), (0, .ref (h 0))]) hX dX7_divisor_31 rfl (by decide) rfl ?_
        have key_32 : ∀ (N : Nat), ∀ (u : Int) (M1 : Nat → Nat → Int64), (u + 1).toNat < N → (hu0 : -1 ≤ u ∧ u ≤ 4) → (hu1 : ∀ j : Int, u < j → j ≤ 4 → M1 2 j.toNat = 0) → (h3 : M1 3 = M 3) → (hM1 : ∀ k, k ≠ 2 → k ≠ 3 → M1 k = J k) → Z p l e { frames := 2, cells := 0, slots := 0, locals := 53 } s m args below meth c D A 8 0 0 Q 32 [(1, .int (zI d)), (0, .ref (h 0))] [] (rW ce h F I M1) := by
          intro N
          induction N with
          | zero => intro u M1 hm; exact absurd hm (Nat.not_lt_zero _)
          | succ N ih_32 =>
            intro u M1 hm hu0 hu1 h3 hM1
            refine Z.aload_n hX dX7_divisor_32 rfl rfl ?_
            refine Z.getf hX 7 0 9 dX7_divisor_33 rfl rfl inX7 (by decide) fl_X7_30 rfl rfl ?_
            refine Z.callS1i (As := [.ref (h 7)]) (rest := []) hX 7 rfl (ct_X7_degreeOf l D ce ((h 7)) (M1 2) ) mc_X7_degreeOf ml_X7_62 st_X7_degreeOf ini_X7 nd_X7_degreeOf ⟨Nat.le_of_ble_eq_true rfl, Nat.le_of_ble_eq_true rfl⟩ ⟨rfl, rfl⟩ ⟨Nat.le_refl _, Nat.le_refl _⟩ rfl (Nat.le_of_ble_eq_true rfl) dX7_divisor_36 ?_
            rintro r_12 w1 ⟨ea, hr_, hw_, a1, a2, a3⟩
            subst hr_
            refine ⟨_, hw_, ?_⟩
            refine Z.toW (w' := rW ce h F I M1) rfl ?_
            refine Z.iload_n hX dX7_divisor_39 rfl rfl ?_
            refine Z.icmp_lt hX 141 dX7_divisor_40 (by decide) ⟨by omega, by omega⟩ ⟨by omega, by omega⟩ ?_ ?_
            · intro c13
              refine Z.iconst hX dX7_divisor_141 ?_
              refine Z.istore_n (lv' := [(2, .int (zI 0)), (1, .int (zI d)), (0, .ref (h 0))]) hX dX7_divisor_142 rfl (by decide) rfl ?_
              have key_143 : ∀ (N : Nat), ∀ (k : Int) (M4 : Nat → Nat → Int64), (5 - k).toNat < N → (hk4 : 0 ≤ k ∧ k ≤ 5) → (hs0 : ∀ j : Int, k ≤ j → j ≤ 4 → M4 2 j.toNat = M1 2 j.toNat ∧ M4 3 j.toNat = M1 3 j.toNat) → (hs : ∀ j : Int, 0 ≤ j → j < k → M4 2 j.toNat = M1 3 j.toNat ∧ M4 3 j.toNat = M1 2 j.toNat) → (hM4 : ∀ k, k ≠ 2 → k ≠ 3 → M4 k = J k) → Z p l e { frames := 2, cells := 0, slots := 0, locals := 53 } s m args below meth c D A 8 0 0 Q 143 [(2, .int (zI k)), (0, .ref (h 0))] [] (rW ce h F I M4) := by
                intro N
                induction N with
                | zero => intro k M4 hm; exact absurd hm (Nat.not_lt_zero _)
                | succ N ih_143 =>
                  intro k M4 hm hk4 hs0 hs hM4
                  refine Z.iload_n hX dX7_divisor_143 rfl rfl ?_
                  refine Z.iconst hX dX7_divisor_144 ?_
                  refine Z.icmp_ge hX 180 dX7_divisor_145 (by decide) ⟨by omega, by omega⟩ ⟨by omega, by omega⟩ ?_ ?_
                  · intro c14
                    refine Z.goto hX 14 dX7_divisor_180 (by decide) ?_
                    refine Z.pick [1] rfl ?_
                    exact ih_14 (d - 1) _ (by have hdt : d ≤ t := dg_le d1 d3 hz (by omega); omega) (by omega) (fun j h1 h2 => by rw [(hs j (by omega) (by omega)).2]; exact a2 j (by omega) h2) (fun k h2 h3 => (hM4 k h2 h3))
                  · intro c14
                    refine Z.aload_n hX dX7_divisor_148 rfl rfl ?_
                    refine Z.getf hX 7 0 9 dX7_divisor_149 rfl rfl inX7 (by decide) fl_X7_30 rfl rfl ?_
                    refine Z.iload_n hX dX7_divisor_152 rfl rfl ?_
                    refine Z.laload hX 7 1 dX7_divisor_153 rfl rfl (by omega) (by omega) (by decide) ?_
                    refine Z.lstore_n (lv' := [(3, .long (M4 2 (k : Int).toNat)), (2, .int (zI k)), (0, .ref (h 0))]) hX dX7_divisor_154 rfl (by decide) rfl ?_
                    refine Z.aload_n hX dX7_divisor_155 rfl rfl ?_
                    refine Z.getf hX 7 0 9 dX7_divisor_156 rfl rfl inX7 (by decide) fl_X7_30 rfl rfl ?_
                    refine Z.iload_n hX dX7_divisor_159 rfl rfl ?_
                    refine Z.aload_n hX dX7_divisor_160 rfl rfl ?_
                    refine Z.getf hX 7 0 10 dX7_divisor_161 rfl rfl inX7 (by decide) fl_X7_33 rfl rfl ?_
                    refine Z.iload_n hX dX7_divisor_164 rfl rfl ?_
                    refine Z.laload hX 8 1 dX7_divisor_165 rfl rfl (by omega) (by omega) (by decide) ?_
                    refine Z.lastore hX 7 1 dX7_divisor_166 rfl rfl (by omega) (by omega) (by decide) ?_
                    obtain ⟨J15, eJ15⟩ : ∃ J' : Nat → Nat → Int64, J' = va_up M4 2 (vp_updL (M4 2) (k : Int).toNat (M4 3 (k : Int).toNat)) := ⟨_, rfl⟩
                    refine Z.toW (w' := rW ce h F I J15) (by rw [eJ15]; rfl) ?_
                    have gJ15 : J15 2 = vp_updL (M4 2) (k : Int).toNat (M4 3 (k : Int).toNat) := by rw [eJ15]; exact up_eq
                    have fJ15 : ∀ k, k ≠ 2 → J15 k = M4 k := fun k hk => by rw [eJ15]; exact up_ne hk
                    refine Z.aload_n hX dX7_divisor_167 rfl rfl ?_
                    refine Z.getf hX 7 0 10 dX7_divisor_168 rfl rfl inX7 (by decide) fl_X7_33 rfl rfl ?_
                    refine Z.iload_n hX dX7_divisor_171 rfl rfl ?_
                    refine Z.lload_n hX dX7_divisor_172 rfl rfl ?_
                    refine Z.lastore hX 8 1 dX7_divisor_173 rfl rfl (by omega) (by omega) (by decide) ?_
                    obtain ⟨J16, eJ16⟩ : ∃ J' : Nat → Nat → Int64, J' = va_up J15 3 (vp_updL (J15 3) (k : Int).toNat (M4 2 (k : Int).toNat)) := ⟨_, rfl⟩
                    refine Z.toW (w' := rW ce h F I J16) (by rw [eJ16]; rfl) ?_
                    have gJ16 : J16 3 = vp_updL (J15 3) (k : Int).toNat (M4 2 (k : Int).toNat) := by rw [eJ16]; exact up_eq
                    have fJ16 : ∀ k, k ≠ 3 → J16 k = J15 k := fun k hk => by rw [eJ16]; exact up_ne hk
                    refine Z.iinc (lv' := [(2, .int (zI (k + 1))), (3, .long (M4 2 (k : Int).toNat)), (0, .ref (h 0))]) hX dX7_divisor_174 rfl (by decide) rfl ?_
                    refine Z.goto hX 143 dX7_divisor_177 (by decide) ?_
                    refine Z.pick [0, 2] rfl ?_
                    exact ih_143 _ _ (by omega) (by omega) (dv_sw hk4.1 ((fJ16 2 (by decide)).trans gJ15) (by rw [gJ16, fJ15 3 (by decide)]) (by omega) hs0 hs).1 (dv_sw hk4.1 ((fJ16 2 (by decide)).trans gJ15) (by rw [gJ16, fJ15 3 (by decide)]) (by omega) hs0 hs).2 (fun k h2 h3 => ((fJ16 k h3).trans ((fJ15 k h2).trans (hM4 k h2 h3))))
              refine Z.pick [0, 2] rfl ?_
              exact key_143 _ _ _ (Nat.lt_succ_self _) (by omega) (fun j _ _ => ⟨rfl, rfl⟩) (fun j h1 h2 => by omega) (fun k h2 h3 => (hM1 k h2 h3))
            · intro c13
              refine Z.aload_n hX dX7_divisor_43 rfl rfl ?_
              refine Z.getf hX 7 0 9 dX7_divisor_44 rfl rfl inX7 (by decide) fl_X7_30 rfl rfl ?_
              refine Z.callS1i (As := [.ref (h 7)]) (rest := []) hX 7 rfl (ct_X7_degreeOf l D ce ((h 7)) (M1 2) ) mc_X7_degreeOf ml_X7_62 st_X7_degreeOf ini_X7 nd_X7_degreeOf ⟨Nat.le_of_ble_eq_true rfl, Nat.le_of_ble_eq_true rfl⟩ ⟨rfl, rfl⟩ ⟨Nat.le_refl _, Nat.le_refl _⟩ rfl (Nat.le_of_ble_eq_true rfl) dX7_divisor_47 ?_
              rintro r_17 w1 ⟨e0, hr_, hw_, e1, e2, e3⟩
              subst hr_
              refine ⟨_, hw_, ?_⟩
              refine Z.toW (w' := rW ce h F I M1) rfl ?_
              have ee : ea = e0 := dg_uq a1 a2 a3 e1 e2 e3
              refine Z.istore_n (lv' := [(2, .int (zI e0)), (1, .int (zI d)), (0, .ref (h 0))]) hX dX7_divisor_50 rfl (by decide) rfl ?_
              refine Z.aload_n hX dX7_divisor_51 rfl rfl ?_
              refine Z.getf hX 7 0 9 dX7_divisor_52 rfl rfl inX7 (by decide) fl_X7_30 rfl rfl ?_
              refine Z.iload_n hX dX7_divisor_55 rfl rfl ?_
              refine Z.laload hX 7 1 dX7_divisor_56 rfl rfl (by omega) (by omega) (by decide) ?_
              refine Z.lstore_n (lv' := [(3, .long (M1 2 (e0 : Int).toNat)), (2, .int (zI e0)), (1, .int (zI d)), (0, .ref (h 0))]) hX dX7_divisor_57 rfl (by decide) rfl ?_
              refine Z.aload_n hX dX7_divisor_58 rfl rfl ?_
              refine Z.getf hX 7 0 10 dX7_divisor_59 rfl rfl inX7 (by decide) fl_X7_33 rfl rfl ?_
              refine Z.iload_n hX dX7_divisor_62 rfl rfl ?_
              refine Z.laload hX 8 1 dX7_divisor_63 rfl rfl (by omega) (by omega) (by decide) ?_
              refine Z.lstore (lv' := [(5, .long (M1 3 (d : Int).toNat)), (3, .long (M1 2 (e0 : Int).toNat)), (2, .int (zI e0)), (1, .int (zI d)), (0, .ref (h 0))]) hX dX7_divisor_64 (by decide) rfl ?_
              refine Z.iconst hX dX7_divisor_66 ?_
              refine Z.istore (lv' := [(7, .int (zI 0)), (5, .long (M1 3 (d : Int).toNat)), (3, .long (M1 2 (e0 : Int).toNat)), (2, .int (zI e0)), (1, .int (zI d)), (0, .ref (h 0))]) hX dX7_divisor_67 (by decide) rfl ?_
              have key_69 : ∀ (N : Nat), ∀ (k : Int) (M2 : Nat → Nat → Int64), (5 - k).toNat < N → (hk : 0 ≤ k ∧ k ≤ 5) → (hp : ∀ j : Int, 0 ≤ j → j ≤ 4 → M2 2 j.toNat = if j < k then M1 2 j.toNat * (M1 3 (d).toNat) else M1 2 j.toNat) → (h32 : M2 3 = M1 3) → (hM2 : ∀ k, k ≠ 2 → k ≠ 3 → M2 k = J k) → Z p l e { frames := 2, cells := 0, slots := 0, locals := 53 } s m args below meth c D A 8 0 0 Q 69 [(7, .int (zI k)), (5, .long (M1 3 (d).toNat)), (3, .long (M1 2 (e0).toNat)), (2, .int (zI e0)), (1, .int (zI d)), (0, .ref (h 0))] [] (rW ce h F I M2) := by
                intro N
                induction N with
                | zero => intro k M2 hm; exact absurd hm (Nat.not_lt_zero _)
                | succ N ih_69 =>
                  intro k M2 hm hk hp h32 hM2
                  refine Z.iload hX dX7_divisor_69 rfl ?_
                  refine Z.iconst hX dX7_divisor_71 ?_
                  refine Z.icmp_ge hX 93 dX7_divisor_72 (by decide) ⟨by omega, by omega⟩ ⟨by omega, by omega⟩ ?_ ?_
                  · intro c18
                    refine Z.iconst hX dX7_divisor_93 ?_
                    refine Z.istore (lv' := [(7, .int (zI 0)), (5, .long (M1 3 (d).toNat)), (3, .long (M1 2 (e0).toNat)), (2, .int (zI e0)), (1, .int (zI d)), (0, .ref (h 0))]) hX dX7_divisor_94 (by decide) rfl ?_
                    have key_96 : ∀ (N : Nat), ∀ (k : Int) (M3 : Nat → Nat → Int64), (d + 1 - k).toNat < N → (hk3 : 0 ≤ k ∧ k ≤ d + 1) → (hk9 : (k ≤ d → M3 2 e0.toNat = M1 2 (e0).toNat * M1 3 (d).toNat) ∧ (d < k → M3 2 e0.toNat = 0)) → (hz3 : ∀ j : Int, e0 < j → j ≤ 4 → M3 2 j.toNat = 0) → (h33 : M3 3 = M1 3) → (hM3 : ∀ k, k ≠ 2 → k ≠ 3 → M3 k = J k) → Z p l e { frames := 2, cells := 0, slots := 0, locals := 53 } s m args below meth c D A 8 0 0 Q 96 [(7, .int (zI k)), (3, .long (M1 2 (e0).toNat)), (2, .int (zI e0)), (1, .int (zI d)), (0, .ref (h 0))] [] (rW ce h F I M3) := by
                      intro N
                      induction N with
                      | zero => intro k M3 hm; exact absurd hm (Nat.not_lt_zero _)
                      | succ N ih_96 =>
                        intro k M3 hm hk3 hk9 hz3 h33 hM3
                        refine Z.iload hX dX7_divisor_96 rfl ?_
                        refine Z.iload_n hX dX7_divisor_98 rfl rfl ?_
                        refine Z.icmp_gt hX 131 dX7_divisor_99 (by decide) ⟨by omega, by omega⟩ ⟨by omega, by omega⟩ ?_ ?_
                        · intro c19
                          refine Z.aload_n hX dX7_divisor_131 rfl rfl ?_
                          refine Z.getf hX 7 0 9 dX7_divisor_132 rfl rfl inX7 (by decide) fl_X7_30 rfl rfl ?_
                          refine Z.callS1v (As := [.ref (h 7)]) (rest := []) hX 7 rfl (ct_X7_reduce l D ce ((h 7)) (M3 2) ) mc_X7_reduce ml_X7_66 st_X7_reduce ini_X7 nd_X7_reduce ⟨Nat.le_of_ble_eq_true rfl, Nat.le_of_ble_eq_true rfl⟩ ⟨rfl, rfl⟩ ⟨Nat.le_refl _, Nat.le_refl _⟩ rfl (Nat.le_of_ble_eq_true rfl) dX7_divisor_135 ?_
                          rintro w1 ⟨fr, hw_, hfr⟩
                          refine ⟨_, hw_, ?_⟩
                          obtain ⟨J21, eJ21⟩ : ∃ J' : Nat → Nat → Int64, J' = va_up M3 2 (fr) := ⟨_, rfl⟩
                          refine Z.toW (w' := rW ce h F I J21) (by rw [eJ21]; rfl) ?_
                          have gJ21 : J21 2 = fr := by rw [eJ21]; exact up_eq
                          have fJ21 : ∀ k, k ≠ 2 → J21 k = M3 k := fun k hk => by rw [eJ21]; exact up_ne hk
                          refine Z.goto hX 32 dX7_divisor_138 (by decide) ?_
                          refine Z.pick [3, 4] rfl ?_
                          exact ih_32 (e0 - 1) _ (by have hdu : e0 ≤ u := dg_le e1 e3 hu1 (by omega); omega) (by omega) (fun j h1 h2 => by rw [gJ21]; exact hfr j (by omega) (by omega) (dv_top (hk9.2 (by omega)) hz3 (by omega) h2)) ((fJ21 3 (by decide)).trans (h33.trans h3)) (fun k h2 h3 => ((fJ21 k h2).trans (hM3 k h2 h3)))
                        · intro c19
                          refine Z.aload_n hX dX7_divisor_102 rfl rfl ?_
                          refine Z.getf hX 7 0 9 dX7_divisor_103 rfl rfl inX7 (by decide) fl_X7_30 rfl rfl ?_
                          refine Z.iload_n hX dX7_divisor_106 rfl rfl ?_
                          refine Z.iload_n hX dX7_divisor_107 rfl rfl ?_
                          refine Z.isub hX dX7_divisor_108 ?_
                          refine Z.iload hX dX7_divisor_109 rfl ?_
                          refine Z.iadd hX dX7_divisor_111 ?_
                          refine Z.dup2 hX dX7_divisor_112 rfl rfl ?_
                          refine Z.laload hX 7 1 dX7_divisor_113 rfl rfl (by omega) (by omega) (by decide) ?_
                          refine Z.lload_n hX dX7_divisor_114 rfl rfl ?_
                          refine Z.aload_n hX dX7_divisor_115 rfl rfl ?_
                          refine Z.getf hX 7 0 10 dX7_divisor_116 rfl rfl inX7 (by decide) fl_X7_33 rfl rfl ?_
                          refine Z.iload hX dX7_divisor_119 rfl ?_
                          refine Z.laload hX 8 1 dX7_divisor_121 rfl rfl (by omega) (by omega) (by decide) ?_
                          refine Z.lmul hX dX7_divisor_122 ?_
                          refine Z.lsub hX dX7_divisor_123 ?_
                          refine Z.lastore hX 7 1 dX7_divisor_124 rfl rfl (by omega) (by omega) (by decide) ?_
                          obtain ⟨J22, eJ22⟩ : ∃ J' : Nat → Nat → Int64, J' = va_up M3 2 (vp_updL (M3 2) ((e0 - d) + k : Int).toNat ((M3 2 ((e0 - d) + k : Int).toNat) - ((M1 2 (e0).toNat) * (M3 3 (k : Int).toNat)))) := ⟨_, rfl⟩
                          refine Z.toW (w' := rW ce h F I J22) (by rw [eJ22]; rfl) ?_
                          have gJ22 : J22 2 = vp_updL (M3 2) ((e0 - d) + k : Int).toNat ((M3 2 ((e0 - d) + k : Int).toNat) - ((M1 2 (e0).toNat) * (M3 3 (k : Int).toNat))) := by rw [eJ22]; exact up_eq
                          have fJ22 : ∀ k, k ≠ 2 → J22 k = M3 k := fun k hk => by rw [eJ22]; exact up_ne hk
                          refine Z.iinc (lv' := [(7, .int (zI (k + 1))), (3, .long (M1 2 (e0).toNat)), (2, .int (zI e0)), (1, .int (zI d)), (0, .ref (h 0))]) hX dX7_divisor_125 rfl (by decide) rfl ?_
                          refine Z.goto hX 96 dX7_divisor_128 (by decide) ?_
                          refine Z.pick [0, 1, 2, 3, 4] rfl ?_
                          exact ih_96 _ _ (by omega) (by omega) (dv_sub (T := M1 3) (by omega) (by omega) (by omega) (by rw [gJ22, h33]) hk9) (fun j h1 h2 => by rw [gJ22, up_at (by omega) (by omega), if_neg (by omega)]; exact hz3 j h1 h2) ((fJ22 3 (by decide)).trans h33) (fun k h2 h3 => ((fJ22 k h2).trans (hM3 k h2 h3)))
                    refine Z.pick [0, 2, 3, 4, 5] rfl ?_
                    exact key_96 _ _ _ (Nat.lt_succ_self _) (by omega) ⟨fun _ => by rw [hp e0 (by omega) (by omega), if_pos (by omega)], fun h => by omega⟩ (fun j h1 h2 => by rw [hp j (by omega) h2, if_pos (by omega), e2 j (by omega) h2]; exact Int64.zero_mul) h32 (fun k h2 h3 => (hM2 k h2 h3))
                  · intro c18
                    refine Z.aload_n hX dX7_divisor_75 rfl rfl ?_
                    refine Z.getf hX 7 0 9 dX7_divisor_76 rfl rfl inX7 (by decide) fl_X7_30 rfl rfl ?_
                    refine Z.iload hX dX7_divisor_79 rfl ?_
                    refine Z.dup2 hX dX7_divisor_81 rfl rfl ?_
                    refine Z.laload hX 7 1 dX7_divisor_82 rfl rfl (by omega) (by omega) (by decide) ?_
                    refine Z.lload hX dX7_divisor_83 rfl ?_
                    refine Z.lmul hX dX7_divisor_85 ?_
                    refine Z.lastore hX 7 1 dX7_divisor_86 rfl rfl (by omega) (by omega) (by decide) ?_
                    obtain ⟨J23, eJ23⟩ : ∃ J' : Nat → Nat → Int64, J' = va_up M2 2 (vp_updL (M2 2) (k : Int).toNat ((M2 2 (k : Int).toNat) * (M1 3 (d).toNat))) := ⟨_, rfl⟩
                    refine Z.toW (w' := rW ce h F I J23) (by rw [eJ23]; rfl) ?_
                    have gJ23 : J23 2 = vp_updL (M2 2) (k : Int).toNat ((M2 2 (k : Int).toNat) * (M1 3 (d).toNat)) := by rw [eJ23]; exact up_eq
                    have fJ23 : ∀ k, k ≠ 2 → J23 k = M2 k := fun k hk => by rw [eJ23]; exact up_ne hk
                    refine Z.iinc (lv' := [(7, .int (zI (k + 1))), (5, .long (M1 3 (d).toNat)), (3, .long (M1 2 (e0).toNat)), (2, .int (zI e0)), (1, .int (zI d)), (0, .ref (h 0))]) hX dX7_divisor_87 rfl (by decide) rfl ?_
                    refine Z.goto hX 69 dX7_divisor_90 (by decide) ?_
                    refine Z.pick [0, 1, 2, 3, 4, 5] rfl ?_
                    exact ih_69 _ _ (by omega) (by omega) (dv_mul hk.1 gJ23 hp) ((fJ23 3 (by decide)).trans h32) (fun k h2 h3 => ((fJ23 k h2).trans (hM2 k h2 h3)))
              refine Z.pick [0, 1, 2, 3, 4, 5] rfl ?_
              exact key_69 _ _ _ (Nat.lt_succ_self _) (by omega) (fun j h1 h2 => (if_neg (by omega)).symm) rfl (fun k h2 h3 => (hM1 k h2 h3))
        refine Z.pick [0, 1] rfl ?_
        exact key_32 _ 4 _ (Nat.lt_succ_self _) (by omega) (fun j h1 h2 => by omega) rfl (fun k h2 h3 => (hM k h2 h3))
  refine Z.pick [0] rfl ?_
  exact key_14 _ 4 _ (Nat.lt_succ_self _) (by omega) (fun j h1 h2 => by omega) (fun k h2 h3 => ((fJ8 k h3).trans ((fJ4 k h2).trans rfl)))
end
section
/-! the reference's roots: what its methods need to go through -/
def d2x (f : Nat → Int64) (z : Int) : Prop := 0 ≤ z → ∃ a b : Int, 0 ≤ a ∧ a < 7 ∧ 0 ≤ b ∧ b < 7 ∧ a + b = z ∧ f (7 * a + b).toNat ≠ 0
theorem d2_s {f : Nat → Int64} {i j d : Int} (hi : 0 ≤ i ∧ i < 7) (hj : 0 ≤ j ∧ j < 7) (h : d2x f d) (hne : ¬ f (7 * i + j).toNat = 0) : d2x f (i + j) := fun _ => ⟨i, j, hi.1, hi.2, hj.1, hj.2, rfl, hne⟩
/-- from here on no place of degree d holds anything -/
theorem fo_s {f : Nat → Int64} {i d : Int} (h : ∀ a : Int, i < a → a < 7 → 0 ≤ d - a → d - a < 7 → f (7 * a + (d - a)).toNat = 0) (hz : d - i < 7 → 0 ≤ d - i → f (7 * i + (d - i)).toNat = 0) : ∀ a : Int, i + -1 < a → a < 7 → 0 ≤ d - a → d - a < 7 → f (7 * a + (d - a)).toNat = 0 := by
  intro a h1 h2 h3 h4
  by_cases e : a = i
  · subst e; exact hz h4 h3
  · exact h a (by omega) h2 h3 h4
theorem fo_e {f : Nat → Int64} {d i : Int} (hi : i < 0) (h : ∀ a : Int, i < a → a < 7 → 0 ≤ d - a → d - a < 7 → f (7 * a + (d - a)).toNat = 0) (hd : d2x f d) : d < 0 := by
  rcases Int.lt_or_le d 0 with q | q
  · exact q
  · obtain ⟨a, b, h1, h2, h3, h4, h5, h6⟩ := hd q
    have e : b = d - a := by omega
    rw [e] at h6
    exact absurd (h a (by omega) h2 (by omega) (by omega)) h6
theorem ip_div {a k : Int} (ha : 0 ≤ a ∧ a ≤ 6) (hk : 2 ≤ k ∧ k ≤ 12) : 0 ≤ a / k ∧ a / k ≤ 3 ∧ 0 ≤ (k - 1) * (a / k) ∧ (k - 1) * (a / k) + a / k ≤ a := by
  have h1 : 0 ≤ a / k := Int.ediv_nonneg ha.1 (by omega)
  have h2 : a / k * k ≤ a := Int.ediv_mul_le a (by omega)
  have h3 : (k - 1) * (a / k) + a / k = a / k * k := by rw [Int.sub_mul, Int.one_mul, Int.mul_comm k]; omega
  have h4 : 0 ≤ (k - 1) * (a / k) := Int.mul_nonneg (by omega) h1
  have h5 : a / k * 2 ≤ a / k * k := Int.mul_le_mul_of_nonneg_left hk.1 h1
  exact ⟨h1, by omega, h4, by omega⟩
theorem ip_un {L : Int64} {k : Int} (hk : 2 ≤ k ∧ k ≤ 12) {v : Int64} (h1 : 1 ≤ L.toInt) (h2 : L.toInt ≤ 2000000000) (h3 : L.toInt ^ k.toNat ≤ v.toInt) : ¬ zL (k * L.toInt ^ (k - 1).toNat) = 0 := by
  have hv := Int64.toInt_lt v
  have hp : 1 ≤ L.toInt ^ (k - 1).toNat := Int.pow_pos (by omega)
  have hs : L.toInt ^ k.toNat = L.toInt ^ (k - 1).toNat * L.toInt := by
    rw [show k.toNat = (k - 1).toNat + 1 by omega, Int.pow_succ]
  have hlt : k * L.toInt ^ (k - 1).toNat < 9223372036854775808 := by
    rcases Int.lt_or_le L.toInt 12 with q | q
    · have hb : L.toInt ^ (k - 1).toNat ≤ 11 ^ 11 := by
        obtain ⟨n, hn⟩ := Int.eq_ofNat_of_zero_le (show 0 ≤ L.toInt by omega)
        have hn11 : n ≤ 11 := by omega
        rw [hn]
        have e1 : n ^ (k - 1).toNat ≤ 11 ^ (k - 1).toNat := Nat.pow_le_pow_left hn11 _
        have e2 : 11 ^ (k - 1).toNat ≤ 11 ^ 11 := Nat.pow_le_pow_right (by decide) (by omega)
        exact_mod_cast Nat.le_trans e1 e2
      have hb2 : k * L.toInt ^ (k - 1).toNat ≤ 12 * 11 ^ 11 := Int.mul_le_mul hk.2 hb (by omega) (by omega)
      have : (12 * 11 ^ 11 : Int) < 9223372036854775808 := by decide
      omega
    · have hb2 : k * L.toInt ^ (k - 1).toNat ≤ L.toInt * L.toInt ^ (k - 1).toNat := Int.mul_le_mul_of_nonneg_right (by omega) (by omega)
      rw [Int.mul_comm L.toInt, ← hs] at hb2
      omega
  have hge : 1 ≤ k * L.toInt ^ (k - 1).toNat := by
    have : 1 * 1 ≤ k * L.toInt ^ (k - 1).toNat := Int.mul_le_mul (by omega) hp (by decide) (by omega)
    omega
  intro q
  have e0 := congrArg Int64.toInt q
  rw [zL_toInt (by omega) hlt, l0] at e0
  omega
theorem ip_us {L u : Int64} {k n : Int} (hn : 1 ≤ n) (e : u = zL (k * L.toInt ^ (n - 1).toNat)) : u * L = zL (k * L.toInt ^ (n + 1 - 1).toNat) := by
  rw [e, zL_of L, zL_mul, show (n + 1 - 1).toNat = (n - 1).toNat + 1 by omega, Int.pow_succ, Int.mul_assoc, ← zL_of L]
theorem tl_c {f f' : Nat → Int64} {k : Int} {x r y : Int64} (hk : 0 ≤ k) (e : f' = vp_updL f k.toNat y) (hz : x = 0 → ∀ q : Int, 0 ≤ q → q < k → f q.toNat = 0) (hr : cgE x (f' k.toNat) r) : r = 0 → ∀ q : Int, 0 ≤ q → q < k + 1 → f' q.toNat = 0 := by
  intro h q h1 h2
  obtain ⟨h3, h4⟩ := hr.1 h
  by_cases g : q = k
  · rw [g]; exact h4
  · rw [e, up_at hk h1, if_neg g]; exact hz h3 q h1 (by omega)
theorem fo_no {f : Nat → Int64} {d i : Int} (h : ∀ a : Int, i < a → a < 7 → 0 ≤ d - a → d - a < 7 → f (7 * a + (d - a)).toNat = 0) (hi : i < 0) (hd : d2x f d) (hm : ∀ a b : Int, 0 ≤ a → a < 7 → 0 ≤ b → b < 7 → f (7 * a + b).toNat ≠ 0 → a + b ≤ d) : ∀ a b : Int, 0 ≤ a → a < 7 → 0 ≤ b → b < 7 → f (7 * a + b).toNat = 0 := fun a b h1 h2 h3 h4 => Classical.byContradiction (fun q => by have g1 := fo_e hi h hd; have g2 := hm a b h1 h2 h3 h4 q; omega)
theorem d2_v {f : Nat → Int64} {i j z z' : Int} (h : ∀ a b : Int, 0 ≤ a → a < 7 → 0 ≤ b → b < 7 → (a < i ∨ a = i ∧ b < j) → f (7 * a + b).toNat ≠ 0 → a + b ≤ z) (hz : z ≤ z') (hn : f (7 * i + j).toNat ≠ 0 → i + j ≤ z') : ∀ a b : Int, 0 ≤ a → a < 7 → 0 ≤ b → b < 7 → (a < i ∨ a = i ∧ b < j + 1) → f (7 * a + b).toNat ≠ 0 → a + b ≤ z' := by
  intro a b h1 h2 h3 h4 h5 h6
  by_cases e : a = i ∧ b = j
  · rw [e.1, e.2] at h6 ⊢
    exact hn h6
  · exact Int.le_trans (h a b h1 h2 h3 h4 (by omega) h6) hz
theorem zR_mod {a k : Int} (hk : 2 ≤ k ∧ k ≤ 12) : zR (a % k) := ⟨by have := Int.emod_nonneg a (show k ≠ 0 by omega); omega, by have := Int.emod_lt_of_pos a (show 0 < k by omega); omega⟩
def tz (x : Int64) (f : Nat → Int64) (k : Int) : Prop := x = 0 → ∀ q : Int, 0 ≤ q → q < k → f q.toNat = 0
theorem tl_s {f f' : Nat → Int64} {k : Int} {x r y : Int64} (hk : 0 ≤ k) (e : f' = vp_updL f k.toNat y) (hz : tz x f k) (hr : cgE x (f' k.toNat) r) : tz r f' (k + 1) := tl_c hk e hz hr
theorem tl_f {f : Nat → Int64} {z d : Int} (h : (0 ≤ z ∧ z < 49 ∧ f z.toNat ≠ 0) ∨ (z = -1 ∧ ∀ a b : Int, 0 ≤ a → a < 7 → 0 ≤ b → b < 7 → f (7 * a + b).toNat = 0)) (hd : d2x f d) (h0 : 0 ≤ d) : 0 ≤ z ∧ z < 49 ∧ f z.toNat ≠ 0 := by
  rcases h with q | q
  · exact q
  · obtain ⟨a, b, h1, h2, h3, h4, -, h6⟩ := hd h0
    exact absurd (q.2 a b h1 h2 h3 h4) h6
theorem tl_x {f : Nat → Int64} {z k : Int} {x : Int64} (h : tz x f k) (hz : 0 ≤ z ∧ z < k) (hne : f z.toNat ≠ 0) : ¬ x = 0 := fun q => hne (h q z hz.1 hz.2)
theorem tl_n {x : Int64} (h : ¬ x = 0) : ¬ -x = 0 := fun q => h (by rw [← Int64.neg_neg (a := x), q]; rfl)
def DGok (g : Nat → Int32) : Prop := ∀ j : Int, 0 ≤ j → j < 2 → ∃ z : Int, 0 ≤ z ∧ z ≤ 12 ∧ g j.toNat = zI z
theorem upI_at {f : Nat → Int32} {k : Int} {x : Int32} (hk : 0 ≤ k) {j : Int} (hj : 0 ≤ j) : upd f k.toNat x j.toNat = if j = k then x else f j.toNat := by
  by_cases e : j = k
  · rw [if_pos e, e]; exact if_pos rfl
  · rw [if_neg e]; exact if_neg (by omega)
theorem DG_s {g g' : Nat → Int32} {k d q : Int} (h : DGok g) (hk : 0 ≤ k) (hq : 1 ≤ q ∧ q ≤ d) (hd : d ≤ 12) (e : g' = upd g k.toNat (zI (d / q))) : DGok g' := by
  intro j h1 h2
  rw [e, upI_at hk h1]
  by_cases r : j = k
  · rw [if_pos r]
    refine ⟨d / q, Int.ediv_nonneg (by omega) (by omega), ?_, rfl⟩
    have := Int.ediv_le_self (a := d) q (by omega)
    omega
  · rw [if_neg r]; exact h j h1 h2
end
section
/-! the class's cells: 24 of its own, 42 planes as one family -/
def tri (n : Nat) : Nat := ([0, 1, 2, 3, 1, 4, 5, 6, 2, 5, 7, 8, 3, 6, 8, 9] : List Nat).getD n 0
def cFix (ce : Nat → ClassId) (h pl : Nat → Nat) (G : Nat → Int) (L : Nat → Nat → Int64) : va_W :=
  [(h 0, .inr (6, [.ref (h 1), .ref (h 2), .ref (h 3), .ref (h 4), .ref (h 5), .ref (h 6), .ref (h 7), .ref (h 8), .int (zI (G 0))])), (h 1, .inr (5, [.ref (h 9)])), (h 2, .inr (5, [.ref (h 10)])), (h 3, .inr (1, [.ref (h 11), .ref (h 12), .ref (h 13)])), (h 4, .inr (2, [.ref (h 14), .ref (h 15), .ref (h 16), .ref (h 17)])),
   (h 5, .inr (4, [.ref (pl 36), .ref (pl 37), .ref (pl 38), .ref (pl 39)])), (h 6, .inr (0, [.ref (pl 40), .int (zI (G 1)), .int (zI (G 2)), .int (zI (G 3))])), (h 7, .inr (0, [.ref (pl 41), .int (zI (G 4)), .int (zI (G 5)), .int (zI (G 6))])), (h 8, .inl (ce 1, 3, .inr (.inl (L 9)))),
   (h 9, .inl (ce 3, 3, .inr (.inr (.inr (.inr (fun i => some (h (18 + i)))))))), (h 10, .inl (ce 3, 3, .inr (.inr (.inr (.inr (fun i => some (h (18 + (3 + i))))))))), (h 11, .inl (ce 1, 5, .inr (.inl (L 6)))), (h 12, .inl (ce 1, 5, .inr (.inl (L 7)))), (h 13, .inl (ce 1, 5, .inr (.inl (L 8)))),
   (h 14, .inl (ce 4, 5, .inr (.inr (.inr (.inr (fun i => some (pl i))))))), (h 15, .inl (ce 4, 5, .inr (.inr (.inr (.inr (fun i => some (pl (5 + i)))))))), (h 16, .inl (ce 4, 16, .inr (.inr (.inr (.inr (fun i => some (pl (10 + tri i)))))))), (h 17, .inl (ce 4, 16, .inr (.inr (.inr (.inr (fun i => some (pl (20 + i)))))))),
   (h 18, .inl (ce 1, 5, .inr (.inl (L 0)))), (h 19, .inl (ce 1, 5, .inr (.inl (L 1)))), (h 20, .inl (ce 1, 5, .inr (.inl (L 2)))), (h 21, .inl (ce 1, 5, .inr (.inl (L 3)))), (h 22, .inl (ce 1, 5, .inr (.inl (L 4)))), (h 23, .inl (ce 1, 5, .inr (.inl (L 5))))]
def cPl (pl ar : Nat → Nat) (B : Nat → Int) : va_W := (List.range 42).map (fun k => (pl k, .inr (3, [.ref (ar k), .int (zI (B k))])))
def cAr (ce : Nat → ClassId) (ar : Nat → Nat) (J : Nat → Nat → Int64) : va_W := (List.range 42).map (fun k => (ar k, .inl (ce 1, 28, .inr (.inl (J k)))))
def cW (ce : Nat → ClassId) (h pl ar : Nat → Nat) (G : Nat → Int) (L : Nat → Nat → Int64) (B : Nat → Int) (J : Nat → Nat → Int64) : va_W := cFix ce h pl G L ++ (cPl pl ar B ++ cAr ce ar J)
section CWR
variable {ce : Nat → ClassId} {h pl ar : Nat → Nat} {G : Nat → Int} {L : Nat → Nat → Int64} {B : Nat → Int} {J : Nat → Nat → Int64}
theorem cFix_len : (cFix ce h pl G L).length = 24 := rfl
theorem cPl_len : (cPl pl ar B).length = 42 := by simp [cPl]
theorem cAr_len : (cAr ce ar J).length = 42 := by simp [cAr]
theorem cW_pl {k : Nat} (hk : k < 42) : (cW ce h pl ar G L B J)[24 + k]? = some (pl k, .inr (3, [.ref (ar k), .int (zI (B k))])) := by
  unfold cW
  rw [List.getElem?_append_right (by rw [cFix_len]; omega), cFix_len, List.getElem?_append_left (by rw [cPl_len]; omega)]
  rw [show 24 + k - 24 = k by omega]
  simp [cPl, hk]
theorem cW_ar {k : Nat} (hk : k < 42) : (cW ce h pl ar G L B J)[66 + k]? = some (ar k, .inl (ce 1, 28, .inr (.inl (J k)))) := by
  unfold cW
  rw [List.getElem?_append_right (by rw [cFix_len]; omega), cFix_len, List.getElem?_append_right (by rw [cPl_len]; omega), cPl_len]
  rw [show 66 + k - 24 - 42 = k by omega]
  simp [cAr, hk]
theorem cW_in {k : Nat} (hk : k < 6) : (cW ce h pl ar G L B J)[18 + k]? = some (h (18 + k), .inl (ce 1, 5, .inr (.inl (L k)))) := by
  match k, hk with
  | 0, _ => rfl
  | 1, _ => rfl
  | 2, _ => rfl
  | 3, _ => rfl
  | 4, _ => rfl
  | 5, _ => rfl
theorem cW_setL {k : Nat} (hk : k < 6) {f : Nat → Int64} : (cW ce h pl ar G L B J).set (18 + k) (h (18 + k), .inl (ce 1, 5, .inr (.inl f))) = cW ce h pl ar G (va_up L k f) B J := by
  match k, hk with
  | 0, _ => rfl
  | 1, _ => rfl
  | 2, _ => rfl
  | 3, _ => rfl
  | 4, _ => rfl
  | 5, _ => rfl
theorem mp_set {α : Type} (g : Nat → α) (n k : Nat) (x : α) : ((List.range n).map g).set k x = (List.range n).map (fun j => if j = k then x else g j) := by
  apply List.ext_getElem (by simp)
  intro i h1 h2
  simp at h1
  rw [List.getElem_set]
  simp
  by_cases e : k = i
  · rw [if_pos e, if_pos e.symm]
  · rw [if_neg e, if_neg (fun q => e q.symm)]
theorem cW_setB {k : Nat} (hk : k < 42) {v : Int} : (cW ce h pl ar G L B J).set (24 + k) (pl k, .inr (3, [.ref (ar k), .int (zI v)])) = cW ce h pl ar G L (va_up B k v) J := by
  unfold cW
  rw [List.set_append_right _ _ (by rw [cFix_len]; omega), cFix_len, List.set_append_left _ _ (by rw [cPl_len]; omega), show 24 + k - 24 = k by omega]
  congr 2
  unfold cPl
  rw [mp_set]
  apply List.map_congr_left
  intro j _
  unfold va_up
  by_cases e : j = k
  · rw [if_pos e, if_pos e, e]
  · rw [if_neg e, if_neg e]
theorem cW_setJ {k : Nat} (hk : k < 42) {f : Nat → Int64} : (cW ce h pl ar G L B J).set (66 + k) (ar k, .inl (ce 1, 28, .inr (.inl f))) = cW ce h pl ar G L B (va_up J k f) := by
  unfold cW
  rw [List.set_append_right _ _ (by rw [cFix_len]; omega), cFix_len, List.set_append_right _ _ (by rw [cPl_len]; omega), cPl_len, show 66 + k - 24 - 42 = k by omega]
  congr 2
  unfold cAr
  rw [mp_set]
  apply List.map_congr_left
  intro j _
  unfold va_up
  by_cases e : j = k
  · rw [if_pos e, if_pos e, e]
  · rw [if_neg e, if_neg e]
end CWR
theorem tri_lt (n : Nat) : tri n < 10 := by
  unfold tri
  by_cases h : n < 16
  · have : ∀ m : Fin 16, ([0, 1, 2, 3, 1, 4, 5, 6, 2, 5, 7, 8, 3, 6, 8, 9] : List Nat).getD m.val 0 < 10 := by decide
    exact this ⟨n, h⟩
  · have : ([0, 1, 2, 3, 1, 4, 5, 6, 2, 5, 7, 8, 3, 6, 8, 9] : List Nat)[n]? = none := List.getElem?_eq_none (by simp; omega)
    rw [List.getD_eq_getElem?_getD, this]; decide
section ZR6
variable {p : Program} {l : Launch} {e : Env} {R : Room} {s : State} {m : MethodId} {args : Array Value} {below : List Frame} {meth : Method} {c : Code} {D : va_G} {A : Nat → Prop} {nL cells slots : Nat} {Q : State → Prop}
variable {cc : ByteArray} {own : String} {tys : List (ClassId × FieldType)} {pc : Nat} {lv : List (Nat × Value)} {st : List Value} {w : va_W}
theorem Z.aaload (hX : Zf p m c cc nL s args own D tys A) (q0 t0 : Nat) {a a1 : Nat} {cA : ClassId} {n : Nat} {f : Nat → Option Nat} {z : Int} {ty : FieldType} (hd : decode cc pc = .ok (.aaload, 1)) (ha : w[q0]? = some (a, .inl (cA, n, .inr (.inr (.inr (.inr f)))))) (ht : tys[t0]? = some (cA, ty)) (hty : ty.isReference = true) (h1 : 0 ≤ z) (h2 : z < n) (hn : n < 2147483648) (hf : f z.toNat = some a1) (k : Z p l e R s m args below meth c D A nL cells slots Q (pc + 1) lv (.ref a1 :: st) w) : Z p l e R s m args below meth c D A nL cells slots Q pc lv (.int (zI z) :: .ref a :: st) w := by
  intro H locs ls hP hD hS hv
  have hin := zI_in h1 h2 hn
  have hlt : (zI z).toNatClampNeg < n := Nat.not_le.mp fun q => hin (Or.inr q)
  have hv1 : va_rf (f (zI z).toNatClampNeg) = .ref a1 := by rw [zI_cl h1 (by omega), hf]; rfl
  exact W.aald (v := .ref a1) (ty := ty) hX.1 hX.2.1 (hP q0 _ ha) ((hX.2.2.2.2.2.1.2 t0 _ ht).1 n (fun j => va_rf (f j))) hty (fun q => by cases q) (by show ¬ (zI z < 0 ∨ (arrV _ _ _).slots.size ≤ _); rw [arrV_size]; exact hin) (by show (arrV _ _ _).slots[_]? = _; rw [arrV_read _ _ hlt, hv1]) rfl rfl hd (k H locs ls hP hD hS hv)
theorem Z.alen (hX : Zf p m c cc nL s args own D tys A) (q0 t0 : Nat) {a : Nat} {cA : ClassId} {x : vp_A} {ty : FieldType} (hd : decode cc pc = .ok (.arraylength, 1)) (ha : w[q0]? = some (a, .inl (cA, x))) (ht : tys[t0]? = some (cA, ty)) (k : Z p l e R s m args below meth c D A nL cells slots Q (pc + 1) lv (.int (zI (x.1 : Int)) :: st) w) : Z p l e R s m args below meth c D A nL cells slots Q pc lv (.ref a :: st) w := fun H locs ls hP hD hS hv => va_alen hX.1 hX.2.1 hX.2.2.2.2.2.1 hP q0 t0 ha ht (v := zI (x.1 : Int)) rfl hd (k H locs ls hP hD hS hv)
theorem Z.callSNi (hX : Zf p m c cc nL s args own D tys A) {y : MethodName} {bytes : ByteArray} {maxL index : Nat} {ret : Option FieldType} {rm : Room} {As rest : List Value} {post : Int32 → va_W → Prop} {host : String} (hM : Ct l y bytes maxL ret rm 0 0 D tys As [] (QI D tys post)) (hcode : Cond.code y bytes maxL ret ∈ lw_g) (hlk : (own, index, y, host) ∈ nst) (hst : Cond.static y ∈ lw_g) (hini : Cond.initialized y.cls ∈ lw_g) (hdd : y.cls ≠ "java/lang/invoke/MethodHandle" ∧ y.cls ≠ "java/lang/invoke/VarHandle" ∧ (parseMethodDescriptor y.desc).map (fun d => d.parameters.length) = some As.length) (hR : rm.frames + 1 ≤ R.frames ∧ 8 + (maxL + 11) + rm.locals ≤ R.locals) (hcs : rm.cells = 0 ∧ rm.slots = 0) (hroom : cells ≤ R.cells ∧ slots ≤ R.slots) (hstk : st = As.reverse ++ rest) (hcat : (rest.map fun v => v.category).sum ≤ 8) (hd : decode cc pc = .ok (.invokestatic index, 3)) (k : ∀ (r : Int32) (w1 : va_W), post r w1 → w1 = [] ∧ Z p l e R s m args below meth c D A nL cells slots Q (pc + 3) lv (.int r :: rest) w) : Z p l e R s m args below meth c D A nL cells slots Q pc lv st w := by
  intro H locs ls hP hD hS hv
  obtain ⟨hx, hb, hml, hown, hts, hK, hA, hN⟩ := id hX
  have hPc : va_P D vwCl [] H := fun k q h => by simp at h
  have hDc : va_D A [] := ⟨fun i j p q h => by simp at h, fun k q h => by simp at h⟩
  have hFc : ∀ q, va_A [] H.size q → A q := fun q h => by
    rcases h with ⟨k, e, h⟩ | h
    · simp at h
    · exact hA q (Nat.le_trans hS.1 h)
  have hCB : va_CN R s args own index y host bytes maxL ret (.code y bytes maxL ret :: lw_g) rm 0 0 As.length := va_cnB As.length hts (z_goodC hcode) rfl hcs.1 hcs.2 (hN.1 _ hlk) (hts _ hini) hdd hR
  refine va_calli (va_runSN (As := As) (rest := rest) ⟨hx, hb, hml, hown, hts⟩ (hM H.size) ⟨hCB, hts _ hst, trivial⟩ ⟨fun a U g mk q => by obtain ⟨q0, q1, qP, qK, qD, qN⟩ := q; exact ⟨q0, q1, qP, va_K.moved (u := U) (U := U.calling g mk a) (Vm.Alike.refl U.vm) qK, qD, NW.same qN rfl⟩, fun U hU hW => ⟨rfl, by rw [hU], by rw [hU]; exact hPc, va_K.moved hW.alike hK, hDc.weaken (fun _ _ _ _ => trivial), hN.warm hW⟩⟩ rfl rfl hv.1 hstk (lv_room hcat) hd hroom) hS (fun q _ h => hFc q h) hFc (fun r u t H1 locs1 ht hvm hw hB hz1 hk1 hS1 => ?_)
  obtain ⟨h1, h2⟩ := k r u hw
  refine h2 H1 locs1 ls (hP.kept fun k q hq => hk1 q.1 (hP k q hq).lt ?_) hD hS1 hv
  rintro (⟨k, e, h⟩ | h)
  · simp at h
  · have := (hP _ q hq).lt
    omega
theorem Z.callSNl (hX : Zf p m c cc nL s args own D tys A) {y : MethodName} {bytes : ByteArray} {maxL index : Nat} {ret : Option FieldType} {rm : Room} {As rest : List Value} {post : Int64 → va_W → Prop} {host : String} (hM : Ct l y bytes maxL ret rm 0 0 D tys As [] (QL D tys post)) (hcode : Cond.code y bytes maxL ret ∈ lw_g) (hlk : (own, index, y, host) ∈ nst) (hst : Cond.static y ∈ lw_g) (hini : Cond.initialized y.cls ∈ lw_g) (hdd : y.cls ≠ "java/lang/invoke/MethodHandle" ∧ y.cls ≠ "java/lang/invoke/VarHandle" ∧ (parseMethodDescriptor y.desc).map (fun d => d.parameters.length) = some As.length) (hR : rm.frames + 1 ≤ R.frames ∧ 8 + (maxL + 11) + rm.locals ≤ R.locals) (hcs : rm.cells = 0 ∧ rm.slots = 0) (hroom : cells ≤ R.cells ∧ slots ≤ R.slots) (hstk : st = As.reverse ++ rest) (hcat : (rest.map fun v => v.category).sum ≤ 8) (hd : decode cc pc = .ok (.invokestatic index, 3)) (k : ∀ (r : Int64) (w1 : va_W), post r w1 → w1 = [] ∧ Z p l e R s m args below meth c D A nL cells slots Q (pc + 3) lv (.long r :: rest) w) : Z p l e R s m args below meth c D A nL cells slots Q pc lv st w := by
  intro H locs ls hP hD hS hv
  obtain ⟨hx, hb, hml, hown, hts, hK, hA, hN⟩ := id hX
  have hPc : va_P D vwCl [] H := fun k q h => by simp at h
  have hDc : va_D A [] := ⟨fun i j p q h => by simp at h, fun k q h => by simp at h⟩
  have hFc : ∀ q, va_A [] H.size q → A q := fun q h => by
    rcases h with ⟨k, e, h⟩ | h
    · simp at h
    · exact hA q (Nat.le_trans hS.1 h)
  have hCB : va_CN R s args own index y host bytes maxL ret (.code y bytes maxL ret :: lw_g) rm 0 0 As.length := va_cnB As.length hts (z_goodC hcode) rfl hcs.1 hcs.2 (hN.1 _ hlk) (hts _ hini) hdd hR
  refine va_calll (va_runSN (As := As) (rest := rest) ⟨hx, hb, hml, hown, hts⟩ (hM H.size) ⟨hCB, hts _ hst, trivial⟩ ⟨fun a U g mk q => by obtain ⟨q0, q1, qP, qK, qD, qN⟩ := q; exact ⟨q0, q1, qP, va_K.moved (u := U) (U := U.calling g mk a) (Vm.Alike.refl U.vm) qK, qD, NW.same qN rfl⟩, fun U hU hW => ⟨rfl, by rw [hU], by rw [hU]; exact hPc, va_K.moved hW.alike hK, hDc.weaken (fun _ _ _ _ => trivial), hN.warm hW⟩⟩ rfl rfl hv.1 hstk (lv_room hcat) hd hroom) hS (fun q _ h => hFc q h) hFc (fun r u t H1 locs1 ht hvm hw hB hz1 hk1 hS1 => ?_)
  obtain ⟨h1, h2⟩ := k r u hw
  refine h2 H1 locs1 ls (hP.kept fun k q hq => hk1 q.1 (hP k q hq).lt ?_) hD hS1 hv
  rintro (⟨k, e, h⟩ | h)
  · simp at h
  · have := (hP _ q hq).lt
    omega
end ZR6
end
section
set_option maxRecDepth 100000 in
theorem ini_X6 : Cond.initialized RX6 ∈ lw_g := z_mem (k := 31) rfl rfl
theorem inX6 : ∀ x ∈ u_ws RX6 TX6 9, x ∈ lw_g := by
  have h : (u_ws RX6 TX6 9).all (fun x => decide (x ∈ lw_tbl) && goodWord x) = true := by decide +kernel
  intro x hx
  have h1 := List.all_eq_true.mp h x hx
  simp only [Bool.and_eq_true, decide_eq_true_eq] at h1
  exact z_memD h1.1 h1.2
set_option maxRecDepth 100000 in
theorem ini_X0 : Cond.initialized RX0 ∈ lw_g := z_mem (k := 37) rfl rfl
theorem inX0 : ∀ x ∈ u_ws RX0 TX0 4, x ∈ lw_g := by
  have h : (u_ws RX0 TX0 4).all (fun x => decide (x ∈ lw_tbl) && goodWord x) = true := by decide +kernel
  intro x hx
  have h1 := List.all_eq_true.mp h x hx
  simp only [Bool.and_eq_true, decide_eq_true_eq] at h1
  exact z_memD h1.1 h1.2
set_option maxRecDepth 100000 in
theorem ini_X1 : Cond.initialized RX1 ∈ lw_g := z_mem (k := 33) rfl rfl
theorem inX1 : ∀ x ∈ u_ws RX1 TX1 3, x ∈ lw_g := by
  have h : (u_ws RX1 TX1 3).all (fun x => decide (x ∈ lw_tbl) && goodWord x) = true := by decide +kernel
  intro x hx
  have h1 := List.all_eq_true.mp h x hx
  simp only [Bool.and_eq_true, decide_eq_true_eq] at h1
  exact z_memD h1.1 h1.2
set_option maxRecDepth 100000 in
theorem ini_X2 : Cond.initialized RX2 ∈ lw_g := z_mem (k := 34) rfl rfl
theorem inX2 : ∀ x ∈ u_ws RX2 TX2 4, x ∈ lw_g := by
  have h : (u_ws RX2 TX2 4).all (fun x => decide (x ∈ lw_tbl) && goodWord x) = true := by decide +kernel
  intro x hx
  have h1 := List.all_eq_true.mp h x hx
  simp only [Bool.and_eq_true, decide_eq_true_eq] at h1
  exact z_memD h1.1 h1.2
set_option maxRecDepth 100000 in
theorem ini_X3 : Cond.initialized RX3 ∈ lw_g := z_mem (k := 35) rfl rfl
theorem inX3 : ∀ x ∈ u_ws RX3 TX3 2, x ∈ lw_g := by
  have h : (u_ws RX3 TX3 2).all (fun x => decide (x ∈ lw_tbl) && goodWord x) = true := by decide +kernel
  intro x hx
  have h1 := List.all_eq_true.mp h x hx
  simp only [Bool.and_eq_true, decide_eq_true_eq] at h1
  exact z_memD h1.1 h1.2
set_option maxRecDepth 100000 in
theorem ini_X4 : Cond.initialized RX4 ∈ lw_g := z_mem (k := 36) rfl rfl
theorem inX4 : ∀ x ∈ u_ws RX4 TX4 4, x ∈ lw_g := by
  have h : (u_ws RX4 TX4 4).all (fun x => decide (x ∈ lw_tbl) && goodWord x) = true := by decide +kernel
  intro x hx
  have h1 := List.all_eq_true.mp h x hx
  simp only [Bool.and_eq_true, decide_eq_true_eq] at h1
  exact z_memD h1.1 h1.2
set_option maxRecDepth 100000 in
theorem ini_X5 : Cond.initialized RX5 ∈ lw_g := z_mem (k := 32) rfl rfl
theorem inX5 : ∀ x ∈ u_ws RX5 TX5 1, x ∈ lw_g := by
  have h : (u_ws RX5 TX5 1).all (fun x => decide (x ∈ lw_tbl) && goodWord x) = true := by decide +kernel
  intro x hx
  have h1 := List.all_eq_true.mp h x hx
  simp only [Bool.and_eq_true, decide_eq_true_eq] at h1
  exact z_memD h1.1 h1.2
set_option maxRecDepth 100000 in
theorem ini_J6 : Cond.initialized RJ6 ∈ lw_g := z_mem (k := 42) rfl rfl
set_option maxRecDepth 100000 in
theorem ini_J9 : Cond.initialized RJ9 ∈ lw_g := z_mem (k := 41) rfl rfl
set_option maxRecDepth 100000 in
theorem ini_J7 : Cond.initialized RJ7 ∈ lw_g := z_mem (k := 39) rfl rfl
theorem ns_X6_9 : (RX6, 9, yX5_init, "EliminateLoci") ∈ nst := by decide +kernel
set_option maxRecDepth 100000 in
theorem fl_X5_11 : Cond.fieldLink RX5 11 "EliminateLoci$Row" "parts" "[[J" ∈ lw_g := z_mem (k := 59) rfl rfl
set_option maxRecDepth 100000 in
theorem fl_X1_27 : Cond.fieldLink RX1 27 "EliminateLoci$Row" "parts" "[[J" ∈ lw_g := z_mem (k := 60) rfl rfl
set_option maxRecDepth 100000 in
theorem fl_X6_69 : Cond.fieldLink RX6 69 "EliminateLoci$Row" "parts" "[[J" ∈ lw_g := z_mem (k := 61) rfl rfl
set_option maxRecDepth 100000 in
theorem fl_X2_37 : Cond.fieldLink RX2 37 "EliminateLoci$Row" "parts" "[[J" ∈ lw_g := z_mem (k := 62) rfl rfl
theorem ns_X6_21 : (RX6, 21, yX1_init, "EliminateLoci") ∈ nst := by decide +kernel
set_option maxRecDepth 100000 in
theorem fl_X1_9 : Cond.fieldLink RX1 9 "EliminateLoci$Divisor" "shared" "[J" ∈ lw_g := z_mem (k := 73) rfl rfl
set_option maxRecDepth 100000 in
theorem fl_X1_15 : Cond.fieldLink RX1 15 "EliminateLoci$Divisor" "other" "[J" ∈ lw_g := z_mem (k := 74) rfl rfl
set_option maxRecDepth 100000 in
theorem fl_X1_18 : Cond.fieldLink RX1 18 "EliminateLoci$Divisor" "spare" "[J" ∈ lw_g := z_mem (k := 75) rfl rfl
set_option maxRecDepth 100000 in
theorem ml_X6_28 : Cond.methodLink RX6 28 yX2_init ∈ lw_g := z_mem (k := 85) rfl rfl
theorem ns_X2_26 : (RX2, 26, yX3_init, "EliminateLoci") ∈ nst := by decide +kernel
set_option maxRecDepth 100000 in
theorem fl_X3_9 : Cond.fieldLink RX3 9 "EliminateLoci$Plane" "cells" "[J" ∈ lw_g := z_mem (k := 96) rfl rfl
set_option maxRecDepth 100000 in
theorem fl_X4_57 : Cond.fieldLink RX4 57 "EliminateLoci$Plane" "cells" "[J" ∈ lw_g := z_mem (k := 97) rfl rfl
set_option maxRecDepth 100000 in
theorem fl_X2_56 : Cond.fieldLink RX2 56 "EliminateLoci$Plane" "cells" "[J" ∈ lw_g := z_mem (k := 98) rfl rfl
set_option maxRecDepth 100000 in
theorem fl_X6_122 : Cond.fieldLink RX6 122 "EliminateLoci$Plane" "cells" "[J" ∈ lw_g := z_mem (k := 99) rfl rfl
set_option maxRecDepth 100000 in
theorem fl_X3_15 : Cond.fieldLink RX3 15 "EliminateLoci$Plane" "bound" "I" ∈ lw_g := z_mem (k := 100) rfl rfl
set_option maxRecDepth 100000 in
theorem fl_X4_32 : Cond.fieldLink RX4 32 "EliminateLoci$Plane" "bound" "I" ∈ lw_g := z_mem (k := 101) rfl rfl
set_option maxRecDepth 100000 in
theorem fl_X6_113 : Cond.fieldLink RX6 113 "EliminateLoci$Plane" "bound" "I" ∈ lw_g := z_mem (k := 102) rfl rfl
set_option maxRecDepth 100000 in
theorem fl_X2_11 : Cond.fieldLink RX2 11 "EliminateLoci$Eliminant" "first" "[LEliminateLoci$Plane;" ∈ lw_g := z_mem (k := 108) rfl rfl
set_option maxRecDepth 100000 in
theorem fl_X2_17 : Cond.fieldLink RX2 17 "EliminateLoci$Eliminant" "second" "[LEliminateLoci$Plane;" ∈ lw_g := z_mem (k := 109) rfl rfl
set_option maxRecDepth 100000 in
theorem fl_X2_20 : Cond.fieldLink RX2 20 "EliminateLoci$Eliminant" "entries" "[LEliminateLoci$Plane;" ∈ lw_g := z_mem (k := 110) rfl rfl
set_option maxRecDepth 100000 in
theorem fl_X2_23 : Cond.fieldLink RX2 23 "EliminateLoci$Eliminant" "minors" "[LEliminateLoci$Plane;" ∈ lw_g := z_mem (k := 111) rfl rfl
theorem ns_X6_35 : (RX6, 35, yX4_init, "EliminateLoci") ∈ nst := by decide +kernel
theorem ns_X4_9 : (RX4, 9, yX3_init, "EliminateLoci") ∈ nst := by decide +kernel
set_option maxRecDepth 100000 in
theorem fl_X4_10 : Cond.fieldLink RX4 10 "EliminateLoci$RootFinder" "whole" "LEliminateLoci$Plane;" ∈ lw_g := z_mem (k := 129) rfl rfl
set_option maxRecDepth 100000 in
theorem fl_X4_16 : Cond.fieldLink RX4 16 "EliminateLoci$RootFinder" "root" "LEliminateLoci$Plane;" ∈ lw_g := z_mem (k := 130) rfl rfl
set_option maxRecDepth 100000 in
theorem fl_X4_19 : Cond.fieldLink RX4 19 "EliminateLoci$RootFinder" "raised" "LEliminateLoci$Plane;" ∈ lw_g := z_mem (k := 131) rfl rfl
set_option maxRecDepth 100000 in
theorem fl_X4_22 : Cond.fieldLink RX4 22 "EliminateLoci$RootFinder" "spare" "LEliminateLoci$Plane;" ∈ lw_g := z_mem (k := 132) rfl rfl
theorem ns_X6_42 : (RX6, 42, yX0_init, "EliminateLoci") ∈ nst := by decide +kernel
theorem ns_X0_9 : (RX0, 9, yX3_init, "EliminateLoci") ∈ nst := by decide +kernel
set_option maxRecDepth 100000 in
theorem fl_X0_10 : Cond.fieldLink RX0 10 "EliminateLoci$Curve" "root" "LEliminateLoci$Plane;" ∈ lw_g := z_mem (k := 150) rfl rfl
set_option maxRecDepth 100000 in
theorem fl_X4_47 : Cond.fieldLink RX4 47 "EliminateLoci$Curve" "root" "LEliminateLoci$Plane;" ∈ lw_g := z_mem (k := 151) rfl rfl
set_option maxRecDepth 100000 in
theorem fl_X6_109 : Cond.fieldLink RX6 109 "EliminateLoci$Curve" "root" "LEliminateLoci$Plane;" ∈ lw_g := z_mem (k := 152) rfl rfl
set_option maxRecDepth 100000 in
theorem fl_X0_16 : Cond.fieldLink RX0 16 "EliminateLoci$Curve" "power" "I" ∈ lw_g := z_mem (k := 153) rfl rfl
set_option maxRecDepth 100000 in
theorem fl_X4_50 : Cond.fieldLink RX4 50 "EliminateLoci$Curve" "power" "I" ∈ lw_g := z_mem (k := 154) rfl rfl
set_option maxRecDepth 100000 in
theorem fl_X6_119 : Cond.fieldLink RX6 119 "EliminateLoci$Curve" "power" "I" ∈ lw_g := z_mem (k := 155) rfl rfl
set_option maxRecDepth 100000 in
theorem fl_X0_20 : Cond.fieldLink RX0 20 "EliminateLoci$Curve" "known" "Z" ∈ lw_g := z_mem (k := 156) rfl rfl
set_option maxRecDepth 100000 in
theorem fl_X6_144 : Cond.fieldLink RX6 144 "EliminateLoci$Curve" "known" "Z" ∈ lw_g := z_mem (k := 157) rfl rfl
set_option maxRecDepth 100000 in
theorem fl_X0_24 : Cond.fieldLink RX0 24 "EliminateLoci$Curve" "found" "Z" ∈ lw_g := z_mem (k := 158) rfl rfl
set_option maxRecDepth 100000 in
theorem fl_X6_106 : Cond.fieldLink RX6 106 "EliminateLoci$Curve" "found" "Z" ∈ lw_g := z_mem (k := 159) rfl rfl
set_option maxRecDepth 100000 in
theorem fl_X6_10 : Cond.fieldLink RX6 10 "EliminateLoci" "row" "LEliminateLoci$Row;" ∈ lw_g := z_mem (k := 169) rfl rfl
set_option maxRecDepth 100000 in
theorem fl_X6_16 : Cond.fieldLink RX6 16 "EliminateLoci" "freedRow" "LEliminateLoci$Row;" ∈ lw_g := z_mem (k := 170) rfl rfl
set_option maxRecDepth 100000 in
theorem fl_X6_22 : Cond.fieldLink RX6 22 "EliminateLoci" "divisor" "LEliminateLoci$Divisor;" ∈ lw_g := z_mem (k := 171) rfl rfl
set_option maxRecDepth 100000 in
theorem fl_X6_29 : Cond.fieldLink RX6 29 "EliminateLoci" "eliminant" "LEliminateLoci$Eliminant;" ∈ lw_g := z_mem (k := 172) rfl rfl
set_option maxRecDepth 100000 in
theorem fl_X6_36 : Cond.fieldLink RX6 36 "EliminateLoci" "finder" "LEliminateLoci$RootFinder;" ∈ lw_g := z_mem (k := 173) rfl rfl
set_option maxRecDepth 100000 in
theorem fl_X6_43 : Cond.fieldLink RX6 43 "EliminateLoci" "locus" "LEliminateLoci$Curve;" ∈ lw_g := z_mem (k := 174) rfl rfl
set_option maxRecDepth 100000 in
theorem fl_X6_47 : Cond.fieldLink RX6 47 "EliminateLoci" "envelope" "LEliminateLoci$Curve;" ∈ lw_g := z_mem (k := 175) rfl rfl
set_option maxRecDepth 100000 in
theorem fl_X6_50 : Cond.fieldLink RX6 50 "EliminateLoci" "spot" "[J" ∈ lw_g := z_mem (k := 176) rfl rfl
set_option maxRecDepth 100000 in
theorem fl_X6_54 : Cond.fieldLink RX6 54 "EliminateLoci" "freedKnown" "Z" ∈ lw_g := z_mem (k := 177) rfl rfl
set_option maxRecDepth 100000 in
theorem ml_X6_58 : Cond.methodLink RX6 58 yX6_isPart ∈ lw_g := z_mem (k := 201) rfl rfl
set_option maxRecDepth 100000 in
theorem ml_X6_62 : Cond.methodLink RX6 62 yX6_isPower ∈ lw_g := z_mem (k := 204) rfl rfl
set_option maxRecDepth 100000 in
theorem ml_X6_65 : Cond.methodLink RX6 65 yX6_isWithin ∈ lw_g := z_mem (k := 207) rfl rfl
set_option maxRecDepth 100000 in
theorem ml_X6_73 : Cond.methodLink RX6 73 yX6_forget ∈ lw_g := z_mem (k := 210) rfl rfl
set_option maxRecDepth 100000 in
theorem ml_X6_76 : Cond.methodLink RX6 76 yX5_countAndErase ∈ lw_g := z_mem (k := 218) rfl rfl
set_option maxRecDepth 100000 in
theorem ml_X6_80 : Cond.methodLink RX6 80 yX5_highestPower ∈ lw_g := z_mem (k := 226) rfl rfl
set_option maxRecDepth 100000 in
theorem ml_X6_83 : Cond.methodLink RX6 83 yX6_freeRow ∈ lw_g := z_mem (k := 230) rfl rfl
set_option maxRecDepth 100000 in
theorem ml_X6_147 : Cond.methodLink RX6 147 yX1_free ∈ lw_g := z_mem (k := 234) rfl rfl
set_option maxRecDepth 100000 in
theorem ml_X1_21 : Cond.methodLink RX1 21 yJ7_fill_d0a16 ∈ lw_g := z_mem (k := 238) rfl rfl
set_option maxRecDepth 100000 in
theorem ml_X1_39 : Cond.methodLink RX1 39 yX1_shareWithOther ∈ lw_g := z_mem (k := 244) rfl rfl
set_option maxRecDepth 100000 in
theorem ml_X1_46 : Cond.methodLink RX1 46 yX5_topOf ∈ lw_g := z_mem (k := 248) rfl rfl
set_option maxRecDepth 100000 in
theorem ml_X1_53 : Cond.methodLink RX1 53 yX1_swap ∈ lw_g := z_mem (k := 251) rfl rfl
set_option maxRecDepth 100000 in
theorem ml_X1_56 : Cond.methodLink RX1 56 yX1_lowerShared ∈ lw_g := z_mem (k := 255) rfl rfl
theorem ns_X1_60 : (RX1, 60, yX6_commonOf, "EliminateLoci") ∈ nst := by decide +kernel
set_option maxRecDepth 100000 in
theorem ml_X1_42 : Cond.methodLink RX1 42 yX1_makePrimitive ∈ lw_g := z_mem (k := 262) rfl rfl
set_option maxRecDepth 100000 in
theorem ml_X1_50 : Cond.methodLink RX1 50 yX1_divideByShared ∈ lw_g := z_mem (k := 266) rfl rfl
set_option maxRecDepth 100000 in
theorem co_X6_87 : Cond.constant RX6 87 (-1000000) ∈ lw_g := z_mem (k := 274) rfl rfl
set_option maxRecDepth 100000 in
theorem ml_X6_88 : Cond.methodLink RX6 88 yX6_isParameter ∈ lw_g := z_mem (k := 279) rfl rfl
set_option maxRecDepth 100000 in
theorem ml_X6_91 : Cond.methodLink RX6 91 yX6_moveTo ∈ lw_g := z_mem (k := 282) rfl rfl
set_option maxRecDepth 100000 in
theorem ml_X6_166 : Cond.methodLink RX6 166 yX6_powerOf ∈ lw_g := z_mem (k := 286) rfl rfl
set_option maxRecDepth 100000 in
theorem ml_X6_95 : Cond.methodLink RX6 95 yX6_commonOf ∈ lw_g := z_mem (k := 289) rfl rfl
set_option maxRecDepth 100000 in
theorem ml_X6_99 : Cond.methodLink RX6 99 yX6_isSort ∈ lw_g := z_mem (k := 294) rfl rfl
set_option maxRecDepth 100000 in
theorem ml_X6_102 : Cond.methodLink RX6 102 yX6_curveOf ∈ lw_g := z_mem (k := 297) rfl rfl
set_option maxRecDepth 100000 in
theorem ml_X6_151 : Cond.methodLink RX6 151 yX2_takeMover ∈ lw_g := z_mem (k := 301) rfl rfl
set_option maxRecDepth 100000 in
theorem ml_X2_27 : Cond.methodLink RX2 27 yX5_isZero ∈ lw_g := z_mem (k := 305) rfl rfl
set_option maxRecDepth 100000 in
theorem ml_X5_16 : Cond.methodLink RX5 16 yX5_topOf ∈ lw_g := z_mem (k := 309) rfl rfl
set_option maxRecDepth 100000 in
theorem ml_X2_33 : Cond.methodLink RX2 33 yX5_highestPower ∈ lw_g := z_mem (k := 310) rfl rfl
set_option maxRecDepth 100000 in
theorem ml_X2_41 : Cond.methodLink RX2 41 yX3_setLine ∈ lw_g := z_mem (k := 311) rfl rfl
set_option maxRecDepth 100000 in
theorem ml_X3_25 : Cond.methodLink RX3 25 yX3_erase ∈ lw_g := z_mem (k := 315) rfl rfl
set_option maxRecDepth 100000 in
theorem ml_X3_19 : Cond.methodLink RX3 19 yJ7_fill_d0a16 ∈ lw_g := z_mem (k := 319) rfl rfl
theorem ns_X3_28 : (RX3, 28, yX6_slotOf, "EliminateLoci") ∈ nst := by decide +kernel
set_option maxRecDepth 100000 in
theorem ml_X6_155 : Cond.methodLink RX6 155 yX2_takeLines ∈ lw_g := z_mem (k := 323) rfl rfl
set_option maxRecDepth 100000 in
theorem ml_X2_45 : Cond.methodLink RX2 45 yX2_setScaledLine ∈ lw_g := z_mem (k := 327) rfl rfl
set_option maxRecDepth 100000 in
theorem ml_X6_158 : Cond.methodLink RX6 158 yX2_resultant ∈ lw_g := z_mem (k := 330) rfl rfl
set_option maxRecDepth 100000 in
theorem ml_X2_49 : Cond.methodLink RX2 49 yX2_fillEntry ∈ lw_g := z_mem (k := 334) rfl rfl
set_option maxRecDepth 100000 in
theorem ml_X2_53 : Cond.methodLink RX2 53 yX3_erase ∈ lw_g := z_mem (k := 338) rfl rfl
set_option maxRecDepth 100000 in
theorem ml_X2_64 : Cond.methodLink RX2 64 yJ9_min_7cf53 ∈ lw_g := z_mem (k := 339) rfl rfl
set_option maxRecDepth 100000 in
theorem ml_X2_70 : Cond.methodLink RX2 70 yX3_addProduct ∈ lw_g := z_mem (k := 342) rfl rfl
set_option maxRecDepth 100000 in
theorem co_X2_74 : Cond.constantLong RX2 74 (-1) ∈ lw_g := z_mem (k := 346) rfl rfl
set_option maxRecDepth 100000 in
theorem ml_X2_76 : Cond.methodLink RX2 76 yX3_tighten ∈ lw_g := z_mem (k := 347) rfl rfl
set_option maxRecDepth 100000 in
theorem ml_X3_38 : Cond.methodLink RX3 38 yX3_firstOfBound ∈ lw_g := z_mem (k := 351) rfl rfl
set_option maxRecDepth 100000 in
theorem ml_X2_60 : Cond.methodLink RX2 60 yX2_fillMinor ∈ lw_g := z_mem (k := 355) rfl rfl
set_option maxRecDepth 100000 in
theorem ml_X2_79 : Cond.methodLink RX2 79 yJ6_bitCount_0f7a4 ∈ lw_g := z_mem (k := 359) rfl rfl
set_option maxRecDepth 100000 in
theorem co_J6_265 : Cond.constant RJ6 265 (1431655765) ∈ lw_g := z_mem (k := 362) rfl rfl
set_option maxRecDepth 100000 in
theorem co_J6_266 : Cond.constant RJ6 266 (858993459) ∈ lw_g := z_mem (k := 363) rfl rfl
set_option maxRecDepth 100000 in
theorem co_J6_267 : Cond.constant RJ6 267 (252645135) ∈ lw_g := z_mem (k := 364) rfl rfl
set_option maxRecDepth 100000 in
theorem ml_X6_162 : Cond.methodLink RX6 162 yX4_findRoot ∈ lw_g := z_mem (k := 365) rfl rfl
set_option maxRecDepth 100000 in
theorem ml_X4_25 : Cond.methodLink RX4 25 yX3_copy ∈ lw_g := z_mem (k := 369) rfl rfl
set_option maxRecDepth 100000 in
theorem ml_X4_29 : Cond.methodLink RX4 29 yX3_makePrimitive ∈ lw_g := z_mem (k := 374) rfl rfl
set_option maxRecDepth 100000 in
theorem ml_X3_42 : Cond.methodLink RX3 42 yX3_tighten ∈ lw_g := z_mem (k := 378) rfl rfl
theorem ns_X3_45 : (RX3, 45, yX6_commonOf, "EliminateLoci") ∈ nst := by decide +kernel
set_option maxRecDepth 100000 in
theorem ml_X4_36 : Cond.methodLink RX4 36 yX4_startRoot ∈ lw_g := z_mem (k := 380) rfl rfl
set_option maxRecDepth 100000 in
theorem ml_X4_53 : Cond.methodLink RX4 53 yX3_firstOfBound ∈ lw_g := z_mem (k := 384) rfl rfl
theorem ns_X4_61 : (RX4, 61, yX6_slotOf, "EliminateLoci") ∈ nst := by decide +kernel
theorem ns_X4_67 : (RX4, 67, yX6_rootOf, "EliminateLoci") ∈ nst := by decide +kernel
set_option maxRecDepth 100000 in
theorem ml_X6_170 : Cond.methodLink RX6 170 yX6_isPowerWithin ∈ lw_g := z_mem (k := 389) rfl rfl
set_option maxRecDepth 100000 in
theorem ml_X4_71 : Cond.methodLink RX4 71 yX3_erase ∈ lw_g := z_mem (k := 392) rfl rfl
theorem ns_X4_74 : (RX4, 74, yX6_powerOf, "EliminateLoci") ∈ nst := by decide +kernel
set_option maxRecDepth 100000 in
theorem ml_X4_40 : Cond.methodLink RX4 40 yX4_completeRoot ∈ lw_g := z_mem (k := 394) rfl rfl
set_option maxRecDepth 100000 in
theorem ml_X4_77 : Cond.methodLink RX4 77 yX3_sumOfSizes ∈ lw_g := z_mem (k := 398) rfl rfl
set_option maxRecDepth 100000 in
theorem ml_X3_49 : Cond.methodLink RX3 49 yJ9_abs_067f4 ∈ lw_g := z_mem (k := 402) rfl rfl
set_option maxRecDepth 100000 in
theorem ml_X4_81 : Cond.methodLink RX4 81 yX4_raiseRoot ∈ lw_g := z_mem (k := 405) rfl rfl
set_option maxRecDepth 100000 in
theorem ml_X4_85 : Cond.methodLink RX4 85 yX3_addProduct ∈ lw_g := z_mem (k := 409) rfl rfl
set_option maxRecDepth 100000 in
theorem ml_X4_43 : Cond.methodLink RX4 43 yX3_isSame ∈ lw_g := z_mem (k := 410) rfl rfl
set_option maxRecDepth 100000 in
theorem ml_X6_125 : Cond.methodLink RX6 125 yX6_slotOf ∈ lw_g := z_mem (k := 422) rfl rfl
set_option maxRecDepth 100000 in
theorem ml_X6_129 : Cond.methodLink RX6 129 yX6_isPlace ∈ lw_g := z_mem (k := 427) rfl rfl
set_option maxRecDepth 100000 in
theorem ml_X6_133 : Cond.methodLink RX6 133 yX3_scaledValue ∈ lw_g := z_mem (k := 430) rfl rfl
theorem ns_X3_55 : (RX3, 55, yX6_powerOf, "EliminateLoci") ∈ nst := by decide +kernel
set_option maxRecDepth 100000 in
theorem ml_X6_137 : Cond.methodLink RX6 137 yX6_slopeByU ∈ lw_g := z_mem (k := 447) rfl rfl
set_option maxRecDepth 100000 in
theorem ml_X6_141 : Cond.methodLink RX6 141 yX6_slopeByV ∈ lw_g := z_mem (k := 451) rfl rfl
set_option maxRecDepth 100000 in
theorem mc_X0_init : Cond.code yX0_init cX0_init 1 none ∈ lw_g := z_mem (k := 146) rfl rfl
theorem nd_X0_init : yX0_init.cls ≠ "java/lang/invoke/MethodHandle" ∧ yX0_init.cls ≠ "java/lang/invoke/VarHandle" ∧ (parseMethodDescriptor yX0_init.desc).map (fun d => d.parameters.length) = some 0 := by decide +kernel
set_option maxRecDepth 100000 in
theorem im_X0_init : Cond.instanceMethod yX0_init ∈ lw_g := z_mem (k := 145) rfl rfl
set_option maxRecDepth 100000 in
theorem mc_X1_init : Cond.code yX1_init cX1_init 1 none ∈ lw_g := z_mem (k := 71) rfl rfl
theorem nd_X1_init : yX1_init.cls ≠ "java/lang/invoke/MethodHandle" ∧ yX1_init.cls ≠ "java/lang/invoke/VarHandle" ∧ (parseMethodDescriptor yX1_init.desc).map (fun d => d.parameters.length) = some 0 := by decide +kernel
set_option maxRecDepth 100000 in
theorem im_X1_init : Cond.instanceMethod yX1_init ∈ lw_g := z_mem (k := 70) rfl rfl
set_option maxRecDepth 100000 in
theorem mc_X1_free : Cond.code yX1_free cX1_free 4 none ∈ lw_g := z_mem (k := 237) rfl rfl
theorem nd_X1_free : yX1_free.cls ≠ "java/lang/invoke/MethodHandle" ∧ yX1_free.cls ≠ "java/lang/invoke/VarHandle" ∧ (parseMethodDescriptor yX1_free.desc).map (fun d => d.parameters.length) = some 2 := by decide +kernel
set_option maxRecDepth 100000 in
theorem im_X1_free : Cond.instanceMethod yX1_free ∈ lw_g := z_mem (k := 235) rfl rfl
set_option maxRecDepth 100000 in
theorem se_X1_free : Cond.selects RX1 yX1_free yX1_free ∈ lw_g := z_mem (k := 236) rfl rfl
set_option maxRecDepth 100000 in
theorem mc_X1_shareWithOther : Cond.code yX1_shareWithOther cX1_shareWithOther 4 none ∈ lw_g := z_mem (k := 247) rfl rfl
theorem nd_X1_shareWithOther : yX1_shareWithOther.cls ≠ "java/lang/invoke/MethodHandle" ∧ yX1_shareWithOther.cls ≠ "java/lang/invoke/VarHandle" ∧ (parseMethodDescriptor yX1_shareWithOther.desc).map (fun d => d.parameters.length) = some 0 := by decide +kernel
set_option maxRecDepth 100000 in
theorem im_X1_shareWithOther : Cond.instanceMethod yX1_shareWithOther ∈ lw_g := z_mem (k := 246) rfl rfl
set_option maxRecDepth 100000 in
theorem se_X1_shareWithOther : Cond.selects RX1 yX1_shareWithOther yX1_shareWithOther ∈ lw_g := z_mem (k := 2) rfl rfl
set_option maxRecDepth 100000 in
theorem mc_X1_swap : Cond.code yX1_swap cX1_swap 1 none ∈ lw_g := z_mem (k := 254) rfl rfl
theorem nd_X1_swap : yX1_swap.cls ≠ "java/lang/invoke/MethodHandle" ∧ yX1_swap.cls ≠ "java/lang/invoke/VarHandle" ∧ (parseMethodDescriptor yX1_swap.desc).map (fun d => d.parameters.length) = some 0 := by decide +kernel
set_option maxRecDepth 100000 in
theorem im_X1_swap : Cond.instanceMethod yX1_swap ∈ lw_g := z_mem (k := 253) rfl rfl
set_option maxRecDepth 100000 in
theorem se_X1_swap : Cond.selects RX1 yX1_swap yX1_swap ∈ lw_g := z_mem (k := 3) rfl rfl
set_option maxRecDepth 100000 in
theorem mc_X1_lowerShared : Cond.code yX1_lowerShared cX1_lowerShared 13 none ∈ lw_g := z_mem (k := 258) rfl rfl
theorem nd_X1_lowerShared : yX1_lowerShared.cls ≠ "java/lang/invoke/MethodHandle" ∧ yX1_lowerShared.cls ≠ "java/lang/invoke/VarHandle" ∧ (parseMethodDescriptor yX1_lowerShared.desc).map (fun d => d.parameters.length) = some 2 := by decide +kernel
set_option maxRecDepth 100000 in
theorem im_X1_lowerShared : Cond.instanceMethod yX1_lowerShared ∈ lw_g := z_mem (k := 257) rfl rfl
set_option maxRecDepth 100000 in
theorem se_X1_lowerShared : Cond.selects RX1 yX1_lowerShared yX1_lowerShared ∈ lw_g := z_mem (k := 4) rfl rfl
set_option maxRecDepth 100000 in
theorem mc_X1_makePrimitive : Cond.code yX1_makePrimitive cX1_makePrimitive 6 none ∈ lw_g := z_mem (k := 265) rfl rfl
theorem nd_X1_makePrimitive : yX1_makePrimitive.cls ≠ "java/lang/invoke/MethodHandle" ∧ yX1_makePrimitive.cls ≠ "java/lang/invoke/VarHandle" ∧ (parseMethodDescriptor yX1_makePrimitive.desc).map (fun d => d.parameters.length) = some 1 := by decide +kernel
set_option maxRecDepth 100000 in
theorem im_X1_makePrimitive : Cond.instanceMethod yX1_makePrimitive ∈ lw_g := z_mem (k := 264) rfl rfl
set_option maxRecDepth 100000 in
theorem se_X1_makePrimitive : Cond.selects RX1 yX1_makePrimitive yX1_makePrimitive ∈ lw_g := z_mem (k := 5) rfl rfl
set_option maxRecDepth 100000 in
theorem mc_X1_divideByShared : Cond.code yX1_divideByShared cX1_divideByShared 7 none ∈ lw_g := z_mem (k := 269) rfl rfl
theorem nd_X1_divideByShared : yX1_divideByShared.cls ≠ "java/lang/invoke/MethodHandle" ∧ yX1_divideByShared.cls ≠ "java/lang/invoke/VarHandle" ∧ (parseMethodDescriptor yX1_divideByShared.desc).map (fun d => d.parameters.length) = some 1 := by decide +kernel
set_option maxRecDepth 100000 in
theorem im_X1_divideByShared : Cond.instanceMethod yX1_divideByShared ∈ lw_g := z_mem (k := 268) rfl rfl
set_option maxRecDepth 100000 in
theorem se_X1_divideByShared : Cond.selects RX1 yX1_divideByShared yX1_divideByShared ∈ lw_g := z_mem (k := 6) rfl rfl
set_option maxRecDepth 100000 in
theorem mc_X2_init : Cond.code yX2_init cX2_init 4 none ∈ lw_g := z_mem (k := 87) rfl rfl
theorem nd_X2_init : yX2_init.cls ≠ "java/lang/invoke/MethodHandle" ∧ yX2_init.cls ≠ "java/lang/invoke/VarHandle" ∧ (parseMethodDescriptor yX2_init.desc).map (fun d => d.parameters.length) = some 0 := by decide +kernel
set_option maxRecDepth 100000 in
theorem im_X2_init : Cond.instanceMethod yX2_init ∈ lw_g := z_mem (k := 86) rfl rfl
set_option maxRecDepth 100000 in
theorem mc_X2_takeMover : Cond.code yX2_takeMover cX2_takeMover 4 (some .int) ∈ lw_g := z_mem (k := 304) rfl rfl
theorem nd_X2_takeMover : yX2_takeMover.cls ≠ "java/lang/invoke/MethodHandle" ∧ yX2_takeMover.cls ≠ "java/lang/invoke/VarHandle" ∧ (parseMethodDescriptor yX2_takeMover.desc).map (fun d => d.parameters.length) = some 1 := by decide +kernel
set_option maxRecDepth 100000 in
theorem im_X2_takeMover : Cond.instanceMethod yX2_takeMover ∈ lw_g := z_mem (k := 302) rfl rfl
set_option maxRecDepth 100000 in
theorem se_X2_takeMover : Cond.selects RX2 yX2_takeMover yX2_takeMover ∈ lw_g := z_mem (k := 303) rfl rfl
set_option maxRecDepth 100000 in
theorem mc_X2_takeLines : Cond.code yX2_takeLines cX2_takeLines 4 (some .int) ∈ lw_g := z_mem (k := 326) rfl rfl
theorem nd_X2_takeLines : yX2_takeLines.cls ≠ "java/lang/invoke/MethodHandle" ∧ yX2_takeLines.cls ≠ "java/lang/invoke/VarHandle" ∧ (parseMethodDescriptor yX2_takeLines.desc).map (fun d => d.parameters.length) = some 1 := by decide +kernel
set_option maxRecDepth 100000 in
theorem im_X2_takeLines : Cond.instanceMethod yX2_takeLines ∈ lw_g := z_mem (k := 324) rfl rfl
set_option maxRecDepth 100000 in
theorem se_X2_takeLines : Cond.selects RX2 yX2_takeLines yX2_takeLines ∈ lw_g := z_mem (k := 325) rfl rfl
set_option maxRecDepth 100000 in
theorem mc_X2_setScaledLine : Cond.code yX2_setScaledLine cX2_setScaledLine 5 none ∈ lw_g := z_mem (k := 329) rfl rfl
theorem nd_X2_setScaledLine : yX2_setScaledLine.cls ≠ "java/lang/invoke/MethodHandle" ∧ yX2_setScaledLine.cls ≠ "java/lang/invoke/VarHandle" ∧ (parseMethodDescriptor yX2_setScaledLine.desc).map (fun d => d.parameters.length) = some 4 := by decide +kernel
set_option maxRecDepth 100000 in
theorem st_X2_setScaledLine : Cond.static yX2_setScaledLine ∈ lw_g := z_mem (k := 328) rfl rfl
set_option maxRecDepth 100000 in
theorem mc_X2_resultant : Cond.code yX2_resultant cX2_resultant 4 (some (.object "EliminateLoci$Plane")) ∈ lw_g := z_mem (k := 333) rfl rfl
theorem nd_X2_resultant : yX2_resultant.cls ≠ "java/lang/invoke/MethodHandle" ∧ yX2_resultant.cls ≠ "java/lang/invoke/VarHandle" ∧ (parseMethodDescriptor yX2_resultant.desc).map (fun d => d.parameters.length) = some 1 := by decide +kernel
set_option maxRecDepth 100000 in
theorem im_X2_resultant : Cond.instanceMethod yX2_resultant ∈ lw_g := z_mem (k := 331) rfl rfl
set_option maxRecDepth 100000 in
theorem se_X2_resultant : Cond.selects RX2 yX2_resultant yX2_resultant ∈ lw_g := z_mem (k := 332) rfl rfl
set_option maxRecDepth 100000 in
theorem mc_X2_fillEntry : Cond.code yX2_fillEntry cX2_fillEntry 7 none ∈ lw_g := z_mem (k := 337) rfl rfl
theorem nd_X2_fillEntry : yX2_fillEntry.cls ≠ "java/lang/invoke/MethodHandle" ∧ yX2_fillEntry.cls ≠ "java/lang/invoke/VarHandle" ∧ (parseMethodDescriptor yX2_fillEntry.desc).map (fun d => d.parameters.length) = some 3 := by decide +kernel
set_option maxRecDepth 100000 in
theorem im_X2_fillEntry : Cond.instanceMethod yX2_fillEntry ∈ lw_g := z_mem (k := 336) rfl rfl
set_option maxRecDepth 100000 in
theorem se_X2_fillEntry : Cond.selects RX2 yX2_fillEntry yX2_fillEntry ∈ lw_g := z_mem (k := 9) rfl rfl
set_option maxRecDepth 100000 in
theorem mc_X2_fillMinor : Cond.code yX2_fillMinor cX2_fillMinor 7 none ∈ lw_g := z_mem (k := 358) rfl rfl
theorem nd_X2_fillMinor : yX2_fillMinor.cls ≠ "java/lang/invoke/MethodHandle" ∧ yX2_fillMinor.cls ≠ "java/lang/invoke/VarHandle" ∧ (parseMethodDescriptor yX2_fillMinor.desc).map (fun d => d.parameters.length) = some 2 := by decide +kernel
set_option maxRecDepth 100000 in
theorem im_X2_fillMinor : Cond.instanceMethod yX2_fillMinor ∈ lw_g := z_mem (k := 357) rfl rfl
set_option maxRecDepth 100000 in
theorem se_X2_fillMinor : Cond.selects RX2 yX2_fillMinor yX2_fillMinor ∈ lw_g := z_mem (k := 10) rfl rfl
set_option maxRecDepth 100000 in
theorem mc_X3_init : Cond.code yX3_init cX3_init 1 none ∈ lw_g := z_mem (k := 94) rfl rfl
theorem nd_X3_init : yX3_init.cls ≠ "java/lang/invoke/MethodHandle" ∧ yX3_init.cls ≠ "java/lang/invoke/VarHandle" ∧ (parseMethodDescriptor yX3_init.desc).map (fun d => d.parameters.length) = some 0 := by decide +kernel
set_option maxRecDepth 100000 in
theorem im_X3_init : Cond.instanceMethod yX3_init ∈ lw_g := z_mem (k := 93) rfl rfl
set_option maxRecDepth 100000 in
theorem mc_X3_erase : Cond.code yX3_erase cX3_erase 1 none ∈ lw_g := z_mem (k := 318) rfl rfl
theorem nd_X3_erase : yX3_erase.cls ≠ "java/lang/invoke/MethodHandle" ∧ yX3_erase.cls ≠ "java/lang/invoke/VarHandle" ∧ (parseMethodDescriptor yX3_erase.desc).map (fun d => d.parameters.length) = some 0 := by decide +kernel
set_option maxRecDepth 100000 in
theorem im_X3_erase : Cond.instanceMethod yX3_erase ∈ lw_g := z_mem (k := 316) rfl rfl
set_option maxRecDepth 100000 in
theorem se_X3_erase : Cond.selects RX3 yX3_erase yX3_erase ∈ lw_g := z_mem (k := 317) rfl rfl
set_option maxRecDepth 100000 in
theorem mc_X3_setLine : Cond.code yX3_setLine cX3_setLine 7 none ∈ lw_g := z_mem (k := 314) rfl rfl
theorem nd_X3_setLine : yX3_setLine.cls ≠ "java/lang/invoke/MethodHandle" ∧ yX3_setLine.cls ≠ "java/lang/invoke/VarHandle" ∧ (parseMethodDescriptor yX3_setLine.desc).map (fun d => d.parameters.length) = some 3 := by decide +kernel
set_option maxRecDepth 100000 in
theorem im_X3_setLine : Cond.instanceMethod yX3_setLine ∈ lw_g := z_mem (k := 312) rfl rfl
set_option maxRecDepth 100000 in
theorem se_X3_setLine : Cond.selects RX3 yX3_setLine yX3_setLine ∈ lw_g := z_mem (k := 313) rfl rfl
set_option maxRecDepth 100000 in
theorem mc_X3_copy : Cond.code yX3_copy cX3_copy 2 none ∈ lw_g := z_mem (k := 372) rfl rfl
theorem nd_X3_copy : yX3_copy.cls ≠ "java/lang/invoke/MethodHandle" ∧ yX3_copy.cls ≠ "java/lang/invoke/VarHandle" ∧ (parseMethodDescriptor yX3_copy.desc).map (fun d => d.parameters.length) = some 1 := by decide +kernel
set_option maxRecDepth 100000 in
theorem im_X3_copy : Cond.instanceMethod yX3_copy ∈ lw_g := z_mem (k := 370) rfl rfl
set_option maxRecDepth 100000 in
theorem se_X3_copy : Cond.selects RX3 yX3_copy yX3_copy ∈ lw_g := z_mem (k := 371) rfl rfl
set_option maxRecDepth 100000 in
theorem mc_X3_addProduct : Cond.code yX3_addProduct cX3_addProduct 15 none ∈ lw_g := z_mem (k := 345) rfl rfl
theorem nd_X3_addProduct : yX3_addProduct.cls ≠ "java/lang/invoke/MethodHandle" ∧ yX3_addProduct.cls ≠ "java/lang/invoke/VarHandle" ∧ (parseMethodDescriptor yX3_addProduct.desc).map (fun d => d.parameters.length) = some 3 := by decide +kernel
set_option maxRecDepth 100000 in
theorem im_X3_addProduct : Cond.instanceMethod yX3_addProduct ∈ lw_g := z_mem (k := 343) rfl rfl
set_option maxRecDepth 100000 in
theorem se_X3_addProduct : Cond.selects RX3 yX3_addProduct yX3_addProduct ∈ lw_g := z_mem (k := 344) rfl rfl
set_option maxRecDepth 100000 in
theorem mc_X3_tighten : Cond.code yX3_tighten cX3_tighten 1 none ∈ lw_g := z_mem (k := 350) rfl rfl
theorem nd_X3_tighten : yX3_tighten.cls ≠ "java/lang/invoke/MethodHandle" ∧ yX3_tighten.cls ≠ "java/lang/invoke/VarHandle" ∧ (parseMethodDescriptor yX3_tighten.desc).map (fun d => d.parameters.length) = some 0 := by decide +kernel
set_option maxRecDepth 100000 in
theorem im_X3_tighten : Cond.instanceMethod yX3_tighten ∈ lw_g := z_mem (k := 348) rfl rfl
set_option maxRecDepth 100000 in
theorem se_X3_tighten : Cond.selects RX3 yX3_tighten yX3_tighten ∈ lw_g := z_mem (k := 349) rfl rfl
set_option maxRecDepth 100000 in
theorem mc_X3_firstOfBound : Cond.code yX3_firstOfBound cX3_firstOfBound 2 (some .int) ∈ lw_g := z_mem (k := 354) rfl rfl
theorem nd_X3_firstOfBound : yX3_firstOfBound.cls ≠ "java/lang/invoke/MethodHandle" ∧ yX3_firstOfBound.cls ≠ "java/lang/invoke/VarHandle" ∧ (parseMethodDescriptor yX3_firstOfBound.desc).map (fun d => d.parameters.length) = some 0 := by decide +kernel
set_option maxRecDepth 100000 in
theorem im_X3_firstOfBound : Cond.instanceMethod yX3_firstOfBound ∈ lw_g := z_mem (k := 352) rfl rfl
set_option maxRecDepth 100000 in
theorem se_X3_firstOfBound : Cond.selects RX3 yX3_firstOfBound yX3_firstOfBound ∈ lw_g := z_mem (k := 353) rfl rfl
set_option maxRecDepth 100000 in
theorem mc_X3_makePrimitive : Cond.code yX3_makePrimitive cX3_makePrimitive 5 none ∈ lw_g := z_mem (k := 377) rfl rfl
theorem nd_X3_makePrimitive : yX3_makePrimitive.cls ≠ "java/lang/invoke/MethodHandle" ∧ yX3_makePrimitive.cls ≠ "java/lang/invoke/VarHandle" ∧ (parseMethodDescriptor yX3_makePrimitive.desc).map (fun d => d.parameters.length) = some 0 := by decide +kernel
set_option maxRecDepth 100000 in
theorem im_X3_makePrimitive : Cond.instanceMethod yX3_makePrimitive ∈ lw_g := z_mem (k := 375) rfl rfl
set_option maxRecDepth 100000 in
theorem se_X3_makePrimitive : Cond.selects RX3 yX3_makePrimitive yX3_makePrimitive ∈ lw_g := z_mem (k := 376) rfl rfl
set_option maxRecDepth 100000 in
theorem mc_X3_sumOfSizes : Cond.code yX3_sumOfSizes cX3_sumOfSizes 4 (some .long) ∈ lw_g := z_mem (k := 401) rfl rfl
theorem nd_X3_sumOfSizes : yX3_sumOfSizes.cls ≠ "java/lang/invoke/MethodHandle" ∧ yX3_sumOfSizes.cls ≠ "java/lang/invoke/VarHandle" ∧ (parseMethodDescriptor yX3_sumOfSizes.desc).map (fun d => d.parameters.length) = some 0 := by decide +kernel
set_option maxRecDepth 100000 in
theorem im_X3_sumOfSizes : Cond.instanceMethod yX3_sumOfSizes ∈ lw_g := z_mem (k := 399) rfl rfl
set_option maxRecDepth 100000 in
theorem se_X3_sumOfSizes : Cond.selects RX3 yX3_sumOfSizes yX3_sumOfSizes ∈ lw_g := z_mem (k := 400) rfl rfl
set_option maxRecDepth 100000 in
theorem mc_X3_isSame : Cond.code yX3_isSame cX3_isSame 3 (some .boolean) ∈ lw_g := z_mem (k := 413) rfl rfl
theorem nd_X3_isSame : yX3_isSame.cls ≠ "java/lang/invoke/MethodHandle" ∧ yX3_isSame.cls ≠ "java/lang/invoke/VarHandle" ∧ (parseMethodDescriptor yX3_isSame.desc).map (fun d => d.parameters.length) = some 1 := by decide +kernel
set_option maxRecDepth 100000 in
theorem im_X3_isSame : Cond.instanceMethod yX3_isSame ∈ lw_g := z_mem (k := 411) rfl rfl
set_option maxRecDepth 100000 in
theorem se_X3_isSame : Cond.selects RX3 yX3_isSame yX3_isSame ∈ lw_g := z_mem (k := 412) rfl rfl
set_option maxRecDepth 100000 in
theorem mc_X3_scaledValue : Cond.code yX3_scaledValue cX3_scaledValue 15 (some .long) ∈ lw_g := z_mem (k := 433) rfl rfl
theorem nd_X3_scaledValue : yX3_scaledValue.cls ≠ "java/lang/invoke/MethodHandle" ∧ yX3_scaledValue.cls ≠ "java/lang/invoke/VarHandle" ∧ (parseMethodDescriptor yX3_scaledValue.desc).map (fun d => d.parameters.length) = some 3 := by decide +kernel
set_option maxRecDepth 100000 in
theorem im_X3_scaledValue : Cond.instanceMethod yX3_scaledValue ∈ lw_g := z_mem (k := 431) rfl rfl
set_option maxRecDepth 100000 in
theorem se_X3_scaledValue : Cond.selects RX3 yX3_scaledValue yX3_scaledValue ∈ lw_g := z_mem (k := 432) rfl rfl
set_option maxRecDepth 100000 in
theorem mc_X4_init : Cond.code yX4_init cX4_init 1 none ∈ lw_g := z_mem (k := 125) rfl rfl
theorem nd_X4_init : yX4_init.cls ≠ "java/lang/invoke/MethodHandle" ∧ yX4_init.cls ≠ "java/lang/invoke/VarHandle" ∧ (parseMethodDescriptor yX4_init.desc).map (fun d => d.parameters.length) = some 0 := by decide +kernel
set_option maxRecDepth 100000 in
theorem im_X4_init : Cond.instanceMethod yX4_init ∈ lw_g := z_mem (k := 124) rfl rfl
set_option maxRecDepth 100000 in
theorem mc_X4_findRoot : Cond.code yX4_findRoot cX4_findRoot 4 (some .boolean) ∈ lw_g := z_mem (k := 368) rfl rfl
theorem nd_X4_findRoot : yX4_findRoot.cls ≠ "java/lang/invoke/MethodHandle" ∧ yX4_findRoot.cls ≠ "java/lang/invoke/VarHandle" ∧ (parseMethodDescriptor yX4_findRoot.desc).map (fun d => d.parameters.length) = some 2 := by decide +kernel
set_option maxRecDepth 100000 in
theorem im_X4_findRoot : Cond.instanceMethod yX4_findRoot ∈ lw_g := z_mem (k := 366) rfl rfl
set_option maxRecDepth 100000 in
theorem se_X4_findRoot : Cond.selects RX4 yX4_findRoot yX4_findRoot ∈ lw_g := z_mem (k := 367) rfl rfl
set_option maxRecDepth 100000 in
theorem mc_X4_startRoot : Cond.code yX4_startRoot cX4_startRoot 7 (some .boolean) ∈ lw_g := z_mem (k := 383) rfl rfl
theorem nd_X4_startRoot : yX4_startRoot.cls ≠ "java/lang/invoke/MethodHandle" ∧ yX4_startRoot.cls ≠ "java/lang/invoke/VarHandle" ∧ (parseMethodDescriptor yX4_startRoot.desc).map (fun d => d.parameters.length) = some 1 := by decide +kernel
set_option maxRecDepth 100000 in
theorem im_X4_startRoot : Cond.instanceMethod yX4_startRoot ∈ lw_g := z_mem (k := 382) rfl rfl
set_option maxRecDepth 100000 in
theorem se_X4_startRoot : Cond.selects RX4 yX4_startRoot yX4_startRoot ∈ lw_g := z_mem (k := 11) rfl rfl
set_option maxRecDepth 100000 in
theorem mc_X4_completeRoot : Cond.code yX4_completeRoot cX4_completeRoot 14 (some .boolean) ∈ lw_g := z_mem (k := 397) rfl rfl
theorem nd_X4_completeRoot : yX4_completeRoot.cls ≠ "java/lang/invoke/MethodHandle" ∧ yX4_completeRoot.cls ≠ "java/lang/invoke/VarHandle" ∧ (parseMethodDescriptor yX4_completeRoot.desc).map (fun d => d.parameters.length) = some 1 := by decide +kernel
set_option maxRecDepth 100000 in
theorem im_X4_completeRoot : Cond.instanceMethod yX4_completeRoot ∈ lw_g := z_mem (k := 396) rfl rfl
set_option maxRecDepth 100000 in
theorem se_X4_completeRoot : Cond.selects RX4 yX4_completeRoot yX4_completeRoot ∈ lw_g := z_mem (k := 12) rfl rfl
set_option maxRecDepth 100000 in
theorem mc_X4_raiseRoot : Cond.code yX4_raiseRoot cX4_raiseRoot 3 none ∈ lw_g := z_mem (k := 408) rfl rfl
theorem nd_X4_raiseRoot : yX4_raiseRoot.cls ≠ "java/lang/invoke/MethodHandle" ∧ yX4_raiseRoot.cls ≠ "java/lang/invoke/VarHandle" ∧ (parseMethodDescriptor yX4_raiseRoot.desc).map (fun d => d.parameters.length) = some 1 := by decide +kernel
set_option maxRecDepth 100000 in
theorem im_X4_raiseRoot : Cond.instanceMethod yX4_raiseRoot ∈ lw_g := z_mem (k := 407) rfl rfl
set_option maxRecDepth 100000 in
theorem se_X4_raiseRoot : Cond.selects RX4 yX4_raiseRoot yX4_raiseRoot ∈ lw_g := z_mem (k := 13) rfl rfl
set_option maxRecDepth 100000 in
theorem mc_X5_init : Cond.code yX5_init cX5_init 1 none ∈ lw_g := z_mem (k := 55) rfl rfl
theorem nd_X5_init : yX5_init.cls ≠ "java/lang/invoke/MethodHandle" ∧ yX5_init.cls ≠ "java/lang/invoke/VarHandle" ∧ (parseMethodDescriptor yX5_init.desc).map (fun d => d.parameters.length) = some 0 := by decide +kernel
set_option maxRecDepth 100000 in
theorem im_X5_init : Cond.instanceMethod yX5_init ∈ lw_g := z_mem (k := 54) rfl rfl
set_option maxRecDepth 100000 in
theorem mc_X5_highestPower : Cond.code yX5_highestPower cX5_highestPower 2 (some .int) ∈ lw_g := z_mem (k := 229) rfl rfl
theorem nd_X5_highestPower : yX5_highestPower.cls ≠ "java/lang/invoke/MethodHandle" ∧ yX5_highestPower.cls ≠ "java/lang/invoke/VarHandle" ∧ (parseMethodDescriptor yX5_highestPower.desc).map (fun d => d.parameters.length) = some 0 := by decide +kernel
set_option maxRecDepth 100000 in
theorem im_X5_highestPower : Cond.instanceMethod yX5_highestPower ∈ lw_g := z_mem (k := 227) rfl rfl
set_option maxRecDepth 100000 in
theorem se_X5_highestPower : Cond.selects RX5 yX5_highestPower yX5_highestPower ∈ lw_g := z_mem (k := 228) rfl rfl
set_option maxRecDepth 100000 in
theorem mc_X5_isZero : Cond.code yX5_isZero cX5_isZero 2 (some .boolean) ∈ lw_g := z_mem (k := 308) rfl rfl
theorem nd_X5_isZero : yX5_isZero.cls ≠ "java/lang/invoke/MethodHandle" ∧ yX5_isZero.cls ≠ "java/lang/invoke/VarHandle" ∧ (parseMethodDescriptor yX5_isZero.desc).map (fun d => d.parameters.length) = some 1 := by decide +kernel
set_option maxRecDepth 100000 in
theorem im_X5_isZero : Cond.instanceMethod yX5_isZero ∈ lw_g := z_mem (k := 306) rfl rfl
set_option maxRecDepth 100000 in
theorem se_X5_isZero : Cond.selects RX5 yX5_isZero yX5_isZero ∈ lw_g := z_mem (k := 307) rfl rfl
set_option maxRecDepth 100000 in
theorem mc_X5_countAndErase : Cond.code yX5_countAndErase cX5_countAndErase 4 (some .int) ∈ lw_g := z_mem (k := 221) rfl rfl
theorem nd_X5_countAndErase : yX5_countAndErase.cls ≠ "java/lang/invoke/MethodHandle" ∧ yX5_countAndErase.cls ≠ "java/lang/invoke/VarHandle" ∧ (parseMethodDescriptor yX5_countAndErase.desc).map (fun d => d.parameters.length) = some 0 := by decide +kernel
set_option maxRecDepth 100000 in
theorem im_X5_countAndErase : Cond.instanceMethod yX5_countAndErase ∈ lw_g := z_mem (k := 219) rfl rfl
set_option maxRecDepth 100000 in
theorem se_X5_countAndErase : Cond.selects RX5 yX5_countAndErase yX5_countAndErase ∈ lw_g := z_mem (k := 220) rfl rfl
set_option maxRecDepth 100000 in
theorem mc_X5_topOf : Cond.code yX5_topOf cX5_topOf 2 (some .int) ∈ lw_g := z_mem (k := 250) rfl rfl
theorem nd_X5_topOf : yX5_topOf.cls ≠ "java/lang/invoke/MethodHandle" ∧ yX5_topOf.cls ≠ "java/lang/invoke/VarHandle" ∧ (parseMethodDescriptor yX5_topOf.desc).map (fun d => d.parameters.length) = some 1 := by decide +kernel
set_option maxRecDepth 100000 in
theorem st_X5_topOf : Cond.static yX5_topOf ∈ lw_g := z_mem (k := 249) rfl rfl
set_option maxRecDepth 100000 in
theorem mc_X6_init : Cond.code yX6_init cX6_init 1 none ∈ lw_g := z_mem (k := 47) rfl rfl
theorem nd_X6_init : yX6_init.cls ≠ "java/lang/invoke/MethodHandle" ∧ yX6_init.cls ≠ "java/lang/invoke/VarHandle" ∧ (parseMethodDescriptor yX6_init.desc).map (fun d => d.parameters.length) = some 0 := by decide +kernel
set_option maxRecDepth 100000 in
theorem im_X6_init : Cond.instanceMethod yX6_init ∈ lw_g := z_mem (k := 46) rfl rfl
set_option maxRecDepth 100000 in
theorem mc_X6_term : Cond.code yX6_term cX6_term 5 (some .int) ∈ lw_g := z_mem (k := 200) rfl rfl
theorem nd_X6_term : yX6_term.cls ≠ "java/lang/invoke/MethodHandle" ∧ yX6_term.cls ≠ "java/lang/invoke/VarHandle" ∧ (parseMethodDescriptor yX6_term.desc).map (fun d => d.parameters.length) = some 3 := by decide +kernel
set_option maxRecDepth 100000 in
theorem im_X6_term : Cond.instanceMethod yX6_term ∈ lw_g := z_mem (k := 198) rfl rfl
set_option maxRecDepth 100000 in
theorem se_X6_term : Cond.selects RX6 yX6_term yX6_term ∈ lw_g := z_mem (k := 199) rfl rfl
set_option maxRecDepth 100000 in
theorem mc_X6_clear : Cond.code yX6_clear cX6_clear 2 (some .int) ∈ lw_g := z_mem (k := 217) rfl rfl
theorem nd_X6_clear : yX6_clear.cls ≠ "java/lang/invoke/MethodHandle" ∧ yX6_clear.cls ≠ "java/lang/invoke/VarHandle" ∧ (parseMethodDescriptor yX6_clear.desc).map (fun d => d.parameters.length) = some 0 := by decide +kernel
set_option maxRecDepth 100000 in
theorem im_X6_clear : Cond.instanceMethod yX6_clear ∈ lw_g := z_mem (k := 215) rfl rfl
set_option maxRecDepth 100000 in
theorem se_X6_clear : Cond.selects RX6 yX6_clear yX6_clear ∈ lw_g := z_mem (k := 216) rfl rfl
set_option maxRecDepth 100000 in
theorem mc_X6_degree : Cond.code yX6_degree cX6_degree 4 (some .int) ∈ lw_g := z_mem (k := 225) rfl rfl
theorem nd_X6_degree : yX6_degree.cls ≠ "java/lang/invoke/MethodHandle" ∧ yX6_degree.cls ≠ "java/lang/invoke/VarHandle" ∧ (parseMethodDescriptor yX6_degree.desc).map (fun d => d.parameters.length) = some 1 := by decide +kernel
set_option maxRecDepth 100000 in
theorem im_X6_degree : Cond.instanceMethod yX6_degree ∈ lw_g := z_mem (k := 223) rfl rfl
set_option maxRecDepth 100000 in
theorem se_X6_degree : Cond.selects RX6 yX6_degree yX6_degree ∈ lw_g := z_mem (k := 224) rfl rfl
set_option maxRecDepth 100000 in
theorem mc_X6_freed : Cond.code yX6_freed cX6_freed 3 (some .int) ∈ lw_g := z_mem (k := 273) rfl rfl
theorem nd_X6_freed : yX6_freed.cls ≠ "java/lang/invoke/MethodHandle" ∧ yX6_freed.cls ≠ "java/lang/invoke/VarHandle" ∧ (parseMethodDescriptor yX6_freed.desc).map (fun d => d.parameters.length) = some 2 := by decide +kernel
set_option maxRecDepth 100000 in
theorem im_X6_freed : Cond.instanceMethod yX6_freed ∈ lw_g := z_mem (k := 271) rfl rfl
set_option maxRecDepth 100000 in
theorem se_X6_freed : Cond.selects RX6 yX6_freed yX6_freed ∈ lw_g := z_mem (k := 272) rfl rfl
set_option maxRecDepth 100000 in
theorem mc_X6_value : Cond.code yX6_value cX6_value 6 (some .int) ∈ lw_g := z_mem (k := 278) rfl rfl
theorem nd_X6_value : yX6_value.cls ≠ "java/lang/invoke/MethodHandle" ∧ yX6_value.cls ≠ "java/lang/invoke/VarHandle" ∧ (parseMethodDescriptor yX6_value.desc).map (fun d => d.parameters.length) = some 3 := by decide +kernel
set_option maxRecDepth 100000 in
theorem im_X6_value : Cond.instanceMethod yX6_value ∈ lw_g := z_mem (k := 276) rfl rfl
set_option maxRecDepth 100000 in
theorem se_X6_value : Cond.selects RX6 yX6_value yX6_value ∈ lw_g := z_mem (k := 277) rfl rfl
set_option maxRecDepth 100000 in
theorem mc_X6_trace : Cond.code yX6_trace cX6_trace 3 (some .int) ∈ lw_g := z_mem (k := 293) rfl rfl
theorem nd_X6_trace : yX6_trace.cls ≠ "java/lang/invoke/MethodHandle" ∧ yX6_trace.cls ≠ "java/lang/invoke/VarHandle" ∧ (parseMethodDescriptor yX6_trace.desc).map (fun d => d.parameters.length) = some 1 := by decide +kernel
set_option maxRecDepth 100000 in
theorem im_X6_trace : Cond.instanceMethod yX6_trace ∈ lw_g := z_mem (k := 291) rfl rfl
set_option maxRecDepth 100000 in
theorem se_X6_trace : Cond.selects RX6 yX6_trace yX6_trace ∈ lw_g := z_mem (k := 292) rfl rfl
set_option maxRecDepth 100000 in
theorem mc_X6_times : Cond.code yX6_times cX6_times 3 (some .int) ∈ lw_g := z_mem (k := 417) rfl rfl
theorem nd_X6_times : yX6_times.cls ≠ "java/lang/invoke/MethodHandle" ∧ yX6_times.cls ≠ "java/lang/invoke/VarHandle" ∧ (parseMethodDescriptor yX6_times.desc).map (fun d => d.parameters.length) = some 1 := by decide +kernel
set_option maxRecDepth 100000 in
theorem im_X6_times : Cond.instanceMethod yX6_times ∈ lw_g := z_mem (k := 415) rfl rfl
set_option maxRecDepth 100000 in
theorem se_X6_times : Cond.selects RX6 yX6_times yX6_times ∈ lw_g := z_mem (k := 416) rfl rfl
set_option maxRecDepth 100000 in
theorem mc_X6_coefficient : Cond.code yX6_coefficient cX6_coefficient 5 (some .long) ∈ lw_g := z_mem (k := 421) rfl rfl
theorem nd_X6_coefficient : yX6_coefficient.cls ≠ "java/lang/invoke/MethodHandle" ∧ yX6_coefficient.cls ≠ "java/lang/invoke/VarHandle" ∧ (parseMethodDescriptor yX6_coefficient.desc).map (fun d => d.parameters.length) = some 3 := by decide +kernel
set_option maxRecDepth 100000 in
theorem im_X6_coefficient : Cond.instanceMethod yX6_coefficient ∈ lw_g := z_mem (k := 419) rfl rfl
set_option maxRecDepth 100000 in
theorem se_X6_coefficient : Cond.selects RX6 yX6_coefficient yX6_coefficient ∈ lw_g := z_mem (k := 420) rfl rfl
set_option maxRecDepth 100000 in
theorem mc_X6_side : Cond.code yX6_side cX6_side 8 (some .int) ∈ lw_g := z_mem (k := 426) rfl rfl
theorem nd_X6_side : yX6_side.cls ≠ "java/lang/invoke/MethodHandle" ∧ yX6_side.cls ≠ "java/lang/invoke/VarHandle" ∧ (parseMethodDescriptor yX6_side.desc).map (fun d => d.parameters.length) = some 4 := by decide +kernel
set_option maxRecDepth 100000 in
theorem im_X6_side : Cond.instanceMethod yX6_side ∈ lw_g := z_mem (k := 424) rfl rfl
set_option maxRecDepth 100000 in
theorem se_X6_side : Cond.selects RX6 yX6_side yX6_side ∈ lw_g := z_mem (k := 425) rfl rfl
set_option maxRecDepth 100000 in
theorem mc_X6_at : Cond.code yX6_at cX6_at 7 (some .int) ∈ lw_g := z_mem (k := 438) rfl rfl
theorem nd_X6_at : yX6_at.cls ≠ "java/lang/invoke/MethodHandle" ∧ yX6_at.cls ≠ "java/lang/invoke/VarHandle" ∧ (parseMethodDescriptor yX6_at.desc).map (fun d => d.parameters.length) = some 5 := by decide +kernel
set_option maxRecDepth 100000 in
theorem im_X6_at : Cond.instanceMethod yX6_at ∈ lw_g := z_mem (k := 436) rfl rfl
set_option maxRecDepth 100000 in
theorem se_X6_at : Cond.selects RX6 yX6_at yX6_at ∈ lw_g := z_mem (k := 437) rfl rfl
set_option maxRecDepth 100000 in
theorem mc_X6_follows : Cond.code yX6_follows cX6_follows 3 (some .int) ∈ lw_g := z_mem (k := 442) rfl rfl
theorem nd_X6_follows : yX6_follows.cls ≠ "java/lang/invoke/MethodHandle" ∧ yX6_follows.cls ≠ "java/lang/invoke/VarHandle" ∧ (parseMethodDescriptor yX6_follows.desc).map (fun d => d.parameters.length) = some 2 := by decide +kernel
set_option maxRecDepth 100000 in
theorem im_X6_follows : Cond.instanceMethod yX6_follows ∈ lw_g := z_mem (k := 440) rfl rfl
set_option maxRecDepth 100000 in
theorem se_X6_follows : Cond.selects RX6 yX6_follows yX6_follows ∈ lw_g := z_mem (k := 441) rfl rfl
set_option maxRecDepth 100000 in
theorem mc_X6_touches : Cond.code yX6_touches cX6_touches 6 (some .int) ∈ lw_g := z_mem (k := 446) rfl rfl
theorem nd_X6_touches : yX6_touches.cls ≠ "java/lang/invoke/MethodHandle" ∧ yX6_touches.cls ≠ "java/lang/invoke/VarHandle" ∧ (parseMethodDescriptor yX6_touches.desc).map (fun d => d.parameters.length) = some 2 := by decide +kernel
set_option maxRecDepth 100000 in
theorem im_X6_touches : Cond.instanceMethod yX6_touches ∈ lw_g := z_mem (k := 444) rfl rfl
set_option maxRecDepth 100000 in
theorem se_X6_touches : Cond.selects RX6 yX6_touches yX6_touches ∈ lw_g := z_mem (k := 445) rfl rfl
set_option maxRecDepth 100000 in
theorem mc_X6_isPart : Cond.code yX6_isPart cX6_isPart 1 (some .boolean) ∈ lw_g := z_mem (k := 203) rfl rfl
theorem nd_X6_isPart : yX6_isPart.cls ≠ "java/lang/invoke/MethodHandle" ∧ yX6_isPart.cls ≠ "java/lang/invoke/VarHandle" ∧ (parseMethodDescriptor yX6_isPart.desc).map (fun d => d.parameters.length) = some 1 := by decide +kernel
set_option maxRecDepth 100000 in
theorem st_X6_isPart : Cond.static yX6_isPart ∈ lw_g := z_mem (k := 202) rfl rfl
set_option maxRecDepth 100000 in
theorem mc_X6_isPower : Cond.code yX6_isPower cX6_isPower 1 (some .boolean) ∈ lw_g := z_mem (k := 206) rfl rfl
theorem nd_X6_isPower : yX6_isPower.cls ≠ "java/lang/invoke/MethodHandle" ∧ yX6_isPower.cls ≠ "java/lang/invoke/VarHandle" ∧ (parseMethodDescriptor yX6_isPower.desc).map (fun d => d.parameters.length) = some 1 := by decide +kernel
set_option maxRecDepth 100000 in
theorem st_X6_isPower : Cond.static yX6_isPower ∈ lw_g := z_mem (k := 205) rfl rfl
set_option maxRecDepth 100000 in
theorem mc_X6_isSort : Cond.code yX6_isSort cX6_isSort 1 (some .boolean) ∈ lw_g := z_mem (k := 296) rfl rfl
theorem nd_X6_isSort : yX6_isSort.cls ≠ "java/lang/invoke/MethodHandle" ∧ yX6_isSort.cls ≠ "java/lang/invoke/VarHandle" ∧ (parseMethodDescriptor yX6_isSort.desc).map (fun d => d.parameters.length) = some 1 := by decide +kernel
set_option maxRecDepth 100000 in
theorem st_X6_isSort : Cond.static yX6_isSort ∈ lw_g := z_mem (k := 295) rfl rfl
set_option maxRecDepth 100000 in
theorem mc_X6_isWithin : Cond.code yX6_isWithin cX6_isWithin 2 (some .boolean) ∈ lw_g := z_mem (k := 209) rfl rfl
theorem nd_X6_isWithin : yX6_isWithin.cls ≠ "java/lang/invoke/MethodHandle" ∧ yX6_isWithin.cls ≠ "java/lang/invoke/VarHandle" ∧ (parseMethodDescriptor yX6_isWithin.desc).map (fun d => d.parameters.length) = some 2 := by decide +kernel
set_option maxRecDepth 100000 in
theorem st_X6_isWithin : Cond.static yX6_isWithin ∈ lw_g := z_mem (k := 208) rfl rfl
set_option maxRecDepth 100000 in
theorem mc_X6_isParameter : Cond.code yX6_isParameter cX6_isParameter 2 (some .boolean) ∈ lw_g := z_mem (k := 281) rfl rfl
theorem nd_X6_isParameter : yX6_isParameter.cls ≠ "java/lang/invoke/MethodHandle" ∧ yX6_isParameter.cls ≠ "java/lang/invoke/VarHandle" ∧ (parseMethodDescriptor yX6_isParameter.desc).map (fun d => d.parameters.length) = some 2 := by decide +kernel
set_option maxRecDepth 100000 in
theorem st_X6_isParameter : Cond.static yX6_isParameter ∈ lw_g := z_mem (k := 280) rfl rfl
set_option maxRecDepth 100000 in
theorem mc_X6_isPlace : Cond.code yX6_isPlace cX6_isPlace 3 (some .boolean) ∈ lw_g := z_mem (k := 429) rfl rfl
theorem nd_X6_isPlace : yX6_isPlace.cls ≠ "java/lang/invoke/MethodHandle" ∧ yX6_isPlace.cls ≠ "java/lang/invoke/VarHandle" ∧ (parseMethodDescriptor yX6_isPlace.desc).map (fun d => d.parameters.length) = some 3 := by decide +kernel
set_option maxRecDepth 100000 in
theorem st_X6_isPlace : Cond.static yX6_isPlace ∈ lw_g := z_mem (k := 428) rfl rfl
set_option maxRecDepth 100000 in
theorem mc_X6_forget : Cond.code yX6_forget cX6_forget 1 none ∈ lw_g := z_mem (k := 213) rfl rfl
theorem nd_X6_forget : yX6_forget.cls ≠ "java/lang/invoke/MethodHandle" ∧ yX6_forget.cls ≠ "java/lang/invoke/VarHandle" ∧ (parseMethodDescriptor yX6_forget.desc).map (fun d => d.parameters.length) = some 0 := by decide +kernel
set_option maxRecDepth 100000 in
theorem im_X6_forget : Cond.instanceMethod yX6_forget ∈ lw_g := z_mem (k := 212) rfl rfl
set_option maxRecDepth 100000 in
theorem se_X6_forget : Cond.selects RX6 yX6_forget yX6_forget ∈ lw_g := z_mem (k := 0) rfl rfl
set_option maxRecDepth 100000 in
theorem mc_X6_freeRow : Cond.code yX6_freeRow cX6_freeRow 1 (some (.object "EliminateLoci$Row")) ∈ lw_g := z_mem (k := 233) rfl rfl
theorem nd_X6_freeRow : yX6_freeRow.cls ≠ "java/lang/invoke/MethodHandle" ∧ yX6_freeRow.cls ≠ "java/lang/invoke/VarHandle" ∧ (parseMethodDescriptor yX6_freeRow.desc).map (fun d => d.parameters.length) = some 0 := by decide +kernel
set_option maxRecDepth 100000 in
theorem im_X6_freeRow : Cond.instanceMethod yX6_freeRow ∈ lw_g := z_mem (k := 232) rfl rfl
set_option maxRecDepth 100000 in
theorem se_X6_freeRow : Cond.selects RX6 yX6_freeRow yX6_freeRow ∈ lw_g := z_mem (k := 1) rfl rfl
set_option maxRecDepth 100000 in
theorem mc_X6_curveOf : Cond.code yX6_curveOf cX6_curveOf 4 (some (.object "EliminateLoci$Curve")) ∈ lw_g := z_mem (k := 300) rfl rfl
theorem nd_X6_curveOf : yX6_curveOf.cls ≠ "java/lang/invoke/MethodHandle" ∧ yX6_curveOf.cls ≠ "java/lang/invoke/VarHandle" ∧ (parseMethodDescriptor yX6_curveOf.desc).map (fun d => d.parameters.length) = some 1 := by decide +kernel
set_option maxRecDepth 100000 in
theorem im_X6_curveOf : Cond.instanceMethod yX6_curveOf ∈ lw_g := z_mem (k := 299) rfl rfl
set_option maxRecDepth 100000 in
theorem se_X6_curveOf : Cond.selects RX6 yX6_curveOf yX6_curveOf ∈ lw_g := z_mem (k := 8) rfl rfl
set_option maxRecDepth 100000 in
theorem mc_X6_moveTo : Cond.code yX6_moveTo cX6_moveTo 8 none ∈ lw_g := z_mem (k := 285) rfl rfl
theorem nd_X6_moveTo : yX6_moveTo.cls ≠ "java/lang/invoke/MethodHandle" ∧ yX6_moveTo.cls ≠ "java/lang/invoke/VarHandle" ∧ (parseMethodDescriptor yX6_moveTo.desc).map (fun d => d.parameters.length) = some 2 := by decide +kernel
set_option maxRecDepth 100000 in
theorem im_X6_moveTo : Cond.instanceMethod yX6_moveTo ∈ lw_g := z_mem (k := 284) rfl rfl
set_option maxRecDepth 100000 in
theorem se_X6_moveTo : Cond.selects RX6 yX6_moveTo yX6_moveTo ∈ lw_g := z_mem (k := 7) rfl rfl
set_option maxRecDepth 100000 in
theorem mc_X6_slopeByU : Cond.code yX6_slopeByU cX6_slopeByU 8 (some .long) ∈ lw_g := z_mem (k := 450) rfl rfl
theorem nd_X6_slopeByU : yX6_slopeByU.cls ≠ "java/lang/invoke/MethodHandle" ∧ yX6_slopeByU.cls ≠ "java/lang/invoke/VarHandle" ∧ (parseMethodDescriptor yX6_slopeByU.desc).map (fun d => d.parameters.length) = some 4 := by decide +kernel
set_option maxRecDepth 100000 in
theorem im_X6_slopeByU : Cond.instanceMethod yX6_slopeByU ∈ lw_g := z_mem (k := 449) rfl rfl
set_option maxRecDepth 100000 in
theorem se_X6_slopeByU : Cond.selects RX6 yX6_slopeByU yX6_slopeByU ∈ lw_g := z_mem (k := 14) rfl rfl
set_option maxRecDepth 100000 in
theorem mc_X6_slopeByV : Cond.code yX6_slopeByV cX6_slopeByV 8 (some .long) ∈ lw_g := z_mem (k := 454) rfl rfl
theorem nd_X6_slopeByV : yX6_slopeByV.cls ≠ "java/lang/invoke/MethodHandle" ∧ yX6_slopeByV.cls ≠ "java/lang/invoke/VarHandle" ∧ (parseMethodDescriptor yX6_slopeByV.desc).map (fun d => d.parameters.length) = some 4 := by decide +kernel
set_option maxRecDepth 100000 in
theorem im_X6_slopeByV : Cond.instanceMethod yX6_slopeByV ∈ lw_g := z_mem (k := 453) rfl rfl
set_option maxRecDepth 100000 in
theorem se_X6_slopeByV : Cond.selects RX6 yX6_slopeByV yX6_slopeByV ∈ lw_g := z_mem (k := 15) rfl rfl
set_option maxRecDepth 100000 in
theorem mc_X6_powerOf : Cond.code yX6_powerOf cX6_powerOf 6 (some .long) ∈ lw_g := z_mem (k := 288) rfl rfl
theorem nd_X6_powerOf : yX6_powerOf.cls ≠ "java/lang/invoke/MethodHandle" ∧ yX6_powerOf.cls ≠ "java/lang/invoke/VarHandle" ∧ (parseMethodDescriptor yX6_powerOf.desc).map (fun d => d.parameters.length) = some 2 := by decide +kernel
set_option maxRecDepth 100000 in
theorem st_X6_powerOf : Cond.static yX6_powerOf ∈ lw_g := z_mem (k := 287) rfl rfl
set_option maxRecDepth 100000 in
theorem mc_X6_commonOf : Cond.code yX6_commonOf cX6_commonOf 11 (some .long) ∈ lw_g := z_mem (k := 261) rfl rfl
theorem nd_X6_commonOf : yX6_commonOf.cls ≠ "java/lang/invoke/MethodHandle" ∧ yX6_commonOf.cls ≠ "java/lang/invoke/VarHandle" ∧ (parseMethodDescriptor yX6_commonOf.desc).map (fun d => d.parameters.length) = some 2 := by decide +kernel
set_option maxRecDepth 100000 in
theorem st_X6_commonOf : Cond.static yX6_commonOf ∈ lw_g := z_mem (k := 260) rfl rfl
set_option maxRecDepth 100000 in
theorem mc_X6_rootOf : Cond.code yX6_rootOf cX6_rootOf 8 (some .long) ∈ lw_g := z_mem (k := 388) rfl rfl
theorem nd_X6_rootOf : yX6_rootOf.cls ≠ "java/lang/invoke/MethodHandle" ∧ yX6_rootOf.cls ≠ "java/lang/invoke/VarHandle" ∧ (parseMethodDescriptor yX6_rootOf.desc).map (fun d => d.parameters.length) = some 2 := by decide +kernel
set_option maxRecDepth 100000 in
theorem st_X6_rootOf : Cond.static yX6_rootOf ∈ lw_g := z_mem (k := 387) rfl rfl
set_option maxRecDepth 100000 in
theorem mc_X6_isPowerWithin : Cond.code yX6_isPowerWithin cX6_isPowerWithin 8 (some .boolean) ∈ lw_g := z_mem (k := 391) rfl rfl
theorem nd_X6_isPowerWithin : yX6_isPowerWithin.cls ≠ "java/lang/invoke/MethodHandle" ∧ yX6_isPowerWithin.cls ≠ "java/lang/invoke/VarHandle" ∧ (parseMethodDescriptor yX6_isPowerWithin.desc).map (fun d => d.parameters.length) = some 3 := by decide +kernel
set_option maxRecDepth 100000 in
theorem st_X6_isPowerWithin : Cond.static yX6_isPowerWithin ∈ lw_g := z_mem (k := 390) rfl rfl
set_option maxRecDepth 100000 in
theorem mc_X6_slotOf : Cond.code yX6_slotOf cX6_slotOf 2 (some .int) ∈ lw_g := z_mem (k := 322) rfl rfl
theorem nd_X6_slotOf : yX6_slotOf.cls ≠ "java/lang/invoke/MethodHandle" ∧ yX6_slotOf.cls ≠ "java/lang/invoke/VarHandle" ∧ (parseMethodDescriptor yX6_slotOf.desc).map (fun d => d.parameters.length) = some 2 := by decide +kernel
set_option maxRecDepth 100000 in
theorem st_X6_slotOf : Cond.static yX6_slotOf ∈ lw_g := z_mem (k := 321) rfl rfl
set_option maxRecDepth 100000 in
theorem mc_J6_bitCount_0f7a4 : Cond.code yJ6_bitCount_0f7a4 cJ6_bitCount_0f7a4 1 (some .int) ∈ lw_g := z_mem (k := 361) rfl rfl
theorem nd_J6_bitCount_0f7a4 : yJ6_bitCount_0f7a4.cls ≠ "java/lang/invoke/MethodHandle" ∧ yJ6_bitCount_0f7a4.cls ≠ "java/lang/invoke/VarHandle" ∧ (parseMethodDescriptor yJ6_bitCount_0f7a4.desc).map (fun d => d.parameters.length) = some 1 := by decide +kernel
set_option maxRecDepth 100000 in
theorem st_J6_bitCount_0f7a4 : Cond.static yJ6_bitCount_0f7a4 ∈ lw_g := z_mem (k := 360) rfl rfl
set_option maxRecDepth 100000 in
theorem mc_J9_abs_067f4 : Cond.code yJ9_abs_067f4 cJ9_abs_067f4 2 (some .long) ∈ lw_g := z_mem (k := 404) rfl rfl
theorem nd_J9_abs_067f4 : yJ9_abs_067f4.cls ≠ "java/lang/invoke/MethodHandle" ∧ yJ9_abs_067f4.cls ≠ "java/lang/invoke/VarHandle" ∧ (parseMethodDescriptor yJ9_abs_067f4.desc).map (fun d => d.parameters.length) = some 1 := by decide +kernel
set_option maxRecDepth 100000 in
theorem st_J9_abs_067f4 : Cond.static yJ9_abs_067f4 ∈ lw_g := z_mem (k := 403) rfl rfl
set_option maxRecDepth 100000 in
theorem mc_J9_min_7cf53 : Cond.code yJ9_min_7cf53 cJ9_min_7cf53 2 (some .int) ∈ lw_g := z_mem (k := 341) rfl rfl
theorem nd_J9_min_7cf53 : yJ9_min_7cf53.cls ≠ "java/lang/invoke/MethodHandle" ∧ yJ9_min_7cf53.cls ≠ "java/lang/invoke/VarHandle" ∧ (parseMethodDescriptor yJ9_min_7cf53.desc).map (fun d => d.parameters.length) = some 2 := by decide +kernel
set_option maxRecDepth 100000 in
theorem st_J9_min_7cf53 : Cond.static yJ9_min_7cf53 ∈ lw_g := z_mem (k := 340) rfl rfl
set_option maxRecDepth 100000 in
theorem mc_J7_fill_d0a16 : Cond.code yJ7_fill_d0a16 cJ7_fill_d0a16 5 none ∈ lw_g := z_mem (k := 240) rfl rfl
theorem nd_J7_fill_d0a16 : yJ7_fill_d0a16.cls ≠ "java/lang/invoke/MethodHandle" ∧ yJ7_fill_d0a16.cls ≠ "java/lang/invoke/VarHandle" ∧ (parseMethodDescriptor yJ7_fill_d0a16.desc).map (fun d => d.parameters.length) = some 2 := by decide +kernel
set_option maxRecDepth 100000 in
theorem st_J7_fill_d0a16 : Cond.static yJ7_fill_d0a16 ∈ lw_g := z_mem (k := 239) rfl rfl
end
section
/-! numbers under the class's small methods -/
/-- Euclid's way takes no more steps than the class counts -/
def cgP (x y : Int64) (i : Int) : Prop := i = 0 ∨ (y.toInt.natAbs ≤ x.toInt.natAbs ∧ x.toInt.natAbs * y.toInt.natAbs * 2 ^ (i - 1).toNat ≤ 2 ^ 126)
theorem abs_le63 (x : Int64) : x.toInt.natAbs ≤ 2 ^ 63 := by
  have h1 := Int64.le_toInt x
  have h2 := Int64.toInt_lt x
  omega
theorem cgP_s {x y : Int64} {i : Int} (hi : 0 ≤ i) (hy : ¬ y = 0) (h : cgP x y i) : cgP y (x - x / y * y) (i + 1) := by
  have hy0 : y.toInt.natAbs ≠ 0 := fun q => hy (Int64.toInt_inj.mp (by rw [l0]; omega))
  have e1 : (x - x / y * y).toInt.natAbs = x.toInt.natAbs % y.toInt.natAbs := by rw [l_rem, Int.natAbs_tmod]
  right
  rw [e1]
  have hlt := Nat.mod_lt x.toInt.natAbs (Nat.pos_of_ne_zero hy0)
  refine ⟨Nat.le_of_lt hlt, ?_⟩
  have e2 : (i + 1 - 1).toNat = i.toNat := by omega
  rw [e2]
  rcases h with h | ⟨h1, h2⟩
  · rw [h]
    show _ * 1 ≤ _
    rw [Nat.mul_one]
    have a1 := abs_le63 y
    have a2 : x.toInt.natAbs % y.toInt.natAbs ≤ 2 ^ 63 := by omega
    calc y.toInt.natAbs * (x.toInt.natAbs % y.toInt.natAbs) ≤ 2 ^ 63 * 2 ^ 63 := Nat.mul_le_mul a1 a2
      _ = 2 ^ 126 := by decide
  · rcases Nat.eq_zero_or_pos i.toNat with q | q
    · have a1 := abs_le63 y
      have a2 : x.toInt.natAbs % y.toInt.natAbs ≤ 2 ^ 63 := by omega
      rw [q]
      show _ * 1 ≤ _
      rw [Nat.mul_one]
      calc y.toInt.natAbs * (x.toInt.natAbs % y.toInt.natAbs) ≤ 2 ^ 63 * 2 ^ 63 := Nat.mul_le_mul a1 a2
        _ = 2 ^ 126 := by decide
    · have e3 : i.toNat = (i - 1).toNat + 1 := by omega
      rw [e3, Nat.pow_succ]
      have hhalf : x.toInt.natAbs % y.toInt.natAbs * 2 ≤ x.toInt.natAbs := by
        have d1 := Nat.div_add_mod x.toInt.natAbs y.toInt.natAbs
        have d2 : 1 ≤ x.toInt.natAbs / y.toInt.natAbs := (Nat.one_le_div_iff (Nat.pos_of_ne_zero hy0)).mpr h1
        have d3 : y.toInt.natAbs * 1 ≤ y.toInt.natAbs * (x.toInt.natAbs / y.toInt.natAbs) := Nat.mul_le_mul_left _ d2
        omega
      calc y.toInt.natAbs * (x.toInt.natAbs % y.toInt.natAbs) * (2 ^ (i - 1).toNat * 2) = (x.toInt.natAbs % y.toInt.natAbs * 2) * y.toInt.natAbs * 2 ^ (i - 1).toNat := by
            rw [Nat.mul_comm y.toInt.natAbs, Nat.mul_comm (2 ^ (i - 1).toNat) 2, ← Nat.mul_assoc, Nat.mul_right_comm _ y.toInt.natAbs 2]
        _ ≤ x.toInt.natAbs * y.toInt.natAbs * 2 ^ (i - 1).toNat := Nat.mul_le_mul_right _ (Nat.mul_le_mul_right _ hhalf)
        _ ≤ 2 ^ 126 := h2
theorem cgP_e {x y : Int64} {i : Int} (hi : 128 ≤ i) (h : cgP x y i) : y = 0 := by
  rcases h with h | ⟨h1, h2⟩
  · omega
  · have h3 : 2 ^ 127 ≤ 2 ^ (i - 1).toNat := Nat.pow_le_pow_right (by decide) (by omega)
    have hz : x.toInt.natAbs * y.toInt.natAbs = 0 := by
      rcases Nat.eq_zero_or_pos (x.toInt.natAbs * y.toInt.natAbs) with q | q
      · exact q
      · have h4 : 1 * 2 ^ 127 ≤ x.toInt.natAbs * y.toInt.natAbs * 2 ^ (i - 1).toNat := Nat.mul_le_mul q h3
        have h5 : (2 : Nat) ^ 126 < 1 * 2 ^ 127 := by decide
        omega
    rcases Nat.mul_eq_zero.mp hz with q | q
    · exact Int64.toInt_inj.mp (by rw [l0]; omega)
    · exact Int64.toInt_inj.mp (by rw [l0]; omega)
def sl (d : Int) : Int := d * (d + 1) / 2
theorem sl_m {d : Int} (h : 0 ≤ d ∧ d ≤ 6) : 0 ≤ d * (d + 1) ∧ d * (d + 1) ≤ 42 := by
  have h1 : d = 0 ∨ d = 1 ∨ d = 2 ∨ d = 3 ∨ d = 4 ∨ d = 5 ∨ d = 6 := by omega
  rcases h1 with rfl | rfl | rfl | rfl | rfl | rfl | rfl <;> decide
theorem sl_b {d : Int} (h : 0 ≤ d ∧ d ≤ 6) : 0 ≤ sl d ∧ sl d + d ≤ 27 := by
  have h1 : d = 0 ∨ d = 1 ∨ d = 2 ∨ d = 3 ∨ d = 4 ∨ d = 5 ∨ d = 6 := by omega
  rcases h1 with rfl | rfl | rfl | rfl | rfl | rfl | rfl <;> decide
theorem fl_s {f f' : Nat → Int64} {k : Int} {v : Int64} (hk : 0 ≤ k) (e : f' = vp_updL f k.toNat v) (hz : ∀ q : Int, 0 ≤ q → q < k → f q.toNat = v) : ∀ q : Int, 0 ≤ q → q < k + 1 → f' q.toNat = v := by
  intro q h1 h2
  rw [e, up_at hk h1]
  by_cases r : q = k
  · rw [if_pos r]
  · rw [if_neg r]; exact hz q h1 (by omega)
end
section
theorem dX6_isPart_0 : decode cX6_isPart 0 = .ok (.iload_n 0, 1) := by decide +kernel
theorem dX6_isPart_1 : decode cX6_isPart 1 = .ok (.ifCond .lt 12, 3) := by decide +kernel
theorem dX6_isPart_4 : decode cX6_isPart 4 = .ok (.iload_n 0, 1) := by decide +kernel
theorem dX6_isPart_5 : decode cX6_isPart 5 = .ok (.iconst 3, 1) := by decide +kernel
theorem dX6_isPart_6 : decode cX6_isPart 6 = .ok (.if_icmp .ge 7, 3) := by decide +kernel
theorem dX6_isPart_9 : decode cX6_isPart 9 = .ok (.iconst 1, 1) := by decide +kernel
theorem dX6_isPart_10 : decode cX6_isPart 10 = .ok (.goto 4, 3) := by decide +kernel
theorem dX6_isPart_13 : decode cX6_isPart 13 = .ok (.iconst 0, 1) := by decide +kernel
theorem dX6_isPart_14 : decode cX6_isPart 14 = .ok (.ireturn, 1) := by decide +kernel
set_option maxHeartbeats 4000000 in
set_option maxRecDepth 100000 in
theorem ct_X6_isPart (l : Launch) (D : va_G) (ce : Nat → ClassId) (a : Int) (ha : -2147483648 ≤ a ∧ a < 2147483648) : Ct l yX6_isPart cX6_isPart 1 (some .boolean) { frames := 0, cells := 0, slots := 0, locals := 0 } 0 0 D (TY ce) [.int (zI a)] ([]) (QI D (TY ce) (fun r w1 => ∃ z : Int, r = zI z ∧ w1 = [] ∧ ((z = 1 ∧ 0 ≤ a ∧ a < 3) ∨ (z = 0 ∧ ¬ (0 ≤ a ∧ a < 3))))) := by
  refine Ct.ofB (by decide) (Nat.le_of_ble_eq_true rfl) ?_
  intro p e s m args below meth c A Q hX hnm hR
  refine Z.pick (lv' := [(0, .int (zI a))]) [0] rfl ?_
  refine Z.iload_n hX dX6_isPart_0 rfl rfl ?_
  refine Z.if_lt hX 13 dX6_isPart_1 (by decide) ⟨by omega, by omega⟩ ?_ ?_
  · intro c1
    refine Z.iconst hX dX6_isPart_13 ?_
    exact hR _ _ _ _ dX6_isPart_14 rfl ⟨0, rfl, rfl, (by omega)⟩
  · intro c1
    refine Z.iload_n hX dX6_isPart_4 rfl rfl ?_
    refine Z.iconst hX dX6_isPart_5 ?_
    refine Z.icmp_ge hX 13 dX6_isPart_6 (by decide) ⟨by omega, by omega⟩ ⟨by omega, by omega⟩ ?_ ?_
    · intro c2
      refine Z.iconst hX dX6_isPart_13 ?_
      exact hR _ _ _ _ dX6_isPart_14 rfl ⟨0, rfl, rfl, (by omega)⟩
    · intro c2
      refine Z.iconst hX dX6_isPart_9 ?_
      refine Z.goto hX 14 dX6_isPart_10 (by decide) ?_
      exact hR _ _ _ _ dX6_isPart_14 rfl ⟨1, rfl, rfl, (by omega)⟩

theorem dX6_isPower_0 : decode cX6_isPower 0 = .ok (.iload_n 0, 1) := by decide +kernel
theorem dX6_isPower_1 : decode cX6_isPower 1 = .ok (.ifCond .lt 12, 3) := by decide +kernel
theorem dX6_isPower_4 : decode cX6_isPower 4 = .ok (.iload_n 0, 1) := by decide +kernel
theorem dX6_isPower_5 : decode cX6_isPower 5 = .ok (.iconst 5, 1) := by decide +kernel
theorem dX6_isPower_6 : decode cX6_isPower 6 = .ok (.if_icmp .ge 7, 3) := by decide +kernel
theorem dX6_isPower_9 : decode cX6_isPower 9 = .ok (.iconst 1, 1) := by decide +kernel
theorem dX6_isPower_10 : decode cX6_isPower 10 = .ok (.goto 4, 3) := by decide +kernel
theorem dX6_isPower_13 : decode cX6_isPower 13 = .ok (.iconst 0, 1) := by decide +kernel
theorem dX6_isPower_14 : decode cX6_isPower 14 = .ok (.ireturn, 1) := by decide +kernel
set_option maxHeartbeats 4000000 in
set_option maxRecDepth 100000 in
theorem ct_X6_isPower (l : Launch) (D : va_G) (ce : Nat → ClassId) (a : Int) (ha : -2147483648 ≤ a ∧ a < 2147483648) : Ct l yX6_isPower cX6_isPower 1 (some .boolean) { frames := 0, cells := 0, slots := 0, locals := 0 } 0 0 D (TY ce) [.int (zI a)] ([]) (QI D (TY ce) (fun r w1 => ∃ z : Int, r = zI z ∧ w1 = [] ∧ ((z = 1 ∧ 0 ≤ a ∧ a < 5) ∨ (z = 0 ∧ ¬ (0 ≤ a ∧ a < 5))))) := by
  refine Ct.ofB (by decide) (Nat.le_of_ble_eq_true rfl) ?_
  intro p e s m args below meth c A Q hX hnm hR
  refine Z.pick (lv' := [(0, .int (zI a))]) [0] rfl ?_
  refine Z.iload_n hX dX6_isPower_0 rfl rfl ?_
  refine Z.if_lt hX 13 dX6_isPower_1 (by decide) ⟨by omega, by omega⟩ ?_ ?_
  · intro c1
    refine Z.iconst hX dX6_isPower_13 ?_
    exact hR _ _ _ _ dX6_isPower_14 rfl ⟨0, rfl, rfl, (by omega)⟩
  · intro c1
    refine Z.iload_n hX dX6_isPower_4 rfl rfl ?_
    refine Z.iconst hX dX6_isPower_5 ?_
    refine Z.icmp_ge hX 13 dX6_isPower_6 (by decide) ⟨by omega, by omega⟩ ⟨by omega, by omega⟩ ?_ ?_
    · intro c2
      refine Z.iconst hX dX6_isPower_13 ?_
      exact hR _ _ _ _ dX6_isPower_14 rfl ⟨0, rfl, rfl, (by omega)⟩
    · intro c2
      refine Z.iconst hX dX6_isPower_9 ?_
      refine Z.goto hX 14 dX6_isPower_10 (by decide) ?_
      exact hR _ _ _ _ dX6_isPower_14 rfl ⟨1, rfl, rfl, (by omega)⟩

theorem dX6_isSort_0 : decode cX6_isSort 0 = .ok (.iload_n 0, 1) := by decide +kernel
theorem dX6_isSort_1 : decode cX6_isSort 1 = .ok (.ifCond .eq 8, 3) := by decide +kernel
theorem dX6_isSort_4 : decode cX6_isSort 4 = .ok (.iload_n 0, 1) := by decide +kernel
theorem dX6_isSort_5 : decode cX6_isSort 5 = .ok (.iconst 1, 1) := by decide +kernel
theorem dX6_isSort_6 : decode cX6_isSort 6 = .ok (.if_icmp .ne 7, 3) := by decide +kernel
theorem dX6_isSort_9 : decode cX6_isSort 9 = .ok (.iconst 1, 1) := by decide +kernel
theorem dX6_isSort_10 : decode cX6_isSort 10 = .ok (.goto 4, 3) := by decide +kernel
theorem dX6_isSort_13 : decode cX6_isSort 13 = .ok (.iconst 0, 1) := by decide +kernel
theorem dX6_isSort_14 : decode cX6_isSort 14 = .ok (.ireturn, 1) := by decide +kernel
set_option maxHeartbeats 4000000 in
set_option maxRecDepth 100000 in
theorem ct_X6_isSort (l : Launch) (D : va_G) (ce : Nat → ClassId) (a : Int) (ha : -2147483648 ≤ a ∧ a < 2147483648) : Ct l yX6_isSort cX6_isSort 1 (some .boolean) { frames := 0, cells := 0, slots := 0, locals := 0 } 0 0 D (TY ce) [.int (zI a)] ([]) (QI D (TY ce) (fun r w1 => ∃ z : Int, r = zI z ∧ w1 = [] ∧ ((z = 1 ∧ (a = 0 ∨ a = 1)) ∨ (z = 0 ∧ ¬ (a = 0 ∨ a = 1))))) := by
  refine Ct.ofB (by decide) (Nat.le_of_ble_eq_true rfl) ?_
  intro p e s m args below meth c A Q hX hnm hR
  refine Z.pick (lv' := [(0, .int (zI a))]) [0] rfl ?_
  refine Z.iload_n hX dX6_isSort_0 rfl rfl ?_
  refine Z.if_eq hX 9 dX6_isSort_1 (by decide) ⟨by omega, by omega⟩ ?_ ?_
  · intro c1
    refine Z.iconst hX dX6_isSort_9 ?_
    refine Z.goto hX 14 dX6_isSort_10 (by decide) ?_
    exact hR _ _ _ _ dX6_isSort_14 rfl ⟨1, rfl, rfl, (by omega)⟩
  · intro c1
    refine Z.iload_n hX dX6_isSort_4 rfl rfl ?_
    refine Z.iconst hX dX6_isSort_5 ?_
    refine Z.icmp_ne hX 13 dX6_isSort_6 (by decide) ⟨by omega, by omega⟩ ⟨by omega, by omega⟩ ?_ ?_
    · intro c2
      refine Z.iconst hX dX6_isSort_13 ?_
      exact hR _ _ _ _ dX6_isSort_14 rfl ⟨0, rfl, rfl, (by omega)⟩
    · intro c2
      refine Z.iconst hX dX6_isSort_9 ?_
      refine Z.goto hX 14 dX6_isSort_10 (by decide) ?_
      exact hR _ _ _ _ dX6_isSort_14 rfl ⟨1, rfl, rfl, (by omega)⟩

theorem dX6_isWithin_0 : decode cX6_isWithin 0 = .ok (.iload_n 0, 1) := by decide +kernel
theorem dX6_isWithin_1 : decode cX6_isWithin 1 = .ok (.iload_n 1, 1) := by decide +kernel
theorem dX6_isWithin_2 : decode cX6_isWithin 2 = .ok (.ineg, 1) := by decide +kernel
theorem dX6_isWithin_3 : decode cX6_isWithin 3 = .ok (.if_icmp .lt 12, 3) := by decide +kernel
theorem dX6_isWithin_6 : decode cX6_isWithin 6 = .ok (.iload_n 0, 1) := by decide +kernel
theorem dX6_isWithin_7 : decode cX6_isWithin 7 = .ok (.iload_n 1, 1) := by decide +kernel
theorem dX6_isWithin_8 : decode cX6_isWithin 8 = .ok (.if_icmp .gt 7, 3) := by decide +kernel
theorem dX6_isWithin_11 : decode cX6_isWithin 11 = .ok (.iconst 1, 1) := by decide +kernel
theorem dX6_isWithin_12 : decode cX6_isWithin 12 = .ok (.goto 4, 3) := by decide +kernel
theorem dX6_isWithin_15 : decode cX6_isWithin 15 = .ok (.iconst 0, 1) := by decide +kernel
theorem dX6_isWithin_16 : decode cX6_isWithin 16 = .ok (.ireturn, 1) := by decide +kernel
set_option maxHeartbeats 4000000 in
set_option maxRecDepth 100000 in
theorem ct_X6_isWithin (l : Launch) (D : va_G) (ce : Nat → ClassId) (a b : Int) (ha : -2147483648 ≤ a ∧ a < 2147483648) (hb : 0 ≤ b ∧ b ≤ 100) : Ct l yX6_isWithin cX6_isWithin 2 (some .boolean) { frames := 0, cells := 0, slots := 0, locals := 0 } 0 0 D (TY ce) [.int (zI a), .int (zI b)] ([]) (QI D (TY ce) (fun r w1 => ∃ z : Int, r = zI z ∧ w1 = [] ∧ ((z = 1 ∧ -b ≤ a ∧ a ≤ b) ∨ (z = 0 ∧ ¬ (-b ≤ a ∧ a ≤ b))))) := by
  refine Ct.ofB (by decide) (Nat.le_of_ble_eq_true rfl) ?_
  intro p e s m args below meth c A Q hX hnm hR
  refine Z.pick (lv' := [(0, .int (zI a)), (1, .int (zI b))]) [0, 1] rfl ?_
  refine Z.iload_n hX dX6_isWithin_0 rfl rfl ?_
  refine Z.iload_n hX dX6_isWithin_1 rfl rfl ?_
  refine Z.ineg hX dX6_isWithin_2 ?_
  refine Z.icmp_lt hX 15 dX6_isWithin_3 (by decide) ⟨by omega, by omega⟩ ⟨by omega, by omega⟩ ?_ ?_
  · intro c1
    refine Z.iconst hX dX6_isWithin_15 ?_
    exact hR _ _ _ _ dX6_isWithin_16 rfl ⟨0, rfl, rfl, (by omega)⟩
  · intro c1
    refine Z.iload_n hX dX6_isWithin_6 rfl rfl ?_
    refine Z.iload_n hX dX6_isWithin_7 rfl rfl ?_
    refine Z.icmp_gt hX 15 dX6_isWithin_8 (by decide) ⟨by omega, by omega⟩ ⟨by omega, by omega⟩ ?_ ?_
    · intro c2
      refine Z.iconst hX dX6_isWithin_15 ?_
      exact hR _ _ _ _ dX6_isWithin_16 rfl ⟨0, rfl, rfl, (by omega)⟩
    · intro c2
      refine Z.iconst hX dX6_isWithin_11 ?_
      refine Z.goto hX 16 dX6_isWithin_12 (by decide) ?_
      exact hR _ _ _ _ dX6_isWithin_16 rfl ⟨1, rfl, rfl, (by omega)⟩

theorem dX6_isParameter_0 : decode cX6_isParameter 0 = .ok (.iload_n 0, 1) := by decide +kernel
theorem dX6_isParameter_1 : decode cX6_isParameter 1 = .ok (.bipush 9, 2) := by decide +kernel
theorem dX6_isParameter_3 : decode cX6_isParameter 3 = .ok (.invokestatic 65, 3) := by decide +kernel
theorem dX6_isParameter_6 : decode cX6_isParameter 6 = .ok (.ifCond .eq 24, 3) := by decide +kernel
theorem dX6_isParameter_9 : decode cX6_isParameter 9 = .ok (.iload_n 1, 1) := by decide +kernel
theorem dX6_isParameter_10 : decode cX6_isParameter 10 = .ok (.bipush 9, 2) := by decide +kernel
theorem dX6_isParameter_12 : decode cX6_isParameter 12 = .ok (.invokestatic 65, 3) := by decide +kernel
theorem dX6_isParameter_15 : decode cX6_isParameter 15 = .ok (.ifCond .eq 15, 3) := by decide +kernel
theorem dX6_isParameter_18 : decode cX6_isParameter 18 = .ok (.iload_n 0, 1) := by decide +kernel
theorem dX6_isParameter_19 : decode cX6_isParameter 19 = .ok (.ifCond .ne 7, 3) := by decide +kernel
theorem dX6_isParameter_22 : decode cX6_isParameter 22 = .ok (.iload_n 1, 1) := by decide +kernel
theorem dX6_isParameter_23 : decode cX6_isParameter 23 = .ok (.ifCond .eq 7, 3) := by decide +kernel
theorem dX6_isParameter_26 : decode cX6_isParameter 26 = .ok (.iconst 1, 1) := by decide +kernel
theorem dX6_isParameter_27 : decode cX6_isParameter 27 = .ok (.goto 4, 3) := by decide +kernel
theorem dX6_isParameter_30 : decode cX6_isParameter 30 = .ok (.iconst 0, 1) := by decide +kernel
theorem dX6_isParameter_31 : decode cX6_isParameter 31 = .ok (.ireturn, 1) := by decide +kernel
set_option maxHeartbeats 4000000 in
set_option maxRecDepth 100000 in
theorem ct_X6_isParameter (l : Launch) (D : va_G) (ce : Nat → ClassId) (a b : Int) (ha : -2147483648 ≤ a ∧ a < 2147483648) (hb : -2147483648 ≤ b ∧ b < 2147483648) : Ct l yX6_isParameter cX6_isParameter 2 (some .boolean) { frames := 1, cells := 0, slots := 0, locals := 21 } 0 0 D (TY ce) [.int (zI a), .int (zI b)] ([]) (QI D (TY ce) (fun r w1 => ∃ z : Int, r = zI z ∧ w1 = [] ∧ ((z = 1 ∧ (-9 ≤ a ∧ a ≤ 9 ∧ -9 ≤ b ∧ b ≤ 9 ∧ ¬ (a = 0 ∧ b = 0))) ∨ (z = 0 ∧ ¬ (-9 ≤ a ∧ a ≤ 9 ∧ -9 ≤ b ∧ b ≤ 9 ∧ ¬ (a = 0 ∧ b = 0)))))) := by
  refine Ct.ofB (by decide) (Nat.le_of_ble_eq_true rfl) ?_
  intro p e s m args below meth c A Q hX hnm hR
  refine Z.pick (lv' := [(0, .int (zI a)), (1, .int (zI b))]) [0, 1] rfl ?_
  refine Z.iload_n hX dX6_isParameter_0 rfl rfl ?_
  refine Z.bipush hX dX6_isParameter_1 (by decide) ?_
  refine Z.callS0i (As := [.int (zI a), .int (zI 9)]) (rest := []) hX (ct_X6_isWithin l D ce a 9 ha (by omega)) mc_X6_isWithin ml_X6_65 st_X6_isWithin ini_X6 nd_X6_isWithin ⟨Nat.le_of_ble_eq_true rfl, Nat.le_of_ble_eq_true rfl⟩ ⟨rfl, rfl⟩ ⟨Nat.le_refl _, Nat.le_refl _⟩ rfl (Nat.le_of_ble_eq_true rfl) dX6_isParameter_3 ?_
  rintro r_1 w1 ⟨z2, hr_, hw_, hq3⟩
  subst hr_
  refine ⟨hw_, ?_⟩
  refine Z.if_eq hX 30 dX6_isParameter_6 (by decide) ⟨by omega, by omega⟩ ?_ ?_
  · intro c4
    refine Z.iconst hX dX6_isParameter_30 ?_
    exact hR _ _ _ _ dX6_isParameter_31 rfl ⟨0, rfl, rfl, (by omega)⟩
  · intro c4
    refine Z.iload_n hX dX6_isParameter_9 rfl rfl ?_
    refine Z.bipush hX dX6_isParameter_10 (by decide) ?_
    refine Z.callS0i (As := [.int (zI b), .int (zI 9)]) (rest := []) hX (ct_X6_isWithin l D ce b 9 hb (by omega)) mc_X6_isWithin ml_X6_65 st_X6_isWithin ini_X6 nd_X6_isWithin ⟨Nat.le_of_ble_eq_true rfl, Nat.le_of_ble_eq_true rfl⟩ ⟨rfl, rfl⟩ ⟨Nat.le_refl _, Nat.le_refl _⟩ rfl (Nat.le_of_ble_eq_true rfl) dX6_isParameter_12 ?_
    rintro r_5 w1 ⟨z6, hr_, hw_, hq7⟩
    subst hr_
    refine ⟨hw_, ?_⟩
    refine Z.if_eq hX 30 dX6_isParameter_15 (by decide) ⟨by omega, by omega⟩ ?_ ?_
    · intro c8
      refine Z.iconst hX dX6_isParameter_30 ?_
      exact hR _ _ _ _ dX6_isParameter_31 rfl ⟨0, rfl, rfl, (by omega)⟩
    · intro c8
      refine Z.iload_n hX dX6_isParameter_18 rfl rfl ?_
      refine Z.if_ne hX 26 dX6_isParameter_19 (by decide) ⟨by omega, by omega⟩ ?_ ?_
      · intro c9
        refine Z.iconst hX dX6_isParameter_26 ?_
        refine Z.goto hX 31 dX6_isParameter_27 (by decide) ?_
        exact hR _ _ _ _ dX6_isParameter_31 rfl ⟨1, rfl, rfl, (by omega)⟩
      · intro c9
        refine Z.iload_n hX dX6_isParameter_22 rfl rfl ?_
        refine Z.if_eq hX 30 dX6_isParameter_23 (by decide) ⟨by omega, by omega⟩ ?_ ?_
        · intro c10
          refine Z.iconst hX dX6_isParameter_30 ?_
          exact hR _ _ _ _ dX6_isParameter_31 rfl ⟨0, rfl, rfl, (by omega)⟩
        · intro c10
          refine Z.iconst hX dX6_isParameter_26 ?_
          refine Z.goto hX 31 dX6_isParameter_27 (by decide) ?_
          exact hR _ _ _ _ dX6_isParameter_31 rfl ⟨1, rfl, rfl, (by omega)⟩

theorem dX6_isPlace_0 : decode cX6_isPlace 0 = .ok (.iload_n 0, 1) := by decide +kernel
theorem dX6_isPlace_1 : decode cX6_isPlace 1 = .ok (.bipush 20, 2) := by decide +kernel
theorem dX6_isPlace_3 : decode cX6_isPlace 3 = .ok (.invokestatic 65, 3) := by decide +kernel
theorem dX6_isPlace_6 : decode cX6_isPlace 6 = .ok (.ifCond .eq 27, 3) := by decide +kernel
theorem dX6_isPlace_9 : decode cX6_isPlace 9 = .ok (.iload_n 1, 1) := by decide +kernel
theorem dX6_isPlace_10 : decode cX6_isPlace 10 = .ok (.bipush 20, 2) := by decide +kernel
theorem dX6_isPlace_12 : decode cX6_isPlace 12 = .ok (.invokestatic 65, 3) := by decide +kernel
theorem dX6_isPlace_15 : decode cX6_isPlace 15 = .ok (.ifCond .eq 18, 3) := by decide +kernel
theorem dX6_isPlace_18 : decode cX6_isPlace 18 = .ok (.iload_n 2, 1) := by decide +kernel
theorem dX6_isPlace_19 : decode cX6_isPlace 19 = .ok (.iconst 1, 1) := by decide +kernel
theorem dX6_isPlace_20 : decode cX6_isPlace 20 = .ok (.if_icmp .lt 13, 3) := by decide +kernel
theorem dX6_isPlace_23 : decode cX6_isPlace 23 = .ok (.iload_n 2, 1) := by decide +kernel
theorem dX6_isPlace_24 : decode cX6_isPlace 24 = .ok (.bipush 9, 2) := by decide +kernel
theorem dX6_isPlace_26 : decode cX6_isPlace 26 = .ok (.if_icmp .gt 7, 3) := by decide +kernel
theorem dX6_isPlace_29 : decode cX6_isPlace 29 = .ok (.iconst 1, 1) := by decide +kernel
theorem dX6_isPlace_30 : decode cX6_isPlace 30 = .ok (.goto 4, 3) := by decide +kernel
theorem dX6_isPlace_33 : decode cX6_isPlace 33 = .ok (.iconst 0, 1) := by decide +kernel
theorem dX6_isPlace_34 : decode cX6_isPlace 34 = .ok (.ireturn, 1) := by decide +kernel
set_option maxHeartbeats 4000000 in
set_option maxRecDepth 100000 in
theorem ct_X6_isPlace (l : Launch) (D : va_G) (ce : Nat → ClassId) (a b d : Int) (ha : -2147483648 ≤ a ∧ a < 2147483648) (hb : -2147483648 ≤ b ∧ b < 2147483648) (hd : -2147483648 ≤ d ∧ d < 2147483648) : Ct l yX6_isPlace cX6_isPlace 3 (some .boolean) { frames := 1, cells := 0, slots := 0, locals := 21 } 0 0 D (TY ce) [.int (zI a), .int (zI b), .int (zI d)] ([]) (QI D (TY ce) (fun r w1 => ∃ z : Int, r = zI z ∧ w1 = [] ∧ ((z = 1 ∧ (-20 ≤ a ∧ a ≤ 20 ∧ -20 ≤ b ∧ b ≤ 20 ∧ 1 ≤ d ∧ d ≤ 9)) ∨ (z = 0 ∧ ¬ (-20 ≤ a ∧ a ≤ 20 ∧ -20 ≤ b ∧ b ≤ 20 ∧ 1 ≤ d ∧ d ≤ 9))))) := by
  refine Ct.ofB (by decide) (Nat.le_of_ble_eq_true rfl) ?_
  intro p e s m args below meth c A Q hX hnm hR
  refine Z.pick (lv' := [(0, .int (zI a)), (1, .int (zI b)), (2, .int (zI d))]) [0, 1, 2] rfl ?_
  refine Z.iload_n hX dX6_isPlace_0 rfl rfl ?_
  refine Z.bipush hX dX6_isPlace_1 (by decide) ?_
  refine Z.callS0i (As := [.int (zI a), .int (zI 20)]) (rest := []) hX (ct_X6_isWithin l D ce a 20 ha (by omega)) mc_X6_isWithin ml_X6_65 st_X6_isWithin ini_X6 nd_X6_isWithin ⟨Nat.le_of_ble_eq_true rfl, Nat.le_of_ble_eq_true rfl⟩ ⟨rfl, rfl⟩ ⟨Nat.le_refl _, Nat.le_refl _⟩ rfl (Nat.le_of_ble_eq_true rfl) dX6_isPlace_3 ?_
  rintro r_1 w1 ⟨z2, hr_, hw_, hq3⟩
  subst hr_
  refine ⟨hw_, ?_⟩
  refine Z.if_eq hX 33 dX6_isPlace_6 (by decide) ⟨by omega, by omega⟩ ?_ ?_
  · intro c4
    refine Z.iconst hX dX6_isPlace_33 ?_
    exact hR _ _ _ _ dX6_isPlace_34 rfl ⟨0, rfl, rfl, (by omega)⟩
  · intro c4
    refine Z.iload_n hX dX6_isPlace_9 rfl rfl ?_
    refine Z.bipush hX dX6_isPlace_10 (by decide) ?_
    refine Z.callS0i (As := [.int (zI b), .int (zI 20)]) (rest := []) hX (ct_X6_isWithin l D ce b 20 hb (by omega)) mc_X6_isWithin ml_X6_65 st_X6_isWithin ini_X6 nd_X6_isWithin ⟨Nat.le_of_ble_eq_true rfl, Nat.le_of_ble_eq_true rfl⟩ ⟨rfl, rfl⟩ ⟨Nat.le_refl _, Nat.le_refl _⟩ rfl (Nat.le_of_ble_eq_true rfl) dX6_isPlace_12 ?_
    rintro r_5 w1 ⟨z6, hr_, hw_, hq7⟩
    subst hr_
    refine ⟨hw_, ?_⟩
    refine Z.if_eq hX 33 dX6_isPlace_15 (by decide) ⟨by omega, by omega⟩ ?_ ?_
    · intro c8
      refine Z.iconst hX dX6_isPlace_33 ?_
      exact hR _ _ _ _ dX6_isPlace_34 rfl ⟨0, rfl, rfl, (by omega)⟩
    · intro c8
      refine Z.iload_n hX dX6_isPlace_18 rfl rfl ?_
      refine Z.iconst hX dX6_isPlace_19 ?_
      refine Z.icmp_lt hX 33 dX6_isPlace_20 (by decide) ⟨by omega, by omega⟩ ⟨by omega, by omega⟩ ?_ ?_
      · intro c9
        refine Z.iconst hX dX6_isPlace_33 ?_
        exact hR _ _ _ _ dX6_isPlace_34 rfl ⟨0, rfl, rfl, (by omega)⟩
      · intro c9
        refine Z.iload_n hX dX6_isPlace_23 rfl rfl ?_
        refine Z.bipush hX dX6_isPlace_24 (by decide) ?_
        refine Z.icmp_gt hX 33 dX6_isPlace_26 (by decide) ⟨by omega, by omega⟩ ⟨by omega, by omega⟩ ?_ ?_
        · intro c10
          refine Z.iconst hX dX6_isPlace_33 ?_
          exact hR _ _ _ _ dX6_isPlace_34 rfl ⟨0, rfl, rfl, (by omega)⟩
        · intro c10
          refine Z.iconst hX dX6_isPlace_29 ?_
          refine Z.goto hX 34 dX6_isPlace_30 (by decide) ?_
          exact hR _ _ _ _ dX6_isPlace_34 rfl ⟨1, rfl, rfl, (by omega)⟩

theorem dX6_powerOf_0 : decode cX6_powerOf 0 = .ok (.lconst 1, 1) := by decide +kernel
theorem dX6_powerOf_1 : decode cX6_powerOf 1 = .ok (.lstore_n 3, 1) := by decide +kernel
theorem dX6_powerOf_2 : decode cX6_powerOf 2 = .ok (.iconst 0, 1) := by decide +kernel
theorem dX6_powerOf_3 : decode cX6_powerOf 3 = .ok (.istore 5, 2) := by decide +kernel
theorem dX6_powerOf_5 : decode cX6_powerOf 5 = .ok (.iload 5, 2) := by decide +kernel
theorem dX6_powerOf_7 : decode cX6_powerOf 7 = .ok (.iload_n 2, 1) := by decide +kernel
theorem dX6_powerOf_8 : decode cX6_powerOf 8 = .ok (.if_icmp .ge 13, 3) := by decide +kernel
theorem dX6_powerOf_11 : decode cX6_powerOf 11 = .ok (.lload_n 3, 1) := by decide +kernel
theorem dX6_powerOf_12 : decode cX6_powerOf 12 = .ok (.lload_n 0, 1) := by decide +kernel
theorem dX6_powerOf_13 : decode cX6_powerOf 13 = .ok (.lmul, 1) := by decide +kernel
theorem dX6_powerOf_14 : decode cX6_powerOf 14 = .ok (.lstore_n 3, 1) := by decide +kernel
theorem dX6_powerOf_15 : decode cX6_powerOf 15 = .ok (.iinc 5 1, 3) := by decide +kernel
theorem dX6_powerOf_18 : decode cX6_powerOf 18 = .ok (.goto (-13), 3) := by decide +kernel
theorem dX6_powerOf_21 : decode cX6_powerOf 21 = .ok (.lload_n 3, 1) := by decide +kernel
theorem dX6_powerOf_22 : decode cX6_powerOf 22 = .ok (.lreturn, 1) := by decide +kernel
set_option maxHeartbeats 4000000 in
set_option maxRecDepth 100000 in
theorem ct_X6_powerOf (l : Launch) (D : va_G) (ce : Nat → ClassId) (b : Int64) (n : Int) (hn : -2147483648 ≤ n ∧ n < 2147483648) : Ct l yX6_powerOf cX6_powerOf 6 (some .long) { frames := 0, cells := 0, slots := 0, locals := 0 } 0 0 D (TY ce) [.long b, .int (zI n)] ([]) (QL D (TY ce) (fun r w1 => ∃ r0 : Int64, r = r0 ∧ w1 = [] ∧ (r0 = lpow b n.toNat))) := by
  refine Ct.ofL (by decide) (Nat.le_of_ble_eq_true rfl) ?_
  intro p e s m args below meth c A Q hX hnm hR
  refine Z.pick (lv' := [(0, .long b), (2, .int (zI n))]) [0, 1] rfl ?_
  refine Z.lconst (v := 1) hX dX6_powerOf_0 rfl ?_
  refine Z.lstore_n (lv' := [(3, .long 1), (0, .long b), (2, .int (zI n))]) hX dX6_powerOf_1 rfl (by decide) rfl ?_
  refine Z.iconst hX dX6_powerOf_2 ?_
  refine Z.istore (lv' := [(5, .int (zI 0)), (3, .long 1), (0, .long b), (2, .int (zI n))]) hX dX6_powerOf_3 (by decide) rfl ?_
  have key_5 : ∀ (N : Nat), ∀ (k : Int) (r : Int64), (n - k).toNat < N → (hk : 0 ≤ k ∧ (k ≤ n ∨ k = 0)) → (hr : r = lpow b k.toNat) → Z p l e { frames := 0, cells := 0, slots := 0, locals := 0 } s m args below meth c D A 6 0 0 Q 5 [(5, .int (zI k)), (3, .long r), (0, .long b), (2, .int (zI n))] [] ([]) := by
    intro N
    induction N with
    | zero => intro k r hm; exact absurd hm (Nat.not_lt_zero _)
    | succ N ih_5 =>
      intro k r hm hk hr
      refine Z.iload hX dX6_powerOf_5 rfl ?_
      refine Z.iload_n hX dX6_powerOf_7 rfl rfl ?_
      refine Z.icmp_ge hX 21 dX6_powerOf_8 (by decide) ⟨by omega, by omega⟩ ⟨by omega, by omega⟩ ?_ ?_
      · intro c1
        refine Z.lload_n hX dX6_powerOf_21 rfl rfl ?_
        exact hR _ _ _ _ dX6_powerOf_22 ⟨r, rfl, rfl, by rw [hr]; congr 1; omega⟩
      · intro c1
        refine Z.lload_n hX dX6_powerOf_11 rfl rfl ?_
        refine Z.lload_n hX dX6_powerOf_12 rfl rfl ?_
        refine Z.lmul hX dX6_powerOf_13 ?_
        refine Z.lstore_n (lv' := [(3, .long (r * b)), (5, .int (zI k)), (0, .long b), (2, .int (zI n))]) hX dX6_powerOf_14 rfl (by decide) rfl ?_
        refine Z.iinc (lv' := [(5, .int (zI (k + 1))), (3, .long (r * b)), (0, .long b), (2, .int (zI n))]) hX dX6_powerOf_15 rfl (by decide) rfl ?_
        refine Z.goto hX 5 dX6_powerOf_18 (by decide) ?_
        refine Z.pick [0, 1, 2, 3] rfl ?_
        exact ih_5 _ _ (by omega) (by omega) (by rw [hr]; exact lpow_s hk.1)
  refine Z.pick [0, 1, 2, 3] rfl ?_
  exact key_5 _ _ _ (Nat.lt_succ_self _) (by omega) rfl

theorem dX6_commonOf_0 : decode cX6_commonOf 0 = .ok (.lload_n 0, 1) := by decide +kernel
theorem dX6_commonOf_1 : decode cX6_commonOf 1 = .ok (.lconst 0, 1) := by decide +kernel
theorem dX6_commonOf_2 : decode cX6_commonOf 2 = .ok (.lcmp, 1) := by decide +kernel
theorem dX6_commonOf_3 : decode cX6_commonOf 3 = .ok (.ifCond .ge 8, 3) := by decide +kernel
theorem dX6_commonOf_6 : decode cX6_commonOf 6 = .ok (.lload_n 0, 1) := by decide +kernel
theorem dX6_commonOf_7 : decode cX6_commonOf 7 = .ok (.lneg, 1) := by decide +kernel
theorem dX6_commonOf_8 : decode cX6_commonOf 8 = .ok (.goto 4, 3) := by decide +kernel
theorem dX6_commonOf_11 : decode cX6_commonOf 11 = .ok (.lload_n 0, 1) := by decide +kernel
theorem dX6_commonOf_12 : decode cX6_commonOf 12 = .ok (.lstore 4, 2) := by decide +kernel
theorem dX6_commonOf_14 : decode cX6_commonOf 14 = .ok (.lload_n 2, 1) := by decide +kernel
theorem dX6_commonOf_15 : decode cX6_commonOf 15 = .ok (.lconst 0, 1) := by decide +kernel
theorem dX6_commonOf_16 : decode cX6_commonOf 16 = .ok (.lcmp, 1) := by decide +kernel
theorem dX6_commonOf_17 : decode cX6_commonOf 17 = .ok (.ifCond .ge 8, 3) := by decide +kernel
theorem dX6_commonOf_20 : decode cX6_commonOf 20 = .ok (.lload_n 2, 1) := by decide +kernel
theorem dX6_commonOf_21 : decode cX6_commonOf 21 = .ok (.lneg, 1) := by decide +kernel
theorem dX6_commonOf_22 : decode cX6_commonOf 22 = .ok (.goto 4, 3) := by decide +kernel
theorem dX6_commonOf_25 : decode cX6_commonOf 25 = .ok (.lload_n 2, 1) := by decide +kernel
theorem dX6_commonOf_26 : decode cX6_commonOf 26 = .ok (.lstore 6, 2) := by decide +kernel
theorem dX6_commonOf_28 : decode cX6_commonOf 28 = .ok (.iconst 0, 1) := by decide +kernel
theorem dX6_commonOf_29 : decode cX6_commonOf 29 = .ok (.istore 8, 2) := by decide +kernel
theorem dX6_commonOf_31 : decode cX6_commonOf 31 = .ok (.iload 8, 2) := by decide +kernel
theorem dX6_commonOf_33 : decode cX6_commonOf 33 = .ok (.sipush 128, 3) := by decide +kernel
theorem dX6_commonOf_36 : decode cX6_commonOf 36 = .ok (.if_icmp .ge 31, 3) := by decide +kernel
theorem dX6_commonOf_39 : decode cX6_commonOf 39 = .ok (.lload 6, 2) := by decide +kernel
theorem dX6_commonOf_41 : decode cX6_commonOf 41 = .ok (.lconst 0, 1) := by decide +kernel
theorem dX6_commonOf_42 : decode cX6_commonOf 42 = .ok (.lcmp, 1) := by decide +kernel
theorem dX6_commonOf_43 : decode cX6_commonOf 43 = .ok (.ifCond .eq 24, 3) := by decide +kernel
theorem dX6_commonOf_46 : decode cX6_commonOf 46 = .ok (.lload 4, 2) := by decide +kernel
theorem dX6_commonOf_48 : decode cX6_commonOf 48 = .ok (.lload 6, 2) := by decide +kernel
theorem dX6_commonOf_50 : decode cX6_commonOf 50 = .ok (.lrem, 1) := by decide +kernel
theorem dX6_commonOf_51 : decode cX6_commonOf 51 = .ok (.lstore 9, 2) := by decide +kernel
theorem dX6_commonOf_53 : decode cX6_commonOf 53 = .ok (.lload 6, 2) := by decide +kernel
theorem dX6_commonOf_55 : decode cX6_commonOf 55 = .ok (.lstore 4, 2) := by decide +kernel
theorem dX6_commonOf_57 : decode cX6_commonOf 57 = .ok (.lload 9, 2) := by decide +kernel
theorem dX6_commonOf_59 : decode cX6_commonOf 59 = .ok (.lstore 6, 2) := by decide +kernel
theorem dX6_commonOf_61 : decode cX6_commonOf 61 = .ok (.iinc 8 1, 3) := by decide +kernel
theorem dX6_commonOf_64 : decode cX6_commonOf 64 = .ok (.goto (-33), 3) := by decide +kernel
theorem dX6_commonOf_67 : decode cX6_commonOf 67 = .ok (.lload 4, 2) := by decide +kernel
theorem dX6_commonOf_69 : decode cX6_commonOf 69 = .ok (.lreturn, 1) := by decide +kernel
set_option maxHeartbeats 4000000 in
set_option maxRecDepth 100000 in
theorem ct_X6_commonOf (l : Launch) (D : va_G) (ce : Nat → ClassId) (a b : Int64)  : Ct l yX6_commonOf cX6_commonOf 11 (some .long) { frames := 0, cells := 0, slots := 0, locals := 0 } 0 0 D (TY ce) [.long a, .long b] ([]) (QL D (TY ce) (fun r w1 => ∃ r0 : Int64, r = r0 ∧ w1 = [] ∧ (cgE a b r0))) := by
  refine Ct.ofL (by decide) (Nat.le_of_ble_eq_true rfl) ?_
  intro p e s m args below meth c A Q hX hnm hR
  refine Z.pick (lv' := [(0, .long a), (2, .long b)]) [0, 1] rfl ?_
  have key_12 : ∀ (x : Int64), (hx1 : x = lab a) → Z p l e { frames := 0, cells := 0, slots := 0, locals := 0 } s m args below meth c D A 11 0 0 Q 12 [(0, .long a), (2, .long b)] [.long x] ([]) := by
    intro x hx1
    refine Z.lstore (lv' := [(4, .long x), (0, .long a), (2, .long b)]) hX dX6_commonOf_12 (by decide) rfl ?_
    have key_26 : ∀ (y : Int64), (hy1 : y = lab b) → Z p l e { frames := 0, cells := 0, slots := 0, locals := 0 } s m args below meth c D A 11 0 0 Q 26 [(4, .long x)] [.long y] ([]) := by
      intro y hy1
      refine Z.lstore (lv' := [(6, .long y), (4, .long x)]) hX dX6_commonOf_26 (by decide) rfl ?_
      refine Z.iconst hX dX6_commonOf_28 ?_
      refine Z.istore (lv' := [(8, .int (zI 0)), (6, .long y), (4, .long x)]) hX dX6_commonOf_29 (by decide) rfl ?_
      have key_31 : ∀ (N : Nat), ∀ (i : Int) (x y : Int64), (128 - i).toNat < N → (hi : 0 ≤ i ∧ i ≤ 128) → (hc : cgI a b x y) → (hp : cgP x y i) → Z p l e { frames := 0, cells := 0, slots := 0, locals := 0 } s m args below meth c D A 11 0 0 Q 31 [(8, .int (zI i)), (4, .long x), (6, .long y)] [] ([]) := by
        intro N
        induction N with
        | zero => intro i x y hm; exact absurd hm (Nat.not_lt_zero _)
        | succ N ih_31 =>
          intro i x y hm hi hc hp
          refine Z.iload hX dX6_commonOf_31 rfl ?_
          refine Z.sipush hX dX6_commonOf_33 (by decide) ?_
          refine Z.icmp_ge hX 67 dX6_commonOf_36 (by decide) ⟨by omega, by omega⟩ ⟨by omega, by omega⟩ ?_ ?_
          · intro c1
            refine Z.lload hX dX6_commonOf_67 rfl ?_
            exact hR _ _ _ _ dX6_commonOf_69 ⟨x, rfl, rfl, cgI_e (by first | assumption | exact cgP_e (by assumption) hp) hc⟩
          · intro c1
            refine Z.lload hX dX6_commonOf_39 rfl ?_
            refine Z.lconst (v := 0) hX dX6_commonOf_41 rfl ?_
            refine Z.lcmp_eq hX 67 dX6_commonOf_42 dX6_commonOf_43 (by decide) ?_ ?_
            · intro c2
              refine Z.lload hX dX6_commonOf_67 rfl ?_
              exact hR _ _ _ _ dX6_commonOf_69 ⟨x, rfl, rfl, cgI_e (by first | assumption | exact cgP_e (by assumption) hp) hc⟩
            · intro c2
              refine Z.lload hX dX6_commonOf_46 rfl ?_
              refine Z.lload hX dX6_commonOf_48 rfl ?_
              refine Z.lrem hX dX6_commonOf_50 (by assumption) ?_
              refine Z.lstore (lv' := [(9, .long (x - x / y * y)), (8, .int (zI i)), (4, .long x), (6, .long y)]) hX dX6_commonOf_51 (by decide) rfl ?_
              refine Z.lload hX dX6_commonOf_53 rfl ?_
              refine Z.lstore (lv' := [(4, .long y), (9, .long (x - x / y * y)), (8, .int (zI i)), (6, .long y)]) hX dX6_commonOf_55 (by decide) rfl ?_
              refine Z.lload hX dX6_commonOf_57 rfl ?_
              refine Z.lstore (lv' := [(6, .long (x - x / y * y)), (4, .long y), (9, .long (x - x / y * y)), (8, .int (zI i))]) hX dX6_commonOf_59 (by decide) rfl ?_
              refine Z.iinc (lv' := [(8, .int (zI (i + 1))), (6, .long (x - x / y * y)), (4, .long y), (9, .long (x - x / y * y))]) hX dX6_commonOf_61 rfl (by decide) rfl ?_
              refine Z.goto hX 31 dX6_commonOf_64 (by decide) ?_
              refine Z.pick [0, 2, 1] rfl ?_
              exact ih_31 _ _ _ (by omega) (by omega) (cgI_s (by assumption) hc) (cgP_s hi.1 (by assumption) hp)
      refine Z.pick [0, 2, 1] rfl ?_
      exact key_31 _ _ _ _ (Nat.lt_succ_self _) (by omega) (by rw [hx1, hy1]; exact cgI_0 a b) (Or.inl rfl)
    refine Z.lload_n hX dX6_commonOf_14 rfl rfl ?_
    refine Z.lconst (v := 0) hX dX6_commonOf_15 rfl ?_
    refine Z.lcmp_ge hX 25 dX6_commonOf_16 dX6_commonOf_17 (by decide) ?_ ?_
    · intro c3
      refine Z.lload_n hX dX6_commonOf_25 rfl rfl ?_
      refine Z.pick [0] rfl ?_
      exact key_26 _ (lab_pos (by assumption))
    · intro c3
      refine Z.lload_n hX dX6_commonOf_20 rfl rfl ?_
      refine Z.lneg hX dX6_commonOf_21 ?_
      refine Z.goto hX 26 dX6_commonOf_22 (by decide) ?_
      refine Z.pick [0] rfl ?_
      exact key_26 _ (lab_neg (by assumption))
  refine Z.lload_n hX dX6_commonOf_0 rfl rfl ?_
  refine Z.lconst (v := 0) hX dX6_commonOf_1 rfl ?_
  refine Z.lcmp_ge hX 11 dX6_commonOf_2 dX6_commonOf_3 (by decide) ?_ ?_
  · intro c4
    refine Z.lload_n hX dX6_commonOf_11 rfl rfl ?_
    refine Z.pick [0, 1] rfl ?_
    exact key_12 _ (lab_pos (by assumption))
  · intro c4
    refine Z.lload_n hX dX6_commonOf_6 rfl rfl ?_
    refine Z.lneg hX dX6_commonOf_7 ?_
    refine Z.goto hX 12 dX6_commonOf_8 (by decide) ?_
    refine Z.pick [0, 1] rfl ?_
    exact key_12 _ (lab_neg (by assumption))

theorem dX6_isPowerWithin_0 : decode cX6_isPowerWithin 0 = .ok (.lload_n 0, 1) := by decide +kernel
theorem dX6_isPowerWithin_1 : decode cX6_isPowerWithin 1 = .ok (.lconst 1, 1) := by decide +kernel
theorem dX6_isPowerWithin_2 : decode cX6_isPowerWithin 2 = .ok (.lcmp, 1) := by decide +kernel
theorem dX6_isPowerWithin_3 : decode cX6_isPowerWithin 3 = .ok (.ifCond .ge 5, 3) := by decide +kernel
theorem dX6_isPowerWithin_6 : decode cX6_isPowerWithin 6 = .ok (.iconst 0, 1) := by decide +kernel
theorem dX6_isPowerWithin_7 : decode cX6_isPowerWithin 7 = .ok (.ireturn, 1) := by decide +kernel
theorem dX6_isPowerWithin_8 : decode cX6_isPowerWithin 8 = .ok (.lload_n 3, 1) := by decide +kernel
theorem dX6_isPowerWithin_9 : decode cX6_isPowerWithin 9 = .ok (.lstore 5, 2) := by decide +kernel
theorem dX6_isPowerWithin_11 : decode cX6_isPowerWithin 11 = .ok (.iconst 0, 1) := by decide +kernel
theorem dX6_isPowerWithin_12 : decode cX6_isPowerWithin 12 = .ok (.istore 7, 2) := by decide +kernel
theorem dX6_isPowerWithin_14 : decode cX6_isPowerWithin 14 = .ok (.iload 7, 2) := by decide +kernel
theorem dX6_isPowerWithin_16 : decode cX6_isPowerWithin 16 = .ok (.iload_n 2, 1) := by decide +kernel
theorem dX6_isPowerWithin_17 : decode cX6_isPowerWithin 17 = .ok (.if_icmp .ge 15, 3) := by decide +kernel
theorem dX6_isPowerWithin_20 : decode cX6_isPowerWithin 20 = .ok (.lload 5, 2) := by decide +kernel
theorem dX6_isPowerWithin_22 : decode cX6_isPowerWithin 22 = .ok (.lload_n 0, 1) := by decide +kernel
theorem dX6_isPowerWithin_23 : decode cX6_isPowerWithin 23 = .ok (.ldiv, 1) := by decide +kernel
theorem dX6_isPowerWithin_24 : decode cX6_isPowerWithin 24 = .ok (.lstore 5, 2) := by decide +kernel
theorem dX6_isPowerWithin_26 : decode cX6_isPowerWithin 26 = .ok (.iinc 7 1, 3) := by decide +kernel
theorem dX6_isPowerWithin_29 : decode cX6_isPowerWithin 29 = .ok (.goto (-15), 3) := by decide +kernel
theorem dX6_isPowerWithin_32 : decode cX6_isPowerWithin 32 = .ok (.lload 5, 2) := by decide +kernel
theorem dX6_isPowerWithin_34 : decode cX6_isPowerWithin 34 = .ok (.lconst 1, 1) := by decide +kernel
theorem dX6_isPowerWithin_35 : decode cX6_isPowerWithin 35 = .ok (.lcmp, 1) := by decide +kernel
theorem dX6_isPowerWithin_36 : decode cX6_isPowerWithin 36 = .ok (.ifCond .lt 7, 3) := by decide +kernel
theorem dX6_isPowerWithin_39 : decode cX6_isPowerWithin 39 = .ok (.iconst 1, 1) := by decide +kernel
theorem dX6_isPowerWithin_40 : decode cX6_isPowerWithin 40 = .ok (.goto 4, 3) := by decide +kernel
theorem dX6_isPowerWithin_43 : decode cX6_isPowerWithin 43 = .ok (.iconst 0, 1) := by decide +kernel
theorem dX6_isPowerWithin_44 : decode cX6_isPowerWithin 44 = .ok (.ireturn, 1) := by decide +kernel
set_option maxHeartbeats 4000000 in
set_option maxRecDepth 100000 in
theorem ct_X6_isPowerWithin (l : Launch) (D : va_G) (ce : Nat → ClassId) (b : Int64) (k : Int) (v : Int64) (hk : -2147483648 ≤ k ∧ k < 2147483648) : Ct l yX6_isPowerWithin cX6_isPowerWithin 8 (some .boolean) { frames := 0, cells := 0, slots := 0, locals := 0 } 0 0 D (TY ce) [.long b, .int (zI k), .long v] ([]) (QI D (TY ce) (fun r w1 => ∃ z : Int, r = zI z ∧ w1 = [] ∧ (z = 0 ∨ z = 1))) := by
  refine Ct.ofB (by decide) (Nat.le_of_ble_eq_true rfl) ?_
  intro p e s m args below meth c A Q hX hnm hR
  refine Z.pick (lv' := [(0, .long b), (2, .int (zI k)), (3, .long v)]) [0, 1, 2] rfl ?_
  refine Z.lload_n hX dX6_isPowerWithin_0 rfl rfl ?_
  refine Z.lconst (v := 1) hX dX6_isPowerWithin_1 rfl ?_
  refine Z.lcmp_ge hX 8 dX6_isPowerWithin_2 dX6_isPowerWithin_3 (by decide) ?_ ?_
  · intro c1
    have hb0 : ¬ b = 0 := fun q => by subst q; exact absurd (by assumption) (by decide : ¬ (1 : Int64) ≤ 0)
    refine Z.lload_n hX dX6_isPowerWithin_8 rfl rfl ?_
    refine Z.lstore (lv' := [(5, .long v), (0, .long b), (2, .int (zI k)), (3, .long v)]) hX dX6_isPowerWithin_9 (by decide) rfl ?_
    refine Z.iconst hX dX6_isPowerWithin_11 ?_
    refine Z.istore (lv' := [(7, .int (zI 0)), (5, .long v), (0, .long b), (2, .int (zI k)), (3, .long v)]) hX dX6_isPowerWithin_12 (by decide) rfl ?_
    have key_14 : ∀ (N : Nat), ∀ (i : Int) (x : Int64), (k - i).toNat < N → (hi : 0 ≤ i ∧ (i ≤ k ∨ i = 0)) → Z p l e { frames := 0, cells := 0, slots := 0, locals := 0 } s m args below meth c D A 8 0 0 Q 14 [(7, .int (zI i)), (5, .long x), (0, .long b), (2, .int (zI k))] [] ([]) := by
      intro N
      induction N with
      | zero => intro i x hm; exact absurd hm (Nat.not_lt_zero _)
      | succ N ih_14 =>
        intro i x hm hi
        refine Z.iload hX dX6_isPowerWithin_14 rfl ?_
        refine Z.iload_n hX dX6_isPowerWithin_16 rfl rfl ?_
        refine Z.icmp_ge hX 32 dX6_isPowerWithin_17 (by decide) ⟨by omega, by omega⟩ ⟨by omega, by omega⟩ ?_ ?_
        · intro c2
          refine Z.lload hX dX6_isPowerWithin_32 rfl ?_
          refine Z.lconst (v := 1) hX dX6_isPowerWithin_34 rfl ?_
          refine Z.lcmp_lt hX 43 dX6_isPowerWithin_35 dX6_isPowerWithin_36 (by decide) ?_ ?_
          · intro c3
            refine Z.iconst hX dX6_isPowerWithin_43 ?_
            exact hR _ _ _ _ dX6_isPowerWithin_44 rfl ⟨0, rfl, rfl, (by omega)⟩
          · intro c3
            refine Z.iconst hX dX6_isPowerWithin_39 ?_
            refine Z.goto hX 44 dX6_isPowerWithin_40 (by decide) ?_
            exact hR _ _ _ _ dX6_isPowerWithin_44 rfl ⟨1, rfl, rfl, (by omega)⟩
        · intro c2
          refine Z.lload hX dX6_isPowerWithin_20 rfl ?_
          refine Z.lload_n hX dX6_isPowerWithin_22 rfl rfl ?_
          refine Z.ldiv hX dX6_isPowerWithin_23 hb0 ?_
          refine Z.lstore (lv' := [(5, .long (x / b)), (7, .int (zI i)), (0, .long b), (2, .int (zI k))]) hX dX6_isPowerWithin_24 (by decide) rfl ?_
          refine Z.iinc (lv' := [(7, .int (zI (i + 1))), (5, .long (x / b)), (0, .long b), (2, .int (zI k))]) hX dX6_isPowerWithin_26 rfl (by decide) rfl ?_
          refine Z.goto hX 14 dX6_isPowerWithin_29 (by decide) ?_
          refine Z.pick [0, 1, 2, 3] rfl ?_
          exact ih_14 _ _ (by omega) (by omega)
    refine Z.pick [0, 1, 2, 3] rfl ?_
    exact key_14 _ _ _ (Nat.lt_succ_self _) (by omega)
  · intro c1
    refine Z.iconst hX dX6_isPowerWithin_6 ?_
    exact hR _ _ _ _ dX6_isPowerWithin_7 rfl ⟨0, rfl, rfl, (by omega)⟩

theorem dX6_rootOf_0 : decode cX6_rootOf 0 = .ok (.lconst 0, 1) := by decide +kernel
theorem dX6_rootOf_1 : decode cX6_rootOf 1 = .ok (.lstore_n 3, 1) := by decide +kernel
theorem dX6_rootOf_2 : decode cX6_rootOf 2 = .ok (.bipush 31, 2) := by decide +kernel
theorem dX6_rootOf_4 : decode cX6_rootOf 4 = .ok (.istore 5, 2) := by decide +kernel
theorem dX6_rootOf_6 : decode cX6_rootOf 6 = .ok (.iload 5, 2) := by decide +kernel
theorem dX6_rootOf_8 : decode cX6_rootOf 8 = .ok (.ifCond .lt 30, 3) := by decide +kernel
theorem dX6_rootOf_11 : decode cX6_rootOf 11 = .ok (.lload_n 3, 1) := by decide +kernel
theorem dX6_rootOf_12 : decode cX6_rootOf 12 = .ok (.lconst 1, 1) := by decide +kernel
theorem dX6_rootOf_13 : decode cX6_rootOf 13 = .ok (.iload 5, 2) := by decide +kernel
theorem dX6_rootOf_15 : decode cX6_rootOf 15 = .ok (.lshl, 1) := by decide +kernel
theorem dX6_rootOf_16 : decode cX6_rootOf 16 = .ok (.ladd, 1) := by decide +kernel
theorem dX6_rootOf_17 : decode cX6_rootOf 17 = .ok (.lstore 6, 2) := by decide +kernel
theorem dX6_rootOf_19 : decode cX6_rootOf 19 = .ok (.lload 6, 2) := by decide +kernel
theorem dX6_rootOf_21 : decode cX6_rootOf 21 = .ok (.iload_n 2, 1) := by decide +kernel
theorem dX6_rootOf_22 : decode cX6_rootOf 22 = .ok (.lload_n 0, 1) := by decide +kernel
theorem dX6_rootOf_23 : decode cX6_rootOf 23 = .ok (.invokestatic 170, 3) := by decide +kernel
theorem dX6_rootOf_26 : decode cX6_rootOf 26 = .ok (.ifCond .eq 6, 3) := by decide +kernel
theorem dX6_rootOf_29 : decode cX6_rootOf 29 = .ok (.lload 6, 2) := by decide +kernel
theorem dX6_rootOf_31 : decode cX6_rootOf 31 = .ok (.lstore_n 3, 1) := by decide +kernel
theorem dX6_rootOf_32 : decode cX6_rootOf 32 = .ok (.iinc 5 (-1), 3) := by decide +kernel
theorem dX6_rootOf_35 : decode cX6_rootOf 35 = .ok (.goto (-29), 3) := by decide +kernel
theorem dX6_rootOf_38 : decode cX6_rootOf 38 = .ok (.lload_n 3, 1) := by decide +kernel
theorem dX6_rootOf_39 : decode cX6_rootOf 39 = .ok (.lreturn, 1) := by decide +kernel
set_option maxHeartbeats 4000000 in
set_option maxRecDepth 100000 in
theorem ct_X6_rootOf (l : Launch) (D : va_G) (ce : Nat → ClassId) (v : Int64) (k : Int) (hk : -2147483648 ≤ k ∧ k < 2147483648) : Ct l yX6_rootOf cX6_rootOf 8 (some .long) { frames := 1, cells := 0, slots := 0, locals := 27 } 0 0 D (TY ce) [.long v, .int (zI k)] ([]) (QL D (TY ce) (fun r w1 => ∃ r0 : Int64, r = r0 ∧ w1 = [])) := by
  refine Ct.ofL (by decide) (Nat.le_of_ble_eq_true rfl) ?_
  intro p e s m args below meth c A Q hX hnm hR
  refine Z.pick (lv' := [(0, .long v), (2, .int (zI k))]) [0, 1] rfl ?_
  refine Z.lconst (v := 0) hX dX6_rootOf_0 rfl ?_
  refine Z.lstore_n (lv' := [(3, .long 0), (0, .long v), (2, .int (zI k))]) hX dX6_rootOf_1 rfl (by decide) rfl ?_
  refine Z.bipush hX dX6_rootOf_2 (by decide) ?_
  refine Z.istore (lv' := [(5, .int (zI 31)), (3, .long 0), (0, .long v), (2, .int (zI k))]) hX dX6_rootOf_4 (by decide) rfl ?_
  have key_6 : ∀ (N : Nat), ∀ (i : Int) (x : Int64), (i + 1).toNat < N → (hi : -1 ≤ i ∧ i ≤ 31) → Z p l e { frames := 1, cells := 0, slots := 0, locals := 27 } s m args below meth c D A 8 0 0 Q 6 [(5, .int (zI i)), (3, .long x), (0, .long v), (2, .int (zI k))] [] ([]) := by
    intro N
    induction N with
    | zero => intro i x hm; exact absurd hm (Nat.not_lt_zero _)
    | succ N ih_6 =>
      intro i x hm hi
      refine Z.iload hX dX6_rootOf_6 rfl ?_
      refine Z.if_lt hX 38 dX6_rootOf_8 (by decide) ⟨by omega, by omega⟩ ?_ ?_
      · intro c1
        refine Z.lload_n hX dX6_rootOf_38 rfl rfl ?_
        exact hR _ _ _ _ dX6_rootOf_39 ⟨x, rfl, rfl⟩
      · intro c1
        refine Z.lload_n hX dX6_rootOf_11 rfl rfl ?_
        refine Z.lconst (v := 1) hX dX6_rootOf_12 rfl ?_
        refine Z.iload hX dX6_rootOf_13 rfl ?_
        refine Z.lshl hX dX6_rootOf_15 rfl ?_
        refine Z.topl (fun y2 ey2 => ?_)
        refine Z.ladd hX dX6_rootOf_16 ?_
        refine Z.lstore (lv' := [(6, .long (x + y2)), (5, .int (zI i)), (3, .long x), (0, .long v), (2, .int (zI k))]) hX dX6_rootOf_17 (by decide) rfl ?_
        refine Z.lload hX dX6_rootOf_19 rfl ?_
        refine Z.iload_n hX dX6_rootOf_21 rfl rfl ?_
        refine Z.lload_n hX dX6_rootOf_22 rfl rfl ?_
        refine Z.callS0i (As := [.long (x + y2), .int (zI k), .long v]) (rest := []) hX (ct_X6_isPowerWithin l D ce (x + y2) k v (by omega)) mc_X6_isPowerWithin ml_X6_170 st_X6_isPowerWithin ini_X6 nd_X6_isPowerWithin ⟨Nat.le_of_ble_eq_true rfl, Nat.le_of_ble_eq_true rfl⟩ ⟨rfl, rfl⟩ ⟨Nat.le_refl _, Nat.le_refl _⟩ rfl (Nat.le_of_ble_eq_true rfl) dX6_rootOf_23 ?_
        rintro r_3 w1 ⟨z4, hr_, hw_, hq5⟩
        subst hr_
        refine ⟨hw_, ?_⟩
        refine Z.if_eq hX 32 dX6_rootOf_26 (by decide) ⟨by omega, by omega⟩ ?_ ?_
        · intro c6
          refine Z.iinc (lv' := [(5, .int (zI (i + -1))), (6, .long (x + y2)), (3, .long x), (0, .long v), (2, .int (zI k))]) hX dX6_rootOf_32 rfl (by decide) rfl ?_
          refine Z.goto hX 6 dX6_rootOf_35 (by decide) ?_
          refine Z.pick [0, 2, 3, 4] rfl ?_
          exact ih_6 _ _ (by omega) (by omega)
        · intro c6
          refine Z.lload hX dX6_rootOf_29 rfl ?_
          refine Z.lstore_n (lv' := [(3, .long (x + y2)), (6, .long (x + y2)), (5, .int (zI i)), (0, .long v), (2, .int (zI k))]) hX dX6_rootOf_31 rfl (by decide) rfl ?_
          refine Z.iinc (lv' := [(5, .int (zI (i + -1))), (3, .long (x + y2)), (6, .long (x + y2)), (0, .long v), (2, .int (zI k))]) hX dX6_rootOf_32 rfl (by decide) rfl ?_
          refine Z.goto hX 6 dX6_rootOf_35 (by decide) ?_
          refine Z.pick [0, 1, 3, 4] rfl ?_
          exact ih_6 _ _ (by omega) (by omega)
  refine Z.pick [0, 1, 2, 3] rfl ?_
  exact key_6 _ _ _ (Nat.lt_succ_self _) (by omega)

theorem dX6_slotOf_0 : decode cX6_slotOf 0 = .ok (.iload_n 0, 1) := by decide +kernel
theorem dX6_slotOf_1 : decode cX6_slotOf 1 = .ok (.iload_n 0, 1) := by decide +kernel
theorem dX6_slotOf_2 : decode cX6_slotOf 2 = .ok (.iconst 1, 1) := by decide +kernel
theorem dX6_slotOf_3 : decode cX6_slotOf 3 = .ok (.iadd, 1) := by decide +kernel
theorem dX6_slotOf_4 : decode cX6_slotOf 4 = .ok (.imul, 1) := by decide +kernel
theorem dX6_slotOf_5 : decode cX6_slotOf 5 = .ok (.iconst 2, 1) := by decide +kernel
theorem dX6_slotOf_6 : decode cX6_slotOf 6 = .ok (.idiv, 1) := by decide +kernel
theorem dX6_slotOf_7 : decode cX6_slotOf 7 = .ok (.iload_n 1, 1) := by decide +kernel
theorem dX6_slotOf_8 : decode cX6_slotOf 8 = .ok (.iadd, 1) := by decide +kernel
theorem dX6_slotOf_9 : decode cX6_slotOf 9 = .ok (.ireturn, 1) := by decide +kernel
set_option maxHeartbeats 4000000 in
set_option maxRecDepth 100000 in
theorem ct_X6_slotOf (l : Launch) (D : va_G) (ce : Nat → ClassId) (d j : Int) (hd : 0 ≤ d ∧ d ≤ 6) (hj : 0 ≤ j ∧ j ≤ 6) : Ct l yX6_slotOf cX6_slotOf 2 (some .int) { frames := 0, cells := 0, slots := 0, locals := 0 } 0 0 D (TY ce) [.int (zI d), .int (zI j)] ([]) (QI D (TY ce) (fun r w1 => ∃ z : Int, r = zI z ∧ w1 = [] ∧ (z = sl d + j) ∧ (0 ≤ sl d ∧ sl d + d ≤ 27))) := by
  refine Ct.ofI (by decide) (Nat.le_of_ble_eq_true rfl) ?_
  intro p e s m args below meth c A Q hX hnm hR
  refine Z.pick (lv' := [(0, .int (zI d)), (1, .int (zI j))]) [0, 1] rfl ?_
  have hm := sl_m hd
  have hb := sl_b hd
  refine Z.iload_n hX dX6_slotOf_0 rfl rfl ?_
  refine Z.iload_n hX dX6_slotOf_1 rfl rfl ?_
  refine Z.iconst hX dX6_slotOf_2 ?_
  refine Z.iadd hX dX6_slotOf_3 ?_
  refine Z.imul hX dX6_slotOf_4 ?_
  refine Z.iconst hX dX6_slotOf_5 ?_
  refine Z.idiv hX dX6_slotOf_6 (by omega) (by omega) (by omega) (by omega) ?_
  refine Z.iload_n hX dX6_slotOf_7 rfl rfl ?_
  refine Z.iadd hX dX6_slotOf_8 ?_
  exact hR _ _ _ _ dX6_slotOf_9 ⟨(((d * (d + 1)) / 2) + j), rfl, rfl, rfl, hb⟩

theorem dX5_topOf_0 : decode cX5_topOf 0 = .ok (.iconst 4, 1) := by decide +kernel
theorem dX5_topOf_1 : decode cX5_topOf 1 = .ok (.istore_n 1, 1) := by decide +kernel
theorem dX5_topOf_2 : decode cX5_topOf 2 = .ok (.iload_n 1, 1) := by decide +kernel
theorem dX5_topOf_3 : decode cX5_topOf 3 = .ok (.ifCond .lt 19, 3) := by decide +kernel
theorem dX5_topOf_6 : decode cX5_topOf 6 = .ok (.aload_n 0, 1) := by decide +kernel
theorem dX5_topOf_7 : decode cX5_topOf 7 = .ok (.iload_n 1, 1) := by decide +kernel
theorem dX5_topOf_8 : decode cX5_topOf 8 = .ok (.laload, 1) := by decide +kernel
theorem dX5_topOf_9 : decode cX5_topOf 9 = .ok (.lconst 0, 1) := by decide +kernel
theorem dX5_topOf_10 : decode cX5_topOf 10 = .ok (.lcmp, 1) := by decide +kernel
theorem dX5_topOf_11 : decode cX5_topOf 11 = .ok (.ifCond .eq 5, 3) := by decide +kernel
theorem dX5_topOf_14 : decode cX5_topOf 14 = .ok (.iload_n 1, 1) := by decide +kernel
theorem dX5_topOf_15 : decode cX5_topOf 15 = .ok (.ireturn, 1) := by decide +kernel
theorem dX5_topOf_16 : decode cX5_topOf 16 = .ok (.iinc 1 (-1), 3) := by decide +kernel
theorem dX5_topOf_19 : decode cX5_topOf 19 = .ok (.goto (-17), 3) := by decide +kernel
theorem dX5_topOf_22 : decode cX5_topOf 22 = .ok (.iconst (-1), 1) := by decide +kernel
theorem dX5_topOf_23 : decode cX5_topOf 23 = .ok (.ireturn, 1) := by decide +kernel
set_option maxHeartbeats 4000000 in
set_option maxRecDepth 100000 in
theorem ct_X5_topOf (l : Launch) (D : va_G) (ce : Nat → ClassId) (ad : Nat) (f : Nat → Int64)  : Ct l yX5_topOf cX5_topOf 2 (some .int) { frames := 0, cells := 0, slots := 0, locals := 0 } 0 0 D (TY ce) [.ref ad] ([(ad, .inl (ce 1, 5, .inr (.inl f)))]) (QI D (TY ce) (fun r w1 => ∃ z : Int, r = zI z ∧ w1 = [(ad, .inl (ce 1, 5, .inr (.inl f)))] ∧ (-1 ≤ z ∧ z ≤ 4) ∧ (∀ k : Int, z < k → k ≤ 4 → f k.toNat = 0) ∧ (0 ≤ z → f z.toNat ≠ 0))) := by
  refine Ct.ofI (by decide) (Nat.le_of_ble_eq_true rfl) ?_
  intro p e s m args below meth c A Q hX hnm hR
  refine Z.pick (lv' := [(0, .ref ad)]) [0] rfl ?_
  refine Z.iconst hX dX5_topOf_0 ?_
  refine Z.istore_n (lv' := [(1, .int (zI 4)), (0, .ref ad)]) hX dX5_topOf_1 rfl (by decide) rfl ?_
  have key_2 : ∀ (N : Nat), ∀ (z : Int), (z + 1).toNat < N → (h1 : -1 ≤ z ∧ z ≤ 4) → (h2 : ∀ k : Int, z < k → k ≤ 4 → f k.toNat = 0) → Z p l e { frames := 0, cells := 0, slots := 0, locals := 0 } s m args below meth c D A 2 0 0 Q 2 [(1, .int (zI z)), (0, .ref ad)] [] ([(ad, .inl (ce 1, 5, .inr (.inl f)))]) := by
    intro N
    induction N with
    | zero => intro z hm; exact absurd hm (Nat.not_lt_zero _)
    | succ N ih_2 =>
      intro z hm h1 h2
      refine Z.iload_n hX dX5_topOf_2 rfl rfl ?_
      refine Z.if_lt hX 22 dX5_topOf_3 (by decide) ⟨by omega, by omega⟩ ?_ ?_
      · intro c1
        refine Z.iconst hX dX5_topOf_22 ?_
        exact hR _ _ _ _ dX5_topOf_23 ⟨(-1), rfl, rfl, (by omega), (fun k h3 h4 => h2 k (by omega) h4), (fun h => by omega)⟩
      · intro c1
        refine Z.aload_n hX dX5_topOf_6 rfl rfl ?_
        refine Z.iload_n hX dX5_topOf_7 rfl rfl ?_
        refine Z.laload hX 0 1 dX5_topOf_8 rfl rfl (by omega) (by omega) (by decide) ?_
        refine Z.lconst (v := 0) hX dX5_topOf_9 rfl ?_
        refine Z.lcmp_eq hX 16 dX5_topOf_10 dX5_topOf_11 (by decide) ?_ ?_
        · intro c2
          refine Z.iinc (lv' := [(1, .int (zI (z + -1))), (0, .ref ad)]) hX dX5_topOf_16 rfl (by decide) rfl ?_
          refine Z.goto hX 2 dX5_topOf_19 (by decide) ?_
          refine Z.pick [0, 1] rfl ?_
          exact ih_2 _ (by omega) (by omega) (dg_ih h2 (by assumption))
        · intro c2
          refine Z.iload_n hX dX5_topOf_14 rfl rfl ?_
          exact hR _ _ _ _ dX5_topOf_15 ⟨z, rfl, rfl, h1, h2, (fun _ => by assumption)⟩
  refine Z.pick [0, 1] rfl ?_
  exact key_2 _ _ (Nat.lt_succ_self _) (by omega) (fun k h3 h4 => by omega)

theorem dJ7_fill_d0a16_0 : decode cJ7_fill_d0a16 0 = .ok (.iconst 0, 1) := by decide +kernel
theorem dJ7_fill_d0a16_1 : decode cJ7_fill_d0a16 1 = .ok (.istore_n 3, 1) := by decide +kernel
theorem dJ7_fill_d0a16_2 : decode cJ7_fill_d0a16 2 = .ok (.aload_n 0, 1) := by decide +kernel
theorem dJ7_fill_d0a16_3 : decode cJ7_fill_d0a16 3 = .ok (.arraylength, 1) := by decide +kernel
theorem dJ7_fill_d0a16_4 : decode cJ7_fill_d0a16 4 = .ok (.istore 4, 2) := by decide +kernel
theorem dJ7_fill_d0a16_6 : decode cJ7_fill_d0a16 6 = .ok (.iload_n 3, 1) := by decide +kernel
theorem dJ7_fill_d0a16_7 : decode cJ7_fill_d0a16 7 = .ok (.iload 4, 2) := by decide +kernel
theorem dJ7_fill_d0a16_9 : decode cJ7_fill_d0a16 9 = .ok (.if_icmp .ge 13, 3) := by decide +kernel
theorem dJ7_fill_d0a16_12 : decode cJ7_fill_d0a16 12 = .ok (.aload_n 0, 1) := by decide +kernel
theorem dJ7_fill_d0a16_13 : decode cJ7_fill_d0a16 13 = .ok (.iload_n 3, 1) := by decide +kernel
theorem dJ7_fill_d0a16_14 : decode cJ7_fill_d0a16 14 = .ok (.lload_n 1, 1) := by decide +kernel
theorem dJ7_fill_d0a16_15 : decode cJ7_fill_d0a16 15 = .ok (.lastore, 1) := by decide +kernel
theorem dJ7_fill_d0a16_16 : decode cJ7_fill_d0a16 16 = .ok (.iinc 3 1, 3) := by decide +kernel
theorem dJ7_fill_d0a16_19 : decode cJ7_fill_d0a16 19 = .ok (.goto (-13), 3) := by decide +kernel
theorem dJ7_fill_d0a16_22 : decode cJ7_fill_d0a16 22 = .ok (.return_, 1) := by decide +kernel
set_option maxHeartbeats 4000000 in
set_option maxRecDepth 100000 in
theorem ct_J7_fill_d0a16 (l : Launch) (D : va_G) (ce : Nat → ClassId) (ad n : Nat) (f : Nat → Int64) (v : Int64) (hn : n < 1000) : Ct l yJ7_fill_d0a16 cJ7_fill_d0a16 5 none { frames := 0, cells := 0, slots := 0, locals := 0 } 0 0 D (TY ce) [.ref ad, .long v] ([(ad, .inl (ce 1, n, .inr (.inl f)))]) (QV D (TY ce) (fun w1 => ∃ f2 : Nat → Int64, w1 = [(ad, .inl (ce 1, n, .inr (.inl f2)))] ∧ (∀ q : Int, 0 ≤ q → q < n → f2 q.toNat = v))) := by
  refine Ct.ofV (by decide) (Nat.le_of_ble_eq_true rfl) ?_
  intro p e s m args below meth c A Q hX hnm hR
  refine Z.pick (lv' := [(0, .ref ad), (1, .long v)]) [0, 1] rfl ?_
  refine Z.iconst hX dJ7_fill_d0a16_0 ?_
  refine Z.istore_n (lv' := [(3, .int (zI 0)), (0, .ref ad), (1, .long v)]) hX dJ7_fill_d0a16_1 rfl (by decide) rfl ?_
  refine Z.aload_n hX dJ7_fill_d0a16_2 rfl rfl ?_
  refine Z.alen hX 0 1 dJ7_fill_d0a16_3 rfl rfl ?_
  refine Z.istore (lv' := [(4, .int (zI ((n : Int)))), (3, .int (zI 0)), (0, .ref ad), (1, .long v)]) hX dJ7_fill_d0a16_4 (by decide) rfl ?_
  have key_6 : ∀ (N : Nat), ∀ (k : Int) (g : Nat → Int64), (n - k).toNat < N → (hk : 0 ≤ k ∧ k ≤ n) → (hz : ∀ q : Int, 0 ≤ q → q < k → g q.toNat = v) → Z p l e { frames := 0, cells := 0, slots := 0, locals := 0 } s m args below meth c D A 5 0 0 Q 6 [(3, .int (zI k)), (4, .int (zI ((n : Int)))), (1, .long v), (0, .ref ad)] [] ([(ad, .inl (ce 1, n, .inr (.inl g)))]) := by
    intro N
    induction N with
    | zero => intro k g hm; exact absurd hm (Nat.not_lt_zero _)
    | succ N ih_6 =>
      intro k g hm hk hz
      refine Z.iload_n hX dJ7_fill_d0a16_6 rfl rfl ?_
      refine Z.iload hX dJ7_fill_d0a16_7 rfl ?_
      refine Z.icmp_ge hX 22 dJ7_fill_d0a16_9 (by decide) ⟨by omega, by omega⟩ ⟨by omega, by omega⟩ ?_ ?_
      · intro c1
        exact hR _ _ _ dJ7_fill_d0a16_22 ⟨g, rfl, (fun q h1 h2 => hz q h1 (by omega))⟩
      · intro c1
        refine Z.aload_n hX dJ7_fill_d0a16_12 rfl rfl ?_
        refine Z.iload_n hX dJ7_fill_d0a16_13 rfl rfl ?_
        refine Z.lload_n hX dJ7_fill_d0a16_14 rfl rfl ?_
        refine Z.lastore hX 0 1 dJ7_fill_d0a16_15 rfl rfl (by omega) (by omega) (by omega) ?_
        obtain ⟨f2, ef2⟩ : ∃ J' : Nat → Int64, J' = vp_updL (g) (k : Int).toNat (v) := ⟨_, rfl⟩
        refine Z.toW (w' := [(ad, .inl (ce 1, n, .inr (.inl f2)))]) (by rw [ef2]; rfl) ?_
        refine Z.iinc (lv' := [(3, .int (zI (k + 1))), (4, .int (zI ((n : Int)))), (1, .long v), (0, .ref ad)]) hX dJ7_fill_d0a16_16 rfl (by decide) rfl ?_
        refine Z.goto hX 6 dJ7_fill_d0a16_19 (by decide) ?_
        refine Z.pick [0, 1, 2, 3] rfl ?_
        exact ih_6 _ _ (by omega) (by omega) (fl_s hk.1 (by rw [ef2]) hz)
  refine Z.pick [1, 0, 3, 2] rfl ?_
  exact key_6 _ _ _ (Nat.lt_succ_self _) (by omega) (fun q h1 h2 => by omega)
end
section
set_option maxRecDepth 100000 in
theorem cp_nat : Cond.native arraycopyName ∈ lw_g := z_mem (k := 243) rfl rfl
set_option maxRecDepth 100000 in
theorem cp_st : Cond.static arraycopyName ∈ lw_g := z_mem (k := 242) rfl rfl
set_option maxRecDepth 100000 in
theorem cp_in : Cond.initialized "java/lang/System" ∈ lw_g := z_mem (k := 40) rfl rfl
set_option maxRecDepth 100000 in
theorem ml_X1_33 : Cond.methodLink RX1 33 arraycopyName ∈ lw_g := z_mem (k := 241) rfl rfl
set_option maxRecDepth 100000 in
theorem ml_X3_32 : Cond.methodLink RX3 32 arraycopyName ∈ lw_g := z_mem (k := 373) rfl rfl
set_option maxRecDepth 100000 in
theorem ma_st : Cond.static Lib.MathLoose.abs_long.x ∈ lw_g := z_mem (k := 403) rfl rfl
set_option maxRecDepth 100000 in
theorem ma_co : Cond.code Lib.MathLoose.abs_long.x Lib.MathLoose.abs_long.code 2 (some .long) ∈ lw_g := z_mem (k := 404) rfl rfl
set_option maxRecDepth 100000 in
theorem ma_in : Cond.initialized "java/lang/Math" ∈ lw_g := z_mem (k := 41) rfl rfl
set_option maxRecDepth 100000 in
theorem mi_st : Cond.static Lib.Math.min.name ∈ lw_g := z_mem (k := 340) rfl rfl
set_option maxRecDepth 100000 in
theorem mi_co : Cond.code Lib.Math.min.name Lib.Math.min.code 2 (some .int) ∈ lw_g := z_mem (k := 341) rfl rfl
set_option maxRecDepth 100000 in
theorem mm_X2_64 : Cond.methodLink RX2 64 Lib.Math.min.name ∈ lw_g := z_mem (k := 339) rfl rfl
set_option maxRecDepth 100000 in
theorem mm_X3_49 : Cond.methodLink RX3 49 Lib.MathLoose.abs_long.x ∈ lw_g := z_mem (k := 402) rfl rfl
def BOK (B : Nat → Int) : Prop := ∀ k : Nat, k < 42 → 0 ≤ B k ∧ B k ≤ 6
theorem BOK_s {B B2 : Nat → Int} {k : Nat} (h : BOK B) (h1 : 0 ≤ B2 k ∧ B2 k ≤ 6) (h2 : ∀ j, j ≠ k → B2 j = B j) : BOK B2 := fun j hj => by
  by_cases e : j = k
  · rw [e]; exact h1
  · rw [h2 j e]; exact h j hj
section ZR7
variable {p : Program} {l : Launch} {e : Env} {R : Room} {s : State} {m : MethodId} {args : Array Value} {below : List Frame} {meth : Method} {c : Code} {D : va_G} {A : Nat → Prop} {nL cells slots : Nat} {Q : State → Prop}
variable {cc : ByteArray} {own : String} {tys : List (ClassId × FieldType)} {pc : Nat} {lv : List (Nat × Value)} {st : List Value} {w : va_W}
theorem Z.copyA (hX : Zf p m c cc nL s args own D tys A) (q0 q1 t0 : Nat) {a0 a : Nat} {cA : ClassId} {N index : Nat} {f g : Nat → Int64} {z : Int} (hd : decode cc pc = .ok (.invokestatic index, 3)) (ha0 : w[q0]? = some (a0, .inl (cA, N, .inr (.inl f)))) (ha1 : w[q1]? = some (a, .inl (cA, N, .inr (.inl g)))) (ht : tys[t0]? = some (cA, .long)) (hz : z = N) (hN : N < 1000) (hl : Cond.methodLink own index arraycopyName ∈ lw_g) (hfr : 1 ≤ R.frames) (hlo : (st.map fun v => v.category).sum + (nativeFrameWords "java/lang/System" "arraycopy" 5 + 11) ≤ R.locals) (k : Z p l e R s m args below meth c D A nL cells slots Q (pc + 3) lv st (w.set q1 (a, .inl (cA, N, .inr (.inl (va_cpy f g 0 0 N)))))) : Z p l e R s m args below meth c D A nL cells slots Q pc lv (.int (zI z) :: .int (zI 0) :: .ref a :: .int (zI 0) :: .ref a0 :: st) w := by
  intro H locs ls hP hD hS hv
  obtain ⟨hx, hb, hml, hown, hts, hK, hA, hN0⟩ := id hX
  subst hz
  have hc : (zI (N : Int)).toNatClampNeg = N := by rw [zI_cl (by omega) (by omega)]; rfl
  have h0 : (zI 0).toNatClampNeg = 0 := rfl
  refine va_copyl (ty := .long) hx hb (by rw [hml]; exact hv.1.symm) hown (hts _ hl) (hts _ cp_nat) (hts _ cp_st) (hts _ cp_in) hK hP hD hS q0 q1 t0 t0 ha0 ha1 ht ht rfl (by decide) (by decide) ?_ (by rw [h0, hc]; omega) (by rw [h0, hc]; omega) (fun _ _ => rfl) hfr hlo hd (fun H1 locs1 hP1 hD1 hS1 => ?_)
  · intro q
    have := (zI_lt (a := (N : Int)) (b := 0) ⟨by omega, by omega⟩ zR_0).mp q
    omega
  · rw [h0, hc] at hP1 hD1
    exact k H1 locs1 ls hP1 hD1 hS1 hv
theorem Z.mabs (hX : Zf p m c cc nL s args own D tys A) {index : Nat} {x : Int64} (hd : decode cc pc = .ok (.invokestatic index, 3)) (hl : Cond.methodLink own index Lib.MathLoose.abs_long.x ∈ lw_g) (hfr : 1 ≤ R.frames) (hlo : (st.map fun v => v.category).sum + 13 ≤ R.locals) (hc : cells ≤ R.cells) (hs : slots ≤ R.slots) (k : Z p l e R s m args below meth c D A nL cells slots Q (pc + 3) lv (.long (if 0 < x then x else -x) :: st) w) : Z p l e R s m args below meth c D A nL cells slots Q pc lv (.long x :: st) w := fun H locs ls hP hD hS hv => va_mabs_long hX.1 hX.2.1 (by rw [hX.2.2.1]; exact hv.1.symm) hX.2.2.2.1 (hX.2.2.2.2.1 _ hl) (hX.2.2.2.2.1 _ ma_st) (hX.2.2.2.2.1 _ ma_in) (hX.2.2.2.2.1 _ ma_co) hfr hlo hc hs hd (k H locs ls hP hD hS hv)
theorem Z.mmin (hX : Zf p m c cc nL s args own D tys A) {index : Nat} {a b : Int} (hd : decode cc pc = .ok (.invokestatic index, 3)) (hl : Cond.methodLink own index Lib.Math.min.name ∈ lw_g) (ha : zR a) (hb : zR b) (hfr : 1 ≤ R.frames) (hlo : (st.map fun v => v.category).sum + 13 ≤ R.locals) (hc : cells ≤ R.cells) (hs : slots ≤ R.slots) (k : Z p l e R s m args below meth c D A nL cells slots Q (pc + 3) lv (.int (zI (if b < a then b else a)) :: st) w) : Z p l e R s m args below meth c D A nL cells slots Q pc lv (.int (zI b) :: .int (zI a) :: st) w := fun H locs ls hP hD hS hv => va_mmin hX.1 hX.2.1 (by rw [hX.2.2.1]; exact hv.1.symm) hX.2.2.2.1 (hX.2.2.2.2.1 _ hl) (hX.2.2.2.2.1 _ mi_st) (hX.2.2.2.2.1 _ ma_in) (hX.2.2.2.2.1 _ mi_co) hfr hlo hc hs hd (by
    have e : (if zI b < zI a then zI b else zI a) = zI (if b < a then b else a) := by
      by_cases q : b < a
      · rw [if_pos q, if_pos ((zI_lt hb ha).mpr q)]
      · rw [if_neg q, if_neg (fun r => q ((zI_lt hb ha).mp r))]
    rw [e]
    exact k H locs ls hP hD hS hv)
end ZR7
theorem set_self {w : va_W} {q : Nat} {x : Nat × va_E} (h : w[q]? = some x) : w.set q x = w := by
  obtain ⟨hl, he⟩ := List.getElem?_eq_some_iff.mp h
  rw [← he]
  exact List.set_getElem_self hl
end
section
theorem hp_s {a b d : Nat → Int64} {z : Int} (h : ∀ k : Int, z < k → k ≤ 4 → a k.toNat = 0 ∧ b k.toNat = 0 ∧ d k.toNat = 0) (hz : a z.toNat = 0 ∧ b z.toNat = 0 ∧ d z.toNat = 0) : ∀ k : Int, z + -1 < k → k ≤ 4 → a k.toNat = 0 ∧ b k.toNat = 0 ∧ d k.toNat = 0 := by
  intro k h1 h2
  by_cases e : k = z
  · rw [e]; exact hz
  · exact h k (by omega) h2
def cntB (f : Nat → Int64) : Nat → Int
  | 0 => 0
  | k + 1 => cntB f k + (if f k = 0 then 0 else 1)
/-- the row's first t places are 0, the others as they were -/
def erI (L M : Nat → Nat → Int64) (t : Int) : Prop := ∀ q : Int, 0 ≤ q → q < 15 → M (q.toNat / 5) (q.toNat % 5) = if q < t then 0 else L (q.toNat / 5) (q.toNat % 5)
theorem erI_0 (L : Nat → Nat → Int64) : erI L L (5 * 0) := fun q h1 _ => (if_neg (by omega)).symm
theorem er_at {w i : Int} (hw : 0 ≤ w) (hi : 0 ≤ i) (hi5 : i < 5) : (5 * w + i).toNat / 5 = w.toNat ∧ (5 * w + i).toNat % 5 = i.toNat := by omega
theorem cntB_s {L M : Nat → Nat → Int64} {w i n x : Int} (hw : 0 ≤ w) (hi : 0 ≤ i) (h5 : i < 5 ∧ w < 3) (hn : n = cntB (fun q => L (q / 5) (q % 5)) (5 * w + i).toNat) (hM : erI L M (5 * w + i)) (hx : (M w.toNat i.toNat = 0 ∧ x = n) ∨ (¬ M w.toNat i.toNat = 0 ∧ x = n + 1)) : x = cntB (fun q => L (q / 5) (q % 5)) (5 * w + (i + 1)).toNat := by
  obtain ⟨e1, e2⟩ := er_at hw hi h5.1
  have h := hM (5 * w + i) (by omega) (by omega)
  rw [e1, e2, if_neg (by omega)] at h
  rw [show (5 * w + (i + 1)).toNat = (5 * w + i).toNat + 1 by omega]
  show x = cntB _ _ + (if L ((5 * w + i).toNat / 5) ((5 * w + i).toNat % 5) = 0 then 0 else 1)
  rw [e1, e2, ← h, ← hn]
  rcases hx with ⟨g1, g2⟩ | ⟨g1, g2⟩
  · rw [if_pos g1, g2, Int.add_zero]
  · rw [if_neg g1, g2]
theorem erI_z {L M : Nat → Nat → Int64} {w i : Int} (hw : 0 ≤ w) (hi : 0 ≤ i) (h5 : i < 5 ∧ w < 3) (hM : erI L M (5 * w + i)) (hz : M w.toNat i.toNat = 0) : erI L M (5 * w + (i + 1)) := by
  intro q h1 h2
  obtain ⟨e1, e2⟩ := er_at hw hi h5.1
  by_cases g : q = 5 * w + i
  · rw [if_pos (by omega), g, e1, e2, hz]
  · rw [hM q h1 h2]
    by_cases g2 : q < 5 * w + i
    · rw [if_pos g2, if_pos (by omega)]
    · rw [if_neg g2, if_neg (by omega)]
theorem erI_s {L M M2 : Nat → Nat → Int64} {w i : Int} (hw : 0 ≤ w) (hi : 0 ≤ i) (h5 : i < 5 ∧ w < 3) (hM : erI L M (5 * w + i)) (e : M2 w.toNat = vp_updL (M w.toNat) i.toNat 0) (f : ∀ j, j ≠ w.toNat → M2 j = M j) : erI L M2 (5 * w + (i + 1)) := by
  intro q h1 h2
  obtain ⟨e1, e2⟩ := er_at hw hi h5.1
  by_cases g : q = 5 * w + i
  · rw [if_pos (by omega), g, e1, e2, e]
    exact if_pos rfl
  · have h3 : M2 (q.toNat / 5) (q.toNat % 5) = M (q.toNat / 5) (q.toNat % 5) := by
      by_cases g3 : q.toNat / 5 = w.toNat
      · rw [g3, e]
        exact if_neg (by omega)
      · rw [f _ g3]
    rw [h3, hM q h1 h2]
    by_cases g2 : q < 5 * w + i
    · rw [if_pos g2, if_pos (by omega)]
    · rw [if_neg g2, if_neg (by omega)]
theorem er_f {L M M2 : Nat → Nat → Int64} {w : Int} (hw : 0 ≤ w ∧ w < 3) (f : ∀ j, j ≠ w.toNat → M2 j = M j) (h : ∀ k, k ≠ 0 → k ≠ 1 → k ≠ 2 → M k = L k) : ∀ k, k ≠ 0 → k ≠ 1 → k ≠ 2 → M2 k = L k := fun k h1 h2 h3 => (f k (by omega)).trans (h k h1 h2 h3)
theorem er_e {L M : Nat → Nat → Int64} (h : erI L M 15) : ∀ q : Int, 0 ≤ q → q < 15 → M (q.toNat / 5) (q.toNat % 5) = 0 := fun q h1 h2 => by rw [h q h1 h2, if_pos h2]
end
section
theorem dX1_swap_0 : decode cX1_swap 0 = .ok (.aload_n 0, 1) := by decide +kernel
theorem dX1_swap_1 : decode cX1_swap 1 = .ok (.getfield 9, 3) := by decide +kernel
theorem dX1_swap_4 : decode cX1_swap 4 = .ok (.iconst 0, 1) := by decide +kernel
theorem dX1_swap_5 : decode cX1_swap 5 = .ok (.aload_n 0, 1) := by decide +kernel
theorem dX1_swap_6 : decode cX1_swap 6 = .ok (.getfield 18, 3) := by decide +kernel
theorem dX1_swap_9 : decode cX1_swap 9 = .ok (.iconst 0, 1) := by decide +kernel
theorem dX1_swap_10 : decode cX1_swap 10 = .ok (.iconst 5, 1) := by decide +kernel
theorem dX1_swap_11 : decode cX1_swap 11 = .ok (.invokestatic 33, 3) := by decide +kernel
theorem dX1_swap_14 : decode cX1_swap 14 = .ok (.aload_n 0, 1) := by decide +kernel
theorem dX1_swap_15 : decode cX1_swap 15 = .ok (.getfield 15, 3) := by decide +kernel
theorem dX1_swap_18 : decode cX1_swap 18 = .ok (.iconst 0, 1) := by decide +kernel
theorem dX1_swap_19 : decode cX1_swap 19 = .ok (.aload_n 0, 1) := by decide +kernel
theorem dX1_swap_20 : decode cX1_swap 20 = .ok (.getfield 9, 3) := by decide +kernel
theorem dX1_swap_23 : decode cX1_swap 23 = .ok (.iconst 0, 1) := by decide +kernel
theorem dX1_swap_24 : decode cX1_swap 24 = .ok (.iconst 5, 1) := by decide +kernel
theorem dX1_swap_25 : decode cX1_swap 25 = .ok (.invokestatic 33, 3) := by decide +kernel
theorem dX1_swap_28 : decode cX1_swap 28 = .ok (.aload_n 0, 1) := by decide +kernel
theorem dX1_swap_29 : decode cX1_swap 29 = .ok (.getfield 18, 3) := by decide +kernel
theorem dX1_swap_32 : decode cX1_swap 32 = .ok (.iconst 0, 1) := by decide +kernel
theorem dX1_swap_33 : decode cX1_swap 33 = .ok (.aload_n 0, 1) := by decide +kernel
theorem dX1_swap_34 : decode cX1_swap 34 = .ok (.getfield 15, 3) := by decide +kernel
theorem dX1_swap_37 : decode cX1_swap 37 = .ok (.iconst 0, 1) := by decide +kernel
theorem dX1_swap_38 : decode cX1_swap 38 = .ok (.iconst 5, 1) := by decide +kernel
theorem dX1_swap_39 : decode cX1_swap 39 = .ok (.invokestatic 33, 3) := by decide +kernel
theorem dX1_swap_42 : decode cX1_swap 42 = .ok (.return_, 1) := by decide +kernel
set_option maxHeartbeats 4000000 in
set_option maxRecDepth 100000 in
theorem ct_X1_swap (l : Launch) (D : va_G) (ce : Nat → ClassId) (h pl ar : Nat → Nat) (G : Nat → Int) (L : Nat → Nat → Int64) (B : Nat → Int) (J : Nat → Nat → Int64)  : Ct l yX1_swap cX1_swap 1 none { frames := 1, cells := 0, slots := 0, locals := 40 } 0 0 D (TY ce) [.ref (h 3)] (cW ce h pl ar G L B J) (QV D (TY ce) (fun w1 => ∃ L2 : Nat → Nat → Int64, w1 = cW ce h pl ar G L2 B J ∧ (∀ k, k ≠ 6 → k ≠ 7 → k ≠ 8 → L2 k = L k))) := by
  refine Ct.ofV (by decide) (Nat.le_of_ble_eq_true rfl) ?_
  intro p e s m args below meth c A Q hX hnm hR
  refine Z.pick (lv' := [(0, .ref (h 3))]) [0] rfl ?_
  refine Z.aload_n hX dX1_swap_0 rfl rfl ?_
  refine Z.getf hX 1 3 0 dX1_swap_1 rfl rfl inX1 (by decide) fl_X1_9 rfl rfl ?_
  refine Z.iconst hX dX1_swap_4 ?_
  refine Z.aload_n hX dX1_swap_5 rfl rfl ?_
  refine Z.getf hX 1 3 2 dX1_swap_6 rfl rfl inX1 (by decide) fl_X1_18 rfl rfl ?_
  refine Z.iconst hX dX1_swap_9 ?_
  refine Z.iconst hX dX1_swap_10 ?_
  refine Z.copyA hX 11 13 1 dX1_swap_11 rfl rfl rfl rfl (by decide) ml_X1_33 (by decide) (Nat.le_of_ble_eq_true rfl) ?_
  obtain ⟨L1, eL1⟩ : ∃ J' : Nat → Nat → Int64, J' = va_up L 8 (va_cpy (L 6) (L 8) 0 0 5) := ⟨_, rfl⟩
  refine Z.toW (w' := cW ce h pl ar G L1 B J) (by rw [eL1]; rfl) ?_
  have gL1 : L1 8 = va_cpy (L 6) (L 8) 0 0 5 := by rw [eL1]; exact up_eq
  have fL1 : ∀ j_, j_ ≠ 8 → L1 j_ = L j_ := fun j_ hj_ => by rw [eL1]; exact up_ne hj_
  refine Z.aload_n hX dX1_swap_14 rfl rfl ?_
  refine Z.getf hX 1 3 1 dX1_swap_15 rfl rfl inX1 (by decide) fl_X1_15 rfl rfl ?_
  refine Z.iconst hX dX1_swap_18 ?_
  refine Z.aload_n hX dX1_swap_19 rfl rfl ?_
  refine Z.getf hX 1 3 0 dX1_swap_20 rfl rfl inX1 (by decide) fl_X1_9 rfl rfl ?_
  refine Z.iconst hX dX1_swap_23 ?_
  refine Z.iconst hX dX1_swap_24 ?_
  refine Z.copyA hX 12 11 1 dX1_swap_25 rfl rfl rfl rfl (by decide) ml_X1_33 (by decide) (Nat.le_of_ble_eq_true rfl) ?_
  obtain ⟨L2, eL2⟩ : ∃ J' : Nat → Nat → Int64, J' = va_up L1 6 (va_cpy (L1 7) (L1 6) 0 0 5) := ⟨_, rfl⟩
  refine Z.toW (w' := cW ce h pl ar G L2 B J) (by rw [eL2]; rfl) ?_
  have gL2 : L2 6 = va_cpy (L1 7) (L1 6) 0 0 5 := by rw [eL2]; exact up_eq
  have fL2 : ∀ j_, j_ ≠ 6 → L2 j_ = L1 j_ := fun j_ hj_ => by rw [eL2]; exact up_ne hj_
  refine Z.aload_n hX dX1_swap_28 rfl rfl ?_
  refine Z.getf hX 1 3 2 dX1_swap_29 rfl rfl inX1 (by decide) fl_X1_18 rfl rfl ?_
  refine Z.iconst hX dX1_swap_32 ?_
  refine Z.aload_n hX dX1_swap_33 rfl rfl ?_
  refine Z.getf hX 1 3 1 dX1_swap_34 rfl rfl inX1 (by decide) fl_X1_15 rfl rfl ?_
  refine Z.iconst hX dX1_swap_37 ?_
  refine Z.iconst hX dX1_swap_38 ?_
  refine Z.copyA hX 13 12 1 dX1_swap_39 rfl rfl rfl rfl (by decide) ml_X1_33 (by decide) (Nat.le_of_ble_eq_true rfl) ?_
  obtain ⟨L3, eL3⟩ : ∃ J' : Nat → Nat → Int64, J' = va_up L2 7 (va_cpy (L2 8) (L2 7) 0 0 5) := ⟨_, rfl⟩
  refine Z.toW (w' := cW ce h pl ar G L3 B J) (by rw [eL3]; rfl) ?_
  have gL3 : L3 7 = va_cpy (L2 8) (L2 7) 0 0 5 := by rw [eL3]; exact up_eq
  have fL3 : ∀ j_, j_ ≠ 7 → L3 j_ = L2 j_ := fun j_ hj_ => by rw [eL3]; exact up_ne hj_
  exact hR _ _ _ dX1_swap_42 ⟨L3, rfl, (fun j_ h_6 h_7 h_8 => ((fL3 j_ h_7).trans ((fL2 j_ h_6).trans ((fL1 j_ h_8).trans rfl))))⟩

theorem dX1_lowerShared_0 : decode cX1_lowerShared 0 = .ok (.aload_n 0, 1) := by decide +kernel
theorem dX1_lowerShared_1 : decode cX1_lowerShared 1 = .ok (.getfield 9, 3) := by decide +kernel
theorem dX1_lowerShared_4 : decode cX1_lowerShared 4 = .ok (.iload_n 1, 1) := by decide +kernel
theorem dX1_lowerShared_5 : decode cX1_lowerShared 5 = .ok (.laload, 1) := by decide +kernel
theorem dX1_lowerShared_6 : decode cX1_lowerShared 6 = .ok (.aload_n 0, 1) := by decide +kernel
theorem dX1_lowerShared_7 : decode cX1_lowerShared 7 = .ok (.getfield 15, 3) := by decide +kernel
theorem dX1_lowerShared_10 : decode cX1_lowerShared 10 = .ok (.iload_n 2, 1) := by decide +kernel
theorem dX1_lowerShared_11 : decode cX1_lowerShared 11 = .ok (.laload, 1) := by decide +kernel
theorem dX1_lowerShared_12 : decode cX1_lowerShared 12 = .ok (.invokestatic 60, 3) := by decide +kernel
theorem dX1_lowerShared_15 : decode cX1_lowerShared 15 = .ok (.lstore_n 3, 1) := by decide +kernel
theorem dX1_lowerShared_16 : decode cX1_lowerShared 16 = .ok (.lload_n 3, 1) := by decide +kernel
theorem dX1_lowerShared_17 : decode cX1_lowerShared 17 = .ok (.lconst 0, 1) := by decide +kernel
theorem dX1_lowerShared_18 : decode cX1_lowerShared 18 = .ok (.lcmp, 1) := by decide +kernel
theorem dX1_lowerShared_19 : decode cX1_lowerShared 19 = .ok (.ifCond .ne 4, 3) := by decide +kernel
theorem dX1_lowerShared_22 : decode cX1_lowerShared 22 = .ok (.return_, 1) := by decide +kernel
theorem dX1_lowerShared_23 : decode cX1_lowerShared 23 = .ok (.aload_n 0, 1) := by decide +kernel
theorem dX1_lowerShared_24 : decode cX1_lowerShared 24 = .ok (.getfield 15, 3) := by decide +kernel
theorem dX1_lowerShared_27 : decode cX1_lowerShared 27 = .ok (.iload_n 2, 1) := by decide +kernel
theorem dX1_lowerShared_28 : decode cX1_lowerShared 28 = .ok (.laload, 1) := by decide +kernel
theorem dX1_lowerShared_29 : decode cX1_lowerShared 29 = .ok (.lload_n 3, 1) := by decide +kernel
theorem dX1_lowerShared_30 : decode cX1_lowerShared 30 = .ok (.ldiv, 1) := by decide +kernel
theorem dX1_lowerShared_31 : decode cX1_lowerShared 31 = .ok (.lstore 5, 2) := by decide +kernel
theorem dX1_lowerShared_33 : decode cX1_lowerShared 33 = .ok (.aload_n 0, 1) := by decide +kernel
theorem dX1_lowerShared_34 : decode cX1_lowerShared 34 = .ok (.getfield 9, 3) := by decide +kernel
theorem dX1_lowerShared_37 : decode cX1_lowerShared 37 = .ok (.iload_n 1, 1) := by decide +kernel
theorem dX1_lowerShared_38 : decode cX1_lowerShared 38 = .ok (.laload, 1) := by decide +kernel
theorem dX1_lowerShared_39 : decode cX1_lowerShared 39 = .ok (.lload_n 3, 1) := by decide +kernel
theorem dX1_lowerShared_40 : decode cX1_lowerShared 40 = .ok (.ldiv, 1) := by decide +kernel
theorem dX1_lowerShared_41 : decode cX1_lowerShared 41 = .ok (.lstore 7, 2) := by decide +kernel
theorem dX1_lowerShared_43 : decode cX1_lowerShared 43 = .ok (.iload_n 1, 1) := by decide +kernel
theorem dX1_lowerShared_44 : decode cX1_lowerShared 44 = .ok (.iload_n 2, 1) := by decide +kernel
theorem dX1_lowerShared_45 : decode cX1_lowerShared 45 = .ok (.isub, 1) := by decide +kernel
theorem dX1_lowerShared_46 : decode cX1_lowerShared 46 = .ok (.istore 9, 2) := by decide +kernel
theorem dX1_lowerShared_48 : decode cX1_lowerShared 48 = .ok (.iconst 0, 1) := by decide +kernel
theorem dX1_lowerShared_49 : decode cX1_lowerShared 49 = .ok (.istore 10, 2) := by decide +kernel
theorem dX1_lowerShared_51 : decode cX1_lowerShared 51 = .ok (.iload 10, 2) := by decide +kernel
theorem dX1_lowerShared_53 : decode cX1_lowerShared 53 = .ok (.iload_n 1, 1) := by decide +kernel
theorem dX1_lowerShared_54 : decode cX1_lowerShared 54 = .ok (.if_icmp .gt 55, 3) := by decide +kernel
theorem dX1_lowerShared_57 : decode cX1_lowerShared 57 = .ok (.iload 10, 2) := by decide +kernel
theorem dX1_lowerShared_59 : decode cX1_lowerShared 59 = .ok (.iload 9, 2) := by decide +kernel
theorem dX1_lowerShared_61 : decode cX1_lowerShared 61 = .ok (.if_icmp .ge 7, 3) := by decide +kernel
theorem dX1_lowerShared_64 : decode cX1_lowerShared 64 = .ok (.lconst 0, 1) := by decide +kernel
theorem dX1_lowerShared_65 : decode cX1_lowerShared 65 = .ok (.goto 16, 3) := by decide +kernel
theorem dX1_lowerShared_68 : decode cX1_lowerShared 68 = .ok (.lload 7, 2) := by decide +kernel
theorem dX1_lowerShared_70 : decode cX1_lowerShared 70 = .ok (.aload_n 0, 1) := by decide +kernel
theorem dX1_lowerShared_71 : decode cX1_lowerShared 71 = .ok (.getfield 15, 3) := by decide +kernel
theorem dX1_lowerShared_74 : decode cX1_lowerShared 74 = .ok (.iload 10, 2) := by decide +kernel
theorem dX1_lowerShared_76 : decode cX1_lowerShared 76 = .ok (.iload 9, 2) := by decide +kernel
theorem dX1_lowerShared_78 : decode cX1_lowerShared 78 = .ok (.isub, 1) := by decide +kernel
theorem dX1_lowerShared_79 : decode cX1_lowerShared 79 = .ok (.laload, 1) := by decide +kernel
theorem dX1_lowerShared_80 : decode cX1_lowerShared 80 = .ok (.lmul, 1) := by decide +kernel
theorem dX1_lowerShared_81 : decode cX1_lowerShared 81 = .ok (.lstore 11, 2) := by decide +kernel
theorem dX1_lowerShared_83 : decode cX1_lowerShared 83 = .ok (.aload_n 0, 1) := by decide +kernel
theorem dX1_lowerShared_84 : decode cX1_lowerShared 84 = .ok (.getfield 9, 3) := by decide +kernel
theorem dX1_lowerShared_87 : decode cX1_lowerShared 87 = .ok (.iload 10, 2) := by decide +kernel
theorem dX1_lowerShared_89 : decode cX1_lowerShared 89 = .ok (.lload 5, 2) := by decide +kernel
theorem dX1_lowerShared_91 : decode cX1_lowerShared 91 = .ok (.aload_n 0, 1) := by decide +kernel
theorem dX1_lowerShared_92 : decode cX1_lowerShared 92 = .ok (.getfield 9, 3) := by decide +kernel
theorem dX1_lowerShared_95 : decode cX1_lowerShared 95 = .ok (.iload 10, 2) := by decide +kernel
theorem dX1_lowerShared_97 : decode cX1_lowerShared 97 = .ok (.laload, 1) := by decide +kernel
theorem dX1_lowerShared_98 : decode cX1_lowerShared 98 = .ok (.lmul, 1) := by decide +kernel
theorem dX1_lowerShared_99 : decode cX1_lowerShared 99 = .ok (.lload 11, 2) := by decide +kernel
theorem dX1_lowerShared_101 : decode cX1_lowerShared 101 = .ok (.lsub, 1) := by decide +kernel
theorem dX1_lowerShared_102 : decode cX1_lowerShared 102 = .ok (.lastore, 1) := by decide +kernel
theorem dX1_lowerShared_103 : decode cX1_lowerShared 103 = .ok (.iinc 10 1, 3) := by decide +kernel
theorem dX1_lowerShared_106 : decode cX1_lowerShared 106 = .ok (.goto (-55), 3) := by decide +kernel
theorem dX1_lowerShared_109 : decode cX1_lowerShared 109 = .ok (.return_, 1) := by decide +kernel
set_option maxHeartbeats 4000000 in
set_option maxRecDepth 100000 in
theorem ct_X1_lowerShared (l : Launch) (D : va_G) (ce : Nat → ClassId) (h pl ar : Nat → Nat) (G : Nat → Int) (L : Nat → Nat → Int64) (B : Nat → Int) (J : Nat → Nat → Int64) (st_ ot : Int) (hs : 0 ≤ ot ∧ ot ≤ st_ ∧ st_ ≤ 4) : Ct l yX1_lowerShared cX1_lowerShared 13 none { frames := 1, cells := 0, slots := 0, locals := 30 } 0 0 D (TY ce) [.ref (h 3), .int (zI st_), .int (zI ot)] (cW ce h pl ar G L B J) (QV D (TY ce) (fun w1 => ∃ L2 : Nat → Nat → Int64, w1 = cW ce h pl ar G L2 B J ∧ (∀ k, k ≠ 6 → L2 k = L k))) := by
  refine Ct.ofV (by decide) (Nat.le_of_ble_eq_true rfl) ?_
  intro p e s m args below meth c A Q hX hnm hR
  refine Z.pick (lv' := [(0, .ref (h 3)), (1, .int (zI st_)), (2, .int (zI ot))]) [0, 1, 2] rfl ?_
  refine Z.aload_n hX dX1_lowerShared_0 rfl rfl ?_
  refine Z.getf hX 1 3 0 dX1_lowerShared_1 rfl rfl inX1 (by decide) fl_X1_9 rfl rfl ?_
  refine Z.iload_n hX dX1_lowerShared_4 rfl rfl ?_
  refine Z.laload hX 11 1 dX1_lowerShared_5 rfl rfl (by omega) (by omega) (by decide) ?_
  refine Z.aload_n hX dX1_lowerShared_6 rfl rfl ?_
  refine Z.getf hX 1 3 1 dX1_lowerShared_7 rfl rfl inX1 (by decide) fl_X1_15 rfl rfl ?_
  refine Z.iload_n hX dX1_lowerShared_10 rfl rfl ?_
  refine Z.laload hX 12 1 dX1_lowerShared_11 rfl rfl (by omega) (by omega) (by decide) ?_
  refine Z.callSNl (As := [.long (L 6 (st_ : Int).toNat), .long (L 7 (ot : Int).toNat)]) (rest := []) hX (ct_X6_commonOf l D ce (L 6 (st_ : Int).toNat) (L 7 (ot : Int).toNat) ) mc_X6_commonOf ns_X1_60 st_X6_commonOf ini_X6 nd_X6_commonOf ⟨Nat.le_of_ble_eq_true rfl, Nat.le_of_ble_eq_true rfl⟩ ⟨rfl, rfl⟩ ⟨Nat.le_refl _, Nat.le_refl _⟩ rfl (Nat.le_of_ble_eq_true rfl) dX1_lowerShared_12 ?_
  rintro cm w1 ⟨r02, hr_, hw_, hq3⟩
  subst hr_
  refine ⟨hw_, ?_⟩
  refine Z.lstore_n (lv' := [(3, .long cm), (0, .ref (h 3)), (1, .int (zI st_)), (2, .int (zI ot))]) hX dX1_lowerShared_15 rfl (by decide) rfl ?_
  refine Z.lload_n hX dX1_lowerShared_16 rfl rfl ?_
  refine Z.lconst (v := 0) hX dX1_lowerShared_17 rfl ?_
  refine Z.lcmp_ne hX 23 dX1_lowerShared_18 dX1_lowerShared_19 (by decide) ?_ ?_
  · intro c4
    refine Z.aload_n hX dX1_lowerShared_23 rfl rfl ?_
    refine Z.getf hX 1 3 1 dX1_lowerShared_24 rfl rfl inX1 (by decide) fl_X1_15 rfl rfl ?_
    refine Z.iload_n hX dX1_lowerShared_27 rfl rfl ?_
    refine Z.laload hX 12 1 dX1_lowerShared_28 rfl rfl (by omega) (by omega) (by decide) ?_
    refine Z.lload_n hX dX1_lowerShared_29 rfl rfl ?_
    refine Z.ldiv hX dX1_lowerShared_30 (by assumption) ?_
    refine Z.lstore (lv' := [(5, .long ((L 7 (ot : Int).toNat) / cm)), (3, .long cm), (0, .ref (h 3)), (1, .int (zI st_)), (2, .int (zI ot))]) hX dX1_lowerShared_31 (by decide) rfl ?_
    obtain ⟨sf, esf⟩ : ∃ x : Int64, x = (L 7 (ot : Int).toNat) / cm := ⟨_, rfl⟩
    rw [← esf]
    refine Z.aload_n hX dX1_lowerShared_33 rfl rfl ?_
    refine Z.getf hX 1 3 0 dX1_lowerShared_34 rfl rfl inX1 (by decide) fl_X1_9 rfl rfl ?_
    refine Z.iload_n hX dX1_lowerShared_37 rfl rfl ?_
    refine Z.laload hX 11 1 dX1_lowerShared_38 rfl rfl (by omega) (by omega) (by decide) ?_
    refine Z.lload_n hX dX1_lowerShared_39 rfl rfl ?_
    refine Z.ldiv hX dX1_lowerShared_40 (by assumption) ?_
    refine Z.lstore (lv' := [(7, .long ((L 6 (st_ : Int).toNat) / cm)), (5, .long sf), (3, .long cm), (0, .ref (h 3)), (1, .int (zI st_)), (2, .int (zI ot))]) hX dX1_lowerShared_41 (by decide) rfl ?_
    obtain ⟨of, eof⟩ : ∃ x : Int64, x = (L 6 (st_ : Int).toNat) / cm := ⟨_, rfl⟩
    rw [← eof]
    refine Z.iload_n hX dX1_lowerShared_43 rfl rfl ?_
    refine Z.iload_n hX dX1_lowerShared_44 rfl rfl ?_
    refine Z.isub hX dX1_lowerShared_45 ?_
    refine Z.istore (lv' := [(9, .int (zI (st_ - ot))), (7, .long of), (5, .long sf), (3, .long cm), (0, .ref (h 3)), (1, .int (zI st_)), (2, .int (zI ot))]) hX dX1_lowerShared_46 (by decide) rfl ?_
    refine Z.iconst hX dX1_lowerShared_48 ?_
    refine Z.istore (lv' := [(10, .int (zI 0)), (9, .int (zI (st_ - ot))), (7, .long of), (5, .long sf), (3, .long cm), (0, .ref (h 3)), (1, .int (zI st_)), (2, .int (zI ot))]) hX dX1_lowerShared_49 (by decide) rfl ?_
    have key_51 : ∀ (N : Nat), ∀ (i : Int) (M : Nat → Nat → Int64), (st_ + 1 - i).toNat < N → (hi : 0 ≤ i ∧ i ≤ st_ + 1) → (hM : ∀ k, k ≠ 6 → M k = L k) → Z p l e { frames := 1, cells := 0, slots := 0, locals := 30 } s m args below meth c D A 13 0 0 Q 51 [(10, .int (zI i)), (9, .int (zI (st_ - ot))), (7, .long of), (5, .long sf), (2, .int (zI ot)), (1, .int (zI st_)), (0, .ref (h 3))] [] (cW ce h pl ar G M B J) := by
      intro N
      induction N with
      | zero => intro i M hm; exact absurd hm (Nat.not_lt_zero _)
      | succ N ih_51 =>
        intro i M hm hi hM
        refine Z.iload hX dX1_lowerShared_51 rfl ?_
        refine Z.iload_n hX dX1_lowerShared_53 rfl rfl ?_
        refine Z.icmp_gt hX 109 dX1_lowerShared_54 (by decide) ⟨by omega, by omega⟩ ⟨by omega, by omega⟩ ?_ ?_
        · intro c5
          exact hR _ _ _ dX1_lowerShared_109 ⟨M, rfl, hM⟩
        · intro c5
          refine Z.iload hX dX1_lowerShared_57 rfl ?_
          refine Z.iload hX dX1_lowerShared_59 rfl ?_
          refine Z.icmp_ge hX 68 dX1_lowerShared_61 (by decide) ⟨by omega, by omega⟩ ⟨by omega, by omega⟩ ?_ ?_
          · intro c6
            refine Z.lload hX dX1_lowerShared_68 rfl ?_
            refine Z.aload_n hX dX1_lowerShared_70 rfl rfl ?_
            refine Z.getf hX 1 3 1 dX1_lowerShared_71 rfl rfl inX1 (by decide) fl_X1_15 rfl rfl ?_
            refine Z.iload hX dX1_lowerShared_74 rfl ?_
            refine Z.iload hX dX1_lowerShared_76 rfl ?_
            refine Z.isub hX dX1_lowerShared_78 ?_
            refine Z.laload hX 12 1 dX1_lowerShared_79 rfl rfl (by omega) (by omega) (by decide) ?_
            refine Z.lmul hX dX1_lowerShared_80 ?_
            refine Z.lstore (lv' := [(11, .long (of * (M 7 (i - (st_ - ot) : Int).toNat))), (10, .int (zI i)), (9, .int (zI (st_ - ot))), (7, .long of), (5, .long sf), (2, .int (zI ot)), (1, .int (zI st_)), (0, .ref (h 3))]) hX dX1_lowerShared_81 (by decide) rfl ?_
            refine Z.aload_n hX dX1_lowerShared_83 rfl rfl ?_
            refine Z.getf hX 1 3 0 dX1_lowerShared_84 rfl rfl inX1 (by decide) fl_X1_9 rfl rfl ?_
            refine Z.iload hX dX1_lowerShared_87 rfl ?_
            refine Z.lload hX dX1_lowerShared_89 rfl ?_
            refine Z.aload_n hX dX1_lowerShared_91 rfl rfl ?_
            refine Z.getf hX 1 3 0 dX1_lowerShared_92 rfl rfl inX1 (by decide) fl_X1_9 rfl rfl ?_
            refine Z.iload hX dX1_lowerShared_95 rfl ?_
            refine Z.laload hX 11 1 dX1_lowerShared_97 rfl rfl (by omega) (by omega) (by decide) ?_
            refine Z.lmul hX dX1_lowerShared_98 ?_
            refine Z.lload hX dX1_lowerShared_99 rfl ?_
            refine Z.lsub hX dX1_lowerShared_101 ?_
            refine Z.lastore hX 11 1 dX1_lowerShared_102 rfl rfl (by omega) (by omega) (by decide) ?_
            obtain ⟨L7, eL7⟩ : ∃ J' : Nat → Nat → Int64, J' = va_up M 6 (vp_updL (M 6) (i : Int).toNat ((sf * (M 6 (i : Int).toNat)) - (of * (M 7 (i - (st_ - ot) : Int).toNat)))) := ⟨_, rfl⟩
            refine Z.toW (w' := cW ce h pl ar G L7 B J) (by rw [eL7]; rfl) ?_
            have gL7 : L7 6 = vp_updL (M 6) (i : Int).toNat ((sf * (M 6 (i : Int).toNat)) - (of * (M 7 (i - (st_ - ot) : Int).toNat))) := by rw [eL7]; exact up_eq
            have fL7 : ∀ j_, j_ ≠ 6 → L7 j_ = M j_ := fun j_ hj_ => by rw [eL7]; exact up_ne hj_
            refine Z.iinc (lv' := [(10, .int (zI (i + 1))), (11, .long (of * (M 7 (i - (st_ - ot) : Int).toNat))), (9, .int (zI (st_ - ot))), (7, .long of), (5, .long sf), (2, .int (zI ot)), (1, .int (zI st_)), (0, .ref (h 3))]) hX dX1_lowerShared_103 rfl (by decide) rfl ?_
            refine Z.goto hX 51 dX1_lowerShared_106 (by decide) ?_
            refine Z.pick [0, 2, 3, 4, 5, 6, 7] rfl ?_
            exact ih_51 _ _ (by omega) (by omega) (fun j_ h_6 => ((fL7 j_ h_6).trans (hM j_ h_6)))
          · intro c6
            refine Z.lconst (v := 0) hX dX1_lowerShared_64 rfl ?_
            refine Z.goto hX 81 dX1_lowerShared_65 (by decide) ?_
            refine Z.lstore (lv' := [(11, .long 0), (10, .int (zI i)), (9, .int (zI (st_ - ot))), (7, .long of), (5, .long sf), (2, .int (zI ot)), (1, .int (zI st_)), (0, .ref (h 3))]) hX dX1_lowerShared_81 (by decide) rfl ?_
            refine Z.aload_n hX dX1_lowerShared_83 rfl rfl ?_
            refine Z.getf hX 1 3 0 dX1_lowerShared_84 rfl rfl inX1 (by decide) fl_X1_9 rfl rfl ?_
            refine Z.iload hX dX1_lowerShared_87 rfl ?_
            refine Z.lload hX dX1_lowerShared_89 rfl ?_
            refine Z.aload_n hX dX1_lowerShared_91 rfl rfl ?_
            refine Z.getf hX 1 3 0 dX1_lowerShared_92 rfl rfl inX1 (by decide) fl_X1_9 rfl rfl ?_
            refine Z.iload hX dX1_lowerShared_95 rfl ?_
            refine Z.laload hX 11 1 dX1_lowerShared_97 rfl rfl (by omega) (by omega) (by decide) ?_
            refine Z.lmul hX dX1_lowerShared_98 ?_
            refine Z.lload hX dX1_lowerShared_99 rfl ?_
            refine Z.lsub hX dX1_lowerShared_101 ?_
            refine Z.lastore hX 11 1 dX1_lowerShared_102 rfl rfl (by omega) (by omega) (by decide) ?_
            obtain ⟨L8, eL8⟩ : ∃ J' : Nat → Nat → Int64, J' = va_up M 6 (vp_updL (M 6) (i : Int).toNat ((sf * (M 6 (i : Int).toNat)) - 0)) := ⟨_, rfl⟩
            refine Z.toW (w' := cW ce h pl ar G L8 B J) (by rw [eL8]; rfl) ?_
            have gL8 : L8 6 = vp_updL (M 6) (i : Int).toNat ((sf * (M 6 (i : Int).toNat)) - 0) := by rw [eL8]; exact up_eq
            have fL8 : ∀ j_, j_ ≠ 6 → L8 j_ = M j_ := fun j_ hj_ => by rw [eL8]; exact up_ne hj_
            refine Z.iinc (lv' := [(10, .int (zI (i + 1))), (11, .long 0), (9, .int (zI (st_ - ot))), (7, .long of), (5, .long sf), (2, .int (zI ot)), (1, .int (zI st_)), (0, .ref (h 3))]) hX dX1_lowerShared_103 rfl (by decide) rfl ?_
            refine Z.goto hX 51 dX1_lowerShared_106 (by decide) ?_
            refine Z.pick [0, 2, 3, 4, 5, 6, 7] rfl ?_
            exact ih_51 _ _ (by omega) (by omega) (fun j_ h_6 => ((fL8 j_ h_6).trans (hM j_ h_6)))
    refine Z.pick [0, 1, 2, 3, 7, 6, 5] rfl ?_
    exact key_51 _ _ _ (Nat.lt_succ_self _) (by omega) (fun _ _ => rfl)
  · intro c4
    exact hR _ _ _ dX1_lowerShared_22 ⟨L, rfl, (fun _ _ => rfl)⟩

theorem dX1_makePrimitive_0 : decode cX1_makePrimitive 0 = .ok (.aload_n 1, 1) := by decide +kernel
theorem dX1_makePrimitive_1 : decode cX1_makePrimitive 1 = .ok (.invokestatic 46, 3) := by decide +kernel
theorem dX1_makePrimitive_4 : decode cX1_makePrimitive 4 = .ok (.istore_n 2, 1) := by decide +kernel
theorem dX1_makePrimitive_5 : decode cX1_makePrimitive 5 = .ok (.iload_n 2, 1) := by decide +kernel
theorem dX1_makePrimitive_6 : decode cX1_makePrimitive 6 = .ok (.ifCond .ge 4, 3) := by decide +kernel
theorem dX1_makePrimitive_9 : decode cX1_makePrimitive 9 = .ok (.return_, 1) := by decide +kernel
theorem dX1_makePrimitive_10 : decode cX1_makePrimitive 10 = .ok (.lconst 0, 1) := by decide +kernel
theorem dX1_makePrimitive_11 : decode cX1_makePrimitive 11 = .ok (.lstore_n 3, 1) := by decide +kernel
theorem dX1_makePrimitive_12 : decode cX1_makePrimitive 12 = .ok (.iconst 0, 1) := by decide +kernel
theorem dX1_makePrimitive_13 : decode cX1_makePrimitive 13 = .ok (.istore 5, 2) := by decide +kernel
theorem dX1_makePrimitive_15 : decode cX1_makePrimitive 15 = .ok (.iload 5, 2) := by decide +kernel
theorem dX1_makePrimitive_17 : decode cX1_makePrimitive 17 = .ok (.iload_n 2, 1) := by decide +kernel
theorem dX1_makePrimitive_18 : decode cX1_makePrimitive 18 = .ok (.if_icmp .gt 18, 3) := by decide +kernel
theorem dX1_makePrimitive_21 : decode cX1_makePrimitive 21 = .ok (.lload_n 3, 1) := by decide +kernel
theorem dX1_makePrimitive_22 : decode cX1_makePrimitive 22 = .ok (.aload_n 1, 1) := by decide +kernel
theorem dX1_makePrimitive_23 : decode cX1_makePrimitive 23 = .ok (.iload 5, 2) := by decide +kernel
theorem dX1_makePrimitive_25 : decode cX1_makePrimitive 25 = .ok (.laload, 1) := by decide +kernel
theorem dX1_makePrimitive_26 : decode cX1_makePrimitive 26 = .ok (.invokestatic 60, 3) := by decide +kernel
theorem dX1_makePrimitive_29 : decode cX1_makePrimitive 29 = .ok (.lstore_n 3, 1) := by decide +kernel
theorem dX1_makePrimitive_30 : decode cX1_makePrimitive 30 = .ok (.iinc 5 1, 3) := by decide +kernel
theorem dX1_makePrimitive_33 : decode cX1_makePrimitive 33 = .ok (.goto (-18), 3) := by decide +kernel
theorem dX1_makePrimitive_36 : decode cX1_makePrimitive 36 = .ok (.lload_n 3, 1) := by decide +kernel
theorem dX1_makePrimitive_37 : decode cX1_makePrimitive 37 = .ok (.lconst 0, 1) := by decide +kernel
theorem dX1_makePrimitive_38 : decode cX1_makePrimitive 38 = .ok (.lcmp, 1) := by decide +kernel
theorem dX1_makePrimitive_39 : decode cX1_makePrimitive 39 = .ok (.ifCond .ne 4, 3) := by decide +kernel
theorem dX1_makePrimitive_42 : decode cX1_makePrimitive 42 = .ok (.return_, 1) := by decide +kernel
theorem dX1_makePrimitive_43 : decode cX1_makePrimitive 43 = .ok (.aload_n 1, 1) := by decide +kernel
theorem dX1_makePrimitive_44 : decode cX1_makePrimitive 44 = .ok (.iload_n 2, 1) := by decide +kernel
theorem dX1_makePrimitive_45 : decode cX1_makePrimitive 45 = .ok (.laload, 1) := by decide +kernel
theorem dX1_makePrimitive_46 : decode cX1_makePrimitive 46 = .ok (.lconst 0, 1) := by decide +kernel
theorem dX1_makePrimitive_47 : decode cX1_makePrimitive 47 = .ok (.lcmp, 1) := by decide +kernel
theorem dX1_makePrimitive_48 : decode cX1_makePrimitive 48 = .ok (.ifCond .ge 6, 3) := by decide +kernel
theorem dX1_makePrimitive_51 : decode cX1_makePrimitive 51 = .ok (.lload_n 3, 1) := by decide +kernel
theorem dX1_makePrimitive_52 : decode cX1_makePrimitive 52 = .ok (.lneg, 1) := by decide +kernel
theorem dX1_makePrimitive_53 : decode cX1_makePrimitive 53 = .ok (.lstore_n 3, 1) := by decide +kernel
theorem dX1_makePrimitive_54 : decode cX1_makePrimitive 54 = .ok (.iconst 0, 1) := by decide +kernel
theorem dX1_makePrimitive_55 : decode cX1_makePrimitive 55 = .ok (.istore 5, 2) := by decide +kernel
theorem dX1_makePrimitive_57 : decode cX1_makePrimitive 57 = .ok (.iload 5, 2) := by decide +kernel
theorem dX1_makePrimitive_59 : decode cX1_makePrimitive 59 = .ok (.iload_n 2, 1) := by decide +kernel
theorem dX1_makePrimitive_60 : decode cX1_makePrimitive 60 = .ok (.if_icmp .gt 17, 3) := by decide +kernel
theorem dX1_makePrimitive_63 : decode cX1_makePrimitive 63 = .ok (.aload_n 1, 1) := by decide +kernel
theorem dX1_makePrimitive_64 : decode cX1_makePrimitive 64 = .ok (.iload 5, 2) := by decide +kernel
theorem dX1_makePrimitive_66 : decode cX1_makePrimitive 66 = .ok (.dup2, 1) := by decide +kernel
theorem dX1_makePrimitive_67 : decode cX1_makePrimitive 67 = .ok (.laload, 1) := by decide +kernel
theorem dX1_makePrimitive_68 : decode cX1_makePrimitive 68 = .ok (.lload_n 3, 1) := by decide +kernel
theorem dX1_makePrimitive_69 : decode cX1_makePrimitive 69 = .ok (.ldiv, 1) := by decide +kernel
theorem dX1_makePrimitive_70 : decode cX1_makePrimitive 70 = .ok (.lastore, 1) := by decide +kernel
theorem dX1_makePrimitive_71 : decode cX1_makePrimitive 71 = .ok (.iinc 5 1, 3) := by decide +kernel
theorem dX1_makePrimitive_74 : decode cX1_makePrimitive 74 = .ok (.goto (-17), 3) := by decide +kernel
theorem dX1_makePrimitive_77 : decode cX1_makePrimitive 77 = .ok (.return_, 1) := by decide +kernel
set_option maxHeartbeats 4000000 in
set_option maxRecDepth 100000 in
theorem ct_X1_makePrimitive (l : Launch) (D : va_G) (ce : Nat → ClassId) (h pl ar : Nat → Nat) (G : Nat → Int) (L : Nat → Nat → Int64) (B : Nat → Int) (J : Nat → Nat → Int64)  : Ct l yX1_makePrimitive cX1_makePrimitive 6 none { frames := 1, cells := 0, slots := 0, locals := 30 } 0 0 D (TY ce) [.ref (h 3), .ref (h 11)] (cW ce h pl ar G L B J) (QV D (TY ce) (fun w1 => ∃ L2 : Nat → Nat → Int64, w1 = cW ce h pl ar G L2 B J ∧ (∀ k, k ≠ 6 → L2 k = L k))) := by
  refine Ct.ofV (by decide) (Nat.le_of_ble_eq_true rfl) ?_
  intro p e s m args below meth c A Q hX hnm hR
  refine Z.pick (lv' := [(0, .ref (h 3)), (1, .ref (h 11))]) [0, 1] rfl ?_
  refine Z.aload_n hX dX1_makePrimitive_0 rfl rfl ?_
  refine Z.callS1i (As := [.ref (h 11)]) (rest := []) hX 11 rfl (ct_X5_topOf l D ce ((h 11)) (L 6) ) mc_X5_topOf ml_X1_46 st_X5_topOf ini_X5 nd_X5_topOf ⟨Nat.le_of_ble_eq_true rfl, Nat.le_of_ble_eq_true rfl⟩ ⟨rfl, rfl⟩ ⟨Nat.le_refl _, Nat.le_refl _⟩ rfl (Nat.le_of_ble_eq_true rfl) dX1_makePrimitive_1 ?_
  rintro r_1 w1 ⟨tp, hr_, hw_, t1, t2, t3⟩
  subst hr_
  refine ⟨_, hw_, ?_⟩
  refine Z.toW (w' := cW ce h pl ar G L B J) (set_self rfl) ?_
  refine Z.istore_n (lv' := [(2, .int (zI tp)), (0, .ref (h 3)), (1, .ref (h 11))]) hX dX1_makePrimitive_4 rfl (by decide) rfl ?_
  refine Z.iload_n hX dX1_makePrimitive_5 rfl rfl ?_
  refine Z.if_ge hX 10 dX1_makePrimitive_6 (by decide) ⟨by omega, by omega⟩ ?_ ?_
  · intro c2
    refine Z.lconst (v := 0) hX dX1_makePrimitive_10 rfl ?_
    refine Z.lstore_n (lv' := [(3, .long 0), (2, .int (zI tp)), (0, .ref (h 3)), (1, .ref (h 11))]) hX dX1_makePrimitive_11 rfl (by decide) rfl ?_
    refine Z.iconst hX dX1_makePrimitive_12 ?_
    refine Z.istore (lv' := [(5, .int (zI 0)), (3, .long 0), (2, .int (zI tp)), (0, .ref (h 3)), (1, .ref (h 11))]) hX dX1_makePrimitive_13 (by decide) rfl ?_
    have key_15 : ∀ (N : Nat), ∀ (i : Int) (x : Int64), (tp + 1 - i).toNat < N → (hi : 0 ≤ i ∧ i ≤ tp + 1) → Z p l e { frames := 1, cells := 0, slots := 0, locals := 30 } s m args below meth c D A 6 0 0 Q 15 [(5, .int (zI i)), (3, .long x), (2, .int (zI tp)), (1, .ref (h 11)), (0, .ref (h 3))] [] (cW ce h pl ar G L B J) := by
      intro N
      induction N with
      | zero => intro i x hm; exact absurd hm (Nat.not_lt_zero _)
      | succ N ih_15 =>
        intro i x hm hi
        refine Z.iload hX dX1_makePrimitive_15 rfl ?_
        refine Z.iload_n hX dX1_makePrimitive_17 rfl rfl ?_
        refine Z.icmp_gt hX 36 dX1_makePrimitive_18 (by decide) ⟨by omega, by omega⟩ ⟨by omega, by omega⟩ ?_ ?_
        · intro c3
          refine Z.lload_n hX dX1_makePrimitive_36 rfl rfl ?_
          refine Z.lconst (v := 0) hX dX1_makePrimitive_37 rfl ?_
          refine Z.lcmp_ne hX 43 dX1_makePrimitive_38 dX1_makePrimitive_39 (by decide) ?_ ?_
          · intro c4
            have key_54 : ∀ (y : Int64), (hy0 : ¬ y = 0) → Z p l e { frames := 1, cells := 0, slots := 0, locals := 30 } s m args below meth c D A 6 0 0 Q 54 [(3, .long y), (2, .int (zI tp)), (1, .ref (h 11)), (0, .ref (h 3))] [] (cW ce h pl ar G L B J) := by
              intro y hy0
              refine Z.iconst hX dX1_makePrimitive_54 ?_
              refine Z.istore (lv' := [(5, .int (zI 0)), (3, .long y), (2, .int (zI tp)), (1, .ref (h 11)), (0, .ref (h 3))]) hX dX1_makePrimitive_55 (by decide) rfl ?_
              have key_57 : ∀ (N : Nat), ∀ (i : Int) (M : Nat → Nat → Int64), (tp + 1 - i).toNat < N → (hi2 : 0 ≤ i ∧ i ≤ tp + 1) → (hM : ∀ k, k ≠ 6 → M k = L k) → Z p l e { frames := 1, cells := 0, slots := 0, locals := 30 } s m args below meth c D A 6 0 0 Q 57 [(5, .int (zI i)), (3, .long y), (2, .int (zI tp)), (1, .ref (h 11)), (0, .ref (h 3))] [] (cW ce h pl ar G M B J) := by
                intro N
                induction N with
                | zero => intro i M hm; exact absurd hm (Nat.not_lt_zero _)
                | succ N ih_57 =>
                  intro i M hm hi2 hM
                  refine Z.iload hX dX1_makePrimitive_57 rfl ?_
                  refine Z.iload_n hX dX1_makePrimitive_59 rfl rfl ?_
                  refine Z.icmp_gt hX 77 dX1_makePrimitive_60 (by decide) ⟨by omega, by omega⟩ ⟨by omega, by omega⟩ ?_ ?_
                  · intro c5
                    exact hR _ _ _ dX1_makePrimitive_77 ⟨M, rfl, hM⟩
                  · intro c5
                    refine Z.aload_n hX dX1_makePrimitive_63 rfl rfl ?_
                    refine Z.iload hX dX1_makePrimitive_64 rfl ?_
                    refine Z.dup2 hX dX1_makePrimitive_66 rfl rfl ?_
                    refine Z.laload hX 11 1 dX1_makePrimitive_67 rfl rfl (by omega) (by omega) (by decide) ?_
                    refine Z.lload_n hX dX1_makePrimitive_68 rfl rfl ?_
                    refine Z.ldiv hX dX1_makePrimitive_69 hy0 ?_
                    refine Z.lastore hX 11 1 dX1_makePrimitive_70 rfl rfl (by omega) (by omega) (by decide) ?_
                    obtain ⟨L6, eL6⟩ : ∃ J' : Nat → Nat → Int64, J' = va_up M 6 (vp_updL (M 6) (i : Int).toNat ((M 6 (i : Int).toNat) / y)) := ⟨_, rfl⟩
                    refine Z.toW (w' := cW ce h pl ar G L6 B J) (by rw [eL6]; rfl) ?_
                    have gL6 : L6 6 = vp_updL (M 6) (i : Int).toNat ((M 6 (i : Int).toNat) / y) := by rw [eL6]; exact up_eq
                    have fL6 : ∀ j_, j_ ≠ 6 → L6 j_ = M j_ := fun j_ hj_ => by rw [eL6]; exact up_ne hj_
                    refine Z.iinc (lv' := [(5, .int (zI (i + 1))), (3, .long y), (2, .int (zI tp)), (1, .ref (h 11)), (0, .ref (h 3))]) hX dX1_makePrimitive_71 rfl (by decide) rfl ?_
                    refine Z.goto hX 57 dX1_makePrimitive_74 (by decide) ?_
                    refine Z.pick [0, 1, 2, 3, 4] rfl ?_
                    exact ih_57 _ _ (by omega) (by omega) (fun j_ h_6 => ((fL6 j_ h_6).trans (hM j_ h_6)))
              refine Z.pick [0, 1, 2, 3, 4] rfl ?_
              exact key_57 _ _ _ (Nat.lt_succ_self _) (by omega) (fun _ _ => rfl)
            refine Z.aload_n hX dX1_makePrimitive_43 rfl rfl ?_
            refine Z.iload_n hX dX1_makePrimitive_44 rfl rfl ?_
            refine Z.laload hX 11 1 dX1_makePrimitive_45 rfl rfl (by omega) (by omega) (by decide) ?_
            refine Z.lconst (v := 0) hX dX1_makePrimitive_46 rfl ?_
            refine Z.lcmp_ge hX 54 dX1_makePrimitive_47 dX1_makePrimitive_48 (by decide) ?_ ?_
            · intro c7
              refine Z.pick [1, 2, 3, 4] rfl ?_
              exact key_54 _ (by omega)
            · intro c7
              refine Z.lload_n hX dX1_makePrimitive_51 rfl rfl ?_
              refine Z.lneg hX dX1_makePrimitive_52 ?_
              refine Z.lstore_n (lv' := [(3, .long (-x)), (5, .int (zI i)), (2, .int (zI tp)), (1, .ref (h 11)), (0, .ref (h 3))]) hX dX1_makePrimitive_53 rfl (by decide) rfl ?_
              refine Z.pick [0, 2, 3, 4] rfl ?_
              exact key_54 _ (tl_n (by assumption))
          · intro c4
            exact hR _ _ _ dX1_makePrimitive_42 ⟨L, rfl, (fun _ _ => rfl)⟩
        · intro c3
          refine Z.lload_n hX dX1_makePrimitive_21 rfl rfl ?_
          refine Z.aload_n hX dX1_makePrimitive_22 rfl rfl ?_
          refine Z.iload hX dX1_makePrimitive_23 rfl ?_
          refine Z.laload hX 11 1 dX1_makePrimitive_25 rfl rfl (by omega) (by omega) (by decide) ?_
          refine Z.callSNl (As := [.long x, .long (L 6 (i : Int).toNat)]) (rest := []) hX (ct_X6_commonOf l D ce x (L 6 (i : Int).toNat) ) mc_X6_commonOf ns_X1_60 st_X6_commonOf ini_X6 nd_X6_commonOf ⟨Nat.le_of_ble_eq_true rfl, Nat.le_of_ble_eq_true rfl⟩ ⟨rfl, rfl⟩ ⟨Nat.le_refl _, Nat.le_refl _⟩ rfl (Nat.le_of_ble_eq_true rfl) dX1_makePrimitive_26 ?_
          rintro r_8 w1 ⟨r09, hr_, hw_, hq10⟩
          subst hr_
          refine ⟨hw_, ?_⟩
          refine Z.lstore_n (lv' := [(3, .long r_8), (5, .int (zI i)), (2, .int (zI tp)), (1, .ref (h 11)), (0, .ref (h 3))]) hX dX1_makePrimitive_29 rfl (by decide) rfl ?_
          refine Z.iinc (lv' := [(5, .int (zI (i + 1))), (3, .long r_8), (2, .int (zI tp)), (1, .ref (h 11)), (0, .ref (h 3))]) hX dX1_makePrimitive_30 rfl (by decide) rfl ?_
          refine Z.goto hX 15 dX1_makePrimitive_33 (by decide) ?_
          refine Z.pick [0, 1, 2, 3, 4] rfl ?_
          exact ih_15 _ _ (by omega) (by omega)
    refine Z.pick [0, 1, 2, 4, 3] rfl ?_
    exact key_15 _ _ _ (Nat.lt_succ_self _) (by omega)
  · intro c2
    exact hR _ _ _ dX1_makePrimitive_9 ⟨L, rfl, (fun _ _ => rfl)⟩

theorem dX1_shareWithOther_0 : decode cX1_shareWithOther 0 = .ok (.iconst 0, 1) := by decide +kernel
theorem dX1_shareWithOther_1 : decode cX1_shareWithOther 1 = .ok (.istore_n 1, 1) := by decide +kernel
theorem dX1_shareWithOther_2 : decode cX1_shareWithOther 2 = .ok (.iload_n 1, 1) := by decide +kernel
theorem dX1_shareWithOther_3 : decode cX1_shareWithOther 3 = .ok (.bipush 32, 2) := by decide +kernel
theorem dX1_shareWithOther_5 : decode cX1_shareWithOther 5 = .ok (.if_icmp .ge 56, 3) := by decide +kernel
theorem dX1_shareWithOther_8 : decode cX1_shareWithOther 8 = .ok (.aload_n 0, 1) := by decide +kernel
theorem dX1_shareWithOther_9 : decode cX1_shareWithOther 9 = .ok (.getfield 9, 3) := by decide +kernel
theorem dX1_shareWithOther_12 : decode cX1_shareWithOther 12 = .ok (.invokestatic 46, 3) := by decide +kernel
theorem dX1_shareWithOther_15 : decode cX1_shareWithOther 15 = .ok (.istore_n 2, 1) := by decide +kernel
theorem dX1_shareWithOther_16 : decode cX1_shareWithOther 16 = .ok (.aload_n 0, 1) := by decide +kernel
theorem dX1_shareWithOther_17 : decode cX1_shareWithOther 17 = .ok (.getfield 15, 3) := by decide +kernel
theorem dX1_shareWithOther_20 : decode cX1_shareWithOther 20 = .ok (.invokestatic 46, 3) := by decide +kernel
theorem dX1_shareWithOther_23 : decode cX1_shareWithOther 23 = .ok (.istore_n 3, 1) := by decide +kernel
theorem dX1_shareWithOther_24 : decode cX1_shareWithOther 24 = .ok (.iload_n 3, 1) := by decide +kernel
theorem dX1_shareWithOther_25 : decode cX1_shareWithOther 25 = .ok (.ifCond .ge 4, 3) := by decide +kernel
theorem dX1_shareWithOther_28 : decode cX1_shareWithOther 28 = .ok (.return_, 1) := by decide +kernel
theorem dX1_shareWithOther_29 : decode cX1_shareWithOther 29 = .ok (.iload_n 2, 1) := by decide +kernel
theorem dX1_shareWithOther_30 : decode cX1_shareWithOther 30 = .ok (.iload_n 3, 1) := by decide +kernel
theorem dX1_shareWithOther_31 : decode cX1_shareWithOther 31 = .ok (.if_icmp .ge 10, 3) := by decide +kernel
theorem dX1_shareWithOther_34 : decode cX1_shareWithOther 34 = .ok (.aload_n 0, 1) := by decide +kernel
theorem dX1_shareWithOther_35 : decode cX1_shareWithOther 35 = .ok (.invokevirtual 53, 3) := by decide +kernel
theorem dX1_shareWithOther_38 : decode cX1_shareWithOther 38 = .ok (.goto 17, 3) := by decide +kernel
theorem dX1_shareWithOther_41 : decode cX1_shareWithOther 41 = .ok (.aload_n 0, 1) := by decide +kernel
theorem dX1_shareWithOther_42 : decode cX1_shareWithOther 42 = .ok (.iload_n 2, 1) := by decide +kernel
theorem dX1_shareWithOther_43 : decode cX1_shareWithOther 43 = .ok (.iload_n 3, 1) := by decide +kernel
theorem dX1_shareWithOther_44 : decode cX1_shareWithOther 44 = .ok (.invokevirtual 56, 3) := by decide +kernel
theorem dX1_shareWithOther_47 : decode cX1_shareWithOther 47 = .ok (.aload_n 0, 1) := by decide +kernel
theorem dX1_shareWithOther_48 : decode cX1_shareWithOther 48 = .ok (.aload_n 0, 1) := by decide +kernel
theorem dX1_shareWithOther_49 : decode cX1_shareWithOther 49 = .ok (.getfield 9, 3) := by decide +kernel
theorem dX1_shareWithOther_52 : decode cX1_shareWithOther 52 = .ok (.invokevirtual 42, 3) := by decide +kernel
theorem dX1_shareWithOther_55 : decode cX1_shareWithOther 55 = .ok (.iinc 1 1, 3) := by decide +kernel
theorem dX1_shareWithOther_58 : decode cX1_shareWithOther 58 = .ok (.goto (-56), 3) := by decide +kernel
theorem dX1_shareWithOther_61 : decode cX1_shareWithOther 61 = .ok (.return_, 1) := by decide +kernel
set_option maxHeartbeats 4000000 in
set_option maxRecDepth 100000 in
theorem ct_X1_shareWithOther (l : Launch) (D : va_G) (ce : Nat → ClassId) (h pl ar : Nat → Nat) (G : Nat → Int) (L : Nat → Nat → Int64) (B : Nat → Int) (J : Nat → Nat → Int64)  : Ct l yX1_shareWithOther cX1_shareWithOther 4 none { frames := 2, cells := 0, slots := 0, locals := 62 } 0 0 D (TY ce) [.ref (h 3)] (cW ce h pl ar G L B J) (QV D (TY ce) (fun w1 => ∃ L2 : Nat → Nat → Int64, w1 = cW ce h pl ar G L2 B J ∧ (∀ k, k ≠ 6 → k ≠ 7 → k ≠ 8 → L2 k = L k))) := by
  refine Ct.ofV (by decide) (Nat.le_of_ble_eq_true rfl) ?_
  intro p e s m args below meth c A Q hX hnm hR
  refine Z.pick (lv' := [(0, .ref (h 3))]) [0] rfl ?_
  refine Z.iconst hX dX1_shareWithOther_0 ?_
  refine Z.istore_n (lv' := [(1, .int (zI 0)), (0, .ref (h 3))]) hX dX1_shareWithOther_1 rfl (by decide) rfl ?_
  have key_2 : ∀ (N : Nat), ∀ (i : Int) (M : Nat → Nat → Int64), (32 - i).toNat < N → (hi : 0 ≤ i ∧ i ≤ 32) → (hM : ∀ k, k ≠ 6 → k ≠ 7 → k ≠ 8 → M k = L k) → Z p l e { frames := 2, cells := 0, slots := 0, locals := 62 } s m args below meth c D A 4 0 0 Q 2 [(1, .int (zI i)), (0, .ref (h 3))] [] (cW ce h pl ar G M B J) := by
    intro N
    induction N with
    | zero => intro i M hm; exact absurd hm (Nat.not_lt_zero _)
    | succ N ih_2 =>
      intro i M hm hi hM
      refine Z.iload_n hX dX1_shareWithOther_2 rfl rfl ?_
      refine Z.bipush hX dX1_shareWithOther_3 (by decide) ?_
      refine Z.icmp_ge hX 61 dX1_shareWithOther_5 (by decide) ⟨by omega, by omega⟩ ⟨by omega, by omega⟩ ?_ ?_
      · intro c1
        exact hR _ _ _ dX1_shareWithOther_61 ⟨M, rfl, hM⟩
      · intro c1
        refine Z.aload_n hX dX1_shareWithOther_8 rfl rfl ?_
        refine Z.getf hX 1 3 0 dX1_shareWithOther_9 rfl rfl inX1 (by decide) fl_X1_9 rfl rfl ?_
        refine Z.callS1i (As := [.ref (h 11)]) (rest := []) hX 11 rfl (ct_X5_topOf l D ce ((h 11)) (M 6) ) mc_X5_topOf ml_X1_46 st_X5_topOf ini_X5 nd_X5_topOf ⟨Nat.le_of_ble_eq_true rfl, Nat.le_of_ble_eq_true rfl⟩ ⟨rfl, rfl⟩ ⟨Nat.le_refl _, Nat.le_refl _⟩ rfl (Nat.le_of_ble_eq_true rfl) dX1_shareWithOther_12 ?_
        rintro r_2 w1 ⟨ta, hr_, hw_, a1, a2, a3⟩
        subst hr_
        refine ⟨_, hw_, ?_⟩
        refine Z.toW (w' := cW ce h pl ar G M B J) (set_self rfl) ?_
        refine Z.istore_n (lv' := [(2, .int (zI ta)), (1, .int (zI i)), (0, .ref (h 3))]) hX dX1_shareWithOther_15 rfl (by decide) rfl ?_
        refine Z.aload_n hX dX1_shareWithOther_16 rfl rfl ?_
        refine Z.getf hX 1 3 1 dX1_shareWithOther_17 rfl rfl inX1 (by decide) fl_X1_15 rfl rfl ?_
        refine Z.callS1i (As := [.ref (h 12)]) (rest := []) hX 12 rfl (ct_X5_topOf l D ce ((h 12)) (M 7) ) mc_X5_topOf ml_X1_46 st_X5_topOf ini_X5 nd_X5_topOf ⟨Nat.le_of_ble_eq_true rfl, Nat.le_of_ble_eq_true rfl⟩ ⟨rfl, rfl⟩ ⟨Nat.le_refl _, Nat.le_refl _⟩ rfl (Nat.le_of_ble_eq_true rfl) dX1_shareWithOther_20 ?_
        rintro r_3 w1 ⟨tb, hr_, hw_, b1, b2, b3⟩
        subst hr_
        refine ⟨_, hw_, ?_⟩
        refine Z.toW (w' := cW ce h pl ar G M B J) (set_self rfl) ?_
        refine Z.istore_n (lv' := [(3, .int (zI tb)), (2, .int (zI ta)), (1, .int (zI i)), (0, .ref (h 3))]) hX dX1_shareWithOther_23 rfl (by decide) rfl ?_
        refine Z.iload_n hX dX1_shareWithOther_24 rfl rfl ?_
        refine Z.if_ge hX 29 dX1_shareWithOther_25 (by decide) ⟨by omega, by omega⟩ ?_ ?_
        · intro c4
          refine Z.iload_n hX dX1_shareWithOther_29 rfl rfl ?_
          refine Z.iload_n hX dX1_shareWithOther_30 rfl rfl ?_
          refine Z.icmp_ge hX 41 dX1_shareWithOther_31 (by decide) ⟨by omega, by omega⟩ ⟨by omega, by omega⟩ ?_ ?_
          · intro c5
            refine Z.aload_n hX dX1_shareWithOther_41 rfl rfl ?_
            refine Z.iload_n hX dX1_shareWithOther_42 rfl rfl ?_
            refine Z.iload_n hX dX1_shareWithOther_43 rfl rfl ?_
            refine Z.callVfv (As := [.int (zI ta), .int (zI tb)]) (rest := []) hX 1 3 rfl rfl (ct_X1_lowerShared l D ce h pl ar G M B J ta tb (by omega)) mc_X1_lowerShared ml_X1_56 im_X1_lowerShared se_X1_lowerShared ini_X1 nd_X1_lowerShared ⟨Nat.le_of_ble_eq_true rfl, Nat.le_of_ble_eq_true rfl⟩ ⟨rfl, rfl⟩ ⟨Nat.le_refl _, Nat.le_refl _⟩ rfl (Nat.le_of_ble_eq_true rfl) dX1_shareWithOther_44 ?_
            rintro w1 ⟨L27, hw_, hq8⟩
            subst hw_
            refine Z.aload_n hX dX1_shareWithOther_47 rfl rfl ?_
            refine Z.aload_n hX dX1_shareWithOther_48 rfl rfl ?_
            refine Z.getf hX 1 3 0 dX1_shareWithOther_49 rfl rfl inX1 (by decide) fl_X1_9 rfl rfl ?_
            refine Z.callVfv (As := [.ref (h 11)]) (rest := []) hX 1 3 rfl rfl (ct_X1_makePrimitive l D ce h pl ar G L27 B J ) mc_X1_makePrimitive ml_X1_42 im_X1_makePrimitive se_X1_makePrimitive ini_X1 nd_X1_makePrimitive ⟨Nat.le_of_ble_eq_true rfl, Nat.le_of_ble_eq_true rfl⟩ ⟨rfl, rfl⟩ ⟨Nat.le_refl _, Nat.le_refl _⟩ rfl (Nat.le_of_ble_eq_true rfl) dX1_shareWithOther_52 ?_
            rintro w1 ⟨L210, hw_, hq11⟩
            subst hw_
            refine Z.iinc (lv' := [(1, .int (zI (i + 1))), (3, .int (zI tb)), (2, .int (zI ta)), (0, .ref (h 3))]) hX dX1_shareWithOther_55 rfl (by decide) rfl ?_
            refine Z.goto hX 2 dX1_shareWithOther_58 (by decide) ?_
            refine Z.pick [0, 3] rfl ?_
            exact ih_2 _ _ (by omega) (by omega) (fun j_ h_6 h_7 h_8 => ((hq11 j_ h_6).trans ((hq8 j_ h_6).trans (hM j_ h_6 h_7 h_8))))
          · intro c5
            refine Z.aload_n hX dX1_shareWithOther_34 rfl rfl ?_
            refine Z.callVfv (As := []) (rest := []) hX 1 3 rfl rfl (ct_X1_swap l D ce h pl ar G M B J ) mc_X1_swap ml_X1_53 im_X1_swap se_X1_swap ini_X1 nd_X1_swap ⟨Nat.le_of_ble_eq_true rfl, Nat.le_of_ble_eq_true rfl⟩ ⟨rfl, rfl⟩ ⟨Nat.le_refl _, Nat.le_refl _⟩ rfl (Nat.le_of_ble_eq_true rfl) dX1_shareWithOther_35 ?_
            rintro w1 ⟨L213, hw_, hq14⟩
            subst hw_
            refine Z.goto hX 55 dX1_shareWithOther_38 (by decide) ?_
            refine Z.iinc (lv' := [(1, .int (zI (i + 1))), (3, .int (zI tb)), (2, .int (zI ta)), (0, .ref (h 3))]) hX dX1_shareWithOther_55 rfl (by decide) rfl ?_
            refine Z.goto hX 2 dX1_shareWithOther_58 (by decide) ?_
            refine Z.pick [0, 3] rfl ?_
            exact ih_2 _ _ (by omega) (by omega) (fun j_ h_6 h_7 h_8 => ((hq14 j_ h_6 h_7 h_8).trans (hM j_ h_6 h_7 h_8)))
        · intro c4
          exact hR _ _ _ dX1_shareWithOther_28 ⟨M, rfl, hM⟩
  refine Z.pick [0, 1] rfl ?_
  exact key_2 _ _ _ (Nat.lt_succ_self _) (by omega) (fun _ _ _ _ => rfl)

theorem dX1_divideByShared_0 : decode cX1_divideByShared 0 = .ok (.aload_n 0, 1) := by decide +kernel
theorem dX1_divideByShared_1 : decode cX1_divideByShared 1 = .ok (.getfield 9, 3) := by decide +kernel
theorem dX1_divideByShared_4 : decode cX1_divideByShared 4 = .ok (.invokestatic 46, 3) := by decide +kernel
theorem dX1_divideByShared_7 : decode cX1_divideByShared 7 = .ok (.istore_n 2, 1) := by decide +kernel
theorem dX1_divideByShared_8 : decode cX1_divideByShared 8 = .ok (.iload_n 2, 1) := by decide +kernel
theorem dX1_divideByShared_9 : decode cX1_divideByShared 9 = .ok (.ifCond .lt 14, 3) := by decide +kernel
theorem dX1_divideByShared_12 : decode cX1_divideByShared 12 = .ok (.aload_n 0, 1) := by decide +kernel
theorem dX1_divideByShared_13 : decode cX1_divideByShared 13 = .ok (.getfield 9, 3) := by decide +kernel
theorem dX1_divideByShared_16 : decode cX1_divideByShared 16 = .ok (.iload_n 2, 1) := by decide +kernel
theorem dX1_divideByShared_17 : decode cX1_divideByShared 17 = .ok (.laload, 1) := by decide +kernel
theorem dX1_divideByShared_18 : decode cX1_divideByShared 18 = .ok (.lconst 0, 1) := by decide +kernel
theorem dX1_divideByShared_19 : decode cX1_divideByShared 19 = .ok (.lcmp, 1) := by decide +kernel
theorem dX1_divideByShared_20 : decode cX1_divideByShared 20 = .ok (.ifCond .ne 4, 3) := by decide +kernel
theorem dX1_divideByShared_23 : decode cX1_divideByShared 23 = .ok (.return_, 1) := by decide +kernel
theorem dX1_divideByShared_24 : decode cX1_divideByShared 24 = .ok (.aload_n 1, 1) := by decide +kernel
theorem dX1_divideByShared_25 : decode cX1_divideByShared 25 = .ok (.iconst 0, 1) := by decide +kernel
theorem dX1_divideByShared_26 : decode cX1_divideByShared 26 = .ok (.aload_n 0, 1) := by decide +kernel
theorem dX1_divideByShared_27 : decode cX1_divideByShared 27 = .ok (.getfield 18, 3) := by decide +kernel
theorem dX1_divideByShared_30 : decode cX1_divideByShared 30 = .ok (.iconst 0, 1) := by decide +kernel
theorem dX1_divideByShared_31 : decode cX1_divideByShared 31 = .ok (.iconst 5, 1) := by decide +kernel
theorem dX1_divideByShared_32 : decode cX1_divideByShared 32 = .ok (.invokestatic 33, 3) := by decide +kernel
theorem dX1_divideByShared_35 : decode cX1_divideByShared 35 = .ok (.aload_n 1, 1) := by decide +kernel
theorem dX1_divideByShared_36 : decode cX1_divideByShared 36 = .ok (.lconst 0, 1) := by decide +kernel
theorem dX1_divideByShared_37 : decode cX1_divideByShared 37 = .ok (.invokestatic 21, 3) := by decide +kernel
theorem dX1_divideByShared_40 : decode cX1_divideByShared 40 = .ok (.iconst 4, 1) := by decide +kernel
theorem dX1_divideByShared_41 : decode cX1_divideByShared 41 = .ok (.iload_n 2, 1) := by decide +kernel
theorem dX1_divideByShared_42 : decode cX1_divideByShared 42 = .ok (.isub, 1) := by decide +kernel
theorem dX1_divideByShared_43 : decode cX1_divideByShared 43 = .ok (.istore_n 3, 1) := by decide +kernel
theorem dX1_divideByShared_44 : decode cX1_divideByShared 44 = .ok (.iload_n 3, 1) := by decide +kernel
theorem dX1_divideByShared_45 : decode cX1_divideByShared 45 = .ok (.ifCond .lt 68, 3) := by decide +kernel
theorem dX1_divideByShared_48 : decode cX1_divideByShared 48 = .ok (.aload_n 0, 1) := by decide +kernel
theorem dX1_divideByShared_49 : decode cX1_divideByShared 49 = .ok (.getfield 18, 3) := by decide +kernel
theorem dX1_divideByShared_52 : decode cX1_divideByShared 52 = .ok (.iload_n 3, 1) := by decide +kernel
theorem dX1_divideByShared_53 : decode cX1_divideByShared 53 = .ok (.iload_n 2, 1) := by decide +kernel
theorem dX1_divideByShared_54 : decode cX1_divideByShared 54 = .ok (.iadd, 1) := by decide +kernel
theorem dX1_divideByShared_55 : decode cX1_divideByShared 55 = .ok (.laload, 1) := by decide +kernel
theorem dX1_divideByShared_56 : decode cX1_divideByShared 56 = .ok (.aload_n 0, 1) := by decide +kernel
theorem dX1_divideByShared_57 : decode cX1_divideByShared 57 = .ok (.getfield 9, 3) := by decide +kernel
theorem dX1_divideByShared_60 : decode cX1_divideByShared 60 = .ok (.iload_n 2, 1) := by decide +kernel
theorem dX1_divideByShared_61 : decode cX1_divideByShared 61 = .ok (.laload, 1) := by decide +kernel
theorem dX1_divideByShared_62 : decode cX1_divideByShared 62 = .ok (.ldiv, 1) := by decide +kernel
theorem dX1_divideByShared_63 : decode cX1_divideByShared 63 = .ok (.lstore 4, 2) := by decide +kernel
theorem dX1_divideByShared_65 : decode cX1_divideByShared 65 = .ok (.aload_n 1, 1) := by decide +kernel
theorem dX1_divideByShared_66 : decode cX1_divideByShared 66 = .ok (.iload_n 3, 1) := by decide +kernel
theorem dX1_divideByShared_67 : decode cX1_divideByShared 67 = .ok (.lload 4, 2) := by decide +kernel
theorem dX1_divideByShared_69 : decode cX1_divideByShared 69 = .ok (.lastore, 1) := by decide +kernel
theorem dX1_divideByShared_70 : decode cX1_divideByShared 70 = .ok (.iconst 0, 1) := by decide +kernel
theorem dX1_divideByShared_71 : decode cX1_divideByShared 71 = .ok (.istore 6, 2) := by decide +kernel
theorem dX1_divideByShared_73 : decode cX1_divideByShared 73 = .ok (.iload 6, 2) := by decide +kernel
theorem dX1_divideByShared_75 : decode cX1_divideByShared 75 = .ok (.iload_n 2, 1) := by decide +kernel
theorem dX1_divideByShared_76 : decode cX1_divideByShared 76 = .ok (.if_icmp .gt 31, 3) := by decide +kernel
theorem dX1_divideByShared_79 : decode cX1_divideByShared 79 = .ok (.aload_n 0, 1) := by decide +kernel
theorem dX1_divideByShared_80 : decode cX1_divideByShared 80 = .ok (.getfield 18, 3) := by decide +kernel
theorem dX1_divideByShared_83 : decode cX1_divideByShared 83 = .ok (.iload_n 3, 1) := by decide +kernel
theorem dX1_divideByShared_84 : decode cX1_divideByShared 84 = .ok (.iload 6, 2) := by decide +kernel
theorem dX1_divideByShared_86 : decode cX1_divideByShared 86 = .ok (.iadd, 1) := by decide +kernel
theorem dX1_divideByShared_87 : decode cX1_divideByShared 87 = .ok (.dup2, 1) := by decide +kernel
theorem dX1_divideByShared_88 : decode cX1_divideByShared 88 = .ok (.laload, 1) := by decide +kernel
theorem dX1_divideByShared_89 : decode cX1_divideByShared 89 = .ok (.lload 4, 2) := by decide +kernel
theorem dX1_divideByShared_91 : decode cX1_divideByShared 91 = .ok (.aload_n 0, 1) := by decide +kernel
theorem dX1_divideByShared_92 : decode cX1_divideByShared 92 = .ok (.getfield 9, 3) := by decide +kernel
theorem dX1_divideByShared_95 : decode cX1_divideByShared 95 = .ok (.iload 6, 2) := by decide +kernel
theorem dX1_divideByShared_97 : decode cX1_divideByShared 97 = .ok (.laload, 1) := by decide +kernel
theorem dX1_divideByShared_98 : decode cX1_divideByShared 98 = .ok (.lmul, 1) := by decide +kernel
theorem dX1_divideByShared_99 : decode cX1_divideByShared 99 = .ok (.lsub, 1) := by decide +kernel
theorem dX1_divideByShared_100 : decode cX1_divideByShared 100 = .ok (.lastore, 1) := by decide +kernel
theorem dX1_divideByShared_101 : decode cX1_divideByShared 101 = .ok (.iinc 6 1, 3) := by decide +kernel
theorem dX1_divideByShared_104 : decode cX1_divideByShared 104 = .ok (.goto (-31), 3) := by decide +kernel
theorem dX1_divideByShared_107 : decode cX1_divideByShared 107 = .ok (.iinc 3 (-1), 3) := by decide +kernel
theorem dX1_divideByShared_110 : decode cX1_divideByShared 110 = .ok (.goto (-66), 3) := by decide +kernel
theorem dX1_divideByShared_113 : decode cX1_divideByShared 113 = .ok (.return_, 1) := by decide +kernel
set_option maxHeartbeats 4000000 in
set_option maxRecDepth 100000 in
theorem ct_X1_divideByShared (l : Launch) (D : va_G) (ce : Nat → ClassId) (h pl ar : Nat → Nat) (G : Nat → Int) (L : Nat → Nat → Int64) (B : Nat → Int) (J : Nat → Nat → Int64) (K : Nat) (hK : 3 ≤ K ∧ K < 6) : Ct l yX1_divideByShared cX1_divideByShared 7 none { frames := 1, cells := 0, slots := 0, locals := 40 } 0 0 D (TY ce) [.ref (h 3), .ref (h (18 + K))] (cW ce h pl ar G L B J) (QV D (TY ce) (fun w1 => ∃ L2 : Nat → Nat → Int64, w1 = cW ce h pl ar G L2 B J ∧ (∀ k, k ≠ K → k ≠ 8 → L2 k = L k))) := by
  refine Ct.ofV (by decide) (Nat.le_of_ble_eq_true rfl) ?_
  intro p e s m args below meth c A Q hX hnm hR
  refine Z.pick (lv' := [(0, .ref (h 3)), (1, .ref (h (18 + K)))]) [0, 1] rfl ?_
  refine Z.aload_n hX dX1_divideByShared_0 rfl rfl ?_
  refine Z.getf hX 1 3 0 dX1_divideByShared_1 rfl rfl inX1 (by decide) fl_X1_9 rfl rfl ?_
  refine Z.callS1i (As := [.ref (h 11)]) (rest := []) hX 11 rfl (ct_X5_topOf l D ce ((h 11)) (L 6) ) mc_X5_topOf ml_X1_46 st_X5_topOf ini_X5 nd_X5_topOf ⟨Nat.le_of_ble_eq_true rfl, Nat.le_of_ble_eq_true rfl⟩ ⟨rfl, rfl⟩ ⟨Nat.le_refl _, Nat.le_refl _⟩ rfl (Nat.le_of_ble_eq_true rfl) dX1_divideByShared_4 ?_
  rintro r_1 w1 ⟨lo, hr_, hw_, l1, l2, l3⟩
  subst hr_
  refine ⟨_, hw_, ?_⟩
  refine Z.toW (w' := cW ce h pl ar G L B J) (set_self rfl) ?_
  refine Z.istore_n (lv' := [(2, .int (zI lo)), (0, .ref (h 3)), (1, .ref (h (18 + K)))]) hX dX1_divideByShared_7 rfl (by decide) rfl ?_
  refine Z.iload_n hX dX1_divideByShared_8 rfl rfl ?_
  refine Z.if_lt hX 23 dX1_divideByShared_9 (by decide) ⟨by omega, by omega⟩ ?_ ?_
  · intro c2
    exact hR _ _ _ dX1_divideByShared_23 ⟨L, rfl, (fun _ _ _ => rfl)⟩
  · intro c2
    refine Z.aload_n hX dX1_divideByShared_12 rfl rfl ?_
    refine Z.getf hX 1 3 0 dX1_divideByShared_13 rfl rfl inX1 (by decide) fl_X1_9 rfl rfl ?_
    refine Z.iload_n hX dX1_divideByShared_16 rfl rfl ?_
    refine Z.laload hX 11 1 dX1_divideByShared_17 rfl rfl (by omega) (by omega) (by decide) ?_
    refine Z.lconst (v := 0) hX dX1_divideByShared_18 rfl ?_
    refine Z.lcmp_ne hX 24 dX1_divideByShared_19 dX1_divideByShared_20 (by decide) ?_ ?_
    · intro c3
      refine Z.aload_n hX dX1_divideByShared_24 rfl rfl ?_
      refine Z.iconst hX dX1_divideByShared_25 ?_
      refine Z.aload_n hX dX1_divideByShared_26 rfl rfl ?_
      refine Z.getf hX 1 3 2 dX1_divideByShared_27 rfl rfl inX1 (by decide) fl_X1_18 rfl rfl ?_
      refine Z.iconst hX dX1_divideByShared_30 ?_
      refine Z.iconst hX dX1_divideByShared_31 ?_
      refine Z.copyA hX (18 + K) 13 1 dX1_divideByShared_32 (cW_in (by omega)) rfl rfl rfl (by decide) ml_X1_33 (by decide) (Nat.le_of_ble_eq_true rfl) ?_
      obtain ⟨L4, eL4⟩ : ∃ J' : Nat → Nat → Int64, J' = va_up L 8 (va_cpy (L K) (L 8) 0 0 5) := ⟨_, rfl⟩
      refine Z.toW (w' := cW ce h pl ar G L4 B J) (by rw [eL4]; rfl) ?_
      have gL4 : L4 8 = va_cpy (L K) (L 8) 0 0 5 := by rw [eL4]; exact up_eq
      have fL4 : ∀ j_, j_ ≠ 8 → L4 j_ = L j_ := fun j_ hj_ => by rw [eL4]; exact up_ne hj_
      refine Z.aload_n hX dX1_divideByShared_35 rfl rfl ?_
      refine Z.lconst (v := 0) hX dX1_divideByShared_36 rfl ?_
      refine Z.callS1v (As := [.ref (h (18 + K)), .long 0]) (rest := []) hX (18 + K) (cW_in (by omega)) (ct_J7_fill_d0a16 l D ce ((h (18 + K))) 5 (L4 K) 0 (by decide)) mc_J7_fill_d0a16 ml_X1_21 st_J7_fill_d0a16 ini_J7 nd_J7_fill_d0a16 ⟨Nat.le_of_ble_eq_true rfl, Nat.le_of_ble_eq_true rfl⟩ ⟨rfl, rfl⟩ ⟨Nat.le_refl _, Nat.le_refl _⟩ rfl (Nat.le_of_ble_eq_true rfl) dX1_divideByShared_37 ?_
      rintro w1 ⟨f26, hw_, hq7⟩
      refine ⟨_, hw_, ?_⟩
      obtain ⟨L8, eL8⟩ : ∃ J' : Nat → Nat → Int64, J' = va_up L4 K (f26) := ⟨_, rfl⟩
      refine Z.toW (w' := cW ce h pl ar G L8 B J) (by rw [eL8]; exact cW_setL (by omega)) ?_
      have gL8 : L8 K = f26 := by rw [eL8]; exact up_eq
      have fL8 : ∀ j_, j_ ≠ K → L8 j_ = L4 j_ := fun j_ hj_ => by rw [eL8]; exact up_ne hj_
      refine Z.iconst hX dX1_divideByShared_40 ?_
      refine Z.iload_n hX dX1_divideByShared_41 rfl rfl ?_
      refine Z.isub hX dX1_divideByShared_42 ?_
      refine Z.istore_n (lv' := [(3, .int (zI (4 - lo))), (2, .int (zI lo)), (0, .ref (h 3)), (1, .ref (h (18 + K)))]) hX dX1_divideByShared_43 rfl (by decide) rfl ?_
      have key_44 : ∀ (N : Nat), ∀ (i : Int) (M : Nat → Nat → Int64), (i + 1).toNat < N → (hi : -1 ≤ i ∧ i ≤ 4 - lo) → (ho : M 6 = L 6) → (hM : ∀ k, k ≠ K → k ≠ 8 → M k = L k) → Z p l e { frames := 1, cells := 0, slots := 0, locals := 40 } s m args below meth c D A 7 0 0 Q 44 [(3, .int (zI i)), (2, .int (zI lo)), (1, .ref (h (18 + K))), (0, .ref (h 3))] [] (cW ce h pl ar G M B J) := by
        intro N
        induction N with
        | zero => intro i M hm; exact absurd hm (Nat.not_lt_zero _)
        | succ N ih_44 =>
          intro i M hm hi ho hM
          refine Z.iload_n hX dX1_divideByShared_44 rfl rfl ?_
          refine Z.if_lt hX 113 dX1_divideByShared_45 (by decide) ⟨by omega, by omega⟩ ?_ ?_
          · intro c9
            exact hR _ _ _ dX1_divideByShared_113 ⟨M, rfl, hM⟩
          · intro c9
            refine Z.aload_n hX dX1_divideByShared_48 rfl rfl ?_
            refine Z.getf hX 1 3 2 dX1_divideByShared_49 rfl rfl inX1 (by decide) fl_X1_18 rfl rfl ?_
            refine Z.iload_n hX dX1_divideByShared_52 rfl rfl ?_
            refine Z.iload_n hX dX1_divideByShared_53 rfl rfl ?_
            refine Z.iadd hX dX1_divideByShared_54 ?_
            refine Z.laload hX 13 1 dX1_divideByShared_55 rfl rfl (by omega) (by omega) (by decide) ?_
            refine Z.aload_n hX dX1_divideByShared_56 rfl rfl ?_
            refine Z.getf hX 1 3 0 dX1_divideByShared_57 rfl rfl inX1 (by decide) fl_X1_9 rfl rfl ?_
            refine Z.iload_n hX dX1_divideByShared_60 rfl rfl ?_
            refine Z.laload hX 11 1 dX1_divideByShared_61 rfl rfl (by omega) (by omega) (by decide) ?_
            refine Z.ldiv hX dX1_divideByShared_62 (by rw [ho]; assumption) ?_
            refine Z.lstore (lv' := [(4, .long ((M 8 (i + lo : Int).toNat) / (M 6 (lo : Int).toNat))), (3, .int (zI i)), (2, .int (zI lo)), (1, .ref (h (18 + K))), (0, .ref (h 3))]) hX dX1_divideByShared_63 (by decide) rfl ?_
            obtain ⟨qq, eqq⟩ : ∃ x : Int64, x = (M 8 (i + lo : Int).toNat) / (M 6 (lo : Int).toNat) := ⟨_, rfl⟩
            rw [← eqq]
            refine Z.aload_n hX dX1_divideByShared_65 rfl rfl ?_
            refine Z.iload_n hX dX1_divideByShared_66 rfl rfl ?_
            refine Z.lload hX dX1_divideByShared_67 rfl ?_
            refine Z.lastore hX (18 + K) 1 dX1_divideByShared_69 (cW_in (by omega)) rfl (by omega) (by omega) (by decide) ?_
            obtain ⟨L10, eL10⟩ : ∃ J' : Nat → Nat → Int64, J' = va_up M K (vp_updL (M K) (i : Int).toNat (qq)) := ⟨_, rfl⟩
            refine Z.toW (w' := cW ce h pl ar G L10 B J) (by rw [eL10]; exact cW_setL (by omega)) ?_
            have gL10 : L10 K = vp_updL (M K) (i : Int).toNat (qq) := by rw [eL10]; exact up_eq
            have fL10 : ∀ j_, j_ ≠ K → L10 j_ = M j_ := fun j_ hj_ => by rw [eL10]; exact up_ne hj_
            refine Z.iconst hX dX1_divideByShared_70 ?_
            refine Z.istore (lv' := [(6, .int (zI 0)), (4, .long qq), (3, .int (zI i)), (2, .int (zI lo)), (1, .ref (h (18 + K))), (0, .ref (h 3))]) hX dX1_divideByShared_71 (by decide) rfl ?_
            have key_73 : ∀ (N : Nat), ∀ (q : Int) (M : Nat → Nat → Int64), (lo + 1 - q).toNat < N → (hq : 0 ≤ q ∧ q ≤ lo + 1) → (ho : M 6 = L 6) → (hM : ∀ k, k ≠ K → k ≠ 8 → M k = L k) → Z p l e { frames := 1, cells := 0, slots := 0, locals := 40 } s m args below meth c D A 7 0 0 Q 73 [(6, .int (zI q)), (4, .long qq), (3, .int (zI i)), (2, .int (zI lo)), (1, .ref (h (18 + K))), (0, .ref (h 3))] [] (cW ce h pl ar G M B J) := by
              intro N
              induction N with
              | zero => intro q M hm; exact absurd hm (Nat.not_lt_zero _)
              | succ N ih_73 =>
                intro q M hm hq ho hM
                refine Z.iload hX dX1_divideByShared_73 rfl ?_
                refine Z.iload_n hX dX1_divideByShared_75 rfl rfl ?_
                refine Z.icmp_gt hX 107 dX1_divideByShared_76 (by decide) ⟨by omega, by omega⟩ ⟨by omega, by omega⟩ ?_ ?_
                · intro c11
                  refine Z.iinc (lv' := [(3, .int (zI (i + -1))), (6, .int (zI q)), (4, .long qq), (2, .int (zI lo)), (1, .ref (h (18 + K))), (0, .ref (h 3))]) hX dX1_divideByShared_107 rfl (by decide) rfl ?_
                  refine Z.goto hX 44 dX1_divideByShared_110 (by decide) ?_
                  refine Z.pick [0, 3, 4, 5] rfl ?_
                  exact ih_44 _ _ (by omega) (by omega) ho hM
                · intro c11
                  refine Z.aload_n hX dX1_divideByShared_79 rfl rfl ?_
                  refine Z.getf hX 1 3 2 dX1_divideByShared_80 rfl rfl inX1 (by decide) fl_X1_18 rfl rfl ?_
                  refine Z.iload_n hX dX1_divideByShared_83 rfl rfl ?_
                  refine Z.iload hX dX1_divideByShared_84 rfl ?_
                  refine Z.iadd hX dX1_divideByShared_86 ?_
                  refine Z.dup2 hX dX1_divideByShared_87 rfl rfl ?_
                  refine Z.laload hX 13 1 dX1_divideByShared_88 rfl rfl (by omega) (by omega) (by decide) ?_
                  refine Z.lload hX dX1_divideByShared_89 rfl ?_
                  refine Z.aload_n hX dX1_divideByShared_91 rfl rfl ?_
                  refine Z.getf hX 1 3 0 dX1_divideByShared_92 rfl rfl inX1 (by decide) fl_X1_9 rfl rfl ?_
                  refine Z.iload hX dX1_divideByShared_95 rfl ?_
                  refine Z.laload hX 11 1 dX1_divideByShared_97 rfl rfl (by omega) (by omega) (by decide) ?_
                  refine Z.lmul hX dX1_divideByShared_98 ?_
                  refine Z.lsub hX dX1_divideByShared_99 ?_
                  refine Z.lastore hX 13 1 dX1_divideByShared_100 rfl rfl (by omega) (by omega) (by decide) ?_
                  obtain ⟨L12, eL12⟩ : ∃ J' : Nat → Nat → Int64, J' = va_up M 8 (vp_updL (M 8) (i + q : Int).toNat ((M 8 (i + q : Int).toNat) - (qq * (M 6 (q : Int).toNat)))) := ⟨_, rfl⟩
                  refine Z.toW (w' := cW ce h pl ar G L12 B J) (by rw [eL12]; rfl) ?_
                  have gL12 : L12 8 = vp_updL (M 8) (i + q : Int).toNat ((M 8 (i + q : Int).toNat) - (qq * (M 6 (q : Int).toNat))) := by rw [eL12]; exact up_eq
                  have fL12 : ∀ j_, j_ ≠ 8 → L12 j_ = M j_ := fun j_ hj_ => by rw [eL12]; exact up_ne hj_
                  refine Z.iinc (lv' := [(6, .int (zI (q + 1))), (4, .long qq), (3, .int (zI i)), (2, .int (zI lo)), (1, .ref (h (18 + K))), (0, .ref (h 3))]) hX dX1_divideByShared_101 rfl (by decide) rfl ?_
                  refine Z.goto hX 73 dX1_divideByShared_104 (by decide) ?_
                  refine Z.pick [0, 1, 2, 3, 4, 5] rfl ?_
                  exact ih_73 _ _ (by omega) (by omega) ((fL12 6 (by omega)).trans ho) (fun j_ h_K h_8 => ((fL12 j_ h_8).trans (hM j_ h_K h_8)))
            refine Z.pick [0, 1, 2, 3, 4, 5] rfl ?_
            exact key_73 _ _ _ (Nat.lt_succ_self _) (by omega) ((fL10 6 (by omega)).trans ho) (fun j_ h_K h_8 => ((fL10 j_ h_K).trans (hM j_ h_K h_8)))
      refine Z.pick [0, 1, 3, 2] rfl ?_
      exact key_44 _ _ _ (Nat.lt_succ_self _) (by omega) ((fL8 6 (by omega)).trans ((fL4 6 (by omega)).trans rfl)) (fun j_ h_K h_8 => ((fL8 j_ h_K).trans ((fL4 j_ h_8).trans rfl)))
    · intro c3
      exact hR _ _ _ dX1_divideByShared_23 ⟨L, rfl, (fun _ _ _ => rfl)⟩

theorem dX1_free_0 : decode cX1_free 0 = .ok (.aload_n 0, 1) := by decide +kernel
theorem dX1_free_1 : decode cX1_free 1 = .ok (.getfield 9, 3) := by decide +kernel
theorem dX1_free_4 : decode cX1_free 4 = .ok (.lconst 0, 1) := by decide +kernel
theorem dX1_free_5 : decode cX1_free 5 = .ok (.invokestatic 21, 3) := by decide +kernel
theorem dX1_free_8 : decode cX1_free 8 = .ok (.iconst 0, 1) := by decide +kernel
theorem dX1_free_9 : decode cX1_free 9 = .ok (.istore_n 3, 1) := by decide +kernel
theorem dX1_free_10 : decode cX1_free 10 = .ok (.iload_n 3, 1) := by decide +kernel
theorem dX1_free_11 : decode cX1_free 11 = .ok (.iconst 3, 1) := by decide +kernel
theorem dX1_free_12 : decode cX1_free 12 = .ok (.if_icmp .ge 47, 3) := by decide +kernel
theorem dX1_free_15 : decode cX1_free 15 = .ok (.aload_n 1, 1) := by decide +kernel
theorem dX1_free_16 : decode cX1_free 16 = .ok (.getfield 27, 3) := by decide +kernel
theorem dX1_free_19 : decode cX1_free 19 = .ok (.iload_n 3, 1) := by decide +kernel
theorem dX1_free_20 : decode cX1_free 20 = .ok (.aaload, 1) := by decide +kernel
theorem dX1_free_21 : decode cX1_free 21 = .ok (.iconst 0, 1) := by decide +kernel
theorem dX1_free_22 : decode cX1_free 22 = .ok (.aload_n 2, 1) := by decide +kernel
theorem dX1_free_23 : decode cX1_free 23 = .ok (.getfield 27, 3) := by decide +kernel
theorem dX1_free_26 : decode cX1_free 26 = .ok (.iload_n 3, 1) := by decide +kernel
theorem dX1_free_27 : decode cX1_free 27 = .ok (.aaload, 1) := by decide +kernel
theorem dX1_free_28 : decode cX1_free 28 = .ok (.iconst 0, 1) := by decide +kernel
theorem dX1_free_29 : decode cX1_free 29 = .ok (.iconst 5, 1) := by decide +kernel
theorem dX1_free_30 : decode cX1_free 30 = .ok (.invokestatic 33, 3) := by decide +kernel
theorem dX1_free_33 : decode cX1_free 33 = .ok (.aload_n 1, 1) := by decide +kernel
theorem dX1_free_34 : decode cX1_free 34 = .ok (.getfield 27, 3) := by decide +kernel
theorem dX1_free_37 : decode cX1_free 37 = .ok (.iload_n 3, 1) := by decide +kernel
theorem dX1_free_38 : decode cX1_free 38 = .ok (.aaload, 1) := by decide +kernel
theorem dX1_free_39 : decode cX1_free 39 = .ok (.iconst 0, 1) := by decide +kernel
theorem dX1_free_40 : decode cX1_free 40 = .ok (.aload_n 0, 1) := by decide +kernel
theorem dX1_free_41 : decode cX1_free 41 = .ok (.getfield 15, 3) := by decide +kernel
theorem dX1_free_44 : decode cX1_free 44 = .ok (.iconst 0, 1) := by decide +kernel
theorem dX1_free_45 : decode cX1_free 45 = .ok (.iconst 5, 1) := by decide +kernel
theorem dX1_free_46 : decode cX1_free 46 = .ok (.invokestatic 33, 3) := by decide +kernel
theorem dX1_free_49 : decode cX1_free 49 = .ok (.aload_n 0, 1) := by decide +kernel
theorem dX1_free_50 : decode cX1_free 50 = .ok (.invokevirtual 39, 3) := by decide +kernel
theorem dX1_free_53 : decode cX1_free 53 = .ok (.iinc 3 1, 3) := by decide +kernel
theorem dX1_free_56 : decode cX1_free 56 = .ok (.goto (-46), 3) := by decide +kernel
theorem dX1_free_59 : decode cX1_free 59 = .ok (.aload_n 0, 1) := by decide +kernel
theorem dX1_free_60 : decode cX1_free 60 = .ok (.aload_n 0, 1) := by decide +kernel
theorem dX1_free_61 : decode cX1_free 61 = .ok (.getfield 9, 3) := by decide +kernel
theorem dX1_free_64 : decode cX1_free 64 = .ok (.invokevirtual 42, 3) := by decide +kernel
theorem dX1_free_67 : decode cX1_free 67 = .ok (.aload_n 0, 1) := by decide +kernel
theorem dX1_free_68 : decode cX1_free 68 = .ok (.getfield 9, 3) := by decide +kernel
theorem dX1_free_71 : decode cX1_free 71 = .ok (.invokestatic 46, 3) := by decide +kernel
theorem dX1_free_74 : decode cX1_free 74 = .ok (.iconst 1, 1) := by decide +kernel
theorem dX1_free_75 : decode cX1_free 75 = .ok (.if_icmp .lt 26, 3) := by decide +kernel
theorem dX1_free_78 : decode cX1_free 78 = .ok (.iconst 0, 1) := by decide +kernel
theorem dX1_free_79 : decode cX1_free 79 = .ok (.istore_n 3, 1) := by decide +kernel
theorem dX1_free_80 : decode cX1_free 80 = .ok (.iload_n 3, 1) := by decide +kernel
theorem dX1_free_81 : decode cX1_free 81 = .ok (.iconst 3, 1) := by decide +kernel
theorem dX1_free_82 : decode cX1_free 82 = .ok (.if_icmp .ge 19, 3) := by decide +kernel
theorem dX1_free_85 : decode cX1_free 85 = .ok (.aload_n 0, 1) := by decide +kernel
theorem dX1_free_86 : decode cX1_free 86 = .ok (.aload_n 2, 1) := by decide +kernel
theorem dX1_free_87 : decode cX1_free 87 = .ok (.getfield 27, 3) := by decide +kernel
theorem dX1_free_90 : decode cX1_free 90 = .ok (.iload_n 3, 1) := by decide +kernel
theorem dX1_free_91 : decode cX1_free 91 = .ok (.aaload, 1) := by decide +kernel
theorem dX1_free_92 : decode cX1_free 92 = .ok (.invokevirtual 50, 3) := by decide +kernel
theorem dX1_free_95 : decode cX1_free 95 = .ok (.iinc 3 1, 3) := by decide +kernel
theorem dX1_free_98 : decode cX1_free 98 = .ok (.goto (-18), 3) := by decide +kernel
theorem dX1_free_101 : decode cX1_free 101 = .ok (.return_, 1) := by decide +kernel
set_option maxHeartbeats 4000000 in
set_option maxRecDepth 100000 in
theorem ct_X1_free (l : Launch) (D : va_G) (ce : Nat → ClassId) (h pl ar : Nat → Nat) (G : Nat → Int) (L : Nat → Nat → Int64) (B : Nat → Int) (J : Nat → Nat → Int64)  : Ct l yX1_free cX1_free 4 none { frames := 3, cells := 0, slots := 0, locals := 85 } 0 0 D (TY ce) [.ref (h 3), .ref (h 1), .ref (h 2)] (cW ce h pl ar G L B J) (QV D (TY ce) (fun w1 => ∃ L2 : Nat → Nat → Int64, w1 = cW ce h pl ar G L2 B J ∧ (∀ k, k ≠ 3 → k ≠ 4 → k ≠ 5 → k ≠ 6 → k ≠ 7 → k ≠ 8 → L2 k = L k))) := by
  refine Ct.ofV (by decide) (Nat.le_of_ble_eq_true rfl) ?_
  intro p e s m args below meth c A Q hX hnm hR
  refine Z.pick (lv' := [(0, .ref (h 3)), (1, .ref (h 1)), (2, .ref (h 2))]) [0, 1, 2] rfl ?_
  refine Z.aload_n hX dX1_free_0 rfl rfl ?_
  refine Z.getf hX 1 3 0 dX1_free_1 rfl rfl inX1 (by decide) fl_X1_9 rfl rfl ?_
  refine Z.lconst (v := 0) hX dX1_free_4 rfl ?_
  refine Z.callS1v (As := [.ref (h 11), .long 0]) (rest := []) hX 11 rfl (ct_J7_fill_d0a16 l D ce ((h 11)) 5 (L 6) 0 (by decide)) mc_J7_fill_d0a16 ml_X1_21 st_J7_fill_d0a16 ini_J7 nd_J7_fill_d0a16 ⟨Nat.le_of_ble_eq_true rfl, Nat.le_of_ble_eq_true rfl⟩ ⟨rfl, rfl⟩ ⟨Nat.le_refl _, Nat.le_refl _⟩ rfl (Nat.le_of_ble_eq_true rfl) dX1_free_5 ?_
  rintro w1 ⟨f22, hw_, hfl⟩
  refine ⟨_, hw_, ?_⟩
  obtain ⟨L3, eL3⟩ : ∃ J' : Nat → Nat → Int64, J' = va_up L 6 (f22) := ⟨_, rfl⟩
  refine Z.toW (w' := cW ce h pl ar G L3 B J) (by rw [eL3]; rfl) ?_
  have gL3 : L3 6 = f22 := by rw [eL3]; exact up_eq
  have fL3 : ∀ j_, j_ ≠ 6 → L3 j_ = L j_ := fun j_ hj_ => by rw [eL3]; exact up_ne hj_
  refine Z.iconst hX dX1_free_8 ?_
  refine Z.istore_n (lv' := [(3, .int (zI 0)), (0, .ref (h 3)), (1, .ref (h 1)), (2, .ref (h 2))]) hX dX1_free_9 rfl (by decide) rfl ?_
  have key_10 : ∀ (N : Nat), ∀ (i : Int) (M : Nat → Nat → Int64), (3 - i).toNat < N → (hi : 0 ≤ i ∧ i ≤ 3) → (hM : ∀ k, k ≠ 3 → k ≠ 4 → k ≠ 5 → k ≠ 6 → k ≠ 7 → k ≠ 8 → M k = L k) → Z p l e { frames := 3, cells := 0, slots := 0, locals := 85 } s m args below meth c D A 4 0 0 Q 10 [(3, .int (zI i)), (2, .ref (h 2)), (1, .ref (h 1)), (0, .ref (h 3))] [] (cW ce h pl ar G M B J) := by
    intro N
    induction N with
    | zero => intro i M hm; exact absurd hm (Nat.not_lt_zero _)
    | succ N ih_10 =>
      intro i M hm hi hM
      refine Z.iload_n hX dX1_free_10 rfl rfl ?_
      refine Z.iconst hX dX1_free_11 ?_
      refine Z.icmp_ge hX 59 dX1_free_12 (by decide) ⟨by omega, by omega⟩ ⟨by omega, by omega⟩ ?_ ?_
      · intro c4
        refine Z.aload_n hX dX1_free_59 rfl rfl ?_
        refine Z.aload_n hX dX1_free_60 rfl rfl ?_
        refine Z.getf hX 1 3 0 dX1_free_61 rfl rfl inX1 (by decide) fl_X1_9 rfl rfl ?_
        refine Z.callVfv (As := [.ref (h 11)]) (rest := []) hX 1 3 rfl rfl (ct_X1_makePrimitive l D ce h pl ar G M B J ) mc_X1_makePrimitive ml_X1_42 im_X1_makePrimitive se_X1_makePrimitive ini_X1 nd_X1_makePrimitive ⟨Nat.le_of_ble_eq_true rfl, Nat.le_of_ble_eq_true rfl⟩ ⟨rfl, rfl⟩ ⟨Nat.le_refl _, Nat.le_refl _⟩ rfl (Nat.le_of_ble_eq_true rfl) dX1_free_64 ?_
        rintro w1 ⟨L26, hw_, hmp⟩
        subst hw_
        refine Z.aload_n hX dX1_free_67 rfl rfl ?_
        refine Z.getf hX 1 3 0 dX1_free_68 rfl rfl inX1 (by decide) fl_X1_9 rfl rfl ?_
        refine Z.callS1i (As := [.ref (h 11)]) (rest := []) hX 11 rfl (ct_X5_topOf l D ce ((h 11)) (L26 6) ) mc_X5_topOf ml_X1_46 st_X5_topOf ini_X5 nd_X5_topOf ⟨Nat.le_of_ble_eq_true rfl, Nat.le_of_ble_eq_true rfl⟩ ⟨rfl, rfl⟩ ⟨Nat.le_refl _, Nat.le_refl _⟩ rfl (Nat.le_of_ble_eq_true rfl) dX1_free_71 ?_
        rintro r_7 w1 ⟨tp, hr_, hw_, t1, t2, t3⟩
        subst hr_
        refine ⟨_, hw_, ?_⟩
        refine Z.toW (w' := cW ce h pl ar G L26 B J) (set_self rfl) ?_
        refine Z.iconst hX dX1_free_74 ?_
        refine Z.icmp_lt hX 101 dX1_free_75 (by decide) ⟨by omega, by omega⟩ ⟨by omega, by omega⟩ ?_ ?_
        · intro c8
          exact hR _ _ _ dX1_free_101 ⟨L26, rfl, (fun j_ h_3 h_4 h_5 h_6 h_7 h_8 => ((hmp j_ h_6).trans (hM j_ h_3 h_4 h_5 h_6 h_7 h_8)))⟩
        · intro c8
          refine Z.iconst hX dX1_free_78 ?_
          refine Z.istore_n (lv' := [(3, .int (zI 0)), (2, .ref (h 2)), (1, .ref (h 1)), (0, .ref (h 3))]) hX dX1_free_79 rfl (by decide) rfl ?_
          have key_80 : ∀ (N : Nat), ∀ (i : Int) (M : Nat → Nat → Int64), (3 - i).toNat < N → (hi2 : 0 ≤ i ∧ i ≤ 3) → (hM : ∀ k, k ≠ 3 → k ≠ 4 → k ≠ 5 → k ≠ 6 → k ≠ 7 → k ≠ 8 → M k = L k) → Z p l e { frames := 3, cells := 0, slots := 0, locals := 85 } s m args below meth c D A 4 0 0 Q 80 [(3, .int (zI i)), (2, .ref (h 2)), (0, .ref (h 3))] [] (cW ce h pl ar G M B J) := by
            intro N
            induction N with
            | zero => intro i M hm; exact absurd hm (Nat.not_lt_zero _)
            | succ N ih_80 =>
              intro i M hm hi2 hM
              refine Z.iload_n hX dX1_free_80 rfl rfl ?_
              refine Z.iconst hX dX1_free_81 ?_
              refine Z.icmp_ge hX 101 dX1_free_82 (by decide) ⟨by omega, by omega⟩ ⟨by omega, by omega⟩ ?_ ?_
              · intro c9
                exact hR _ _ _ dX1_free_101 ⟨M, rfl, (fun j_ h_3 h_4 h_5 h_6 h_7 h_8 => (hM j_ h_3 h_4 h_5 h_6 h_7 h_8))⟩
              · intro c9
                refine Z.aload_n hX dX1_free_85 rfl rfl ?_
                refine Z.aload_n hX dX1_free_86 rfl rfl ?_
                refine Z.getf hX 5 2 0 dX1_free_87 rfl rfl inX5 (by decide) fl_X1_27 rfl rfl ?_
                refine Z.iload_n hX dX1_free_90 rfl rfl ?_
                refine Z.aaload hX 10 3 dX1_free_91 rfl rfl rfl (by omega) (by omega) (by decide) rfl ?_
                refine Z.callVfv (As := [.ref (h (18 + (3 + (i : Int).toNat)))]) (rest := []) hX 1 3 rfl rfl (ct_X1_divideByShared l D ce h pl ar G M B J ((3 + (i : Int).toNat)) (by omega)) mc_X1_divideByShared ml_X1_50 im_X1_divideByShared se_X1_divideByShared ini_X1 nd_X1_divideByShared ⟨Nat.le_of_ble_eq_true rfl, Nat.le_of_ble_eq_true rfl⟩ ⟨rfl, rfl⟩ ⟨Nat.le_refl _, Nat.le_refl _⟩ rfl (Nat.le_of_ble_eq_true rfl) dX1_free_92 ?_
                rintro w1 ⟨L211, hw_, hdv⟩
                subst hw_
                refine Z.iinc (lv' := [(3, .int (zI (i + 1))), (2, .ref (h 2)), (0, .ref (h 3))]) hX dX1_free_95 rfl (by decide) rfl ?_
                refine Z.goto hX 80 dX1_free_98 (by decide) ?_
                refine Z.pick [0, 1, 2] rfl ?_
                exact ih_80 _ _ (by omega) (by omega) (fun j_ h_3 h_4 h_5 h_6 h_7 h_8 => ((hdv j_ (by omega) h_8).trans (hM j_ h_3 h_4 h_5 h_6 h_7 h_8)))
          refine Z.pick [0, 1, 3] rfl ?_
          exact key_80 _ _ _ (Nat.lt_succ_self _) (by omega) (fun j_ h_3 h_4 h_5 h_6 h_7 h_8 => ((hmp j_ h_6).trans (hM j_ h_3 h_4 h_5 h_6 h_7 h_8)))
      · intro c4
        refine Z.aload_n hX dX1_free_15 rfl rfl ?_
        refine Z.getf hX 5 1 0 dX1_free_16 rfl rfl inX5 (by decide) fl_X1_27 rfl rfl ?_
        refine Z.iload_n hX dX1_free_19 rfl rfl ?_
        refine Z.aaload hX 9 3 dX1_free_20 rfl rfl rfl (by omega) (by omega) (by decide) rfl ?_
        refine Z.iconst hX dX1_free_21 ?_
        refine Z.aload_n hX dX1_free_22 rfl rfl ?_
        refine Z.getf hX 5 2 0 dX1_free_23 rfl rfl inX5 (by decide) fl_X1_27 rfl rfl ?_
        refine Z.iload_n hX dX1_free_26 rfl rfl ?_
        refine Z.aaload hX 10 3 dX1_free_27 rfl rfl rfl (by omega) (by omega) (by decide) rfl ?_
        refine Z.iconst hX dX1_free_28 ?_
        refine Z.iconst hX dX1_free_29 ?_
        refine Z.copyA hX (18 + (i : Int).toNat) (18 + (3 + (i : Int).toNat)) 1 dX1_free_30 (cW_in (by omega)) (cW_in (by omega)) rfl rfl (by decide) ml_X1_33 (by decide) (Nat.le_of_ble_eq_true rfl) ?_
        obtain ⟨L12, eL12⟩ : ∃ J' : Nat → Nat → Int64, J' = va_up M ((3 + (i : Int).toNat)) (va_cpy (M ((i : Int).toNat)) (M ((3 + (i : Int).toNat))) 0 0 5) := ⟨_, rfl⟩
        refine Z.toW (w' := cW ce h pl ar G L12 B J) (by rw [eL12]; exact cW_setL (by omega)) ?_
        have gL12 : L12 ((3 + (i : Int).toNat)) = va_cpy (M ((i : Int).toNat)) (M ((3 + (i : Int).toNat))) 0 0 5 := by rw [eL12]; exact up_eq
        have fL12 : ∀ j_, j_ ≠ (3 + (i : Int).toNat) → L12 j_ = M j_ := fun j_ hj_ => by rw [eL12]; exact up_ne hj_
        refine Z.aload_n hX dX1_free_33 rfl rfl ?_
        refine Z.getf hX 5 1 0 dX1_free_34 rfl rfl inX5 (by decide) fl_X1_27 rfl rfl ?_
        refine Z.iload_n hX dX1_free_37 rfl rfl ?_
        refine Z.aaload hX 9 3 dX1_free_38 rfl rfl rfl (by omega) (by omega) (by decide) rfl ?_
        refine Z.iconst hX dX1_free_39 ?_
        refine Z.aload_n hX dX1_free_40 rfl rfl ?_
        refine Z.getf hX 1 3 1 dX1_free_41 rfl rfl inX1 (by decide) fl_X1_15 rfl rfl ?_
        refine Z.iconst hX dX1_free_44 ?_
        refine Z.iconst hX dX1_free_45 ?_
        refine Z.copyA hX (18 + (i : Int).toNat) 12 1 dX1_free_46 (cW_in (by omega)) rfl rfl rfl (by decide) ml_X1_33 (by decide) (Nat.le_of_ble_eq_true rfl) ?_
        obtain ⟨L13, eL13⟩ : ∃ J' : Nat → Nat → Int64, J' = va_up L12 7 (va_cpy (L12 ((i : Int).toNat)) (L12 7) 0 0 5) := ⟨_, rfl⟩
        refine Z.toW (w' := cW ce h pl ar G L13 B J) (by rw [eL13]; rfl) ?_
        have gL13 : L13 7 = va_cpy (L12 ((i : Int).toNat)) (L12 7) 0 0 5 := by rw [eL13]; exact up_eq
        have fL13 : ∀ j_, j_ ≠ 7 → L13 j_ = L12 j_ := fun j_ hj_ => by rw [eL13]; exact up_ne hj_
        refine Z.aload_n hX dX1_free_49 rfl rfl ?_
        refine Z.callVfv (As := []) (rest := []) hX 1 3 rfl rfl (ct_X1_shareWithOther l D ce h pl ar G L13 B J ) mc_X1_shareWithOther ml_X1_39 im_X1_shareWithOther se_X1_shareWithOther ini_X1 nd_X1_shareWithOther ⟨Nat.le_of_ble_eq_true rfl, Nat.le_of_ble_eq_true rfl⟩ ⟨rfl, rfl⟩ ⟨Nat.le_refl _, Nat.le_refl _⟩ rfl (Nat.le_of_ble_eq_true rfl) dX1_free_50 ?_
        rintro w1 ⟨L215, hw_, hsw⟩
        subst hw_
        refine Z.iinc (lv' := [(3, .int (zI (i + 1))), (2, .ref (h 2)), (1, .ref (h 1)), (0, .ref (h 3))]) hX dX1_free_53 rfl (by decide) rfl ?_
        refine Z.goto hX 10 dX1_free_56 (by decide) ?_
        refine Z.pick [0, 1, 2, 3] rfl ?_
        exact ih_10 _ _ (by omega) (by omega) (fun j_ h_3 h_4 h_5 h_6 h_7 h_8 => ((hsw j_ h_6 h_7 h_8).trans ((fL13 j_ h_7).trans ((fL12 j_ (by omega)).trans (hM j_ h_3 h_4 h_5 h_6 h_7 h_8)))))
  refine Z.pick [0, 3, 2, 1] rfl ?_
  exact key_10 _ _ _ (Nat.lt_succ_self _) (by omega) (fun j_ h_3 h_4 h_5 h_6 h_7 h_8 => ((fL3 j_ h_6).trans rfl))
end
section
/-! polynomials as functions; what two of them generate, up to whole factors -/
def sh (p : Nat → Int) : Nat → Int := fun i => match i with
  | 0 => 0
  | k + 1 => p k
def shN : Nat → (Nat → Int) → Nat → Int
  | 0, p => p
  | k + 1, p => sh (shN k p)
theorem shN_at (p : Nat → Int) : ∀ k i, shN k p i = if i < k then 0 else p (i - k)
  | 0, i => by rw [if_neg (Nat.not_lt_zero i)]; rfl
  | k + 1, 0 => by rw [if_pos (Nat.succ_pos k)]; rfl
  | k + 1, i + 1 => by
    show shN k p i = _
    rw [shN_at p k i]
    by_cases h : i < k
    · rw [if_pos h, if_pos (by omega)]
    · rw [if_neg h, if_neg (by omega), show i + 1 - (k + 1) = i - k by omega]
def Cl (S : (Nat → Int) → Prop) : Prop := (∀ a b : Nat → Int, S a → S b → S (fun i => a i + b i)) ∧ (∀ (c : Int) (a : Nat → Int), S a → S (fun i => c * a i)) ∧ (∀ a : Nat → Int, S a → S (sh a)) ∧ (∀ (n : Int) (a : Nat → Int), n ≠ 0 → S (fun i => n * a i) → S a)
theorem Cl.shN {S : (Nat → Int) → Prop} (h : Cl S) {a : Nat → Int} (ha : S a) : ∀ k, S (shN k a)
  | 0 => ha
  | k + 1 => h.2.2.1 _ (Cl.shN h ha k)
def RS (X Y p : Nat → Int) : Prop := ∀ S : (Nat → Int) → Prop, Cl S → S X → S Y → S p
def EQ2 (X Y A B : Nat → Int) : Prop := RS X Y A ∧ RS X Y B ∧ RS A B X ∧ RS A B Y
theorem EQ2.rf (X Y : Nat → Int) : EQ2 X Y X Y := ⟨fun _ _ h _ => h, fun _ _ _ h => h, fun _ _ h _ => h, fun _ _ _ h => h⟩
theorem EQ2.tr {X Y A B C D : Nat → Int} (h1 : EQ2 X Y A B) (h2 : EQ2 A B C D) : EQ2 X Y C D := ⟨fun S c x y => h2.1 S c (h1.1 S c x y) (h1.2.1 S c x y), fun S c x y => h2.2.1 S c (h1.1 S c x y) (h1.2.1 S c x y), fun S c x y => h1.2.2.1 S c (h2.2.2.1 S c x y) (h2.2.2.2 S c x y), fun S c x y => h1.2.2.2 S c (h2.2.2.1 S c x y) (h2.2.2.2 S c x y)⟩
theorem EQ2.sm {X Y A B : Nat → Int} (h : EQ2 X Y A B) : EQ2 A B X Y := ⟨h.2.2.1, h.2.2.2, h.1, h.2.1⟩
theorem EQ2.sw {X Y A B : Nat → Int} (h : EQ2 X Y A B) : EQ2 X Y B A := ⟨h.2.1, h.1, fun S c x y => h.2.2.1 S c y x, fun S c x y => h.2.2.2 S c y x⟩
theorem EQ2.low {A B A1 : Nat → Int} {m sf ot : Int} {k : Nat} (hm : m ≠ 0) (hs : sf ≠ 0) (h : ∀ i, m * A1 i = sf * A i - ot * shN k B i) : EQ2 A B A1 B := by
  refine ⟨fun S c a b => ?_, fun _ _ _ b => b, fun S c a b => ?_, fun _ _ _ b => b⟩
  · refine c.2.2.2 m A1 hm ?_
    have e : (fun i => m * A1 i) = fun i => sf * A i + (-ot) * shN k B i := funext fun i => by rw [h i, Int.neg_mul]; omega
    rw [e]
    exact c.1 _ _ (c.2.1 sf _ a) (c.2.1 (-ot) _ (c.shN b k))
  · refine c.2.2.2 sf A hs ?_
    have e : (fun i => sf * A i) = fun i => m * A1 i + ot * shN k B i := funext fun i => by rw [h i]; omega
    rw [e]
    exact c.1 _ _ (c.2.1 m _ a) (c.2.1 ot _ (c.shN b k))
theorem EQ2.sc {A B A1 : Nat → Int} {m n : Int} (hm : m ≠ 0) (hn : n ≠ 0) (h : ∀ i, m * A1 i = n * A i) : EQ2 A B A1 B := EQ2.low (ot := 0) (k := 0) hm hn (fun i => by rw [h i, Int.zero_mul, Int.sub_zero])
def conv : List Int → (Nat → Int) → Nat → Int
  | [], _ => fun _ => 0
  | a :: c, g => fun i => a * g i + sh (conv c g) i
theorem conv_s (a : Int) (c : List Int) (g : Nat → Int) (i : Nat) : conv (a :: c) g (i + 1) = a * g (i + 1) + conv c g i := rfl
theorem conv_0 (a : Int) (c : List Int) (g : Nat → Int) : conv (a :: c) g 0 = a * g 0 := by
  show a * g 0 + 0 = _
  omega
def ladd : List Int → List Int → List Int
  | [], d => d
  | c, [] => c
  | a :: c, b :: d => (a + b) :: ladd c d
theorem conv_add (g : Nat → Int) : ∀ (c d : List Int) (i : Nat), conv (ladd c d) g i = conv c g i + conv d g i
  | [], d, i => by
    show conv d g i = 0 + conv d g i
    omega
  | a :: c, [], i => by
    show conv (a :: c) g i = conv (a :: c) g i + 0
    omega
  | a :: c, b :: d, 0 => by
    show conv ((a + b) :: ladd c d) g 0 = _
    rw [conv_0, conv_0, conv_0, Int.add_mul]
  | a :: c, b :: d, i + 1 => by
    show conv ((a + b) :: ladd c d) g (i + 1) = _
    rw [conv_s, conv_s, conv_s, conv_add g c d i, Int.add_mul]
    omega
theorem conv_mul (g : Nat → Int) (k : Int) : ∀ (c : List Int) (i : Nat), conv (c.map (fun x => k * x)) g i = k * conv c g i
  | [], i => by
    show (0 : Int) = k * 0
    omega
  | a :: c, 0 => by
    show conv ((k * a) :: c.map (fun x => k * x)) g 0 = _
    rw [conv_0, conv_0, Int.mul_assoc]
  | a :: c, i + 1 => by
    show conv ((k * a) :: c.map (fun x => k * x)) g (i + 1) = _
    rw [conv_s, conv_s, conv_mul g k c i, Int.mul_add, Int.mul_assoc]
theorem conv_sh (g : Nat → Int) (c : List Int) : ∀ i, conv (0 :: c) g i = sh (conv c g) i
  | 0 => by rw [conv_0, Int.zero_mul]; rfl
  | i + 1 => by
    rw [conv_s, Int.zero_mul, Int.zero_add]
    rfl
theorem conv_z {g : Nat → Int} (hg : ∀ i, g i = 0) : ∀ (c : List Int) (i : Nat), conv c g i = 0
  | [], _ => rfl
  | a :: c, 0 => by rw [conv_0, hg, Int.mul_zero]
  | a :: c, i + 1 => by rw [conv_s, hg, Int.mul_zero, conv_z hg c i]; rfl
def MS (g : Nat → Int) (p : Nat → Int) : Prop := ∃ n : Int, n ≠ 0 ∧ ∃ c : List Int, ∀ i, n * p i = conv c g i
theorem MS.cl (g : Nat → Int) : Cl (MS g) := by
  refine ⟨?_, ?_, ?_, ?_⟩
  · rintro a b ⟨n, hn, c, hc⟩ ⟨m, hm, d, hd⟩
    refine ⟨n * m, Int.mul_ne_zero hn hm, ladd (c.map (fun x => m * x)) (d.map (fun x => n * x)), fun i => ?_⟩
    rw [conv_add, conv_mul, conv_mul, ← hc i, ← hd i, Int.mul_add, Int.mul_assoc, Int.mul_assoc, Int.mul_left_comm m n (a i)]
  · rintro k a ⟨n, hn, c, hc⟩
    refine ⟨n, hn, c.map (fun x => k * x), fun i => ?_⟩
    rw [conv_mul, ← hc i, Int.mul_left_comm]
  · rintro a ⟨n, hn, c, hc⟩
    refine ⟨n, hn, 0 :: c, fun i => ?_⟩
    rw [conv_sh]
    cases i with
    | zero => show n * 0 = 0; omega
    | succ i => exact hc i
  · rintro k a hk ⟨n, hn, c, hc⟩
    refine ⟨n * k, Int.mul_ne_zero hn hk, c, fun i => ?_⟩
    rw [Int.mul_assoc]
    exact hc i
def p0 : Nat → Int := fun _ => 0
theorem RS.ms {g p : Nat → Int} (h : RS g p0 p) : MS g p := h _ (MS.cl g) ⟨1, by decide, [1], fun i => by
    cases i with
    | zero => rw [conv_0]
    | succ i => rw [conv_s]; show _ = _ + 0; omega⟩ ⟨1, by decide, [], fun i => by show 1 * (0 : Int) = 0; decide⟩
def top (g : Nat → Int) (d : Nat) : Prop := g d ≠ 0 ∧ ∀ i, d < i → g i = 0
theorem convZ {g : Nat → Int} {d : Nat} (hg : top g d) : ∀ c : List Int, (∀ j, d ≤ j → conv c g j = 0) → ∀ i, conv c g i = 0
  | [], _, _ => rfl
  | a :: c, h, i => by
    have h1 : ∀ j, d ≤ j → conv c g j = 0 := fun j hj => by
      have h2 := h (j + 1) (by omega)
      rw [conv_s, hg.2 (j + 1) (by omega), Int.mul_zero, Int.zero_add] at h2
      exact h2
    have h3 := convZ hg c h1
    have h4 : ∀ i, conv (a :: c) g i = a * g i := fun i => by
      cases i with
      | zero => rw [conv_0]
      | succ i => rw [conv_s, h3 i, Int.add_zero]
    have h5 := h d (Nat.le_refl d)
    rw [h4 d] at h5
    have h6 : a = 0 := (Int.mul_eq_zero.mp h5).resolve_right hg.1
    rw [h4 i, h6, Int.zero_mul]
theorem convH {g : Nat → Int} {d : Nat} (hg : top g d) {c : List Int} (h : ∀ j, d < j → conv c g j = 0) : ∃ k : Int, ∀ i, conv c g i = k * g i := by
  cases c with
  | nil => exact ⟨0, fun i => by rw [Int.zero_mul]; rfl⟩
  | cons a c =>
    have h1 : ∀ j, d ≤ j → conv c g j = 0 := fun j hj => by
      have h2 := h (j + 1) (by omega)
      rw [conv_s, hg.2 (j + 1) (by omega), Int.mul_zero, Int.zero_add] at h2
      exact h2
    have h3 := convZ hg c h1
    refine ⟨a, fun i => ?_⟩
    cases i with
    | zero => rw [conv_0]
    | succ i => rw [conv_s, h3 i, Int.add_zero]
def Pr (g : Nat → Int) : Prop := ∀ m : Nat, (∀ i, (m : Int) ∣ g i) → m = 1
theorem Pr.dv {g : Nat → Int} (pr : Pr g) {c n : Int} (hc : c ≠ 0) (h : ∀ i, c ∣ n * g i) : c ∣ n := by
  have hC : 0 < c.natAbs := Int.natAbs_pos.mpr hc
  have hd : 0 < Nat.gcd c.natAbs n.natAbs := Nat.gcd_pos_of_pos_left _ hC
  obtain ⟨C1, hC1⟩ := Nat.gcd_dvd_left c.natAbs n.natAbs
  obtain ⟨N1, hN1⟩ := Nat.gcd_dvd_right c.natAbs n.natAbs
  have hco : Nat.Coprime C1 N1 := by
    have h1 := Nat.coprime_div_gcd_div_gcd (m := c.natAbs) (n := n.natAbs) hd
    have e1 : c.natAbs / Nat.gcd c.natAbs n.natAbs = C1 := Nat.div_eq_of_eq_mul_right hd hC1
    have e2 : n.natAbs / Nat.gcd c.natAbs n.natAbs = N1 := Nat.div_eq_of_eq_mul_right hd hN1
    rw [e1, e2] at h1
    exact h1
  have h2 : C1 = 1 := pr C1 (fun i => by
    have h3 : c.natAbs ∣ n.natAbs * (g i).natAbs := by
      rw [← Int.natAbs_mul]
      exact Int.natAbs_dvd_natAbs.mpr (h i)
    generalize Nat.gcd c.natAbs n.natAbs = d at *
    rw [hC1, hN1, Nat.mul_assoc] at h3
    have h4 : C1 ∣ N1 * (g i).natAbs := Nat.dvd_of_mul_dvd_mul_left hd h3
    have h5 : C1 ∣ (g i).natAbs := Nat.Coprime.dvd_of_dvd_mul_left hco h4
    exact Int.ofNat_dvd_left.mpr h5)
  rw [h2, Nat.mul_one] at hC1
  apply Int.natAbs_dvd_natAbs.mp
  rw [hC1]
  exact Nat.gcd_dvd_right _ _
def Nm (g : Nat → Int) : Prop := (∀ i, g i = 0) ∨ ∃ d, top g d ∧ 0 < g d ∧ Pr g
theorem uniq {g g1 : Nat → Int} (h : EQ2 g p0 g1 p0) (n1 : Nm g) (n2 : Nm g1) : ∀ i, g i = g1 i := by
  obtain ⟨n, hn, c, hc⟩ := RS.ms h.1
  obtain ⟨m, hm, e, he⟩ := RS.ms h.2.2.1
  rcases n1 with z | ⟨d, td, pd, pr⟩
  · intro i
    have h1 := hc i
    rw [conv_z z] at h1
    rw [z i, (Int.mul_eq_zero.mp h1).resolve_left hn]
  · rcases n2 with z | ⟨d1, td1, pd1, pr1⟩
    · have h1 := he d
      rw [conv_z z] at h1
      exact absurd ((Int.mul_eq_zero.mp h1).resolve_left hm) td.1
    · have hle : d ≤ d1 := Nat.le_of_not_lt fun q => by
        have h1 := convZ td c (fun j hj => by rw [← hc j, td1.2 j (by omega), Int.mul_zero]) d1
        rw [← hc d1] at h1
        exact td1.1 ((Int.mul_eq_zero.mp h1).resolve_left hn)
      have hge : d1 ≤ d := Nat.le_of_not_lt fun q => by
        have h1 := convZ td1 e (fun j hj => by rw [← he j, td.2 j (by omega), Int.mul_zero]) d
        rw [← he d] at h1
        exact td.1 ((Int.mul_eq_zero.mp h1).resolve_left hm)
      have hdd : d1 = d := Nat.le_antisymm hge hle
      subst hdd
      obtain ⟨k, hk⟩ := convH td (c := c) (fun j hj => by rw [← hc j, td1.2 j hj, Int.mul_zero])
      have hp : ∀ i, n * g1 i = k * g i := fun i => (hc i).trans (hk i)
      have hk0 : k ≠ 0 := fun q => by
        have h1 := hp d1
        rw [q, Int.zero_mul] at h1
        exact td1.1 ((Int.mul_eq_zero.mp h1).resolve_left hn)
      have a1 : k ∣ n := pr1.dv hk0 (fun i => by rw [hp i]; exact Int.dvd_mul_right k _)
      have a2 : n ∣ k := pr.dv hn (fun i => by rw [← hp i]; exact Int.dvd_mul_right n _)
      have a3 : n.natAbs = k.natAbs := Nat.dvd_antisymm (Int.natAbs_dvd_natAbs.mpr a2) (Int.natAbs_dvd_natAbs.mpr a1)
      have a4 : n = k := by
        rcases Int.natAbs_eq_natAbs_iff.mp a3 with q | q
        · exact q
        · exfalso
          have h1 := hp d1
          rw [q, Int.neg_mul] at h1
          rcases Int.lt_or_gt_of_ne hk0 with z | z
          · have b1 : 0 < (-k) * g1 d1 := Int.mul_pos (by omega) pd1
            have b2 : 0 < (-k) * g d1 := Int.mul_pos (by omega) pd
            rw [Int.neg_mul] at b1 b2
            omega
          · have b1 : 0 < k * g1 d1 := Int.mul_pos z pd1
            have b2 : 0 < k * g d1 := Int.mul_pos z pd
            omega
      intro i
      have h1 := hp i
      rw [a4] at h1
      exact (Int.eq_of_mul_eq_mul_left hk0 h1).symm
end
section
/-! Gauss: a primitive divisor divides with whole quotients -/
theorem dv_r {p b : Int} (a : Int) (h : p ∣ b) : p ∣ a * b := by
  obtain ⟨k, hk⟩ := h
  exact ⟨a * k, by rw [hk, Int.mul_left_comm]⟩
theorem dv_l {p a : Int} (b : Int) (h : p ∣ a) : p ∣ a * b := by
  obtain ⟨k, hk⟩ := h
  exact ⟨k * b, by rw [hk, Int.mul_assoc]⟩
def Irr (p : Nat) : Prop := 2 ≤ p ∧ ∀ q, 2 ≤ q → q ∣ p → q = p
theorem irr_ex : ∀ (K N : Nat), N ≤ K → 2 ≤ N → ∃ p, Irr p ∧ p ∣ N
  | 0, N, h1, h2 => by omega
  | K + 1, N, h1, h2 => by
    by_cases h : ∃ q, 2 ≤ q ∧ q ∣ N ∧ q ≠ N
    · obtain ⟨q, q2, qd, qn⟩ := h
      have qle : q ≤ N := Nat.le_of_dvd (by omega) qd
      obtain ⟨p, hp, hpd⟩ := irr_ex K q (by omega) q2
      exact ⟨p, hp, Nat.dvd_trans hpd qd⟩
    · refine ⟨N, ⟨h2, fun q q2 qd => ?_⟩, Nat.dvd_refl N⟩
      by_cases e : q = N
      · exact e
      · exact absurd ⟨q, q2, qd, e⟩ h
theorem Irr.pm {p : Nat} (hp : Irr p) {a b : Int} (h : (p : Int) ∣ a * b) (hb : ¬ (p : Int) ∣ b) : (p : Int) ∣ a := by
  have h1 : p ∣ a.natAbs * b.natAbs := by
    rw [← Int.natAbs_mul]
    exact Int.ofNat_dvd_left.mp h
  have hg : Nat.gcd p b.natAbs = 1 := by
    have hpos : 0 < Nat.gcd p b.natAbs := Nat.gcd_pos_of_pos_left _ (by have := hp.1; omega)
    by_cases h2 : 2 ≤ Nat.gcd p b.natAbs
    · have h3 := hp.2 _ h2 (Nat.gcd_dvd_left p b.natAbs)
      exfalso
      apply hb
      apply Int.ofNat_dvd_left.mpr
      have h4 := Nat.gcd_dvd_right p b.natAbs
      rw [h3] at h4
      exact h4
    · omega
  exact Int.ofNat_dvd_left.mpr (Nat.Coprime.dvd_of_dvd_mul_right (show Nat.Coprime p b.natAbs from hg) h1)
theorem first_ex {P : Nat → Prop} : ∀ (K i : Nat), i ≤ K → P i → ∃ j, P j ∧ ∀ k, k < j → ¬ P k
  | 0, i, h1, h2 => ⟨i, h2, fun k hk => by omega⟩
  | K + 1, i, h1, h2 => by
    by_cases h : ∃ k, k < i ∧ P k
    · obtain ⟨k, hk, hp⟩ := h
      exact first_ex K k (by omega) hp
    · exact ⟨i, h2, fun k hk q => h ⟨k, hk, q⟩⟩
theorem conv_lo {g : Nat → Int} {p : Int} {i0 : Nat} (hg : ∀ j, j < i0 → p ∣ g j) : ∀ (c : List Int) (j : Nat), j < i0 → p ∣ conv c g j
  | [], j, _ => Int.dvd_zero p
  | a :: c, 0, h => by
    rw [conv_0]
    exact dv_r a (hg 0 h)
  | a :: c, j + 1, h => by
    rw [conv_s]
    exact Int.dvd_add (dv_r a (hg (j + 1) h)) (conv_lo hg c j (by omega))
theorem conv_pm {g : Nat → Int} {p : Nat} (hp : Irr p) {i0 : Nat} (h0 : ¬ (p : Int) ∣ g i0) (hg : ∀ j, j < i0 → (p : Int) ∣ g j) : ∀ c : List Int, (∀ i, (p : Int) ∣ conv c g i) → ∃ d : List Int, c = d.map (fun x => (p : Int) * x)
  | [], _ => ⟨[], rfl⟩
  | a :: c, h => by
    have h1 : (p : Int) ∣ a * g i0 := by
      cases i0 with
      | zero => have := h 0; rw [conv_0] at this; exact this
      | succ i =>
        have h2 := h (i + 1)
        rw [conv_s] at h2
        exact (Int.dvd_add_left (conv_lo hg c i (by omega))).mp h2
    obtain ⟨a1, ha1⟩ := hp.pm h1 h0
    obtain ⟨d, hd⟩ := conv_pm hp h0 hg c (fun i => by
      have h2 := h (i + 1)
      rw [conv_s] at h2
      exact (Int.dvd_add_right (dv_l (g (i + 1)) ⟨a1, ha1⟩)).mp h2)
    exact ⟨a1 :: d, by rw [ha1, hd]; rfl⟩
theorem gauss {g : Nat → Int} (pr : Pr g) : ∀ (K : Nat) (n : Int) (c : List Int) (X : Nat → Int), n.natAbs ≤ K → n ≠ 0 → (∀ i, n * X i = conv c g i) → ∃ h : List Int, ∀ i, X i = conv h g i
  | 0, n, c, X, h1, h2, _ => by
    exfalso
    have := Int.natAbs_pos.mpr h2
    omega
  | K + 1, n, c, X, h1, h2, h => by
    by_cases hN : 2 ≤ n.natAbs
    · obtain ⟨p, hp, hpd⟩ := irr_ex _ _ (Nat.le_refl _) hN
      have hpn : (p : Int) ∣ n := Int.ofNat_dvd_left.mpr hpd
      obtain ⟨m, hm⟩ := hpn
      have hp0 : (p : Int) ≠ 0 := by have := hp.1; omega
      have hex : ∃ i, ¬ (p : Int) ∣ g i := by
        by_cases q : ∃ i, ¬ (p : Int) ∣ g i
        · exact q
        · exfalso
          have h3 := pr p (fun i => Classical.byContradiction fun z => q ⟨i, z⟩)
          have := hp.1
          omega
      obtain ⟨i, hi⟩ := hex
      obtain ⟨i0, h0, hlo⟩ := first_ex (P := fun i => ¬ (p : Int) ∣ g i) i i (Nat.le_refl i) hi
      obtain ⟨d, hd⟩ := conv_pm hp h0 (fun j hj => Classical.byContradiction fun z => hlo j hj z) c (fun i => by rw [← h i, hm, Int.mul_assoc]; exact Int.dvd_mul_right _ _)
      have hm0 : m ≠ 0 := fun q => h2 (by rw [hm, q, Int.mul_zero])
      have hlt : m.natAbs < n.natAbs := by
        have e : n.natAbs = p * m.natAbs := by rw [hm, Int.natAbs_mul, Int.natAbs_natCast]
        have := Int.natAbs_pos.mpr hm0
        have := hp.1
        rw [e]
        exact Nat.lt_of_lt_of_le (by omega : m.natAbs < 2 * m.natAbs) (Nat.mul_le_mul_right _ hp.1)
      refine gauss pr K m d X (by omega) hm0 (fun i => ?_)
      have h3 := h i
      rw [hd, conv_mul, hm, Int.mul_assoc] at h3
      exact Int.eq_of_mul_eq_mul_left hp0 h3
    · have h3 : n.natAbs = 1 := by have := Int.natAbs_pos.mpr h2; omega
      rcases Int.natAbs_eq n with q | q
      · refine ⟨c, fun i => ?_⟩
        have h4 := h i
        rw [q, h3] at h4
        rw [← h4]
        show _ = 1 * X i
        omega
      · refine ⟨c.map (fun x => (-1) * x), fun i => ?_⟩
        have h4 := h i
        rw [q, h3] at h4
        rw [conv_mul, ← h4]
        show X i = -1 * (-1 * X i)
        omega
/-- a factor's first and last numbers divide numbers of the product -/
theorem conv_tp {g : Nat → Int} {d : Nat} (hg : top g d) : ∀ c : List Int, (∀ i, conv c g i = 0) ∨ ∃ i x, d ≤ i ∧ x ≠ 0 ∧ conv c g i = x * g d
  | [] => Or.inl fun _ => rfl
  | a :: c => by
    rcases conv_tp hg c with h | ⟨i, x, h1, h2, h3⟩
    · have h4 : ∀ i, conv (a :: c) g i = a * g i := fun i => by
        cases i with
        | zero => rw [conv_0]
        | succ i => rw [conv_s, h i, Int.add_zero]
      by_cases ha : a = 0
      · exact Or.inl fun i => by rw [h4 i, ha, Int.zero_mul]
      · exact Or.inr ⟨d, a, Nat.le_refl d, ha, h4 d⟩
    · exact Or.inr ⟨i + 1, x, by omega, h2, by rw [conv_s, hg.2 (i + 1) (by omega), Int.mul_zero, Int.zero_add, h3]⟩
theorem conv_lw {g : Nat → Int} {l : Nat} (hl : ∀ j, j < l → g j = 0) : ∀ c : List Int, (∀ i, conv c g i = 0) ∨ ∃ i x, x ≠ 0 ∧ conv c g i = x * g l
  | [] => Or.inl fun _ => rfl
  | a :: c => by
    by_cases ha : a = 0
    · subst ha
      rcases conv_lw hl c with h | ⟨i, x, h2, h3⟩
      · exact Or.inl fun i => by
          cases i with
          | zero => rw [conv_0, Int.zero_mul]
          | succ i => rw [conv_s, h i, Int.zero_mul, Int.add_zero]
      · exact Or.inr ⟨i + 1, x, h2, by rw [conv_s, Int.zero_mul, Int.zero_add, h3]⟩
    · refine Or.inr ⟨l, a, ha, ?_⟩
      cases l with
      | zero => rw [conv_0]
      | succ l =>
        have h4 : ∀ (c : List Int) (j : Nat), j ≤ l → conv c g j = 0 := fun c => by
          induction c with
          | nil => intro j _; rfl
          | cons b c ih =>
            intro j hj
            cases j with
            | zero => rw [conv_0, hl 0 (by omega), Int.mul_zero]
            | succ j => rw [conv_s, hl (j + 1) (by omega), Int.mul_zero, ih j (by omega)]; rfl
        rw [conv_s, h4 c l (Nat.le_refl l), Int.add_zero]
def bx (B : Nat) (p : Nat → Int) : Prop := ∀ i, (p i).natAbs ≤ B
theorem fac_le {x y : Int} {B : Nat} (h : (x * y).natAbs ≤ B) (hx : x ≠ 0) : y.natAbs ≤ B := by
  rw [Int.natAbs_mul] at h
  have h1 := Int.natAbs_pos.mpr hx
  exact Nat.le_trans (Nat.le_mul_of_pos_left _ h1) h
theorem top_le {X g : Nat → Int} {d : Nat} {c : List Int} {B : Nat} (hX : bx B X) (hg : top g d) (h : ∀ i, X i = conv c g i) (hn : ¬ ∀ i, X i = 0) : (g d).natAbs ≤ B := by
  rcases conv_tp hg c with q | ⟨i, x, -, q1, q2⟩
  · exact absurd (fun i => (h i).trans (q i)) hn
  · exact fac_le (by rw [← q2, ← h i]; exact hX i) q1
theorem low_le {X g : Nat → Int} {l : Nat} {c : List Int} {B : Nat} (hX : bx B X) (hl : ∀ j, j < l → g j = 0) (h : ∀ i, X i = conv c g i) (hn : ¬ ∀ i, X i = 0) : (g l).natAbs ≤ B := by
  rcases conv_lw hl c with q | ⟨i, x, q1, q2⟩
  · exact absurd (fun i => (h i).trans (q i)) hn
  · exact fac_le (by rw [← q2, ← h i]; exact hX i) q1
/-- the quotient's numbers, by the degrees -/
theorem conv_peel {g : Nat → Int} {d e : Nat} (hg : top g d) (hde : d ≤ e) {c : List Int} (h : ∀ j, e < j → conv c g j = 0) (hlt : d < e + 1) : d = e ∨ ∃ (a : Int) (c1 : List Int), (∀ i, conv c g i = a * g i + sh (conv c1 g) i) ∧ ∀ j, e - 1 < j → conv c1 g j = 0 := by
  by_cases q : d = e
  · exact Or.inl q
  · right
    cases c with
    | nil => exact ⟨0, [], fun i => by rw [Int.zero_mul]; cases i <;> rfl, fun j _ => rfl⟩
    | cons a c =>
      refine ⟨a, c, fun i => rfl, fun j hj => ?_⟩
      have h2 := h (j + 1) (by omega)
      rw [conv_s, hg.2 (j + 1) (by omega), Int.mul_zero, Int.zero_add] at h2
      exact h2
end
section
/-! how great the common divisor of two polynomials of the box can be -/
theorem rs_zero {g : Nat → Int} {X Y : Nat → Int} (hX : ∀ i, X i = 0) (hY : ∀ i, Y i = 0) (h : RS X Y g) : ∀ i, g i = 0 := by
  refine h (fun p => ∀ i, p i = 0) ⟨fun a b ha hb i => by show a i + b i = 0; rw [ha i, hb i]; rfl, fun c a ha i => by show c * a i = 0; rw [ha i, Int.mul_zero], fun a ha i => by cases i with | zero => rfl | succ i => exact ha i, fun n a hn ha i => ?_⟩ hX hY
  exact (Int.mul_eq_zero.mp (ha i)).resolve_left hn
theorem ms_self (g : Nat → Int) : MS g g := ⟨1, by decide, [1], fun i => by
    cases i with
    | zero => rw [conv_0]
    | succ i => rw [conv_s]; show _ = _ + 0; omega⟩
theorem MS.deg {X g : Nat → Int} {d e : Nat} (h : MS X g) (tX : top X e) (tg : top g d) : e ≤ d := Nat.le_of_not_lt fun q => by
  obtain ⟨n, hn, c, hc⟩ := h
  have h1 := convZ tX c (fun j hj => by rw [← hc j, tg.2 j (by omega), Int.mul_zero]) d
  rw [← hc d] at h1
  exact tg.1 ((Int.mul_eq_zero.mp h1).resolve_left hn)
/-- both lie in the multiples of one: that one's degree is no greater than the divisor's -/
theorem RS.deg {X Y Z g : Nat → Int} {d e : Nat} (h : RS X Y g) (hX : MS Z X) (hY : MS Z Y) (tZ : top Z e) (tg : top g d) : e ≤ d := MS.deg (h _ (MS.cl Z) hX hY) tZ tg
theorem quo {X g : Nat → Int} (pr : Pr g) (h : RS g p0 X) : ∃ c : List Int, ∀ i, X i = conv c g i := by
  obtain ⟨n, hn, c, hc⟩ := RS.ms h
  exact gauss pr _ n c X (Nat.le_refl _) hn hc
theorem bx_mul {g X : Nat → Int} {k : Int} {B : Nat} (hk : k ≠ 0) (h : ∀ i, X i = k * g i) (hX : bx B X) : bx B g := fun i => fac_le (by rw [← h i]; exact hX i) hk
theorem gb4 {X g : Nat → Int} {c : List Int} {B : Nat} (hX : bx B X) (sX : ∀ i, 4 < i → X i = 0) (tg : top g 4) (h : ∀ i, X i = conv c g i) (hn : ¬ ∀ i, X i = 0) : bx B g := by
  obtain ⟨k, hk⟩ := convH tg (c := c) (fun j hj => by rw [← h j]; exact sX j hj)
  refine bx_mul (k := k) (fun q => hn fun i => ?_) (fun i => (h i).trans (hk i)) hX
  rw [h i, hk i, q, Int.zero_mul]
theorem gb0 {g : Nat → Int} (pr : Pr g) (tg : top g 0) : bx 1 g := by
  intro i
  cases i with
  | zero =>
    have h1 := pr (g 0).natAbs (fun i => by
      cases i with
      | zero => exact Int.natAbs_dvd.mpr (Int.dvd_refl _)
      | succ i => rw [tg.2 (i + 1) (by omega)]; exact Int.dvd_zero _)
    omega
  | succ i => rw [tg.2 (i + 1) (by omega)]; decide
theorem gb1 {X g : Nat → Int} {c : List Int} {B : Nat} (hX : bx B X) (tg : top g 1) (h : ∀ i, X i = conv c g i) (hn : ¬ ∀ i, X i = 0) : bx B g := by
  intro i
  match i with
  | 0 => exact low_le hX (fun j hj => by omega) h hn
  | 1 => exact top_le hX tg h hn
  | i + 2 => rw [tg.2 (i + 2) (by omega)]; exact Nat.zero_le _
theorem gb2 {X g : Nat → Int} {c : List Int} (hX : bx 7 X) (sX : ∀ i, 4 < i → X i = 0) (tg : top g 2) (h : ∀ i, X i = conv c g i) (hn : ¬ ∀ i, X i = 0) : bx 105 g := by
  have hu := top_le hX tg h hn
  have hw := low_le (l := 0) hX (fun j hj => by omega) h hn
  obtain ⟨h0, c1, e1, z1⟩ := (conv_peel tg (e := 4) (by omega) (c := c) (fun j hj => by rw [← h j]; exact sX j hj) (by omega)).resolve_left (by omega)
  obtain ⟨h1, c2, e2, z2⟩ := (conv_peel tg (e := 3) (by omega) (c := c1) (fun j hj => z1 j (by omega)) (by omega)).resolve_left (by omega)
  obtain ⟨h2, e3⟩ := convH tg (c := c2) (fun j hj => z2 j (by omega))
  have X0 : X 0 = h0 * g 0 := by rw [h 0, e1 0]; show _ + 0 = _; omega
  have X1 : X 1 = h0 * g 1 + h1 * g 0 := by
    rw [h 1, e1 1]
    show h0 * g 1 + conv c1 g 0 = _
    rw [e2 0]
    show _ + (_ + 0) = _
    omega
  have X2 : X 2 = h0 * g 2 + (h1 * g 1 + h2 * g 0) := by
    rw [h 2, e1 2]
    show h0 * g 2 + conv c1 g 1 = _
    rw [e2 1]
    show _ + (_ + conv c2 g 0) = _
    rw [e3 0]
  have X3 : X 3 = h1 * g 2 + h2 * g 1 := by
    rw [h 3, e1 3, tg.2 3 (by omega), Int.mul_zero, Int.zero_add]
    show conv c1 g 2 = _
    rw [e2 2]
    show _ + conv c2 g 1 = _
    rw [e3 1]
  have X4 : X 4 = h2 * g 2 := by
    rw [h 4, e1 4, tg.2 4 (by omega), Int.mul_zero, Int.zero_add]
    show conv c1 g 3 = _
    rw [e2 3, tg.2 3 (by omega), Int.mul_zero, Int.zero_add]
    show conv c2 g 2 = _
    rw [e3 2]
  have hh2 : h2.natAbs ≤ 7 := fac_le (x := g 2) (by rw [Int.mul_comm, ← X4]; exact hX 4) tg.1
  have hm : (g 1).natAbs ≤ 105 := by
    by_cases m0 : g 1 = 0
    · rw [m0]; decide
    · by_cases k1 : h1 = 0
      · by_cases k2 : h2 = 0
        · have k0 : h0 ≠ 0 := fun q => hn fun i => by
            rw [h i, e1 i, q, Int.zero_mul, Int.zero_add]
            cases i with
            | zero => rfl
            | succ i =>
              show conv c1 g i = 0
              rw [e2 i, k1, Int.zero_mul, Int.zero_add]
              cases i with
              | zero => rfl
              | succ i => show conv c2 g i = 0; rw [e3 i, k2, Int.zero_mul]
          have := fac_le (x := h0) (y := g 1) (B := 7) (by rw [k1, Int.zero_mul, Int.add_zero] at X1; rw [← X1]; exact hX 1) k0
          omega
        · have := fac_le (x := h2) (y := g 1) (B := 7) (by rw [k1, Int.zero_mul, Int.zero_add] at X3; rw [← X3]; exact hX 3) k2
          omega
      · have hh0 : h0.natAbs ≤ 7 := by
          by_cases w0 : g 0 = 0
          · exact fac_le (x := g 1) (by rw [w0, Int.mul_zero, Int.add_zero] at X1; rw [Int.mul_comm, ← X1]; exact hX 1) m0
          · exact fac_le (x := g 0) (by rw [Int.mul_comm, ← X0]; exact hX 0) w0
        have b1 : (h0 * g 2).natAbs ≤ 49 := by rw [Int.natAbs_mul]; exact Nat.mul_le_mul hh0 hu
        have b2 : (h2 * g 0).natAbs ≤ 49 := by rw [Int.natAbs_mul]; exact Nat.mul_le_mul hh2 hw
        have b3 := hX 2
        have b4 : (h1 * g 1).natAbs ≤ 105 := by omega
        exact fac_le b4 k1
  intro i
  match i with
  | 0 => omega
  | 1 => exact hm
  | 2 => omega
  | i + 3 => rw [tg.2 (i + 3) (by omega)]; decide
theorem gb3a {a b g1 g2 g3 : Int} (ha : a ≠ 0) (h4 : (a * g3).natAbs ≤ 7) (h3 : (a * g2 + b * g3).natAbs ≤ 7) (h2 : (a * g1 + b * g2).natAbs ≤ 7) (hg : 8 ≤ g2.natAbs) (hle : g1.natAbs ≤ g2.natAbs) : a.natAbs = 1 ∧ b.natAbs ≤ 1 := by
  have q1 : (b * g2).natAbs ≤ 7 + (a * g1).natAbs := by omega
  have q2 : (a * g2).natAbs ≤ 7 + (b * g3).natAbs := by omega
  rw [Int.natAbs_mul, Int.natAbs_mul] at q1 q2
  rw [Int.natAbs_mul] at h4
  have hA := Int.natAbs_pos.mpr ha
  generalize a.natAbs = A at *
  generalize b.natAbs = B at *
  generalize g1.natAbs = G1 at *
  generalize g2.natAbs = G2 at *
  generalize g3.natAbs = G3 at *
  have hBA : B ≤ A := Nat.le_of_not_lt fun q => by
    have r1 : (A + 1) * G2 ≤ B * G2 := Nat.mul_le_mul_right _ q
    have r2 : A * G1 ≤ A * G2 := Nat.mul_le_mul_left _ hle
    rw [Nat.add_mul] at r1
    omega
  have r3 : B * G3 ≤ A * G3 := Nat.mul_le_mul_right _ hBA
  have r4 : A * 8 ≤ A * G2 := Nat.mul_le_mul_left _ hg
  omega
theorem gb3b {a b a1 b1 g1 g2 g3 : Int} (ha : a ≠ 0) (hb : b ≠ 0) (ha1 : a1 ≠ 0) (hb1 : b1 ≠ 0) (hD : a * b1 ≠ a1 * b) (h4 : (a * g3).natAbs ≤ 7) (h3 : (a * g2 + b * g3).natAbs ≤ 7) (h2 : (a * g1 + b * g2).natAbs ≤ 7) (k4 : (a1 * g3).natAbs ≤ 7) (k3 : (a1 * g2 + b1 * g3).natAbs ≤ 7) (k2 : (a1 * g1 + b1 * g2).natAbs ≤ 7) (hle : g1.natAbs ≤ g2.natAbs) : g2.natAbs ≤ 7 := Nat.le_of_not_lt fun q => by
  obtain ⟨r1, r2⟩ := gb3a ha h4 h3 h2 q hle
  obtain ⟨r3, r4⟩ := gb3a ha1 k4 k3 k2 q hle
  have e1 : a = 1 ∨ a = -1 := by clear h4 h3 h2 k4 k3 k2 hle q r2 r3 r4; omega
  have e2 : b = 1 ∨ b = -1 := by clear h4 h3 h2 k4 k3 k2 hle q r1 r3 r4; omega
  have e3 : a1 = 1 ∨ a1 = -1 := by clear h4 h3 h2 k4 k3 k2 hle q r1 r2 r4; omega
  have e4 : b1 = 1 ∨ b1 = -1 := by clear h4 h3 h2 k4 k3 k2 hle q r1 r2 r3; omega
  have w3 : -7 ≤ a * g2 + b * g3 ∧ a * g2 + b * g3 ≤ 7 := by clear h4 h2 k4 k3 k2 hle q r1 r2 r3 r4; omega
  have x3 : -7 ≤ a1 * g2 + b1 * g3 ∧ a1 * g2 + b1 * g3 ≤ 7 := by clear h4 h3 h2 k4 k2 hle q r1 r2 r3 r4; omega
  have w2 : 8 ≤ g2 ∨ g2 ≤ -8 := by clear h4 h3 h2 k4 k3 k2 hle r1 r2 r3 r4 w3 x3; omega
  clear h4 h3 h2 k4 k3 k2 hle q r1 r2 r3 r4
  rcases e1 with rfl | rfl <;> rcases e2 with rfl | rfl <;> rcases e3 with rfl | rfl <;> rcases e4 with rfl | rfl <;> first | exact absurd rfl hD | omega
theorem gb3 {X Y g : Nat → Int} (pr : Pr g) (hX : bx 7 X) (hY : bx 7 Y) (sX : ∀ i, 4 < i → X i = 0) (sY : ∀ i, 4 < i → Y i = 0) (tg : top g 3) (he : EQ2 X Y g p0) : bx 7 g := by
  obtain ⟨c, hc⟩ := quo pr he.2.2.1
  obtain ⟨d, hd⟩ := quo pr he.2.2.2
  obtain ⟨b, c1, e1, z1⟩ := (conv_peel tg (e := 4) (by omega) (c := c) (fun j hj => by rw [← hc j]; exact sX j hj) (by omega)).resolve_left (by omega)
  obtain ⟨b1, d1, f1, y1⟩ := (conv_peel tg (e := 4) (by omega) (c := d) (fun j hj => by rw [← hd j]; exact sY j hj) (by omega)).resolve_left (by omega)
  obtain ⟨a, e2⟩ := convH tg (c := c1) (fun j hj => z1 j (by omega))
  obtain ⟨a1, f2⟩ := convH tg (c := d1) (fun j hj => y1 j (by omega))
  have X0 : X 0 = b * g 0 := by rw [hc 0, e1 0]; show _ + 0 = _; omega
  have Xs : ∀ i, X (i + 1) = b * g (i + 1) + a * g i := fun i => by
    rw [hc (i + 1), e1 (i + 1)]
    show _ + conv c1 g i = _
    rw [e2 i]
  have Y0 : Y 0 = b1 * g 0 := by rw [hd 0, f1 0]; show _ + 0 = _; omega
  have Ys : ∀ i, Y (i + 1) = b1 * g (i + 1) + a1 * g i := fun i => by
    rw [hd (i + 1), f1 (i + 1)]
    show _ + conv d1 g i = _
    rw [f2 i]
  -- a product with a single number
  have one : ∀ (Z : Nat → Int) (u v : Int), bx 7 Z → Z 0 = v * g 0 → (∀ i, Z (i + 1) = v * g (i + 1) + u * g i) → (u = 0 ∨ v = 0) → ¬ (u = 0 ∧ v = 0) → bx 7 g := fun Z u v hZ z0 zs h1 h2 => by
    rcases h1 with h1 | h1
    · have hv : v ≠ 0 := fun q => h2 ⟨h1, q⟩
      refine bx_mul (X := Z) hv (fun i => ?_) hZ
      cases i with
      | zero => exact z0
      | succ i => rw [zs i, h1, Int.zero_mul, Int.add_zero]
    · have hu : u ≠ 0 := fun q => h2 ⟨q, h1⟩
      intro i
      refine fac_le (x := u) ?_ hu
      have := hZ (i + 1)
      rw [zs i, h1, Int.zero_mul, Int.zero_add] at this
      exact this
  have four : ∀ (Z : Nat → Int) (u v : Int), (∀ i, Z (i + 1) = v * g (i + 1) + u * g i) → u ≠ 0 → top Z 4 := fun Z u v zs hu => by
    refine ⟨?_, fun i hi => ?_⟩
    · rw [show (4 : Nat) = 3 + 1 from rfl, zs 3, tg.2 (3 + 1) (by omega), Int.mul_zero, Int.zero_add]
      exact Int.mul_ne_zero hu tg.1
    · obtain ⟨k, rfl⟩ : ∃ k, i = k + 1 := ⟨i - 1, by omega⟩
      rw [zs k, tg.2 (k + 1) (by omega), tg.2 k (by omega), Int.mul_zero, Int.mul_zero, Int.zero_add]
  by_cases hXz : a = 0 ∧ b = 0
  · have hX0 : ∀ i, X i = 0 := fun i => by
      cases i with
      | zero => rw [X0, hXz.2, Int.zero_mul]
      | succ i => rw [Xs i, hXz.1, hXz.2, Int.zero_mul, Int.zero_mul, Int.zero_add]
    by_cases hYz : a1 = 0 ∧ b1 = 0
    · exfalso
      exact tg.1 (rs_zero hX0 (fun i => by
        cases i with
        | zero => rw [Y0, hYz.2, Int.zero_mul]
        | succ i => rw [Ys i, hYz.1, hYz.2, Int.zero_mul, Int.zero_mul, Int.zero_add]) he.1 3)
    · by_cases q : a1 = 0 ∨ b1 = 0
      · exact one Y a1 b1 hY Y0 Ys q hYz
      · exfalso
        have t4 := four Y a1 b1 Ys (fun z => q (Or.inl z))
        have := RS.deg he.1 (Z := Y) ⟨1, by decide, [], fun i => by rw [hX0 i]; rfl⟩ (ms_self Y) t4 tg
        omega
  · by_cases q : a = 0 ∨ b = 0
    · exact one X a b hX X0 Xs q hXz
    · have ha : a ≠ 0 := fun z => q (Or.inl z)
      have hb : b ≠ 0 := fun z => q (Or.inr z)
      have t4 := four X a b Xs ha
      by_cases hD : a * b1 = a1 * b
      · exfalso
        have hYX : MS X Y := ⟨b, hb, [b1], fun i => by
          cases i with
          | zero => rw [conv_0, Y0, X0, Int.mul_left_comm]
          | succ i =>
            rw [conv_s, Ys i, Xs i]
            show _ = _ + 0
            generalize g (i + 1) = x
            generalize g i = y
            grind⟩
        have := RS.deg he.1 (Z := X) (ms_self X) hYX t4 tg
        omega
      · by_cases q1 : a1 = 0 ∨ b1 = 0
        · by_cases hYz : a1 = 0 ∧ b1 = 0
          · exfalso
            exact hD (by rw [hYz.1, hYz.2, Int.mul_zero, Int.zero_mul])
          · exact one Y a1 b1 hY Y0 Ys q1 hYz
        · have ha1 : a1 ≠ 0 := fun z => q1 (Or.inl z)
          have hb1 : b1 ≠ 0 := fun z => q1 (Or.inr z)
          have x4 : (a * g 3).natAbs ≤ 7 := by have := hX (3 + 1); rw [Xs 3, tg.2 (3 + 1) (by omega), Int.mul_zero, Int.zero_add] at this; exact this
          have x3 : (a * g 2 + b * g 3).natAbs ≤ 7 := by have := hX (2 + 1); rw [Xs 2, Int.add_comm] at this; exact this
          have x2 : (a * g 1 + b * g 2).natAbs ≤ 7 := by have := hX (1 + 1); rw [Xs 1, Int.add_comm] at this; exact this
          have x1 : (a * g 0 + b * g 1).natAbs ≤ 7 := by have := hX (0 + 1); rw [Xs 0, Int.add_comm] at this; exact this
          have x0 : (b * g 0).natAbs ≤ 7 := by have := hX 0; rw [X0] at this; exact this
          have y4 : (a1 * g 3).natAbs ≤ 7 := by have := hY (3 + 1); rw [Ys 3, tg.2 (3 + 1) (by omega), Int.mul_zero, Int.zero_add] at this; exact this
          have y3 : (a1 * g 2 + b1 * g 3).natAbs ≤ 7 := by have := hY (2 + 1); rw [Ys 2, Int.add_comm] at this; exact this
          have y2 : (a1 * g 1 + b1 * g 2).natAbs ≤ 7 := by have := hY (1 + 1); rw [Ys 1, Int.add_comm] at this; exact this
          have y1' : (a1 * g 0 + b1 * g 1).natAbs ≤ 7 := by have := hY (0 + 1); rw [Ys 0, Int.add_comm] at this; exact this
          have y0 : (b1 * g 0).natAbs ≤ 7 := by have := hY 0; rw [Y0] at this; exact this
          have g3 : (g 3).natAbs ≤ 7 := fac_le x4 ha
          have g0 : (g 0).natAbs ≤ 7 := fac_le x0 hb
          have both : (g 1).natAbs ≤ 7 ∧ (g 2).natAbs ≤ 7 := by
            by_cases hle : (g 1).natAbs ≤ (g 2).natAbs
            · have := gb3b ha hb ha1 hb1 hD x4 x3 x2 y4 y3 y2 hle
              omega
            · have := gb3b (g1 := g 2) (g2 := g 1) (g3 := g 0) hb ha hb1 ha1 (fun z => hD (by rw [Int.mul_comm a b1, Int.mul_comm a1 b]; exact z.symm)) x0 (by rw [Int.add_comm]; exact x1) (by rw [Int.add_comm]; exact x2) y0 (by rw [Int.add_comm]; exact y1') (by rw [Int.add_comm]; exact y2) (by omega)
              omega
          intro i
          match i with
          | 0 => exact g0
          | 1 => exact both.1
          | 2 => exact both.2
          | 3 => exact g3
          | i + 4 => rw [tg.2 (i + 4) (by omega)]; decide
end
section
/-! two polynomials of degree 4: the numbers of their remainders, by 2x2 minors -/
def mn (f g : Nat → Int) (i j : Nat) : Int := f i * g j - f j * g i
def T1 (f g : Nat → Int) : Nat → Int := fun i => g 4 * f i - f 4 * g i
def T1b (f g : Nat → Int) : Nat → Int := fun i => T1 f g 3 * g i - g 4 * sh (T1 f g) i
def S2 (f g : Nat → Int) : Nat → Int := fun i => match i with
  | 0 => T1 f g 3 * mn f g 0 3 - T1 f g 2 * T1 f g 0
  | 1 => T1 f g 3 * (T1 f g 0 + mn f g 1 3) - T1 f g 2 * T1 f g 1
  | 2 => T1 f g 3 * (T1 f g 1 + mn f g 2 3) - T1 f g 2 * T1 f g 2
  | _ + 3 => 0
def T2b (f g : Nat → Int) : Nat → Int := fun i => S2 f g 2 * T1 f g i - T1 f g 3 * sh (S2 f g) i
def uu (f g : Nat → Int) : Int := T1 f g 3 * ((T1 f g 1 + mn f g 2 3) * (mn f g 0 3 + mn f g 1 2) - (T1 f g 0 + mn f g 1 3) * (T1 f g 0 + mn f g 1 3)) - T1 f g 2 * (T1 f g 2 * (mn f g 0 3 + mn f g 1 2) - (T1 f g 0 + mn f g 1 3) * T1 f g 1) + T1 f g 1 * (T1 f g 2 * (T1 f g 0 + mn f g 1 3) - (T1 f g 1 + mn f g 2 3) * T1 f g 1)
def ww (f g : Nat → Int) : Int := T1 f g 3 * ((T1 f g 1 + mn f g 2 3) * mn f g 0 2 - mn f g 0 3 * (T1 f g 0 + mn f g 1 3)) - T1 f g 2 * (T1 f g 2 * mn f g 0 2 - mn f g 0 3 * T1 f g 1) + T1 f g 0 * (T1 f g 2 * (T1 f g 0 + mn f g 1 3) - (T1 f g 1 + mn f g 2 3) * T1 f g 1)
def S1 (f g : Nat → Int) : Nat → Int := fun i => match i with
  | 0 => ww f g
  | 1 => uu f g
  | _ + 2 => 0
def T3b (f g : Nat → Int) : Nat → Int := fun i => S1 f g 1 * S2 f g i - S2 f g 2 * sh (S1 f g) i
/-! identities -/
theorem pk_m12 (f g : Nat → Int) : T1 f g 3 * mn f g 1 2 = T1 f g 2 * mn f g 1 3 - T1 f g 1 * mn f g 2 3 := by
  unfold T1 mn
  grind
theorem pk_m02 (f g : Nat → Int) : T1 f g 3 * mn f g 0 2 = T1 f g 2 * mn f g 0 3 - T1 f g 0 * mn f g 2 3 := by
  unfold T1 mn
  grind
theorem pk_g (f g : Nat → Int) (i : Nat) : T1 f g 3 * g i - T1 f g i * g 3 = -(g 4 * mn f g i 3) := by
  unfold T1 mn
  grind
theorem T1_4 (f g : Nat → Int) : T1 f g 4 = 0 := by
  unfold T1
  grind
theorem T1_hi {f g : Nat → Int} (hf : ∀ i, 4 < i → f i = 0) (hg : ∀ i, 4 < i → g i = 0) : ∀ i, 3 < i → T1 f g i = 0 := fun i hi => by
  by_cases e : i = 4
  · rw [e]; exact T1_4 f g
  · unfold T1
    rw [hf i (by omega), hg i (by omega), Int.mul_zero, Int.mul_zero]
    rfl
theorem T1b_hi {f g : Nat → Int} (hf : ∀ i, 4 < i → f i = 0) (hg : ∀ i, 4 < i → g i = 0) : ∀ i, 3 < i → T1b f g i = 0 := fun i hi => by
  obtain ⟨k, rfl⟩ : ∃ k, i = k + 1 := ⟨i - 1, by omega⟩
  show T1 f g 3 * g (k + 1) - g 4 * T1 f g k = 0
  by_cases e : k = 3
  · rw [e, Int.mul_comm]; exact Int.sub_self _
  · rw [hg (k + 1) (by omega), T1_hi hf hg k (by omega), Int.mul_zero, Int.mul_zero]
    rfl
theorem E4 {f g : Nat → Int} (hf : ∀ i, 4 < i → f i = 0) (hg : ∀ i, 4 < i → g i = 0) (i : Nat) : T1 f g 3 * T1b f g i - T1b f g 3 * T1 f g i = -(g 4) * S2 f g i := by
  match i with
  | 0 =>
    have h := pk_g f g 0
    show T1 f g 3 * (T1 f g 3 * g 0 - g 4 * 0) - (T1 f g 3 * g 3 - g 4 * T1 f g 2) * T1 f g 0 = -(g 4) * (T1 f g 3 * mn f g 0 3 - T1 f g 2 * T1 f g 0)
    generalize T1 f g 0 = q0 at *
    generalize T1 f g 2 = q2 at *
    generalize T1 f g 3 = q3 at *
    generalize mn f g 0 3 = n03 at *
    generalize g 0 = x0 at *
    generalize g 3 = x3 at *
    generalize g 4 = x4 at *
    grind
  | 1 =>
    have h := pk_g f g 1
    show T1 f g 3 * (T1 f g 3 * g 1 - g 4 * T1 f g 0) - (T1 f g 3 * g 3 - g 4 * T1 f g 2) * T1 f g 1 = -(g 4) * (T1 f g 3 * (T1 f g 0 + mn f g 1 3) - T1 f g 2 * T1 f g 1)
    generalize T1 f g 0 = q0 at *
    generalize T1 f g 1 = q1 at *
    generalize T1 f g 2 = q2 at *
    generalize T1 f g 3 = q3 at *
    generalize mn f g 1 3 = n13 at *
    generalize g 1 = x1 at *
    generalize g 3 = x3 at *
    generalize g 4 = x4 at *
    grind
  | 2 =>
    have h := pk_g f g 2
    show T1 f g 3 * (T1 f g 3 * g 2 - g 4 * T1 f g 1) - (T1 f g 3 * g 3 - g 4 * T1 f g 2) * T1 f g 2 = -(g 4) * (T1 f g 3 * (T1 f g 1 + mn f g 2 3) - T1 f g 2 * T1 f g 2)
    generalize T1 f g 1 = q1 at *
    generalize T1 f g 2 = q2 at *
    generalize T1 f g 3 = q3 at *
    generalize mn f g 2 3 = n23 at *
    generalize g 2 = x2 at *
    generalize g 3 = x3 at *
    generalize g 4 = x4 at *
    grind
  | 3 =>
    show T1 f g 3 * T1b f g 3 - T1b f g 3 * T1 f g 3 = -(g 4) * 0
    rw [Int.mul_comm, Int.mul_zero]
    exact Int.sub_self _
  | i + 4 =>
    rw [T1b_hi hf hg (i + 4) (by omega), T1_hi hf hg (i + 4) (by omega), Int.mul_zero, Int.mul_zero]
    show (0 : Int) - 0 = -(g 4) * 0
    rw [Int.mul_zero]
    rfl
theorem T2b_hi {f g : Nat → Int} (hf : ∀ i, 4 < i → f i = 0) (hg : ∀ i, 4 < i → g i = 0) : ∀ i, 2 < i → T2b f g i = 0 := fun i hi => by
  obtain ⟨k, rfl⟩ : ∃ k, i = k + 1 := ⟨i - 1, by omega⟩
  show S2 f g 2 * T1 f g (k + 1) - T1 f g 3 * S2 f g k = 0
  by_cases e : k = 2
  · rw [e, Int.mul_comm]; exact Int.sub_self _
  · obtain ⟨j, rfl⟩ : ∃ j, k = j + 3 := ⟨k - 3, by omega⟩
    rw [T1_hi hf hg (j + 3 + 1) (by omega), Int.mul_zero]
    show (0 : Int) - T1 f g 3 * 0 = 0
    rw [Int.mul_zero]
    rfl
theorem E5_1 (f g : Nat → Int) : S2 f g 2 * T2b f g 1 - T2b f g 2 * S2 f g 1 = -(T1 f g 3 * T1 f g 3) * S1 f g 1 := by
  have h1 := pk_m12 f g
  show S2 f g 2 * (S2 f g 2 * T1 f g 1 - T1 f g 3 * S2 f g 0) - (S2 f g 2 * T1 f g 2 - T1 f g 3 * S2 f g 1) * S2 f g 1 = -(T1 f g 3 * T1 f g 3) * uu f g
  unfold uu
  show (T1 f g 3 * (T1 f g 1 + mn f g 2 3) - T1 f g 2 * T1 f g 2) * ((T1 f g 3 * (T1 f g 1 + mn f g 2 3) - T1 f g 2 * T1 f g 2) * T1 f g 1 - T1 f g 3 * (T1 f g 3 * mn f g 0 3 - T1 f g 2 * T1 f g 0)) - ((T1 f g 3 * (T1 f g 1 + mn f g 2 3) - T1 f g 2 * T1 f g 2) * T1 f g 2 - T1 f g 3 * (T1 f g 3 * (T1 f g 0 + mn f g 1 3) - T1 f g 2 * T1 f g 1)) * (T1 f g 3 * (T1 f g 0 + mn f g 1 3) - T1 f g 2 * T1 f g 1) = _
  generalize T1 f g 0 = q0 at *
  generalize T1 f g 1 = q1 at *
  generalize T1 f g 2 = q2 at *
  generalize T1 f g 3 = q3 at *
  generalize mn f g 0 3 = n03 at *
  generalize mn f g 1 3 = n13 at *
  generalize mn f g 2 3 = n23 at *
  generalize mn f g 1 2 = n12 at *
  grind
theorem E5_0 (f g : Nat → Int) : S2 f g 2 * T2b f g 0 - T2b f g 2 * S2 f g 0 = -(T1 f g 3 * T1 f g 3) * S1 f g 0 := by
  have h1 := pk_m02 f g
  show S2 f g 2 * (S2 f g 2 * T1 f g 0 - T1 f g 3 * 0) - (S2 f g 2 * T1 f g 2 - T1 f g 3 * S2 f g 1) * S2 f g 0 = -(T1 f g 3 * T1 f g 3) * ww f g
  unfold ww
  show (T1 f g 3 * (T1 f g 1 + mn f g 2 3) - T1 f g 2 * T1 f g 2) * ((T1 f g 3 * (T1 f g 1 + mn f g 2 3) - T1 f g 2 * T1 f g 2) * T1 f g 0 - T1 f g 3 * 0) - ((T1 f g 3 * (T1 f g 1 + mn f g 2 3) - T1 f g 2 * T1 f g 2) * T1 f g 2 - T1 f g 3 * (T1 f g 3 * (T1 f g 0 + mn f g 1 3) - T1 f g 2 * T1 f g 1)) * (T1 f g 3 * mn f g 0 3 - T1 f g 2 * T1 f g 0) = _
  generalize T1 f g 0 = q0 at *
  generalize T1 f g 1 = q1 at *
  generalize T1 f g 2 = q2 at *
  generalize T1 f g 3 = q3 at *
  generalize mn f g 0 3 = n03 at *
  generalize mn f g 1 3 = n13 at *
  generalize mn f g 2 3 = n23 at *
  generalize mn f g 0 2 = n02 at *
  grind
theorem E5 {f g : Nat → Int} (hf : ∀ i, 4 < i → f i = 0) (hg : ∀ i, 4 < i → g i = 0) (i : Nat) : S2 f g 2 * T2b f g i - T2b f g 2 * S2 f g i = -(T1 f g 3 * T1 f g 3) * S1 f g i := by
  match i with
  | 0 => exact E5_0 f g
  | 1 => exact E5_1 f g
  | 2 =>
    show S2 f g 2 * T2b f g 2 - T2b f g 2 * S2 f g 2 = -(T1 f g 3 * T1 f g 3) * 0
    rw [Int.mul_comm, Int.mul_zero]
    exact Int.sub_self _
  | i + 3 =>
    rw [T2b_hi hf hg (i + 3) (by omega), Int.mul_zero]
    show (0 : Int) - T2b f g 2 * 0 = -(T1 f g 3 * T1 f g 3) * 0
    rw [Int.mul_zero, Int.mul_zero]
    rfl
theorem T3b_hi (f g : Nat → Int) : ∀ i, 1 < i → T3b f g i = 0 := fun i hi => by
  match i, hi with
  | 2, _ =>
    show S1 f g 1 * S2 f g 2 - S2 f g 2 * S1 f g 1 = 0
    rw [Int.mul_comm]; exact Int.sub_self _
  | i + 3, _ =>
    show S1 f g 1 * 0 - S2 f g 2 * 0 = 0
    rw [Int.mul_zero, Int.mul_zero]
    rfl
/-! bounds -/
theorem nb_mul {x y : Int} {A B : Nat} (hx : x.natAbs ≤ A) (hy : y.natAbs ≤ B) : (x * y).natAbs ≤ A * B := by
  rw [Int.natAbs_mul]
  exact Nat.mul_le_mul hx hy
section CB
variable {f g : Nat → Int}
theorem mn_b (hf : bx 7 f) (hg : bx 7 g) (i j : Nat) : (mn f g i j).natAbs ≤ 98 := by
  have h1 := nb_mul (hf i) (hg j)
  have h2 := nb_mul (hf j) (hg i)
  unfold mn
  omega
theorem T1_b (hf : bx 7 f) (hg : bx 7 g) : bx 98 (T1 f g) := fun i => by
  have h1 := nb_mul (hg 4) (hf i)
  have h2 := nb_mul (hf 4) (hg i)
  unfold T1
  omega
theorem sh_b {B : Nat} {p : Nat → Int} (h : bx B p) : bx B (sh p) := fun i => by
  cases i with
  | zero => exact Nat.zero_le _
  | succ i => exact h i
theorem T1b_b (hf : bx 7 f) (hg : bx 7 g) : bx 1372 (T1b f g) := fun i => by
  have h1 := nb_mul (T1_b hf hg 3) (hg i)
  have h2 := nb_mul (hg 4) (sh_b (T1_b hf hg) i)
  unfold T1b
  omega
theorem S2_0b (hf : bx 7 f) (hg : bx 7 g) : (S2 f g 0).natAbs ≤ 19208 := by
  have h1 := nb_mul (T1_b hf hg 3) (mn_b hf hg 0 3)
  have h2 := nb_mul (T1_b hf hg 2) (T1_b hf hg 0)
  show (T1 f g 3 * mn f g 0 3 - T1 f g 2 * T1 f g 0).natAbs ≤ _
  omega
theorem b21_b (hf : bx 7 f) (hg : bx 7 g) : (T1 f g 0 + mn f g 1 3).natAbs ≤ 196 := by
  have h1 := T1_b hf hg 0
  have h2 := mn_b hf hg 1 3
  omega
theorem b22_b (hf : bx 7 f) (hg : bx 7 g) : (T1 f g 1 + mn f g 2 3).natAbs ≤ 196 := by
  have h1 := T1_b hf hg 1
  have h2 := mn_b hf hg 2 3
  omega
theorem b11_b (hf : bx 7 f) (hg : bx 7 g) : (mn f g 0 3 + mn f g 1 2).natAbs ≤ 196 := by
  have h1 := mn_b hf hg 0 3
  have h2 := mn_b hf hg 1 2
  omega
theorem S2_b (hf : bx 7 f) (hg : bx 7 g) : bx 28812 (S2 f g) := fun i => by
  match i with
  | 0 => have := S2_0b hf hg; omega
  | 1 =>
    have h1 := nb_mul (T1_b hf hg 3) (b21_b hf hg)
    have h2 := nb_mul (T1_b hf hg 2) (T1_b hf hg 1)
    show (T1 f g 3 * (T1 f g 0 + mn f g 1 3) - T1 f g 2 * T1 f g 1).natAbs ≤ _
    omega
  | 2 =>
    have h1 := nb_mul (T1_b hf hg 3) (b22_b hf hg)
    have h2 := nb_mul (T1_b hf hg 2) (T1_b hf hg 2)
    show (T1 f g 3 * (T1 f g 1 + mn f g 2 3) - T1 f g 2 * T1 f g 2).natAbs ≤ _
    omega
  | i + 3 => exact Nat.zero_le _
theorem T2b_b (hf : bx 7 f) (hg : bx 7 g) : bx 5647152 (T2b f g) := fun i => by
  have h1 := nb_mul (S2_b hf hg 2) (T1_b hf hg i)
  have h2 := nb_mul (T1_b hf hg 3) (sh_b (S2_b hf hg) i)
  unfold T2b
  omega
theorem uu_b (hf : bx 7 f) (hg : bx 7 g) : (uu f g).natAbs ≤ 15059072 := by
  have a1 := nb_mul (b22_b hf hg) (b11_b hf hg)
  have a2 := nb_mul (b21_b hf hg) (b21_b hf hg)
  have a3 := nb_mul (T1_b hf hg 2) (b11_b hf hg)
  have a4 := nb_mul (b21_b hf hg) (T1_b hf hg 1)
  have a5 := nb_mul (T1_b hf hg 2) (b21_b hf hg)
  have a6 := nb_mul (b22_b hf hg) (T1_b hf hg 1)
  unfold uu
  generalize (T1 f g 1 + mn f g 2 3) * (mn f g 0 3 + mn f g 1 2) = x1 at *
  generalize (T1 f g 0 + mn f g 1 3) * (T1 f g 0 + mn f g 1 3) = x2 at *
  generalize T1 f g 2 * (mn f g 0 3 + mn f g 1 2) = x3 at *
  generalize (T1 f g 0 + mn f g 1 3) * T1 f g 1 = x4 at *
  generalize T1 f g 2 * (T1 f g 0 + mn f g 1 3) = x5 at *
  generalize (T1 f g 1 + mn f g 2 3) * T1 f g 1 = x6 at *
  have c1 := nb_mul (T1_b hf hg 3) (show (x1 - x2).natAbs ≤ 76832 by omega)
  have c2 := nb_mul (T1_b hf hg 2) (show (x3 - x4).natAbs ≤ 38416 by omega)
  have c3 := nb_mul (T1_b hf hg 1) (show (x5 - x6).natAbs ≤ 38416 by omega)
  omega
theorem ww_b (hf : bx 7 f) (hg : bx 7 g) : (ww f g).natAbs ≤ 9411920 := by
  have a1 := nb_mul (b22_b hf hg) (mn_b hf hg 0 2)
  have a2 := nb_mul (mn_b hf hg 0 3) (b21_b hf hg)
  have a3 := nb_mul (T1_b hf hg 2) (mn_b hf hg 0 2)
  have a4 := nb_mul (mn_b hf hg 0 3) (T1_b hf hg 1)
  have a5 := nb_mul (T1_b hf hg 2) (b21_b hf hg)
  have a6 := nb_mul (b22_b hf hg) (T1_b hf hg 1)
  unfold ww
  generalize (T1 f g 1 + mn f g 2 3) * mn f g 0 2 = x1 at *
  generalize mn f g 0 3 * (T1 f g 0 + mn f g 1 3) = x2 at *
  generalize T1 f g 2 * mn f g 0 2 = x3 at *
  generalize mn f g 0 3 * T1 f g 1 = x4 at *
  generalize T1 f g 2 * (T1 f g 0 + mn f g 1 3) = x5 at *
  generalize (T1 f g 1 + mn f g 2 3) * T1 f g 1 = x6 at *
  have c1 := nb_mul (T1_b hf hg 3) (show (x1 - x2).natAbs ≤ 38416 by omega)
  have c2 := nb_mul (T1_b hf hg 2) (show (x3 - x4).natAbs ≤ 19208 by omega)
  have c3 := nb_mul (T1_b hf hg 0) (show (x5 - x6).natAbs ≤ 38416 by omega)
  omega
theorem S1_b (hf : bx 7 f) (hg : bx 7 g) : bx 15059072 (S1 f g) := fun i => by
  match i with
  | 0 => exact Nat.le_trans (ww_b hf hg) (by decide)
  | 1 => exact uu_b hf hg
  | i + 2 => exact Nat.zero_le _
theorem T3b_b (hf : bx 7 f) (hg : bx 7 g) : bx 867763964928 (T3b f g) := fun i => by
  have h1 := nb_mul (S1_b hf hg 1) (S2_b hf hg i)
  have h2 := nb_mul (S2_b hf hg 2) (sh_b (S1_b hf hg) i)
  unfold T3b
  omega
theorem T4_b (hf : bx 7 f) (hg : bx 7 g) : (S1 f g 1 * T3b f g 0 - T3b f g 1 * S1 f g 0).natAbs < 18446744073709551616 := by
  have e0 : T3b f g 0 = S1 f g 1 * S2 f g 0 - S2 f g 2 * 0 := rfl
  have e1 : T3b f g 1 = S1 f g 1 * S2 f g 1 - S2 f g 2 * S1 f g 0 := rfl
  have hu : (S1 f g 1).natAbs ≤ 15059072 := uu_b hf hg
  have hw : (S1 f g 0).natAbs ≤ 9411920 := ww_b hf hg
  have h0 : (T3b f g 0).natAbs ≤ 289254654976 := by
    rw [e0, Int.mul_zero, Int.sub_zero]
    exact nb_mul hu (S2_0b hf hg)
  have h1 : (T3b f g 1).natAbs ≤ 705058221504 := by
    have a1 := nb_mul hu (S2_b hf hg 1)
    have a2 := nb_mul (S2_b hf hg 2) hw
    rw [e1]
    omega
  have b1 := nb_mul hu h0
  have b2 := nb_mul h1 hw
  omega
end CB
end
section
/-! a degree, one more than it; 0 for the polynomial 0 -/
def dgp (A : Nat → Int) (a : Nat) : Prop := (∀ i, a ≤ i → A i = 0) ∧ (0 < a → A (a - 1) ≠ 0)
theorem dgp_uq {A : Nat → Int} {a b : Nat} (h1 : dgp A a) (h2 : dgp A b) : a = b := by
  rcases Nat.lt_trichotomy a b with h | h | h
  · exact absurd (h1.1 (b - 1) (by omega)) (h2.2 (by omega))
  · exact h
  · exact absurd (h2.1 (a - 1) (by omega)) (h1.2 (by omega))
theorem dgp_ex {A : Nat → Int} : ∀ N : Nat, (∀ i, N ≤ i → A i = 0) → ∃ a, a ≤ N ∧ dgp A a
  | 0, h => ⟨0, Nat.le_refl 0, h, fun q => absurd q (Nat.lt_irrefl 0)⟩
  | N + 1, h => by
    by_cases e : A N = 0
    · obtain ⟨a, h1, h2⟩ := dgp_ex (A := A) N (fun i hi => by
        by_cases q : i = N
        · rw [q]; exact e
        · exact h i (by omega))
      exact ⟨a, by omega, h2⟩
    · exact ⟨N + 1, Nat.le_refl _, h, fun _ => e⟩
theorem dgp_le {A : Nat → Int} {a N : Nat} (h : dgp A a) (hz : ∀ i, N ≤ i → A i = 0) : a ≤ N := Nat.le_of_not_lt fun q => h.2 (by omega) (hz (a - 1) (by omega))
theorem dgp_0 {A : Nat → Int} (h : dgp A 0) : ∀ i, A i = 0 := fun i => h.1 i (Nat.zero_le i)
theorem dgp_tp {A : Nat → Int} {a : Nat} (h : dgp A (a + 1)) : top A a := ⟨h.2 (Nat.succ_pos a), fun i hi => h.1 i hi⟩
theorem shN_b {B : Nat} {p : Nat → Int} (h : bx B p) : ∀ k, bx B (shN k p)
  | 0 => h
  | k + 1 => sh_b (shN_b h k)
/-! bounds alone: a pair whose every further number is below 2^63, a last constant below 2^64 -/
def nsafe : Nat → Nat → Nat → Nat → Nat → Bool
  | 0, _, _, _, _ => false
  | n + 1, a, α, b, β => decide (2 * α * β < 18446744073709551616) && (List.range a).all (fun a1 => decide (a1 = 0) || ((decide (a1 = 1) || decide (2 * α * β < 9223372036854775808)) && (if b ≤ a1 then nsafe n a1 (if a1 = 1 then 1 else 2 * α * β) b β else nsafe n b β a1 (if a1 = 1 then 1 else 2 * α * β))))
theorem nsafe_s {n a α b β : Nat} (h : nsafe (n + 1) a α b β = true) : 2 * α * β < 18446744073709551616 ∧ ∀ a1, a1 < a → a1 = 0 ∨ ((a1 = 1 ∨ 2 * α * β < 9223372036854775808) ∧ (if b ≤ a1 then nsafe n a1 (if a1 = 1 then 1 else 2 * α * β) b β else nsafe n b β a1 (if a1 = 1 then 1 else 2 * α * β)) = true) := by
  unfold nsafe at h
  rw [Bool.and_eq_true, decide_eq_true_eq, List.all_eq_true] at h
  refine ⟨h.1, fun a1 ha => ?_⟩
  have h1 := h.2 a1 (List.mem_range.mpr ha)
  rw [Bool.or_eq_true, decide_eq_true_eq, Bool.and_eq_true, Bool.or_eq_true, decide_eq_true_eq, decide_eq_true_eq] at h1
  exact h1
def NS (A B : Nat → Int) : Prop := ∃ n a α b β, dgp A a ∧ dgp B b ∧ 1 ≤ b ∧ b ≤ a ∧ bx α A ∧ bx β B ∧ nsafe n a α b β = true
def pro (A T : Nat → Int) : Prop := ∃ k : Int, k ≠ 0 ∧ ∀ i, k * A i = T i
def SPc (A B : Nat → Int) : Prop := ∃ f g : Nat → Int, bx 7 f ∧ bx 7 g ∧ (∀ i, 4 < i → f i = 0) ∧ (∀ i, 4 < i → g i = 0) ∧ g 4 ≠ 0 ∧ T1 f g 3 ≠ 0 ∧
  ((dgp A 5 ∧ dgp B 4 ∧ (∀ i, A i = g i) ∧ pro B (T1 f g)) ∨ (dgp A 4 ∧ dgp B 4 ∧ pro A (T1b f g) ∧ pro B (T1 f g)) ∨ (dgp A 4 ∧ dgp B 3 ∧ pro A (T1 f g) ∧ pro B (S2 f g)) ∨ (dgp A 3 ∧ dgp B 3 ∧ pro A (T2b f g) ∧ pro B (S2 f g)) ∨ (dgp A 3 ∧ dgp B 2 ∧ pro A (S2 f g) ∧ pro B (S1 f g)) ∨ (dgp A 2 ∧ dgp B 2 ∧ pro A (T3b f g) ∧ pro B (S1 f g)))
def SFo (A B : Nat → Int) : Prop := NS A B ∨ (dgp A 5 ∧ dgp B 5 ∧ bx 7 A ∧ bx 7 B) ∨ SPc A B
def SF (A B : Nat → Int) : Prop := (∀ i, A i = 0) ∨ (∀ i, B i = 0) ∨ SFo A B ∨ ∃ a b, dgp A a ∧ dgp B b ∧ a < b ∧ SFo B A
theorem pro_b {A T : Nat → Int} {B : Nat} (h : pro A T) (hT : bx B T) : bx B A := by
  obtain ⟨k, hk, h⟩ := h
  exact fun i => fac_le (by rw [h i]; exact hT i) hk
/-- a primitive polynomial, proportional to one, divides it -/
theorem pro_to {A T S : Nat → Int} (pr : Pr A) (h : pro A T) {p q : Int} (hp : p ≠ 0) (hq : q ≠ 0) (e : ∀ i, p * T i = q * S i) : pro A S := by
  obtain ⟨k, hk, h⟩ := h
  obtain ⟨k1, hk1⟩ := pr.dv (c := q) (n := p * k) hq (fun i => ⟨S i, by rw [Int.mul_assoc, h i]; exact e i⟩)
  refine ⟨k1, fun z => Int.mul_ne_zero hp hk (by rw [hk1, z, Int.mul_zero]), fun i => ?_⟩
  have h1 := e i
  rw [← h i, ← Int.mul_assoc, hk1, Int.mul_assoc] at h1
  exact Int.eq_of_mul_eq_mul_left hq h1
def NZ (R A1 : Nat → Int) : Prop := ((∀ i, R i = 0) ∧ ∀ i, A1 i = 0) ∨ (Pr A1 ∧ ∃ k : Int, k ≠ 0 ∧ ∀ i, R i = k * A1 i)
section ST
variable {A B R A1 : Nat → Int} {a b : Nat} {c sf ot : Int}
theorem low_top (da : dgp A a) (db : dgp B b) (h1 : 1 ≤ b) (h2 : b ≤ a) (hc : c ≠ 0) (e1 : c * sf = B (b - 1)) (e2 : c * ot = A (a - 1)) (hR : ∀ i, R i = sf * A i - ot * shN (a - b) B i) : ∀ i, a - 1 ≤ i → R i = 0 := fun i hi => by
  by_cases q : i = a - 1
  · have h3 : c * R i = 0 := by
      rw [hR i, shN_at, if_neg (by omega), Int.mul_sub, ← Int.mul_assoc, ← Int.mul_assoc, e1, e2, q, show a - 1 - (a - b) = b - 1 by omega, Int.mul_comm]
      exact Int.sub_self _
    exact (Int.mul_eq_zero.mp h3).resolve_left hc
  · rw [hR i, da.1 i (by omega), shN_at, if_neg (by omega), db.1 (i - (a - b)) (by omega), Int.mul_zero, Int.mul_zero]
    rfl
/-- the step, times the factors, is the step of the two that they are proportional to -/
theorem low_pro {TA TB : Nat → Int} (hc : c ≠ 0) (e1 : c * sf = B (b - 1)) (e2 : c * ot = A (a - 1)) (hR : ∀ i, R i = sf * A i - ot * shN (a - b) B i) (hA : pro A TA) (hB : pro B TB) : pro R (fun i => TB (b - 1) * TA i - TA (a - 1) * shN (a - b) TB i) := by
  obtain ⟨k, hk, hA⟩ := hA
  obtain ⟨m, hm, hB⟩ := hB
  refine ⟨c * (k * m), Int.mul_ne_zero hc (Int.mul_ne_zero hk hm), fun i => ?_⟩
  have hs : shN (a - b) TB i = m * shN (a - b) B i := by
    rw [shN_at, shN_at]
    by_cases q : i < a - b
    · rw [if_pos q, if_pos q, Int.mul_zero]
    · rw [if_neg q, if_neg q, hB]
  show c * (k * m) * R i = TB (b - 1) * TA i - TA (a - 1) * shN (a - b) TB i
  rw [hs, ← hB (b - 1), ← hA i, ← hA (a - 1), ← e1, ← e2, hR i]
  generalize A i = x
  generalize shN (a - b) B i = y
  grind
theorem low_pro0 {TA TB : Nat → Int} {l : Nat} (hc : c ≠ 0) (e1 : c * sf = B l) (e2 : c * ot = A l) (hR : ∀ i, R i = sf * A i - ot * B i) (hA : pro A TA) (hB : pro B TB) : pro R (fun i => TB l * TA i - TA l * TB i) := low_pro (a := l + 1) (b := l + 1) hc e1 e2 (fun i => by rw [hR i, Nat.sub_self]; rfl) hA hB |> fun h => by
  rw [Nat.sub_self] at h
  exact h
theorem low_pro1 {TA TB : Nat → Int} {la lb : Nat} (hl : la = lb + 1) (hc : c ≠ 0) (e1 : c * sf = B lb) (e2 : c * ot = A la) (hR : ∀ i, R i = sf * A i - ot * sh B i) (hA : pro A TA) (hB : pro B TB) : pro R (fun i => TB lb * TA i - TA la * sh TB i) := by
  have h := low_pro (a := la + 1) (b := lb + 1) hc e1 e2 (R := R) (fun i => by rw [hR i, show la + 1 - (lb + 1) = 1 by omega]; rfl) hA hB
  rw [show la + 1 - (lb + 1) = 1 by omega] at h
  exact h
theorem NZ.pro {T : Nat → Int} (h : pro R T) (hk : ∃ k : Int, k ≠ 0 ∧ ∀ i, R i = k * A1 i) : pro A1 T := by
  obtain ⟨k, h0, hk⟩ := hk
  obtain ⟨m, hm, h⟩ := h
  exact ⟨m * k, Int.mul_ne_zero hm h0, fun i => by rw [Int.mul_assoc, ← hk i]; exact h i⟩
theorem const_b (pr : Pr A1) (d : dgp A1 1) : bx 1 A1 := gb0 pr (dgp_tp d)
end ST
theorem sf_S2 {A1 B f g : Nat → Int} {a1 : Nat} (hf : bx 7 f) (hg : bx 7 g) (sf : ∀ i, 4 < i → f i = 0) (sg : ∀ i, 4 < i → g i = 0) (g4 : g 4 ≠ 0) (t3 : T1 f g 3 ≠ 0) (dB : dgp B 4) (hB : pro B (T1 f g)) (d1 : dgp A1 a1) (h1 : a1 ≤ 3) (hA : pro A1 (S2 f g)) : SF A1 B := by
  by_cases q0 : a1 = 0
  · subst q0; exact Or.inl (dgp_0 d1)
  · refine Or.inr (Or.inr (Or.inr ⟨a1, 4, d1, dB, by omega, ?_⟩))
    by_cases q3 : a1 = 3
    · subst q3
      exact Or.inr (Or.inr ⟨f, g, hf, hg, sf, sg, g4, t3, Or.inr (Or.inr (Or.inl ⟨dB, d1, hB, hA⟩))⟩)
    · refine Or.inl ⟨12, 4, 98, a1, 28812, dB, d1, by omega, by omega, pro_b hB (T1_b hf hg), pro_b hA (S2_b hf hg), ?_⟩
      rcases (show a1 = 1 ∨ a1 = 2 by omega) with rfl | rfl <;> decide +kernel
theorem sf_S1 {A1 B f g : Nat → Int} {a1 : Nat} (hf : bx 7 f) (hg : bx 7 g) (sf : ∀ i, 4 < i → f i = 0) (sg : ∀ i, 4 < i → g i = 0) (g4 : g 4 ≠ 0) (t3 : T1 f g 3 ≠ 0) (dB : dgp B 3) (hB : pro B (S2 f g)) (d1 : dgp A1 a1) (h1 : a1 ≤ 2) (pr : Pr A1) (hA : pro A1 (S1 f g)) : SF A1 B := by
  by_cases q0 : a1 = 0
  · subst q0; exact Or.inl (dgp_0 d1)
  · refine Or.inr (Or.inr (Or.inr ⟨a1, 3, d1, dB, by omega, ?_⟩))
    by_cases q3 : a1 = 2
    · subst q3
      exact Or.inr (Or.inr ⟨f, g, hf, hg, sf, sg, g4, t3, Or.inr (Or.inr (Or.inr (Or.inr (Or.inl ⟨dB, d1, hB, hA⟩))))⟩)
    · have e : a1 = 1 := by omega
      subst e
      exact Or.inl ⟨12, 3, 28812, 1, 1, dB, d1, by omega, by omega, pro_b hB (S2_b hf hg), const_b pr d1, by decide +kernel⟩
theorem sf_c {A1 B f g : Nat → Int} {a1 : Nat} (hf : bx 7 f) (hg : bx 7 g) (dB : dgp B 2) (hB : pro B (S1 f g)) (d1 : dgp A1 a1) (h1 : a1 ≤ 1) (pr : Pr A1) : SF A1 B := by
  by_cases q0 : a1 = 0
  · subst q0; exact Or.inl (dgp_0 d1)
  · have e : a1 = 1 := by omega
    subst e
    exact Or.inr (Or.inr (Or.inr ⟨1, 2, d1, dB, by omega, Or.inl ⟨12, 2, 15059072, 1, 1, dB, d1, by omega, by omega, pro_b hB (S1_b hf hg), const_b pr d1, by decide +kernel⟩⟩))
/-- what a step's numbers are below, and that the next pair is safe again -/
def STP (B R : Nat → Int) : Prop := (∀ i, (R i).natAbs < 18446744073709551616) ∧ ((∃ i, 1 ≤ i ∧ R i ≠ 0) → ∀ i, (R i).natAbs < 9223372036854775808) ∧ ∀ A1, NZ R A1 → SF A1 B
theorem stp_of {B R T : Nat → Int} {K : Nat} (hT : pro R T) (hb : bx K T) (hK : K < 9223372036854775808) (h : ∀ A1, Pr A1 → pro A1 T → (∃ k : Int, k ≠ 0 ∧ ∀ i, R i = k * A1 i) → SF A1 B) : STP B R := by
  have hb2 := pro_b hT hb
  refine ⟨fun i => Nat.lt_of_le_of_lt (hb2 i) (by omega), fun _ i => Nat.lt_of_le_of_lt (hb2 i) hK, fun A1 hA => ?_⟩
  rcases hA with ⟨-, z⟩ | ⟨pr, hk⟩
  · exact Or.inl z
  · exact h A1 pr (NZ.pro hT hk) hk
theorem nz_hi {R A1 : Nat → Int} {N : Nat} (hz : ∀ i, N ≤ i → R i = 0) (hk : ∃ k : Int, k ≠ 0 ∧ ∀ i, R i = k * A1 i) : ∀ i, N ≤ i → A1 i = 0 := fun i hi => by
  obtain ⟨k, h0, hk⟩ := hk
  have := hk i
  rw [hz i hi] at this
  exact (Int.mul_eq_zero.mp this.symm).resolve_left h0
theorem pro_0 {A T : Nat → Int} (h : pro A T) {i : Nat} (hz : A i = 0) : T i = 0 := by
  obtain ⟨k, -, h⟩ := h
  rw [← h i, hz, Int.mul_zero]
theorem step_ns {A B R : Nat → Int} {a b : Nat} {c sf ot : Int} (h : NS A B) (da : dgp A a) (db : dgp B b) (hc : c ≠ 0) (e1 : c * sf = B (b - 1)) (e2 : c * ot = A (a - 1)) (hR : ∀ i, R i = sf * A i - ot * shN (a - b) B i) : STP B R := by
  obtain ⟨n, a0, α, b0, β, da0, db0, h1, h2, bA, bB, hs⟩ := h
  have ea := dgp_uq da0 da
  have eb := dgp_uq db0 db
  subst ea; subst eb
  cases n with
  | zero => cases hs
  | succ n =>
    obtain ⟨v1, v2⟩ := nsafe_s hs
    have hsf : sf.natAbs ≤ β := fac_le (x := c) (by rw [e1]; exact bB _) hc
    have hot : ot.natAbs ≤ α := fac_le (x := c) (by rw [e2]; exact bA _) hc
    have hb : ∀ i, (R i).natAbs ≤ 2 * α * β := fun i => by
      have c1 := nb_mul hsf (bA i)
      have c2 := nb_mul hot (shN_b bB (a0 - b0) i)
      rw [Nat.mul_comm β α] at c1
      rw [hR i, Nat.mul_assoc]
      omega
    have hz := low_top da db h1 h2 hc e1 e2 hR
    refine ⟨fun i => Nat.lt_of_le_of_lt (hb i) v1, fun hn i => ?_, fun A1 hA => ?_⟩
    · obtain ⟨j, hj, hj0⟩ := hn
      obtain ⟨a1, ha1, d1⟩ := dgp_ex (a0 - 1) hz
      have hja : j < a1 := Nat.lt_of_not_le fun q => hj0 (d1.1 j q)
      rcases v2 a1 (by omega) with q | ⟨q, -⟩
      · omega
      · rcases q with q | q
        · omega
        · exact Nat.lt_of_le_of_lt (hb i) q
    · rcases hA with ⟨-, z⟩ | ⟨pr, hk⟩
      · exact Or.inl z
      · obtain ⟨a1, ha1, d1⟩ := dgp_ex (a0 - 1) (nz_hi hz hk)
        by_cases q0 : a1 = 0
        · subst q0; exact Or.inl (dgp_0 d1)
        · have hb1 : bx (if a1 = 1 then 1 else 2 * α * β) A1 := by
            by_cases q1 : a1 = 1
            · rw [if_pos q1]
              subst q1
              exact const_b pr d1
            · rw [if_neg q1]
              obtain ⟨k, hk0, hk⟩ := hk
              exact fun i => fac_le (x := k) (by rw [← hk i]; exact hb i) hk0
          obtain ⟨-, hn⟩ := (v2 a1 (by omega)).resolve_left q0
          by_cases hle : b0 ≤ a1
          · rw [if_pos hle] at hn
            exact Or.inr (Or.inr (Or.inl (Or.inl ⟨n, a1, _, b0, β, d1, db, h1, hle, hb1, bB, hn⟩)))
          · rw [if_neg hle] at hn
            exact Or.inr (Or.inr (Or.inr ⟨a1, b0, d1, db, by omega, Or.inl ⟨n, b0, β, a1, _, db, d1, by omega, by omega, bB, hb1, hn⟩⟩))
set_option maxHeartbeats 4000000 in
theorem step {A B R : Nat → Int} {a b : Nat} {c sf ot : Int} (h : SFo A B) (da : dgp A a) (db : dgp B b) (hc : c ≠ 0) (e1 : c * sf = B (b - 1)) (e2 : c * ot = A (a - 1)) (hR : ∀ i, R i = sf * A i - ot * shN (a - b) B i) : STP B R := by
  rcases h with h | ⟨d5, d5', bA, bB⟩ | ⟨f, g, hf, hg, zf, zg, g4, t3, h⟩
  · exact step_ns h da db hc e1 e2 hR
  · -- f and g themselves
    have ea := dgp_uq d5 da
    have eb := dgp_uq d5' db
    subst ea; subst eb
    have hp : pro R (T1 A B) := low_pro0 (l := 4) hc e1 e2 hR ⟨1, by decide, fun i => Int.one_mul (A i)⟩ ⟨1, by decide, fun i => Int.one_mul (B i)⟩
    have zf : ∀ i, 4 < i → A i = 0 := fun i hi => d5.1 i hi
    have zg : ∀ i, 4 < i → B i = 0 := fun i hi => d5'.1 i hi
    refine stp_of hp (T1_b bA bB) (by decide) (fun A1 pr hA hk => ?_)
    obtain ⟨a1, ha1, d1⟩ := dgp_ex 4 (nz_hi (low_top d5 d5' (by omega) (by omega) hc e1 e2 hR) hk)
    by_cases q0 : a1 = 0
    · subst q0; exact Or.inl (dgp_0 d1)
    · refine Or.inr (Or.inr (Or.inr ⟨a1, 5, d1, d5', by omega, ?_⟩))
      by_cases q4 : a1 = 4
      · subst q4
        have t3 : T1 A B 3 ≠ 0 := by
          obtain ⟨k, hk0, hk1⟩ := hA
          rw [← hk1 3]
          exact Int.mul_ne_zero hk0 (d1.2 (by omega))
        exact Or.inr (Or.inr ⟨A, B, bA, bB, zf, zg, d5'.2 (by omega), t3, Or.inl ⟨d5', d1, fun _ => rfl, hA⟩⟩)
      · refine Or.inl ⟨12, 5, 7, a1, 98, d5', d1, by omega, by omega, bB, pro_b hA (T1_b bA bB), ?_⟩
        rcases (show a1 = 1 ∨ a1 = 2 ∨ a1 = 3 by omega) with rfl | rfl | rfl <;> decide +kernel
  · have hng : -(g 4) ≠ 0 := by omega
    have hnp : -(T1 f g 3 * T1 f g 3) ≠ 0 := by
      have := Int.mul_ne_zero t3 t3
      omega
    rcases h with ⟨dA, dB, hA, hB⟩ | ⟨dA, dB, hA, hB⟩ | ⟨dA, dB, hA, hB⟩ | ⟨dA, dB, hA, hB⟩ | ⟨dA, dB, hA, hB⟩ | ⟨dA, dB, hA, hB⟩
    · have ea := dgp_uq dA da
      have eb := dgp_uq dB db
      subst ea; subst eb
      have hp : pro R (T1b f g) := low_pro1 (la := 4) (lb := 3) rfl hc e1 e2 hR (TA := g) ⟨1, by decide, fun i => by rw [hA i]; exact Int.one_mul _⟩ hB
      refine stp_of hp (T1b_b hf hg) (by decide) (fun A1 pr h1 hk => ?_)
      obtain ⟨a1, ha1, d1⟩ := dgp_ex 4 (nz_hi (low_top dA dB (by omega) (by omega) hc e1 e2 hR) hk)
      by_cases q4 : a1 = 4
      · subst q4
        exact Or.inr (Or.inr (Or.inl (Or.inr (Or.inr ⟨f, g, hf, hg, zf, zg, g4, t3, Or.inr (Or.inl ⟨d1, dB, h1, hB⟩)⟩))))
      · have z3 := pro_0 h1 (d1.1 3 (by omega))
        refine sf_S2 hf hg zf zg g4 t3 dB hB d1 (by omega) (pro_to pr h1 t3 hng (fun i => ?_))
        have := E4 zf zg i
        rw [z3, Int.zero_mul, Int.sub_zero] at this
        exact this
    · have ea := dgp_uq dA da
      have eb := dgp_uq dB db
      subst ea; subst eb
      have hp : pro R (fun i => T1 f g 3 * T1b f g i - T1b f g 3 * T1 f g i) := low_pro0 (l := 3) hc e1 e2 hR hA hB
      have hp : pro R (fun i => -(g 4) * S2 f g i) := by
        obtain ⟨k, hk0, hk⟩ := hp
        exact ⟨k, hk0, fun i => (hk i).trans (E4 zf zg i)⟩
      refine stp_of (K := 201684) hp (fun i => ?_) (by decide) (fun A1 pr h1 hk => ?_)
      · exact nb_mul (A := 7) (B := 28812) (by rw [Int.natAbs_neg]; exact hg 4) (S2_b hf hg i)
      · obtain ⟨a1, ha1, d1⟩ := dgp_ex 3 (nz_hi (low_top dA dB (by omega) (by omega) hc e1 e2 hR) hk)
        exact sf_S2 hf hg zf zg g4 t3 dB hB d1 (by omega) (pro_to pr h1 (p := 1) (by decide) hng (fun i => Int.one_mul _))
    · have ea := dgp_uq dA da
      have eb := dgp_uq dB db
      subst ea; subst eb
      have hp : pro R (T2b f g) := low_pro1 (la := 3) (lb := 2) rfl hc e1 e2 hR hA hB
      have s2 : S2 f g 2 ≠ 0 := by
        obtain ⟨k, hk0, hk1⟩ := hB
        rw [← hk1 2]
        exact Int.mul_ne_zero hk0 (dB.2 (by omega))
      refine stp_of hp (T2b_b hf hg) (by decide) (fun A1 pr h1 hk => ?_)
      obtain ⟨a1, ha1, d1⟩ := dgp_ex 3 (nz_hi (low_top dA dB (by omega) (by omega) hc e1 e2 hR) hk)
      by_cases q4 : a1 = 3
      · subst q4
        exact Or.inr (Or.inr (Or.inl (Or.inr (Or.inr ⟨f, g, hf, hg, zf, zg, g4, t3, Or.inr (Or.inr (Or.inr (Or.inl ⟨d1, dB, h1, hB⟩)))⟩))))
      · have z3 := pro_0 h1 (d1.1 2 (by omega))
        refine sf_S1 hf hg zf zg g4 t3 dB hB d1 (by omega) pr (pro_to pr h1 s2 hnp (fun i => ?_))
        have := E5 zf zg i
        rw [z3, Int.zero_mul, Int.sub_zero] at this
        exact this
    · have ea := dgp_uq dA da
      have eb := dgp_uq dB db
      subst ea; subst eb
      have hp : pro R (fun i => S2 f g 2 * T2b f g i - T2b f g 2 * S2 f g i) := low_pro0 (l := 2) hc e1 e2 hR hA hB
      have hp : pro R (fun i => -(T1 f g 3 * T1 f g 3) * S1 f g i) := by
        obtain ⟨k, hk0, hk⟩ := hp
        exact ⟨k, hk0, fun i => (hk i).trans (E5 zf zg i)⟩
      refine stp_of (K := 144627327488) hp (fun i => ?_) (by decide) (fun A1 pr h1 hk => ?_)
      · exact nb_mul (A := 9604) (B := 15059072) (by rw [Int.natAbs_neg]; exact nb_mul (A := 98) (B := 98) (T1_b hf hg 3) (T1_b hf hg 3)) (S1_b hf hg i)
      · obtain ⟨a1, ha1, d1⟩ := dgp_ex 2 (nz_hi (low_top dA dB (by omega) (by omega) hc e1 e2 hR) hk)
        exact sf_S1 hf hg zf zg g4 t3 dB hB d1 (by omega) pr (pro_to pr h1 (p := 1) (by decide) hnp (fun i => Int.one_mul _))
    · have ea := dgp_uq dA da
      have eb := dgp_uq dB db
      subst ea; subst eb
      have hp : pro R (T3b f g) := low_pro1 (la := 2) (lb := 1) rfl hc e1 e2 hR hA hB
      refine stp_of hp (T3b_b hf hg) (by decide) (fun A1 pr h1 hk => ?_)
      obtain ⟨a1, ha1, d1⟩ := dgp_ex 2 (nz_hi (low_top dA dB (by omega) (by omega) hc e1 e2 hR) hk)
      by_cases q4 : a1 = 2
      · subst q4
        exact Or.inr (Or.inr (Or.inl (Or.inr (Or.inr ⟨f, g, hf, hg, zf, zg, g4, t3, Or.inr (Or.inr (Or.inr (Or.inr (Or.inr ⟨d1, dB, h1, hB⟩))))⟩))))
      · exact sf_c hf hg dB hB d1 (by omega) pr
    · have ea := dgp_uq dA da
      have eb := dgp_uq dB db
      subst ea; subst eb
      have hp : pro R (fun i => S1 f g 1 * T3b f g i - T3b f g 1 * S1 f g i) := low_pro0 (l := 1) hc e1 e2 hR hA hB
      have hz := low_top dA dB (by omega) (by omega) hc e1 e2 hR
      have hb0 : (R 0).natAbs < 18446744073709551616 := by
        obtain ⟨k, hk0, hk⟩ := hp
        have h1 : (k * R 0).natAbs ≤ (S1 f g 1 * T3b f g 0 - T3b f g 1 * S1 f g 0).natAbs := by rw [hk 0]; exact Nat.le_refl _
        exact Nat.lt_of_le_of_lt (fac_le h1 hk0) (T4_b hf hg)
      refine ⟨fun i => ?_, fun hn => ?_, fun A1 hA1 => ?_⟩
      · cases i with
        | zero => exact hb0
        | succ i => rw [hz (i + 1) (by omega)]; decide
      · obtain ⟨j, hj, hj0⟩ := hn
        exact absurd (hz j (by omega)) hj0
      · rcases hA1 with ⟨-, z⟩ | ⟨pr, hk⟩
        · exact Or.inl z
        · obtain ⟨a1, ha1, d1⟩ := dgp_ex 1 (nz_hi hz hk)
          exact sf_c hf hg dB hB d1 (by omega) pr
/-- where the two begin -/
theorem SF.init {A B : Nat → Int} {a : Nat} (zA : ∀ i, 4 < i → A i = 0) (zB : ∀ i, 4 < i → B i = 0) (da : dgp A a) (hA : bx (if a = 3 then 105 else 7) A) (hB : bx 7 B) : SF A B := by
  have ha : a ≤ 5 := dgp_le da (fun i hi => zA i hi)
  obtain ⟨b, hb, db⟩ := dgp_ex 5 (A := B) (fun i hi => zB i hi)
  by_cases a0 : a = 0
  · subst a0; exact Or.inl (dgp_0 da)
  · by_cases b0 : b = 0
    · subst b0; exact Or.inr (Or.inl (dgp_0 db))
    · by_cases h55 : a = 5 ∧ b = 5
      · obtain ⟨rfl, rfl⟩ := h55
        exact Or.inr (Or.inr (Or.inl (Or.inr (Or.inl ⟨da, db, hA, hB⟩))))
      · by_cases hle : b ≤ a
        · refine Or.inr (Or.inr (Or.inl (Or.inl ⟨14, a, _, b, 7, da, db, by omega, hle, hA, hB, ?_⟩)))
          rcases (show a = 1 ∨ a = 2 ∨ a = 3 ∨ a = 4 ∨ a = 5 by omega) with rfl | rfl | rfl | rfl | rfl <;> rcases (show b = 1 ∨ b = 2 ∨ b = 3 ∨ b = 4 ∨ b = 5 by omega) with rfl | rfl | rfl | rfl | rfl <;> first | omega | exact absurd ⟨rfl, rfl⟩ h55 | decide +kernel
        · refine Or.inr (Or.inr (Or.inr ⟨a, b, da, db, by omega, Or.inl ⟨14, b, 7, a, _, db, da, by omega, by omega, hB, hA, ?_⟩⟩))
          rcases (show a = 1 ∨ a = 2 ∨ a = 3 ∨ a = 4 ∨ a = 5 by omega) with rfl | rfl | rfl | rfl | rfl <;> rcases (show b = 1 ∨ b = 2 ∨ b = 3 ∨ b = 4 ∨ b = 5 by omega) with rfl | rfl | rfl | rfl | rfl <;> first | omega | decide +kernel
end
section
/-! rows of longs and the whole numbers that they stand for -/
def ti (f : Nat → Int64) : Nat → Int := fun i => if i < 5 then (f i).toInt else 0
def bd (f : Nat → Int64) : Prop := ∀ i, i < 5 → (f i).toInt ≠ -9223372036854775808
theorem ti_hi (f : Nat → Int64) : ∀ i, 5 ≤ i → ti f i = 0 := fun i hi => if_neg (by omega)
theorem ti_lo (f : Nat → Int64) {i : Nat} (hi : i < 5) : ti f i = (f i).toInt := if_pos hi
theorem ti_0 {f : Nat → Int64} {i : Nat} (hi : i < 5) : ti f i = 0 ↔ f i = 0 := by
  rw [ti_lo f hi]
  exact ⟨fun h => Int64.toInt_inj.mp h, fun h => by rw [h]; rfl⟩
theorem ti_dg {f : Nat → Int64} {z : Int} (h1 : -1 ≤ z ∧ z ≤ 4) (h2 : ∀ k : Int, z < k → k ≤ 4 → f k.toNat = 0) (h3 : 0 ≤ z → f z.toNat ≠ 0) : dgp (ti f) (z + 1).toNat := by
  refine ⟨fun i hi => ?_, fun h => ?_⟩
  · by_cases q : i < 5
    · rw [ti_0 q]
      have := h2 (i : Int) (by omega) (by omega)
      rw [Int.toNat_natCast] at this
      exact this
    · exact ti_hi f i (by omega)
  · have e : (z + 1).toNat - 1 = z.toNat := by omega
    rw [e]
    intro q
    exact h3 (by omega) ((ti_0 (by omega)).mp q)
theorem l_wrap {r : Int} (h : r.natAbs < 18446744073709551616) (h0 : r ≠ 0) : zL r ≠ 0 := fun q => by
  have h1 := congrArg Int64.toInt q
  unfold zL at h1
  rw [Int64.toInt_ofInt] at h1
  have h2 : (r.bmod Int64.size) = 0 := h1
  have h3 : ((Int64.size : Nat) : Int) ∣ r := Int.dvd_of_bmod_eq_zero h2
  obtain ⟨k, hk⟩ := h3
  have h4 : ((Int64.size : Nat) : Int) = 18446744073709551616 := rfl
  rw [h4] at hk
  omega
/-- the greatest common divisor as it is computed, also of the least long -/
def cgX (a b r : Int64) : Prop := cgE a b r ∧ (a = 0 → r = lab b) ∧ (b = 0 → r = lab a)
def CGr (f : Nat → Int64) : Nat → Int64 → Prop
  | 0, x => x = 0
  | k + 1, x => ∃ y, CGr f k y ∧ cgX y (f k) x
theorem CGr_e {f : Nat → Int64} : ∀ (n : Nat) (x : Int64), (∀ i, i < n → (f i).toInt ≠ -9223372036854775808) → CGr f n x → 0 ≤ x.toInt ∧ (∀ i, i < n → x.toInt ∣ (f i).toInt) ∧ ∀ m : Nat, (∀ i, i < n → (m : Int) ∣ (f i).toInt) → (m : Int) ∣ x.toInt
  | 0, x, _, h => by
    have h : x = 0 := h
    subst h
    exact ⟨by decide, fun i hi => by omega, fun m _ => Int.dvd_zero _⟩
  | k + 1, x, hb, h => by
    obtain ⟨y, h1, h2⟩ := h
    obtain ⟨i1, i2, i3⟩ := CGr_e k y (fun i hi => hb i (by omega)) h1
    have e := h2.1.2 (by omega) (hb k (by omega))
    refine ⟨by omega, fun i hi => ?_, fun m hm => ?_⟩
    · rw [e]
      by_cases q : i = k
      · rw [q]; exact Int.gcd_dvd_right _ _
      · exact Int.dvd_trans (Int.gcd_dvd_left _ _) (i2 i (by omega))
    · rw [e]
      exact Int.dvd_coe_gcd (i3 m (fun i hi => hm i (by omega))) (hm k (by omega))
theorem lab_lab (x : Int64) : lab (lab x) = lab x := by
  unfold lab
  by_cases h : x < 0
  · rw [if_pos h]
    by_cases q : -x < 0
    · rw [if_pos q]
      by_cases m : x.toInt = -9223372036854775808
      · have e : x = Int64.minValue := Int64.toInt_inj.mp m
        subst e
        rfl
      · exfalso
        have h1 := Int64.le_toInt x
        have h2 := Int64.toInt_lt x
        rw [Int64.lt_iff_toInt_lt, l0] at h q
        rw [Int64.toInt_neg, Int.bmod_eq_of_le (by omega) (by omega)] at q
        omega
    · rw [if_neg q]
  · rw [if_neg h, if_neg h]
theorem CGr_c {f : Nat → Int64} : ∀ (n : Nat) (x : Int64), (∀ i, 1 ≤ i → i < n + 1 → f i = 0) → CGr f (n + 1) x → x = lab (f 0)
  | 0, x, _, h => by
    obtain ⟨y, h1, h2⟩ := h
    exact h2.2.1 h1
  | n + 1, x, hz, h => by
    obtain ⟨y, h1, h2⟩ := h
    have e := CGr_c n y (fun i a b => hz i a (by omega)) h1
    rw [h2.2.2 (hz (n + 1) (by omega) (by omega)), e, lab_lab]
/-- f2 is f, freed of its numbers' common divisor, its leading number made positive -/
def NPm (f f2 : Nat → Int64) : Prop := ∃ (n : Nat) (x y : Int64), n ≤ 5 ∧ (∀ i, n ≤ i → i < 5 → f i = 0) ∧ CGr f n x ∧ (y = x ∨ y = -x) ∧ (∀ d, dgp (ti f) (d + 1) → (f d < 0 → y = -x) ∧ (¬ f d < 0 → y = x)) ∧ (y = 0 → ∀ i, i < 5 → f2 i = f i) ∧ (y ≠ 0 → ∀ i, i < 5 → f2 i = f i / y)
theorem norm {f f2 : Nat → Int64} {R : Nat → Int} (hr : ∀ i, i < 5 → f i = zL (R i)) (hz : ∀ i, 5 ≤ i → R i = 0) (h64 : ∀ i, (R i).natAbs < 18446744073709551616) (h63 : (∃ i, 1 ≤ i ∧ R i ≠ 0) → ∀ i, (R i).natAbs < 9223372036854775808) (h : NPm f f2) : NZ R (ti f2) ∧ bd f2 ∧ ∀ d, dgp (ti f2) (d + 1) → 0 < ti f2 d := by
  obtain ⟨n, x, y, hn, hn0, hx, hy, hs, e0, e1⟩ := h
  by_cases hA : ∃ i, 1 ≤ i ∧ R i ≠ 0
  · have h63 := h63 hA
    have hex : ∀ i, i < 5 → (f i).toInt = R i := fun i hi => by
      have := h63 i
      rw [hr i hi, zL_toInt (by omega) (by omega)]
    have hRt : ∀ i, ti f i = R i := fun i => by
      by_cases q : i < 5
      · rw [ti_lo f q, hex i q]
      · rw [ti_hi f i (by omega), hz i (by omega)]
    obtain ⟨x0, xd, xg⟩ := CGr_e n x (fun i hi => by have := h63 i; rw [hex i (by omega)]; omega) hx
    have xd5 : ∀ i, x.toInt ∣ R i := fun i => by
      by_cases q : i < n
      · rw [← hex i (by omega)]; exact xd i q
      · by_cases q5 : i < 5
        · rw [← hex i q5, hn0 i (by omega) q5]; exact Int.dvd_zero _
        · rw [hz i (by omega)]; exact Int.dvd_zero _
    have xpos : 0 < x.toInt := by
      obtain ⟨i, -, hi⟩ := hA
      rcases Int.lt_or_eq_of_le x0 with q | q
      · exact q
      · exfalso
        apply hi
        have := xd5 i
        rw [← q] at this
        exact Int.zero_dvd.mp this
    have hx2 := Int64.toInt_lt x
    have yI : y.toInt = x.toInt ∨ y.toInt = -x.toInt := by
      rcases hy with q | q
      · rw [q]; exact Or.inl rfl
      · right
        rw [q, Int64.toInt_neg, Int.bmod_eq_of_le (by omega) (by omega)]
    have y0 : y.toInt ≠ 0 := by omega
    have hy0 : y ≠ 0 := fun q => y0 (by rw [q]; rfl)
    have hq : ∀ i, R i = y.toInt * ti f2 i := fun i => by
      by_cases q : i < 5
      · have h1 := h63 i
        rw [ti_lo f2 q, e1 hy0 i q, Int64.toInt_div_of_ne_left _ _ (fun z => by
          have h2 := hex i q
          rw [z, Int64.toInt_minValue] at h2
          omega), hex i q]
        have hd : y.toInt ∣ R i := by
          rcases yI with z | z
          · rw [z]; exact xd5 i
          · rw [z]; exact Int.neg_dvd.mpr (xd5 i)
        obtain ⟨k, hk⟩ := hd
        rw [hk, Int.mul_tdiv_cancel_left _ y0]
      · rw [hz i (by omega), ti_hi f2 i (by omega), Int.mul_zero]
    have hpr : Pr (ti f2) := fun m hm => by
      have h1 : ((m * x.toInt.toNat : Nat) : Int) ∣ x.toInt := xg _ (fun i hi => by
        obtain ⟨k, hk⟩ := hm i
        rw [hex i (by omega), hq i, hk]
        have e : ((m * x.toInt.toNat : Nat) : Int) = (m : Int) * x.toInt := by rw [Int.natCast_mul, Int.toNat_of_nonneg x0]
        rw [e]
        rcases yI with z | z
        · exact ⟨k, by rw [z]; grind⟩
        · exact ⟨-k, by rw [z]; grind⟩)
      have h2 : m * x.toInt.toNat ∣ x.toInt.toNat := by
        have := Int.ofNat_dvd_left.mp h1
        rw [show x.toInt.natAbs = x.toInt.toNat by omega] at this
        exact this
      have h3 : 0 < x.toInt.toNat := by omega
      have h4 := Nat.le_of_dvd h3 h2
      have h5 : m ≤ 1 := Nat.le_of_not_lt fun q => by
        have : 2 * x.toInt.toNat ≤ m * x.toInt.toNat := Nat.mul_le_mul_right _ q
        omega
      have h6 : m ≠ 0 := fun q => by
        rw [q, Nat.zero_mul] at h2
        have := Nat.eq_zero_of_zero_dvd h2
        omega
      omega
    refine ⟨Or.inr ⟨hpr, y.toInt, y0, hq⟩, fun i hi q => ?_, fun d hd => ?_⟩
    · have h1 := h63 i
      have h2 := hq i
      rw [ti_lo f2 hi, q] at h2
      have h3 : (y.toInt * -9223372036854775808).natAbs = y.toInt.natAbs * 9223372036854775808 := by rw [Int.natAbs_mul]; rfl
      have h4 := Int.natAbs_pos.mpr y0
      rw [h2, h3] at h1
      omega
    · have hfd : dgp (ti f) (d + 1) := ⟨fun i hi => by rw [hRt i, hq i, hd.1 i hi, Int.mul_zero], fun _ => by
        have h1 := hd.2 (Nat.succ_pos d)
        rw [hRt, hq]
        exact Int.mul_ne_zero y0 h1⟩
      have hd5 : d < 5 := Nat.lt_of_not_le fun q => hd.2 (Nat.succ_pos d) (ti_hi f2 d q)
      obtain ⟨s1, s2⟩ := hs d hfd
      have h1 := hq d
      have h2 : ti f2 d ≠ 0 := hd.2 (Nat.succ_pos d)
      by_cases q : f d < 0
      · have h3 := s1 q
        have h4 : y.toInt = -x.toInt := by rw [h3, Int64.toInt_neg, Int.bmod_eq_of_le (by omega) (by omega)]
        rw [Int64.lt_iff_toInt_lt, l0, hex d hd5] at q
        rcases Int.lt_or_gt_of_ne h2 with z | z
        · have : 0 < (-y.toInt) * (-(ti f2 d)) := Int.mul_pos (by omega) (by omega)
          rw [Int.neg_mul_neg] at this
          omega
        · exact z
      · have h3 := s2 q
        rw [Int64.lt_iff_toInt_lt, l0, hex d hd5] at q
        rw [h3] at h1
        rcases Int.lt_or_gt_of_ne h2 with z | z
        · have : 0 < x.toInt * (-(ti f2 d)) := Int.mul_pos xpos (by omega)
          rw [Int.mul_neg] at this
          omega
        · exact z
  · have hR1 : ∀ i, 1 ≤ i → R i = 0 := fun i hi => Classical.byContradiction fun q => hA ⟨i, hi, q⟩
    have hf1 : ∀ i, 1 ≤ i → i < 5 → f i = 0 := fun i a b => by rw [hr i b, hR1 i a]; rfl
    have f2z : ∀ i, i < 5 → f i = 0 → f2 i = 0 := fun i hi q => by
      by_cases z : y = 0
      · rw [e0 z i hi, q]
      · rw [e1 z i hi, q, Int64.zero_div]
    by_cases h0 : R 0 = 0
    · have z2 : ∀ i, ti f2 i = 0 := fun i => by
        by_cases q : i < 5
        · rw [ti_0 q]
          refine f2z i q ?_
          cases i with
          | zero => rw [hr 0 q, h0]; rfl
          | succ i => exact hf1 (i + 1) (by omega) q
        · exact ti_hi f2 i (by omega)
      refine ⟨Or.inl ⟨fun i => ?_, z2⟩, fun i hi q => ?_, fun d hd => absurd (z2 d) (hd.2 (Nat.succ_pos d))⟩
      · cases i with
        | zero => exact h0
        | succ i => exact hR1 (i + 1) (by omega)
      · have := z2 i
        rw [ti_lo f2 hi, q] at this
        exact absurd this (by decide)
    · have hf0 : f 0 ≠ 0 := by rw [hr 0 (by decide)]; exact l_wrap (h64 0) h0
      have hn1 : n ≠ 0 := fun q => hf0 (hn0 0 (by omega) (by decide))
      obtain ⟨m, rfl⟩ : ∃ m, n = m + 1 := ⟨n - 1, by omega⟩
      have ex := CGr_c m x (fun i a b => hf1 i a (by omega)) hx
      have hd1 : dgp (ti f) (0 + 1) := ⟨fun i hi => by
          by_cases q : i < 5
          · rw [ti_0 q]; exact hf1 i hi q
          · exact ti_hi f i (by omega), fun _ q => hf0 ((ti_0 (by decide)).mp q)⟩
      have ey : y = f 0 := by
        obtain ⟨s1, s2⟩ := hs 0 hd1
        by_cases q : f 0 < 0
        · rw [s1 q, ex]
          unfold lab
          rw [if_pos q, Int64.neg_neg]
        · rw [s2 q, ex]
          unfold lab
          rw [if_neg q]
      have e20 : f2 0 = 1 := by
        rw [e1 (by rw [ey]; exact hf0) 0 (by decide), ey, Int64.div_self, if_neg hf0]
      have t0 : ti f2 0 = 1 := by rw [ti_lo f2 (by decide), e20]; rfl
      have t1 : ∀ i, 1 ≤ i → ti f2 i = 0 := fun i hi => by
        by_cases q : i < 5
        · rw [ti_0 q]; exact f2z i q (hf1 i hi q)
        · exact ti_hi f2 i (by omega)
      refine ⟨Or.inr ⟨fun m hm => ?_, R 0, h0, fun i => ?_⟩, fun i hi q => ?_, fun d hd => ?_⟩
      · have := hm 0
        rw [t0] at this
        have h1 := Int.ofNat_dvd_left.mp this
        exact Nat.dvd_one.mp h1
      · cases i with
        | zero => rw [t0, Int.mul_one]
        | succ i => rw [t1 (i + 1) (by omega), Int.mul_zero]; exact hR1 (i + 1) (by omega)
      · cases i with
        | zero => rw [e20] at q; exact absurd q (by decide)
        | succ i =>
          have := t1 (i + 1) (by omega)
          rw [ti_lo f2 hi, q] at this
          exact absurd this (by decide)
      · cases d with
        | zero => rw [t0]; decide
        | succ d => exact absurd (t1 (d + 1) (by omega)) (hd.2 (Nat.succ_pos _))
end
section
/-! the pair under way: it generates the same, is safe, and its rows are the numbers themselves -/
theorem SFo_dg {A B : Nat → Int} (h : SFo A B) : ∃ a b, dgp A a ∧ dgp B b ∧ 1 ≤ b ∧ b ≤ a := by
  rcases h with ⟨n, a, α, b, β, da, db, h1, h2, -⟩ | ⟨da, db, -, -⟩ | ⟨f, g, -, -, -, -, -, -, h⟩
  · exact ⟨a, b, da, db, h1, h2⟩
  · exact ⟨5, 5, da, db, by omega, by omega⟩
  · rcases h with ⟨da, db, -⟩ | ⟨da, db, -⟩ | ⟨da, db, -⟩ | ⟨da, db, -⟩ | ⟨da, db, -⟩ | ⟨da, db, -⟩
    · exact ⟨_, _, da, db, by omega, by omega⟩
    · exact ⟨_, _, da, db, by omega, by omega⟩
    · exact ⟨_, _, da, db, by omega, by omega⟩
    · exact ⟨_, _, da, db, by omega, by omega⟩
    · exact ⟨_, _, da, db, by omega, by omega⟩
    · exact ⟨_, _, da, db, by omega, by omega⟩
theorem dgp_z {A : Nat → Int} {a : Nat} (h : dgp A a) (z : ∀ i, A i = 0) : a = 0 := dgp_uq h ⟨fun i _ => z i, fun q => absurd q (Nat.lt_irrefl 0)⟩
theorem SF.ord {A B : Nat → Int} {a b : Nat} (h : SF A B) (da : dgp A a) (db : dgp B b) (h1 : 1 ≤ b) (h2 : b ≤ a) : SFo A B := by
  rcases h with z | z | h | ⟨a1, b1, d1, d2, hlt, -⟩
  · have := dgp_z da z; omega
  · have := dgp_z db z; omega
  · exact h
  · have e1 := dgp_uq d1 da
    have e2 := dgp_uq d2 db
    omega
theorem SF.swp {A B : Nat → Int} {a b : Nat} (h : SF A B) (da : dgp A a) (db : dgp B b) (hlt : a < b) : SF B A := by
  rcases h with z | z | h | ⟨a1, b1, d1, d2, -, h⟩
  · exact Or.inr (Or.inl z)
  · exact Or.inl z
  · obtain ⟨a1, b1, d1, d2, h1, h2⟩ := SFo_dg h
    have e1 := dgp_uq d1 da
    have e2 := dgp_uq d2 db
    omega
  · exact Or.inr (Or.inr (Or.inl h))
def IV (X Y f g : Nat → Int64) : Prop := EQ2 (ti X) (ti Y) (ti f) (ti g) ∧ SF (ti f) (ti g) ∧ bd f ∧ bd g
theorem IV.swp {X Y f g : Nat → Int64} {a b : Nat} (h : IV X Y f g) (da : dgp (ti f) a) (db : dgp (ti g) b) (hlt : a < b) : IV X Y g f := ⟨h.1.sw, h.2.1.swp da db hlt, h.2.2.2, h.2.2.1⟩
theorem ti_zL (f : Nat → Int64) {i : Nat} (hi : i < 5) : f i = zL (ti f i) := by
  rw [ti_lo f hi]
  exact zL_of _
def RP (f : Nat → Int64) : Prop := bx 7 (ti f) ∨ Nm (ti f)
theorem stepX {X Y f g f1 f2 : Nat → Int64} {a b : Nat} {c sf ot : Int} (h : IV X Y f g) (da : dgp (ti f) a) (db : dgp (ti g) b) (h1 : 1 ≤ b) (h2 : b ≤ a) (hc : c ≠ 0) (e1 : c * sf = ti g (b - 1)) (e2 : c * ot = ti f (a - 1)) (hf : ∀ i, i < 5 → f1 i = zL (sf * ti f i - ot * shN (a - b) (ti g) i)) (hn : NPm f1 f2) : IV X Y f2 g ∧ Nm (ti f2) ∧ ∃ a1, dgp (ti f2) a1 ∧ a1 < a := by
  obtain ⟨hE, hS, bf, bg⟩ := h
  have hs := step (hS.ord da db h1 h2) da db hc e1 e2 (R := fun i => sf * ti f i - ot * shN (a - b) (ti g) i) (fun _ => rfl)
  have ht := low_top da db h1 h2 hc e1 e2 (R := fun i => sf * ti f i - ot * shN (a - b) (ti g) i) (fun _ => rfl)
  have ha5 : a ≤ 5 := dgp_le da (ti_hi f)
  obtain ⟨n1, n2, n3⟩ := norm hf (fun i hi => ht i (by omega)) hs.1 hs.2.1 hn
  have hz : ∀ i, a - 1 ≤ i → ti f2 i = 0 := fun i hi => by
    rcases n1 with ⟨-, z⟩ | ⟨-, hk⟩
    · exact z i
    · exact nz_hi ht hk i hi
  have sf0 : sf ≠ 0 := fun q => by
    rw [q, Int.mul_zero] at e1
    exact db.2 (by omega) e1.symm
  obtain ⟨a1, ha1, d1⟩ := dgp_ex (a - 1) hz
  have hnm : Nm (ti f2) := by
    rcases n1 with ⟨-, z⟩ | ⟨pr, hk⟩
    · exact Or.inl z
    · by_cases q : a1 = 0
      · subst q; exact Or.inl (dgp_0 d1)
      · obtain ⟨d, rfl⟩ : ∃ d, a1 = d + 1 := ⟨a1 - 1, by omega⟩
        exact Or.inr ⟨d, dgp_tp d1, n3 d d1, pr⟩
  refine ⟨⟨hE.tr ?_, hs.2.2 _ n1, n2, bg⟩, hnm, a1, d1, by omega⟩
  rcases n1 with ⟨z1, z2⟩ | ⟨-, k, hk0, hk⟩
  · exact EQ2.low (m := 1) (sf := sf) (ot := ot) (k := a - b) (by decide) sf0 (fun i => by rw [z2 i, Int.mul_zero]; exact (z1 i).symm)
  · exact EQ2.low (m := k) (sf := sf) (ot := ot) (k := a - b) hk0 sf0 (fun i => (hk i).symm)
/-- a row taken as it is, freed of its numbers' common divisor -/
theorem normX {P Q G : Nat → Int} {f f2 : Nat → Int64} (h : EQ2 P Q (ti f) G) (bf : bd f) (hn : NPm f f2) : EQ2 P Q (ti f2) G ∧ Nm (ti f2) ∧ bd f2 ∧ ∀ B, bx B (ti f) → bx B (ti f2) := by
  have hb : ∀ i, (ti f i).natAbs < 9223372036854775808 := fun i => by
    by_cases q : i < 5
    · have h1 := bf i q
      have h2 := Int64.le_toInt (f i)
      have h3 := Int64.toInt_lt (f i)
      rw [ti_lo f q]
      omega
    · rw [ti_hi f i (by omega)]; decide
  obtain ⟨n1, n2, n3⟩ := norm (R := ti f) (fun i hi => ti_zL f hi) (ti_hi f) (fun i => Nat.lt_trans (hb i) (by decide)) (fun _ => hb) hn
  refine ⟨h.tr ?_, ?_, n2, fun B hB => ?_⟩
  · rcases n1 with ⟨z1, z2⟩ | ⟨-, k, hk0, hk⟩
    · exact EQ2.sc (m := 1) (n := 1) (by decide) (by decide) (fun i => by rw [z1 i, z2 i])
    · exact EQ2.sc (m := k) (n := 1) hk0 (by decide) (fun i => by rw [Int.one_mul]; exact (hk i).symm)
  · rcases n1 with ⟨-, z2⟩ | ⟨pr, -⟩
    · exact Or.inl z2
    · obtain ⟨a1, -, d1⟩ := dgp_ex 5 (ti_hi f2)
      by_cases q : a1 = 0
      · subst q; exact Or.inl (dgp_0 d1)
      · obtain ⟨d, rfl⟩ : ∃ d, a1 = d + 1 := ⟨a1 - 1, by omega⟩
        exact Or.inr ⟨d, dgp_tp d1, n3 d d1, pr⟩
  · rcases n1 with ⟨-, z2⟩ | ⟨-, k, hk0, hk⟩
    · exact fun i => by rw [z2 i]; exact Nat.zero_le _
    · exact bx_mul hk0 hk hB
/-! the end, and that it is one -/
theorem RP.ini {X Y f W : Nat → Int64} (hX : bx 7 (ti X)) (hY : bx 7 (ti Y)) (h : EQ2 (ti X) (ti Y) (ti f) p0) (hf : RP f) (hW : bx 7 (ti W)) : SF (ti f) (ti W) := by
  obtain ⟨a, ha, da⟩ := dgp_ex 5 (ti_hi f)
  refine SF.init (fun i hi => ti_hi f i hi) (fun i hi => ti_hi W i hi) da ?_ hW
  have up : ∀ B, B ≤ 7 → bx B (ti f) → bx (if a = 3 then 105 else 7) (ti f) := fun B hB hb i => by
    have := hb i
    split <;> omega
  rcases hf with h7 | z | ⟨d, td, -, pr⟩
  · exact up 7 (Nat.le_refl 7) h7
  · exact up 0 (by decide) (fun i => by rw [z i]; decide)
  · have hd : a = d + 1 := dgp_uq da ⟨fun i hi => td.2 i hi, fun _ => td.1⟩
    obtain ⟨c, hc⟩ := quo pr h.2.2.1
    obtain ⟨e, he⟩ := quo pr h.2.2.2
    -- one of the two isn't 0
    have hne : (¬ ∀ i, ti X i = 0) ∨ ¬ ∀ i, ti Y i = 0 := by
      by_cases q : ∀ i, ti X i = 0
      · exact Or.inr fun q2 => td.1 (rs_zero q q2 h.1 d)
      · exact Or.inl q
    have sX : ∀ i, 4 < i → ti X i = 0 := fun i hi => ti_hi X i hi
    have sY : ∀ i, 4 < i → ti Y i = 0 := fun i hi => ti_hi Y i hi
    rcases (show d = 0 ∨ d = 1 ∨ d = 2 ∨ d = 3 ∨ d = 4 by omega) with rfl | rfl | rfl | rfl | rfl
    · exact up 1 (by decide) (gb0 pr td)
    · rcases hne with q | q
      · exact up 7 (Nat.le_refl 7) (gb1 hX td hc q)
      · exact up 7 (Nat.le_refl 7) (gb1 hY td he q)
    · rw [if_pos hd]
      rcases hne with q | q
      · exact gb2 hX sX td hc q
      · exact gb2 hY sY td he q
    · exact up 7 (Nat.le_refl 7) (gb3 pr hX hY sX sY td h)
    · rcases hne with q | q
      · exact up 7 (Nat.le_refl 7) (gb4 hX sX td hc q)
      · exact up 7 (Nat.le_refl 7) (gb4 hY sY td he q)
def GG (X Y W g : Nat → Int64) : Prop := ∃ g1 : Nat → Int, EQ2 (ti X) (ti Y) g1 p0 ∧ EQ2 g1 (ti W) (ti g) p0 ∧ Nm (ti g)
theorem rs_in0 {S : (Nat → Int) → Prop} (c : Cl S) {a : Nat → Int} (h : S a) : S p0 := by
  have := c.2.1 0 a h
  rw [show (fun i => 0 * a i) = p0 from funext fun i => Int.zero_mul _] at this
  exact this
theorem EQ2.fst {g g1 W : Nat → Int} (h : EQ2 g p0 g1 p0) : EQ2 g W g1 W := ⟨fun S c x y => h.1 S c x (rs_in0 c x), fun S c x y => y, fun S c x y => h.2.2.1 S c x (rs_in0 c x), fun S c x y => y⟩
theorem GG.uq {X Y W g h : Nat → Int64} (h1 : GG X Y W g) (h2 : GG X Y W h) : ∀ i, i < 5 → g i = h i := by
  obtain ⟨a, ha, hg, ng⟩ := h1
  obtain ⟨b, hb, hh, nh⟩ := h2
  have hab : EQ2 a p0 b p0 := ha.sm.tr hb
  have hgh : EQ2 (ti g) p0 (ti h) p0 := hg.sm.tr ((EQ2.fst (W := ti W) hab).tr hh)
  have hu := uniq hgh ng nh
  intro i hi
  have := hu i
  rw [ti_lo g hi, ti_lo h hi] at this
  exact Int64.toInt_inj.mp this
end
section
/-! what the loops keep, for the exact contracts -/
def cgJ (a b x y : Int64) : Prop := (a = 0 → (x = 0 ∧ y = lab b) ∨ (x = lab b ∧ y = 0)) ∧ (b = 0 → x = lab a ∧ y = 0)
theorem lab_z : lab 0 = 0 := rfl
theorem cgJ_0 (a b : Int64) : cgJ a b (lab a) (lab b) := ⟨fun h => Or.inl ⟨by rw [h]; rfl, rfl⟩, fun h => ⟨rfl, by rw [h]; rfl⟩⟩
theorem cgJ_s {a b x y : Int64} (hy : ¬ y = 0) (h : cgJ a b x y) : cgJ a b y (x - x / y * y) := by
  refine ⟨fun ha => ?_, fun hb => absurd (h.2 hb).2 hy⟩
  rcases h.1 ha with ⟨q1, q2⟩ | ⟨-, q2⟩
  · exact Or.inr ⟨q2, by rw [q1, Int64.zero_div, Int64.zero_mul]; rfl⟩
  · exact absurd q2 hy
theorem cgJ_e {a b x y : Int64} (hy : y = 0) (hc : cgE a b x) (h : cgJ a b x y) : cgX a b x := by
  refine ⟨hc, fun ha => ?_, fun hb => (h.2 hb).1⟩
  rcases h.1 ha with ⟨q1, q2⟩ | ⟨q1, -⟩
  · rw [q1, ← q2, hy]
  · exact q1
theorem CGr_s {f : Nat → Int64} {i : Int} {x r : Int64} (hi : 0 ≤ i) (h : CGr f i.toNat x) (hr : cgX x (f i.toNat) r) : CGr f (i + 1).toNat r := by
  have e : (i + 1).toNat = i.toNat + 1 := by omega
  rw [e]
  exact ⟨x, h, hr⟩
theorem np_zero {f : Nat → Int64} {z : Int} (h1 : z < 0) (h2 : ∀ k : Int, z < k → k ≤ 4 → f k.toNat = 0) : NPm f f := by
  have hz : ∀ i, i < 5 → f i = 0 := fun i hi => by
    have := h2 (i : Int) (by omega) (by omega)
    rw [Int.toNat_natCast] at this
    exact this
  exact ⟨0, 0, 0, by omega, fun i _ hi => hz i hi, rfl, Or.inl rfl, fun d hd => ⟨fun _ => rfl, fun _ => rfl⟩, fun _ _ _ => rfl, fun q => absurd rfl q⟩
/-- the sign of the common divisor -/
def sgn (t x y : Int64) : Prop := (t < 0 → y = -x) ∧ (¬ t < 0 → y = x)
theorem sgn_n {t x : Int64} (h : ¬ (0 : Int64) ≤ t) : sgn t x (-x) := ⟨fun _ => rfl, fun q => absurd (Int64.not_le.mp h) q⟩
theorem sgn_p {t x : Int64} (h : (0 : Int64) ≤ t) : sgn t x x := ⟨fun q => absurd h (Int64.not_le.mpr q), fun _ => rfl⟩
theorem np_end {f f2 : Nat → Int64} {z : Int} {x y : Int64} (h1 : -1 ≤ z ∧ z ≤ 4) (h2 : ∀ k : Int, z < k → k ≤ 4 → f k.toNat = 0) (h3 : 0 ≤ z → f z.toNat ≠ 0) (h4 : 0 ≤ z) (hx : CGr f (z + 1).toNat x) (hs : sgn (f z.toNat) x y) (e0 : y = 0 → ∀ i, i < 5 → f2 i = f i) (e1 : y ≠ 0 → ∀ j : Int, 0 ≤ j → j ≤ z → f2 j.toNat = f j.toNat / y) (e2 : ∀ j : Int, z < j → j ≤ 4 → f2 j.toNat = f j.toNat) : NPm f f2 := by
  refine ⟨(z + 1).toNat, x, y, by omega, fun i hi h5 => ?_, hx, ?_, fun d hd => ?_, e0, fun hy i hi => ?_⟩
  · have := h2 (i : Int) (by omega) (by omega)
    rw [Int.toNat_natCast] at this
    exact this
  · by_cases q : f z.toNat < 0
    · exact Or.inr (hs.1 q)
    · exact Or.inl (hs.2 q)
  · have e : d + 1 = (z + 1).toNat := dgp_uq hd (ti_dg h1 h2 h3)
    have e3 : d = z.toNat := by omega
    rw [e3]
    exact hs
  · by_cases q : (i : Int) ≤ z
    · have := e1 hy (i : Int) (by omega) q
      rw [Int.toNat_natCast] at this
      exact this
    · have a1 := e2 (i : Int) (by omega) (by omega)
      have a2 := h2 (i : Int) (by omega) (by omega)
      rw [Int.toNat_natCast] at a1 a2
      rw [a1, a2, Int64.zero_div]
theorem ti_ext {f g : Nat → Int64} (h : ∀ j : Int, 0 ≤ j → j ≤ 4 → f j.toNat = g j.toNat) : ti f = ti g := funext fun i => by
  by_cases q : i < 5
  · have := h (i : Int) (by omega) (by omega)
    rw [Int.toNat_natCast] at this
    rw [ti_lo f q, ti_lo g q, this]
  · rw [ti_hi f i (by omega), ti_hi g i (by omega)]
theorem bd_ext {f g : Nat → Int64} (h : ∀ j : Int, 0 ≤ j → j ≤ 4 → f j.toNat = g j.toNat) (hg : bd g) : bd f := fun i hi => by
  have := h (i : Int) (by omega) (by omega)
  rw [Int.toNat_natCast] at this
  rw [this]
  exact hg i hi
theorem np_c0 {f : Nat → Int64} {z : Int} {x : Int64} (h1 : -1 ≤ z ∧ z ≤ 4) (h2 : ∀ k : Int, z < k → k ≤ 4 → f k.toNat = 0) (h3 : 0 ≤ z → f z.toNat ≠ 0) (h4 : 0 ≤ z) (hx : CGr f (z + 1).toNat x) (h0 : x = 0) : NPm f f := np_end (y := 0) h1 h2 h3 h4 hx ⟨fun _ => by rw [h0]; rfl, fun _ => h0.symm⟩ (fun _ _ _ => rfl) (fun q => absurd rfl q) (fun _ _ _ => rfl)
theorem updL_at {f : Nat → Int64} {k j : Int} {x : Int64} (hk : 0 ≤ k) (hj : 0 ≤ j) : vp_updL f k.toNat x j.toNat = if j = k then x else f j.toNat := by
  unfold vp_updL
  by_cases e : j = k
  · rw [if_pos e, if_pos (by omega)]
  · rw [if_neg e, if_neg (by omega)]
theorem dv_s {f m m1 : Nat → Int64} {i n : Int} {y : Int64} (hi : 0 ≤ i) (hn : i < n) (g : m1 = vp_updL m i.toNat (m i.toNat / y)) (hq : ∀ j : Int, 0 ≤ j → j < n → m j.toNat = if j < i then f j.toNat / y else f j.toNat) : ∀ j : Int, 0 ≤ j → j < n → m1 j.toNat = if j < i + 1 then f j.toNat / y else f j.toNat := fun j a b => by
  rw [g, updL_at hi a]
  by_cases e : j = i
  · rw [if_pos e, if_pos (by omega), e, hq i hi hn, if_neg (by omega)]
  · rw [if_neg e, hq j a b]
    by_cases q : j < i
    · rw [if_pos q, if_pos (by omega)]
    · rw [if_neg q, if_neg (by omega)]
def lowV (f g : Nat → Int64) (st ot : Int) (sf of_ : Int64) (j : Int) : Int64 := sf * f j.toNat - (if j < st - ot then 0 else of_ * g (j - (st - ot)).toNat)
def lowP (f g f1 : Nat → Int64) (st ot : Int) (cm : Int64) : Prop := cm ≠ 0 ∧ ∀ j : Int, 0 ≤ j → j < 5 → f1 j.toNat = if j < st + 1 then lowV f g st ot (g ot.toNat / cm) (f st.toNat / cm) j else f j.toNat
theorem low_s {f g m m1 : Nat → Int64} {st ot i : Int} {sf of_ w : Int64} (hi : 0 ≤ i) (hn : i < 5) (g1 : m1 = vp_updL m i.toNat (sf * m i.toNat - w)) (hw : w = if i < st - ot then 0 else of_ * g (i - (st - ot)).toNat) (hq : ∀ j : Int, 0 ≤ j → j < 5 → m j.toNat = if j < i then lowV f g st ot sf of_ j else f j.toNat) : ∀ j : Int, 0 ≤ j → j < 5 → m1 j.toNat = if j < i + 1 then lowV f g st ot sf of_ j else f j.toNat := fun j a b => by
  rw [g1, updL_at hi a]
  by_cases e : j = i
  · rw [if_pos e, if_pos (by omega), e, hq i hi hn, if_neg (by omega), hw]
    rfl
  · rw [if_neg e, hq j a b]
    by_cases q : j < i
    · rw [if_pos q, if_pos (by omega)]
    · rw [if_neg q, if_neg (by omega)]
theorem cpy_at {f g : Nat → Int64} {j : Int} (h1 : 0 ≤ j) (h2 : j < 5) : va_cpy f g 0 0 5 j.toNat = f j.toNat := by
  unfold va_cpy
  rw [if_pos (by omega), show 0 + (j.toNat - 0) = j.toNat by omega]
end
section
def stn (f g : Nat → Int64) (i : Int) : Prop := ∃ a b : Nat, dgp (ti f) a ∧ dgp (ti g) b ∧ i + 2 * ((a : Int) + b) + (if a < b then 1 else 0) ≤ 20
theorem stn_le {f g : Nat → Int64} {i : Int} (h : stn f g i) : i ≤ 20 := by
  obtain ⟨a, b, -, -, h⟩ := h
  split at h <;> omega
theorem stn_0 (f g : Nat → Int64) : stn f g 0 := by
  obtain ⟨a, ha, da⟩ := dgp_ex 5 (ti_hi f)
  obtain ⟨b, hb, db⟩ := dgp_ex 5 (ti_hi g)
  refine ⟨a, b, da, db, ?_⟩
  split <;> omega
theorem z5_ti {g : Nat → Int64} {z : Int} (h1 : z < 0) (h2 : ∀ k : Int, z < k → k ≤ 4 → g k.toNat = 0) : ti g = p0 := funext fun i => by
  by_cases q : i < 5
  · have := h2 (i : Int) (by omega) (by omega)
    rw [Int.toNat_natCast] at this
    show ti g i = 0
    rw [ti_lo g q, this]
    rfl
  · exact ti_hi g i (by omega)
theorem iv_end {X Y f g : Nat → Int64} {z : Int} (h : IV X Y f g) (h1 : z < 0) (h2 : ∀ k : Int, z < k → k ≤ 4 → g k.toNat = 0) : EQ2 (ti X) (ti Y) (ti f) p0 := by
  have := h.1
  rw [z5_ti h1 h2] at this
  exact this
theorem ext5 {f g : Nat → Int64} (h : ∀ j : Int, 0 ≤ j → j < 5 → f j.toNat = g j.toNat) : ti f = ti g ∧ (bd g → bd f) := ⟨ti_ext fun j a b => h j a (by omega), bd_ext fun j a b => h j a (by omega)⟩
theorem iv_sw {X Y f g f1 g1 : Nat → Int64} {ta tb i : Int} (h : IV X Y f g) (a1 : -1 ≤ ta ∧ ta ≤ 4) (a2 : ∀ k : Int, ta < k → k ≤ 4 → f k.toNat = 0) (a3 : 0 ≤ ta → f ta.toNat ≠ 0) (b1 : -1 ≤ tb ∧ tb ≤ 4) (b2 : ∀ k : Int, tb < k → k ≤ 4 → g k.toNat = 0) (b3 : 0 ≤ tb → g tb.toNat ≠ 0) (hlt : ta < tb) (hs : ∀ j : Int, 0 ≤ j → j < 5 → f1 j.toNat = g j.toNat ∧ g1 j.toNat = f j.toNat) (hst : stn f g i) : IV X Y f1 g1 ∧ stn f1 g1 (i + 1) ∧ ti f1 = ti g ∧ ti g1 = ti f := by
  obtain ⟨e1, e2⟩ := ext5 (fun j a b => (hs j a b).1)
  obtain ⟨e3, e4⟩ := ext5 (fun j a b => (hs j a b).2)
  have da := ti_dg a1 a2 a3
  have db := ti_dg b1 b2 b3
  have h2 := h.swp da db (by omega)
  refine ⟨⟨by rw [e1, e3]; exact h2.1, by rw [e1, e3]; exact h2.2.1, e2 h2.2.2.1, e4 h2.2.2.2⟩, ?_, e1, e3⟩
  obtain ⟨a, b, d1, d2, hle⟩ := hst
  have q1 := dgp_uq d1 da
  have q2 := dgp_uq d2 db
  refine ⟨b, a, by rw [e1]; exact d2, by rw [e3]; exact d1, ?_⟩
  rw [if_pos (by omega)] at hle
  rw [if_neg (by omega)]
  omega
theorem tdiv_z {x c : Int64} (hx : x.toInt ≠ -9223372036854775808) (hd : c.toInt ∣ x.toInt) (h0 : c.toInt ≠ 0) : c.toInt * (x / c).toInt = x.toInt := by
  rw [Int64.toInt_div_of_ne_left _ _ (fun z => hx (by rw [z]; rfl))]
  obtain ⟨k, hk⟩ := hd
  rw [hk, Int.mul_tdiv_cancel_left _ h0]
theorem iv_low {X Y f g f1 f2 : Nat → Int64} {ta tb i : Int} {cm : Int64} (h : IV X Y f g) (a1 : -1 ≤ ta ∧ ta ≤ 4) (a2 : ∀ k : Int, ta < k → k ≤ 4 → f k.toNat = 0) (a3 : 0 ≤ ta → f ta.toNat ≠ 0) (b1 : -1 ≤ tb ∧ tb ≤ 4) (b2 : ∀ k : Int, tb < k → k ≤ 4 → g k.toNat = 0) (b3 : 0 ≤ tb → g tb.toNat ≠ 0) (h0 : 0 ≤ tb) (hle : tb ≤ ta) (hcm : cgX (f ta.toNat) (g tb.toNat) cm) (hl : lowP f g f1 ta tb cm) (hn : NPm f1 f2) (hst : stn f g i) : IV X Y f2 g ∧ Nm (ti f2) ∧ stn f2 g (i + 1) := by
  have da := ti_dg a1 a2 a3
  have db := ti_dg b1 b2 b3
  have mf := h.2.2.1 ta.toNat (by omega)
  have mg := h.2.2.2 tb.toNat (by omega)
  have eg := hcm.1.2 mf mg
  have c0 : cm.toInt ≠ 0 := fun q => hl.1 (Int64.toInt_inj.mp q)
  have e1 := tdiv_z mg (by rw [eg]; exact Int.gcd_dvd_right _ _) c0
  have e2 := tdiv_z mf (by rw [eg]; exact Int.gcd_dvd_left _ _) c0
  have hx := stepX h da db (by omega) (by omega) c0 (sf := (g tb.toNat / cm).toInt) (ot := (f ta.toNat / cm).toInt) (by
      rw [show (tb + 1).toNat - 1 = tb.toNat by omega, ti_lo g (by omega)]; exact e1) (by
      rw [show (ta + 1).toNat - 1 = ta.toNat by omega, ti_lo f (by omega)]; exact e2) (f1 := f1) (fun i hi => by
      have hj := hl.2 (i : Int) (by omega) (by omega)
      rw [Int.toNat_natCast] at hj
      rw [hj, shN_at]
      by_cases q : (i : Int) < ta + 1
      · rw [if_pos q]
        unfold lowV
        rw [Int.toNat_natCast, ← zL_sub, ← zL_mul, ← zL_of, ← ti_zL f hi]
        congr 1
        by_cases q2 : (i : Int) < ta - tb
        · rw [if_pos q2, if_pos (by omega), Int.mul_zero]
          rfl
        · rw [if_neg q2, if_neg (by omega), ← zL_mul, ← zL_of, show (i : Int) - (ta - tb) = ((i - ((ta + 1).toNat - (tb + 1).toNat) : Nat) : Int) by omega, Int.toNat_natCast, ← ti_zL g (by omega)]
      · rw [if_neg q]
        have z1 := a2 (i : Int) (by omega) (by omega)
        rw [Int.toNat_natCast] at z1
        rw [z1, (ti_0 hi).mpr z1, if_neg (by omega), db.1 (i - ((ta + 1).toNat - (tb + 1).toNat)) (by omega), Int.mul_zero, Int.mul_zero]
        rfl) hn
  refine ⟨hx.1, hx.2.1, ?_⟩
  obtain ⟨c1, d1, hlt⟩ := hx.2.2
  obtain ⟨a, b, k1, k2, hle2⟩ := hst
  have q1 := dgp_uq k1 da
  have q2 := dgp_uq k2 db
  refine ⟨c1, b, d1, k2, ?_⟩
  rw [if_neg (by omega)] at hle2
  split <;> omega
/-! the reference's side -/
def sgd (f : Nat → Int64) (x y : Int64) (d : Int) : Prop := (0 ≤ d → sgn (f d.toNat) x y) ∧ (d < 0 → y = x)
theorem np_ref {f f2 : Nat → Int64} {x y : Int64} {d k : Int} (d1 : -1 ≤ d ∧ d ≤ 4) (d2 : ∀ j : Int, d < j → j ≤ 4 → f j.toNat = 0) (d3 : 0 ≤ d → f d.toNat ≠ 0) (hx : CGr f 5 x) (hs : sgd f x y d) (hq : ∀ j : Int, 0 ≤ j → j < 5 → f2 j.toNat = if j < k then f j.toNat / y else f j.toNat) (hy : y = 0 → k = 0) (he : 5 ≤ k ∨ y = 0) : NPm f f2 := by
  refine ⟨5, x, y, Nat.le_refl 5, fun i a b => by omega, hx, ?_, fun e hd => ?_, fun q i hi => ?_, fun q i hi => ?_⟩
  · by_cases q : 0 ≤ d
    · by_cases q2 : f d.toNat < 0
      · exact Or.inr ((hs.1 q).1 q2)
      · exact Or.inl ((hs.1 q).2 q2)
    · exact Or.inl (hs.2 (by omega))
  · have h1 : e + 1 = (d + 1).toNat := dgp_uq hd (ti_dg d1 d2 d3)
    have h2 : e = d.toNat := by omega
    rw [h2]
    exact hs.1 (by omega)
  · have := hq (i : Int) (by omega) (by omega)
    rw [Int.toNat_natCast, hy q, if_neg (by omega)] at this
    exact this
  · have := hq (i : Int) (by omega) (by omega)
    have hk5 : 5 ≤ k := he.resolve_right q
    rw [Int.toNat_natCast, if_pos (by omega)] at this
    exact this
theorem iv_red {X Y j2 j3 f g : Nat → Int64} (hX : bx 7 (ti X)) (hY : bx 7 (ti Y)) (hE : EQ2 (ti X) (ti Y) (ti j2) p0) (b2 : bd j2) (h7 : bx 7 (ti j3)) (b3 : bd j3) (r1 : NPm j2 f) (r2 : NPm j3 g) : IV j2 j3 f g ∧ Nm (ti f) ∧ Nm (ti g) := by
  obtain ⟨e1, n1, q1, -⟩ := normX hE b2 r1
  obtain ⟨e2, -, -, -⟩ := normX (EQ2.rf (ti j2) (ti j3)) b2 r1
  obtain ⟨e3, n3, q3, w3⟩ := normX e2.sw b3 r2
  exact ⟨⟨e3.sw, RP.ini hX hY e1 (Or.inr n1) (w3 7 h7), q1, q3⟩, n1, n3⟩
theorem iv_sw2 {X Y f g f1 g1 : Nat → Int64} {ta tb : Int} (h : IV X Y f g) (a1 : -1 ≤ ta ∧ ta ≤ 4) (a2 : ∀ k : Int, ta < k → k ≤ 4 → f k.toNat = 0) (a3 : 0 ≤ ta → f ta.toNat ≠ 0) (b1 : -1 ≤ tb ∧ tb ≤ 4) (b2 : ∀ k : Int, tb < k → k ≤ 4 → g k.toNat = 0) (b3 : 0 ≤ tb → g tb.toNat ≠ 0) (hlt : ta < tb) (hs : ∀ j : Int, 0 ≤ j → j < 5 → f1 j.toNat = g j.toNat ∧ g1 j.toNat = f j.toNat) : IV X Y f1 g1 ∧ ti f1 = ti g ∧ ti g1 = ti f := by
  obtain ⟨e1, e2⟩ := ext5 (fun j a b => (hs j a b).1)
  obtain ⟨e3, e4⟩ := ext5 (fun j a b => (hs j a b).2)
  have h2 := h.swp (ti_dg a1 a2 a3) (ti_dg b1 b2 b3) (by omega)
  exact ⟨⟨by rw [e1, e3]; exact h2.1, by rw [e1, e3]; exact h2.2.1, e2 h2.2.2.1, e4 h2.2.2.2⟩, e1, e3⟩
def rfV (f g : Nat → Int64) (e d k j : Int) : Int64 := f j.toNat * g d.toNat - (if e - d ≤ j ∧ j < e - d + k then f e.toNat * g (j - (e - d)).toNat else 0)
theorem rsub_0 {f g m : Nat → Int64} {e d : Int} (hp : ∀ j : Int, 0 ≤ j → j ≤ 4 → m j.toNat = if j < 5 then f j.toNat * g d.toNat else f j.toNat) : ∀ j : Int, 0 ≤ j → j < 5 → m j.toNat = rfV f g e d 0 j := fun j a b => by
  rw [hp j a (by omega), if_pos b]
  unfold rfV
  rw [if_neg (by omega), Int64.sub_zero]
theorem rsub_s {f g m m1 : Nat → Int64} {e d k : Int} (hd : 0 ≤ d) (he : d ≤ e) (he4 : e ≤ 4) (hk : 0 ≤ k) (hkd : k ≤ d) (g1 : m1 = vp_updL m (e - d + k).toNat (m (e - d + k).toNat - f e.toNat * g k.toNat)) (hq : ∀ j : Int, 0 ≤ j → j < 5 → m j.toNat = rfV f g e d k j) : ∀ j : Int, 0 ≤ j → j < 5 → m1 j.toNat = rfV f g e d (k + 1) j := fun j a b => by
  rw [g1, updL_at (by omega) a]
  by_cases q : j = e - d + k
  · rw [if_pos q, hq (e - d + k) (by omega) (by omega), q]
    unfold rfV
    rw [if_neg (by omega), if_pos (by omega), Int64.sub_zero, show e - d + k - (e - d) = k by omega]
  · rw [if_neg q, hq j a b]
    unfold rfV
    by_cases q2 : e - d ≤ j ∧ j < e - d + k
    · rw [if_pos q2, if_pos (by omega)]
    · rw [if_neg q2, if_neg (by omega)]
theorem iv_ref {X Y f g f1 f2 : Nat → Int64} {e d : Int} (h : IV X Y f g) (a1 : -1 ≤ e ∧ e ≤ 4) (a2 : ∀ k : Int, e < k → k ≤ 4 → f k.toNat = 0) (a3 : 0 ≤ e → f e.toNat ≠ 0) (b1 : -1 ≤ d ∧ d ≤ 4) (b2 : ∀ k : Int, d < k → k ≤ 4 → g k.toNat = 0) (b3 : 0 ≤ d → g d.toNat ≠ 0) (h0 : 0 ≤ d) (hle : d ≤ e) (hf : ∀ j : Int, 0 ≤ j → j < 5 → f1 j.toNat = rfV f g e d (d + 1) j) (hn : NPm f1 f2) : IV X Y f2 g ∧ Nm (ti f2) ∧ ∀ j : Int, e - 1 < j → j ≤ 4 → f2 j.toNat = 0 := by
  have da := ti_dg a1 a2 a3
  have db := ti_dg b1 b2 b3
  have hx := stepX h da db (by omega) (by omega) (c := 1) (by decide) (sf := ti g d.toNat) (ot := ti f e.toNat) (by
      rw [show (d + 1).toNat - 1 = d.toNat by omega, Int.one_mul]) (by
      rw [show (e + 1).toNat - 1 = e.toNat by omega, Int.one_mul]) (f1 := f1) (fun i hi => by
      have hj := hf (i : Int) (by omega) (by omega)
      rw [Int.toNat_natCast] at hj
      rw [hj, shN_at]
      unfold rfV
      rw [Int.toNat_natCast, ← zL_sub, ← zL_mul, ← ti_zL g (by omega), ← ti_zL f hi, Int64.mul_comm]
      congr 1
      by_cases q2 : (i : Int) < e - d
      · rw [if_neg (by omega), if_pos (by omega), Int.mul_zero]
        rfl
      · by_cases q3 : (i : Int) < e - d + (d + 1)
        · rw [if_pos (by omega), if_neg (by omega), ← zL_mul, ← ti_zL f (by omega), show (i : Int) - (e - d) = ((i - ((e + 1).toNat - (d + 1).toNat) : Nat) : Int) by omega, Int.toNat_natCast, ← ti_zL g (by omega)]
        · rw [if_neg (by omega), if_neg (by omega), db.1 (i - ((e + 1).toNat - (d + 1).toNat)) (by omega), Int.mul_zero]
          rfl) hn
  refine ⟨hx.1, hx.2.1, fun j q1 q2 => ?_⟩
  obtain ⟨c1, d1, hlt⟩ := hx.2.2
  have := d1.1 j.toNat (by omega)
  exact (ti_0 (by omega)).mp this
end
section
/-! the quotient, as both compute it -/
def dq1 (g : Nat → Int64) (d i : Int) (s : Nat → Int64) : Nat → Int64 := fun j => if i ≤ (j : Int) ∧ (j : Int) < i + (d + 1) then s j - (s (i + d).toNat / g d.toNat) * g ((j : Int) - i).toNat else s j
def spq (f g : Nat → Int64) (d : Int) : Nat → Nat → Int64
  | 0 => f
  | n + 1 => dq1 g d (4 - d - n) (spq f g d n)
def rq (f g : Nat → Int64) (d j : Int) : Int64 := if j ≤ 4 - d then spq f g d (4 - d - j).toNat (j + d).toNat / g d.toNat else 0
theorem spq_c {f f1 g g1 : Nat → Int64} {d : Int} (hd : 0 ≤ d ∧ d ≤ 4) (hf : ∀ j, j < 5 → f j = f1 j) (hg : ∀ j, j < 5 → g j = g1 j) : ∀ n : Nat, (n : Int) ≤ 5 - d → ∀ j, j < 5 → spq f g d n j = spq f1 g1 d n j
  | 0, _, j, hj => hf j hj
  | n + 1, hn, j, hj => by
    have ih := spq_c hd hf hg n (by omega)
    show dq1 g d (4 - d - n) (spq f g d n) j = dq1 g1 d (4 - d - n) (spq f1 g1 d n) j
    unfold dq1
    by_cases q : 4 - d - n ≤ (j : Int) ∧ (j : Int) < 4 - d - n + (d + 1)
    · rw [if_pos q, if_pos q, ih j hj, ih (4 - d - n + d).toNat (by omega), hg d.toNat (by omega), hg ((j : Int) - (4 - d - n)).toNat (by omega)]
    · rw [if_neg q, if_neg q, ih j hj]
theorem rq_c {f f1 g g1 : Nat → Int64} {d j : Int} (hd : 0 ≤ d ∧ d ≤ 4) (hj : 0 ≤ j) (hf : ∀ j, j < 5 → f j = f1 j) (hg : ∀ j, j < 5 → g j = g1 j) : rq f g d j = rq f1 g1 d j := by
  unfold rq
  by_cases q : j ≤ 4 - d
  · rw [if_pos q, if_pos q, spq_c hd hf hg (4 - d - j).toNat (by omega) (j + d).toNat (by omega), hg d.toNat (by omega)]
  · rw [if_neg q, if_neg q]
def topz (f : Nat → Int64) (z : Int) : Prop := (-1 ≤ z ∧ z ≤ 4) ∧ (∀ k : Int, z < k → k ≤ 4 → f k.toNat = 0) ∧ (0 ≤ z → f z.toNat ≠ 0)
/-- the quotient's first number, written -/
theorem rq_w {f g s r r1 : Nat → Int64} {d i : Int} {x : Int64} (hd : 0 ≤ d) (hi : 0 ≤ i) (hi4 : i ≤ 4 - d) (hs : ∀ j : Int, 0 ≤ j → j < 5 → s j.toNat = spq f g d (4 - d - i).toNat j.toNat) (ex : x = s (i + d).toNat / g d.toNat) (g1 : r1 = vp_updL r i.toNat x) (hr : ∀ j : Int, 0 ≤ j → j < 5 → r j.toNat = if i < j then rq f g d j else 0) : ∀ j : Int, 0 ≤ j → j < 5 → r1 j.toNat = if i - 1 < j then rq f g d j else 0 := fun j a b => by
  rw [g1, updL_at hi a]
  by_cases q : j = i
  · rw [if_pos q, if_pos (by omega), ex, hs (i + d) (by omega) (by omega), q]
    unfold rq
    rw [if_pos hi4]
  · rw [if_neg q, hr j a b]
    by_cases q2 : i < j
    · rw [if_pos q2, if_pos (by omega)]
    · rw [if_neg q2, if_neg (by omega)]
/-- one number more taken off -/
theorem off_s {g s m m1 : Nat → Int64} {i k : Int} {x : Int64} (hi : 0 ≤ i) (hk : 0 ≤ k) (h5 : i + k < 5) (g1 : m1 = vp_updL m (i + k).toNat (m (i + k).toNat - x * g k.toNat)) (hq : ∀ j : Int, 0 ≤ j → j < 5 → m j.toNat = if i ≤ j ∧ j < i + k then s j.toNat - x * g (j - i).toNat else s j.toNat) : ∀ j : Int, 0 ≤ j → j < 5 → m1 j.toNat = if i ≤ j ∧ j < i + (k + 1) then s j.toNat - x * g (j - i).toNat else s j.toNat := fun j a b => by
  rw [g1, updL_at (by omega) a]
  by_cases q : j = i + k
  · rw [if_pos q, hq (i + k) (by omega) h5, if_neg (by omega), if_pos (by omega), q, show i + k - i = k by omega]
  · rw [if_neg q, hq j a b]
    by_cases q2 : i ≤ j ∧ j < i + k
    · rw [if_pos q2, if_pos (by omega)]
    · rw [if_neg q2, if_neg (by omega)]
/-- a whole step -/
theorem off_e {f g s m : Nat → Int64} {d i : Int} {x : Int64} (hd : 0 ≤ d) (hi : 0 ≤ i) (hi4 : i ≤ 4 - d) (hs : ∀ j : Int, 0 ≤ j → j < 5 → s j.toNat = spq f g d (4 - d - i).toNat j.toNat) (ex : x = s (i + d).toNat / g d.toNat) (hq : ∀ j : Int, 0 ≤ j → j < 5 → m j.toNat = if i ≤ j ∧ j < i + (d + 1) then s j.toNat - x * g (j - i).toNat else s j.toNat) : ∀ j : Int, 0 ≤ j → j < 5 → m j.toNat = spq f g d (4 - d - (i - 1)).toNat j.toNat := fun j a b => by
  have e : (4 - d - (i - 1)).toNat = (4 - d - i).toNat + 1 := by omega
  rw [e]
  show _ = dq1 g d (4 - d - ((4 - d - i).toNat : Int)) (spq f g d (4 - d - i).toNat) j.toNat
  rw [show 4 - d - ((4 - d - i).toNat : Int) = i by omega]
  unfold dq1
  rw [hq j a b, Int.toNat_of_nonneg a]
  by_cases q : i ≤ j ∧ j < i + (d + 1)
  · rw [if_pos q, if_pos q, ex, hs j a b, hs (i + d) (by omega) (by omega)]
  · rw [if_neg q, if_neg q, hs j a b]
theorem rq_0 {f g r : Nat → Int64} {d : Int} (hr : ∀ j : Int, 0 ≤ j → j < 5 → r j.toNat = 0) : ∀ j : Int, 0 ≤ j → j < 5 → r j.toNat = if 4 - d < j then rq f g d j else 0 := fun j a b => by
  rw [hr j a b]
  by_cases q : 4 - d < j
  · rw [if_pos q]
    unfold rq
    rw [if_neg (by omega)]
  · rw [if_neg q]
end
section
/-! the divisor of three, part by part; the freed row -/
theorem EQ2.sl {X Y A B : Nat → Int} (h : EQ2 X Y A B) : EQ2 Y X A B := ⟨fun S c x y => h.1 S c y x, fun S c x y => h.2.1 S c y x, h.2.2.2, h.2.2.1⟩
theorem bx_bd {f : Nat → Int64} (h : bx 7 (ti f)) : bd f := fun i hi q => by
  have := h i
  rw [ti_lo f hi, q] at this
  exact absurd this (by decide)
theorem ti_zero {f : Nat → Int64} (h : ∀ j : Int, 0 ≤ j → j < 5 → f j.toNat = 0) : ti f = p0 := funext fun i => by
  by_cases q : i < 5
  · have := h (i : Int) (by omega) (by omega)
    rw [Int.toNat_natCast] at this
    exact (ti_0 q).mpr this
  · exact ti_hi f i (by omega)
def SG (X Y W : Nat → Int64) (i : Int) (s : Nat → Int64) : Prop := bd s ∧ RP s ∧ (i = 0 → ti s = p0) ∧ (i = 1 → EQ2 p0 (ti X) (ti s) p0) ∧ (i = 2 → EQ2 (ti X) (ti Y) (ti s) p0) ∧ (i = 3 → ∃ g1, EQ2 (ti X) (ti Y) g1 p0 ∧ EQ2 g1 (ti W) (ti s) p0)
theorem SG_0 {X Y W s : Nat → Int64} (h : ∀ j : Int, 0 ≤ j → j < 5 → s j.toNat = 0) : SG X Y W 0 s := by
  have e := ti_zero h
  have hb : bx 7 (ti s) := fun i => by rw [e]; exact Nat.zero_le _
  exact ⟨bx_bd hb, Or.inl hb, fun _ => e, fun q => by omega, fun q => by omega, fun q => by omega⟩
def P3 (X Y W : Nat → Int64) (i : Int) : Nat → Int64 := if i = 0 then X else if i = 1 then Y else W
theorem SG_sf {X Y W s o : Nat → Int64} {i : Int} (hX : bx 7 (ti X)) (hY : bx 7 (ti Y)) (hW : bx 7 (ti W)) (hi : 0 ≤ i ∧ i < 3) (h : SG X Y W i s) (ho : ti o = ti (P3 X Y W i)) : SF (ti s) (ti o) := by
  obtain ⟨hb, hr, h0, h1, h2, -⟩ := h
  rw [ho]
  rcases (show i = 0 ∨ i = 1 ∨ i = 2 by omega) with rfl | rfl | rfl
  · exact Or.inl fun i => by rw [h0 rfl]; rfl
  · have hz : ti (fun _ => (0 : Int64)) = p0 := ti_zero (fun _ _ _ => rfl)
    exact RP.ini (X := fun _ => 0) (Y := X) (fun i => by rw [hz]; exact Nat.zero_le _) hX (by rw [hz]; exact h1 rfl) hr hY
  · exact RP.ini hX hY (h2 rfl) hr hW
theorem SG_s {X Y W s o s1 : Nat → Int64} {i : Int} (hi : 0 ≤ i ∧ i < 3) (h : SG X Y W i s) (ho : ti o = ti (P3 X Y W i)) (e : EQ2 (ti s) (ti o) (ti s1) p0) (hb : bd s1) (hr : RP s1) : SG X Y W (i + 1) s1 := by
  obtain ⟨-, -, h0, h1, h2, -⟩ := h
  rw [ho] at e
  refine ⟨hb, hr, fun q => by omega, fun q => ?_, fun q => ?_, fun q => ?_⟩
  · have q : i = 0 := by omega
    subst q
    rw [h0 rfl] at e
    exact e
  · have q : i = 1 := by omega
    subst q
    exact (EQ2.fst (W := ti Y) (h1 rfl).sl).tr e
  · have q : i = 2 := by omega
    subst q
    exact ⟨ti s, h2 rfl, e⟩
theorem GG_of {X Y W s g : Nat → Int64} (h : SG X Y W 3 s) (hn : NPm s g) : GG X Y W g := by
  obtain ⟨g1, h1, h2⟩ := h.2.2.2.2.2 rfl
  obtain ⟨e, n, -, -⟩ := normX h2 h.1 hn
  exact ⟨g1, h1, e, n⟩
def FRs (P F : Nat → Nat → Int64) : Prop := ∃ (g : Nat → Int64) (d : Int), GG (P 0) (P 1) (P 2) g ∧ topz g d ∧ ∀ a, a < 3 → ∀ j : Int, 0 ≤ j → j < 5 → F a j.toNat = if 1 ≤ d then rq (P a) g d j else P a j.toNat
theorem topz_uq {f g : Nat → Int64} {a b : Int} (h : ∀ j, j < 5 → f j = g j) (h1 : topz f a) (h2 : topz g b) : a = b := by
  obtain ⟨a1, a2, a3⟩ := h1
  obtain ⟨b1, b2, b3⟩ := h2
  have e : ti f = ti g := ti_ext fun j x y => h j.toNat (by omega)
  have da := ti_dg a1 a2 a3
  have db := ti_dg b1 b2 b3
  rw [e] at da
  have := dgp_uq da db
  omega
theorem FRs_uq {P Q F E : Nat → Nat → Int64} (hPQ : ∀ a, a < 3 → ∀ j, j < 5 → P a j = Q a j) (h1 : FRs P F) (h2 : FRs Q E) : ∀ a, a < 3 → ∀ j : Int, 0 ≤ j → j < 5 → F a j.toNat = E a j.toNat := by
  obtain ⟨g, d, hg, tg, hF⟩ := h1
  obtain ⟨g1, d1, hg1, tg1, hE⟩ := h2
  have et : ∀ a, a < 3 → ti (P a) = ti (Q a) := fun a ha => ti_ext fun j x y => hPQ a ha j.toNat (by omega)
  have hg2 : GG (P 0) (P 1) (P 2) g1 := by
    obtain ⟨c, c1, c2, c3⟩ := hg1
    exact ⟨c, by rw [et 0 (by decide), et 1 (by decide)]; exact c1, by rw [et 2 (by decide)]; exact c2, c3⟩
  have eg := GG.uq hg hg2
  have ed := topz_uq eg tg tg1
  intro a ha j x y
  rw [hF a ha j x y, hE a ha j x y, ← ed]
  by_cases q : 1 ≤ d
  · rw [if_pos q, if_pos q]
    have := tg.1
    exact rq_c (by omega) x (hPQ a ha) eg
  · rw [if_neg q, if_neg q]
    exact hPQ a ha j.toNat (by omega)
end
section
set_option maxHeartbeats 4000000 in
set_option maxRecDepth 100000 in
theorem ct_X6_commonOf_x (l : Launch) (D : va_G) (ce : Nat → ClassId) (a b : Int64)  : Ct l yX6_commonOf cX6_commonOf 11 (some .long) { frames := 0, cells := 0, slots := 0, locals := 0 } 0 0 D (TY ce) [.long a, .long b] ([]) (QL D (TY ce) (fun r w1 => ∃ r0 : Int64, r = r0 ∧ w1 = [] ∧ (cgX a b r0))) := by
  refine Ct.ofL (by decide) (Nat.le_of_ble_eq_true rfl) ?_
  intro p e s m args below meth c A Q hX hnm hR
  refine Z.pick (lv' := [(0, .long a), (2, .long b)]) [0, 1] rfl ?_
  have key_12 : ∀ (x : Int64), (hx1 : x = lab a) → Z p l e { frames := 0, cells := 0, slots := 0, locals := 0 } s m args below meth c D A 11 0 0 Q 12 [(0, .long a), (2, .long b)] [.long x] ([]) := by
    intro x hx1
    refine Z.lstore (lv' := [(4, .long x), (0, .long a), (2, .long b)]) hX dX6_commonOf_12 (by decide) rfl ?_
    have key_26 : ∀ (y : Int64), (hy1 : y = lab b) → Z p l e { frames := 0, cells := 0, slots := 0, locals := 0 } s m args below meth c D A 11 0 0 Q 26 [(4, .long x)] [.long y] ([]) := by
      intro y hy1
      refine Z.lstore (lv' := [(6, .long y), (4, .long x)]) hX dX6_commonOf_26 (by decide) rfl ?_
      refine Z.iconst hX dX6_commonOf_28 ?_
      refine Z.istore (lv' := [(8, .int (zI 0)), (6, .long y), (4, .long x)]) hX dX6_commonOf_29 (by decide) rfl ?_
      have key_31 : ∀ (N : Nat), ∀ (i : Int) (x y : Int64), (128 - i).toNat < N → (hi : 0 ≤ i ∧ i ≤ 128) → (hc : cgI a b x y) → (hp : cgP x y i) → (hj : cgJ a b x y) → Z p l e { frames := 0, cells := 0, slots := 0, locals := 0 } s m args below meth c D A 11 0 0 Q 31 [(8, .int (zI i)), (4, .long x), (6, .long y)] [] ([]) := by
        intro N
        induction N with
        | zero => intro i x y hm; exact absurd hm (Nat.not_lt_zero _)
        | succ N ih_31 =>
          intro i x y hm hi hc hp hj
          refine Z.iload hX dX6_commonOf_31 rfl ?_
          refine Z.sipush hX dX6_commonOf_33 (by decide) ?_
          refine Z.icmp_ge hX 67 dX6_commonOf_36 (by decide) ⟨by omega, by omega⟩ ⟨by omega, by omega⟩ ?_ ?_
          · intro c1
            refine Z.lload hX dX6_commonOf_67 rfl ?_
            exact hR _ _ _ _ dX6_commonOf_69 ⟨x, rfl, rfl, cgJ_e (by first | assumption | exact cgP_e (by assumption) hp) (cgI_e (by first | assumption | exact cgP_e (by assumption) hp) hc) hj⟩
          · intro c1
            refine Z.lload hX dX6_commonOf_39 rfl ?_
            refine Z.lconst (v := 0) hX dX6_commonOf_41 rfl ?_
            refine Z.lcmp_eq hX 67 dX6_commonOf_42 dX6_commonOf_43 (by decide) ?_ ?_
            · intro c2
              refine Z.lload hX dX6_commonOf_67 rfl ?_
              exact hR _ _ _ _ dX6_commonOf_69 ⟨x, rfl, rfl, cgJ_e (by first | assumption | exact cgP_e (by assumption) hp) (cgI_e (by first | assumption | exact cgP_e (by assumption) hp) hc) hj⟩
            · intro c2
              refine Z.lload hX dX6_commonOf_46 rfl ?_
              refine Z.lload hX dX6_commonOf_48 rfl ?_
              refine Z.lrem hX dX6_commonOf_50 (by assumption) ?_
              refine Z.lstore (lv' := [(9, .long (x - x / y * y)), (8, .int (zI i)), (4, .long x), (6, .long y)]) hX dX6_commonOf_51 (by decide) rfl ?_
              refine Z.lload hX dX6_commonOf_53 rfl ?_
              refine Z.lstore (lv' := [(4, .long y), (9, .long (x - x / y * y)), (8, .int (zI i)), (6, .long y)]) hX dX6_commonOf_55 (by decide) rfl ?_
              refine Z.lload hX dX6_commonOf_57 rfl ?_
              refine Z.lstore (lv' := [(6, .long (x - x / y * y)), (4, .long y), (9, .long (x - x / y * y)), (8, .int (zI i))]) hX dX6_commonOf_59 (by decide) rfl ?_
              refine Z.iinc (lv' := [(8, .int (zI (i + 1))), (6, .long (x - x / y * y)), (4, .long y), (9, .long (x - x / y * y))]) hX dX6_commonOf_61 rfl (by decide) rfl ?_
              refine Z.goto hX 31 dX6_commonOf_64 (by decide) ?_
              refine Z.pick [0, 2, 1] rfl ?_
              exact ih_31 _ _ _ (by omega) (by omega) (cgI_s (by assumption) hc) (cgP_s hi.1 (by assumption) hp) (cgJ_s (by assumption) hj)
      refine Z.pick [0, 2, 1] rfl ?_
      exact key_31 _ _ _ _ (Nat.lt_succ_self _) (by omega) (by rw [hx1, hy1]; exact cgI_0 a b) (Or.inl rfl) (by rw [hx1, hy1]; exact cgJ_0 a b)
    refine Z.lload_n hX dX6_commonOf_14 rfl rfl ?_
    refine Z.lconst (v := 0) hX dX6_commonOf_15 rfl ?_
    refine Z.lcmp_ge hX 25 dX6_commonOf_16 dX6_commonOf_17 (by decide) ?_ ?_
    · intro c3
      refine Z.lload_n hX dX6_commonOf_25 rfl rfl ?_
      refine Z.pick [0] rfl ?_
      exact key_26 _ (lab_pos (by assumption))
    · intro c3
      refine Z.lload_n hX dX6_commonOf_20 rfl rfl ?_
      refine Z.lneg hX dX6_commonOf_21 ?_
      refine Z.goto hX 26 dX6_commonOf_22 (by decide) ?_
      refine Z.pick [0] rfl ?_
      exact key_26 _ (lab_neg (by assumption))
  refine Z.lload_n hX dX6_commonOf_0 rfl rfl ?_
  refine Z.lconst (v := 0) hX dX6_commonOf_1 rfl ?_
  refine Z.lcmp_ge hX 11 dX6_commonOf_2 dX6_commonOf_3 (by decide) ?_ ?_
  · intro c4
    refine Z.lload_n hX dX6_commonOf_11 rfl rfl ?_
    refine Z.pick [0, 1] rfl ?_
    exact key_12 _ (lab_pos (by assumption))
  · intro c4
    refine Z.lload_n hX dX6_commonOf_6 rfl rfl ?_
    refine Z.lneg hX dX6_commonOf_7 ?_
    refine Z.goto hX 12 dX6_commonOf_8 (by decide) ?_
    refine Z.pick [0, 1] rfl ?_
    exact key_12 _ (lab_neg (by assumption))

set_option maxHeartbeats 4000000 in
set_option maxRecDepth 100000 in
theorem ct_X1_makePrimitive_x (l : Launch) (D : va_G) (ce : Nat → ClassId) (h pl ar : Nat → Nat) (G : Nat → Int) (L : Nat → Nat → Int64) (B : Nat → Int) (J : Nat → Nat → Int64)  : Ct l yX1_makePrimitive cX1_makePrimitive 6 none { frames := 1, cells := 0, slots := 0, locals := 30 } 0 0 D (TY ce) [.ref (h 3), .ref (h 11)] (cW ce h pl ar G L B J) (QV D (TY ce) (fun w1 => ∃ L2 : Nat → Nat → Int64, w1 = cW ce h pl ar G L2 B J ∧ (∀ k, k ≠ 6 → L2 k = L k) ∧ (NPm (L 6) (L2 6)))) := by
  refine Ct.ofV (by decide) (Nat.le_of_ble_eq_true rfl) ?_
  intro p e s m args below meth c A Q hX hnm hR
  refine Z.pick (lv' := [(0, .ref (h 3)), (1, .ref (h 11))]) [0, 1] rfl ?_
  refine Z.aload_n hX dX1_makePrimitive_0 rfl rfl ?_
  refine Z.callS1i (As := [.ref (h 11)]) (rest := []) hX 11 rfl (ct_X5_topOf l D ce ((h 11)) (L 6) ) mc_X5_topOf ml_X1_46 st_X5_topOf ini_X5 nd_X5_topOf ⟨Nat.le_of_ble_eq_true rfl, Nat.le_of_ble_eq_true rfl⟩ ⟨rfl, rfl⟩ ⟨Nat.le_refl _, Nat.le_refl _⟩ rfl (Nat.le_of_ble_eq_true rfl) dX1_makePrimitive_1 ?_
  rintro r_1 w1 ⟨tp, hr_, hw_, t1, t2, t3⟩
  subst hr_
  refine ⟨_, hw_, ?_⟩
  refine Z.toW (w' := cW ce h pl ar G L B J) (set_self rfl) ?_
  refine Z.istore_n (lv' := [(2, .int (zI tp)), (0, .ref (h 3)), (1, .ref (h 11))]) hX dX1_makePrimitive_4 rfl (by decide) rfl ?_
  refine Z.iload_n hX dX1_makePrimitive_5 rfl rfl ?_
  refine Z.if_ge hX 10 dX1_makePrimitive_6 (by decide) ⟨by omega, by omega⟩ ?_ ?_
  · intro c2
    refine Z.lconst (v := 0) hX dX1_makePrimitive_10 rfl ?_
    refine Z.lstore_n (lv' := [(3, .long 0), (2, .int (zI tp)), (0, .ref (h 3)), (1, .ref (h 11))]) hX dX1_makePrimitive_11 rfl (by decide) rfl ?_
    refine Z.iconst hX dX1_makePrimitive_12 ?_
    refine Z.istore (lv' := [(5, .int (zI 0)), (3, .long 0), (2, .int (zI tp)), (0, .ref (h 3)), (1, .ref (h 11))]) hX dX1_makePrimitive_13 (by decide) rfl ?_
    have key_15 : ∀ (N : Nat), ∀ (i0 : Int) (x : Int64), (tp + 1 - i0).toNat < N → (hi : 0 ≤ i0 ∧ i0 ≤ tp + 1) → (hx : CGr (L 6) i0.toNat x) → Z p l e { frames := 1, cells := 0, slots := 0, locals := 30 } s m args below meth c D A 6 0 0 Q 15 [(5, .int (zI i0)), (3, .long x), (2, .int (zI tp)), (1, .ref (h 11)), (0, .ref (h 3))] [] (cW ce h pl ar G L B J) := by
      intro N
      induction N with
      | zero => intro i0 x hm; exact absurd hm (Nat.not_lt_zero _)
      | succ N ih_15 =>
        intro i0 x hm hi hx
        refine Z.iload hX dX1_makePrimitive_15 rfl ?_
        refine Z.iload_n hX dX1_makePrimitive_17 rfl rfl ?_
        refine Z.icmp_gt hX 36 dX1_makePrimitive_18 (by decide) ⟨by omega, by omega⟩ ⟨by omega, by omega⟩ ?_ ?_
        · intro c3
          refine Z.lload_n hX dX1_makePrimitive_36 rfl rfl ?_
          refine Z.lconst (v := 0) hX dX1_makePrimitive_37 rfl ?_
          refine Z.lcmp_ne hX 43 dX1_makePrimitive_38 dX1_makePrimitive_39 (by decide) ?_ ?_
          · intro c4
            have key_54 : ∀ (y : Int64), (hy0 : ¬ y = 0) → (hsg : sgn (L 6 tp.toNat) x y) → Z p l e { frames := 1, cells := 0, slots := 0, locals := 30 } s m args below meth c D A 6 0 0 Q 54 [(3, .long y), (2, .int (zI tp)), (1, .ref (h 11)), (0, .ref (h 3))] [] (cW ce h pl ar G L B J) := by
              intro y hy0 hsg
              refine Z.iconst hX dX1_makePrimitive_54 ?_
              refine Z.istore (lv' := [(5, .int (zI 0)), (3, .long y), (2, .int (zI tp)), (1, .ref (h 11)), (0, .ref (h 3))]) hX dX1_makePrimitive_55 (by decide) rfl ?_
              have key_57 : ∀ (N : Nat), ∀ (i : Int) (M : Nat → Nat → Int64), (tp + 1 - i).toNat < N → (hi2 : 0 ≤ i ∧ i ≤ tp + 1) → (hM : ∀ k, k ≠ 6 → M k = L k) → (hq : ∀ j : Int, 0 ≤ j → j < 5 → M 6 j.toNat = if j < i then L 6 j.toNat / y else L 6 j.toNat) → Z p l e { frames := 1, cells := 0, slots := 0, locals := 30 } s m args below meth c D A 6 0 0 Q 57 [(5, .int (zI i)), (3, .long y), (2, .int (zI tp)), (1, .ref (h 11)), (0, .ref (h 3))] [] (cW ce h pl ar G M B J) := by
                intro N
                induction N with
                | zero => intro i M hm; exact absurd hm (Nat.not_lt_zero _)
                | succ N ih_57 =>
                  intro i M hm hi2 hM hq
                  refine Z.iload hX dX1_makePrimitive_57 rfl ?_
                  refine Z.iload_n hX dX1_makePrimitive_59 rfl rfl ?_
                  refine Z.icmp_gt hX 77 dX1_makePrimitive_60 (by decide) ⟨by omega, by omega⟩ ⟨by omega, by omega⟩ ?_ ?_
                  · intro c5
                    exact hR _ _ _ dX1_makePrimitive_77 ⟨M, rfl, hM, (np_end t1 t2 t3 (by omega) (show CGr (L 6) (tp + 1).toNat x from (show tp + 1 = i0 by omega) ▸ hx) hsg (fun q => absurd q hy0) (fun _ j a b => by rw [hq j a (by omega), if_pos (by omega)]) (fun j a b => by rw [hq j (by omega) (by omega), if_neg (by omega)]))⟩
                  · intro c5
                    refine Z.aload_n hX dX1_makePrimitive_63 rfl rfl ?_
                    refine Z.iload hX dX1_makePrimitive_64 rfl ?_
                    refine Z.dup2 hX dX1_makePrimitive_66 rfl rfl ?_
                    refine Z.laload hX 11 1 dX1_makePrimitive_67 rfl rfl (by omega) (by omega) (by decide) ?_
                    refine Z.lload_n hX dX1_makePrimitive_68 rfl rfl ?_
                    refine Z.ldiv hX dX1_makePrimitive_69 hy0 ?_
                    refine Z.lastore hX 11 1 dX1_makePrimitive_70 rfl rfl (by omega) (by omega) (by decide) ?_
                    obtain ⟨L6, eL6⟩ : ∃ J' : Nat → Nat → Int64, J' = va_up M 6 (vp_updL (M 6) (i : Int).toNat ((M 6 (i : Int).toNat) / y)) := ⟨_, rfl⟩
                    refine Z.toW (w' := cW ce h pl ar G L6 B J) (by rw [eL6]; rfl) ?_
                    have gL6 : L6 6 = vp_updL (M 6) (i : Int).toNat ((M 6 (i : Int).toNat) / y) := by rw [eL6]; exact up_eq
                    have fL6 : ∀ j_, j_ ≠ 6 → L6 j_ = M j_ := fun j_ hj_ => by rw [eL6]; exact up_ne hj_
                    refine Z.iinc (lv' := [(5, .int (zI (i + 1))), (3, .long y), (2, .int (zI tp)), (1, .ref (h 11)), (0, .ref (h 3))]) hX dX1_makePrimitive_71 rfl (by decide) rfl ?_
                    refine Z.goto hX 57 dX1_makePrimitive_74 (by decide) ?_
                    refine Z.pick [0, 1, 2, 3, 4] rfl ?_
                    exact ih_57 _ _ (by omega) (by omega) (fun j_ h_6 => ((fL6 j_ h_6).trans (hM j_ h_6))) (dv_s hi2.1 (by omega) gL6 hq)
              refine Z.pick [0, 1, 2, 3, 4] rfl ?_
              exact key_57 _ _ _ (Nat.lt_succ_self _) (by omega) (fun _ _ => rfl) (fun j _ _ => (if_neg (by omega)).symm)
            refine Z.aload_n hX dX1_makePrimitive_43 rfl rfl ?_
            refine Z.iload_n hX dX1_makePrimitive_44 rfl rfl ?_
            refine Z.laload hX 11 1 dX1_makePrimitive_45 rfl rfl (by omega) (by omega) (by decide) ?_
            refine Z.lconst (v := 0) hX dX1_makePrimitive_46 rfl ?_
            refine Z.lcmp_ge hX 54 dX1_makePrimitive_47 dX1_makePrimitive_48 (by decide) ?_ ?_
            · intro c7
              refine Z.pick [1, 2, 3, 4] rfl ?_
              exact key_54 _ (by assumption) (sgn_p (by assumption))
            · intro c7
              refine Z.lload_n hX dX1_makePrimitive_51 rfl rfl ?_
              refine Z.lneg hX dX1_makePrimitive_52 ?_
              refine Z.lstore_n (lv' := [(3, .long (-x)), (5, .int (zI i0)), (2, .int (zI tp)), (1, .ref (h 11)), (0, .ref (h 3))]) hX dX1_makePrimitive_53 rfl (by decide) rfl ?_
              refine Z.pick [0, 2, 3, 4] rfl ?_
              exact key_54 _ (tl_n (by assumption)) (sgn_n (by assumption))
          · intro c4
            exact hR _ _ _ dX1_makePrimitive_42 ⟨L, rfl, (fun _ _ => rfl), (np_c0 t1 t2 t3 (by omega) (show CGr (L 6) (tp + 1).toNat x from (show tp + 1 = i0 by omega) ▸ hx) (by assumption))⟩
        · intro c3
          refine Z.lload_n hX dX1_makePrimitive_21 rfl rfl ?_
          refine Z.aload_n hX dX1_makePrimitive_22 rfl rfl ?_
          refine Z.iload hX dX1_makePrimitive_23 rfl ?_
          refine Z.laload hX 11 1 dX1_makePrimitive_25 rfl rfl (by omega) (by omega) (by decide) ?_
          refine Z.callSNl (As := [.long x, .long (L 6 (i0 : Int).toNat)]) (rest := []) hX (ct_X6_commonOf_x l D ce x (L 6 (i0 : Int).toNat) ) mc_X6_commonOf ns_X1_60 st_X6_commonOf ini_X6 nd_X6_commonOf ⟨Nat.le_of_ble_eq_true rfl, Nat.le_of_ble_eq_true rfl⟩ ⟨rfl, rfl⟩ ⟨Nat.le_refl _, Nat.le_refl _⟩ rfl (Nat.le_of_ble_eq_true rfl) dX1_makePrimitive_26 ?_
          rintro r_8 w1 ⟨r09, hr_, hw_, hcg⟩
          subst hr_
          refine ⟨hw_, ?_⟩
          refine Z.lstore_n (lv' := [(3, .long r_8), (5, .int (zI i0)), (2, .int (zI tp)), (1, .ref (h 11)), (0, .ref (h 3))]) hX dX1_makePrimitive_29 rfl (by decide) rfl ?_
          refine Z.iinc (lv' := [(5, .int (zI (i0 + 1))), (3, .long r_8), (2, .int (zI tp)), (1, .ref (h 11)), (0, .ref (h 3))]) hX dX1_makePrimitive_30 rfl (by decide) rfl ?_
          refine Z.goto hX 15 dX1_makePrimitive_33 (by decide) ?_
          refine Z.pick [0, 1, 2, 3, 4] rfl ?_
          exact ih_15 _ _ (by omega) (by omega) (CGr_s hi.1 hx hcg)
    refine Z.pick [0, 1, 2, 4, 3] rfl ?_
    exact key_15 _ _ _ (Nat.lt_succ_self _) (by omega) rfl
  · intro c2
    exact hR _ _ _ dX1_makePrimitive_9 ⟨L, rfl, (fun _ _ => rfl), (np_zero (by omega) t2)⟩

set_option maxHeartbeats 4000000 in
set_option maxRecDepth 100000 in
theorem ct_X1_lowerShared_x (l : Launch) (D : va_G) (ce : Nat → ClassId) (h pl ar : Nat → Nat) (G : Nat → Int) (L : Nat → Nat → Int64) (B : Nat → Int) (J : Nat → Nat → Int64) (st_ ot : Int) (hs : 0 ≤ ot ∧ ot ≤ st_ ∧ st_ ≤ 4) (hnz : ¬ (L 6 st_.toNat = 0 ∧ L 7 ot.toNat = 0)) : Ct l yX1_lowerShared cX1_lowerShared 13 none { frames := 1, cells := 0, slots := 0, locals := 30 } 0 0 D (TY ce) [.ref (h 3), .int (zI st_), .int (zI ot)] (cW ce h pl ar G L B J) (QV D (TY ce) (fun w1 => ∃ L2 : Nat → Nat → Int64, w1 = cW ce h pl ar G L2 B J ∧ (∀ k, k ≠ 6 → L2 k = L k) ∧ (∃ cm : Int64, cgX (L 6 st_.toNat) (L 7 ot.toNat) cm ∧ lowP (L 6) (L 7) (L2 6) st_ ot cm))) := by
  refine Ct.ofV (by decide) (Nat.le_of_ble_eq_true rfl) ?_
  intro p e s m args below meth c A Q hX hnm hR
  refine Z.pick (lv' := [(0, .ref (h 3)), (1, .int (zI st_)), (2, .int (zI ot))]) [0, 1, 2] rfl ?_
  refine Z.aload_n hX dX1_lowerShared_0 rfl rfl ?_
  refine Z.getf hX 1 3 0 dX1_lowerShared_1 rfl rfl inX1 (by decide) fl_X1_9 rfl rfl ?_
  refine Z.iload_n hX dX1_lowerShared_4 rfl rfl ?_
  refine Z.laload hX 11 1 dX1_lowerShared_5 rfl rfl (by omega) (by omega) (by decide) ?_
  refine Z.aload_n hX dX1_lowerShared_6 rfl rfl ?_
  refine Z.getf hX 1 3 1 dX1_lowerShared_7 rfl rfl inX1 (by decide) fl_X1_15 rfl rfl ?_
  refine Z.iload_n hX dX1_lowerShared_10 rfl rfl ?_
  refine Z.laload hX 12 1 dX1_lowerShared_11 rfl rfl (by omega) (by omega) (by decide) ?_
  refine Z.callSNl (As := [.long (L 6 (st_ : Int).toNat), .long (L 7 (ot : Int).toNat)]) (rest := []) hX (ct_X6_commonOf_x l D ce (L 6 (st_ : Int).toNat) (L 7 (ot : Int).toNat) ) mc_X6_commonOf ns_X1_60 st_X6_commonOf ini_X6 nd_X6_commonOf ⟨Nat.le_of_ble_eq_true rfl, Nat.le_of_ble_eq_true rfl⟩ ⟨rfl, rfl⟩ ⟨Nat.le_refl _, Nat.le_refl _⟩ rfl (Nat.le_of_ble_eq_true rfl) dX1_lowerShared_12 ?_
  rintro cm w1 ⟨r02, hr_, hw_, hcm⟩
  subst hr_
  refine ⟨hw_, ?_⟩
  refine Z.lstore_n (lv' := [(3, .long cm), (0, .ref (h 3)), (1, .int (zI st_)), (2, .int (zI ot))]) hX dX1_lowerShared_15 rfl (by decide) rfl ?_
  refine Z.lload_n hX dX1_lowerShared_16 rfl rfl ?_
  refine Z.lconst (v := 0) hX dX1_lowerShared_17 rfl ?_
  refine Z.lcmp_ne hX 23 dX1_lowerShared_18 dX1_lowerShared_19 (by decide) ?_ ?_
  · intro c3
    refine Z.aload_n hX dX1_lowerShared_23 rfl rfl ?_
    refine Z.getf hX 1 3 1 dX1_lowerShared_24 rfl rfl inX1 (by decide) fl_X1_15 rfl rfl ?_
    refine Z.iload_n hX dX1_lowerShared_27 rfl rfl ?_
    refine Z.laload hX 12 1 dX1_lowerShared_28 rfl rfl (by omega) (by omega) (by decide) ?_
    refine Z.lload_n hX dX1_lowerShared_29 rfl rfl ?_
    refine Z.ldiv hX dX1_lowerShared_30 (by assumption) ?_
    refine Z.lstore (lv' := [(5, .long ((L 7 (ot : Int).toNat) / cm)), (3, .long cm), (0, .ref (h 3)), (1, .int (zI st_)), (2, .int (zI ot))]) hX dX1_lowerShared_31 (by decide) rfl ?_
    obtain ⟨sf, esf⟩ : ∃ x : Int64, x = (L 7 (ot : Int).toNat) / cm := ⟨_, rfl⟩
    rw [← esf]
    refine Z.aload_n hX dX1_lowerShared_33 rfl rfl ?_
    refine Z.getf hX 1 3 0 dX1_lowerShared_34 rfl rfl inX1 (by decide) fl_X1_9 rfl rfl ?_
    refine Z.iload_n hX dX1_lowerShared_37 rfl rfl ?_
    refine Z.laload hX 11 1 dX1_lowerShared_38 rfl rfl (by omega) (by omega) (by decide) ?_
    refine Z.lload_n hX dX1_lowerShared_39 rfl rfl ?_
    refine Z.ldiv hX dX1_lowerShared_40 (by assumption) ?_
    refine Z.lstore (lv' := [(7, .long ((L 6 (st_ : Int).toNat) / cm)), (5, .long sf), (3, .long cm), (0, .ref (h 3)), (1, .int (zI st_)), (2, .int (zI ot))]) hX dX1_lowerShared_41 (by decide) rfl ?_
    obtain ⟨of, eof⟩ : ∃ x : Int64, x = (L 6 (st_ : Int).toNat) / cm := ⟨_, rfl⟩
    rw [← eof]
    refine Z.iload_n hX dX1_lowerShared_43 rfl rfl ?_
    refine Z.iload_n hX dX1_lowerShared_44 rfl rfl ?_
    refine Z.isub hX dX1_lowerShared_45 ?_
    refine Z.istore (lv' := [(9, .int (zI (st_ - ot))), (7, .long of), (5, .long sf), (3, .long cm), (0, .ref (h 3)), (1, .int (zI st_)), (2, .int (zI ot))]) hX dX1_lowerShared_46 (by decide) rfl ?_
    refine Z.iconst hX dX1_lowerShared_48 ?_
    refine Z.istore (lv' := [(10, .int (zI 0)), (9, .int (zI (st_ - ot))), (7, .long of), (5, .long sf), (3, .long cm), (0, .ref (h 3)), (1, .int (zI st_)), (2, .int (zI ot))]) hX dX1_lowerShared_49 (by decide) rfl ?_
    have key_51 : ∀ (N : Nat), ∀ (i : Int) (M : Nat → Nat → Int64), (st_ + 1 - i).toNat < N → (hi : 0 ≤ i ∧ i ≤ st_ + 1) → (hM : ∀ k, k ≠ 6 → M k = L k) → (hq : ∀ j : Int, 0 ≤ j → j < 5 → M 6 j.toNat = if j < i then lowV (L 6) (L 7) st_ ot sf of j else L 6 j.toNat) → Z p l e { frames := 1, cells := 0, slots := 0, locals := 30 } s m args below meth c D A 13 0 0 Q 51 [(10, .int (zI i)), (9, .int (zI (st_ - ot))), (7, .long of), (5, .long sf), (2, .int (zI ot)), (1, .int (zI st_)), (0, .ref (h 3))] [] (cW ce h pl ar G M B J) := by
      intro N
      induction N with
      | zero => intro i M hm; exact absurd hm (Nat.not_lt_zero _)
      | succ N ih_51 =>
        intro i M hm hi hM hq
        refine Z.iload hX dX1_lowerShared_51 rfl ?_
        refine Z.iload_n hX dX1_lowerShared_53 rfl rfl ?_
        refine Z.icmp_gt hX 109 dX1_lowerShared_54 (by decide) ⟨by omega, by omega⟩ ⟨by omega, by omega⟩ ?_ ?_
        · intro c4
          exact hR _ _ _ dX1_lowerShared_109 ⟨M, rfl, hM, ⟨cm, hcm, by assumption, fun j a b => by rw [hq j a b, esf, eof, show i = st_ + 1 by omega]⟩⟩
        · intro c4
          refine Z.iload hX dX1_lowerShared_57 rfl ?_
          refine Z.iload hX dX1_lowerShared_59 rfl ?_
          refine Z.icmp_ge hX 68 dX1_lowerShared_61 (by decide) ⟨by omega, by omega⟩ ⟨by omega, by omega⟩ ?_ ?_
          · intro c5
            refine Z.lload hX dX1_lowerShared_68 rfl ?_
            refine Z.aload_n hX dX1_lowerShared_70 rfl rfl ?_
            refine Z.getf hX 1 3 1 dX1_lowerShared_71 rfl rfl inX1 (by decide) fl_X1_15 rfl rfl ?_
            refine Z.iload hX dX1_lowerShared_74 rfl ?_
            refine Z.iload hX dX1_lowerShared_76 rfl ?_
            refine Z.isub hX dX1_lowerShared_78 ?_
            refine Z.laload hX 12 1 dX1_lowerShared_79 rfl rfl (by omega) (by omega) (by decide) ?_
            refine Z.lmul hX dX1_lowerShared_80 ?_
            refine Z.lstore (lv' := [(11, .long (of * (M 7 (i - (st_ - ot) : Int).toNat))), (10, .int (zI i)), (9, .int (zI (st_ - ot))), (7, .long of), (5, .long sf), (2, .int (zI ot)), (1, .int (zI st_)), (0, .ref (h 3))]) hX dX1_lowerShared_81 (by decide) rfl ?_
            refine Z.aload_n hX dX1_lowerShared_83 rfl rfl ?_
            refine Z.getf hX 1 3 0 dX1_lowerShared_84 rfl rfl inX1 (by decide) fl_X1_9 rfl rfl ?_
            refine Z.iload hX dX1_lowerShared_87 rfl ?_
            refine Z.lload hX dX1_lowerShared_89 rfl ?_
            refine Z.aload_n hX dX1_lowerShared_91 rfl rfl ?_
            refine Z.getf hX 1 3 0 dX1_lowerShared_92 rfl rfl inX1 (by decide) fl_X1_9 rfl rfl ?_
            refine Z.iload hX dX1_lowerShared_95 rfl ?_
            refine Z.laload hX 11 1 dX1_lowerShared_97 rfl rfl (by omega) (by omega) (by decide) ?_
            refine Z.lmul hX dX1_lowerShared_98 ?_
            refine Z.lload hX dX1_lowerShared_99 rfl ?_
            refine Z.lsub hX dX1_lowerShared_101 ?_
            refine Z.lastore hX 11 1 dX1_lowerShared_102 rfl rfl (by omega) (by omega) (by decide) ?_
            obtain ⟨L6, eL6⟩ : ∃ J' : Nat → Nat → Int64, J' = va_up M 6 (vp_updL (M 6) (i : Int).toNat ((sf * (M 6 (i : Int).toNat)) - (of * (M 7 (i - (st_ - ot) : Int).toNat)))) := ⟨_, rfl⟩
            refine Z.toW (w' := cW ce h pl ar G L6 B J) (by rw [eL6]; rfl) ?_
            have gL6 : L6 6 = vp_updL (M 6) (i : Int).toNat ((sf * (M 6 (i : Int).toNat)) - (of * (M 7 (i - (st_ - ot) : Int).toNat))) := by rw [eL6]; exact up_eq
            have fL6 : ∀ j_, j_ ≠ 6 → L6 j_ = M j_ := fun j_ hj_ => by rw [eL6]; exact up_ne hj_
            refine Z.iinc (lv' := [(10, .int (zI (i + 1))), (11, .long (of * (M 7 (i - (st_ - ot) : Int).toNat))), (9, .int (zI (st_ - ot))), (7, .long of), (5, .long sf), (2, .int (zI ot)), (1, .int (zI st_)), (0, .ref (h 3))]) hX dX1_lowerShared_103 rfl (by decide) rfl ?_
            refine Z.goto hX 51 dX1_lowerShared_106 (by decide) ?_
            refine Z.pick [0, 2, 3, 4, 5, 6, 7] rfl ?_
            exact ih_51 _ _ (by omega) (by omega) (fun j_ h_6 => ((fL6 j_ h_6).trans (hM j_ h_6))) (low_s hi.1 (by omega) gL6 (by first | exact (if_pos (by omega)).symm | (rw [if_neg (by omega), ← hM 7 (by decide)])) hq)
          · intro c5
            refine Z.lconst (v := 0) hX dX1_lowerShared_64 rfl ?_
            refine Z.goto hX 81 dX1_lowerShared_65 (by decide) ?_
            refine Z.lstore (lv' := [(11, .long 0), (10, .int (zI i)), (9, .int (zI (st_ - ot))), (7, .long of), (5, .long sf), (2, .int (zI ot)), (1, .int (zI st_)), (0, .ref (h 3))]) hX dX1_lowerShared_81 (by decide) rfl ?_
            refine Z.aload_n hX dX1_lowerShared_83 rfl rfl ?_
            refine Z.getf hX 1 3 0 dX1_lowerShared_84 rfl rfl inX1 (by decide) fl_X1_9 rfl rfl ?_
            refine Z.iload hX dX1_lowerShared_87 rfl ?_
            refine Z.lload hX dX1_lowerShared_89 rfl ?_
            refine Z.aload_n hX dX1_lowerShared_91 rfl rfl ?_
            refine Z.getf hX 1 3 0 dX1_lowerShared_92 rfl rfl inX1 (by decide) fl_X1_9 rfl rfl ?_
            refine Z.iload hX dX1_lowerShared_95 rfl ?_
            refine Z.laload hX 11 1 dX1_lowerShared_97 rfl rfl (by omega) (by omega) (by decide) ?_
            refine Z.lmul hX dX1_lowerShared_98 ?_
            refine Z.lload hX dX1_lowerShared_99 rfl ?_
            refine Z.lsub hX dX1_lowerShared_101 ?_
            refine Z.lastore hX 11 1 dX1_lowerShared_102 rfl rfl (by omega) (by omega) (by decide) ?_
            obtain ⟨L7, eL7⟩ : ∃ J' : Nat → Nat → Int64, J' = va_up M 6 (vp_updL (M 6) (i : Int).toNat ((sf * (M 6 (i : Int).toNat)) - 0)) := ⟨_, rfl⟩
            refine Z.toW (w' := cW ce h pl ar G L7 B J) (by rw [eL7]; rfl) ?_
            have gL7 : L7 6 = vp_updL (M 6) (i : Int).toNat ((sf * (M 6 (i : Int).toNat)) - 0) := by rw [eL7]; exact up_eq
            have fL7 : ∀ j_, j_ ≠ 6 → L7 j_ = M j_ := fun j_ hj_ => by rw [eL7]; exact up_ne hj_
            refine Z.iinc (lv' := [(10, .int (zI (i + 1))), (11, .long 0), (9, .int (zI (st_ - ot))), (7, .long of), (5, .long sf), (2, .int (zI ot)), (1, .int (zI st_)), (0, .ref (h 3))]) hX dX1_lowerShared_103 rfl (by decide) rfl ?_
            refine Z.goto hX 51 dX1_lowerShared_106 (by decide) ?_
            refine Z.pick [0, 2, 3, 4, 5, 6, 7] rfl ?_
            exact ih_51 _ _ (by omega) (by omega) (fun j_ h_6 => ((fL7 j_ h_6).trans (hM j_ h_6))) (low_s hi.1 (by omega) gL7 (by first | exact (if_pos (by omega)).symm | (rw [if_neg (by omega), ← hM 7 (by decide)])) hq)
    refine Z.pick [0, 1, 2, 3, 7, 6, 5] rfl ?_
    exact key_51 _ _ _ (Nat.lt_succ_self _) (by omega) (fun _ _ => rfl) (fun j _ _ => (if_neg (by omega)).symm)
  · intro c3
    exact absurd (hcm.1.1 (by assumption)) hnz

set_option maxHeartbeats 4000000 in
set_option maxRecDepth 100000 in
theorem ct_X1_swap_x (l : Launch) (D : va_G) (ce : Nat → ClassId) (h pl ar : Nat → Nat) (G : Nat → Int) (L : Nat → Nat → Int64) (B : Nat → Int) (J : Nat → Nat → Int64)  : Ct l yX1_swap cX1_swap 1 none { frames := 1, cells := 0, slots := 0, locals := 40 } 0 0 D (TY ce) [.ref (h 3)] (cW ce h pl ar G L B J) (QV D (TY ce) (fun w1 => ∃ L2 : Nat → Nat → Int64, w1 = cW ce h pl ar G L2 B J ∧ (∀ k, k ≠ 6 → k ≠ 7 → k ≠ 8 → L2 k = L k) ∧ (∀ j : Int, 0 ≤ j → j < 5 → L2 6 j.toNat = L 7 j.toNat ∧ L2 7 j.toNat = L 6 j.toNat))) := by
  refine Ct.ofV (by decide) (Nat.le_of_ble_eq_true rfl) ?_
  intro p e s m args below meth c A Q hX hnm hR
  refine Z.pick (lv' := [(0, .ref (h 3))]) [0] rfl ?_
  refine Z.aload_n hX dX1_swap_0 rfl rfl ?_
  refine Z.getf hX 1 3 0 dX1_swap_1 rfl rfl inX1 (by decide) fl_X1_9 rfl rfl ?_
  refine Z.iconst hX dX1_swap_4 ?_
  refine Z.aload_n hX dX1_swap_5 rfl rfl ?_
  refine Z.getf hX 1 3 2 dX1_swap_6 rfl rfl inX1 (by decide) fl_X1_18 rfl rfl ?_
  refine Z.iconst hX dX1_swap_9 ?_
  refine Z.iconst hX dX1_swap_10 ?_
  refine Z.copyA hX 11 13 1 dX1_swap_11 rfl rfl rfl rfl (by decide) ml_X1_33 (by decide) (Nat.le_of_ble_eq_true rfl) ?_
  obtain ⟨L1, eL1⟩ : ∃ J' : Nat → Nat → Int64, J' = va_up L 8 (va_cpy (L 6) (L 8) 0 0 5) := ⟨_, rfl⟩
  refine Z.toW (w' := cW ce h pl ar G L1 B J) (by rw [eL1]; rfl) ?_
  have gL1 : L1 8 = va_cpy (L 6) (L 8) 0 0 5 := by rw [eL1]; exact up_eq
  have fL1 : ∀ j_, j_ ≠ 8 → L1 j_ = L j_ := fun j_ hj_ => by rw [eL1]; exact up_ne hj_
  refine Z.aload_n hX dX1_swap_14 rfl rfl ?_
  refine Z.getf hX 1 3 1 dX1_swap_15 rfl rfl inX1 (by decide) fl_X1_15 rfl rfl ?_
  refine Z.iconst hX dX1_swap_18 ?_
  refine Z.aload_n hX dX1_swap_19 rfl rfl ?_
  refine Z.getf hX 1 3 0 dX1_swap_20 rfl rfl inX1 (by decide) fl_X1_9 rfl rfl ?_
  refine Z.iconst hX dX1_swap_23 ?_
  refine Z.iconst hX dX1_swap_24 ?_
  refine Z.copyA hX 12 11 1 dX1_swap_25 rfl rfl rfl rfl (by decide) ml_X1_33 (by decide) (Nat.le_of_ble_eq_true rfl) ?_
  obtain ⟨L2, eL2⟩ : ∃ J' : Nat → Nat → Int64, J' = va_up L1 6 (va_cpy (L1 7) (L1 6) 0 0 5) := ⟨_, rfl⟩
  refine Z.toW (w' := cW ce h pl ar G L2 B J) (by rw [eL2]; rfl) ?_
  have gL2 : L2 6 = va_cpy (L1 7) (L1 6) 0 0 5 := by rw [eL2]; exact up_eq
  have fL2 : ∀ j_, j_ ≠ 6 → L2 j_ = L1 j_ := fun j_ hj_ => by rw [eL2]; exact up_ne hj_
  refine Z.aload_n hX dX1_swap_28 rfl rfl ?_
  refine Z.getf hX 1 3 2 dX1_swap_29 rfl rfl inX1 (by decide) fl_X1_18 rfl rfl ?_
  refine Z.iconst hX dX1_swap_32 ?_
  refine Z.aload_n hX dX1_swap_33 rfl rfl ?_
  refine Z.getf hX 1 3 1 dX1_swap_34 rfl rfl inX1 (by decide) fl_X1_15 rfl rfl ?_
  refine Z.iconst hX dX1_swap_37 ?_
  refine Z.iconst hX dX1_swap_38 ?_
  refine Z.copyA hX 13 12 1 dX1_swap_39 rfl rfl rfl rfl (by decide) ml_X1_33 (by decide) (Nat.le_of_ble_eq_true rfl) ?_
  obtain ⟨L3, eL3⟩ : ∃ J' : Nat → Nat → Int64, J' = va_up L2 7 (va_cpy (L2 8) (L2 7) 0 0 5) := ⟨_, rfl⟩
  refine Z.toW (w' := cW ce h pl ar G L3 B J) (by rw [eL3]; rfl) ?_
  have gL3 : L3 7 = va_cpy (L2 8) (L2 7) 0 0 5 := by rw [eL3]; exact up_eq
  have fL3 : ∀ j_, j_ ≠ 7 → L3 j_ = L2 j_ := fun j_ hj_ => by rw [eL3]; exact up_ne hj_
  exact hR _ _ _ dX1_swap_42 ⟨L3, rfl, (fun j_ h_6 h_7 h_8 => ((fL3 j_ h_7).trans ((fL2 j_ h_6).trans ((fL1 j_ h_8).trans rfl)))), (fun j a b => ⟨by rw [fL3 6 (by decide), gL2, cpy_at a b, fL1 7 (by decide)], by rw [gL3, cpy_at a b, fL2 8 (by decide), gL1, cpy_at a b]⟩)⟩

set_option maxHeartbeats 4000000 in
set_option maxRecDepth 100000 in
theorem ct_X1_shareWithOther_x (l : Launch) (D : va_G) (ce : Nat → ClassId) (h pl ar : Nat → Nat) (G : Nat → Int) (L : Nat → Nat → Int64) (B : Nat → Int) (J : Nat → Nat → Int64) (hS : SF (ti (L 6)) (ti (L 7))) (b6 : bd (L 6)) (b7 : bd (L 7)) : Ct l yX1_shareWithOther cX1_shareWithOther 4 none { frames := 2, cells := 0, slots := 0, locals := 62 } 0 0 D (TY ce) [.ref (h 3)] (cW ce h pl ar G L B J) (QV D (TY ce) (fun w1 => ∃ L2 : Nat → Nat → Int64, w1 = cW ce h pl ar G L2 B J ∧ (∀ k, k ≠ 6 → k ≠ 7 → k ≠ 8 → L2 k = L k) ∧ (EQ2 (ti (L 6)) (ti (L 7)) (ti (L2 6)) p0) ∧ (bd (L2 6)) ∧ (RP (L 6) → RP (L 7) → RP (L2 6)))) := by
  refine Ct.ofV (by decide) (Nat.le_of_ble_eq_true rfl) ?_
  intro p e s m args below meth c A Q hX hnm hR
  refine Z.pick (lv' := [(0, .ref (h 3))]) [0] rfl ?_
  refine Z.iconst hX dX1_shareWithOther_0 ?_
  refine Z.istore_n (lv' := [(1, .int (zI 0)), (0, .ref (h 3))]) hX dX1_shareWithOther_1 rfl (by decide) rfl ?_
  have key_2 : ∀ (N : Nat), ∀ (i : Int) (M : Nat → Nat → Int64), (32 - i).toNat < N → (hi : 0 ≤ i) → (hM : ∀ k, k ≠ 6 → k ≠ 7 → k ≠ 8 → M k = L k) → (hv : IV (L 6) (L 7) (M 6) (M 7)) → (hrp : RP (L 6) → RP (L 7) → RP (M 6) ∧ RP (M 7)) → (hst : stn (M 6) (M 7) i) → Z p l e { frames := 2, cells := 0, slots := 0, locals := 62 } s m args below meth c D A 4 0 0 Q 2 [(1, .int (zI i)), (0, .ref (h 3))] [] (cW ce h pl ar G M B J) := by
    intro N
    induction N with
    | zero => intro i M hm; exact absurd hm (Nat.not_lt_zero _)
    | succ N ih_2 =>
      intro i M hm hi hM hv hrp hst
      have hi20 := stn_le hst
      refine Z.iload_n hX dX1_shareWithOther_2 rfl rfl ?_
      refine Z.bipush hX dX1_shareWithOther_3 (by decide) ?_
      refine Z.icmp_ge hX 61 dX1_shareWithOther_5 (by decide) ⟨by omega, by omega⟩ ⟨by omega, by omega⟩ ?_ ?_
      · intro c1
        exfalso; omega
      · intro c1
        refine Z.aload_n hX dX1_shareWithOther_8 rfl rfl ?_
        refine Z.getf hX 1 3 0 dX1_shareWithOther_9 rfl rfl inX1 (by decide) fl_X1_9 rfl rfl ?_
        refine Z.callS1i (As := [.ref (h 11)]) (rest := []) hX 11 rfl (ct_X5_topOf l D ce ((h 11)) (M 6) ) mc_X5_topOf ml_X1_46 st_X5_topOf ini_X5 nd_X5_topOf ⟨Nat.le_of_ble_eq_true rfl, Nat.le_of_ble_eq_true rfl⟩ ⟨rfl, rfl⟩ ⟨Nat.le_refl _, Nat.le_refl _⟩ rfl (Nat.le_of_ble_eq_true rfl) dX1_shareWithOther_12 ?_
        rintro r_2 w1 ⟨ta, hr_, hw_, a1, a2, a3⟩
        subst hr_
        refine ⟨_, hw_, ?_⟩
        refine Z.toW (w' := cW ce h pl ar G M B J) (set_self rfl) ?_
        refine Z.istore_n (lv' := [(2, .int (zI ta)), (1, .int (zI i)), (0, .ref (h 3))]) hX dX1_shareWithOther_15 rfl (by decide) rfl ?_
        refine Z.aload_n hX dX1_shareWithOther_16 rfl rfl ?_
        refine Z.getf hX 1 3 1 dX1_shareWithOther_17 rfl rfl inX1 (by decide) fl_X1_15 rfl rfl ?_
        refine Z.callS1i (As := [.ref (h 12)]) (rest := []) hX 12 rfl (ct_X5_topOf l D ce ((h 12)) (M 7) ) mc_X5_topOf ml_X1_46 st_X5_topOf ini_X5 nd_X5_topOf ⟨Nat.le_of_ble_eq_true rfl, Nat.le_of_ble_eq_true rfl⟩ ⟨rfl, rfl⟩ ⟨Nat.le_refl _, Nat.le_refl _⟩ rfl (Nat.le_of_ble_eq_true rfl) dX1_shareWithOther_20 ?_
        rintro r_3 w1 ⟨tb, hr_, hw_, b1, b2, b3⟩
        subst hr_
        refine ⟨_, hw_, ?_⟩
        refine Z.toW (w' := cW ce h pl ar G M B J) (set_self rfl) ?_
        refine Z.istore_n (lv' := [(3, .int (zI tb)), (2, .int (zI ta)), (1, .int (zI i)), (0, .ref (h 3))]) hX dX1_shareWithOther_23 rfl (by decide) rfl ?_
        refine Z.iload_n hX dX1_shareWithOther_24 rfl rfl ?_
        refine Z.if_ge hX 29 dX1_shareWithOther_25 (by decide) ⟨by omega, by omega⟩ ?_ ?_
        · intro c4
          refine Z.iload_n hX dX1_shareWithOther_29 rfl rfl ?_
          refine Z.iload_n hX dX1_shareWithOther_30 rfl rfl ?_
          refine Z.icmp_ge hX 41 dX1_shareWithOther_31 (by decide) ⟨by omega, by omega⟩ ⟨by omega, by omega⟩ ?_ ?_
          · intro c5
            refine Z.aload_n hX dX1_shareWithOther_41 rfl rfl ?_
            refine Z.iload_n hX dX1_shareWithOther_42 rfl rfl ?_
            refine Z.iload_n hX dX1_shareWithOther_43 rfl rfl ?_
            refine Z.callVfv (As := [.int (zI ta), .int (zI tb)]) (rest := []) hX 1 3 rfl rfl (ct_X1_lowerShared_x l D ce h pl ar G M B J ta tb (by omega) (fun q => a3 (by omega) q.1)) mc_X1_lowerShared ml_X1_56 im_X1_lowerShared se_X1_lowerShared ini_X1 nd_X1_lowerShared ⟨Nat.le_of_ble_eq_true rfl, Nat.le_of_ble_eq_true rfl⟩ ⟨rfl, rfl⟩ ⟨Nat.le_refl _, Nat.le_refl _⟩ rfl (Nat.le_of_ble_eq_true rfl) dX1_shareWithOther_44 ?_
            rintro w1 ⟨Ll, hw_, l1, l2⟩
            subst hw_
            refine Z.aload_n hX dX1_shareWithOther_47 rfl rfl ?_
            refine Z.aload_n hX dX1_shareWithOther_48 rfl rfl ?_
            refine Z.getf hX 1 3 0 dX1_shareWithOther_49 rfl rfl inX1 (by decide) fl_X1_9 rfl rfl ?_
            refine Z.callVfv (As := [.ref (h 11)]) (rest := []) hX 1 3 rfl rfl (ct_X1_makePrimitive_x l D ce h pl ar G Ll B J ) mc_X1_makePrimitive ml_X1_42 im_X1_makePrimitive se_X1_makePrimitive ini_X1 nd_X1_makePrimitive ⟨Nat.le_of_ble_eq_true rfl, Nat.le_of_ble_eq_true rfl⟩ ⟨rfl, rfl⟩ ⟨Nat.le_refl _, Nat.le_refl _⟩ rfl (Nat.le_of_ble_eq_true rfl) dX1_shareWithOther_52 ?_
            rintro w1 ⟨Lp, hw_, m1, m2⟩
            subst hw_
            obtain ⟨cm, hcm, hlp⟩ := l2
            have e7 : Lp 7 = M 7 := (m1 7 (by decide)).trans (l1 7 (by decide))
            obtain ⟨iv1, iv2, iv3⟩ := iv_low hv a1 a2 a3 b1 b2 b3 (by omega) (by omega) hcm hlp m2 hst
            rw [← e7] at iv1 iv3
            refine Z.iinc (lv' := [(1, .int (zI (i + 1))), (3, .int (zI tb)), (2, .int (zI ta)), (0, .ref (h 3))]) hX dX1_shareWithOther_55 rfl (by decide) rfl ?_
            refine Z.goto hX 2 dX1_shareWithOther_58 (by decide) ?_
            refine Z.pick [0, 3] rfl ?_
            exact ih_2 _ _ (by omega) (by omega) (fun j_ h_6 h_7 h_8 => ((m1 j_ h_6).trans ((l1 j_ h_6).trans (hM j_ h_6 h_7 h_8)))) iv1 (fun r s => ⟨Or.inr iv2, by rw [e7]; exact (hrp r s).2⟩) iv3
          · intro c5
            refine Z.aload_n hX dX1_shareWithOther_34 rfl rfl ?_
            refine Z.callVfv (As := []) (rest := []) hX 1 3 rfl rfl (ct_X1_swap_x l D ce h pl ar G M B J ) mc_X1_swap ml_X1_53 im_X1_swap se_X1_swap ini_X1 nd_X1_swap ⟨Nat.le_of_ble_eq_true rfl, Nat.le_of_ble_eq_true rfl⟩ ⟨rfl, rfl⟩ ⟨Nat.le_refl _, Nat.le_refl _⟩ rfl (Nat.le_of_ble_eq_true rfl) dX1_shareWithOther_35 ?_
            rintro w1 ⟨Ls, hw_, s1, s2⟩
            subst hw_
            obtain ⟨iv1, iv2, iv3, iv4⟩ := iv_sw hv a1 a2 a3 b1 b2 b3 (by omega) s2 hst
            refine Z.goto hX 55 dX1_shareWithOther_38 (by decide) ?_
            refine Z.iinc (lv' := [(1, .int (zI (i + 1))), (3, .int (zI tb)), (2, .int (zI ta)), (0, .ref (h 3))]) hX dX1_shareWithOther_55 rfl (by decide) rfl ?_
            refine Z.goto hX 2 dX1_shareWithOther_58 (by decide) ?_
            refine Z.pick [0, 3] rfl ?_
            exact ih_2 _ _ (by omega) (by omega) (fun j_ h_6 h_7 h_8 => ((s1 j_ h_6 h_7 h_8).trans (hM j_ h_6 h_7 h_8))) iv1 (fun r s => ⟨by unfold RP; rw [iv3]; exact (hrp r s).2, by unfold RP; rw [iv4]; exact (hrp r s).1⟩) iv2
        · intro c4
          exact hR _ _ _ dX1_shareWithOther_28 ⟨M, rfl, hM, (iv_end hv (by omega) b2), hv.2.2.1, (fun r s => (hrp r s).1)⟩
  refine Z.pick [0, 1] rfl ?_
  exact key_2 _ _ _ (Nat.lt_succ_self _) (by omega) (fun _ _ _ _ => rfl) ⟨EQ2.rf _ _, hS, b6, b7⟩ (fun r s => ⟨r, s⟩) (stn_0 _ _)

set_option maxHeartbeats 4000000 in
set_option maxRecDepth 100000 in
theorem ct_X1_divideByShared_x (l : Launch) (D : va_G) (ce : Nat → ClassId) (h pl ar : Nat → Nat) (G : Nat → Int) (L : Nat → Nat → Int64) (B : Nat → Int) (J : Nat → Nat → Int64) (K : Nat) (hK : 3 ≤ K ∧ K < 6) : Ct l yX1_divideByShared cX1_divideByShared 7 none { frames := 1, cells := 0, slots := 0, locals := 40 } 0 0 D (TY ce) [.ref (h 3), .ref (h (18 + K))] (cW ce h pl ar G L B J) (QV D (TY ce) (fun w1 => ∃ L2 : Nat → Nat → Int64, w1 = cW ce h pl ar G L2 B J ∧ (∀ k, k ≠ K → k ≠ 8 → L2 k = L k) ∧ (∃ lo : Int, topz (L 6) lo ∧ (0 ≤ lo → ∀ j : Int, 0 ≤ j → j < 5 → L2 K j.toNat = rq (L K) (L 6) lo j)))) := by
  refine Ct.ofV (by decide) (Nat.le_of_ble_eq_true rfl) ?_
  intro p e s m args below meth c A Q hX hnm hR
  refine Z.pick (lv' := [(0, .ref (h 3)), (1, .ref (h (18 + K)))]) [0, 1] rfl ?_
  refine Z.aload_n hX dX1_divideByShared_0 rfl rfl ?_
  refine Z.getf hX 1 3 0 dX1_divideByShared_1 rfl rfl inX1 (by decide) fl_X1_9 rfl rfl ?_
  refine Z.callS1i (As := [.ref (h 11)]) (rest := []) hX 11 rfl (ct_X5_topOf l D ce ((h 11)) (L 6) ) mc_X5_topOf ml_X1_46 st_X5_topOf ini_X5 nd_X5_topOf ⟨Nat.le_of_ble_eq_true rfl, Nat.le_of_ble_eq_true rfl⟩ ⟨rfl, rfl⟩ ⟨Nat.le_refl _, Nat.le_refl _⟩ rfl (Nat.le_of_ble_eq_true rfl) dX1_divideByShared_4 ?_
  rintro r_1 w1 ⟨lo, hr_, hw_, l1, l2, l3⟩
  subst hr_
  refine ⟨_, hw_, ?_⟩
  refine Z.toW (w' := cW ce h pl ar G L B J) (set_self rfl) ?_
  refine Z.istore_n (lv' := [(2, .int (zI lo)), (0, .ref (h 3)), (1, .ref (h (18 + K)))]) hX dX1_divideByShared_7 rfl (by decide) rfl ?_
  refine Z.iload_n hX dX1_divideByShared_8 rfl rfl ?_
  refine Z.if_lt hX 23 dX1_divideByShared_9 (by decide) ⟨by omega, by omega⟩ ?_ ?_
  · intro c2
    exact hR _ _ _ dX1_divideByShared_23 ⟨L, rfl, (fun _ _ _ => rfl), ⟨lo, ⟨l1, l2, l3⟩, fun q => by omega⟩⟩
  · intro c2
    refine Z.aload_n hX dX1_divideByShared_12 rfl rfl ?_
    refine Z.getf hX 1 3 0 dX1_divideByShared_13 rfl rfl inX1 (by decide) fl_X1_9 rfl rfl ?_
    refine Z.iload_n hX dX1_divideByShared_16 rfl rfl ?_
    refine Z.laload hX 11 1 dX1_divideByShared_17 rfl rfl (by omega) (by omega) (by decide) ?_
    refine Z.lconst (v := 0) hX dX1_divideByShared_18 rfl ?_
    refine Z.lcmp_ne hX 24 dX1_divideByShared_19 dX1_divideByShared_20 (by decide) ?_ ?_
    · intro c3
      refine Z.aload_n hX dX1_divideByShared_24 rfl rfl ?_
      refine Z.iconst hX dX1_divideByShared_25 ?_
      refine Z.aload_n hX dX1_divideByShared_26 rfl rfl ?_
      refine Z.getf hX 1 3 2 dX1_divideByShared_27 rfl rfl inX1 (by decide) fl_X1_18 rfl rfl ?_
      refine Z.iconst hX dX1_divideByShared_30 ?_
      refine Z.iconst hX dX1_divideByShared_31 ?_
      refine Z.copyA hX (18 + K) 13 1 dX1_divideByShared_32 (cW_in (by omega)) rfl rfl rfl (by decide) ml_X1_33 (by decide) (Nat.le_of_ble_eq_true rfl) ?_
      obtain ⟨L4, eL4⟩ : ∃ J' : Nat → Nat → Int64, J' = va_up L 8 (va_cpy (L K) (L 8) 0 0 5) := ⟨_, rfl⟩
      refine Z.toW (w' := cW ce h pl ar G L4 B J) (by rw [eL4]; rfl) ?_
      have gL4 : L4 8 = va_cpy (L K) (L 8) 0 0 5 := by rw [eL4]; exact up_eq
      have fL4 : ∀ j_, j_ ≠ 8 → L4 j_ = L j_ := fun j_ hj_ => by rw [eL4]; exact up_ne hj_
      refine Z.aload_n hX dX1_divideByShared_35 rfl rfl ?_
      refine Z.lconst (v := 0) hX dX1_divideByShared_36 rfl ?_
      refine Z.callS1v (As := [.ref (h (18 + K)), .long 0]) (rest := []) hX (18 + K) (cW_in (by omega)) (ct_J7_fill_d0a16 l D ce ((h (18 + K))) 5 (L4 K) 0 (by decide)) mc_J7_fill_d0a16 ml_X1_21 st_J7_fill_d0a16 ini_J7 nd_J7_fill_d0a16 ⟨Nat.le_of_ble_eq_true rfl, Nat.le_of_ble_eq_true rfl⟩ ⟨rfl, rfl⟩ ⟨Nat.le_refl _, Nat.le_refl _⟩ rfl (Nat.le_of_ble_eq_true rfl) dX1_divideByShared_37 ?_
      rintro w1 ⟨f26, hw_, hfl⟩
      refine ⟨_, hw_, ?_⟩
      obtain ⟨L7, eL7⟩ : ∃ J' : Nat → Nat → Int64, J' = va_up L4 K (f26) := ⟨_, rfl⟩
      refine Z.toW (w' := cW ce h pl ar G L7 B J) (by rw [eL7]; exact cW_setL (by omega)) ?_
      have gL7 : L7 K = f26 := by rw [eL7]; exact up_eq
      have fL7 : ∀ j_, j_ ≠ K → L7 j_ = L4 j_ := fun j_ hj_ => by rw [eL7]; exact up_ne hj_
      refine Z.iconst hX dX1_divideByShared_40 ?_
      refine Z.iload_n hX dX1_divideByShared_41 rfl rfl ?_
      refine Z.isub hX dX1_divideByShared_42 ?_
      refine Z.istore_n (lv' := [(3, .int (zI (4 - lo))), (2, .int (zI lo)), (0, .ref (h 3)), (1, .ref (h (18 + K)))]) hX dX1_divideByShared_43 rfl (by decide) rfl ?_
      have key_44 : ∀ (N : Nat), ∀ (i : Int) (M : Nat → Nat → Int64), (i + 1).toNat < N → (hi : -1 ≤ i ∧ i ≤ 4 - lo) → (ho : M 6 = L 6) → (hM : ∀ k, k ≠ K → k ≠ 8 → M k = L k) → (hsp : ∀ j : Int, 0 ≤ j → j < 5 → M 8 j.toNat = spq (L K) (L 6) lo (4 - lo - i).toNat j.toNat) → (hrq : ∀ j : Int, 0 ≤ j → j < 5 → M K j.toNat = if i < j then rq (L K) (L 6) lo j else 0) → Z p l e { frames := 1, cells := 0, slots := 0, locals := 40 } s m args below meth c D A 7 0 0 Q 44 [(3, .int (zI i)), (2, .int (zI lo)), (1, .ref (h (18 + K))), (0, .ref (h 3))] [] (cW ce h pl ar G M B J) := by
        intro N
        induction N with
        | zero => intro i M hm; exact absurd hm (Nat.not_lt_zero _)
        | succ N ih_44 =>
          intro i M hm hi ho hM hsp hrq
          refine Z.iload_n hX dX1_divideByShared_44 rfl rfl ?_
          refine Z.if_lt hX 113 dX1_divideByShared_45 (by decide) ⟨by omega, by omega⟩ ?_ ?_
          · intro c8
            exact hR _ _ _ dX1_divideByShared_113 ⟨M, rfl, hM, ⟨lo, ⟨l1, l2, l3⟩, fun _ j a b => by rw [hrq j a b, if_pos (by omega)]⟩⟩
          · intro c8
            refine Z.aload_n hX dX1_divideByShared_48 rfl rfl ?_
            refine Z.getf hX 1 3 2 dX1_divideByShared_49 rfl rfl inX1 (by decide) fl_X1_18 rfl rfl ?_
            refine Z.iload_n hX dX1_divideByShared_52 rfl rfl ?_
            refine Z.iload_n hX dX1_divideByShared_53 rfl rfl ?_
            refine Z.iadd hX dX1_divideByShared_54 ?_
            refine Z.laload hX 13 1 dX1_divideByShared_55 rfl rfl (by omega) (by omega) (by decide) ?_
            refine Z.aload_n hX dX1_divideByShared_56 rfl rfl ?_
            refine Z.getf hX 1 3 0 dX1_divideByShared_57 rfl rfl inX1 (by decide) fl_X1_9 rfl rfl ?_
            refine Z.iload_n hX dX1_divideByShared_60 rfl rfl ?_
            refine Z.laload hX 11 1 dX1_divideByShared_61 rfl rfl (by omega) (by omega) (by decide) ?_
            refine Z.ldiv hX dX1_divideByShared_62 (by rw [ho]; exact l3 (by omega)) ?_
            refine Z.lstore (lv' := [(4, .long ((M 8 (i + lo : Int).toNat) / (M 6 (lo : Int).toNat))), (3, .int (zI i)), (2, .int (zI lo)), (1, .ref (h (18 + K))), (0, .ref (h 3))]) hX dX1_divideByShared_63 (by decide) rfl ?_
            obtain ⟨qq, eqq⟩ : ∃ x : Int64, x = (M 8 (i + lo : Int).toNat) / (M 6 (lo : Int).toNat) := ⟨_, rfl⟩
            rw [← eqq]
            refine Z.aload_n hX dX1_divideByShared_65 rfl rfl ?_
            refine Z.iload_n hX dX1_divideByShared_66 rfl rfl ?_
            refine Z.lload hX dX1_divideByShared_67 rfl ?_
            refine Z.lastore hX (18 + K) 1 dX1_divideByShared_69 (cW_in (by omega)) rfl (by omega) (by omega) (by decide) ?_
            obtain ⟨L9, eL9⟩ : ∃ J' : Nat → Nat → Int64, J' = va_up M K (vp_updL (M K) (i : Int).toNat (qq)) := ⟨_, rfl⟩
            refine Z.toW (w' := cW ce h pl ar G L9 B J) (by rw [eL9]; exact cW_setL (by omega)) ?_
            have gL9 : L9 K = vp_updL (M K) (i : Int).toNat (qq) := by rw [eL9]; exact up_eq
            have fL9 : ∀ j_, j_ ≠ K → L9 j_ = M j_ := fun j_ hj_ => by rw [eL9]; exact up_ne hj_
            refine Z.iconst hX dX1_divideByShared_70 ?_
            refine Z.istore (lv' := [(6, .int (zI 0)), (4, .long qq), (3, .int (zI i)), (2, .int (zI lo)), (1, .ref (h (18 + K))), (0, .ref (h 3))]) hX dX1_divideByShared_71 (by decide) rfl ?_
            have key_73 : ∀ (N : Nat), ∀ (q : Int) (Nn : Nat → Nat → Int64), (lo + 1 - q).toNat < N → (hq : 0 ≤ q ∧ q ≤ lo + 1) → (ho2 : Nn 6 = L 6) → (hN : ∀ k, k ≠ K → k ≠ 8 → Nn k = L k) → (hof : ∀ j : Int, 0 ≤ j → j < 5 → Nn 8 j.toNat = if i ≤ j ∧ j < i + q then M 8 j.toNat - qq * L 6 (j - i).toNat else M 8 j.toNat) → (hrn : ∀ j : Int, 0 ≤ j → j < 5 → Nn K j.toNat = if i - 1 < j then rq (L K) (L 6) lo j else 0) → Z p l e { frames := 1, cells := 0, slots := 0, locals := 40 } s m args below meth c D A 7 0 0 Q 73 [(6, .int (zI q)), (4, .long qq), (3, .int (zI i)), (2, .int (zI lo)), (1, .ref (h (18 + K))), (0, .ref (h 3))] [] (cW ce h pl ar G Nn B J) := by
              intro N
              induction N with
              | zero => intro q Nn hm; exact absurd hm (Nat.not_lt_zero _)
              | succ N ih_73 =>
                intro q Nn hm hq ho2 hN hof hrn
                refine Z.iload hX dX1_divideByShared_73 rfl ?_
                refine Z.iload_n hX dX1_divideByShared_75 rfl rfl ?_
                refine Z.icmp_gt hX 107 dX1_divideByShared_76 (by decide) ⟨by omega, by omega⟩ ⟨by omega, by omega⟩ ?_ ?_
                · intro c10
                  refine Z.iinc (lv' := [(3, .int (zI (i + -1))), (6, .int (zI q)), (4, .long qq), (2, .int (zI lo)), (1, .ref (h (18 + K))), (0, .ref (h 3))]) hX dX1_divideByShared_107 rfl (by decide) rfl ?_
                  refine Z.goto hX 44 dX1_divideByShared_110 (by decide) ?_
                  refine Z.pick [0, 3, 4, 5] rfl ?_
                  exact ih_44 _ _ (by omega) (by omega) ho2 hN (off_e (x := qq) (by omega) (by omega) (by omega) hsp (by rw [eqq, ho]) (fun j a b => by rw [hof j a b, show q = lo + 1 by omega])) hrn
                · intro c10
                  refine Z.aload_n hX dX1_divideByShared_79 rfl rfl ?_
                  refine Z.getf hX 1 3 2 dX1_divideByShared_80 rfl rfl inX1 (by decide) fl_X1_18 rfl rfl ?_
                  refine Z.iload_n hX dX1_divideByShared_83 rfl rfl ?_
                  refine Z.iload hX dX1_divideByShared_84 rfl ?_
                  refine Z.iadd hX dX1_divideByShared_86 ?_
                  refine Z.dup2 hX dX1_divideByShared_87 rfl rfl ?_
                  refine Z.laload hX 13 1 dX1_divideByShared_88 rfl rfl (by omega) (by omega) (by decide) ?_
                  refine Z.lload hX dX1_divideByShared_89 rfl ?_
                  refine Z.aload_n hX dX1_divideByShared_91 rfl rfl ?_
                  refine Z.getf hX 1 3 0 dX1_divideByShared_92 rfl rfl inX1 (by decide) fl_X1_9 rfl rfl ?_
                  refine Z.iload hX dX1_divideByShared_95 rfl ?_
                  refine Z.laload hX 11 1 dX1_divideByShared_97 rfl rfl (by omega) (by omega) (by decide) ?_
                  refine Z.lmul hX dX1_divideByShared_98 ?_
                  refine Z.lsub hX dX1_divideByShared_99 ?_
                  refine Z.lastore hX 13 1 dX1_divideByShared_100 rfl rfl (by omega) (by omega) (by decide) ?_
                  obtain ⟨L11, eL11⟩ : ∃ J' : Nat → Nat → Int64, J' = va_up Nn 8 (vp_updL (Nn 8) (i + q : Int).toNat ((Nn 8 (i + q : Int).toNat) - (qq * (Nn 6 (q : Int).toNat)))) := ⟨_, rfl⟩
                  refine Z.toW (w' := cW ce h pl ar G L11 B J) (by rw [eL11]; rfl) ?_
                  have gL11 : L11 8 = vp_updL (Nn 8) (i + q : Int).toNat ((Nn 8 (i + q : Int).toNat) - (qq * (Nn 6 (q : Int).toNat))) := by rw [eL11]; exact up_eq
                  have fL11 : ∀ j_, j_ ≠ 8 → L11 j_ = Nn j_ := fun j_ hj_ => by rw [eL11]; exact up_ne hj_
                  refine Z.iinc (lv' := [(6, .int (zI (q + 1))), (4, .long qq), (3, .int (zI i)), (2, .int (zI lo)), (1, .ref (h (18 + K))), (0, .ref (h 3))]) hX dX1_divideByShared_101 rfl (by decide) rfl ?_
                  refine Z.goto hX 73 dX1_divideByShared_104 (by decide) ?_
                  refine Z.pick [0, 1, 2, 3, 4, 5] rfl ?_
                  exact ih_73 _ _ (by omega) (by omega) ((fL11 6 (by omega)).trans ho2) (fun j_ h_K h_8 => ((fL11 j_ h_8).trans (hN j_ h_K h_8))) (off_s (by omega) (by omega) (by omega) (by rw [gL11, ho2]) hof) (fun j a b => by rw [fL11 K (by omega)]; exact hrn j a b)
            refine Z.pick [0, 1, 2, 3, 4, 5] rfl ?_
            exact key_73 _ _ _ (Nat.lt_succ_self _) (by omega) ((fL9 6 (by omega)).trans ho) (fun j_ h_K h_8 => ((fL9 j_ h_K).trans (hM j_ h_K h_8))) (fun j a b => by rw [fL9 8 (by omega), if_neg (by omega)]) (rq_w (x := qq) (by omega) (by omega) (by omega) hsp (by rw [eqq, ho]) gL9 hrq)
      refine Z.pick [0, 1, 3, 2] rfl ?_
      exact key_44 _ _ _ (Nat.lt_succ_self _) (by omega) ((fL7 6 (by omega)).trans ((fL4 6 (by omega)).trans rfl)) (fun j_ h_K h_8 => ((fL7 j_ h_K).trans ((fL4 j_ h_8).trans rfl))) (fun j a b => by rw [fL7 8 (by omega), gL4, cpy_at a b, show (4 - lo - (4 - lo)).toNat = 0 by omega]; rfl) (rq_0 (fun j a b => by rw [gL7]; exact hfl j a (by omega)))
    · intro c3
      exact absurd (by assumption) (l3 (by omega))

set_option maxHeartbeats 4000000 in
set_option maxRecDepth 100000 in
theorem ct_X1_free_x (l : Launch) (D : va_G) (ce : Nat → ClassId) (h pl ar : Nat → Nat) (G : Nat → Int) (L : Nat → Nat → Int64) (B : Nat → Int) (J : Nat → Nat → Int64) (hb : ∀ a, a < 3 → bx 7 (ti (L a))) : Ct l yX1_free cX1_free 4 none { frames := 3, cells := 0, slots := 0, locals := 85 } 0 0 D (TY ce) [.ref (h 3), .ref (h 1), .ref (h 2)] (cW ce h pl ar G L B J) (QV D (TY ce) (fun w1 => ∃ L2 : Nat → Nat → Int64, w1 = cW ce h pl ar G L2 B J ∧ (∀ k, k ≠ 3 → k ≠ 4 → k ≠ 5 → k ≠ 6 → k ≠ 7 → k ≠ 8 → L2 k = L k) ∧ (FRs L (fun a => L2 (3 + a))))) := by
  refine Ct.ofV (by decide) (Nat.le_of_ble_eq_true rfl) ?_
  intro p e s m args below meth c A Q hX hnm hR
  refine Z.pick (lv' := [(0, .ref (h 3)), (1, .ref (h 1)), (2, .ref (h 2))]) [0, 1, 2] rfl ?_
  refine Z.aload_n hX dX1_free_0 rfl rfl ?_
  refine Z.getf hX 1 3 0 dX1_free_1 rfl rfl inX1 (by decide) fl_X1_9 rfl rfl ?_
  refine Z.lconst (v := 0) hX dX1_free_4 rfl ?_
  refine Z.callS1v (As := [.ref (h 11), .long 0]) (rest := []) hX 11 rfl (ct_J7_fill_d0a16 l D ce ((h 11)) 5 (L 6) 0 (by decide)) mc_J7_fill_d0a16 ml_X1_21 st_J7_fill_d0a16 ini_J7 nd_J7_fill_d0a16 ⟨Nat.le_of_ble_eq_true rfl, Nat.le_of_ble_eq_true rfl⟩ ⟨rfl, rfl⟩ ⟨Nat.le_refl _, Nat.le_refl _⟩ rfl (Nat.le_of_ble_eq_true rfl) dX1_free_5 ?_
  rintro w1 ⟨f22, hw_, hfl⟩
  refine ⟨_, hw_, ?_⟩
  obtain ⟨L3, eL3⟩ : ∃ J' : Nat → Nat → Int64, J' = va_up L 6 (f22) := ⟨_, rfl⟩
  refine Z.toW (w' := cW ce h pl ar G L3 B J) (by rw [eL3]; rfl) ?_
  have gL3 : L3 6 = f22 := by rw [eL3]; exact up_eq
  have fL3 : ∀ j_, j_ ≠ 6 → L3 j_ = L j_ := fun j_ hj_ => by rw [eL3]; exact up_ne hj_
  refine Z.iconst hX dX1_free_8 ?_
  refine Z.istore_n (lv' := [(3, .int (zI 0)), (0, .ref (h 3)), (1, .ref (h 1)), (2, .ref (h 2))]) hX dX1_free_9 rfl (by decide) rfl ?_
  have key_10 : ∀ (N : Nat), ∀ (i : Int) (M : Nat → Nat → Int64), (3 - i).toNat < N → (hi : 0 ≤ i ∧ i ≤ 3) → (hM : ∀ k, k ≠ 3 → k ≠ 4 → k ≠ 5 → k ≠ 6 → k ≠ 7 → k ≠ 8 → M k = L k) → (hcp : ∀ j : Int, 0 ≤ j → j < i → ∀ q : Int, 0 ≤ q → q < 5 → M (3 + j.toNat) q.toNat = L j.toNat q.toNat) → (hsg : SG (L 0) (L 1) (L 2) i (M 6)) → Z p l e { frames := 3, cells := 0, slots := 0, locals := 85 } s m args below meth c D A 4 0 0 Q 10 [(3, .int (zI i)), (2, .ref (h 2)), (1, .ref (h 1)), (0, .ref (h 3))] [] (cW ce h pl ar G M B J) := by
    intro N
    induction N with
    | zero => intro i M hm; exact absurd hm (Nat.not_lt_zero _)
    | succ N ih_10 =>
      intro i M hm hi hM hcp hsg
      refine Z.iload_n hX dX1_free_10 rfl rfl ?_
      refine Z.iconst hX dX1_free_11 ?_
      refine Z.icmp_ge hX 59 dX1_free_12 (by decide) ⟨by omega, by omega⟩ ⟨by omega, by omega⟩ ?_ ?_
      · intro c4
        refine Z.aload_n hX dX1_free_59 rfl rfl ?_
        refine Z.aload_n hX dX1_free_60 rfl rfl ?_
        refine Z.getf hX 1 3 0 dX1_free_61 rfl rfl inX1 (by decide) fl_X1_9 rfl rfl ?_
        refine Z.callVfv (As := [.ref (h 11)]) (rest := []) hX 1 3 rfl rfl (ct_X1_makePrimitive_x l D ce h pl ar G M B J ) mc_X1_makePrimitive ml_X1_42 im_X1_makePrimitive se_X1_makePrimitive ini_X1 nd_X1_makePrimitive ⟨Nat.le_of_ble_eq_true rfl, Nat.le_of_ble_eq_true rfl⟩ ⟨rfl, rfl⟩ ⟨Nat.le_refl _, Nat.le_refl _⟩ rfl (Nat.le_of_ble_eq_true rfl) dX1_free_64 ?_
        rintro w1 ⟨Lp, hw_, m1, m2⟩
        subst hw_
        have hi3 : i = 3 := by omega
        have hgg : GG (L 0) (L 1) (L 2) (Lp 6) := GG_of (hi3 ▸ hsg) m2
        refine Z.aload_n hX dX1_free_67 rfl rfl ?_
        refine Z.getf hX 1 3 0 dX1_free_68 rfl rfl inX1 (by decide) fl_X1_9 rfl rfl ?_
        refine Z.callS1i (As := [.ref (h 11)]) (rest := []) hX 11 rfl (ct_X5_topOf l D ce ((h 11)) (Lp 6) ) mc_X5_topOf ml_X1_46 st_X5_topOf ini_X5 nd_X5_topOf ⟨Nat.le_of_ble_eq_true rfl, Nat.le_of_ble_eq_true rfl⟩ ⟨rfl, rfl⟩ ⟨Nat.le_refl _, Nat.le_refl _⟩ rfl (Nat.le_of_ble_eq_true rfl) dX1_free_71 ?_
        rintro r_6 w1 ⟨tp, hr_, hw_, t1, t2, t3⟩
        subst hr_
        refine ⟨_, hw_, ?_⟩
        refine Z.toW (w' := cW ce h pl ar G Lp B J) (set_self rfl) ?_
        refine Z.iconst hX dX1_free_74 ?_
        refine Z.icmp_lt hX 101 dX1_free_75 (by decide) ⟨by omega, by omega⟩ ⟨by omega, by omega⟩ ?_ ?_
        · intro c7
          exact hR _ _ _ dX1_free_101 ⟨Lp, rfl, (fun j_ h_3 h_4 h_5 h_6 h_7 h_8 => ((m1 j_ h_6).trans (hM j_ h_3 h_4 h_5 h_6 h_7 h_8))), ⟨Lp 6, tp, hgg, ⟨t1, t2, t3⟩, fun a ha j x y => by have hk1 := hcp (a : Int) (by omega) (by omega) j x y; rw [Int.toNat_natCast] at hk1; rw [if_neg (by omega)]; show Lp (3 + a) j.toNat = _; rw [m1 (3 + a) (by omega)]; exact hk1⟩⟩
        · intro c7
          refine Z.iconst hX dX1_free_78 ?_
          refine Z.istore_n (lv' := [(3, .int (zI 0)), (2, .ref (h 2)), (1, .ref (h 1)), (0, .ref (h 3))]) hX dX1_free_79 rfl (by decide) rfl ?_
          have key_80 : ∀ (N : Nat), ∀ (i2 : Int) (Nn : Nat → Nat → Int64), (3 - i2).toNat < N → (hi2 : 0 ≤ i2 ∧ i2 ≤ 3) → (hN : ∀ k, k ≠ 3 → k ≠ 4 → k ≠ 5 → k ≠ 6 → k ≠ 7 → k ≠ 8 → Nn k = L k) → (ho6 : Nn 6 = Lp 6) → (hdv : ∀ j : Int, 0 ≤ j → j < 3 → ∀ q : Int, 0 ≤ q → q < 5 → Nn (3 + j.toNat) q.toNat = if j < i2 then rq (L j.toNat) (Lp 6) tp q else L j.toNat q.toNat) → Z p l e { frames := 3, cells := 0, slots := 0, locals := 85 } s m args below meth c D A 4 0 0 Q 80 [(3, .int (zI i2)), (2, .ref (h 2)), (0, .ref (h 3))] [] (cW ce h pl ar G Nn B J) := by
            intro N
            induction N with
            | zero => intro i2 Nn hm; exact absurd hm (Nat.not_lt_zero _)
            | succ N ih_80 =>
              intro i2 Nn hm hi2 hN ho6 hdv
              refine Z.iload_n hX dX1_free_80 rfl rfl ?_
              refine Z.iconst hX dX1_free_81 ?_
              refine Z.icmp_ge hX 101 dX1_free_82 (by decide) ⟨by omega, by omega⟩ ⟨by omega, by omega⟩ ?_ ?_
              · intro c8
                exact hR _ _ _ dX1_free_101 ⟨Nn, rfl, hN, ⟨Lp 6, tp, hgg, ⟨t1, t2, t3⟩, fun a ha j x y => by have hk1 := hdv (a : Int) (by omega) (by omega) j x y; rw [Int.toNat_natCast, if_pos (by omega)] at hk1; rw [if_pos (by omega)]; exact hk1⟩⟩
              · intro c8
                refine Z.aload_n hX dX1_free_85 rfl rfl ?_
                refine Z.aload_n hX dX1_free_86 rfl rfl ?_
                refine Z.getf hX 5 2 0 dX1_free_87 rfl rfl inX5 (by decide) fl_X1_27 rfl rfl ?_
                refine Z.iload_n hX dX1_free_90 rfl rfl ?_
                refine Z.aaload hX 10 3 dX1_free_91 rfl rfl rfl (by omega) (by omega) (by decide) rfl ?_
                refine Z.callVfv (As := [.ref (h (18 + (3 + (i2 : Int).toNat)))]) (rest := []) hX 1 3 rfl rfl (ct_X1_divideByShared_x l D ce h pl ar G Nn B J ((3 + (i2 : Int).toNat)) (by omega)) mc_X1_divideByShared ml_X1_50 im_X1_divideByShared se_X1_divideByShared ini_X1 nd_X1_divideByShared ⟨Nat.le_of_ble_eq_true rfl, Nat.le_of_ble_eq_true rfl⟩ ⟨rfl, rfl⟩ ⟨Nat.le_refl _, Nat.le_refl _⟩ rfl (Nat.le_of_ble_eq_true rfl) dX1_free_92 ?_
                rintro w1 ⟨Ld, hw_, v1, v2⟩
                subst hw_
                obtain ⟨lo, tl, hl⟩ := v2
                have elo : lo = tp := topz_uq (fun j _ => by rw [ho6]) tl ⟨t1, t2, t3⟩
                rw [elo] at hl
                have hd2 : ∀ j : Int, 0 ≤ j → j < 3 → ∀ q : Int, 0 ≤ q → q < 5 → Ld (3 + j.toNat) q.toNat = if j < i2 + 1 then rq (L j.toNat) (Lp 6) tp q else L j.toNat q.toNat := fun j a b q x y => if e : j = i2 then (by rw [e, hl (by omega) q x y, if_pos (by omega), ho6]; exact rq_c (by omega) x (fun k hk => by have hk1 := hdv i2 (by omega) (by omega) (k : Int) (by omega) (by omega); rw [Int.toNat_natCast, if_neg (by omega)] at hk1; exact hk1) (fun _ _ => rfl)) else (by rw [v1 _ (by omega) (by omega), hdv j a b q x y]; exact (if e2 : j < i2 then (by rw [if_pos e2, if_pos (by omega)]) else (by rw [if_neg e2, if_neg (by omega)])))
                have h62 : Ld 6 = Lp 6 := (v1 6 (by omega) (by decide)).trans ho6
                refine Z.iinc (lv' := [(3, .int (zI (i2 + 1))), (2, .ref (h 2)), (0, .ref (h 3))]) hX dX1_free_95 rfl (by decide) rfl ?_
                refine Z.goto hX 80 dX1_free_98 (by decide) ?_
                refine Z.pick [0, 1, 2] rfl ?_
                exact ih_80 _ _ (by omega) (by omega) (fun j_ h_3 h_4 h_5 h_6 h_7 h_8 => ((v1 j_ (by omega) h_8).trans (hN j_ h_3 h_4 h_5 h_6 h_7 h_8))) h62 hd2
          refine Z.pick [0, 1, 3] rfl ?_
          exact key_80 _ _ _ (Nat.lt_succ_self _) (by omega) (fun j_ h_3 h_4 h_5 h_6 h_7 h_8 => ((m1 j_ h_6).trans (hM j_ h_3 h_4 h_5 h_6 h_7 h_8))) rfl (fun j a b q x y => by rw [if_neg (by omega), m1 _ (by omega)]; exact hcp j a (by omega) q x y)
      · intro c4
        refine Z.aload_n hX dX1_free_15 rfl rfl ?_
        refine Z.getf hX 5 1 0 dX1_free_16 rfl rfl inX5 (by decide) fl_X1_27 rfl rfl ?_
        refine Z.iload_n hX dX1_free_19 rfl rfl ?_
        refine Z.aaload hX 9 3 dX1_free_20 rfl rfl rfl (by omega) (by omega) (by decide) rfl ?_
        refine Z.iconst hX dX1_free_21 ?_
        refine Z.aload_n hX dX1_free_22 rfl rfl ?_
        refine Z.getf hX 5 2 0 dX1_free_23 rfl rfl inX5 (by decide) fl_X1_27 rfl rfl ?_
        refine Z.iload_n hX dX1_free_26 rfl rfl ?_
        refine Z.aaload hX 10 3 dX1_free_27 rfl rfl rfl (by omega) (by omega) (by decide) rfl ?_
        refine Z.iconst hX dX1_free_28 ?_
        refine Z.iconst hX dX1_free_29 ?_
        refine Z.copyA hX (18 + (i : Int).toNat) (18 + (3 + (i : Int).toNat)) 1 dX1_free_30 (cW_in (by omega)) (cW_in (by omega)) rfl rfl (by decide) ml_X1_33 (by decide) (Nat.le_of_ble_eq_true rfl) ?_
        obtain ⟨L10, eL10⟩ : ∃ J' : Nat → Nat → Int64, J' = va_up M ((3 + (i : Int).toNat)) (va_cpy (M ((i : Int).toNat)) (M ((3 + (i : Int).toNat))) 0 0 5) := ⟨_, rfl⟩
        refine Z.toW (w' := cW ce h pl ar G L10 B J) (by rw [eL10]; exact cW_setL (by omega)) ?_
        have gL10 : L10 ((3 + (i : Int).toNat)) = va_cpy (M ((i : Int).toNat)) (M ((3 + (i : Int).toNat))) 0 0 5 := by rw [eL10]; exact up_eq
        have fL10 : ∀ j_, j_ ≠ (3 + (i : Int).toNat) → L10 j_ = M j_ := fun j_ hj_ => by rw [eL10]; exact up_ne hj_
        refine Z.aload_n hX dX1_free_33 rfl rfl ?_
        refine Z.getf hX 5 1 0 dX1_free_34 rfl rfl inX5 (by decide) fl_X1_27 rfl rfl ?_
        refine Z.iload_n hX dX1_free_37 rfl rfl ?_
        refine Z.aaload hX 9 3 dX1_free_38 rfl rfl rfl (by omega) (by omega) (by decide) rfl ?_
        refine Z.iconst hX dX1_free_39 ?_
        refine Z.aload_n hX dX1_free_40 rfl rfl ?_
        refine Z.getf hX 1 3 1 dX1_free_41 rfl rfl inX1 (by decide) fl_X1_15 rfl rfl ?_
        refine Z.iconst hX dX1_free_44 ?_
        refine Z.iconst hX dX1_free_45 ?_
        refine Z.copyA hX (18 + (i : Int).toNat) 12 1 dX1_free_46 (cW_in (by omega)) rfl rfl rfl (by decide) ml_X1_33 (by decide) (Nat.le_of_ble_eq_true rfl) ?_
        obtain ⟨L11, eL11⟩ : ∃ J' : Nat → Nat → Int64, J' = va_up L10 7 (va_cpy (L10 ((i : Int).toNat)) (L10 7) 0 0 5) := ⟨_, rfl⟩
        refine Z.toW (w' := cW ce h pl ar G L11 B J) (by rw [eL11]; rfl) ?_
        have gL11 : L11 7 = va_cpy (L10 ((i : Int).toNat)) (L10 7) 0 0 5 := by rw [eL11]; exact up_eq
        have fL11 : ∀ j_, j_ ≠ 7 → L11 j_ = L10 j_ := fun j_ hj_ => by rw [eL11]; exact up_ne hj_
        have hMi : M (i : Int).toNat = L (i : Int).toNat := hM _ (by omega) (by omega) (by omega) (by omega) (by omega) (by omega)
        have cpa : ∀ q : Int, 0 ≤ q → q < 5 → L11 (3 + (i : Int).toNat) q.toNat = L (i : Int).toNat q.toNat := fun q a b => by rw [fL11 _ (by omega), gL10, cpy_at a b, hMi]
        have cpo : ∀ q : Int, 0 ≤ q → q < 5 → L11 7 q.toNat = L (i : Int).toNat q.toNat := fun q a b => by rw [gL11, cpy_at a b, fL10 _ (by omega), hMi]
        have e6 : L11 6 = M 6 := (fL11 6 (by decide)).trans (fL10 6 (by omega))
        have et7 : ti (L11 7) = ti (L (i : Int).toNat) := ti_ext (fun j a b => cpo j a (by omega))
        have ho7 : ti (L11 7) = ti (P3 (L 0) (L 1) (L 2) i) := et7.trans (by rcases (show i = 0 ∨ i = 1 ∨ i = 2 by omega) with rfl | rfl | rfl <;> rfl)
        have hb7 : bx 7 (ti (L11 7)) := by rw [et7]; exact hb _ (by omega)
        have bo7 := bx_bd hb7
        have hsg1 : SG (L 0) (L 1) (L 2) i (L11 6) := by rw [e6]; exact hsg
        refine Z.aload_n hX dX1_free_49 rfl rfl ?_
        refine Z.callVfv (As := []) (rest := []) hX 1 3 rfl rfl (ct_X1_shareWithOther_x l D ce h pl ar G L11 B J (SG_sf (hb 0 (by decide)) (hb 1 (by decide)) (hb 2 (by decide)) (by omega) hsg1 ho7) hsg1.1 bo7) mc_X1_shareWithOther ml_X1_39 im_X1_shareWithOther se_X1_shareWithOther ini_X1 nd_X1_shareWithOther ⟨Nat.le_of_ble_eq_true rfl, Nat.le_of_ble_eq_true rfl⟩ ⟨rfl, rfl⟩ ⟨Nat.le_refl _, Nat.le_refl _⟩ rfl (Nat.le_of_ble_eq_true rfl) dX1_free_50 ?_
        rintro w1 ⟨Ls, hw_, s1, s2, s3, s4⟩
        subst hw_
        have hsg2 : SG (L 0) (L 1) (L 2) (i + 1) (Ls 6) := SG_s (by omega) hsg1 ho7 s2 s3 (s4 hsg1.2.1 (Or.inl hb7))
        have hcp2 : ∀ j : Int, 0 ≤ j → j < i + 1 → ∀ q : Int, 0 ≤ q → q < 5 → Ls (3 + j.toNat) q.toNat = L j.toNat q.toNat := fun j ja jb q a b => by rw [s1 _ (by omega) (by omega) (by omega)]; exact (if e : j = i then (by rw [e]; exact cpa q a b) else (by rw [fL11 _ (by omega), fL10 _ (by omega)]; exact hcp j ja (by omega) q a b))
        refine Z.iinc (lv' := [(3, .int (zI (i + 1))), (2, .ref (h 2)), (1, .ref (h 1)), (0, .ref (h 3))]) hX dX1_free_53 rfl (by decide) rfl ?_
        refine Z.goto hX 10 dX1_free_56 (by decide) ?_
        refine Z.pick [0, 1, 2, 3] rfl ?_
        exact ih_10 _ _ (by omega) (by omega) (fun j_ h_3 h_4 h_5 h_6 h_7 h_8 => ((s1 j_ h_6 h_7 h_8).trans ((fL11 j_ h_7).trans ((fL10 j_ (by omega)).trans (hM j_ h_3 h_4 h_5 h_6 h_7 h_8))))) hcp2 hsg2
  refine Z.pick [0, 3, 2, 1] rfl ?_
  exact key_10 _ _ _ (Nat.lt_succ_self _) (by omega) (fun j_ h_3 h_4 h_5 h_6 h_7 h_8 => ((fL3 j_ h_6).trans rfl)) (fun j a b => by omega) (SG_0 (fun j a b => by rw [gL3]; exact hfl j a (by omega)))
end
section
set_option maxHeartbeats 4000000 in
set_option maxRecDepth 100000 in
theorem ct_X7_common_x (l : Launch) (D : va_G) (ce : Nat → ClassId) (a b : Int64)  : Ct l yX7_common cX7_common 10 (some .long) { frames := 0, cells := 0, slots := 0, locals := 0 } 0 0 D (TY ce) [.long a, .long b] ([]) (QL D (TY ce) (fun r w1 => ∃ r0 : Int64, r = r0 ∧ w1 = [] ∧ (cgX a b r0))) := by
  refine Ct.ofL (by decide) (Nat.le_of_ble_eq_true rfl) ?_
  intro p e s m args below meth c A Q hX hnm hR
  refine Z.pick (lv' := [(0, .long a), (2, .long b)]) [0, 1] rfl ?_
  have key_12 : ∀ (x : Int64), (hx1 : x = lab a) → Z p l e { frames := 0, cells := 0, slots := 0, locals := 0 } s m args below meth c D A 10 0 0 Q 12 [(0, .long a), (2, .long b)] [.long x] ([]) := by
    intro x hx1
    refine Z.lstore (lv' := [(4, .long x), (0, .long a), (2, .long b)]) hX dX7_common_12 (by decide) rfl ?_
    have key_26 : ∀ (y : Int64), (hy1 : y = lab b) → Z p l e { frames := 0, cells := 0, slots := 0, locals := 0 } s m args below meth c D A 10 0 0 Q 26 [(4, .long x)] [.long y] ([]) := by
      intro y hy1
      refine Z.lstore (lv' := [(6, .long y), (4, .long x)]) hX dX7_common_26 (by decide) rfl ?_
      have key_28 : ∀ (N : Nat), ∀ (x y : Int64), y.toInt.natAbs < N → (hi : cgI a b x y) → (hj : cgJ a b x y) → Z p l e { frames := 0, cells := 0, slots := 0, locals := 0 } s m args below meth c D A 10 0 0 Q 28 [(4, .long x), (6, .long y)] [] ([]) := by
        intro N
        induction N with
        | zero => intro x y hm; exact absurd hm (Nat.not_lt_zero _)
        | succ N ih_28 =>
          intro x y hm hi hj
          refine Z.lload hX dX7_common_28 rfl ?_
          refine Z.lconst (v := 0) hX dX7_common_30 rfl ?_
          refine Z.lcmp_eq hX 53 dX7_common_31 dX7_common_32 (by decide) ?_ ?_
          · intro c1
            refine Z.lload hX dX7_common_53 rfl ?_
            exact hR _ _ _ _ dX7_common_55 ⟨x, rfl, rfl, cgJ_e (by assumption) (cgI_e (by assumption) hi) hj⟩
          · intro c1
            refine Z.lload hX dX7_common_35 rfl ?_
            refine Z.lload hX dX7_common_37 rfl ?_
            refine Z.lrem hX dX7_common_39 (by assumption) ?_
            refine Z.lstore (lv' := [(8, .long (x - x / y * y)), (4, .long x), (6, .long y)]) hX dX7_common_40 (by decide) rfl ?_
            refine Z.lload hX dX7_common_42 rfl ?_
            refine Z.lstore (lv' := [(4, .long y), (8, .long (x - x / y * y)), (6, .long y)]) hX dX7_common_44 (by decide) rfl ?_
            refine Z.lload hX dX7_common_46 rfl ?_
            refine Z.lstore (lv' := [(6, .long (x - x / y * y)), (4, .long y), (8, .long (x - x / y * y))]) hX dX7_common_48 (by decide) rfl ?_
            refine Z.goto hX 28 dX7_common_50 (by decide) ?_
            refine Z.pick [1, 0] rfl ?_
            exact ih_28 _ _ (Nat.lt_of_lt_of_le (cg_dec (by assumption)) (Nat.le_of_lt_succ hm)) (cgI_s (by assumption) hi) (cgJ_s (by assumption) hj)
      refine Z.pick [1, 0] rfl ?_
      exact key_28 _ _ _ (Nat.lt_succ_self _) (by rw [hx1, hy1]; exact cgI_0 a b) (by rw [hx1, hy1]; exact cgJ_0 a b)
    refine Z.lload_n hX dX7_common_14 rfl rfl ?_
    refine Z.lconst (v := 0) hX dX7_common_15 rfl ?_
    refine Z.lcmp_ge hX 25 dX7_common_16 dX7_common_17 (by decide) ?_ ?_
    · intro c2
      refine Z.lload_n hX dX7_common_25 rfl rfl ?_
      refine Z.pick [0] rfl ?_
      exact key_26 _ (lab_pos (by assumption))
    · intro c2
      refine Z.lload_n hX dX7_common_20 rfl rfl ?_
      refine Z.lneg hX dX7_common_21 ?_
      refine Z.goto hX 26 dX7_common_22 (by decide) ?_
      refine Z.pick [0] rfl ?_
      exact key_26 _ (lab_neg (by assumption))
  refine Z.lload_n hX dX7_common_0 rfl rfl ?_
  refine Z.lconst (v := 0) hX dX7_common_1 rfl ?_
  refine Z.lcmp_ge hX 11 dX7_common_2 dX7_common_3 (by decide) ?_ ?_
  · intro c3
    refine Z.lload_n hX dX7_common_11 rfl rfl ?_
    refine Z.pick [0, 1] rfl ?_
    exact key_12 _ (lab_pos (by assumption))
  · intro c3
    refine Z.lload_n hX dX7_common_6 rfl rfl ?_
    refine Z.lneg hX dX7_common_7 ?_
    refine Z.goto hX 12 dX7_common_8 (by decide) ?_
    refine Z.pick [0, 1] rfl ?_
    exact key_12 _ (lab_neg (by assumption))

set_option maxHeartbeats 4000000 in
set_option maxRecDepth 100000 in
theorem ct_X7_reduce_x (l : Launch) (D : va_G) (ce : Nat → ClassId) (ad : Nat) (f : Nat → Int64)  : Ct l yX7_reduce cX7_reduce 5 none { frames := 1, cells := 0, slots := 0, locals := 29 } 0 0 D (TY ce) [.ref ad] ([(ad, .inl (ce 1, 5, .inr (.inl f)))]) (QV D (TY ce) (fun w1 => ∃ f2 : Nat → Int64, w1 = [(ad, .inl (ce 1, 5, .inr (.inl f2)))] ∧ (NPm f f2))) := by
  refine Ct.ofV (by decide) (Nat.le_of_ble_eq_true rfl) ?_
  intro p e s m args below meth c A Q hX hnm hR
  refine Z.pick (lv' := [(0, .ref ad)]) [0] rfl ?_
  refine Z.lconst (v := 0) hX dX7_reduce_0 rfl ?_
  refine Z.lstore_n (lv' := [(1, .long 0), (0, .ref ad)]) hX dX7_reduce_1 rfl (by decide) rfl ?_
  refine Z.iconst hX dX7_reduce_2 ?_
  refine Z.istore_n (lv' := [(3, .int (zI 0)), (1, .long 0), (0, .ref ad)]) hX dX7_reduce_3 rfl (by decide) rfl ?_
  have key_4 : ∀ (N : Nat), ∀ (k0 : Int) (x : Int64), (5 - k0).toNat < N → (hk : 0 ≤ k0 ∧ k0 ≤ 5) → (hx : CGr f k0.toNat x) → Z p l e { frames := 1, cells := 0, slots := 0, locals := 29 } s m args below meth c D A 5 0 0 Q 4 [(3, .int (zI k0)), (1, .long x), (0, .ref ad)] [] ([(ad, .inl (ce 1, 5, .inr (.inl f)))]) := by
    intro N
    induction N with
    | zero => intro k0 x hm; exact absurd hm (Nat.not_lt_zero _)
    | succ N ih_4 =>
      intro k0 x hm hk hx
      refine Z.iload_n hX dX7_reduce_4 rfl rfl ?_
      refine Z.iconst hX dX7_reduce_5 ?_
      refine Z.icmp_ge hX 23 dX7_reduce_6 (by decide) ⟨by omega, by omega⟩ ⟨by omega, by omega⟩ ?_ ?_
      · intro c1
        refine Z.aload_n hX dX7_reduce_23 rfl rfl ?_
        refine Z.callS1i (As := [.ref ad]) (rest := []) hX 0 rfl (ct_X7_degreeOf l D ce ad f ) mc_X7_degreeOf ml_X7_62 st_X7_degreeOf ini_X7 nd_X7_degreeOf ⟨Nat.le_of_ble_eq_true rfl, Nat.le_of_ble_eq_true rfl⟩ ⟨rfl, rfl⟩ ⟨Nat.le_refl _, Nat.le_refl _⟩ rfl (Nat.le_of_ble_eq_true rfl) dX7_reduce_24 ?_
        rintro r_2 w1 ⟨d, hr_, hw_, d1, d2, d3⟩
        subst hr_
        refine ⟨_, hw_, ?_⟩
        refine Z.toW (w' := [(ad, .inl (ce 1, 5, .inr (.inl f)))]) rfl ?_
        refine Z.istore_n (lv' := [(3, .int (zI d)), (1, .long x), (0, .ref ad)]) hX dX7_reduce_27 rfl (by decide) rfl ?_
        have key_43 : ∀ (y : Int64), (hsg : sgd f x y d) → Z p l e { frames := 1, cells := 0, slots := 0, locals := 29 } s m args below meth c D A 5 0 0 Q 43 [(1, .long y), (0, .ref ad)] [] ([(ad, .inl (ce 1, 5, .inr (.inl f)))]) := by
          intro y hsg
          refine Z.iconst hX dX7_reduce_43 ?_
          refine Z.istore (lv' := [(4, .int (zI 0)), (1, .long y), (0, .ref ad)]) hX dX7_reduce_44 (by decide) rfl ?_
          have key_46 : ∀ (N : Nat), ∀ (k : Int) (g : Nat → Int64), (5 - k).toNat < N → (hk2 : 0 ≤ k ∧ k ≤ 5) → (hq : ∀ j : Int, 0 ≤ j → j < 5 → g j.toNat = if j < k then f j.toNat / y else f j.toNat) → (hy0 : y = 0 → k = 0) → Z p l e { frames := 1, cells := 0, slots := 0, locals := 29 } s m args below meth c D A 5 0 0 Q 46 [(4, .int (zI k)), (1, .long y), (0, .ref ad)] [] ([(ad, .inl (ce 1, 5, .inr (.inl g)))]) := by
            intro N
            induction N with
            | zero => intro k g hm; exact absurd hm (Nat.not_lt_zero _)
            | succ N ih_46 =>
              intro k g hm hk2 hq hy0
              refine Z.iload hX dX7_reduce_46 rfl ?_
              refine Z.iconst hX dX7_reduce_48 ?_
              refine Z.icmp_ge hX 72 dX7_reduce_49 (by decide) ⟨by omega, by omega⟩ ⟨by omega, by omega⟩ ?_ ?_
              · intro c3
                exact hR _ _ _ dX7_reduce_72 ⟨g, rfl, (np_ref d1 d2 d3 (show CGr f 5 x from (show k0.toNat = 5 by omega) ▸ hx) hsg hq hy0 (by first | exact Or.inl (by omega) | exact Or.inr (by assumption)))⟩
              · intro c3
                refine Z.lload_n hX dX7_reduce_52 rfl rfl ?_
                refine Z.lconst (v := 0) hX dX7_reduce_53 rfl ?_
                refine Z.lcmp_eq hX 72 dX7_reduce_54 dX7_reduce_55 (by decide) ?_ ?_
                · intro c4
                  exact hR _ _ _ dX7_reduce_72 ⟨g, rfl, (np_ref d1 d2 d3 (show CGr f 5 x from (show k0.toNat = 5 by omega) ▸ hx) hsg hq hy0 (by first | exact Or.inl (by omega) | exact Or.inr (by assumption)))⟩
                · intro c4
                  refine Z.aload_n hX dX7_reduce_58 rfl rfl ?_
                  refine Z.iload hX dX7_reduce_59 rfl ?_
                  refine Z.dup2 hX dX7_reduce_61 rfl rfl ?_
                  refine Z.laload hX 0 1 dX7_reduce_62 rfl rfl (by omega) (by omega) (by decide) ?_
                  refine Z.lload_n hX dX7_reduce_63 rfl rfl ?_
                  refine Z.ldiv hX dX7_reduce_64 (by assumption) ?_
                  refine Z.lastore hX 0 1 dX7_reduce_65 rfl rfl (by omega) (by omega) (by decide) ?_
                  obtain ⟨f5, ef5⟩ : ∃ J' : Nat → Int64, J' = vp_updL (g) (k : Int).toNat ((g (k : Int).toNat) / y) := ⟨_, rfl⟩
                  refine Z.toW (w' := [(ad, .inl (ce 1, 5, .inr (.inl f5)))]) (by rw [ef5]; rfl) ?_
                  refine Z.iinc (lv' := [(4, .int (zI (k + 1))), (1, .long y), (0, .ref ad)]) hX dX7_reduce_66 rfl (by decide) rfl ?_
                  refine Z.goto hX 46 dX7_reduce_69 (by decide) ?_
                  refine Z.pick [0, 1, 2] rfl ?_
                  exact ih_46 _ _ (by omega) (by omega) (dv_s hk2.1 (by omega) ef5 hq) (fun q => absurd q (by assumption))
          refine Z.pick [0, 1, 2] rfl ?_
          exact key_46 _ _ _ (Nat.lt_succ_self _) (by omega) (fun j a b => (if_neg (by omega)).symm) (fun _ => rfl)
        refine Z.iload_n hX dX7_reduce_28 rfl rfl ?_
        refine Z.if_lt hX 43 dX7_reduce_29 (by decide) ⟨by omega, by omega⟩ ?_ ?_
        · intro c6
          refine Z.pick [1, 2] rfl ?_
          exact key_43 _ ⟨fun q => by omega, fun _ => rfl⟩
        · intro c6
          refine Z.aload_n hX dX7_reduce_32 rfl rfl ?_
          refine Z.iload_n hX dX7_reduce_33 rfl rfl ?_
          refine Z.laload hX 0 1 dX7_reduce_34 rfl rfl (by omega) (by omega) (by decide) ?_
          refine Z.lconst (v := 0) hX dX7_reduce_35 rfl ?_
          refine Z.lcmp_ge hX 43 dX7_reduce_36 dX7_reduce_37 (by decide) ?_ ?_
          · intro c7
            refine Z.pick [1, 2] rfl ?_
            exact key_43 _ ⟨fun _ => sgn_p (by assumption), fun q => by omega⟩
          · intro c7
            refine Z.lload_n hX dX7_reduce_40 rfl rfl ?_
            refine Z.lneg hX dX7_reduce_41 ?_
            refine Z.lstore_n (lv' := [(1, .long (-x)), (3, .int (zI d)), (0, .ref ad)]) hX dX7_reduce_42 rfl (by decide) rfl ?_
            refine Z.pick [0, 2] rfl ?_
            exact key_43 _ ⟨fun _ => sgn_n (by assumption), fun q => by omega⟩
      · intro c1
        refine Z.lload_n hX dX7_reduce_9 rfl rfl ?_
        refine Z.aload_n hX dX7_reduce_10 rfl rfl ?_
        refine Z.iload_n hX dX7_reduce_11 rfl rfl ?_
        refine Z.laload hX 0 1 dX7_reduce_12 rfl rfl (by omega) (by omega) (by decide) ?_
        refine Z.callS0l (As := [.long x, .long (f (k0 : Int).toNat)]) (rest := []) hX (ct_X7_common_x l D ce x (f (k0 : Int).toNat) ) mc_X7_common ml_X7_58 st_X7_common ini_X7 nd_X7_common ⟨Nat.le_of_ble_eq_true rfl, Nat.le_of_ble_eq_true rfl⟩ ⟨rfl, rfl⟩ ⟨Nat.le_refl _, Nat.le_refl _⟩ rfl (Nat.le_of_ble_eq_true rfl) dX7_reduce_13 ?_
        rintro r_8 w1 ⟨r09, hr_, hw_, hcg⟩
        subst hr_
        refine ⟨hw_, ?_⟩
        refine Z.lstore_n (lv' := [(1, .long r_8), (3, .int (zI k0)), (0, .ref ad)]) hX dX7_reduce_16 rfl (by decide) rfl ?_
        refine Z.iinc (lv' := [(3, .int (zI (k0 + 1))), (1, .long r_8), (0, .ref ad)]) hX dX7_reduce_17 rfl (by decide) rfl ?_
        refine Z.goto hX 4 dX7_reduce_20 (by decide) ?_
        refine Z.pick [0, 1, 2] rfl ?_
        exact ih_4 _ _ (by omega) (by omega) (CGr_s hk.1 hx hcg)
  refine Z.pick [0, 1, 2] rfl ?_
  exact key_4 _ _ _ (Nat.lt_succ_self _) (by omega) rfl

set_option maxHeartbeats 4000000 in
set_option maxRecDepth 100000 in
theorem ct_X7_divisor_x (l : Launch) (D : va_G) (ce : Nat → ClassId) (h : Nat → Nat) (F : Nat → Int) (I : Nat → Nat → Int32) (J : Nat → Nat → Int64) (X Y : Nat → Int64) (hX7 : bx 7 (ti X)) (hY7 : bx 7 (ti Y)) (hE : EQ2 (ti X) (ti Y) (ti (J 2)) p0) (b2_ : bd (J 2)) (h37 : bx 7 (ti (J 3))) (b3_ : bd (J 3)) : Ct l yX7_divisor cX7_divisor 8 none { frames := 2, cells := 0, slots := 0, locals := 53 } 0 0 D (TY ce) [.ref (h 0)] (rW ce h F I J) (QV D (TY ce) (fun w1 => ∃ J2 : Nat → Nat → Int64, w1 = rW ce h F I J2 ∧ (∀ k, k ≠ 2 → k ≠ 3 → J2 k = J k) ∧ (EQ2 (ti (J 2)) (ti (J 3)) (ti (J2 2)) p0) ∧ (Nm (ti (J2 2))) ∧ (bd (J2 2)))) := by
  refine Ct.ofV (by decide) (Nat.le_of_ble_eq_true rfl) ?_
  intro p e s m args below meth c A Q hX hnm hR
  refine Z.pick (lv' := [(0, .ref (h 0))]) [0] rfl ?_
  refine Z.aload_n hX dX7_divisor_0 rfl rfl ?_
  refine Z.getf hX 7 0 9 dX7_divisor_1 rfl rfl inX7 (by decide) fl_X7_30 rfl rfl ?_
  refine Z.callS1v (As := [.ref (h 7)]) (rest := []) hX 7 rfl (ct_X7_reduce_x l D ce ((h 7)) (J 2) ) mc_X7_reduce ml_X7_66 st_X7_reduce ini_X7 nd_X7_reduce ⟨Nat.le_of_ble_eq_true rfl, Nat.le_of_ble_eq_true rfl⟩ ⟨rfl, rfl⟩ ⟨Nat.le_refl _, Nat.le_refl _⟩ rfl (Nat.le_of_ble_eq_true rfl) dX7_divisor_4 ?_
  rintro w1 ⟨f22, hw_, r1⟩
  refine ⟨_, hw_, ?_⟩
  obtain ⟨J3, eJ3⟩ : ∃ J' : Nat → Nat → Int64, J' = va_up J 2 (f22) := ⟨_, rfl⟩
  refine Z.toW (w' := rW ce h F I J3) (by rw [eJ3]; rfl) ?_
  have gJ3 : J3 2 = f22 := by rw [eJ3]; exact up_eq
  have fJ3 : ∀ j_, j_ ≠ 2 → J3 j_ = J j_ := fun j_ hj_ => by rw [eJ3]; exact up_ne hj_
  refine Z.aload_n hX dX7_divisor_7 rfl rfl ?_
  refine Z.getf hX 7 0 10 dX7_divisor_8 rfl rfl inX7 (by decide) fl_X7_33 rfl rfl ?_
  refine Z.callS1v (As := [.ref (h 8)]) (rest := []) hX 8 rfl (ct_X7_reduce_x l D ce ((h 8)) (J3 3) ) mc_X7_reduce ml_X7_66 st_X7_reduce ini_X7 nd_X7_reduce ⟨Nat.le_of_ble_eq_true rfl, Nat.le_of_ble_eq_true rfl⟩ ⟨rfl, rfl⟩ ⟨Nat.le_refl _, Nat.le_refl _⟩ rfl (Nat.le_of_ble_eq_true rfl) dX7_divisor_11 ?_
  rintro w1 ⟨f25, hw_, r2⟩
  refine ⟨_, hw_, ?_⟩
  obtain ⟨J6, eJ6⟩ : ∃ J' : Nat → Nat → Int64, J' = va_up J3 3 (f25) := ⟨_, rfl⟩
  refine Z.toW (w' := rW ce h F I J6) (by rw [eJ6]; rfl) ?_
  have gJ6 : J6 3 = f25 := by rw [eJ6]; exact up_eq
  have fJ6 : ∀ j_, j_ ≠ 3 → J6 j_ = J3 j_ := fun j_ hj_ => by rw [eJ6]; exact up_ne hj_
  have iv0 : IV (J 2) (J 3) (J6 2) (J6 3) ∧ Nm (ti (J6 2)) ∧ Nm (ti (J6 3)) := by rw [gJ6, fJ6 2 (by decide), gJ3]; exact iv_red hX7 hY7 hE b2_ h37 b3_ r1 (by rw [fJ3 3 (by decide)] at r2; exact r2)
  have key_14 : ∀ (N : Nat), ∀ (t : Int) (M : Nat → Nat → Int64), (t + 1).toNat < N → (ht : -1 ≤ t ∧ t ≤ 4) → (hz : ∀ j : Int, t < j → j ≤ 4 → M 3 j.toNat = 0) → (hM : ∀ k, k ≠ 2 → k ≠ 3 → M k = J k) → (hv : IV (J 2) (J 3) (M 2) (M 3) ∧ Nm (ti (M 2)) ∧ Nm (ti (M 3))) → Z p l e { frames := 2, cells := 0, slots := 0, locals := 53 } s m args below meth c D A 8 0 0 Q 14 [(0, .ref (h 0))] [] (rW ce h F I M) := by
    intro N
    induction N with
    | zero => intro t M hm; exact absurd hm (Nat.not_lt_zero _)
    | succ N ih_14 =>
      intro t M hm ht hz hM hv
      refine Z.aload_n hX dX7_divisor_14 rfl rfl ?_
      refine Z.getf hX 7 0 10 dX7_divisor_15 rfl rfl inX7 (by decide) fl_X7_33 rfl rfl ?_
      refine Z.callS1i (As := [.ref (h 8)]) (rest := []) hX 8 rfl (ct_X7_degreeOf l D ce ((h 8)) (M 3) ) mc_X7_degreeOf ml_X7_62 st_X7_degreeOf ini_X7 nd_X7_degreeOf ⟨Nat.le_of_ble_eq_true rfl, Nat.le_of_ble_eq_true rfl⟩ ⟨rfl, rfl⟩ ⟨Nat.le_refl _, Nat.le_refl _⟩ rfl (Nat.le_of_ble_eq_true rfl) dX7_divisor_18 ?_
      rintro r_7 w1 ⟨z1, hr_, hw_, p1, p2, p3⟩
      subst hr_
      refine ⟨_, hw_, ?_⟩
      refine Z.toW (w' := rW ce h F I M) rfl ?_
      refine Z.if_lt hX 183 dX7_divisor_21 (by decide) ⟨by omega, by omega⟩ ?_ ?_
      · intro c8
        exact hR _ _ _ dX7_divisor_183 ⟨M, rfl, (fun j_ h_2 h_3 => (hM j_ h_2 h_3)), (iv_end hv.1 (by omega) p2), hv.2.1, hv.1.2.2.1⟩
      · intro c8
        refine Z.aload_n hX dX7_divisor_24 rfl rfl ?_
        refine Z.getf hX 7 0 10 dX7_divisor_25 rfl rfl inX7 (by decide) fl_X7_33 rfl rfl ?_
        refine Z.callS1i (As := [.ref (h 8)]) (rest := []) hX 8 rfl (ct_X7_degreeOf l D ce ((h 8)) (M 3) ) mc_X7_degreeOf ml_X7_62 st_X7_degreeOf ini_X7 nd_X7_degreeOf ⟨Nat.le_of_ble_eq_true rfl, Nat.le_of_ble_eq_true rfl⟩ ⟨rfl, rfl⟩ ⟨Nat.le_refl _, Nat.le_refl _⟩ rfl (Nat.le_of_ble_eq_true rfl) dX7_divisor_28 ?_
        rintro r_9 w1 ⟨d, hr_, hw_, d1, d2, d3⟩
        subst hr_
        refine ⟨_, hw_, ?_⟩
        refine Z.toW (w' := rW ce h F I M) rfl ?_
        have ed : z1 = d := dg_uq p1 p2 p3 d1 d2 d3
        refine Z.istore_n (lv' := [(1, .int (zI d)), (0, .ref (h 0))]) hX dX7_divisor_31 rfl (by decide) rfl ?_
        have key_32 : ∀ (N : Nat), ∀ (u : Int) (M1 : Nat → Nat → Int64), (u + 1).toNat < N → (hu0 : -1 ≤ u ∧ u ≤ 4) → (hu1 : ∀ j : Int, u < j → j ≤ 4 → M1 2 j.toNat = 0) → (h3 : M1 3 = M 3) → (hM1 : ∀ k, k ≠ 2 → k ≠ 3 → M1 k = J k) → (hv1 : IV (J 2) (J 3) (M1 2) (M1 3) ∧ Nm (ti (M1 2)) ∧ Nm (ti (M1 3))) → Z p l e { frames := 2, cells := 0, slots := 0, locals := 53 } s m args below meth c D A 8 0 0 Q 32 [(1, .int (zI d)), (0, .ref (h 0))] [] (rW ce h F I M1) := by
          intro N
          induction N with
          | zero => intro u M1 hm; exact absurd hm (Nat.not_lt_zero _)
          | succ N ih_32 =>
            intro u M1 hm hu0 hu1 h3 hM1 hv1
            refine Z.aload_n hX dX7_divisor_32 rfl rfl ?_
            refine Z.getf hX 7 0 9 dX7_divisor_33 rfl rfl inX7 (by decide) fl_X7_30 rfl rfl ?_
            refine Z.callS1i (As := [.ref (h 7)]) (rest := []) hX 7 rfl (ct_X7_degreeOf l D ce ((h 7)) (M1 2) ) mc_X7_degreeOf ml_X7_62 st_X7_degreeOf ini_X7 nd_X7_degreeOf ⟨Nat.le_of_ble_eq_true rfl, Nat.le_of_ble_eq_true rfl⟩ ⟨rfl, rfl⟩ ⟨Nat.le_refl _, Nat.le_refl _⟩ rfl (Nat.le_of_ble_eq_true rfl) dX7_divisor_36 ?_
            rintro r_10 w1 ⟨ea, hr_, hw_, a1, a2, a3⟩
            subst hr_
            refine ⟨_, hw_, ?_⟩
            refine Z.toW (w' := rW ce h F I M1) rfl ?_
            refine Z.iload_n hX dX7_divisor_39 rfl rfl ?_
            refine Z.icmp_lt hX 141 dX7_divisor_40 (by decide) ⟨by omega, by omega⟩ ⟨by omega, by omega⟩ ?_ ?_
            · intro c11
              refine Z.iconst hX dX7_divisor_141 ?_
              refine Z.istore_n (lv' := [(2, .int (zI 0)), (1, .int (zI d)), (0, .ref (h 0))]) hX dX7_divisor_142 rfl (by decide) rfl ?_
              have key_143 : ∀ (N : Nat), ∀ (k : Int) (M4 : Nat → Nat → Int64), (5 - k).toNat < N → (hk4 : 0 ≤ k ∧ k ≤ 5) → (hs0 : ∀ j : Int, k ≤ j → j ≤ 4 → M4 2 j.toNat = M1 2 j.toNat ∧ M4 3 j.toNat = M1 3 j.toNat) → (hs : ∀ j : Int, 0 ≤ j → j < k → M4 2 j.toNat = M1 3 j.toNat ∧ M4 3 j.toNat = M1 2 j.toNat) → (hM4 : ∀ k, k ≠ 2 → k ≠ 3 → M4 k = J k) → Z p l e { frames := 2, cells := 0, slots := 0, locals := 53 } s m args below meth c D A 8 0 0 Q 143 [(2, .int (zI k)), (0, .ref (h 0))] [] (rW ce h F I M4) := by
                intro N
                induction N with
                | zero => intro k M4 hm; exact absurd hm (Nat.not_lt_zero _)
                | succ N ih_143 =>
                  intro k M4 hm hk4 hs0 hs hM4
                  refine Z.iload_n hX dX7_divisor_143 rfl rfl ?_
                  refine Z.iconst hX dX7_divisor_144 ?_
                  refine Z.icmp_ge hX 180 dX7_divisor_145 (by decide) ⟨by omega, by omega⟩ ⟨by omega, by omega⟩ ?_ ?_
                  · intro c12
                    refine Z.goto hX 14 dX7_divisor_180 (by decide) ?_
                    refine Z.pick [1] rfl ?_
                    exact ih_14 (d - 1) _ (by have hdt : d ≤ t := dg_le d1 d3 hz (by omega); omega) (by omega) (fun j h1 h2 => by rw [(hs j (by omega) (by omega)).2]; exact a2 j (by omega) h2) (fun j_ h_2 h_3 => (hM4 j_ h_2 h_3)) (by obtain ⟨w1, w2, w3⟩ := iv_sw2 hv1.1 a1 a2 a3 d1 (by rw [h3]; exact d2) (by rw [h3]; exact d3) (by omega) (fun j a b => hs j a (by omega)); exact ⟨w1, by rw [w2]; exact hv1.2.2, by rw [w3]; exact hv1.2.1⟩)
                  · intro c12
                    refine Z.aload_n hX dX7_divisor_148 rfl rfl ?_
                    refine Z.getf hX 7 0 9 dX7_divisor_149 rfl rfl inX7 (by decide) fl_X7_30 rfl rfl ?_
                    refine Z.iload_n hX dX7_divisor_152 rfl rfl ?_
                    refine Z.laload hX 7 1 dX7_divisor_153 rfl rfl (by omega) (by omega) (by decide) ?_
                    refine Z.lstore_n (lv' := [(3, .long (M4 2 (k : Int).toNat)), (2, .int (zI k)), (0, .ref (h 0))]) hX dX7_divisor_154 rfl (by decide) rfl ?_
                    refine Z.aload_n hX dX7_divisor_155 rfl rfl ?_
                    refine Z.getf hX 7 0 9 dX7_divisor_156 rfl rfl inX7 (by decide) fl_X7_30 rfl rfl ?_
                    refine Z.iload_n hX dX7_divisor_159 rfl rfl ?_
                    refine Z.aload_n hX dX7_divisor_160 rfl rfl ?_
                    refine Z.getf hX 7 0 10 dX7_divisor_161 rfl rfl inX7 (by decide) fl_X7_33 rfl rfl ?_
                    refine Z.iload_n hX dX7_divisor_164 rfl rfl ?_
                    refine Z.laload hX 8 1 dX7_divisor_165 rfl rfl (by omega) (by omega) (by decide) ?_
                    refine Z.lastore hX 7 1 dX7_divisor_166 rfl rfl (by omega) (by omega) (by decide) ?_
                    obtain ⟨J13, eJ13⟩ : ∃ J' : Nat → Nat → Int64, J' = va_up M4 2 (vp_updL (M4 2) (k : Int).toNat (M4 3 (k : Int).toNat)) := ⟨_, rfl⟩
                    refine Z.toW (w' := rW ce h F I J13) (by rw [eJ13]; rfl) ?_
                    have gJ13 : J13 2 = vp_updL (M4 2) (k : Int).toNat (M4 3 (k : Int).toNat) := by rw [eJ13]; exact up_eq
                    have fJ13 : ∀ j_, j_ ≠ 2 → J13 j_ = M4 j_ := fun j_ hj_ => by rw [eJ13]; exact up_ne hj_
                    refine Z.aload_n hX dX7_divisor_167 rfl rfl ?_
                    refine Z.getf hX 7 0 10 dX7_divisor_168 rfl rfl inX7 (by decide) fl_X7_33 rfl rfl ?_
                    refine Z.iload_n hX dX7_divisor_171 rfl rfl ?_
                    refine Z.lload_n hX dX7_divisor_172 rfl rfl ?_
                    refine Z.lastore hX 8 1 dX7_divisor_173 rfl rfl (by omega) (by omega) (by decide) ?_
                    obtain ⟨J14, eJ14⟩ : ∃ J' : Nat → Nat → Int64, J' = va_up J13 3 (vp_updL (J13 3) (k : Int).toNat (M4 2 (k : Int).toNat)) := ⟨_, rfl⟩
                    refine Z.toW (w' := rW ce h F I J14) (by rw [eJ14]; rfl) ?_
                    have gJ14 : J14 3 = vp_updL (J13 3) (k : Int).toNat (M4 2 (k : Int).toNat) := by rw [eJ14]; exact up_eq
                    have fJ14 : ∀ j_, j_ ≠ 3 → J14 j_ = J13 j_ := fun j_ hj_ => by rw [eJ14]; exact up_ne hj_
                    refine Z.iinc (lv' := [(2, .int (zI (k + 1))), (3, .long (M4 2 (k : Int).toNat)), (0, .ref (h 0))]) hX dX7_divisor_174 rfl (by decide) rfl ?_
                    refine Z.goto hX 143 dX7_divisor_177 (by decide) ?_
                    refine Z.pick [0, 2] rfl ?_
                    exact ih_143 _ _ (by omega) (by omega) (dv_sw hk4.1 ((fJ14 2 (by decide)).trans gJ13) (by rw [gJ14, fJ13 3 (by decide)]) (by omega) hs0 hs).1 (dv_sw hk4.1 ((fJ14 2 (by decide)).trans gJ13) (by rw [gJ14, fJ13 3 (by decide)]) (by omega) hs0 hs).2 (fun j_ h_2 h_3 => ((fJ14 j_ h_3).trans ((fJ13 j_ h_2).trans (hM4 j_ h_2 h_3))))
              refine Z.pick [0, 2] rfl ?_
              exact key_143 _ _ _ (Nat.lt_succ_self _) (by omega) (fun j _ _ => ⟨rfl, rfl⟩) (fun j h1 h2 => by omega) (fun j_ h_2 h_3 => (hM1 j_ h_2 h_3))
            · intro c11
              refine Z.aload_n hX dX7_divisor_43 rfl rfl ?_
              refine Z.getf hX 7 0 9 dX7_divisor_44 rfl rfl inX7 (by decide) fl_X7_30 rfl rfl ?_
              refine Z.callS1i (As := [.ref (h 7)]) (rest := []) hX 7 rfl (ct_X7_degreeOf l D ce ((h 7)) (M1 2) ) mc_X7_degreeOf ml_X7_62 st_X7_degreeOf ini_X7 nd_X7_degreeOf ⟨Nat.le_of_ble_eq_true rfl, Nat.le_of_ble_eq_true rfl⟩ ⟨rfl, rfl⟩ ⟨Nat.le_refl _, Nat.le_refl _⟩ rfl (Nat.le_of_ble_eq_true rfl) dX7_divisor_47 ?_
              rintro r_15 w1 ⟨e0, hr_, hw_, e1, e2, e3⟩
              subst hr_
              refine ⟨_, hw_, ?_⟩
              refine Z.toW (w' := rW ce h F I M1) rfl ?_
              have ee : ea = e0 := dg_uq a1 a2 a3 e1 e2 e3
              refine Z.istore_n (lv' := [(2, .int (zI e0)), (1, .int (zI d)), (0, .ref (h 0))]) hX dX7_divisor_50 rfl (by decide) rfl ?_
              refine Z.aload_n hX dX7_divisor_51 rfl rfl ?_
              refine Z.getf hX 7 0 9 dX7_divisor_52 rfl rfl inX7 (by decide) fl_X7_30 rfl rfl ?_
              refine Z.iload_n hX dX7_divisor_55 rfl rfl ?_
              refine Z.laload hX 7 1 dX7_divisor_56 rfl rfl (by omega) (by omega) (by decide) ?_
              refine Z.lstore_n (lv' := [(3, .long (M1 2 (e0 : Int).toNat)), (2, .int (zI e0)), (1, .int (zI d)), (0, .ref (h 0))]) hX dX7_divisor_57 rfl (by decide) rfl ?_
              refine Z.aload_n hX dX7_divisor_58 rfl rfl ?_
              refine Z.getf hX 7 0 10 dX7_divisor_59 rfl rfl inX7 (by decide) fl_X7_33 rfl rfl ?_
              refine Z.iload_n hX dX7_divisor_62 rfl rfl ?_
              refine Z.laload hX 8 1 dX7_divisor_63 rfl rfl (by omega) (by omega) (by decide) ?_
              refine Z.lstore (lv' := [(5, .long (M1 3 (d : Int).toNat)), (3, .long (M1 2 (e0 : Int).toNat)), (2, .int (zI e0)), (1, .int (zI d)), (0, .ref (h 0))]) hX dX7_divisor_64 (by decide) rfl ?_
              refine Z.iconst hX dX7_divisor_66 ?_
              refine Z.istore (lv' := [(7, .int (zI 0)), (5, .long (M1 3 (d : Int).toNat)), (3, .long (M1 2 (e0 : Int).toNat)), (2, .int (zI e0)), (1, .int (zI d)), (0, .ref (h 0))]) hX dX7_divisor_67 (by decide) rfl ?_
              have key_69 : ∀ (N : Nat), ∀ (k : Int) (M2 : Nat → Nat → Int64), (5 - k).toNat < N → (hk : 0 ≤ k ∧ k ≤ 5) → (hp : ∀ j : Int, 0 ≤ j → j ≤ 4 → M2 2 j.toNat = if j < k then M1 2 j.toNat * (M1 3 (d).toNat) else M1 2 j.toNat) → (h32 : M2 3 = M1 3) → (hM2 : ∀ k, k ≠ 2 → k ≠ 3 → M2 k = J k) → Z p l e { frames := 2, cells := 0, slots := 0, locals := 53 } s m args below meth c D A 8 0 0 Q 69 [(7, .int (zI k)), (5, .long (M1 3 (d).toNat)), (3, .long (M1 2 (e0).toNat)), (2, .int (zI e0)), (1, .int (zI d)), (0, .ref (h 0))] [] (rW ce h F I M2) := by
                intro N
                induction N with
                | zero => intro k M2 hm; exact absurd hm (Nat.not_lt_zero _)
                | succ N ih_69 =>
                  intro k M2 hm hk hp h32 hM2
                  refine Z.iload hX dX7_divisor_69 rfl ?_
                  refine Z.iconst hX dX7_divisor_71 ?_
                  refine Z.icmp_ge hX 93 dX7_divisor_72 (by decide) ⟨by omega, by omega⟩ ⟨by omega, by omega⟩ ?_ ?_
                  · intro c16
                    refine Z.iconst hX dX7_divisor_93 ?_
                    refine Z.istore (lv' := [(7, .int (zI 0)), (5, .long (M1 3 (d).toNat)), (3, .long (M1 2 (e0).toNat)), (2, .int (zI e0)), (1, .int (zI d)), (0, .ref (h 0))]) hX dX7_divisor_94 (by decide) rfl ?_
                    have key_96 : ∀ (N : Nat), ∀ (k : Int) (M3 : Nat → Nat → Int64), (d + 1 - k).toNat < N → (hk3 : 0 ≤ k ∧ k ≤ d + 1) → (hx3 : ∀ j : Int, 0 ≤ j → j < 5 → M3 2 j.toNat = rfV (M1 2) (M1 3) e0 d k j) → (h33 : M3 3 = M1 3) → (hM3 : ∀ k, k ≠ 2 → k ≠ 3 → M3 k = J k) → Z p l e { frames := 2, cells := 0, slots := 0, locals := 53 } s m args below meth c D A 8 0 0 Q 96 [(7, .int (zI k)), (3, .long (M1 2 (e0).toNat)), (2, .int (zI e0)), (1, .int (zI d)), (0, .ref (h 0))] [] (rW ce h F I M3) := by
                      intro N
                      induction N with
                      | zero => intro k M3 hm; exact absurd hm (Nat.not_lt_zero _)
                      | succ N ih_96 =>
                        intro k M3 hm hk3 hx3 h33 hM3
                        refine Z.iload hX dX7_divisor_96 rfl ?_
                        refine Z.iload_n hX dX7_divisor_98 rfl rfl ?_
                        refine Z.icmp_gt hX 131 dX7_divisor_99 (by decide) ⟨by omega, by omega⟩ ⟨by omega, by omega⟩ ?_ ?_
                        · intro c17
                          refine Z.aload_n hX dX7_divisor_131 rfl rfl ?_
                          refine Z.getf hX 7 0 9 dX7_divisor_132 rfl rfl inX7 (by decide) fl_X7_30 rfl rfl ?_
                          refine Z.callS1v (As := [.ref (h 7)]) (rest := []) hX 7 rfl (ct_X7_reduce_x l D ce ((h 7)) (M3 2) ) mc_X7_reduce ml_X7_66 st_X7_reduce ini_X7 nd_X7_reduce ⟨Nat.le_of_ble_eq_true rfl, Nat.le_of_ble_eq_true rfl⟩ ⟨rfl, rfl⟩ ⟨Nat.le_refl _, Nat.le_refl _⟩ rfl (Nat.le_of_ble_eq_true rfl) dX7_divisor_135 ?_
                          rintro w1 ⟨fr, hw_, hfr⟩
                          refine ⟨_, hw_, ?_⟩
                          obtain ⟨J19, eJ19⟩ : ∃ J' : Nat → Nat → Int64, J' = va_up M3 2 (fr) := ⟨_, rfl⟩
                          refine Z.toW (w' := rW ce h F I J19) (by rw [eJ19]; rfl) ?_
                          have gJ19 : J19 2 = fr := by rw [eJ19]; exact up_eq
                          have fJ19 : ∀ j_, j_ ≠ 2 → J19 j_ = M3 j_ := fun j_ hj_ => by rw [eJ19]; exact up_ne hj_
                          have e3_ : J19 3 = M1 3 := (fJ19 3 (by decide)).trans h33
                          obtain ⟨iv1, iv2, iv3⟩ := iv_ref hv1.1 e1 e2 e3 d1 (by rw [h3]; exact d2) (by rw [h3]; exact d3) (by omega) (by omega) (fun j a b => by rw [hx3 j a b, show k = d + 1 by omega]) hfr
                          refine Z.goto hX 32 dX7_divisor_138 (by decide) ?_
                          refine Z.pick [3, 4] rfl ?_
                          exact ih_32 (e0 - 1) _ (by have hdu : e0 ≤ u := dg_le e1 e3 hu1 (by omega); omega) (by omega) (fun j h1 h2 => by rw [gJ19]; exact iv3 j h1 h2) (e3_.trans h3) (fun j_ h_2 h_3 => ((fJ19 j_ h_2).trans (hM3 j_ h_2 h_3))) (by rw [gJ19, e3_]; exact ⟨iv1, iv2, hv1.2.2⟩)
                        · intro c17
                          refine Z.aload_n hX dX7_divisor_102 rfl rfl ?_
                          refine Z.getf hX 7 0 9 dX7_divisor_103 rfl rfl inX7 (by decide) fl_X7_30 rfl rfl ?_
                          refine Z.iload_n hX dX7_divisor_106 rfl rfl ?_
                          refine Z.iload_n hX dX7_divisor_107 rfl rfl ?_
                          refine Z.isub hX dX7_divisor_108 ?_
                          refine Z.iload hX dX7_divisor_109 rfl ?_
                          refine Z.iadd hX dX7_divisor_111 ?_
                          refine Z.dup2 hX dX7_divisor_112 rfl rfl ?_
                          refine Z.laload hX 7 1 dX7_divisor_113 rfl rfl (by omega) (by omega) (by decide) ?_
                          refine Z.lload_n hX dX7_divisor_114 rfl rfl ?_
                          refine Z.aload_n hX dX7_divisor_115 rfl rfl ?_
                          refine Z.getf hX 7 0 10 dX7_divisor_116 rfl rfl inX7 (by decide) fl_X7_33 rfl rfl ?_
                          refine Z.iload hX dX7_divisor_119 rfl ?_
                          refine Z.laload hX 8 1 dX7_divisor_121 rfl rfl (by omega) (by omega) (by decide) ?_
                          refine Z.lmul hX dX7_divisor_122 ?_
                          refine Z.lsub hX dX7_divisor_123 ?_
                          refine Z.lastore hX 7 1 dX7_divisor_124 rfl rfl (by omega) (by omega) (by decide) ?_
                          obtain ⟨J20, eJ20⟩ : ∃ J' : Nat → Nat → Int64, J' = va_up M3 2 (vp_updL (M3 2) ((e0 - d) + k : Int).toNat ((M3 2 ((e0 - d) + k : Int).toNat) - ((M1 2 (e0).toNat) * (M3 3 (k : Int).toNat)))) := ⟨_, rfl⟩
                          refine Z.toW (w' := rW ce h F I J20) (by rw [eJ20]; rfl) ?_
                          have gJ20 : J20 2 = vp_updL (M3 2) ((e0 - d) + k : Int).toNat ((M3 2 ((e0 - d) + k : Int).toNat) - ((M1 2 (e0).toNat) * (M3 3 (k : Int).toNat))) := by rw [eJ20]; exact up_eq
                          have fJ20 : ∀ j_, j_ ≠ 2 → J20 j_ = M3 j_ := fun j_ hj_ => by rw [eJ20]; exact up_ne hj_
                          refine Z.iinc (lv' := [(7, .int (zI (k + 1))), (3, .long (M1 2 (e0).toNat)), (2, .int (zI e0)), (1, .int (zI d)), (0, .ref (h 0))]) hX dX7_divisor_125 rfl (by decide) rfl ?_
                          refine Z.goto hX 96 dX7_divisor_128 (by decide) ?_
                          refine Z.pick [0, 1, 2, 3, 4] rfl ?_
                          exact ih_96 _ _ (by omega) (by omega) (rsub_s (by omega) (by omega) (by omega) (by omega) (by omega) (by rw [gJ20, h33]) hx3) ((fJ20 3 (by decide)).trans h33) (fun j_ h_2 h_3 => ((fJ20 j_ h_2).trans (hM3 j_ h_2 h_3)))
                    refine Z.pick [0, 2, 3, 4, 5] rfl ?_
                    exact key_96 _ _ _ (Nat.lt_succ_self _) (by omega) (rsub_0 (fun j a b => by rw [hp j a b, show k = 5 by omega])) h32 (fun j_ h_2 h_3 => (hM2 j_ h_2 h_3))
                  · intro c16
                    refine Z.aload_n hX dX7_divisor_75 rfl rfl ?_
                    refine Z.getf hX 7 0 9 dX7_divisor_76 rfl rfl inX7 (by decide) fl_X7_30 rfl rfl ?_
                    refine Z.iload hX dX7_divisor_79 rfl ?_
                    refine Z.dup2 hX dX7_divisor_81 rfl rfl ?_
                    refine Z.laload hX 7 1 dX7_divisor_82 rfl rfl (by omega) (by omega) (by decide) ?_
                    refine Z.lload hX dX7_divisor_83 rfl ?_
                    refine Z.lmul hX dX7_divisor_85 ?_
                    refine Z.lastore hX 7 1 dX7_divisor_86 rfl rfl (by omega) (by omega) (by decide) ?_
                    obtain ⟨J21, eJ21⟩ : ∃ J' : Nat → Nat → Int64, J' = va_up M2 2 (vp_updL (M2 2) (k : Int).toNat ((M2 2 (k : Int).toNat) * (M1 3 (d).toNat))) := ⟨_, rfl⟩
                    refine Z.toW (w' := rW ce h F I J21) (by rw [eJ21]; rfl) ?_
                    have gJ21 : J21 2 = vp_updL (M2 2) (k : Int).toNat ((M2 2 (k : Int).toNat) * (M1 3 (d).toNat)) := by rw [eJ21]; exact up_eq
                    have fJ21 : ∀ j_, j_ ≠ 2 → J21 j_ = M2 j_ := fun j_ hj_ => by rw [eJ21]; exact up_ne hj_
                    refine Z.iinc (lv' := [(7, .int (zI (k + 1))), (5, .long (M1 3 (d).toNat)), (3, .long (M1 2 (e0).toNat)), (2, .int (zI e0)), (1, .int (zI d)), (0, .ref (h 0))]) hX dX7_divisor_87 rfl (by decide) rfl ?_
                    refine Z.goto hX 69 dX7_divisor_90 (by decide) ?_
                    refine Z.pick [0, 1, 2, 3, 4, 5] rfl ?_
                    exact ih_69 _ _ (by omega) (by omega) (dv_mul hk.1 gJ21 hp) ((fJ21 3 (by decide)).trans h32) (fun j_ h_2 h_3 => ((fJ21 j_ h_2).trans (hM2 j_ h_2 h_3)))
              refine Z.pick [0, 1, 2, 3, 4, 5] rfl ?_
              exact key_69 _ _ _ (Nat.lt_succ_self _) (by omega) (fun j h1 h2 => (if_neg (by omega)).symm) rfl (fun j_ h_2 h_3 => (hM1 j_ h_2 h_3))
        refine Z.pick [0, 1] rfl ?_
        exact key_32 _ 4 _ (Nat.lt_succ_self _) (by omega) (fun j h1 h2 => by omega) rfl (fun j_ h_2 h_3 => (hM j_ h_2 h_3)) hv
  refine Z.pick [0] rfl ?_
  exact key_14 _ 4 _ (Nat.lt_succ_self _) (by omega) (fun j h1 h2 => by omega) (fun j_ h_2 h_3 => ((fJ6 j_ h_3).trans ((fJ3 j_ h_2).trans rfl))) iv0
end
