section
-- ===== PART A: goes FIRST, ahead of the names: the tables' words, and 'selects' of the private methods out of them =====
/-- a private method of a class that the tables say can be made, by its rows of tables_1 -/
def lw_okq (q : MethodName × Nat) : Prop := (q.1.cls ≠ "java/lang/invoke/MethodHandle" ∧ q.1.cls ≠ "java/lang/invoke/VarHandle") ∧ Cond.instantiable q.1.cls q.2 ∈ tables_1 ∧ Cond.privateMethod q.1 ∈ tables_1 ∧ Cond.instanceMethod q.1 ∈ tables_1
theorem lw_p0 : lw_okq (⟨"EliminateLoci", "forget", "()V"⟩, 9) := ⟨⟨by decide +kernel, by decide +kernel⟩, List.mem_of_getElem? (i := 14) (by decide +kernel), List.mem_of_getElem? (i := 181) (by decide +kernel), List.mem_of_getElem? (i := 182) (by decide +kernel)⟩
theorem lw_p1 : lw_okq (⟨"EliminateLoci", "freeRow", "()LEliminateLoci$Row;"⟩, 9) := ⟨⟨by decide +kernel, by decide +kernel⟩, List.mem_of_getElem? (i := 14) (by decide +kernel), List.mem_of_getElem? (i := 201) (by decide +kernel), List.mem_of_getElem? (i := 202) (by decide +kernel)⟩
theorem lw_p2 : lw_okq (⟨"EliminateLoci$Divisor", "shareWithOther", "()V"⟩, 3) := ⟨⟨by decide +kernel, by decide +kernel⟩, List.mem_of_getElem? (i := 38) (by decide +kernel), List.mem_of_getElem? (i := 215) (by decide +kernel), List.mem_of_getElem? (i := 216) (by decide +kernel)⟩
theorem lw_p3 : lw_okq (⟨"EliminateLoci$Divisor", "swap", "()V"⟩, 3) := ⟨⟨by decide +kernel, by decide +kernel⟩, List.mem_of_getElem? (i := 38) (by decide +kernel), List.mem_of_getElem? (i := 222) (by decide +kernel), List.mem_of_getElem? (i := 223) (by decide +kernel)⟩
theorem lw_p4 : lw_okq (⟨"EliminateLoci$Divisor", "lowerShared", "(II)V"⟩, 3) := ⟨⟨by decide +kernel, by decide +kernel⟩, List.mem_of_getElem? (i := 38) (by decide +kernel), List.mem_of_getElem? (i := 226) (by decide +kernel), List.mem_of_getElem? (i := 227) (by decide +kernel)⟩
theorem lw_p5 : lw_okq (⟨"EliminateLoci$Divisor", "makePrimitive", "([J)V"⟩, 3) := ⟨⟨by decide +kernel, by decide +kernel⟩, List.mem_of_getElem? (i := 38) (by decide +kernel), List.mem_of_getElem? (i := 233) (by decide +kernel), List.mem_of_getElem? (i := 234) (by decide +kernel)⟩
theorem lw_p6 : lw_okq (⟨"EliminateLoci$Divisor", "divideByShared", "([J)V"⟩, 3) := ⟨⟨by decide +kernel, by decide +kernel⟩, List.mem_of_getElem? (i := 38) (by decide +kernel), List.mem_of_getElem? (i := 237) (by decide +kernel), List.mem_of_getElem? (i := 238) (by decide +kernel)⟩
theorem lw_p7 : lw_okq (⟨"EliminateLoci", "moveTo", "(II)V"⟩, 9) := ⟨⟨by decide +kernel, by decide +kernel⟩, List.mem_of_getElem? (i := 14) (by decide +kernel), List.mem_of_getElem? (i := 253) (by decide +kernel), List.mem_of_getElem? (i := 254) (by decide +kernel)⟩
theorem lw_p8 : lw_okq (⟨"EliminateLoci", "curveOf", "(I)LEliminateLoci$Curve;"⟩, 9) := ⟨⟨by decide +kernel, by decide +kernel⟩, List.mem_of_getElem? (i := 14) (by decide +kernel), List.mem_of_getElem? (i := 268) (by decide +kernel), List.mem_of_getElem? (i := 269) (by decide +kernel)⟩
theorem lw_p9 : lw_okq (⟨"EliminateLoci$Eliminant", "fillEntry", "(III)V"⟩, 4) := ⟨⟨by decide +kernel, by decide +kernel⟩, List.mem_of_getElem? (i := 54) (by decide +kernel), List.mem_of_getElem? (i := 305) (by decide +kernel), List.mem_of_getElem? (i := 306) (by decide +kernel)⟩
theorem lw_p10 : lw_okq (⟨"EliminateLoci$Eliminant", "fillMinor", "(II)V"⟩, 4) := ⟨⟨by decide +kernel, by decide +kernel⟩, List.mem_of_getElem? (i := 54) (by decide +kernel), List.mem_of_getElem? (i := 326) (by decide +kernel), List.mem_of_getElem? (i := 327) (by decide +kernel)⟩
theorem lw_p11 : lw_okq (⟨"EliminateLoci$RootFinder", "startRoot", "(I)Z"⟩, 4) := ⟨⟨by decide +kernel, by decide +kernel⟩, List.mem_of_getElem? (i := 92) (by decide +kernel), List.mem_of_getElem? (i := 351) (by decide +kernel), List.mem_of_getElem? (i := 352) (by decide +kernel)⟩
theorem lw_p12 : lw_okq (⟨"EliminateLoci$RootFinder", "completeRoot", "(I)Z"⟩, 4) := ⟨⟨by decide +kernel, by decide +kernel⟩, List.mem_of_getElem? (i := 92) (by decide +kernel), List.mem_of_getElem? (i := 365) (by decide +kernel), List.mem_of_getElem? (i := 366) (by decide +kernel)⟩
theorem lw_p13 : lw_okq (⟨"EliminateLoci$RootFinder", "raiseRoot", "(I)V"⟩, 4) := ⟨⟨by decide +kernel, by decide +kernel⟩, List.mem_of_getElem? (i := 92) (by decide +kernel), List.mem_of_getElem? (i := 376) (by decide +kernel), List.mem_of_getElem? (i := 377) (by decide +kernel)⟩
theorem lw_p14 : lw_okq (⟨"EliminateLoci", "slopeByU", "(IIII)J"⟩, 9) := ⟨⟨by decide +kernel, by decide +kernel⟩, List.mem_of_getElem? (i := 14) (by decide +kernel), List.mem_of_getElem? (i := 418) (by decide +kernel), List.mem_of_getElem? (i := 419) (by decide +kernel)⟩
theorem lw_p15 : lw_okq (⟨"EliminateLoci", "slopeByV", "(IIII)J"⟩, 9) := ⟨⟨by decide +kernel, by decide +kernel⟩, List.mem_of_getElem? (i := 14) (by decide +kernel), List.mem_of_getElem? (i := 422) (by decide +kernel), List.mem_of_getElem? (i := 423) (by decide +kernel)⟩
def lw_privs_1 : List (MethodName × Nat) := [(⟨"EliminateLoci", "forget", "()V"⟩, 9), (⟨"EliminateLoci", "freeRow", "()LEliminateLoci$Row;"⟩, 9), (⟨"EliminateLoci$Divisor", "shareWithOther", "()V"⟩, 3), (⟨"EliminateLoci$Divisor", "swap", "()V"⟩, 3), (⟨"EliminateLoci$Divisor", "lowerShared", "(II)V"⟩, 3), (⟨"EliminateLoci$Divisor", "makePrimitive", "([J)V"⟩, 3), (⟨"EliminateLoci$Divisor", "divideByShared", "([J)V"⟩, 3), (⟨"EliminateLoci", "moveTo", "(II)V"⟩, 9), (⟨"EliminateLoci", "curveOf", "(I)LEliminateLoci$Curve;"⟩, 9), (⟨"EliminateLoci$Eliminant", "fillEntry", "(III)V"⟩, 4), (⟨"EliminateLoci$Eliminant", "fillMinor", "(II)V"⟩, 4), (⟨"EliminateLoci$RootFinder", "startRoot", "(I)Z"⟩, 4), (⟨"EliminateLoci$RootFinder", "completeRoot", "(I)Z"⟩, 4), (⟨"EliminateLoci$RootFinder", "raiseRoot", "(I)V"⟩, 4), (⟨"EliminateLoci", "slopeByU", "(IIII)J"⟩, 9), (⟨"EliminateLoci", "slopeByV", "(IIII)J"⟩, 9)]
theorem lw_r1 : ∀ q ∈ lw_privs_1, lw_okq q := List.forall_mem_cons.mpr ⟨lw_p0, List.forall_mem_cons.mpr ⟨lw_p1, List.forall_mem_cons.mpr ⟨lw_p2, List.forall_mem_cons.mpr ⟨lw_p3, List.forall_mem_cons.mpr ⟨lw_p4, List.forall_mem_cons.mpr ⟨lw_p5, List.forall_mem_cons.mpr ⟨lw_p6, List.forall_mem_cons.mpr ⟨lw_p7, List.forall_mem_cons.mpr ⟨lw_p8, List.forall_mem_cons.mpr ⟨lw_p9, List.forall_mem_cons.mpr ⟨lw_p10, List.forall_mem_cons.mpr ⟨lw_p11, List.forall_mem_cons.mpr ⟨lw_p12, List.forall_mem_cons.mpr ⟨lw_p13, List.forall_mem_cons.mpr ⟨lw_p14, List.forall_mem_cons.mpr ⟨lw_p15, fun _ h => absurd h List.not_mem_nil⟩⟩⟩⟩⟩⟩⟩⟩⟩⟩⟩⟩⟩⟩⟩⟩
theorem lw_p16 : lw_okq (⟨"EliminateLociModel", "work", "()V"⟩, 17) := ⟨⟨by decide +kernel, by decide +kernel⟩, List.mem_of_getElem? (i := 426) (by decide +kernel), List.mem_of_getElem? (i := 498) (by decide +kernel), List.mem_of_getElem? (i := 499) (by decide +kernel)⟩
theorem lw_p17 : lw_okq (⟨"EliminateLociModel", "divisor", "()V"⟩, 17) := ⟨⟨by decide +kernel, by decide +kernel⟩, List.mem_of_getElem? (i := 426) (by decide +kernel), List.mem_of_getElem? (i := 502) (by decide +kernel), List.mem_of_getElem? (i := 503) (by decide +kernel)⟩
theorem lw_p18 : lw_okq (⟨"EliminateLociModel", "locus", "()V"⟩, 17) := ⟨⟨by decide +kernel, by decide +kernel⟩, List.mem_of_getElem? (i := 426) (by decide +kernel), List.mem_of_getElem? (i := 515) (by decide +kernel), List.mem_of_getElem? (i := 516) (by decide +kernel)⟩
theorem lw_p19 : lw_okq (⟨"EliminateLociModel", "emptied", "()V"⟩, 17) := ⟨⟨by decide +kernel, by decide +kernel⟩, List.mem_of_getElem? (i := 426) (by decide +kernel), List.mem_of_getElem? (i := 519) (by decide +kernel), List.mem_of_getElem? (i := 520) (by decide +kernel)⟩
theorem lw_p20 : lw_okq (⟨"EliminateLociModel", "entry", "(IIJJJ)V"⟩, 17) := ⟨⟨by decide +kernel, by decide +kernel⟩, List.mem_of_getElem? (i := 426) (by decide +kernel), List.mem_of_getElem? (i := 523) (by decide +kernel), List.mem_of_getElem? (i := 524) (by decide +kernel)⟩
theorem lw_p21 : lw_okq (⟨"EliminateLociModel", "minorsOf", "(I)V"⟩, 17) := ⟨⟨by decide +kernel, by decide +kernel⟩, List.mem_of_getElem? (i := 426) (by decide +kernel), List.mem_of_getElem? (i := 527) (by decide +kernel), List.mem_of_getElem? (i := 528) (by decide +kernel)⟩
theorem lw_p22 : lw_okq (⟨"EliminateLociModel", "tell", "(II)V"⟩, 17) := ⟨⟨by decide +kernel, by decide +kernel⟩, List.mem_of_getElem? (i := 426) (by decide +kernel), List.mem_of_getElem? (i := 534) (by decide +kernel), List.mem_of_getElem? (i := 535) (by decide +kernel)⟩
theorem lw_p23 : lw_okq (⟨"EliminateLociModel", "isPower", "(II)Z"⟩, 17) := ⟨⟨by decide +kernel, by decide +kernel⟩, List.mem_of_getElem? (i := 426) (by decide +kernel), List.mem_of_getElem? (i := 544) (by decide +kernel), List.mem_of_getElem? (i := 545) (by decide +kernel)⟩
theorem lw_p24 : lw_okq (⟨"EliminateLociModel", "raise", "(I)V"⟩, 17) := ⟨⟨by decide +kernel, by decide +kernel⟩, List.mem_of_getElem? (i := 426) (by decide +kernel), List.mem_of_getElem? (i := 556) (by decide +kernel), List.mem_of_getElem? (i := 557) (by decide +kernel)⟩
theorem lw_p25 : lw_okq (⟨"EliminateLociModel", "envelope", "()V"⟩, 17) := ⟨⟨by decide +kernel, by decide +kernel⟩, List.mem_of_getElem? (i := 426) (by decide +kernel), List.mem_of_getElem? (i := 560) (by decide +kernel), List.mem_of_getElem? (i := 561) (by decide +kernel)⟩
theorem lw_p26 : lw_okq (⟨"EliminateLociModel", "valueOf", "(III)J"⟩, 17) := ⟨⟨by decide +kernel, by decide +kernel⟩, List.mem_of_getElem? (i := 426) (by decide +kernel), List.mem_of_getElem? (i := 576) (by decide +kernel), List.mem_of_getElem? (i := 577) (by decide +kernel)⟩
theorem lw_p27 : lw_okq (⟨"EliminateLociModel", "isOn", "(IJJJ)I"⟩, 17) := ⟨⟨by decide +kernel, by decide +kernel⟩, List.mem_of_getElem? (i := 426) (by decide +kernel), List.mem_of_getElem? (i := 614) (by decide +kernel), List.mem_of_getElem? (i := 615) (by decide +kernel)⟩
theorem lw_p28 : lw_okq (⟨"EliminateLociModel", "traced", "(IJJJJ)J"⟩, 17) := ⟨⟨by decide +kernel, by decide +kernel⟩, List.mem_of_getElem? (i := 426) (by decide +kernel), List.mem_of_getElem? (i := 619) (by decide +kernel), List.mem_of_getElem? (i := 620) (by decide +kernel)⟩
theorem lw_p29 : lw_okq (⟨"EliminateLociModel", "slope", "(IIII)J"⟩, 17) := ⟨⟨by decide +kernel, by decide +kernel⟩, List.mem_of_getElem? (i := 426) (by decide +kernel), List.mem_of_getElem? (i := 631) (by decide +kernel), List.mem_of_getElem? (i := 632) (by decide +kernel)⟩
def lw_privs_2 : List (MethodName × Nat) := [(⟨"EliminateLociModel", "work", "()V"⟩, 17), (⟨"EliminateLociModel", "divisor", "()V"⟩, 17), (⟨"EliminateLociModel", "locus", "()V"⟩, 17), (⟨"EliminateLociModel", "emptied", "()V"⟩, 17), (⟨"EliminateLociModel", "entry", "(IIJJJ)V"⟩, 17), (⟨"EliminateLociModel", "minorsOf", "(I)V"⟩, 17), (⟨"EliminateLociModel", "tell", "(II)V"⟩, 17), (⟨"EliminateLociModel", "isPower", "(II)Z"⟩, 17), (⟨"EliminateLociModel", "raise", "(I)V"⟩, 17), (⟨"EliminateLociModel", "envelope", "()V"⟩, 17), (⟨"EliminateLociModel", "valueOf", "(III)J"⟩, 17), (⟨"EliminateLociModel", "isOn", "(IJJJ)I"⟩, 17), (⟨"EliminateLociModel", "traced", "(IJJJJ)J"⟩, 17), (⟨"EliminateLociModel", "slope", "(IIII)J"⟩, 17)]
theorem lw_r2 : ∀ q ∈ lw_privs_2, lw_okq q := List.forall_mem_cons.mpr ⟨lw_p16, List.forall_mem_cons.mpr ⟨lw_p17, List.forall_mem_cons.mpr ⟨lw_p18, List.forall_mem_cons.mpr ⟨lw_p19, List.forall_mem_cons.mpr ⟨lw_p20, List.forall_mem_cons.mpr ⟨lw_p21, List.forall_mem_cons.mpr ⟨lw_p22, List.forall_mem_cons.mpr ⟨lw_p23, List.forall_mem_cons.mpr ⟨lw_p24, List.forall_mem_cons.mpr ⟨lw_p25, List.forall_mem_cons.mpr ⟨lw_p26, List.forall_mem_cons.mpr ⟨lw_p27, List.forall_mem_cons.mpr ⟨lw_p28, List.forall_mem_cons.mpr ⟨lw_p29, fun _ h => absurd h List.not_mem_nil⟩⟩⟩⟩⟩⟩⟩⟩⟩⟩⟩⟩⟩⟩
def lw_privs : List (MethodName × Nat) := lw_privs_1 ++ (lw_privs_2)
def lw_tbl : List Cond := k2_sels lw_privs ++ tables_1
theorem lw_privs_ok : ∀ q ∈ lw_privs, lw_okq q := by
  show ∀ q ∈ lw_privs_1 ++ (lw_privs_2), lw_okq q
  exact List.forall_mem_append.mpr ⟨lw_r1, lw_r2⟩

def RX0 : String := "EliminateLoci$Curve"
def TX0 : u_T := fun k => match k with
  | 0 => ("EliminateLoci$Curve", "root", "LEliminateLoci$Plane;", true)
  | 1 => ("EliminateLoci$Curve", "power", "I", false)
  | 2 => ("EliminateLoci$Curve", "known", "Z", false)
  | _ => ("EliminateLoci$Curve", "found", "Z", false)
def tyX0 : Nat → FieldType := fun k => match k with
  | 0 => .object "EliminateLoci$Plane"
  | 1 => .int
  | 2 => .boolean
  | _ => .boolean
theorem nmX0 : ∀ a, a < 4 → ∀ b, b < 4 → a ≠ b → (TX0 a).2.1 ≠ (TX0 b).2.1 := by decide +kernel
theorem tyX0_ok : ∀ k, k < 4 → parseFieldDescriptor (TX0 k).2.2.1 = some (tyX0 k) := by decide +kernel
abbrev cX0_init : ByteArray := prog_2_method_1_code
def yX0_init : MethodName := ⟨RX0, "<init>", "()V"⟩
def RX1 : String := "EliminateLoci$Divisor"
def TX1 : u_T := fun k => match k with
  | 0 => ("EliminateLoci$Divisor", "shared", "[J", true)
  | 1 => ("EliminateLoci$Divisor", "other", "[J", true)
  | _ => ("EliminateLoci$Divisor", "spare", "[J", true)
def tyX1 : Nat → FieldType := fun k => match k with
  | 0 => .array .long
  | 1 => .array .long
  | _ => .array .long
theorem nmX1 : ∀ a, a < 3 → ∀ b, b < 3 → a ≠ b → (TX1 a).2.1 ≠ (TX1 b).2.1 := by decide +kernel
theorem tyX1_ok : ∀ k, k < 3 → parseFieldDescriptor (TX1 k).2.2.1 = some (tyX1 k) := by decide +kernel
abbrev cX1_init : ByteArray := prog_3_method_1_code
def yX1_init : MethodName := ⟨RX1, "<init>", "()V"⟩
abbrev cX1_free : ByteArray := prog_3_method_2_code
def yX1_free : MethodName := ⟨RX1, "free", "(LEliminateLoci$Row;LEliminateLoci$Row;)V"⟩
abbrev cX1_shareWithOther : ByteArray := prog_3_method_3_code
def yX1_shareWithOther : MethodName := ⟨RX1, "shareWithOther", "()V"⟩
abbrev cX1_swap : ByteArray := prog_3_method_4_code
def yX1_swap : MethodName := ⟨RX1, "swap", "()V"⟩
abbrev cX1_lowerShared : ByteArray := prog_3_method_5_code
def yX1_lowerShared : MethodName := ⟨RX1, "lowerShared", "(II)V"⟩
abbrev cX1_makePrimitive : ByteArray := prog_3_method_6_code
def yX1_makePrimitive : MethodName := ⟨RX1, "makePrimitive", "([J)V"⟩
abbrev cX1_divideByShared : ByteArray := prog_3_method_7_code
def yX1_divideByShared : MethodName := ⟨RX1, "divideByShared", "([J)V"⟩
def RX2 : String := "EliminateLoci$Eliminant"
def TX2 : u_T := fun k => match k with
  | 0 => ("EliminateLoci$Eliminant", "first", "[LEliminateLoci$Plane;", true)
  | 1 => ("EliminateLoci$Eliminant", "second", "[LEliminateLoci$Plane;", true)
  | 2 => ("EliminateLoci$Eliminant", "entries", "[LEliminateLoci$Plane;", true)
  | _ => ("EliminateLoci$Eliminant", "minors", "[LEliminateLoci$Plane;", true)
def tyX2 : Nat → FieldType := fun k => match k with
  | 0 => .array (.object "EliminateLoci$Plane")
  | 1 => .array (.object "EliminateLoci$Plane")
  | 2 => .array (.object "EliminateLoci$Plane")
  | _ => .array (.object "EliminateLoci$Plane")
theorem nmX2 : ∀ a, a < 4 → ∀ b, b < 4 → a ≠ b → (TX2 a).2.1 ≠ (TX2 b).2.1 := by decide +kernel
theorem tyX2_ok : ∀ k, k < 4 → parseFieldDescriptor (TX2 k).2.2.1 = some (tyX2 k) := by decide +kernel
abbrev cX2_init : ByteArray := prog_4_method_1_code
def yX2_init : MethodName := ⟨RX2, "<init>", "()V"⟩
abbrev cX2_takeMover : ByteArray := prog_4_method_2_code
def yX2_takeMover : MethodName := ⟨RX2, "takeMover", "(LEliminateLoci$Row;)I"⟩
abbrev cX2_takeLines : ByteArray := prog_4_method_3_code
def yX2_takeLines : MethodName := ⟨RX2, "takeLines", "(LEliminateLoci$Row;)I"⟩
abbrev cX2_setScaledLine : ByteArray := prog_4_method_4_code
def yX2_setScaledLine : MethodName := ⟨RX2, "setScaledLine", "(LEliminateLoci$Plane;LEliminateLoci$Row;IJ)V"⟩
abbrev cX2_resultant : ByteArray := prog_4_method_5_code
def yX2_resultant : MethodName := ⟨RX2, "resultant", "(I)LEliminateLoci$Plane;"⟩
abbrev cX2_fillEntry : ByteArray := prog_4_method_6_code
def yX2_fillEntry : MethodName := ⟨RX2, "fillEntry", "(III)V"⟩
abbrev cX2_fillMinor : ByteArray := prog_4_method_7_code
def yX2_fillMinor : MethodName := ⟨RX2, "fillMinor", "(II)V"⟩
def RX3 : String := "EliminateLoci$Plane"
def TX3 : u_T := fun k => match k with
  | 0 => ("EliminateLoci$Plane", "cells", "[J", true)
  | _ => ("EliminateLoci$Plane", "bound", "I", false)
def tyX3 : Nat → FieldType := fun k => match k with
  | 0 => .array .long
  | _ => .int
theorem nmX3 : ∀ a, a < 2 → ∀ b, b < 2 → a ≠ b → (TX3 a).2.1 ≠ (TX3 b).2.1 := by decide +kernel
theorem tyX3_ok : ∀ k, k < 2 → parseFieldDescriptor (TX3 k).2.2.1 = some (tyX3 k) := by decide +kernel
abbrev cX3_init : ByteArray := prog_5_method_1_code
def yX3_init : MethodName := ⟨RX3, "<init>", "()V"⟩
abbrev cX3_erase : ByteArray := prog_5_method_2_code
def yX3_erase : MethodName := ⟨RX3, "erase", "()V"⟩
abbrev cX3_setLine : ByteArray := prog_5_method_3_code
def yX3_setLine : MethodName := ⟨RX3, "setLine", "(JJJ)V"⟩
abbrev cX3_copy : ByteArray := prog_5_method_4_code
def yX3_copy : MethodName := ⟨RX3, "copy", "(LEliminateLoci$Plane;)V"⟩
abbrev cX3_addProduct : ByteArray := prog_5_method_5_code
def yX3_addProduct : MethodName := ⟨RX3, "addProduct", "(LEliminateLoci$Plane;LEliminateLoci$Plane;J)V"⟩
abbrev cX3_tighten : ByteArray := prog_5_method_6_code
def yX3_tighten : MethodName := ⟨RX3, "tighten", "()V"⟩
abbrev cX3_firstOfBound : ByteArray := prog_5_method_7_code
def yX3_firstOfBound : MethodName := ⟨RX3, "firstOfBound", "()I"⟩
abbrev cX3_makePrimitive : ByteArray := prog_5_method_8_code
def yX3_makePrimitive : MethodName := ⟨RX3, "makePrimitive", "()V"⟩
abbrev cX3_sumOfSizes : ByteArray := prog_5_method_9_code
def yX3_sumOfSizes : MethodName := ⟨RX3, "sumOfSizes", "()J"⟩
abbrev cX3_isSame : ByteArray := prog_5_method_10_code
def yX3_isSame : MethodName := ⟨RX3, "isSame", "(LEliminateLoci$Plane;)Z"⟩
abbrev cX3_scaledValue : ByteArray := prog_5_method_11_code
def yX3_scaledValue : MethodName := ⟨RX3, "scaledValue", "(JJJ)J"⟩
def RX4 : String := "EliminateLoci$RootFinder"
def TX4 : u_T := fun k => match k with
  | 0 => ("EliminateLoci$RootFinder", "whole", "LEliminateLoci$Plane;", true)
  | 1 => ("EliminateLoci$RootFinder", "root", "LEliminateLoci$Plane;", true)
  | 2 => ("EliminateLoci$RootFinder", "raised", "LEliminateLoci$Plane;", true)
  | _ => ("EliminateLoci$RootFinder", "spare", "LEliminateLoci$Plane;", true)
def tyX4 : Nat → FieldType := fun k => match k with
  | 0 => .object "EliminateLoci$Plane"
  | 1 => .object "EliminateLoci$Plane"
  | 2 => .object "EliminateLoci$Plane"
  | _ => .object "EliminateLoci$Plane"
theorem nmX4 : ∀ a, a < 4 → ∀ b, b < 4 → a ≠ b → (TX4 a).2.1 ≠ (TX4 b).2.1 := by decide +kernel
theorem tyX4_ok : ∀ k, k < 4 → parseFieldDescriptor (TX4 k).2.2.1 = some (tyX4 k) := by decide +kernel
abbrev cX4_init : ByteArray := prog_6_method_1_code
def yX4_init : MethodName := ⟨RX4, "<init>", "()V"⟩
abbrev cX4_findRoot : ByteArray := prog_6_method_2_code
def yX4_findRoot : MethodName := ⟨RX4, "findRoot", "(LEliminateLoci$Plane;LEliminateLoci$Curve;)Z"⟩
abbrev cX4_startRoot : ByteArray := prog_6_method_3_code
def yX4_startRoot : MethodName := ⟨RX4, "startRoot", "(I)Z"⟩
abbrev cX4_completeRoot : ByteArray := prog_6_method_4_code
def yX4_completeRoot : MethodName := ⟨RX4, "completeRoot", "(I)Z"⟩
abbrev cX4_raiseRoot : ByteArray := prog_6_method_5_code
def yX4_raiseRoot : MethodName := ⟨RX4, "raiseRoot", "(I)V"⟩
def RX5 : String := "EliminateLoci$Row"
def TX5 : u_T := fun k => match k with
  | _ => ("EliminateLoci$Row", "parts", "[[J", true)
def tyX5 : Nat → FieldType := fun k => match k with
  | _ => .array (.array .long)
theorem nmX5 : ∀ a, a < 1 → ∀ b, b < 1 → a ≠ b → (TX5 a).2.1 ≠ (TX5 b).2.1 := by decide +kernel
theorem tyX5_ok : ∀ k, k < 1 → parseFieldDescriptor (TX5 k).2.2.1 = some (tyX5 k) := by decide +kernel
abbrev cX5_init : ByteArray := prog_7_method_1_code
def yX5_init : MethodName := ⟨RX5, "<init>", "()V"⟩
abbrev cX5_highestPower : ByteArray := prog_7_method_2_code
def yX5_highestPower : MethodName := ⟨RX5, "highestPower", "()I"⟩
abbrev cX5_isZero : ByteArray := prog_7_method_3_code
def yX5_isZero : MethodName := ⟨RX5, "isZero", "(I)Z"⟩
abbrev cX5_countAndErase : ByteArray := prog_7_method_4_code
def yX5_countAndErase : MethodName := ⟨RX5, "countAndErase", "()I"⟩
abbrev cX5_topOf : ByteArray := prog_7_method_5_code
def yX5_topOf : MethodName := ⟨RX5, "topOf", "([J)I"⟩
def RX6 : String := "EliminateLoci"
def TX6 : u_T := fun k => match k with
  | 0 => ("EliminateLoci", "row", "LEliminateLoci$Row;", true)
  | 1 => ("EliminateLoci", "freedRow", "LEliminateLoci$Row;", true)
  | 2 => ("EliminateLoci", "divisor", "LEliminateLoci$Divisor;", true)
  | 3 => ("EliminateLoci", "eliminant", "LEliminateLoci$Eliminant;", true)
  | 4 => ("EliminateLoci", "finder", "LEliminateLoci$RootFinder;", true)
  | 5 => ("EliminateLoci", "locus", "LEliminateLoci$Curve;", true)
  | 6 => ("EliminateLoci", "envelope", "LEliminateLoci$Curve;", true)
  | 7 => ("EliminateLoci", "spot", "[J", true)
  | _ => ("EliminateLoci", "freedKnown", "Z", false)
def tyX6 : Nat → FieldType := fun k => match k with
  | 0 => .object "EliminateLoci$Row"
  | 1 => .object "EliminateLoci$Row"
  | 2 => .object "EliminateLoci$Divisor"
  | 3 => .object "EliminateLoci$Eliminant"
  | 4 => .object "EliminateLoci$RootFinder"
  | 5 => .object "EliminateLoci$Curve"
  | 6 => .object "EliminateLoci$Curve"
  | 7 => .array .long
  | _ => .boolean
theorem nmX6 : ∀ a, a < 9 → ∀ b, b < 9 → a ≠ b → (TX6 a).2.1 ≠ (TX6 b).2.1 := by decide +kernel
theorem tyX6_ok : ∀ k, k < 9 → parseFieldDescriptor (TX6 k).2.2.1 = some (tyX6 k) := by decide +kernel
abbrev cX6_init : ByteArray := prog_1_method_1_code
def yX6_init : MethodName := ⟨RX6, "<init>", "()V"⟩
abbrev cX6_term : ByteArray := prog_1_method_2_code
def yX6_term : MethodName := ⟨RX6, "term", "(III)I"⟩
abbrev cX6_clear : ByteArray := prog_1_method_3_code
def yX6_clear : MethodName := ⟨RX6, "clear", "()I"⟩
abbrev cX6_degree : ByteArray := prog_1_method_4_code
def yX6_degree : MethodName := ⟨RX6, "degree", "(I)I"⟩
abbrev cX6_freed : ByteArray := prog_1_method_5_code
def yX6_freed : MethodName := ⟨RX6, "freed", "(II)I"⟩
abbrev cX6_value : ByteArray := prog_1_method_6_code
def yX6_value : MethodName := ⟨RX6, "value", "(III)I"⟩
abbrev cX6_trace : ByteArray := prog_1_method_7_code
def yX6_trace : MethodName := ⟨RX6, "trace", "(I)I"⟩
abbrev cX6_times : ByteArray := prog_1_method_8_code
def yX6_times : MethodName := ⟨RX6, "times", "(I)I"⟩
abbrev cX6_coefficient : ByteArray := prog_1_method_9_code
def yX6_coefficient : MethodName := ⟨RX6, "coefficient", "(III)J"⟩
abbrev cX6_side : ByteArray := prog_1_method_10_code
def yX6_side : MethodName := ⟨RX6, "side", "(IIII)I"⟩
abbrev cX6_at : ByteArray := prog_1_method_11_code
def yX6_at : MethodName := ⟨RX6, "at", "(IIIII)I"⟩
abbrev cX6_follows : ByteArray := prog_1_method_12_code
def yX6_follows : MethodName := ⟨RX6, "follows", "(II)I"⟩
abbrev cX6_touches : ByteArray := prog_1_method_13_code
def yX6_touches : MethodName := ⟨RX6, "touches", "(II)I"⟩
abbrev cX6_isPart : ByteArray := prog_1_method_14_code
def yX6_isPart : MethodName := ⟨RX6, "isPart", "(I)Z"⟩
abbrev cX6_isPower : ByteArray := prog_1_method_15_code
def yX6_isPower : MethodName := ⟨RX6, "isPower", "(I)Z"⟩
abbrev cX6_isSort : ByteArray := prog_1_method_16_code
def yX6_isSort : MethodName := ⟨RX6, "isSort", "(I)Z"⟩
abbrev cX6_isWithin : ByteArray := prog_1_method_17_code
def yX6_isWithin : MethodName := ⟨RX6, "isWithin", "(II)Z"⟩
abbrev cX6_isParameter : ByteArray := prog_1_method_18_code
def yX6_isParameter : MethodName := ⟨RX6, "isParameter", "(II)Z"⟩
abbrev cX6_isPlace : ByteArray := prog_1_method_19_code
def yX6_isPlace : MethodName := ⟨RX6, "isPlace", "(III)Z"⟩
abbrev cX6_forget : ByteArray := prog_1_method_20_code
def yX6_forget : MethodName := ⟨RX6, "forget", "()V"⟩
abbrev cX6_freeRow : ByteArray := prog_1_method_21_code
def yX6_freeRow : MethodName := ⟨RX6, "freeRow", "()LEliminateLoci$Row;"⟩
abbrev cX6_curveOf : ByteArray := prog_1_method_22_code
def yX6_curveOf : MethodName := ⟨RX6, "curveOf", "(I)LEliminateLoci$Curve;"⟩
abbrev cX6_moveTo : ByteArray := prog_1_method_23_code
def yX6_moveTo : MethodName := ⟨RX6, "moveTo", "(II)V"⟩
abbrev cX6_slopeByU : ByteArray := prog_1_method_24_code
def yX6_slopeByU : MethodName := ⟨RX6, "slopeByU", "(IIII)J"⟩
abbrev cX6_slopeByV : ByteArray := prog_1_method_25_code
def yX6_slopeByV : MethodName := ⟨RX6, "slopeByV", "(IIII)J"⟩
abbrev cX6_powerOf : ByteArray := prog_1_method_26_code
def yX6_powerOf : MethodName := ⟨RX6, "powerOf", "(JI)J"⟩
abbrev cX6_commonOf : ByteArray := prog_1_method_27_code
def yX6_commonOf : MethodName := ⟨RX6, "commonOf", "(JJ)J"⟩
abbrev cX6_rootOf : ByteArray := prog_1_method_28_code
def yX6_rootOf : MethodName := ⟨RX6, "rootOf", "(JI)J"⟩
abbrev cX6_isPowerWithin : ByteArray := prog_1_method_29_code
def yX6_isPowerWithin : MethodName := ⟨RX6, "isPowerWithin", "(JIJ)Z"⟩
abbrev cX6_slotOf : ByteArray := prog_1_method_30_code
def yX6_slotOf : MethodName := ⟨RX6, "slotOf", "(II)I"⟩
def RX7 : String := "EliminateLociModel"
def TX7 : u_T := fun k => match k with
  | 0 => ("EliminateLociModel", "row", "[I", true)
  | 1 => ("EliminateLociModel", "free", "[J", true)
  | 2 => ("EliminateLociModel", "most", "I", false)
  | 3 => ("EliminateLociModel", "freeMost", "I", false)
  | 4 => ("EliminateLociModel", "known", "Z", false)
  | 5 => ("EliminateLociModel", "has", "[Z", true)
  | 6 => ("EliminateLociModel", "traces", "[J", true)
  | 7 => ("EliminateLociModel", "degrees", "[I", true)
  | 8 => ("EliminateLociModel", "powers", "[I", true)
  | 9 => ("EliminateLociModel", "one", "[J", true)
  | 10 => ("EliminateLociModel", "two", "[J", true)
  | 11 => ("EliminateLociModel", "entries", "[J", true)
  | 12 => ("EliminateLociModel", "minors", "[J", true)
  | 13 => ("EliminateLociModel", "whole", "[J", true)
  | 14 => ("EliminateLociModel", "root", "[J", true)
  | 15 => ("EliminateLociModel", "power", "[J", true)
  | _ => ("EliminateLociModel", "other", "[J", true)
def tyX7 : Nat → FieldType := fun k => match k with
  | 0 => .array .int
  | 1 => .array .long
  | 2 => .int
  | 3 => .int
  | 4 => .boolean
  | 5 => .array .boolean
  | 6 => .array .long
  | 7 => .array .int
  | 8 => .array .int
  | 9 => .array .long
  | 10 => .array .long
  | 11 => .array .long
  | 12 => .array .long
  | 13 => .array .long
  | 14 => .array .long
  | 15 => .array .long
  | _ => .array .long
theorem nmX7 : ∀ a, a < 17 → ∀ b, b < 17 → a ≠ b → (TX7 a).2.1 ≠ (TX7 b).2.1 := by decide +kernel
theorem tyX7_ok : ∀ k, k < 17 → parseFieldDescriptor (TX7 k).2.2.1 = some (tyX7 k) := by decide +kernel
abbrev cX7_init : ByteArray := prog_9_method_1_code
def yX7_init : MethodName := ⟨RX7, "<init>", "()V"⟩
abbrev cX7_term : ByteArray := prog_9_method_2_code
def yX7_term : MethodName := ⟨RX7, "term", "(III)I"⟩
abbrev cX7_clear : ByteArray := prog_9_method_3_code
def yX7_clear : MethodName := ⟨RX7, "clear", "()I"⟩
abbrev cX7_common : ByteArray := prog_9_method_4_code
def yX7_common : MethodName := ⟨RX7, "common", "(JJ)J"⟩
abbrev cX7_degreeOf : ByteArray := prog_9_method_5_code
def yX7_degreeOf : MethodName := ⟨RX7, "degreeOf", "([J)I"⟩
abbrev cX7_reduce : ByteArray := prog_9_method_6_code
def yX7_reduce : MethodName := ⟨RX7, "reduce", "([J)V"⟩
abbrev cX7_divisor : ByteArray := prog_9_method_7_code
def yX7_divisor : MethodName := ⟨RX7, "divisor", "()V"⟩
abbrev cX7_work : ByteArray := prog_9_method_8_code
def yX7_work : MethodName := ⟨RX7, "work", "()V"⟩
abbrev cX7_entry : ByteArray := prog_9_method_9_code
def yX7_entry : MethodName := ⟨RX7, "entry", "(IIJJJ)V"⟩
abbrev cX7_emptied : ByteArray := prog_9_method_10_code
def yX7_emptied : MethodName := ⟨RX7, "emptied", "()V"⟩
abbrev cX7_countOf : ByteArray := prog_9_method_11_code
def yX7_countOf : MethodName := ⟨RX7, "countOf", "(I)I"⟩
abbrev cX7_minorsOf : ByteArray := prog_9_method_12_code
def yX7_minorsOf : MethodName := ⟨RX7, "minorsOf", "(I)V"⟩
abbrev cX7_locus : ByteArray := prog_9_method_13_code
def yX7_locus : MethodName := ⟨RX7, "locus", "()V"⟩
abbrev cX7_envelope : ByteArray := prog_9_method_14_code
def yX7_envelope : MethodName := ⟨RX7, "envelope", "()V"⟩
abbrev cX7_degree2 : ByteArray := prog_9_method_15_code
def yX7_degree2 : MethodName := ⟨RX7, "degree2", "([J)I"⟩
abbrev cX7_firstOf : ByteArray := prog_9_method_16_code
def yX7_firstOf : MethodName := ⟨RX7, "firstOf", "([J)I"⟩
abbrev cX7_tell : ByteArray := prog_9_method_17_code
def yX7_tell : MethodName := ⟨RX7, "tell", "(II)V"⟩
abbrev cX7_rootOf : ByteArray := prog_9_method_18_code
def yX7_rootOf : MethodName := ⟨RX7, "rootOf", "(JI)J"⟩
abbrev cX7_isAbove : ByteArray := prog_9_method_19_code
def yX7_isAbove : MethodName := ⟨RX7, "isAbove", "(JIJ)Z"⟩
abbrev cX7_raise : ByteArray := prog_9_method_20_code
def yX7_raise : MethodName := ⟨RX7, "raise", "(I)V"⟩
abbrev cX7_isPower : ByteArray := prog_9_method_21_code
def yX7_isPower : MethodName := ⟨RX7, "isPower", "(II)Z"⟩
abbrev cX7_degree : ByteArray := prog_9_method_22_code
def yX7_degree : MethodName := ⟨RX7, "degree", "(I)I"⟩
abbrev cX7_freed : ByteArray := prog_9_method_23_code
def yX7_freed : MethodName := ⟨RX7, "freed", "(II)I"⟩
abbrev cX7_isParameter : ByteArray := prog_9_method_24_code
def yX7_isParameter : MethodName := ⟨RX7, "isParameter", "(II)Z"⟩
abbrev cX7_raised : ByteArray := prog_9_method_25_code
def yX7_raised : MethodName := ⟨RX7, "raised", "(JI)J"⟩
abbrev cX7_valueOf : ByteArray := prog_9_method_26_code
def yX7_valueOf : MethodName := ⟨RX7, "valueOf", "(III)J"⟩
abbrev cX7_value : ByteArray := prog_9_method_27_code
def yX7_value : MethodName := ⟨RX7, "value", "(III)I"⟩
abbrev cX7_isSort : ByteArray := prog_9_method_28_code
def yX7_isSort : MethodName := ⟨RX7, "isSort", "(I)Z"⟩
abbrev cX7_trace : ByteArray := prog_9_method_29_code
def yX7_trace : MethodName := ⟨RX7, "trace", "(I)I"⟩
abbrev cX7_times : ByteArray := prog_9_method_30_code
def yX7_times : MethodName := ⟨RX7, "times", "(I)I"⟩
abbrev cX7_coefficient : ByteArray := prog_9_method_31_code
def yX7_coefficient : MethodName := ⟨RX7, "coefficient", "(III)J"⟩
abbrev cX7_isPlace : ByteArray := prog_9_method_32_code
def yX7_isPlace : MethodName := ⟨RX7, "isPlace", "(III)Z"⟩
abbrev cX7_side : ByteArray := prog_9_method_33_code
def yX7_side : MethodName := ⟨RX7, "side", "(IIII)I"⟩
abbrev cX7_at : ByteArray := prog_9_method_34_code
def yX7_at : MethodName := ⟨RX7, "at", "(IIIII)I"⟩
abbrev cX7_rest : ByteArray := prog_9_method_35_code
def yX7_rest : MethodName := ⟨RX7, "rest", "(JJ)J"⟩
abbrev cX7_traced : ByteArray := prog_9_method_36_code
def yX7_traced : MethodName := ⟨RX7, "traced", "(IJJJJ)J"⟩
abbrev cX7_isOn : ByteArray := prog_9_method_37_code
def yX7_isOn : MethodName := ⟨RX7, "isOn", "(IJJJ)I"⟩
abbrev cX7_follows : ByteArray := prog_9_method_38_code
def yX7_follows : MethodName := ⟨RX7, "follows", "(II)I"⟩
abbrev cX7_slope : ByteArray := prog_9_method_39_code
def yX7_slope : MethodName := ⟨RX7, "slope", "(IIII)J"⟩
abbrev cX7_touches : ByteArray := prog_9_method_40_code
def yX7_touches : MethodName := ⟨RX7, "touches", "(II)I"⟩
def RJ6 : String := "java/lang/Integer"
def TJ6 : u_T := fun k => match k with
  | _ => ("", "", "", false)
def tyJ6 : Nat → FieldType := fun k => match k with
  | _ => .int
theorem nmJ6 : ∀ a, a < 0 → ∀ b, b < 0 → a ≠ b → (TJ6 a).2.1 ≠ (TJ6 b).2.1 := by decide +kernel
theorem tyJ6_ok : ∀ k, k < 0 → parseFieldDescriptor (TJ6 k).2.2.1 = some (tyJ6 k) := by decide +kernel
abbrev cJ6_bitCount_0f7a4 : ByteArray := prog_10_method_49_code
def yJ6_bitCount_0f7a4 : MethodName := ⟨RJ6, "bitCount", "(I)I"⟩
def RJ9 : String := "java/lang/Math"
def TJ9 : u_T := fun k => match k with
  | _ => ("", "", "", false)
def tyJ9 : Nat → FieldType := fun k => match k with
  | _ => .int
theorem nmJ9 : ∀ a, a < 0 → ∀ b, b < 0 → a ≠ b → (TJ9 a).2.1 ≠ (TJ9 b).2.1 := by decide +kernel
theorem tyJ9_ok : ∀ k, k < 0 → parseFieldDescriptor (TJ9 k).2.2.1 = some (tyJ9 k) := by decide +kernel
abbrev cJ9_abs_067f4 : ByteArray := prog_11_method_61_code
def yJ9_abs_067f4 : MethodName := ⟨RJ9, "abs", "(J)J"⟩
abbrev cJ9_min_7cf53 : ByteArray := prog_11_method_69_code
def yJ9_min_7cf53 : MethodName := ⟨RJ9, "min", "(II)I"⟩
def RJ10 : String := "java/lang/System"
def TJ10 : u_T := fun k => match k with
  | _ => ("", "", "", false)
def tyJ10 : Nat → FieldType := fun k => match k with
  | _ => .int
theorem nmJ10 : ∀ a, a < 0 → ∀ b, b < 0 → a ≠ b → (TJ10 a).2.1 ≠ (TJ10 b).2.1 := by decide +kernel
theorem tyJ10_ok : ∀ k, k < 0 → parseFieldDescriptor (TJ10 k).2.2.1 = some (tyJ10 k) := by decide +kernel
def RJ7 : String := "java/util/Arrays"
def TJ7 : u_T := fun k => match k with
  | _ => ("", "", "", false)
def tyJ7 : Nat → FieldType := fun k => match k with
  | _ => .int
theorem nmJ7 : ∀ a, a < 0 → ∀ b, b < 0 → a ≠ b → (TJ7 a).2.1 ≠ (TJ7 b).2.1 := by decide +kernel
theorem tyJ7_ok : ∀ k, k < 0 → parseFieldDescriptor (TJ7 k).2.2.1 = some (tyJ7 k) := by decide +kernel
abbrev cJ7_fill_d0a16 : ByteArray := prog_13_method_101_code
def yJ7_fill_d0a16 : MethodName := ⟨RJ7, "fill", "([JJ)V"⟩
abbrev cL_law : ByteArray := code
abbrev vwCl : List vw_C := [(RX0, TX0, 4), (RX1, TX1, 3), (RX2, TX2, 4), (RX3, TX3, 2), (RX4, TX4, 4), (RX5, TX5, 1), (RX6, TX6, 9), (RX7, TX7, 17)]
end
section
/-! the words, once for all methods: every method's own words are its code and the whole table -/
def lw_g : List Cond := lw_tbl.filter goodWord
theorem z_good : GoodIn lw_g lw_g := fun w hw => ⟨hw, good_of_word (List.mem_filter.mp hw).2⟩
theorem z_goodC {y : MethodName} {b : ByteArray} {n : Nat} {r : Option FieldType} (h : Cond.code y b n r ∈ lw_g) : GoodIn lw_g (.code y b n r :: lw_g) := by
  intro w hw
  rcases List.mem_cons.mp hw with rfl | hw
  · exact ⟨h, Or.inl rfl⟩
  · exact z_good w hw
theorem z_mem {k : Nat} {w : Cond} (h : lw_tbl[k]? = some w) (hg : goodWord w = true) : w ∈ lw_g := List.mem_filter.mpr ⟨List.mem_of_getElem? h, hg⟩
theorem z_memD {w : Cond} (h : w ∈ lw_tbl) (hg : goodWord w = true) : w ∈ lw_g := List.mem_filter.mpr ⟨h, hg⟩
/-! ints by their numbers -/
def zI (z : Int) : Int32 := Int32.ofInt z
def zL (z : Int) : Int64 := Int64.ofInt z
theorem zI_ex (x : Int32) : ∃ z : Int, -2147483648 ≤ z ∧ z < 2147483648 ∧ x = zI z := ⟨x.toInt, Int32.le_toInt x, Int32.toInt_lt x, (Int32.ofInt_toInt x).symm⟩
theorem zI_toInt {z : Int} (h1 : -2147483648 ≤ z) (h2 : z < 2147483648) : (zI z).toInt = z := Int32.toInt_ofInt_of_le h1 h2
theorem zI_add (a b : Int) : zI a + zI b = zI (a + b) := (Int32.ofInt_add a b).symm
theorem zI_sub (a b : Int) : zI a - zI b = zI (a - b) := (Int32.ofInt_sub a b).symm
theorem zI_mul (a b : Int) : zI a * zI b = zI (a * b) := (Int32.ofInt_mul a b).symm
theorem zI_neg (a : Int) : -zI a = zI (-a) := (Int32.ofInt_neg a).symm
def zR (z : Int) : Prop := -2147483648 ≤ z ∧ z < 2147483648
theorem zI_lt {a b : Int} (ha : zR a) (hb : zR b) : zI a < zI b ↔ a < b := by
  rw [Int32.lt_iff_toInt_lt, zI_toInt ha.1 ha.2, zI_toInt hb.1 hb.2]
theorem zI_le {a b : Int} (ha : zR a) (hb : zR b) : zI a ≤ zI b ↔ a ≤ b := by
  rw [Int32.le_iff_toInt_le, zI_toInt ha.1 ha.2, zI_toInt hb.1 hb.2]
theorem zI_eq {a b : Int} (ha : zR a) (hb : zR b) : zI a = zI b ↔ a = b := by
  rw [← Int32.toInt_inj, zI_toInt ha.1 ha.2, zI_toInt hb.1 hb.2]
theorem zI_in {z : Int} {n : Nat} (h1 : 0 ≤ z) (h2 : z < n) (hn : n < 2147483648 := by decide) : vp_in (zI z) n := by
  rw [vp_in_iff, zI_toInt (by omega) (by omega)]
  exact ⟨h1, h2⟩
theorem zI_cl {z : Int} (h1 : 0 ≤ z) (h2 : z < 2147483648) : (zI z).toNatClampNeg = z.toNat := by
  show (zI z).toInt.toNat = _
  rw [zI_toInt (by omega) h2]
theorem zI_0 : (0 : Int32) = zI 0 := rfl
theorem zL_i2l {z : Int} (h : zR z) : (zI z).toInt64 = zL z := by
  apply Int64.toInt_inj.mp
  rw [Int32.toInt_toInt64, zI_toInt h.1 h.2]
  exact (Int64.toInt_ofInt_of_le (by have := h.1; omega) (by have := h.2; omega)).symm
theorem lgc_eq (x y : Int64) : lg_cmp x y = 0 ↔ x = y := by
  unfold lg_cmp
  by_cases h : x > y
  · have hne : x ≠ y := fun e => by rw [e] at h; exact absurd h (Int64.lt_irrefl)
    simp [h, hne]
  · by_cases h2 : x = y <;> simp [h, h2]
theorem lgc_lt (x y : Int64) : lg_cmp x y < 0 ↔ x < y := by
  unfold lg_cmp
  by_cases h : x > y
  · rw [if_pos h]
    have h3 : ¬ x < y := by
      rw [gt_iff_lt, Int64.lt_iff_toInt_lt] at h
      rw [Int64.lt_iff_toInt_lt]; omega
    exact ⟨fun q => absurd q (by decide), fun q => absurd q h3⟩
  · rw [if_neg h]
    by_cases h2 : x = y
    · rw [if_pos h2]
      exact ⟨fun q => absurd q (by decide), fun q => by rw [h2] at q; exact absurd q Int64.lt_irrefl⟩
    · rw [if_neg h2]
      refine ⟨fun _ => ?_, fun _ => by decide⟩
      rw [gt_iff_lt, Int64.lt_iff_toInt_lt] at h
      rw [← Int64.toInt_inj] at h2
      rw [Int64.lt_iff_toInt_lt]; omega
/-! private methods and constructors of the nest's other classes -/
def nst : List (String × Nat × MethodName × String) := [(RX6, 9, yX5_init, "EliminateLoci"), (RX6, 21, yX1_init, "EliminateLoci"), (RX2, 26, yX3_init, "EliminateLoci"), (RX6, 35, yX4_init, "EliminateLoci"), (RX4, 9, yX3_init, "EliminateLoci"), (RX6, 42, yX0_init, "EliminateLoci"), (RX0, 9, yX3_init, "EliminateLoci"), (RX1, 60, yX6_commonOf, "EliminateLoci"), (RX3, 28, yX6_slotOf, "EliminateLoci"), (RX3, 45, yX6_commonOf, "EliminateLoci"), (RX4, 61, yX6_slotOf, "EliminateLoci"), (RX4, 67, yX6_rootOf, "EliminateLoci"), (RX4, 74, yX6_powerOf, "EliminateLoci"), (RX3, 55, yX6_powerOf, "EliminateLoci")]
/-- the word on arrays over long[], kept over the tables' warming -/
theorem aoA_moved {u U : State} (hvm : u.vm.Alike U.vm) (h : (Cond.arrayOver (.array .long)).before #[] u = true) : (Cond.arrayOver (.array .long)).before #[] U = true := by
  simp only [Cond.before, Cond.holds, Cond.value, beq_iff_eq] at h
  cases hc : u.vm.findClass (FieldType.array .long).toString with
  | none => simp [hc] at h
  | some comp =>
    simp only [hc, Option.bind_some, Option.bind_eq_some_iff, Option.map_eq_some_iff] at h
    obtain ⟨c, hi, k, hk, hb⟩ := h
    obtain ⟨k', hk', he⟩ := hvm.2.2 _ _ hk
    have e0 : U.vm.bare = u.vm.bare := by first | exact hvm.bare_eq | exact hvm.bare_eq.symm
    have e1 := va_idx_bare U.vm comp
    rw [e0] at e1
    have hi2 := e1.symm.trans ((va_idx_bare u.vm comp).trans hi)
    have f1 : U.vm.findClass (FieldType.array .long).toString = some comp := by rw [hvm.findClass]; exact hc
    have f2 : U.vm.findClass ("[" ++ (FieldType.array .long).toString) = u.vm.findClass ("[" ++ (FieldType.array .long).toString) := by rw [hvm.findClass]
    have hk2 : k'.kind = k.kind := by rw [he]
    unfold Cond.before Cond.holds
    simp only [Cond.value]
    rw [f1, Option.bind_some]
    refine (congrArg (fun o : Option Nat => (o.bind (fun c => (U.vm.classes[c]?).map fun (k : Class) => match k.kind with | .array _ ty => decide (ty = FieldType.array .long) && decide (U.vm.findClass ("[" ++ (FieldType.array .long).toString) = some c) | _ => false) == some true)) hi2).trans ?_
    simp only [Option.bind_some, hk', Option.map_some, hk2, f2]
    cases hkd : k.kind with
    | array component ty =>
      rw [hkd] at hb
      simp at hb
      simp [hb.1, hb.2]
    | _ => rw [hkd] at hb; simp at hb
def NW (U : State) : Prop := (∀ q ∈ nst, va_Nw (.methodLinkNest q.1 q.2.1 q.2.2.1 q.2.2.2) U) ∧ va_AO "EliminateLoci$Plane" U ∧ (Cond.arrayOver (.array .long)).before #[] U = true
theorem NW.warm {s U : State} (h : NW s) (hW : s.WarmedH U.vm) : NW U := ⟨fun q hq => va_Nw.warmM hW (h.1 q hq), va_AO.moved hW.alike h.2.1, aoA_moved hW.alike h.2.2⟩
theorem NW.same {s U : State} (h : NW s) (e : s.vm = U.vm) : NW U := ⟨fun q hq => va_Nw.same rfl e (h.1 q hq), va_AO.moved (by rw [e]; exact Vm.Alike.refl _) h.2.1, aoA_moved (by rw [e]; exact Vm.Alike.refl _) h.2.2⟩
/-! the machine at a frame, with the world as data: pc, locals, stack, cells -/
def Zf (p : Program) (m : MethodId) (c : Code) (cc : ByteArray) (nL : Nat) (s : State) (args : Array Value) (own : String) (D : va_G) (tys : List (ClassId × FieldType)) (A : Nat → Prop) : Prop :=
  p.tables.exec = Jvm.exec ∧ c.code = cc ∧ c.maxLocals = nL ∧ s.vm.findClass own = some m.cls ∧ (∀ w ∈ lw_g, w.before args s = true) ∧ va_K D vwCl tys s ∧ (∀ q, s.heap.size ≤ q → A q) ∧ NW s
def Z (p : Program) (l : Launch) (e : Env) (R : Room) (s : State) (m : MethodId) (args : Array Value) (below : List Frame) (meth : Method) (c : Code) (D : va_G) (A : Nat → Prop) (nL cells slots : Nat) (Q : State → Prop) (pc : Nat) (lv : List (Nat × Value)) (st : List Value) (w : va_W) : Prop :=
  ∀ (H : Heap) (locs : List Loc) (ls : Array Slot), va_P D vwCl w H → va_D A w → va_S A s.heap H locs → lv_has ls nL lv → W p l e R s m args below meth c H locs cells slots Q (F0 m pc ls st)
theorem lv_look {l : List (Nat × Value)} {i : Nat} {v : Value} (h : l.lookup i = some v) : ∃ k : Nat, l[k]? = some (i, v) := by
  induction l with
  | nil => cases h
  | cons a r ih =>
    obtain ⟨j, u⟩ := a
    by_cases hj : i = j
    · subst hj
      rw [List.lookup_cons_self] at h
      cases h
      exact ⟨0, rfl⟩
    · have : (i == j) = false := by simpa using hj
      rw [List.lookup_cons, this] at h
      obtain ⟨k, hk⟩ := ih h
      exact ⟨k + 1, hk⟩
theorem lv_get {ls : Array Slot} {nL : Nat} {l : List (Nat × Value)} {i : Nat} {v : Value} (h : lv_has ls nL l) (hk : l.lookup i = some v) : ls[i]? = some (.val v) := by
  obtain ⟨k, hk⟩ := lv_look hk
  exact lv_at h k hk
section ZR
variable {p : Program} {l : Launch} {e : Env} {R : Room} {s : State} {m : MethodId} {args : Array Value} {below : List Frame} {meth : Method} {c : Code} {D : va_G} {A : Nat → Prop} {nL cells slots : Nat} {Q : State → Prop}
variable {cc : ByteArray} {own : String} {tys : List (ClassId × FieldType)} {pc : Nat} {lv : List (Nat × Value)} {st : List Value} {w : va_W}
theorem Z.toW {w' : va_W} (h : w = w') (k : Z p l e R s m args below meth c D A nL cells slots Q pc lv st w') : Z p l e R s m args below meth c D A nL cells slots Q pc lv st w := h ▸ k
theorem Z.sub {lv' : List (Nat × Value)} (h : lv'.all (fun q => lv.lookup q.1 == some q.2) = true) (k : Z p l e R s m args below meth c D A nL cells slots Q pc lv' st w) : Z p l e R s m args below meth c D A nL cells slots Q pc lv st w := by
  intro H locs ls hP hD hS hv
  refine k H locs ls hP hD hS ⟨hv.1, hv.2.1, fun q hq => ?_⟩
  have h1 := List.all_eq_true.mp h q hq
  exact lv_get hv (eq_of_beq h1)
end ZR
end
section
theorem zR_0 : zR 0 := ⟨by decide, by decide⟩
theorem lgc_gt (x y : Int64) : 0 < lg_cmp x y ↔ y < x := by
  unfold lg_cmp
  by_cases h : x > y
  · rw [if_pos h]
    exact ⟨fun _ => h, fun _ => by decide⟩
  · rw [if_neg h]
    refine ⟨fun q => ?_, fun q => absurd q h⟩
    by_cases h2 : x = y
    · rw [if_pos h2] at q
      exact absurd q (by decide)
    · rw [if_neg h2] at q
      exact absurd q (by decide)
theorem zI_ne0 {b : Int} (h3 : 0 < b) (h4 : b < 2147483648) : ¬ zI b = 0 := by
  intro q
  have h := (zI_eq (a := b) (b := 0) ⟨by omega, h4⟩ zR_0).mp q
  omega
theorem zI_nI {a : Int} (h1 : 0 ≤ a) : zI a = nI a.toNat := by
  obtain ⟨n, rfl⟩ := Int.eq_ofNat_of_zero_le h1
  rfl
theorem zI_div {a b : Int} (h1 : 0 ≤ a) (h2 : a < 2147483648) (h3 : 0 < b) (h4 : b < 2147483648) : zI a / zI b = zI (a / b) := by
  obtain ⟨n, rfl⟩ := Int.eq_ofNat_of_zero_le h1
  obtain ⟨k, rfl⟩ := Int.eq_ofNat_of_zero_le (Int.le_of_lt h3)
  exact pk_div (a := n) (d := k) (by omega) (by omega) (by omega)
theorem zI_rem {a b : Int} (h1 : 0 ≤ a) (h2 : a < 2147483648) (h3 : 0 < b) (h4 : b < 2147483648) : zI a - zI a / zI b * zI b = zI (a % b) := by
  obtain ⟨n, rfl⟩ := Int.eq_ofNat_of_zero_le h1
  obtain ⟨k, rfl⟩ := Int.eq_ofNat_of_zero_le (Int.le_of_lt h3)
  exact pk_rem (a := n) (d := k) (by omega) (by omega) (by omega)
section ZR2
variable {p : Program} {l : Launch} {e : Env} {R : Room} {s : State} {m : MethodId} {args : Array Value} {below : List Frame} {meth : Method} {c : Code} {D : va_G} {A : Nat → Prop} {nL cells slots : Nat} {Q : State → Prop}
variable {cc : ByteArray} {own : String} {tys : List (ClassId × FieldType)} {pc : Nat} {lv : List (Nat × Value)} {st : List Value} {w : va_W}
theorem Z.iconst (hX : Zf p m c cc nL s args own D tys A) {n : Int} (hd : decode cc pc = .ok (.iconst n, 1))  (k : Z p l e R s m args below meth c D A nL cells slots Q (pc + 1) lv (.int (zI n) :: st) w) : Z p l e R s m args below meth c D A nL cells slots Q pc lv (st) w := fun H locs ls hP hD hS hv => lv_iconst hX.1 hX.2.1 hd rfl (k H locs ls hP hD hS hv)
theorem Z.bipush (hX : Zf p m c cc nL s args own D tys A) {n : Int} (hd : decode cc pc = .ok (.bipush n, 2)) (hv0 : (Int8.ofInt n).toInt32 = zI n) (k : Z p l e R s m args below meth c D A nL cells slots Q (pc + 2) lv (.int (zI n) :: st) w) : Z p l e R s m args below meth c D A nL cells slots Q pc lv (st) w := fun H locs ls hP hD hS hv => lv_bipush hX.1 hX.2.1 hd hv0 (k H locs ls hP hD hS hv)
theorem Z.sipush (hX : Zf p m c cc nL s args own D tys A) {n : Int} (hd : decode cc pc = .ok (.sipush n, 3)) (hv0 : (Int16.ofInt n).toInt32 = zI n) (k : Z p l e R s m args below meth c D A nL cells slots Q (pc + 3) lv (.int (zI n) :: st) w) : Z p l e R s m args below meth c D A nL cells slots Q pc lv (st) w := fun H locs ls hP hD hS hv => lv_sipush hX.1 hX.2.1 hd hv0 (k H locs ls hP hD hS hv)
theorem Z.lconst (hX : Zf p m c cc nL s args own D tys A) {n : Fin 2} {v : Int64} (hd : decode cc pc = .ok (.lconst n, 1)) (hv0 : Int64.ofNat (n : Nat) = v) (k : Z p l e R s m args below meth c D A nL cells slots Q (pc + 1) lv (.long v :: st) w) : Z p l e R s m args below meth c D A nL cells slots Q pc lv (st) w := fun H locs ls hP hD hS hv => lv_lconst hX.1 hX.2.1 hd hv0 (k H locs ls hP hD hS hv)
theorem Z.iload_n (hX : Zf p m c cc nL s args own D tys A) {k0 : Fin 4} {i : Nat} {x : Int32} (hd : decode cc pc = .ok (.iload_n k0, 1)) (hi : (k0 : Nat) = i) (hl : lv.lookup i = some (.int x)) (k : Z p l e R s m args below meth c D A nL cells slots Q (pc + 1) lv (.int x :: st) w) : Z p l e R s m args below meth c D A nL cells slots Q pc lv (st) w := fun H locs ls hP hD hS hv => lv_iload_n hX.1 hX.2.1 hd hi (lv_get hv hl) (k H locs ls hP hD hS hv)
theorem Z.iload (hX : Zf p m c cc nL s args own D tys A) {i : Nat} {x : Int32} (hd : decode cc pc = .ok (.iload i, 2)) (hl : lv.lookup i = some (.int x)) (k : Z p l e R s m args below meth c D A nL cells slots Q (pc + 2) lv (.int x :: st) w) : Z p l e R s m args below meth c D A nL cells slots Q pc lv (st) w := fun H locs ls hP hD hS hv => lv_iload hX.1 hX.2.1 hd (lv_get hv hl) (k H locs ls hP hD hS hv)
theorem Z.istore_n (hX : Zf p m c cc nL s args own D tys A) {k0 : Fin 4} {i : Nat} {x : Int32} {lv' : List (Nat × Value)} (hd : decode cc pc = .ok (.istore_n k0, 1)) (hi : (k0 : Nat) = i) (hn : i < nL) (hl : (i, Value.int x) :: lv.filter (fun q => !(q.1 == i) && !(q.1 + 1 == i && q.2.category == 2)) = lv') (k : Z p l e R s m args below meth c D A nL cells slots Q (pc + 1) lv' st w) : Z p l e R s m args below meth c D A nL cells slots Q pc lv (.int x :: st) w := fun H locs ls hP hD hS hv => lv_istore_n hX.1 hX.2.1 hd hi hv hn hl (fun ls' hv' => k H locs ls' hP hD hS hv')
theorem Z.istore (hX : Zf p m c cc nL s args own D tys A) {i : Nat} {x : Int32} {lv' : List (Nat × Value)} (hd : decode cc pc = .ok (.istore i, 2)) (hn : i < nL) (hl : (i, Value.int x) :: lv.filter (fun q => !(q.1 == i) && !(q.1 + 1 == i && q.2.category == 2)) = lv') (k : Z p l e R s m args below meth c D A nL cells slots Q (pc + 2) lv' st w) : Z p l e R s m args below meth c D A nL cells slots Q pc lv (.int x :: st) w := fun H locs ls hP hD hS hv => lv_istore hX.1 hX.2.1 hd hv hn hl (fun ls' hv' => k H locs ls' hP hD hS hv')
theorem Z.lload_n (hX : Zf p m c cc nL s args own D tys A) {k0 : Fin 4} {i : Nat} {x : Int64} (hd : decode cc pc = .ok (.lload_n k0, 1)) (hi : (k0 : Nat) = i) (hl : lv.lookup i = some (.long x)) (k : Z p l e R s m args below meth c D A nL cells slots Q (pc + 1) lv (.long x :: st) w) : Z p l e R s m args below meth c D A nL cells slots Q pc lv (st) w := fun H locs ls hP hD hS hv => lv_lload_n hX.1 hX.2.1 hd hi (lv_get hv hl) (k H locs ls hP hD hS hv)
theorem Z.lload (hX : Zf p m c cc nL s args own D tys A) {i : Nat} {x : Int64} (hd : decode cc pc = .ok (.lload i, 2)) (hl : lv.lookup i = some (.long x)) (k : Z p l e R s m args below meth c D A nL cells slots Q (pc + 2) lv (.long x :: st) w) : Z p l e R s m args below meth c D A nL cells slots Q pc lv (st) w := fun H locs ls hP hD hS hv => lv_lload hX.1 hX.2.1 hd (lv_get hv hl) (k H locs ls hP hD hS hv)
theorem Z.lstore_n (hX : Zf p m c cc nL s args own D tys A) {k0 : Fin 4} {i : Nat} {x : Int64} {lv' : List (Nat × Value)} (hd : decode cc pc = .ok (.lstore_n k0, 1)) (hi : (k0 : Nat) = i) (hn : i + 1 < nL) (hl : (i, Value.long x) :: lv.filter (fun q => !(q.1 == i) && (!(q.1 == i + 1) && !(q.1 + 1 == i && q.2.category == 2))) = lv') (k : Z p l e R s m args below meth c D A nL cells slots Q (pc + 1) lv' st w) : Z p l e R s m args below meth c D A nL cells slots Q pc lv (.long x :: st) w := fun H locs ls hP hD hS hv => lv_lstore_n hX.1 hX.2.1 hd hi hv hn hl (fun ls' hv' => k H locs ls' hP hD hS hv')
theorem Z.lstore (hX : Zf p m c cc nL s args own D tys A) {i : Nat} {x : Int64} {lv' : List (Nat × Value)} (hd : decode cc pc = .ok (.lstore i, 2)) (hn : i + 1 < nL) (hl : (i, Value.long x) :: lv.filter (fun q => !(q.1 == i) && (!(q.1 == i + 1) && !(q.1 + 1 == i && q.2.category == 2))) = lv') (k : Z p l e R s m args below meth c D A nL cells slots Q (pc + 2) lv' st w) : Z p l e R s m args below meth c D A nL cells slots Q pc lv (.long x :: st) w := fun H locs ls hP hD hS hv => lv_lstore hX.1 hX.2.1 hd hv hn hl (fun ls' hv' => k H locs ls' hP hD hS hv')
theorem Z.aload_n (hX : Zf p m c cc nL s args own D tys A) {k0 : Fin 4} {i : Nat} {x : Nat} (hd : decode cc pc = .ok (.aload_n k0, 1)) (hi : (k0 : Nat) = i) (hl : lv.lookup i = some (.ref x)) (k : Z p l e R s m args below meth c D A nL cells slots Q (pc + 1) lv (.ref x :: st) w) : Z p l e R s m args below meth c D A nL cells slots Q pc lv (st) w := fun H locs ls hP hD hS hv => lv_aload_n hX.1 hX.2.1 hd hi (lv_get hv hl) (k H locs ls hP hD hS hv)
theorem Z.aload (hX : Zf p m c cc nL s args own D tys A) {i : Nat} {x : Nat} (hd : decode cc pc = .ok (.aload i, 2)) (hl : lv.lookup i = some (.ref x)) (k : Z p l e R s m args below meth c D A nL cells slots Q (pc + 2) lv (.ref x :: st) w) : Z p l e R s m args below meth c D A nL cells slots Q pc lv (st) w := fun H locs ls hP hD hS hv => lv_aload hX.1 hX.2.1 hd (lv_get hv hl) (k H locs ls hP hD hS hv)
theorem Z.astore_n (hX : Zf p m c cc nL s args own D tys A) {k0 : Fin 4} {i : Nat} {x : Nat} {lv' : List (Nat × Value)} (hd : decode cc pc = .ok (.astore_n k0, 1)) (hi : (k0 : Nat) = i) (hn : i < nL) (hl : (i, Value.ref x) :: lv.filter (fun q => !(q.1 == i) && !(q.1 + 1 == i && q.2.category == 2)) = lv') (k : Z p l e R s m args below meth c D A nL cells slots Q (pc + 1) lv' st w) : Z p l e R s m args below meth c D A nL cells slots Q pc lv (.ref x :: st) w := fun H locs ls hP hD hS hv => lv_astore_n hX.1 hX.2.1 hd hi hv hn hl (fun ls' hv' => k H locs ls' hP hD hS hv')
theorem Z.astore (hX : Zf p m c cc nL s args own D tys A) {i : Nat} {x : Nat} {lv' : List (Nat × Value)} (hd : decode cc pc = .ok (.astore i, 2)) (hn : i < nL) (hl : (i, Value.ref x) :: lv.filter (fun q => !(q.1 == i) && !(q.1 + 1 == i && q.2.category == 2)) = lv') (k : Z p l e R s m args below meth c D A nL cells slots Q (pc + 2) lv' st w) : Z p l e R s m args below meth c D A nL cells slots Q pc lv (.ref x :: st) w := fun H locs ls hP hD hS hv => lv_astore hX.1 hX.2.1 hd hv hn hl (fun ls' hv' => k H locs ls' hP hD hS hv')
theorem Z.iinc (hX : Zf p m c cc nL s args own D tys A) {i : Nat} {n z : Int} {lv' : List (Nat × Value)} (hd : decode cc pc = .ok (.iinc i n, 3)) (hk : lv.lookup i = some (.int (zI z))) (hn : i < nL) (hl : (i, Value.int (zI (z + n))) :: lv.filter (fun q => !(q.1 == i) && !(q.1 + 1 == i && q.2.category == 2)) = lv') (k : Z p l e R s m args below meth c D A nL cells slots Q (pc + 3) lv' st w) : Z p l e R s m args below meth c D A nL cells slots Q pc lv st w := fun H locs ls hP hD hS hv => by
  obtain ⟨k0, hk0⟩ := lv_look hk
  exact lv_iinc hX.1 hX.2.1 hd hv hk0 (zI_add z n) hn hl (fun ls' hv' => k H locs ls' hP hD hS hv')
theorem Z.iadd (hX : Zf p m c cc nL s args own D tys A) {a b : Int} (hd : decode cc pc = .ok (.iadd, 1))  (k : Z p l e R s m args below meth c D A nL cells slots Q (pc + 1) lv (.int (zI (a + b)) :: st) w) : Z p l e R s m args below meth c D A nL cells slots Q pc lv (.int (zI b) :: .int (zI a) :: st) w := fun H locs ls hP hD hS hv => lv_iadd hX.1 hX.2.1 hd (by rw [zI_add]; exact (k H locs ls hP hD hS hv))
theorem Z.isub (hX : Zf p m c cc nL s args own D tys A) {a b : Int} (hd : decode cc pc = .ok (.isub, 1))  (k : Z p l e R s m args below meth c D A nL cells slots Q (pc + 1) lv (.int (zI (a - b)) :: st) w) : Z p l e R s m args below meth c D A nL cells slots Q pc lv (.int (zI b) :: .int (zI a) :: st) w := fun H locs ls hP hD hS hv => lv_isub hX.1 hX.2.1 hd (by rw [zI_sub]; exact (k H locs ls hP hD hS hv))
theorem Z.imul (hX : Zf p m c cc nL s args own D tys A) {a b : Int} (hd : decode cc pc = .ok (.imul, 1))  (k : Z p l e R s m args below meth c D A nL cells slots Q (pc + 1) lv (.int (zI (a * b)) :: st) w) : Z p l e R s m args below meth c D A nL cells slots Q pc lv (.int (zI b) :: .int (zI a) :: st) w := fun H locs ls hP hD hS hv => lv_imul hX.1 hX.2.1 hd (by rw [zI_mul]; exact (k H locs ls hP hD hS hv))
theorem Z.ineg (hX : Zf p m c cc nL s args own D tys A) {a : Int} (hd : decode cc pc = .ok (.ineg, 1))  (k : Z p l e R s m args below meth c D A nL cells slots Q (pc + 1) lv (.int (zI (-a)) :: st) w) : Z p l e R s m args below meth c D A nL cells slots Q pc lv (.int (zI a) :: st) w := fun H locs ls hP hD hS hv => lv_ineg hX.1 hX.2.1 hd (by rw [zI_neg]; exact (k H locs ls hP hD hS hv))
theorem Z.ishl (hX : Zf p m c cc nL s args own D tys A) {x y : Int32} (hd : decode cc pc = .ok (.ishl, 1))  (k : Z p l e R s m args below meth c D A nL cells slots Q (pc + 1) lv (.int (x <<< (y &&& 31)) :: st) w) : Z p l e R s m args below meth c D A nL cells slots Q pc lv (.int y :: .int x :: st) w := fun H locs ls hP hD hS hv => lv_ishl hX.1 hX.2.1 hd (k H locs ls hP hD hS hv)
theorem Z.ishr (hX : Zf p m c cc nL s args own D tys A) {x y : Int32} (hd : decode cc pc = .ok (.ishr, 1))  (k : Z p l e R s m args below meth c D A nL cells slots Q (pc + 1) lv (.int (x >>> (y &&& 31)) :: st) w) : Z p l e R s m args below meth c D A nL cells slots Q pc lv (.int y :: .int x :: st) w := fun H locs ls hP hD hS hv => lv_ishr hX.1 hX.2.1 hd (k H locs ls hP hD hS hv)
theorem Z.ixor (hX : Zf p m c cc nL s args own D tys A) {x y : Int32} (hd : decode cc pc = .ok (.ixor, 1))  (k : Z p l e R s m args below meth c D A nL cells slots Q (pc + 1) lv (.int (x ^^^ y) :: st) w) : Z p l e R s m args below meth c D A nL cells slots Q pc lv (.int y :: .int x :: st) w := fun H locs ls hP hD hS hv => lv_ixor hX.1 hX.2.1 hd (k H locs ls hP hD hS hv)
theorem Z.iand (hX : Zf p m c cc nL s args own D tys A) {x y : Int32} (hd : decode cc pc = .ok (.iand, 1))  (k : Z p l e R s m args below meth c D A nL cells slots Q (pc + 1) lv (.int (x &&& y) :: st) w) : Z p l e R s m args below meth c D A nL cells slots Q pc lv (.int y :: .int x :: st) w := fun H locs ls hP hD hS hv => lv_iand hX.1 hX.2.1 hd (k H locs ls hP hD hS hv)
theorem Z.idiv (hX : Zf p m c cc nL s args own D tys A) {a b : Int} (hd : decode cc pc = .ok (.idiv, 1)) (h1 : 0 ≤ a) (h2 : a < 2147483648) (h3 : 0 < b) (h4 : b < 2147483648) (k : Z p l e R s m args below meth c D A nL cells slots Q (pc + 1) lv (.int (zI (a / b)) :: st) w) : Z p l e R s m args below meth c D A nL cells slots Q pc lv (.int (zI b) :: .int (zI a) :: st) w := fun H locs ls hP hD hS hv => lv_idiv hX.1 hX.2.1 hd (zI_ne0 h3 h4) (by rw [zI_div h1 h2 h3 h4]; exact (k H locs ls hP hD hS hv))
theorem Z.irem (hX : Zf p m c cc nL s args own D tys A) {a b : Int} (hd : decode cc pc = .ok (.irem, 1)) (h1 : 0 ≤ a) (h2 : a < 2147483648) (h3 : 0 < b) (h4 : b < 2147483648) (k : Z p l e R s m args below meth c D A nL cells slots Q (pc + 1) lv (.int (zI (a % b)) :: st) w) : Z p l e R s m args below meth c D A nL cells slots Q pc lv (.int (zI b) :: .int (zI a) :: st) w := fun H locs ls hP hD hS hv => lv_irem hX.1 hX.2.1 hd (zI_ne0 h3 h4) (by rw [zI_rem h1 h2 h3 h4]; exact (k H locs ls hP hD hS hv))
theorem Z.ladd (hX : Zf p m c cc nL s args own D tys A) {x y : Int64} (hd : decode cc pc = .ok (.ladd, 1))  (k : Z p l e R s m args below meth c D A nL cells slots Q (pc + 1) lv (.long (x + y) :: st) w) : Z p l e R s m args below meth c D A nL cells slots Q pc lv (.long y :: .long x :: st) w := fun H locs ls hP hD hS hv => lv_ladd hX.1 hX.2.1 hd (k H locs ls hP hD hS hv)
theorem Z.lsub (hX : Zf p m c cc nL s args own D tys A) {x y : Int64} (hd : decode cc pc = .ok (.lsub, 1))  (k : Z p l e R s m args below meth c D A nL cells slots Q (pc + 1) lv (.long (x - y) :: st) w) : Z p l e R s m args below meth c D A nL cells slots Q pc lv (.long y :: .long x :: st) w := fun H locs ls hP hD hS hv => lv_lsub hX.1 hX.2.1 hd (k H locs ls hP hD hS hv)
theorem Z.lmul (hX : Zf p m c cc nL s args own D tys A) {x y : Int64} (hd : decode cc pc = .ok (.lmul, 1))  (k : Z p l e R s m args below meth c D A nL cells slots Q (pc + 1) lv (.long (x * y) :: st) w) : Z p l e R s m args below meth c D A nL cells slots Q pc lv (.long y :: .long x :: st) w := fun H locs ls hP hD hS hv => lv_lmul hX.1 hX.2.1 hd (k H locs ls hP hD hS hv)
theorem Z.land (hX : Zf p m c cc nL s args own D tys A) {x y : Int64} (hd : decode cc pc = .ok (.land, 1))  (k : Z p l e R s m args below meth c D A nL cells slots Q (pc + 1) lv (.long (x &&& y) :: st) w) : Z p l e R s m args below meth c D A nL cells slots Q pc lv (.long y :: .long x :: st) w := fun H locs ls hP hD hS hv => lv_land hX.1 hX.2.1 hd (k H locs ls hP hD hS hv)
theorem Z.lneg (hX : Zf p m c cc nL s args own D tys A) {x : Int64} (hd : decode cc pc = .ok (.lneg, 1))  (k : Z p l e R s m args below meth c D A nL cells slots Q (pc + 1) lv (.long (-x) :: st) w) : Z p l e R s m args below meth c D A nL cells slots Q pc lv (.long x :: st) w := fun H locs ls hP hD hS hv => lv_lneg hX.1 hX.2.1 hd (k H locs ls hP hD hS hv)
theorem Z.ldiv (hX : Zf p m c cc nL s args own D tys A) {x y : Int64} (hd : decode cc pc = .ok (.ldiv, 1)) (hne : ¬ y = 0) (k : Z p l e R s m args below meth c D A nL cells slots Q (pc + 1) lv (.long (x / y) :: st) w) : Z p l e R s m args below meth c D A nL cells slots Q pc lv (.long y :: .long x :: st) w := fun H locs ls hP hD hS hv => lv_ldiv hX.1 hX.2.1 hd hne (k H locs ls hP hD hS hv)
theorem Z.lrem (hX : Zf p m c cc nL s args own D tys A) {x y : Int64} (hd : decode cc pc = .ok (.lrem, 1)) (hne : ¬ y = 0) (k : Z p l e R s m args below meth c D A nL cells slots Q (pc + 1) lv (.long (x - x / y * y) :: st) w) : Z p l e R s m args below meth c D A nL cells slots Q pc lv (.long y :: .long x :: st) w := fun H locs ls hP hD hS hv => lv_lrem hX.1 hX.2.1 hd hne (k H locs ls hP hD hS hv)
theorem Z.lshr (hX : Zf p m c cc nL s args own D tys A) {x v : Int64} {y : Int32} (hd : decode cc pc = .ok (.lshr, 1)) (hv0 : x >>> (y.toInt64 &&& 63) = v) (k : Z p l e R s m args below meth c D A nL cells slots Q (pc + 1) lv (.long v :: st) w) : Z p l e R s m args below meth c D A nL cells slots Q pc lv (.int y :: .long x :: st) w := fun H locs ls hP hD hS hv => lv_lshr hX.1 hX.2.1 hd hv0 (k H locs ls hP hD hS hv)
theorem Z.lshl (hX : Zf p m c cc nL s args own D tys A) {x v : Int64} {y : Int32} (hd : decode cc pc = .ok (.lshl, 1)) (hv0 : x <<< (y.toInt64 &&& 63) = v) (k : Z p l e R s m args below meth c D A nL cells slots Q (pc + 1) lv (.long v :: st) w) : Z p l e R s m args below meth c D A nL cells slots Q pc lv (.int y :: .long x :: st) w := fun H locs ls hP hD hS hv => lv_lshl hX.1 hX.2.1 hd hv0 (k H locs ls hP hD hS hv)
theorem Z.i2l (hX : Zf p m c cc nL s args own D tys A) {a : Int} (hd : decode cc pc = .ok (.i2l, 1)) (h : zR a) (k : Z p l e R s m args below meth c D A nL cells slots Q (pc + 1) lv (.long (zL a) :: st) w) : Z p l e R s m args below meth c D A nL cells slots Q pc lv (.int (zI a) :: st) w := fun H locs ls hP hD hS hv => lv_i2l hX.1 hX.2.1 hd (zL_i2l h) (k H locs ls hP hD hS hv)
theorem Z.l2i (hX : Zf p m c cc nL s args own D tys A) {x : Int64} (hd : decode cc pc = .ok (.l2i, 1))  (k : Z p l e R s m args below meth c D A nL cells slots Q (pc + 1) lv (.int x.toInt32 :: st) w) : Z p l e R s m args below meth c D A nL cells slots Q pc lv (.long x :: st) w := fun H locs ls hP hD hS hv => lv_l2i hX.1 hX.2.1 hd rfl (k H locs ls hP hD hS hv)
theorem Z.dup (hX : Zf p m c cc nL s args own D tys A) {va : Value} (hd : decode cc pc = .ok (.dup, 1)) (h : va.category = 1) (k : Z p l e R s m args below meth c D A nL cells slots Q (pc + 1) lv (va :: va :: st) w) : Z p l e R s m args below meth c D A nL cells slots Q pc lv (va :: st) w := fun H locs ls hP hD hS hv => lv_dup hX.1 hX.2.1 hd h (k H locs ls hP hD hS hv)
theorem Z.pop (hX : Zf p m c cc nL s args own D tys A) {va : Value} (hd : decode cc pc = .ok (.pop, 1)) (h : va.category = 1) (k : Z p l e R s m args below meth c D A nL cells slots Q (pc + 1) lv (st) w) : Z p l e R s m args below meth c D A nL cells slots Q pc lv (va :: st) w := fun H locs ls hP hD hS hv => lv_pop hX.1 hX.2.1 hd h (k H locs ls hP hD hS hv)
theorem Z.dup2 (hX : Zf p m c cc nL s args own D tys A) {va vb : Value} (hd : decode cc pc = .ok (.dup2, 1)) (h : va.category = 1) (h2 : vb.category = 1) (k : Z p l e R s m args below meth c D A nL cells slots Q (pc + 1) lv (va :: vb :: va :: vb :: st) w) : Z p l e R s m args below meth c D A nL cells slots Q pc lv (va :: vb :: st) w := fun H locs ls hP hD hS hv => lv_dup2_11 hX.1 hX.2.1 hd h h2 (k H locs ls hP hD hS hv)
theorem Z.goto (hX : Zf p m c cc nL s args own D tys A) {off : Int} (tgt : Nat) (hd : decode cc pc = .ok (.goto off, 3)) (ht : (pc : Int) + off = (tgt : Int)) (k : Z p l e R s m args below meth c D A nL cells slots Q tgt lv st w) : Z p l e R s m args below meth c D A nL cells slots Q pc lv st w := fun H locs ls hP hD hS hv => lv_goto hX.1 hX.2.1 hd ht (k H locs ls hP hD hS hv)
theorem Z.topi {x : Int32} (k : ∀ z : Int, -2147483648 ≤ z → z < 2147483648 → x = zI z → Z p l e R s m args below meth c D A nL cells slots Q pc lv (.int (zI z) :: st) w) : Z p l e R s m args below meth c D A nL cells slots Q pc lv (.int x :: st) w := by
  obtain ⟨z, h1, h2, h3⟩ := zI_ex x
  rw [h3]
  exact k z h1 h2 h3
theorem Z.vali {x y : Int32} (h : x = y) (k : Z p l e R s m args below meth c D A nL cells slots Q pc lv (.int y :: st) w) : Z p l e R s m args below meth c D A nL cells slots Q pc lv (.int x :: st) w := h ▸ k
theorem Z.vall {x y : Int64} (h : x = y) (k : Z p l e R s m args below meth c D A nL cells slots Q pc lv (.long y :: st) w) : Z p l e R s m args below meth c D A nL cells slots Q pc lv (.long x :: st) w := h ▸ k
theorem Z.topl {x : Int64} (k : ∀ y : Int64, y = x → Z p l e R s m args below meth c D A nL cells slots Q pc lv (.long y :: st) w) : Z p l e R s m args below meth c D A nL cells slots Q pc lv (.long x :: st) w := k x rfl
theorem Z.icmp_eq (hX : Zf p m c cc nL s args own D tys A) {a b off : Int} (tgt : Nat) (hd : decode cc pc = .ok (.if_icmp .eq off, 3)) (ht : (pc : Int) + off = (tgt : Int)) (ha : zR a) (hb : zR b) (kt : a = b → Z p l e R s m args below meth c D A nL cells slots Q tgt lv st w) (kf : ¬ (a = b) → Z p l e R s m args below meth c D A nL cells slots Q (pc + 3) lv st w) : Z p l e R s m args below meth c D A nL cells slots Q pc lv (.int (zI b) :: .int (zI a) :: st) w := fun H locs ls hP hD hS hv => lv_icmp_eq hX.1 hX.2.1 hd ht (fun q => kt ((zI_eq ha hb).mp q) H locs ls hP hD hS hv) (fun q => kf (fun r => q ((zI_eq ha hb).mpr r)) H locs ls hP hD hS hv)
theorem Z.if_eq (hX : Zf p m c cc nL s args own D tys A) {a off : Int} (tgt : Nat) (hd : decode cc pc = .ok (.ifCond .eq off, 3)) (ht : (pc : Int) + off = (tgt : Int)) (ha : zR a) (kt : a = 0 → Z p l e R s m args below meth c D A nL cells slots Q tgt lv st w) (kf : ¬ (a = 0) → Z p l e R s m args below meth c D A nL cells slots Q (pc + 3) lv st w) : Z p l e R s m args below meth c D A nL cells slots Q pc lv (.int (zI a) :: st) w := fun H locs ls hP hD hS hv => lv_if_eq hX.1 hX.2.1 hd ht (fun q => kt ((zI_eq ha zR_0).mp q) H locs ls hP hD hS hv) (fun q => kf (fun r => q ((zI_eq ha zR_0).mpr r)) H locs ls hP hD hS hv)
theorem Z.lcmp_eq (hX : Zf p m c cc nL s args own D tys A) {x y : Int64} {off : Int} (tgt : Nat) (hd1 : decode cc pc = .ok (.lcmp, 1)) (hd : decode cc (pc + 1) = .ok (.ifCond .eq off, 3)) (ht : ((pc + 1 : Nat) : Int) + off = (tgt : Int)) (kt : x = y → Z p l e R s m args below meth c D A nL cells slots Q tgt lv st w) (kf : ¬ (x = y) → Z p l e R s m args below meth c D A nL cells slots Q (pc + 1 + 3) lv st w) : Z p l e R s m args below meth c D A nL cells slots Q pc lv (.long y :: .long x :: st) w := fun H locs ls hP hD hS hv => W.lcmp hX.1 hX.2.1 hd1 (lv_if_eq hX.1 hX.2.1 hd ht (fun q => kt ((lgc_eq x y).mp q) H locs ls hP hD hS hv) (fun q => kf (fun r => q ((lgc_eq x y).mpr r)) H locs ls hP hD hS hv))
theorem Z.icmp_ne (hX : Zf p m c cc nL s args own D tys A) {a b off : Int} (tgt : Nat) (hd : decode cc pc = .ok (.if_icmp .ne off, 3)) (ht : (pc : Int) + off = (tgt : Int)) (ha : zR a) (hb : zR b) (kt : ¬ a = b → Z p l e R s m args below meth c D A nL cells slots Q tgt lv st w) (kf : a = b → Z p l e R s m args below meth c D A nL cells slots Q (pc + 3) lv st w) : Z p l e R s m args below meth c D A nL cells slots Q pc lv (.int (zI b) :: .int (zI a) :: st) w := fun H locs ls hP hD hS hv => lv_icmp_ne hX.1 hX.2.1 hd ht (fun q => kt ((not_congr (zI_eq ha hb)).mp q) H locs ls hP hD hS hv) (fun q => kf ((zI_eq ha hb).mp q) H locs ls hP hD hS hv)
theorem Z.if_ne (hX : Zf p m c cc nL s args own D tys A) {a off : Int} (tgt : Nat) (hd : decode cc pc = .ok (.ifCond .ne off, 3)) (ht : (pc : Int) + off = (tgt : Int)) (ha : zR a) (kt : ¬ a = 0 → Z p l e R s m args below meth c D A nL cells slots Q tgt lv st w) (kf : a = 0 → Z p l e R s m args below meth c D A nL cells slots Q (pc + 3) lv st w) : Z p l e R s m args below meth c D A nL cells slots Q pc lv (.int (zI a) :: st) w := fun H locs ls hP hD hS hv => lv_if_ne hX.1 hX.2.1 hd ht (fun q => kt ((not_congr (zI_eq ha zR_0)).mp q) H locs ls hP hD hS hv) (fun q => kf ((zI_eq ha zR_0).mp q) H locs ls hP hD hS hv)
theorem Z.lcmp_ne (hX : Zf p m c cc nL s args own D tys A) {x y : Int64} {off : Int} (tgt : Nat) (hd1 : decode cc pc = .ok (.lcmp, 1)) (hd : decode cc (pc + 1) = .ok (.ifCond .ne off, 3)) (ht : ((pc + 1 : Nat) : Int) + off = (tgt : Int)) (kt : ¬ x = y → Z p l e R s m args below meth c D A nL cells slots Q tgt lv st w) (kf : x = y → Z p l e R s m args below meth c D A nL cells slots Q (pc + 1 + 3) lv st w) : Z p l e R s m args below meth c D A nL cells slots Q pc lv (.long y :: .long x :: st) w := fun H locs ls hP hD hS hv => W.lcmp hX.1 hX.2.1 hd1 (lv_if_ne hX.1 hX.2.1 hd ht (fun q => kt ((not_congr (lgc_eq x y)).mp q) H locs ls hP hD hS hv) (fun q => kf ((lgc_eq x y).mp q) H locs ls hP hD hS hv))
theorem Z.icmp_lt (hX : Zf p m c cc nL s args own D tys A) {a b off : Int} (tgt : Nat) (hd : decode cc pc = .ok (.if_icmp .lt off, 3)) (ht : (pc : Int) + off = (tgt : Int)) (ha : zR a) (hb : zR b) (kt : a < b → Z p l e R s m args below meth c D A nL cells slots Q tgt lv st w) (kf : ¬ (a < b) → Z p l e R s m args below meth c D A nL cells slots Q (pc + 3) lv st w) : Z p l e R s m args below meth c D A nL cells slots Q pc lv (.int (zI b) :: .int (zI a) :: st) w := fun H locs ls hP hD hS hv => lv_icmp_lt hX.1 hX.2.1 hd ht (fun q => kt ((zI_lt ha hb).mp q) H locs ls hP hD hS hv) (fun q => kf (fun r => q ((zI_lt ha hb).mpr r)) H locs ls hP hD hS hv)
theorem Z.if_lt (hX : Zf p m c cc nL s args own D tys A) {a off : Int} (tgt : Nat) (hd : decode cc pc = .ok (.ifCond .lt off, 3)) (ht : (pc : Int) + off = (tgt : Int)) (ha : zR a) (kt : a < 0 → Z p l e R s m args below meth c D A nL cells slots Q tgt lv st w) (kf : ¬ (a < 0) → Z p l e R s m args below meth c D A nL cells slots Q (pc + 3) lv st w) : Z p l e R s m args below meth c D A nL cells slots Q pc lv (.int (zI a) :: st) w := fun H locs ls hP hD hS hv => lv_if_lt hX.1 hX.2.1 hd ht (fun q => kt ((zI_lt ha zR_0).mp q) H locs ls hP hD hS hv) (fun q => kf (fun r => q ((zI_lt ha zR_0).mpr r)) H locs ls hP hD hS hv)
theorem Z.lcmp_lt (hX : Zf p m c cc nL s args own D tys A) {x y : Int64} {off : Int} (tgt : Nat) (hd1 : decode cc pc = .ok (.lcmp, 1)) (hd : decode cc (pc + 1) = .ok (.ifCond .lt off, 3)) (ht : ((pc + 1 : Nat) : Int) + off = (tgt : Int)) (kt : x < y → Z p l e R s m args below meth c D A nL cells slots Q tgt lv st w) (kf : ¬ (x < y) → Z p l e R s m args below meth c D A nL cells slots Q (pc + 1 + 3) lv st w) : Z p l e R s m args below meth c D A nL cells slots Q pc lv (.long y :: .long x :: st) w := fun H locs ls hP hD hS hv => W.lcmp hX.1 hX.2.1 hd1 (lv_if_lt hX.1 hX.2.1 hd ht (fun q => kt ((lgc_lt x y).mp q) H locs ls hP hD hS hv) (fun q => kf (fun r => q ((lgc_lt x y).mpr r)) H locs ls hP hD hS hv))
theorem Z.icmp_ge (hX : Zf p m c cc nL s args own D tys A) {a b off : Int} (tgt : Nat) (hd : decode cc pc = .ok (.if_icmp .ge off, 3)) (ht : (pc : Int) + off = (tgt : Int)) (ha : zR a) (hb : zR b) (kt : b ≤ a → Z p l e R s m args below meth c D A nL cells slots Q tgt lv st w) (kf : ¬ (b ≤ a) → Z p l e R s m args below meth c D A nL cells slots Q (pc + 3) lv st w) : Z p l e R s m args below meth c D A nL cells slots Q pc lv (.int (zI b) :: .int (zI a) :: st) w := fun H locs ls hP hD hS hv => lv_icmp_ge hX.1 hX.2.1 hd ht (fun q => kt ((zI_le hb ha).mp q) H locs ls hP hD hS hv) (fun q => kf (fun r => q ((zI_le hb ha).mpr r)) H locs ls hP hD hS hv)
theorem Z.if_ge (hX : Zf p m c cc nL s args own D tys A) {a off : Int} (tgt : Nat) (hd : decode cc pc = .ok (.ifCond .ge off, 3)) (ht : (pc : Int) + off = (tgt : Int)) (ha : zR a) (kt : 0 ≤ a → Z p l e R s m args below meth c D A nL cells slots Q tgt lv st w) (kf : ¬ (0 ≤ a) → Z p l e R s m args below meth c D A nL cells slots Q (pc + 3) lv st w) : Z p l e R s m args below meth c D A nL cells slots Q pc lv (.int (zI a) :: st) w := fun H locs ls hP hD hS hv => lv_if_ge hX.1 hX.2.1 hd ht (fun q => kt ((zI_le zR_0 ha).mp q) H locs ls hP hD hS hv) (fun q => kf (fun r => q ((zI_le zR_0 ha).mpr r)) H locs ls hP hD hS hv)
theorem Z.lcmp_ge (hX : Zf p m c cc nL s args own D tys A) {x y : Int64} {off : Int} (tgt : Nat) (hd1 : decode cc pc = .ok (.lcmp, 1)) (hd : decode cc (pc + 1) = .ok (.ifCond .ge off, 3)) (ht : ((pc + 1 : Nat) : Int) + off = (tgt : Int)) (kt : y ≤ x → Z p l e R s m args below meth c D A nL cells slots Q tgt lv st w) (kf : ¬ (y ≤ x) → Z p l e R s m args below meth c D A nL cells slots Q (pc + 1 + 3) lv st w) : Z p l e R s m args below meth c D A nL cells slots Q pc lv (.long y :: .long x :: st) w := fun H locs ls hP hD hS hv => W.lcmp hX.1 hX.2.1 hd1 (lv_if_ge hX.1 hX.2.1 hd ht (fun q => kt ((lg_cmp_ge x y).mp q) H locs ls hP hD hS hv) (fun q => kf (fun r => q ((lg_cmp_ge x y).mpr r)) H locs ls hP hD hS hv))
theorem Z.icmp_gt (hX : Zf p m c cc nL s args own D tys A) {a b off : Int} (tgt : Nat) (hd : decode cc pc = .ok (.if_icmp .gt off, 3)) (ht : (pc : Int) + off = (tgt : Int)) (ha : zR a) (hb : zR b) (kt : b < a → Z p l e R s m args below meth c D A nL cells slots Q tgt lv st w) (kf : ¬ (b < a) → Z p l e R s m args below meth c D A nL cells slots Q (pc + 3) lv st w) : Z p l e R s m args below meth c D A nL cells slots Q pc lv (.int (zI b) :: .int (zI a) :: st) w := fun H locs ls hP hD hS hv => lv_icmp_gt hX.1 hX.2.1 hd ht (fun q => kt ((zI_lt hb ha).mp q) H locs ls hP hD hS hv) (fun q => kf (fun r => q ((zI_lt hb ha).mpr r)) H locs ls hP hD hS hv)
theorem Z.if_gt (hX : Zf p m c cc nL s args own D tys A) {a off : Int} (tgt : Nat) (hd : decode cc pc = .ok (.ifCond .gt off, 3)) (ht : (pc : Int) + off = (tgt : Int)) (ha : zR a) (kt : 0 < a → Z p l e R s m args below meth c D A nL cells slots Q tgt lv st w) (kf : ¬ (0 < a) → Z p l e R s m args below meth c D A nL cells slots Q (pc + 3) lv st w) : Z p l e R s m args below meth c D A nL cells slots Q pc lv (.int (zI a) :: st) w := fun H locs ls hP hD hS hv => lv_if_gt hX.1 hX.2.1 hd ht (fun q => kt ((zI_lt zR_0 ha).mp q) H locs ls hP hD hS hv) (fun q => kf (fun r => q ((zI_lt zR_0 ha).mpr r)) H locs ls hP hD hS hv)
theorem Z.lcmp_gt (hX : Zf p m c cc nL s args own D tys A) {x y : Int64} {off : Int} (tgt : Nat) (hd1 : decode cc pc = .ok (.lcmp, 1)) (hd : decode cc (pc + 1) = .ok (.ifCond .gt off, 3)) (ht : ((pc + 1 : Nat) : Int) + off = (tgt : Int)) (kt : y < x → Z p l e R s m args below meth c D A nL cells slots Q tgt lv st w) (kf : ¬ (y < x) → Z p l e R s m args below meth c D A nL cells slots Q (pc + 1 + 3) lv st w) : Z p l e R s m args below meth c D A nL cells slots Q pc lv (.long y :: .long x :: st) w := fun H locs ls hP hD hS hv => W.lcmp hX.1 hX.2.1 hd1 (lv_if_gt hX.1 hX.2.1 hd ht (fun q => kt ((lgc_gt x y).mp q) H locs ls hP hD hS hv) (fun q => kf (fun r => q ((lgc_gt x y).mpr r)) H locs ls hP hD hS hv))
theorem Z.icmp_le (hX : Zf p m c cc nL s args own D tys A) {a b off : Int} (tgt : Nat) (hd : decode cc pc = .ok (.if_icmp .le off, 3)) (ht : (pc : Int) + off = (tgt : Int)) (ha : zR a) (hb : zR b) (kt : a ≤ b → Z p l e R s m args below meth c D A nL cells slots Q tgt lv st w) (kf : ¬ (a ≤ b) → Z p l e R s m args below meth c D A nL cells slots Q (pc + 3) lv st w) : Z p l e R s m args below meth c D A nL cells slots Q pc lv (.int (zI b) :: .int (zI a) :: st) w := fun H locs ls hP hD hS hv => lv_icmp_le hX.1 hX.2.1 hd ht (fun q => kt ((zI_le ha hb).mp q) H locs ls hP hD hS hv) (fun q => kf (fun r => q ((zI_le ha hb).mpr r)) H locs ls hP hD hS hv)
theorem Z.if_le (hX : Zf p m c cc nL s args own D tys A) {a off : Int} (tgt : Nat) (hd : decode cc pc = .ok (.ifCond .le off, 3)) (ht : (pc : Int) + off = (tgt : Int)) (ha : zR a) (kt : a ≤ 0 → Z p l e R s m args below meth c D A nL cells slots Q tgt lv st w) (kf : ¬ (a ≤ 0) → Z p l e R s m args below meth c D A nL cells slots Q (pc + 3) lv st w) : Z p l e R s m args below meth c D A nL cells slots Q pc lv (.int (zI a) :: st) w := fun H locs ls hP hD hS hv => lv_if_le hX.1 hX.2.1 hd ht (fun q => kt ((zI_le ha zR_0).mp q) H locs ls hP hD hS hv) (fun q => kf (fun r => q ((zI_le ha zR_0).mpr r)) H locs ls hP hD hS hv)
theorem Z.lcmp_le (hX : Zf p m c cc nL s args own D tys A) {x y : Int64} {off : Int} (tgt : Nat) (hd1 : decode cc pc = .ok (.lcmp, 1)) (hd : decode cc (pc + 1) = .ok (.ifCond .le off, 3)) (ht : ((pc + 1 : Nat) : Int) + off = (tgt : Int)) (kt : x ≤ y → Z p l e R s m args below meth c D A nL cells slots Q tgt lv st w) (kf : ¬ (x ≤ y) → Z p l e R s m args below meth c D A nL cells slots Q (pc + 1 + 3) lv st w) : Z p l e R s m args below meth c D A nL cells slots Q pc lv (.long y :: .long x :: st) w := fun H locs ls hP hD hS hv => W.lcmp hX.1 hX.2.1 hd1 (lv_if_le hX.1 hX.2.1 hd ht (fun q => kt ((lg_cmp_le x y).mp q) H locs ls hP hD hS hv) (fun q => kf (fun r => q ((lg_cmp_le x y).mpr r)) H locs ls hP hD hS hv))
theorem Z.laload (hX : Zf p m c cc nL s args own D tys A) (q0 t0 : Nat) {a : Nat} {cA : ClassId} {n : Nat} {f : Nat → Int64} {z : Int} (hd : decode cc pc = .ok (.laload, 1)) (ha : w[q0]? = some (a, .inl (cA, n, .inr (.inl f)))) (ht : tys[t0]? = some (cA, .long)) (h1 : 0 ≤ z) (h2 : z < n) (hn : n < 2147483648) (k : Z p l e R s m args below meth c D A nL cells slots Q (pc + 1) lv (.long (f z.toNat) :: st) w) : Z p l e R s m args below meth c D A nL cells slots Q pc lv (.int (zI z) :: .ref a :: st) w := fun H locs ls hP hD hS hv => va_lald hX.1 hX.2.1 hX.2.2.2.2.2.1 hP q0 t0 ha ht (zI_in h1 h2 hn) hd (by rw [zI_cl h1 (by omega)]; exact (k H locs ls hP hD hS hv))
theorem Z.iaload (hX : Zf p m c cc nL s args own D tys A) (q0 t0 : Nat) {a : Nat} {cA : ClassId} {n : Nat} {f : Nat → Int32} {z : Int} (hd : decode cc pc = .ok (.iaload, 1)) (ha : w[q0]? = some (a, .inl (cA, n, .inl f))) (ht : tys[t0]? = some (cA, .int)) (h1 : 0 ≤ z) (h2 : z < n) (hn : n < 2147483648) (k : Z p l e R s m args below meth c D A nL cells slots Q (pc + 1) lv (.int (f z.toNat) :: st) w) : Z p l e R s m args below meth c D A nL cells slots Q pc lv (.int (zI z) :: .ref a :: st) w := fun H locs ls hP hD hS hv => va_iald hX.1 hX.2.1 hX.2.2.2.2.2.1 hP q0 t0 ha ht (zI_in h1 h2 hn) hd (by rw [zI_cl h1 (by omega)]; exact (k H locs ls hP hD hS hv))
theorem Z.zaload (hX : Zf p m c cc nL s args own D tys A) (q0 t0 : Nat) {a : Nat} {cA : ClassId} {n : Nat} {f : Nat → Int32} {z : Int} (hd : decode cc pc = .ok (.baload, 1)) (ha : w[q0]? = some (a, .inl (cA, n, .inl f))) (ht : tys[t0]? = some (cA, .boolean)) (h1 : 0 ≤ z) (h2 : z < n) (hn : n < 2147483648) (k : Z p l e R s m args below meth c D A nL cells slots Q (pc + 1) lv (.int (f z.toNat) :: st) w) : Z p l e R s m args below meth c D A nL cells slots Q pc lv (.int (zI z) :: .ref a :: st) w := fun H locs ls hP hD hS hv => va_zald hX.1 hX.2.1 hX.2.2.2.2.2.1 hP q0 t0 ha ht (zI_in h1 h2 hn) hd (by rw [zI_cl h1 (by omega)]; exact (k H locs ls hP hD hS hv))
theorem Z.lastore (hX : Zf p m c cc nL s args own D tys A) (q0 t0 : Nat) {a : Nat} {cA : ClassId} {n : Nat} {f : Nat → Int64} {x : Int64} {z : Int} (hd : decode cc pc = .ok (.lastore, 1)) (ha : w[q0]? = some (a, .inl (cA, n, .inr (.inl f)))) (ht : tys[t0]? = some (cA, .long)) (h1 : 0 ≤ z) (h2 : z < n) (hn : n < 2147483648) (k : Z p l e R s m args below meth c D A nL cells slots Q (pc + 1) lv st (w.set q0 (a, .inl (cA, n, .inr (.inl (vp_updL f z.toNat x)))))) : Z p l e R s m args below meth c D A nL cells slots Q pc lv (.long x :: .int (zI z) :: .ref a :: st) w := fun H locs ls hP hD hS hv => va_last hX.1 hX.2.1 hX.2.2.2.2.2.1 hP hD hS q0 t0 ha ht (zI_in h1 h2 hn) hd (fun H1 locs1 hP1 hD1 hS1 => by rw [zI_cl h1 (by omega)] at hP1 hD1; exact k H1 locs1 ls hP1 hD1 hS1 hv)
theorem Z.iastore (hX : Zf p m c cc nL s args own D tys A) (q0 t0 : Nat) {a : Nat} {cA : ClassId} {n : Nat} {f : Nat → Int32} {x : Int32} {z : Int} (hd : decode cc pc = .ok (.iastore, 1)) (ha : w[q0]? = some (a, .inl (cA, n, .inl f))) (ht : tys[t0]? = some (cA, .int)) (h1 : 0 ≤ z) (h2 : z < n) (hn : n < 2147483648) (k : Z p l e R s m args below meth c D A nL cells slots Q (pc + 1) lv st (w.set q0 (a, .inl (cA, n, .inl (upd f z.toNat x))))) : Z p l e R s m args below meth c D A nL cells slots Q pc lv (.int x :: .int (zI z) :: .ref a :: st) w := fun H locs ls hP hD hS hv => va_iast hX.1 hX.2.1 hX.2.2.2.2.2.1 hP hD hS q0 t0 ha ht (zI_in h1 h2 hn) hd (fun H1 locs1 hP1 hD1 hS1 => by rw [zI_cl h1 (by omega)] at hP1 hD1; exact k H1 locs1 ls hP1 hD1 hS1 hv)
theorem Z.zastore (hX : Zf p m c cc nL s args own D tys A) (q0 t0 : Nat) {a : Nat} {cA : ClassId} {n : Nat} {f : Nat → Int32} {x : Int32} {z : Int} (hd : decode cc pc = .ok (.bastore, 1)) (ha : w[q0]? = some (a, .inl (cA, n, .inl f))) (ht : tys[t0]? = some (cA, .boolean)) (h1 : 0 ≤ z) (h2 : z < n) (hn : n < 2147483648) (k : Z p l e R s m args below meth c D A nL cells slots Q (pc + 1) lv st (w.set q0 (a, .inl (cA, n, .inl (upd f z.toNat (vp_nar .boolean x)))))) : Z p l e R s m args below meth c D A nL cells slots Q pc lv (.int x :: .int (zI z) :: .ref a :: st) w := fun H locs ls hP hD hS hv => va_zast hX.1 hX.2.1 hX.2.2.2.2.2.1 hP hD hS q0 t0 ha ht (zI_in h1 h2 hn) hd (fun H1 locs1 hP1 hD1 hS1 => by rw [zI_cl h1 (by omega)] at hP1 hD1; exact k H1 locs1 ls hP1 hD1 hS1 hv)
theorem Z.ldc (hX : Zf p m c cc nL s args own D tys A) {index : Nat} {v : Int32} (z : Int) (hd : decode cc pc = .ok (.ldc index, 2)) (hc : Cond.constant own index v ∈ lw_g) (hz : v = zI z) (k : Z p l e R s m args below meth c D A nL cells slots Q (pc + 2) lv (.int (zI z) :: st) w) : Z p l e R s m args below meth c D A nL cells slots Q pc lv st w := fun H locs ls hP hD hS hv => lv_ldc hX.1 hX.2.1 hX.2.2.2.1 (hX.2.2.2.2.1 _ hc) hd (by rw [hz]; exact (k H locs ls hP hD hS hv))
theorem Z.ldc2 (hX : Zf p m c cc nL s args own D tys A) {index : Nat} {v : Int64} (hd : decode cc pc = .ok (.ldc2_w index, 3)) (hc : Cond.constantLong own index v ∈ lw_g) (k : Z p l e R s m args below meth c D A nL cells slots Q (pc + 3) lv (.long v :: st) w) : Z p l e R s m args below meth c D A nL cells slots Q pc lv st w := fun H locs ls hP hD hS hv => lv_ldc2 hX.1 hX.2.1 hX.2.2.2.1 (hX.2.2.2.2.1 _ hc) hd (k H locs ls hP hD hS hv)
theorem Z.getf (hX : Zf p m c cc nL s args own D tys A) {ref C : String} {T : u_T} {N index a : Nat} (ci q0 fk : Nat) {fs : List Value} {v : Value} (hd : decode cc pc = .ok (.getfield index, 3)) (he : w[q0]? = some (a, .inr (ci, fs))) (hc : vwCl[ci]? = some (C, T, N)) (hin : ∀ x ∈ u_ws C T N, x ∈ lw_g) (hk : fk < N) (hl : Cond.fieldLink own index ref (T fk).2.1 (T fk).2.2.1 ∈ lw_g) (hs : ref = (T fk).1) (hv0 : fs[fk]? = some v) (k : Z p l e R s m args below meth c D A nL cells slots Q (pc + 3) lv (v :: st) w) : Z p l e R s m args below meth c D A nL cells slots Q pc lv (.ref a :: st) w := fun H locs ls hP hD hS hv => va_get hX.1 hX.2.1 hX.2.2.2.2.1 hin hX.2.2.2.1 hX.2.2.2.2.2.1 hP q0 he hc fk hk (hX.2.2.2.2.1 _ hl) (fun x h => by rw [hs]; exact h) hv0 hd (k H locs ls hP hD hS hv)
theorem Z.putf (hX : Zf p m c cc nL s args own D tys A) {ref C : String} {T : u_T} {N index a : Nat} (ci q0 fk : Nat) {fs : List Value} {v : Value} {ty : FieldType} (ty0 : Nat → FieldType) (hd : decode cc pc = .ok (.putfield index, 3)) (he : w[q0]? = some (a, .inr (ci, fs))) (hc : vwCl[ci]? = some (C, T, N)) (hin : ∀ x ∈ u_ws C T N, x ∈ lw_g) (hty : ∀ k, k < N → parseFieldDescriptor (T k).2.2.1 = some (ty0 k)) (hnm : ∀ a, a < N → ∀ b, b < N → a ≠ b → (T a).2.1 ≠ (T b).2.1) (hk : fk < N) (hl : Cond.fieldLink own index ref (T fk).2.1 (T fk).2.2.1 ∈ lw_g) (hs : ref = (T fk).1) (hfin : (T fk).2.2.2 = false) (hdd : parseFieldDescriptor (T fk).2.2.1 = some ty) (hn : narrow ty v = v) (hfit : fits ty v = true) (hll : fk < fs.length) (k : Z p l e R s m args below meth c D A nL cells slots Q (pc + 3) lv st (w.set q0 (a, .inr (ci, fs.set fk v)))) : Z p l e R s m args below meth c D A nL cells slots Q pc lv (v :: .ref a :: st) w := fun H locs ls hP hD hS hv => va_put hX.1 hX.2.1 hX.2.2.2.2.1 hin ty0 hty hnm hX.2.2.2.1 hX.2.2.2.2.2.1 hP hD hS q0 he hc fk hk (hX.2.2.2.2.1 _ hl) (fun x h => by rw [hs]; exact h) hfin hdd hn hfit hll hd (fun H1 locs1 hP1 hD1 hS1 => k H1 locs1 ls hP1 hD1 hS1 hv)
end ZR2
end
section
/-! numbers under the reference's small methods -/
def lab (a : Int64) : Int64 := if a < 0 then -a else a
theorem lab_pos {a : Int64} (h : (0 : Int64) ≤ a) : a = lab a := by
  unfold lab
  rw [if_neg]
  intro q
  rw [Int64.lt_iff_toInt_lt] at q
  rw [Int64.le_iff_toInt_le] at h
  omega
theorem lab_neg {a : Int64} (h : ¬ (0 : Int64) ≤ a) : -a = lab a := by
  unfold lab
  rw [if_pos]
  rw [Int64.le_iff_toInt_le] at h
  rw [Int64.lt_iff_toInt_lt]
  omega
theorem l0 : (0 : Int64).toInt = 0 := rfl
theorem lab_0 {a : Int64} (h : lab a = 0) : a = 0 := by
  unfold lab at h
  by_cases q : a < 0
  · rw [if_pos q] at h
    rw [← Int64.neg_neg (a := a), h]
    rfl
  · rw [if_neg q] at h
    exact h
theorem lab_toInt {a : Int64} (h : a.toInt ≠ -9223372036854775808) : (lab a).toInt = a.toInt.natAbs := by
  have h1 := Int64.le_toInt a
  have h2 := Int64.toInt_lt a
  unfold lab
  by_cases q : a < 0
  · rw [if_pos q]
    rw [Int64.lt_iff_toInt_lt, l0] at q
    rw [Int64.toInt_neg, Int.bmod_eq_of_le (by omega) (by omega)]
    omega
  · rw [if_neg q]
    rw [Int64.lt_iff_toInt_lt, l0] at q
    omega
theorem l_rem (x y : Int64) : (x - (x / y) * y).toInt = x.toInt.tmod y.toInt := by
  have a := (x % y).toInt_lt
  have b := (x % y).le_toInt
  rw [Int64.toInt_mod] at a b
  rw [Int64.toInt_sub, Int64.toInt_mul, Int64.toInt_div, Int.bmod_mul_bmod, Int.sub_bmod_bmod, Int.mul_comm, ← Int.tmod_def]
  exact Int.bmod_eq_of_le (by omega) (by omega)
/-- the greatest common divisor under way -/
def cgI (a b x y : Int64) : Prop := (x = 0 → y = 0 → a = 0 ∧ b = 0) ∧ (a.toInt ≠ -9223372036854775808 → b.toInt ≠ -9223372036854775808 → 0 ≤ x.toInt ∧ 0 ≤ y.toInt ∧ Int.gcd x.toInt y.toInt = Int.gcd a.toInt b.toInt)
def cgE (a b r : Int64) : Prop := (r = 0 → a = 0 ∧ b = 0) ∧ (a.toInt ≠ -9223372036854775808 → b.toInt ≠ -9223372036854775808 → r.toInt = Int.gcd a.toInt b.toInt)
theorem cgI_0 (a b : Int64) : cgI a b (lab a) (lab b) := by
  refine ⟨fun h1 h2 => ⟨lab_0 h1, lab_0 h2⟩, fun h1 h2 => ?_⟩
  rw [lab_toInt h1, lab_toInt h2]
  refine ⟨by omega, by omega, ?_⟩
  simp [Int.gcd]
theorem cgI_s {a b x y : Int64} (hy : ¬ y = 0) (h : cgI a b x y) : cgI a b y (x - x / y * y) := by
  refine ⟨fun h1 _ => absurd h1 hy, fun h1 h2 => ?_⟩
  obtain ⟨g1, g2, g3⟩ := h.2 h1 h2
  have hy0 : y.toInt ≠ 0 := fun q => hy (Int64.toInt_inj.mp q)
  rw [l_rem, Int.tmod_eq_emod_of_nonneg g1]
  refine ⟨g2, Int.emod_nonneg _ hy0, ?_⟩
  rw [← g3]
  obtain ⟨u, hu⟩ := Int.eq_ofNat_of_zero_le g1
  obtain ⟨v, hv⟩ := Int.eq_ofNat_of_zero_le g2
  rw [hu, hv]
  show Nat.gcd v (u % v) = Nat.gcd u v
  rw [Nat.gcd_comm v (u % v), ← Nat.gcd_rec v u, Nat.gcd_comm]
theorem cgI_e {a b x y : Int64} (hy : y = 0) (h : cgI a b x y) : cgE a b x := by
  refine ⟨fun q => h.1 q hy, fun h1 h2 => ?_⟩
  obtain ⟨g1, g2, g3⟩ := h.2 h1 h2
  rw [hy, l0] at g3
  rw [← g3]
  simp
  omega
theorem cg_dec {x y : Int64} (hy : ¬ y = 0) : (x - x / y * y).toInt.natAbs < y.toInt.natAbs := by
  have hy0 : y.toInt ≠ 0 := fun q => hy (Int64.toInt_inj.mp q)
  rw [l_rem, Int.natAbs_tmod]
  exact Nat.mod_lt _ (by omega)
def lpow (b : Int64) : Nat → Int64
  | 0 => 1
  | n + 1 => lpow b n * b
theorem lpow_s {b : Int64} {k : Int} (h : 0 ≤ k) : lpow b k.toNat * b = lpow b (k + 1).toNat := by
  have : (k + 1).toNat = k.toNat + 1 := by omega
  rw [this]
  rfl
def pc8 (n : Nat) : Nat := n % 2 + n / 2 % 2 + n / 4 % 2 + n / 8 % 2 + n / 16 % 2 + n / 32 % 2 + n / 64 % 2 + n / 128 % 2
theorem pc8_t : ∀ n : Fin 256, n.val ≠ 0 → zI (n.val : Int) &&& zI ((n.val : Int) - 1) = zI ((n.val &&& (n.val - 1) : Nat) : Int) ∧ (n.val &&& (n.val - 1)) < n.val ∧ pc8 (n.val &&& (n.val - 1)) + 1 = pc8 n.val := by decide +kernel
theorem pc8_s {a : Int} (h0 : 0 ≤ a) (h1 : a < 256) (hn : ¬ a = 0) : ∃ t : Int, zI a &&& zI (a - 1) = zI t ∧ 0 ≤ t ∧ t < a ∧ (pc8 t.toNat : Int) + 1 = pc8 a.toNat := by
  obtain ⟨n, rfl⟩ := Int.eq_ofNat_of_zero_le h0
  obtain ⟨e1, e2, e3⟩ := pc8_t ⟨n, by omega⟩ (by simpa using hn)
  refine ⟨((n &&& (n - 1) : Nat) : Int), e1, by omega, by exact_mod_cast e2, ?_⟩
  show ((pc8 (n &&& (n - 1)) : Nat) : Int) + 1 = (pc8 n : Nat)
  exact_mod_cast e3
theorem zL_toInt {z : Int} (h1 : -9223372036854775808 ≤ z) (h2 : z < 9223372036854775808) : (zL z).toInt = z := Int64.toInt_ofInt_of_le h1 h2
theorem zL_add (a b : Int) : zL a + zL b = zL (a + b) := (Int64.ofInt_add a b).symm
theorem zL_sub (a b : Int) : zL a - zL b = zL (a - b) := (Int64.ofInt_sub a b).symm
theorem zL_mul (a b : Int) : zL a * zL b = zL (a * b) := (Int64.ofInt_mul a b).symm
theorem zL_1 : (1 : Int64) = zL 1 := rfl
theorem zL_of (x : Int64) : x = zL x.toInt := (Int64.ofInt_toInt x).symm
/-- powers that don't pass v -/
def abI (b v p : Int64) (i : Int) : Prop := p.toInt = b.toInt ^ i.toNat ∧ 1 ≤ p.toInt ∧ (i = 0 ∨ p.toInt ≤ v.toInt)
theorem abI_0 (b v : Int64) : abI b v 1 0 := ⟨by show (1 : Int) = b.toInt ^ 0; rw [Int.pow_zero], by decide, Or.inl rfl⟩
theorem abI_s {b v p : Int64} {i : Int} (hb : 1 ≤ b.toInt) (hi : 0 ≤ i) (h : abI b v p i) (hc : p ≤ v / b) : abI b v (p * b) (i + 1) := by
  obtain ⟨h1, h2, -⟩ := h
  have hbm := Int64.toInt_lt b
  have hvm := Int64.toInt_lt v
  have hvl := Int64.le_toInt v
  rw [Int64.le_iff_toInt_le, Int64.toInt_div_of_ne_right v b (by intro q; rw [q] at hb; exact absurd hb (by decide))] at hc
  have hv : 0 ≤ v.toInt := by
    rcases Int.le_total 0 v.toInt with q | q
    · exact q
    · have e1 : v.toInt.tdiv b.toInt = -((-v.toInt).tdiv b.toInt) := by rw [Int.neg_tdiv, Int.neg_neg]
      have e2 : 0 ≤ (-v.toInt).tdiv b.toInt := Int.tdiv_nonneg (by omega) (by omega)
      omega
  rw [Int.tdiv_eq_ediv_of_nonneg hv] at hc
  have h3 : p.toInt * b.toInt ≤ v.toInt := (Int.le_ediv_iff_mul_le (by omega)).mp hc
  have h4 : 1 ≤ p.toInt * b.toInt := by
    have := Int.mul_le_mul h2 hb (by decide) (by omega)
    omega
  have h5 : (p * b).toInt = p.toInt * b.toInt := by
    rw [Int64.toInt_mul]
    exact Int.bmod_eq_of_le (by omega) (by omega)
  refine ⟨?_, by omega, Or.inr (by omega)⟩
  have : (i + 1).toNat = i.toNat + 1 := by omega
  rw [h5, h1, this, Int.pow_succ]
theorem pc8_e {t n a : Int} (e0 : t = 0) (hn : n + pc8 t.toNat = pc8 a.toNat) : n = pc8 a.toNat := by
  rw [e0] at hn
  have : (pc8 (0 : Int).toNat : Int) = 0 := rfl
  omega
theorem abI_e {b v p : Int64} {i k : Int} (h : abI b v p i) (e : i = k) (hc : p ≤ v) : b.toInt ^ k.toNat ≤ v.toInt := by
  rw [← e, ← h.1]
  exact Int64.le_iff_toInt_le.mp hc
theorem dg_ih {f : Nat → Int64} {z : Int} (h2 : ∀ k : Int, z < k → k ≤ 4 → f k.toNat = 0) (h : f z.toNat = 0) : ∀ k : Int, z + -1 < k → k ≤ 4 → f k.toNat = 0 := by
  intro k h3 h4
  by_cases e : k = z
  · rw [e]; exact h
  · exact h2 k (by omega) h4
theorem zL_le {a b : Int} (ha : -9223372036854775808 ≤ a ∧ a < 9223372036854775808) (hb : -9223372036854775808 ≤ b ∧ b < 9223372036854775808) : zL a ≤ zL b ↔ a ≤ b := by
  rw [Int64.le_iff_toInt_le, zL_toInt ha.1 ha.2, zL_toInt hb.1 hb.2]
theorem zL_nle {a b : Int} (ha : -9223372036854775808 ≤ a ∧ a < 9223372036854775808) (hb : -9223372036854775808 ≤ b ∧ b < 9223372036854775808) (h : ¬ zL b ≤ zL a) : a < b := by
  rw [zL_le hb ha] at h
  omega
theorem zL_mid {a b : Int} (h : 1 ≤ a ∧ a ≤ b ∧ b ≤ 2000000000) : (zL a + zL b + 1) / 2 = zL ((a + b + 1) / 2) := by
  rw [zL_1, zL_add, zL_add]
  apply Int64.toInt_inj.mp
  rw [Int64.toInt_div_of_ne_right _ _ (by decide), zL_toInt (by omega) (by omega), zL_toInt (by omega) (by omega)]
  exact Int.tdiv_eq_ediv_of_nonneg (by omega)
theorem lpow_one : ∀ n : Nat, lpow (zL 1) n = 1
  | 0 => rfl
  | n + 1 => by
    show lpow (zL 1) n * zL 1 = 1
    rw [lpow_one n]
    rfl
theorem rt_mid {a b k : Int} {v : Int64} (h : 1 ≤ a ∧ a ≤ b ∧ b ≤ 2000000000) (hq : (zL ((a + b + 1) / 2)).toInt ^ k.toNat ≤ v.toInt) : (a + b + 1) / 2 = 1 ∨ ((a + b + 1) / 2) ^ k.toNat ≤ v.toInt := by
  rw [zL_toInt (by omega) (by omega)] at hq
  exact Or.inr hq
theorem rt_end {a b k i : Int} {v q : Int64} (h : 1 ≤ a ∧ a ≤ b ∧ b ≤ 2000000000) (hv : a = 1 ∨ a ^ k.toNat ≤ v.toInt) (hq : q = lpow (zL a) i.toNat) (hqv : q = v) : zL a = 0 ∨ (1 ≤ (zL a).toInt ∧ (zL a).toInt ≤ 2000000000 ∧ (zL a).toInt ^ k.toNat ≤ v.toInt) := by
  rw [zL_toInt (by omega) (by omega)]
  refine Or.inr ⟨h.1, by omega, ?_⟩
  rcases hv with e | e
  · rw [e, lpow_one] at hq
    rw [e, Int.one_pow, ← hqv, hq]
    decide
  · exact e
theorem up_eq {α : Type} {f : Nat → α} {k : Nat} {v : α} : va_up f k v k = v := if_pos rfl
theorem up_ne {α : Type} {f : Nat → α} {k j : Nat} {v : α} (h : j ≠ k) : va_up f k v j = f j := if_neg h
theorem up_at {f : Nat → Int64} {k : Int} {x : Int64} (hk : 0 ≤ k) {j : Int} (hj : 0 ≤ j) : vp_updL f k.toNat x j.toNat = if j = k then x else f j.toNat := by
  by_cases e : j = k
  · rw [if_pos e, e]; exact if_pos rfl
  · rw [if_neg e]; exact if_neg (by omega)
theorem red_z {f g : Nat → Int64} {k : Int} {c : Int64} (hk : 0 ≤ k) (hz : ∀ j : Int, 0 ≤ j → j < 5 → f j.toNat = 0 → g j.toNat = 0) : ∀ j : Int, 0 ≤ j → j < 5 → f j.toNat = 0 → vp_updL g k.toNat (g k.toNat / c) j.toNat = 0 := by
  intro j h1 h2 h3
  rw [up_at hk h1]
  by_cases e : j = k
  · rw [if_pos e, ← e, hz j h1 h2 h3]; exact Int64.zero_div
  · rw [if_neg e]; exact hz j h1 h2 h3
theorem dg_uq {f : Nat → Int64} {z z' : Int} (h1 : -1 ≤ z ∧ z ≤ 4) (h2 : ∀ k : Int, z < k → k ≤ 4 → f k.toNat = 0) (h3 : 0 ≤ z → f z.toNat ≠ 0) (g1 : -1 ≤ z' ∧ z' ≤ 4) (g2 : ∀ k : Int, z' < k → k ≤ 4 → f k.toNat = 0) (g3 : 0 ≤ z' → f z'.toNat ≠ 0) : z = z' := by
  rcases Int.lt_trichotomy z z' with q | q | q
  · exact absurd (h2 z' q g1.2) (g3 (by omega))
  · exact q
  · exact absurd (g2 z q h1.2) (h3 (by omega))
theorem dv_mul {X X' Y : Nat → Int64} {k : Int} {b : Int64} (hk : 0 ≤ k) (e : X' = vp_updL X k.toNat (X k.toNat * b)) (hp : ∀ j : Int, 0 ≤ j → j ≤ 4 → X j.toNat = if j < k then Y j.toNat * b else Y j.toNat) : ∀ j : Int, 0 ≤ j → j ≤ 4 → X' j.toNat = if j < k + 1 then Y j.toNat * b else Y j.toNat := by
  intro j h1 h2
  rw [e, up_at hk h1]
  by_cases q : j = k
  · rw [if_pos q, if_pos (by omega), ← q, hp j h1 h2, if_neg (by omega)]
  · rw [if_neg q, hp j h1 h2]
    by_cases r : j < k
    · rw [if_pos r, if_pos (by omega)]
    · rw [if_neg r, if_neg (by omega)]
theorem dv_sub {X X' T : Nat → Int64} {k d e0 : Int} {a : Int64} (he : 0 ≤ e0) (hde : d ≤ e0) (hk : 0 ≤ k ∧ k ≤ d) (e : X' = vp_updL X (e0 - d + k).toNat (X (e0 - d + k).toNat - a * T k.toNat)) (h : (k ≤ d → X e0.toNat = a * T d.toNat) ∧ (d < k → X e0.toNat = 0)) : (k + 1 ≤ d → X' e0.toNat = a * T d.toNat) ∧ (d < k + 1 → X' e0.toNat = 0) := by
  rw [e, up_at (by omega) he]
  by_cases q : k = d
  · refine ⟨fun h1 => by omega, fun _ => ?_⟩
    rw [if_pos (by omega), show e0 - d + k = e0 by omega, h.1 (by omega), q]
    exact Int64.sub_self _
  · refine ⟨fun _ => ?_, fun h1 => by omega⟩
    rw [if_neg (by omega)]
    exact h.1 hk.2
theorem dv_sw {X Y X' Y' U W : Nat → Int64} {k : Int} (hk : 0 ≤ k) (eX : X' = vp_updL X k.toNat (Y k.toNat)) (eY : Y' = vp_updL Y k.toNat (X k.toNat)) (hk4 : k ≤ 4) (h0 : ∀ j : Int, k ≤ j → j ≤ 4 → X j.toNat = U j.toNat ∧ Y j.toNat = W j.toNat) (hs : ∀ j : Int, 0 ≤ j → j < k → X j.toNat = W j.toNat ∧ Y j.toNat = U j.toNat) :
    (∀ j : Int, k + 1 ≤ j → j ≤ 4 → X' j.toNat = U j.toNat ∧ Y' j.toNat = W j.toNat) ∧ (∀ j : Int, 0 ≤ j → j < k + 1 → X' j.toNat = W j.toNat ∧ Y' j.toNat = U j.toNat) := by
  constructor
  · intro j h1 h2
    rw [eX, eY, up_at hk (by omega), up_at hk (by omega), if_neg (by omega), if_neg (by omega)]
    exact h0 j (by omega) h2
  · intro j h1 h2
    rw [eX, eY, up_at hk h1, up_at hk h1]
    by_cases q : j = k
    · rw [if_pos q, if_pos q, ← q]
      have := h0 j (by omega) (by omega)
      exact ⟨this.2, this.1⟩
    · rw [if_neg q, if_neg q]
      exact hs j h1 (by omega)
theorem dg_le {f : Nat → Int64} {z t : Int} (h1 : -1 ≤ z ∧ z ≤ 4) (h3 : 0 ≤ z → f z.toNat ≠ 0) (hz : ∀ k : Int, t < k → k ≤ 4 → f k.toNat = 0) (h0 : 0 ≤ z) : z ≤ t := by
  rcases Int.lt_or_le t z with q | q
  · exact absurd (hz z q h1.2) (h3 h0)
  · exact q
theorem dv_top {X : Nat → Int64} {e0 j : Int} (h : X e0.toNat = 0) (hz : ∀ j : Int, e0 < j → j ≤ 4 → X j.toNat = 0) (h1 : e0 ≤ j) (h2 : j ≤ 4) : X j.toNat = 0 := by
  by_cases e : j = e0
  · rw [e]; exact h
  · exact hz j (by omega) h2
end
section
/-! numbers under the class's small methods -/
/-- Euclid's way takes no more steps than the class counts -/
def cgP (x y : Int64) (i : Int) : Prop := i = 0 ∨ (y.toInt.natAbs ≤ x.toInt.natAbs ∧ x.toInt.natAbs * y.toInt.natAbs * 2 ^ (i - 1).toNat ≤ 2 ^ 126)
theorem abs_le63 (x : Int64) : x.toInt.natAbs ≤ 2 ^ 63 := by
  have h1 := Int64.le_toInt x
  have h2 := Int64.toInt_lt x
  omega
theorem cgP_s {x y : Int64} {i : Int} (hi : 0 ≤ i) (hy : ¬ y = 0) (h : cgP x y i) : cgP y (x - x / y * y) (i + 1) := by
  have hy0 : y.toInt.natAbs ≠ 0 := fun q => hy (Int64.toInt_inj.mp (by rw [l0]; omega))
  have e1 : (x - x / y * y).toInt.natAbs = x.toInt.natAbs % y.toInt.natAbs := by rw [l_rem, Int.natAbs_tmod]
  right
  rw [e1]
  have hlt := Nat.mod_lt x.toInt.natAbs (Nat.pos_of_ne_zero hy0)
  refine ⟨Nat.le_of_lt hlt, ?_⟩
  have e2 : (i + 1 - 1).toNat = i.toNat := by omega
  rw [e2]
  rcases h with h | ⟨h1, h2⟩
  · rw [h]
    show _ * 1 ≤ _
    rw [Nat.mul_one]
    have a1 := abs_le63 y
    have a2 : x.toInt.natAbs % y.toInt.natAbs ≤ 2 ^ 63 := by omega
    calc y.toInt.natAbs * (x.toInt.natAbs % y.toInt.natAbs) ≤ 2 ^ 63 * 2 ^ 63 := Nat.mul_le_mul a1 a2
      _ = 2 ^ 126 := by decide
  · rcases Nat.eq_zero_or_pos i.toNat with q | q
    · have a1 := abs_le63 y
      have a2 : x.toInt.natAbs % y.toInt.natAbs ≤ 2 ^ 63 := by omega
      rw [q]
      show _ * 1 ≤ _
      rw [Nat.mul_one]
      calc y.toInt.natAbs * (x.toInt.natAbs % y.toInt.natAbs) ≤ 2 ^ 63 * 2 ^ 63 := Nat.mul_le_mul a1 a2
        _ = 2 ^ 126 := by decide
    · have e3 : i.toNat = (i - 1).toNat + 1 := by omega
      rw [e3, Nat.pow_succ]
      have hhalf : x.toInt.natAbs % y.toInt.natAbs * 2 ≤ x.toInt.natAbs := by
        have d1 := Nat.div_add_mod x.toInt.natAbs y.toInt.natAbs
        have d2 : 1 ≤ x.toInt.natAbs / y.toInt.natAbs := (Nat.one_le_div_iff (Nat.pos_of_ne_zero hy0)).mpr h1
        have d3 : y.toInt.natAbs * 1 ≤ y.toInt.natAbs * (x.toInt.natAbs / y.toInt.natAbs) := Nat.mul_le_mul_left _ d2
        omega
      calc y.toInt.natAbs * (x.toInt.natAbs % y.toInt.natAbs) * (2 ^ (i - 1).toNat * 2) = (x.toInt.natAbs % y.toInt.natAbs * 2) * y.toInt.natAbs * 2 ^ (i - 1).toNat := by
            rw [Nat.mul_comm y.toInt.natAbs, Nat.mul_comm (2 ^ (i - 1).toNat) 2, ← Nat.mul_assoc, Nat.mul_right_comm _ y.toInt.natAbs 2]
        _ ≤ x.toInt.natAbs * y.toInt.natAbs * 2 ^ (i - 1).toNat := Nat.mul_le_mul_right _ (Nat.mul_le_mul_right _ hhalf)
        _ ≤ 2 ^ 126 := h2
theorem cgP_e {x y : Int64} {i : Int} (hi : 128 ≤ i) (h : cgP x y i) : y = 0 := by
  rcases h with h | ⟨h1, h2⟩
  · omega
  · have h3 : 2 ^ 127 ≤ 2 ^ (i - 1).toNat := Nat.pow_le_pow_right (by decide) (by omega)
    have hz : x.toInt.natAbs * y.toInt.natAbs = 0 := by
      rcases Nat.eq_zero_or_pos (x.toInt.natAbs * y.toInt.natAbs) with q | q
      · exact q
      · have h4 : 1 * 2 ^ 127 ≤ x.toInt.natAbs * y.toInt.natAbs * 2 ^ (i - 1).toNat := Nat.mul_le_mul q h3
        have h5 : (2 : Nat) ^ 126 < 1 * 2 ^ 127 := by decide
        omega
    rcases Nat.mul_eq_zero.mp hz with q | q
    · exact Int64.toInt_inj.mp (by rw [l0]; omega)
    · exact Int64.toInt_inj.mp (by rw [l0]; omega)
def sl (d : Int) : Int := d * (d + 1) / 2
theorem sl_m {d : Int} (h : 0 ≤ d ∧ d ≤ 6) : 0 ≤ d * (d + 1) ∧ d * (d + 1) ≤ 42 := by
  have h1 : d = 0 ∨ d = 1 ∨ d = 2 ∨ d = 3 ∨ d = 4 ∨ d = 5 ∨ d = 6 := by omega
  rcases h1 with rfl | rfl | rfl | rfl | rfl | rfl | rfl <;> decide
theorem sl_b {d : Int} (h : 0 ≤ d ∧ d ≤ 6) : 0 ≤ sl d ∧ sl d + d ≤ 27 := by
  have h1 : d = 0 ∨ d = 1 ∨ d = 2 ∨ d = 3 ∨ d = 4 ∨ d = 5 ∨ d = 6 := by omega
  rcases h1 with rfl | rfl | rfl | rfl | rfl | rfl | rfl <;> decide
theorem fl_s {f f' : Nat → Int64} {k : Int} {v : Int64} (hk : 0 ≤ k) (e : f' = vp_updL f k.toNat v) (hz : ∀ q : Int, 0 ≤ q → q < k → f q.toNat = v) : ∀ q : Int, 0 ≤ q → q < k + 1 → f' q.toNat = v := by
  intro q h1 h2
  rw [e, up_at hk h1]
  by_cases r : q = k
  · rw [if_pos r]
  · rw [if_neg r]; exact hz q h1 (by omega)
end
section
/-! polynomials as functions; what two of them generate, up to whole factors -/
def sh (p : Nat → Int) : Nat → Int := fun i => match i with
  | 0 => 0
  | k + 1 => p k
def shN : Nat → (Nat → Int) → Nat → Int
  | 0, p => p
  | k + 1, p => sh (shN k p)
theorem shN_at (p : Nat → Int) : ∀ k i, shN k p i = if i < k then 0 else p (i - k)
  | 0, i => by rw [if_neg (Nat.not_lt_zero i)]; rfl
  | k + 1, 0 => by rw [if_pos (Nat.succ_pos k)]; rfl
  | k + 1, i + 1 => by
    show shN k p i = _
    rw [shN_at p k i]
    by_cases h : i < k
    · rw [if_pos h, if_pos (by omega)]
    · rw [if_neg h, if_neg (by omega), show i + 1 - (k + 1) = i - k by omega]
def Cl (S : (Nat → Int) → Prop) : Prop := (∀ a b : Nat → Int, S a → S b → S (fun i => a i + b i)) ∧ (∀ (c : Int) (a : Nat → Int), S a → S (fun i => c * a i)) ∧ (∀ a : Nat → Int, S a → S (sh a)) ∧ (∀ (n : Int) (a : Nat → Int), n ≠ 0 → S (fun i => n * a i) → S a)
theorem Cl.shN {S : (Nat → Int) → Prop} (h : Cl S) {a : Nat → Int} (ha : S a) : ∀ k, S (shN k a)
  | 0 => ha
  | k + 1 => h.2.2.1 _ (Cl.shN h ha k)
def RS (X Y p : Nat → Int) : Prop := ∀ S : (Nat → Int) → Prop, Cl S → S X → S Y → S p
def EQ2 (X Y A B : Nat → Int) : Prop := RS X Y A ∧ RS X Y B ∧ RS A B X ∧ RS A B Y
theorem EQ2.rf (X Y : Nat → Int) : EQ2 X Y X Y := ⟨fun _ _ h _ => h, fun _ _ _ h => h, fun _ _ h _ => h, fun _ _ _ h => h⟩
theorem EQ2.tr {X Y A B C D : Nat → Int} (h1 : EQ2 X Y A B) (h2 : EQ2 A B C D) : EQ2 X Y C D := ⟨fun S c x y => h2.1 S c (h1.1 S c x y) (h1.2.1 S c x y), fun S c x y => h2.2.1 S c (h1.1 S c x y) (h1.2.1 S c x y), fun S c x y => h1.2.2.1 S c (h2.2.2.1 S c x y) (h2.2.2.2 S c x y), fun S c x y => h1.2.2.2 S c (h2.2.2.1 S c x y) (h2.2.2.2 S c x y)⟩
theorem EQ2.sm {X Y A B : Nat → Int} (h : EQ2 X Y A B) : EQ2 A B X Y := ⟨h.2.2.1, h.2.2.2, h.1, h.2.1⟩
theorem EQ2.sw {X Y A B : Nat → Int} (h : EQ2 X Y A B) : EQ2 X Y B A := ⟨h.2.1, h.1, fun S c x y => h.2.2.1 S c y x, fun S c x y => h.2.2.2 S c y x⟩
theorem EQ2.low {A B A1 : Nat → Int} {m sf ot : Int} {k : Nat} (hm : m ≠ 0) (hs : sf ≠ 0) (h : ∀ i, m * A1 i = sf * A i - ot * shN k B i) : EQ2 A B A1 B := by
  refine ⟨fun S c a b => ?_, fun _ _ _ b => b, fun S c a b => ?_, fun _ _ _ b => b⟩
  · refine c.2.2.2 m A1 hm ?_
    have e : (fun i => m * A1 i) = fun i => sf * A i + (-ot) * shN k B i := funext fun i => by rw [h i, Int.neg_mul]; omega
    rw [e]
    exact c.1 _ _ (c.2.1 sf _ a) (c.2.1 (-ot) _ (c.shN b k))
  · refine c.2.2.2 sf A hs ?_
    have e : (fun i => sf * A i) = fun i => m * A1 i + ot * shN k B i := funext fun i => by rw [h i]; omega
    rw [e]
    exact c.1 _ _ (c.2.1 m _ a) (c.2.1 ot _ (c.shN b k))
theorem EQ2.sc {A B A1 : Nat → Int} {m n : Int} (hm : m ≠ 0) (hn : n ≠ 0) (h : ∀ i, m * A1 i = n * A i) : EQ2 A B A1 B := EQ2.low (ot := 0) (k := 0) hm hn (fun i => by rw [h i, Int.zero_mul, Int.sub_zero])
def conv : List Int → (Nat → Int) → Nat → Int
  | [], _ => fun _ => 0
  | a :: c, g => fun i => a * g i + sh (conv c g) i
theorem conv_s (a : Int) (c : List Int) (g : Nat → Int) (i : Nat) : conv (a :: c) g (i + 1) = a * g (i + 1) + conv c g i := rfl
theorem conv_0 (a : Int) (c : List Int) (g : Nat → Int) : conv (a :: c) g 0 = a * g 0 := by
  show a * g 0 + 0 = _
  omega
def ladd : List Int → List Int → List Int
  | [], d => d
  | c, [] => c
  | a :: c, b :: d => (a + b) :: ladd c d
theorem conv_add (g : Nat → Int) : ∀ (c d : List Int) (i : Nat), conv (ladd c d) g i = conv c g i + conv d g i
  | [], d, i => by
    show conv d g i = 0 + conv d g i
    omega
  | a :: c, [], i => by
    show conv (a :: c) g i = conv (a :: c) g i + 0
    omega
  | a :: c, b :: d, 0 => by
    show conv ((a + b) :: ladd c d) g 0 = _
    rw [conv_0, conv_0, conv_0, Int.add_mul]
  | a :: c, b :: d, i + 1 => by
    show conv ((a + b) :: ladd c d) g (i + 1) = _
    rw [conv_s, conv_s, conv_s, conv_add g c d i, Int.add_mul]
    omega
theorem conv_mul (g : Nat → Int) (k : Int) : ∀ (c : List Int) (i : Nat), conv (c.map (fun x => k * x)) g i = k * conv c g i
  | [], i => by
    show (0 : Int) = k * 0
    omega
  | a :: c, 0 => by
    show conv ((k * a) :: c.map (fun x => k * x)) g 0 = _
    rw [conv_0, conv_0, Int.mul_assoc]
  | a :: c, i + 1 => by
    show conv ((k * a) :: c.map (fun x => k * x)) g (i + 1) = _
    rw [conv_s, conv_s, conv_mul g k c i, Int.mul_add, Int.mul_assoc]
theorem conv_sh (g : Nat → Int) (c : List Int) : ∀ i, conv (0 :: c) g i = sh (conv c g) i
  | 0 => by rw [conv_0, Int.zero_mul]; rfl
  | i + 1 => by
    rw [conv_s, Int.zero_mul, Int.zero_add]
    rfl
theorem conv_z {g : Nat → Int} (hg : ∀ i, g i = 0) : ∀ (c : List Int) (i : Nat), conv c g i = 0
  | [], _ => rfl
  | a :: c, 0 => by rw [conv_0, hg, Int.mul_zero]
  | a :: c, i + 1 => by rw [conv_s, hg, Int.mul_zero, conv_z hg c i]; rfl
def MS (g : Nat → Int) (p : Nat → Int) : Prop := ∃ n : Int, n ≠ 0 ∧ ∃ c : List Int, ∀ i, n * p i = conv c g i
theorem MS.cl (g : Nat → Int) : Cl (MS g) := by
  refine ⟨?_, ?_, ?_, ?_⟩
  · rintro a b ⟨n, hn, c, hc⟩ ⟨m, hm, d, hd⟩
    refine ⟨n * m, Int.mul_ne_zero hn hm, ladd (c.map (fun x => m * x)) (d.map (fun x => n * x)), fun i => ?_⟩
    rw [conv_add, conv_mul, conv_mul, ← hc i, ← hd i, Int.mul_add, Int.mul_assoc, Int.mul_assoc, Int.mul_left_comm m n (a i)]
  · rintro k a ⟨n, hn, c, hc⟩
    refine ⟨n, hn, c.map (fun x => k * x), fun i => ?_⟩
    rw [conv_mul, ← hc i, Int.mul_left_comm]
  · rintro a ⟨n, hn, c, hc⟩
    refine ⟨n, hn, 0 :: c, fun i => ?_⟩
    rw [conv_sh]
    cases i with
    | zero => show n * 0 = 0; omega
    | succ i => exact hc i
  · rintro k a hk ⟨n, hn, c, hc⟩
    refine ⟨n * k, Int.mul_ne_zero hn hk, c, fun i => ?_⟩
    rw [Int.mul_assoc]
    exact hc i
def p0 : Nat → Int := fun _ => 0
theorem RS.ms {g p : Nat → Int} (h : RS g p0 p) : MS g p := h _ (MS.cl g) ⟨1, by decide, [1], fun i => by
    cases i with
    | zero => rw [conv_0]
    | succ i => rw [conv_s]; show _ = _ + 0; omega⟩ ⟨1, by decide, [], fun i => by show 1 * (0 : Int) = 0; decide⟩
def top (g : Nat → Int) (d : Nat) : Prop := g d ≠ 0 ∧ ∀ i, d < i → g i = 0
theorem convZ {g : Nat → Int} {d : Nat} (hg : top g d) : ∀ c : List Int, (∀ j, d ≤ j → conv c g j = 0) → ∀ i, conv c g i = 0
  | [], _, _ => rfl
  | a :: c, h, i => by
    have h1 : ∀ j, d ≤ j → conv c g j = 0 := fun j hj => by
      have h2 := h (j + 1) (by omega)
      rw [conv_s, hg.2 (j + 1) (by omega), Int.mul_zero, Int.zero_add] at h2
      exact h2
    have h3 := convZ hg c h1
    have h4 : ∀ i, conv (a :: c) g i = a * g i := fun i => by
      cases i with
      | zero => rw [conv_0]
      | succ i => rw [conv_s, h3 i, Int.add_zero]
    have h5 := h d (Nat.le_refl d)
    rw [h4 d] at h5
    have h6 : a = 0 := (Int.mul_eq_zero.mp h5).resolve_right hg.1
    rw [h4 i, h6, Int.zero_mul]
theorem convH {g : Nat → Int} {d : Nat} (hg : top g d) {c : List Int} (h : ∀ j, d < j → conv c g j = 0) : ∃ k : Int, ∀ i, conv c g i = k * g i := by
  cases c with
  | nil => exact ⟨0, fun i => by rw [Int.zero_mul]; rfl⟩
  | cons a c =>
    have h1 : ∀ j, d ≤ j → conv c g j = 0 := fun j hj => by
      have h2 := h (j + 1) (by omega)
      rw [conv_s, hg.2 (j + 1) (by omega), Int.mul_zero, Int.zero_add] at h2
      exact h2
    have h3 := convZ hg c h1
    refine ⟨a, fun i => ?_⟩
    cases i with
    | zero => rw [conv_0]
    | succ i => rw [conv_s, h3 i, Int.add_zero]
def Pr (g : Nat → Int) : Prop := ∀ m : Nat, (∀ i, (m : Int) ∣ g i) → m = 1
theorem Pr.dv {g : Nat → Int} (pr : Pr g) {c n : Int} (hc : c ≠ 0) (h : ∀ i, c ∣ n * g i) : c ∣ n := by
  have hC : 0 < c.natAbs := Int.natAbs_pos.mpr hc
  have hd : 0 < Nat.gcd c.natAbs n.natAbs := Nat.gcd_pos_of_pos_left _ hC
  obtain ⟨C1, hC1⟩ := Nat.gcd_dvd_left c.natAbs n.natAbs
  obtain ⟨N1, hN1⟩ := Nat.gcd_dvd_right c.natAbs n.natAbs
  have hco : Nat.Coprime C1 N1 := by
    have h1 := Nat.coprime_div_gcd_div_gcd (m := c.natAbs) (n := n.natAbs) hd
    have e1 : c.natAbs / Nat.gcd c.natAbs n.natAbs = C1 := Nat.div_eq_of_eq_mul_right hd hC1
    have e2 : n.natAbs / Nat.gcd c.natAbs n.natAbs = N1 := Nat.div_eq_of_eq_mul_right hd hN1
    rw [e1, e2] at h1
    exact h1
  have h2 : C1 = 1 := pr C1 (fun i => by
    have h3 : c.natAbs ∣ n.natAbs * (g i).natAbs := by
      rw [← Int.natAbs_mul]
      exact Int.natAbs_dvd_natAbs.mpr (h i)
    generalize Nat.gcd c.natAbs n.natAbs = d at *
    rw [hC1, hN1, Nat.mul_assoc] at h3
    have h4 : C1 ∣ N1 * (g i).natAbs := Nat.dvd_of_mul_dvd_mul_left hd h3
    have h5 : C1 ∣ (g i).natAbs := Nat.Coprime.dvd_of_dvd_mul_left hco h4
    exact Int.ofNat_dvd_left.mpr h5)
  rw [h2, Nat.mul_one] at hC1
  apply Int.natAbs_dvd_natAbs.mp
  rw [hC1]
  exact Nat.gcd_dvd_right _ _
def Nm (g : Nat → Int) : Prop := (∀ i, g i = 0) ∨ ∃ d, top g d ∧ 0 < g d ∧ Pr g
theorem uniq {g g1 : Nat → Int} (h : EQ2 g p0 g1 p0) (n1 : Nm g) (n2 : Nm g1) : ∀ i, g i = g1 i := by
  obtain ⟨n, hn, c, hc⟩ := RS.ms h.1
  obtain ⟨m, hm, e, he⟩ := RS.ms h.2.2.1
  rcases n1 with z | ⟨d, td, pd, pr⟩
  · intro i
    have h1 := hc i
    rw [conv_z z] at h1
    rw [z i, (Int.mul_eq_zero.mp h1).resolve_left hn]
  · rcases n2 with z | ⟨d1, td1, pd1, pr1⟩
    · have h1 := he d
      rw [conv_z z] at h1
      exact absurd ((Int.mul_eq_zero.mp h1).resolve_left hm) td.1
    · have hle : d ≤ d1 := Nat.le_of_not_lt fun q => by
        have h1 := convZ td c (fun j hj => by rw [← hc j, td1.2 j (by omega), Int.mul_zero]) d1
        rw [← hc d1] at h1
        exact td1.1 ((Int.mul_eq_zero.mp h1).resolve_left hn)
      have hge : d1 ≤ d := Nat.le_of_not_lt fun q => by
        have h1 := convZ td1 e (fun j hj => by rw [← he j, td.2 j (by omega), Int.mul_zero]) d
        rw [← he d] at h1
        exact td.1 ((Int.mul_eq_zero.mp h1).resolve_left hm)
      have hdd : d1 = d := Nat.le_antisymm hge hle
      subst hdd
      obtain ⟨k, hk⟩ := convH td (c := c) (fun j hj => by rw [← hc j, td1.2 j hj, Int.mul_zero])
      have hp : ∀ i, n * g1 i = k * g i := fun i => (hc i).trans (hk i)
      have hk0 : k ≠ 0 := fun q => by
        have h1 := hp d1
        rw [q, Int.zero_mul] at h1
        exact td1.1 ((Int.mul_eq_zero.mp h1).resolve_left hn)
      have a1 : k ∣ n := pr1.dv hk0 (fun i => by rw [hp i]; exact Int.dvd_mul_right k _)
      have a2 : n ∣ k := pr.dv hn (fun i => by rw [← hp i]; exact Int.dvd_mul_right n _)
      have a3 : n.natAbs = k.natAbs := Nat.dvd_antisymm (Int.natAbs_dvd_natAbs.mpr a2) (Int.natAbs_dvd_natAbs.mpr a1)
      have a4 : n = k := by
        rcases Int.natAbs_eq_natAbs_iff.mp a3 with q | q
        · exact q
        · exfalso
          have h1 := hp d1
          rw [q, Int.neg_mul] at h1
          rcases Int.lt_or_gt_of_ne hk0 with z | z
          · have b1 : 0 < (-k) * g1 d1 := Int.mul_pos (by omega) pd1
            have b2 : 0 < (-k) * g d1 := Int.mul_pos (by omega) pd
            rw [Int.neg_mul] at b1 b2
            omega
          · have b1 : 0 < k * g1 d1 := Int.mul_pos z pd1
            have b2 : 0 < k * g d1 := Int.mul_pos z pd
            omega
      intro i
      have h1 := hp i
      rw [a4] at h1
      exact (Int.eq_of_mul_eq_mul_left hk0 h1).symm
end
section
/-! Gauss: a primitive divisor divides with whole quotients -/
theorem dv_r {p b : Int} (a : Int) (h : p ∣ b) : p ∣ a * b := by
  obtain ⟨k, hk⟩ := h
  exact ⟨a * k, by rw [hk, Int.mul_left_comm]⟩
theorem dv_l {p a : Int} (b : Int) (h : p ∣ a) : p ∣ a * b := by
  obtain ⟨k, hk⟩ := h
  exact ⟨k * b, by rw [hk, Int.mul_assoc]⟩
def Irr (p : Nat) : Prop := 2 ≤ p ∧ ∀ q, 2 ≤ q → q ∣ p → q = p
theorem irr_ex : ∀ (K N : Nat), N ≤ K → 2 ≤ N → ∃ p, Irr p ∧ p ∣ N
  | 0, N, h1, h2 => by omega
  | K + 1, N, h1, h2 => by
    by_cases h : ∃ q, 2 ≤ q ∧ q ∣ N ∧ q ≠ N
    · obtain ⟨q, q2, qd, qn⟩ := h
      have qle : q ≤ N := Nat.le_of_dvd (by omega) qd
      obtain ⟨p, hp, hpd⟩ := irr_ex K q (by omega) q2
      exact ⟨p, hp, Nat.dvd_trans hpd qd⟩
    · refine ⟨N, ⟨h2, fun q q2 qd => ?_⟩, Nat.dvd_refl N⟩
      by_cases e : q = N
      · exact e
      · exact absurd ⟨q, q2, qd, e⟩ h
theorem Irr.pm {p : Nat} (hp : Irr p) {a b : Int} (h : (p : Int) ∣ a * b) (hb : ¬ (p : Int) ∣ b) : (p : Int) ∣ a := by
  have h1 : p ∣ a.natAbs * b.natAbs := by
    rw [← Int.natAbs_mul]
    exact Int.ofNat_dvd_left.mp h
  have hg : Nat.gcd p b.natAbs = 1 := by
    have hpos : 0 < Nat.gcd p b.natAbs := Nat.gcd_pos_of_pos_left _ (by have := hp.1; omega)
    by_cases h2 : 2 ≤ Nat.gcd p b.natAbs
    · have h3 := hp.2 _ h2 (Nat.gcd_dvd_left p b.natAbs)
      exfalso
      apply hb
      apply Int.ofNat_dvd_left.mpr
      have h4 := Nat.gcd_dvd_right p b.natAbs
      rw [h3] at h4
      exact h4
    · omega
  exact Int.ofNat_dvd_left.mpr (Nat.Coprime.dvd_of_dvd_mul_right (show Nat.Coprime p b.natAbs from hg) h1)
theorem first_ex {P : Nat → Prop} : ∀ (K i : Nat), i ≤ K → P i → ∃ j, P j ∧ ∀ k, k < j → ¬ P k
  | 0, i, h1, h2 => ⟨i, h2, fun k hk => by omega⟩
  | K + 1, i, h1, h2 => by
    by_cases h : ∃ k, k < i ∧ P k
    · obtain ⟨k, hk, hp⟩ := h
      exact first_ex K k (by omega) hp
    · exact ⟨i, h2, fun k hk q => h ⟨k, hk, q⟩⟩
theorem conv_lo {g : Nat → Int} {p : Int} {i0 : Nat} (hg : ∀ j, j < i0 → p ∣ g j) : ∀ (c : List Int) (j : Nat), j < i0 → p ∣ conv c g j
  | [], j, _ => Int.dvd_zero p
  | a :: c, 0, h => by
    rw [conv_0]
    exact dv_r a (hg 0 h)
  | a :: c, j + 1, h => by
    rw [conv_s]
    exact Int.dvd_add (dv_r a (hg (j + 1) h)) (conv_lo hg c j (by omega))
theorem conv_pm {g : Nat → Int} {p : Nat} (hp : Irr p) {i0 : Nat} (h0 : ¬ (p : Int) ∣ g i0) (hg : ∀ j, j < i0 → (p : Int) ∣ g j) : ∀ c : List Int, (∀ i, (p : Int) ∣ conv c g i) → ∃ d : List Int, c = d.map (fun x => (p : Int) * x)
  | [], _ => ⟨[], rfl⟩
  | a :: c, h => by
    have h1 : (p : Int) ∣ a * g i0 := by
      cases i0 with
      | zero => have := h 0; rw [conv_0] at this; exact this
      | succ i =>
        have h2 := h (i + 1)
        rw [conv_s] at h2
        exact (Int.dvd_add_left (conv_lo hg c i (by omega))).mp h2
    obtain ⟨a1, ha1⟩ := hp.pm h1 h0
    obtain ⟨d, hd⟩ := conv_pm hp h0 hg c (fun i => by
      have h2 := h (i + 1)
      rw [conv_s] at h2
      exact (Int.dvd_add_right (dv_l (g (i + 1)) ⟨a1, ha1⟩)).mp h2)
    exact ⟨a1 :: d, by rw [ha1, hd]; rfl⟩
theorem gauss {g : Nat → Int} (pr : Pr g) : ∀ (K : Nat) (n : Int) (c : List Int) (X : Nat → Int), n.natAbs ≤ K → n ≠ 0 → (∀ i, n * X i = conv c g i) → ∃ h : List Int, ∀ i, X i = conv h g i
  | 0, n, c, X, h1, h2, _ => by
    exfalso
    have := Int.natAbs_pos.mpr h2
    omega
  | K + 1, n, c, X, h1, h2, h => by
    by_cases hN : 2 ≤ n.natAbs
    · obtain ⟨p, hp, hpd⟩ := irr_ex _ _ (Nat.le_refl _) hN
      have hpn : (p : Int) ∣ n := Int.ofNat_dvd_left.mpr hpd
      obtain ⟨m, hm⟩ := hpn
      have hp0 : (p : Int) ≠ 0 := by have := hp.1; omega
      have hex : ∃ i, ¬ (p : Int) ∣ g i := by
        by_cases q : ∃ i, ¬ (p : Int) ∣ g i
        · exact q
        · exfalso
          have h3 := pr p (fun i => Classical.byContradiction fun z => q ⟨i, z⟩)
          have := hp.1
          omega
      obtain ⟨i, hi⟩ := hex
      obtain ⟨i0, h0, hlo⟩ := first_ex (P := fun i => ¬ (p : Int) ∣ g i) i i (Nat.le_refl i) hi
      obtain ⟨d, hd⟩ := conv_pm hp h0 (fun j hj => Classical.byContradiction fun z => hlo j hj z) c (fun i => by rw [← h i, hm, Int.mul_assoc]; exact Int.dvd_mul_right _ _)
      have hm0 : m ≠ 0 := fun q => h2 (by rw [hm, q, Int.mul_zero])
      have hlt : m.natAbs < n.natAbs := by
        have e : n.natAbs = p * m.natAbs := by rw [hm, Int.natAbs_mul, Int.natAbs_natCast]
        have := Int.natAbs_pos.mpr hm0
        have := hp.1
        rw [e]
        exact Nat.lt_of_lt_of_le (by omega : m.natAbs < 2 * m.natAbs) (Nat.mul_le_mul_right _ hp.1)
      refine gauss pr K m d X (by omega) hm0 (fun i => ?_)
      have h3 := h i
      rw [hd, conv_mul, hm, Int.mul_assoc] at h3
      exact Int.eq_of_mul_eq_mul_left hp0 h3
    · have h3 : n.natAbs = 1 := by have := Int.natAbs_pos.mpr h2; omega
      rcases Int.natAbs_eq n with q | q
      · refine ⟨c, fun i => ?_⟩
        have h4 := h i
        rw [q, h3] at h4
        rw [← h4]
        show _ = 1 * X i
        omega
      · refine ⟨c.map (fun x => (-1) * x), fun i => ?_⟩
        have h4 := h i
        rw [q, h3] at h4
        rw [conv_mul, ← h4]
        show X i = -1 * (-1 * X i)
        omega
/-- a factor's first and last numbers divide numbers of the product -/
theorem conv_tp {g : Nat → Int} {d : Nat} (hg : top g d) : ∀ c : List Int, (∀ i, conv c g i = 0) ∨ ∃ i x, d ≤ i ∧ x ≠ 0 ∧ conv c g i = x * g d
  | [] => Or.inl fun _ => rfl
  | a :: c => by
    rcases conv_tp hg c with h | ⟨i, x, h1, h2, h3⟩
    · have h4 : ∀ i, conv (a :: c) g i = a * g i := fun i => by
        cases i with
        | zero => rw [conv_0]
        | succ i => rw [conv_s, h i, Int.add_zero]
      by_cases ha : a = 0
      · exact Or.inl fun i => by rw [h4 i, ha, Int.zero_mul]
      · exact Or.inr ⟨d, a, Nat.le_refl d, ha, h4 d⟩
    · exact Or.inr ⟨i + 1, x, by omega, h2, by rw [conv_s, hg.2 (i + 1) (by omega), Int.mul_zero, Int.zero_add, h3]⟩
theorem conv_lw {g : Nat → Int} {l : Nat} (hl : ∀ j, j < l → g j = 0) : ∀ c : List Int, (∀ i, conv c g i = 0) ∨ ∃ i x, x ≠ 0 ∧ conv c g i = x * g l
  | [] => Or.inl fun _ => rfl
  | a :: c => by
    by_cases ha : a = 0
    · subst ha
      rcases conv_lw hl c with h | ⟨i, x, h2, h3⟩
      · exact Or.inl fun i => by
          cases i with
          | zero => rw [conv_0, Int.zero_mul]
          | succ i => rw [conv_s, h i, Int.zero_mul, Int.add_zero]
      · exact Or.inr ⟨i + 1, x, h2, by rw [conv_s, Int.zero_mul, Int.zero_add, h3]⟩
    · refine Or.inr ⟨l, a, ha, ?_⟩
      cases l with
      | zero => rw [conv_0]
      | succ l =>
        have h4 : ∀ (c : List Int) (j : Nat), j ≤ l → conv c g j = 0 := fun c => by
          induction c with
          | nil => intro j _; rfl
          | cons b c ih =>
            intro j hj
            cases j with
            | zero => rw [conv_0, hl 0 (by omega), Int.mul_zero]
            | succ j => rw [conv_s, hl (j + 1) (by omega), Int.mul_zero, ih j (by omega)]; rfl
        rw [conv_s, h4 c l (Nat.le_refl l), Int.add_zero]
def bx (B : Nat) (p : Nat → Int) : Prop := ∀ i, (p i).natAbs ≤ B
theorem fac_le {x y : Int} {B : Nat} (h : (x * y).natAbs ≤ B) (hx : x ≠ 0) : y.natAbs ≤ B := by
  rw [Int.natAbs_mul] at h
  have h1 := Int.natAbs_pos.mpr hx
  exact Nat.le_trans (Nat.le_mul_of_pos_left _ h1) h
theorem top_le {X g : Nat → Int} {d : Nat} {c : List Int} {B : Nat} (hX : bx B X) (hg : top g d) (h : ∀ i, X i = conv c g i) (hn : ¬ ∀ i, X i = 0) : (g d).natAbs ≤ B := by
  rcases conv_tp hg c with q | ⟨i, x, -, q1, q2⟩
  · exact absurd (fun i => (h i).trans (q i)) hn
  · exact fac_le (by rw [← q2, ← h i]; exact hX i) q1
theorem low_le {X g : Nat → Int} {l : Nat} {c : List Int} {B : Nat} (hX : bx B X) (hl : ∀ j, j < l → g j = 0) (h : ∀ i, X i = conv c g i) (hn : ¬ ∀ i, X i = 0) : (g l).natAbs ≤ B := by
  rcases conv_lw hl c with q | ⟨i, x, q1, q2⟩
  · exact absurd (fun i => (h i).trans (q i)) hn
  · exact fac_le (by rw [← q2, ← h i]; exact hX i) q1
/-- the quotient's numbers, by the degrees -/
theorem conv_peel {g : Nat → Int} {d e : Nat} (hg : top g d) (hde : d ≤ e) {c : List Int} (h : ∀ j, e < j → conv c g j = 0) (hlt : d < e + 1) : d = e ∨ ∃ (a : Int) (c1 : List Int), (∀ i, conv c g i = a * g i + sh (conv c1 g) i) ∧ ∀ j, e - 1 < j → conv c1 g j = 0 := by
  by_cases q : d = e
  · exact Or.inl q
  · right
    cases c with
    | nil => exact ⟨0, [], fun i => by rw [Int.zero_mul]; cases i <;> rfl, fun j _ => rfl⟩
    | cons a c =>
      refine ⟨a, c, fun i => rfl, fun j hj => ?_⟩
      have h2 := h (j + 1) (by omega)
      rw [conv_s, hg.2 (j + 1) (by omega), Int.mul_zero, Int.zero_add] at h2
      exact h2
end
section
/-! how great the common divisor of two polynomials of the box can be -/
theorem rs_zero {g : Nat → Int} {X Y : Nat → Int} (hX : ∀ i, X i = 0) (hY : ∀ i, Y i = 0) (h : RS X Y g) : ∀ i, g i = 0 := by
  refine h (fun p => ∀ i, p i = 0) ⟨fun a b ha hb i => by show a i + b i = 0; rw [ha i, hb i]; rfl, fun c a ha i => by show c * a i = 0; rw [ha i, Int.mul_zero], fun a ha i => by cases i with | zero => rfl | succ i => exact ha i, fun n a hn ha i => ?_⟩ hX hY
  exact (Int.mul_eq_zero.mp (ha i)).resolve_left hn
theorem ms_self (g : Nat → Int) : MS g g := ⟨1, by decide, [1], fun i => by
    cases i with
    | zero => rw [conv_0]
    | succ i => rw [conv_s]; show _ = _ + 0; omega⟩
theorem MS.deg {X g : Nat → Int} {d e : Nat} (h : MS X g) (tX : top X e) (tg : top g d) : e ≤ d := Nat.le_of_not_lt fun q => by
  obtain ⟨n, hn, c, hc⟩ := h
  have h1 := convZ tX c (fun j hj => by rw [← hc j, tg.2 j (by omega), Int.mul_zero]) d
  rw [← hc d] at h1
  exact tg.1 ((Int.mul_eq_zero.mp h1).resolve_left hn)
/-- both lie in the multiples of one: that one's degree is no greater than the divisor's -/
theorem RS.deg {X Y Z g : Nat → Int} {d e : Nat} (h : RS X Y g) (hX : MS Z X) (hY : MS Z Y) (tZ : top Z e) (tg : top g d) : e ≤ d := MS.deg (h _ (MS.cl Z) hX hY) tZ tg
theorem quo {X g : Nat → Int} (pr : Pr g) (h : RS g p0 X) : ∃ c : List Int, ∀ i, X i = conv c g i := by
  obtain ⟨n, hn, c, hc⟩ := RS.ms h
  exact gauss pr _ n c X (Nat.le_refl _) hn hc
theorem bx_mul {g X : Nat → Int} {k : Int} {B : Nat} (hk : k ≠ 0) (h : ∀ i, X i = k * g i) (hX : bx B X) : bx B g := fun i => fac_le (by rw [← h i]; exact hX i) hk
theorem gb4 {X g : Nat → Int} {c : List Int} {B : Nat} (hX : bx B X) (sX : ∀ i, 4 < i → X i = 0) (tg : top g 4) (h : ∀ i, X i = conv c g i) (hn : ¬ ∀ i, X i = 0) : bx B g := by
  obtain ⟨k, hk⟩ := convH tg (c := c) (fun j hj => by rw [← h j]; exact sX j hj)
  refine bx_mul (k := k) (fun q => hn fun i => ?_) (fun i => (h i).trans (hk i)) hX
  rw [h i, hk i, q, Int.zero_mul]
theorem gb0 {g : Nat → Int} (pr : Pr g) (tg : top g 0) : bx 1 g := by
  intro i
  cases i with
  | zero =>
    have h1 := pr (g 0).natAbs (fun i => by
      cases i with
      | zero => exact Int.natAbs_dvd.mpr (Int.dvd_refl _)
      | succ i => rw [tg.2 (i + 1) (by omega)]; exact Int.dvd_zero _)
    omega
  | succ i => rw [tg.2 (i + 1) (by omega)]; decide
theorem gb1 {X g : Nat → Int} {c : List Int} {B : Nat} (hX : bx B X) (tg : top g 1) (h : ∀ i, X i = conv c g i) (hn : ¬ ∀ i, X i = 0) : bx B g := by
  intro i
  match i with
  | 0 => exact low_le hX (fun j hj => by omega) h hn
  | 1 => exact top_le hX tg h hn
  | i + 2 => rw [tg.2 (i + 2) (by omega)]; exact Nat.zero_le _
theorem gb2 {X g : Nat → Int} {c : List Int} (hX : bx 7 X) (sX : ∀ i, 4 < i → X i = 0) (tg : top g 2) (h : ∀ i, X i = conv c g i) (hn : ¬ ∀ i, X i = 0) : bx 105 g := by
  have hu := top_le hX tg h hn
  have hw := low_le (l := 0) hX (fun j hj => by omega) h hn
  obtain ⟨h0, c1, e1, z1⟩ := (conv_peel tg (e := 4) (by omega) (c := c) (fun j hj => by rw [← h j]; exact sX j hj) (by omega)).resolve_left (by omega)
  obtain ⟨h1, c2, e2, z2⟩ := (conv_peel tg (e := 3) (by omega) (c := c1) (fun j hj => z1 j (by omega)) (by omega)).resolve_left (by omega)
  obtain ⟨h2, e3⟩ := convH tg (c := c2) (fun j hj => z2 j (by omega))
  have X0 : X 0 = h0 * g 0 := by rw [h 0, e1 0]; show _ + 0 = _; omega
  have X1 : X 1 = h0 * g 1 + h1 * g 0 := by
    rw [h 1, e1 1]
    show h0 * g 1 + conv c1 g 0 = _
    rw [e2 0]
    show _ + (_ + 0) = _
    omega
  have X2 : X 2 = h0 * g 2 + (h1 * g 1 + h2 * g 0) := by
    rw [h 2, e1 2]
    show h0 * g 2 + conv c1 g 1 = _
    rw [e2 1]
    show _ + (_ + conv c2 g 0) = _
    rw [e3 0]
  have X3 : X 3 = h1 * g 2 + h2 * g 1 := by
    rw [h 3, e1 3, tg.2 3 (by omega), Int.mul_zero, Int.zero_add]
    show conv c1 g 2 = _
    rw [e2 2]
    show _ + conv c2 g 1 = _
    rw [e3 1]
  have X4 : X 4 = h2 * g 2 := by
    rw [h 4, e1 4, tg.2 4 (by omega), Int.mul_zero, Int.zero_add]
    show conv c1 g 3 = _
    rw [e2 3, tg.2 3 (by omega), Int.mul_zero, Int.zero_add]
    show conv c2 g 2 = _
    rw [e3 2]
  have hh2 : h2.natAbs ≤ 7 := fac_le (x := g 2) (by rw [Int.mul_comm, ← X4]; exact hX 4) tg.1
  have hm : (g 1).natAbs ≤ 105 := by
    by_cases m0 : g 1 = 0
    · rw [m0]; decide
    · by_cases k1 : h1 = 0
      · by_cases k2 : h2 = 0
        · have k0 : h0 ≠ 0 := fun q => hn fun i => by
            rw [h i, e1 i, q, Int.zero_mul, Int.zero_add]
            cases i with
            | zero => rfl
            | succ i =>
              show conv c1 g i = 0
              rw [e2 i, k1, Int.zero_mul, Int.zero_add]
              cases i with
              | zero => rfl
              | succ i => show conv c2 g i = 0; rw [e3 i, k2, Int.zero_mul]
          have := fac_le (x := h0) (y := g 1) (B := 7) (by rw [k1, Int.zero_mul, Int.add_zero] at X1; rw [← X1]; exact hX 1) k0
          omega
        · have := fac_le (x := h2) (y := g 1) (B := 7) (by rw [k1, Int.zero_mul, Int.zero_add] at X3; rw [← X3]; exact hX 3) k2
          omega
      · have hh0 : h0.natAbs ≤ 7 := by
          by_cases w0 : g 0 = 0
          · exact fac_le (x := g 1) (by rw [w0, Int.mul_zero, Int.add_zero] at X1; rw [Int.mul_comm, ← X1]; exact hX 1) m0
          · exact fac_le (x := g 0) (by rw [Int.mul_comm, ← X0]; exact hX 0) w0
        have b1 : (h0 * g 2).natAbs ≤ 49 := by rw [Int.natAbs_mul]; exact Nat.mul_le_mul hh0 hu
        have b2 : (h2 * g 0).natAbs ≤ 49 := by rw [Int.natAbs_mul]; exact Nat.mul_le_mul hh2 hw
        have b3 := hX 2
        have b4 : (h1 * g 1).natAbs ≤ 105 := by omega
        exact fac_le b4 k1
  intro i
  match i with
  | 0 => omega
  | 1 => exact hm
  | 2 => omega
  | i + 3 => rw [tg.2 (i + 3) (by omega)]; decide
theorem gb3a {a b g1 g2 g3 : Int} (ha : a ≠ 0) (h4 : (a * g3).natAbs ≤ 7) (h3 : (a * g2 + b * g3).natAbs ≤ 7) (h2 : (a * g1 + b * g2).natAbs ≤ 7) (hg : 8 ≤ g2.natAbs) (hle : g1.natAbs ≤ g2.natAbs) : a.natAbs = 1 ∧ b.natAbs ≤ 1 := by
  have q1 : (b * g2).natAbs ≤ 7 + (a * g1).natAbs := by omega
  have q2 : (a * g2).natAbs ≤ 7 + (b * g3).natAbs := by omega
  rw [Int.natAbs_mul, Int.natAbs_mul] at q1 q2
  rw [Int.natAbs_mul] at h4
  have hA := Int.natAbs_pos.mpr ha
  generalize a.natAbs = A at *
  generalize b.natAbs = B at *
  generalize g1.natAbs = G1 at *
  generalize g2.natAbs = G2 at *
  generalize g3.natAbs = G3 at *
  have hBA : B ≤ A := Nat.le_of_not_lt fun q => by
    have r1 : (A + 1) * G2 ≤ B * G2 := Nat.mul_le_mul_right _ q
    have r2 : A * G1 ≤ A * G2 := Nat.mul_le_mul_left _ hle
    rw [Nat.add_mul] at r1
    omega
  have r3 : B * G3 ≤ A * G3 := Nat.mul_le_mul_right _ hBA
  have r4 : A * 8 ≤ A * G2 := Nat.mul_le_mul_left _ hg
  omega
theorem gb3b {a b a1 b1 g1 g2 g3 : Int} (ha : a ≠ 0) (hb : b ≠ 0) (ha1 : a1 ≠ 0) (hb1 : b1 ≠ 0) (hD : a * b1 ≠ a1 * b) (h4 : (a * g3).natAbs ≤ 7) (h3 : (a * g2 + b * g3).natAbs ≤ 7) (h2 : (a * g1 + b * g2).natAbs ≤ 7) (k4 : (a1 * g3).natAbs ≤ 7) (k3 : (a1 * g2 + b1 * g3).natAbs ≤ 7) (k2 : (a1 * g1 + b1 * g2).natAbs ≤ 7) (hle : g1.natAbs ≤ g2.natAbs) : g2.natAbs ≤ 7 := Nat.le_of_not_lt fun q => by
  obtain ⟨r1, r2⟩ := gb3a ha h4 h3 h2 q hle
  obtain ⟨r3, r4⟩ := gb3a ha1 k4 k3 k2 q hle
  have e1 : a = 1 ∨ a = -1 := by clear h4 h3 h2 k4 k3 k2 hle q r2 r3 r4; omega
  have e2 : b = 1 ∨ b = -1 := by clear h4 h3 h2 k4 k3 k2 hle q r1 r3 r4; omega
  have e3 : a1 = 1 ∨ a1 = -1 := by clear h4 h3 h2 k4 k3 k2 hle q r1 r2 r4; omega
  have e4 : b1 = 1 ∨ b1 = -1 := by clear h4 h3 h2 k4 k3 k2 hle q r1 r2 r3; omega
  have w3 : -7 ≤ a * g2 + b * g3 ∧ a * g2 + b * g3 ≤ 7 := by clear h4 h2 k4 k3 k2 hle q r1 r2 r3 r4; omega
  have x3 : -7 ≤ a1 * g2 + b1 * g3 ∧ a1 * g2 + b1 * g3 ≤ 7 := by clear h4 h3 h2 k4 k2 hle q r1 r2 r3 r4; omega
  have w2 : 8 ≤ g2 ∨ g2 ≤ -8 := by clear h4 h3 h2 k4 k3 k2 hle r1 r2 r3 r4 w3 x3; omega
  clear h4 h3 h2 k4 k3 k2 hle q r1 r2 r3 r4
  rcases e1 with rfl | rfl <;> rcases e2 with rfl | rfl <;> rcases e3 with rfl | rfl <;> rcases e4 with rfl | rfl <;> first | exact absurd rfl hD | omega
theorem gb3 {X Y g : Nat → Int} (pr : Pr g) (hX : bx 7 X) (hY : bx 7 Y) (sX : ∀ i, 4 < i → X i = 0) (sY : ∀ i, 4 < i → Y i = 0) (tg : top g 3) (he : EQ2 X Y g p0) : bx 7 g := by
  obtain ⟨c, hc⟩ := quo pr he.2.2.1
  obtain ⟨d, hd⟩ := quo pr he.2.2.2
  obtain ⟨b, c1, e1, z1⟩ := (conv_peel tg (e := 4) (by omega) (c := c) (fun j hj => by rw [← hc j]; exact sX j hj) (by omega)).resolve_left (by omega)
  obtain ⟨b1, d1, f1, y1⟩ := (conv_peel tg (e := 4) (by omega) (c := d) (fun j hj => by rw [← hd j]; exact sY j hj) (by omega)).resolve_left (by omega)
  obtain ⟨a, e2⟩ := convH tg (c := c1) (fun j hj => z1 j (by omega))
  obtain ⟨a1, f2⟩ := convH tg (c := d1) (fun j hj => y1 j (by omega))
  have X0 : X 0 = b * g 0 := by rw [hc 0, e1 0]; show _ + 0 = _; omega
  have Xs : ∀ i, X (i + 1) = b * g (i + 1) + a * g i := fun i => by
    rw [hc (i + 1), e1 (i + 1)]
    show _ + conv c1 g i = _
    rw [e2 i]
  have Y0 : Y 0 = b1 * g 0 := by rw [hd 0, f1 0]; show _ + 0 = _; omega
  have Ys : ∀ i, Y (i + 1) = b1 * g (i + 1) + a1 * g i := fun i => by
    rw [hd (i + 1), f1 (i + 1)]
    show _ + conv d1 g i = _
    rw [f2 i]
  -- a product with a single number
  have one : ∀ (Z : Nat → Int) (u v : Int), bx 7 Z → Z 0 = v * g 0 → (∀ i, Z (i + 1) = v * g (i + 1) + u * g i) → (u = 0 ∨ v = 0) → ¬ (u = 0 ∧ v = 0) → bx 7 g := fun Z u v hZ z0 zs h1 h2 => by
    rcases h1 with h1 | h1
    · have hv : v ≠ 0 := fun q => h2 ⟨h1, q⟩
      refine bx_mul (X := Z) hv (fun i => ?_) hZ
      cases i with
      | zero => exact z0
      | succ i => rw [zs i, h1, Int.zero_mul, Int.add_zero]
    · have hu : u ≠ 0 := fun q => h2 ⟨q, h1⟩
      intro i
      refine fac_le (x := u) ?_ hu
      have := hZ (i + 1)
      rw [zs i, h1, Int.zero_mul, Int.zero_add] at this
      exact this
  have four : ∀ (Z : Nat → Int) (u v : Int), (∀ i, Z (i + 1) = v * g (i + 1) + u * g i) → u ≠ 0 → top Z 4 := fun Z u v zs hu => by
    refine ⟨?_, fun i hi => ?_⟩
    · rw [show (4 : Nat) = 3 + 1 from rfl, zs 3, tg.2 (3 + 1) (by omega), Int.mul_zero, Int.zero_add]
      exact Int.mul_ne_zero hu tg.1
    · obtain ⟨k, rfl⟩ : ∃ k, i = k + 1 := ⟨i - 1, by omega⟩
      rw [zs k, tg.2 (k + 1) (by omega), tg.2 k (by omega), Int.mul_zero, Int.mul_zero, Int.zero_add]
  by_cases hXz : a = 0 ∧ b = 0
  · have hX0 : ∀ i, X i = 0 := fun i => by
      cases i with
      | zero => rw [X0, hXz.2, Int.zero_mul]
      | succ i => rw [Xs i, hXz.1, hXz.2, Int.zero_mul, Int.zero_mul, Int.zero_add]
    by_cases hYz : a1 = 0 ∧ b1 = 0
    · exfalso
      exact tg.1 (rs_zero hX0 (fun i => by
        cases i with
        | zero => rw [Y0, hYz.2, Int.zero_mul]
        | succ i => rw [Ys i, hYz.1, hYz.2, Int.zero_mul, Int.zero_mul, Int.zero_add]) he.1 3)
    · by_cases q : a1 = 0 ∨ b1 = 0
      · exact one Y a1 b1 hY Y0 Ys q hYz
      · exfalso
        have t4 := four Y a1 b1 Ys (fun z => q (Or.inl z))
        have := RS.deg he.1 (Z := Y) ⟨1, by decide, [], fun i => by rw [hX0 i]; rfl⟩ (ms_self Y) t4 tg
        omega
  · by_cases q : a = 0 ∨ b = 0
    · exact one X a b hX X0 Xs q hXz
    · have ha : a ≠ 0 := fun z => q (Or.inl z)
      have hb : b ≠ 0 := fun z => q (Or.inr z)
      have t4 := four X a b Xs ha
      by_cases hD : a * b1 = a1 * b
      · exfalso
        have hYX : MS X Y := ⟨b, hb, [b1], fun i => by
          cases i with
          | zero => rw [conv_0, Y0, X0, Int.mul_left_comm]
          | succ i =>
            rw [conv_s, Ys i, Xs i]
            show _ = _ + 0
            generalize g (i + 1) = x
            generalize g i = y
            grind⟩
        have := RS.deg he.1 (Z := X) (ms_self X) hYX t4 tg
        omega
      · by_cases q1 : a1 = 0 ∨ b1 = 0
        · by_cases hYz : a1 = 0 ∧ b1 = 0
          · exfalso
            exact hD (by rw [hYz.1, hYz.2, Int.mul_zero, Int.zero_mul])
          · exact one Y a1 b1 hY Y0 Ys q1 hYz
        · have ha1 : a1 ≠ 0 := fun z => q1 (Or.inl z)
          have hb1 : b1 ≠ 0 := fun z => q1 (Or.inr z)
          have x4 : (a * g 3).natAbs ≤ 7 := by have := hX (3 + 1); rw [Xs 3, tg.2 (3 + 1) (by omega), Int.mul_zero, Int.zero_add] at this; exact this
          have x3 : (a * g 2 + b * g 3).natAbs ≤ 7 := by have := hX (2 + 1); rw [Xs 2, Int.add_comm] at this; exact this
          have x2 : (a * g 1 + b * g 2).natAbs ≤ 7 := by have := hX (1 + 1); rw [Xs 1, Int.add_comm] at this; exact this
          have x1 : (a * g 0 + b * g 1).natAbs ≤ 7 := by have := hX (0 + 1); rw [Xs 0, Int.add_comm] at this; exact this
          have x0 : (b * g 0).natAbs ≤ 7 := by have := hX 0; rw [X0] at this; exact this
          have y4 : (a1 * g 3).natAbs ≤ 7 := by have := hY (3 + 1); rw [Ys 3, tg.2 (3 + 1) (by omega), Int.mul_zero, Int.zero_add] at this; exact this
          have y3 : (a1 * g 2 + b1 * g 3).natAbs ≤ 7 := by have := hY (2 + 1); rw [Ys 2, Int.add_comm] at this; exact this
          have y2 : (a1 * g 1 + b1 * g 2).natAbs ≤ 7 := by have := hY (1 + 1); rw [Ys 1, Int.add_comm] at this; exact this
          have y1' : (a1 * g 0 + b1 * g 1).natAbs ≤ 7 := by have := hY (0 + 1); rw [Ys 0, Int.add_comm] at this; exact this
          have y0 : (b1 * g 0).natAbs ≤ 7 := by have := hY 0; rw [Y0] at this; exact this
          have g3 : (g 3).natAbs ≤ 7 := fac_le x4 ha
          have g0 : (g 0).natAbs ≤ 7 := fac_le x0 hb
          have both : (g 1).natAbs ≤ 7 ∧ (g 2).natAbs ≤ 7 := by
            by_cases hle : (g 1).natAbs ≤ (g 2).natAbs
            · have := gb3b ha hb ha1 hb1 hD x4 x3 x2 y4 y3 y2 hle
              omega
            · have := gb3b (g1 := g 2) (g2 := g 1) (g3 := g 0) hb ha hb1 ha1 (fun z => hD (by rw [Int.mul_comm a b1, Int.mul_comm a1 b]; exact z.symm)) x0 (by rw [Int.add_comm]; exact x1) (by rw [Int.add_comm]; exact x2) y0 (by rw [Int.add_comm]; exact y1') (by rw [Int.add_comm]; exact y2) (by omega)
              omega
          intro i
          match i with
          | 0 => exact g0
          | 1 => exact both.1
          | 2 => exact both.2
          | 3 => exact g3
          | i + 4 => rw [tg.2 (i + 4) (by omega)]; decide
end
section
/-! two polynomials of degree 4: the numbers of their remainders, by 2x2 minors -/
def mn (f g : Nat → Int) (i j : Nat) : Int := f i * g j - f j * g i
def T1 (f g : Nat → Int) : Nat → Int := fun i => g 4 * f i - f 4 * g i
def T1b (f g : Nat → Int) : Nat → Int := fun i => T1 f g 3 * g i - g 4 * sh (T1 f g) i
def S2 (f g : Nat → Int) : Nat → Int := fun i => match i with
  | 0 => T1 f g 3 * mn f g 0 3 - T1 f g 2 * T1 f g 0
  | 1 => T1 f g 3 * (T1 f g 0 + mn f g 1 3) - T1 f g 2 * T1 f g 1
  | 2 => T1 f g 3 * (T1 f g 1 + mn f g 2 3) - T1 f g 2 * T1 f g 2
  | _ + 3 => 0
def T2b (f g : Nat → Int) : Nat → Int := fun i => S2 f g 2 * T1 f g i - T1 f g 3 * sh (S2 f g) i
def uu (f g : Nat → Int) : Int := T1 f g 3 * ((T1 f g 1 + mn f g 2 3) * (mn f g 0 3 + mn f g 1 2) - (T1 f g 0 + mn f g 1 3) * (T1 f g 0 + mn f g 1 3)) - T1 f g 2 * (T1 f g 2 * (mn f g 0 3 + mn f g 1 2) - (T1 f g 0 + mn f g 1 3) * T1 f g 1) + T1 f g 1 * (T1 f g 2 * (T1 f g 0 + mn f g 1 3) - (T1 f g 1 + mn f g 2 3) * T1 f g 1)
def ww (f g : Nat → Int) : Int := T1 f g 3 * ((T1 f g 1 + mn f g 2 3) * mn f g 0 2 - mn f g 0 3 * (T1 f g 0 + mn f g 1 3)) - T1 f g 2 * (T1 f g 2 * mn f g 0 2 - mn f g 0 3 * T1 f g 1) + T1 f g 0 * (T1 f g 2 * (T1 f g 0 + mn f g 1 3) - (T1 f g 1 + mn f g 2 3) * T1 f g 1)
def S1 (f g : Nat → Int) : Nat → Int := fun i => match i with
  | 0 => ww f g
  | 1 => uu f g
  | _ + 2 => 0
def T3b (f g : Nat → Int) : Nat → Int := fun i => S1 f g 1 * S2 f g i - S2 f g 2 * sh (S1 f g) i
/-! identities -/
theorem pk_m12 (f g : Nat → Int) : T1 f g 3 * mn f g 1 2 = T1 f g 2 * mn f g 1 3 - T1 f g 1 * mn f g 2 3 := by
  unfold T1 mn
  grind
theorem pk_m02 (f g : Nat → Int) : T1 f g 3 * mn f g 0 2 = T1 f g 2 * mn f g 0 3 - T1 f g 0 * mn f g 2 3 := by
  unfold T1 mn
  grind
theorem pk_g (f g : Nat → Int) (i : Nat) : T1 f g 3 * g i - T1 f g i * g 3 = -(g 4 * mn f g i 3) := by
  unfold T1 mn
  grind
theorem T1_4 (f g : Nat → Int) : T1 f g 4 = 0 := by
  unfold T1
  grind
theorem T1_hi {f g : Nat → Int} (hf : ∀ i, 4 < i → f i = 0) (hg : ∀ i, 4 < i → g i = 0) : ∀ i, 3 < i → T1 f g i = 0 := fun i hi => by
  by_cases e : i = 4
  · rw [e]; exact T1_4 f g
  · unfold T1
    rw [hf i (by omega), hg i (by omega), Int.mul_zero, Int.mul_zero]
    rfl
theorem T1b_hi {f g : Nat → Int} (hf : ∀ i, 4 < i → f i = 0) (hg : ∀ i, 4 < i → g i = 0) : ∀ i, 3 < i → T1b f g i = 0 := fun i hi => by
  obtain ⟨k, rfl⟩ : ∃ k, i = k + 1 := ⟨i - 1, by omega⟩
  show T1 f g 3 * g (k + 1) - g 4 * T1 f g k = 0
  by_cases e : k = 3
  · rw [e, Int.mul_comm]; exact Int.sub_self _
  · rw [hg (k + 1) (by omega), T1_hi hf hg k (by omega), Int.mul_zero, Int.mul_zero]
    rfl
theorem E4 {f g : Nat → Int} (hf : ∀ i, 4 < i → f i = 0) (hg : ∀ i, 4 < i → g i = 0) (i : Nat) : T1 f g 3 * T1b f g i - T1b f g 3 * T1 f g i = -(g 4) * S2 f g i := by
  match i with
  | 0 =>
    have h := pk_g f g 0
    show T1 f g 3 * (T1 f g 3 * g 0 - g 4 * 0) - (T1 f g 3 * g 3 - g 4 * T1 f g 2) * T1 f g 0 = -(g 4) * (T1 f g 3 * mn f g 0 3 - T1 f g 2 * T1 f g 0)
    generalize T1 f g 0 = q0 at *
    generalize T1 f g 2 = q2 at *
    generalize T1 f g 3 = q3 at *
    generalize mn f g 0 3 = n03 at *
    generalize g 0 = x0 at *
    generalize g 3 = x3 at *
    generalize g 4 = x4 at *
    grind
  | 1 =>
    have h := pk_g f g 1
    show T1 f g 3 * (T1 f g 3 * g 1 - g 4 * T1 f g 0) - (T1 f g 3 * g 3 - g 4 * T1 f g 2) * T1 f g 1 = -(g 4) * (T1 f g 3 * (T1 f g 0 + mn f g 1 3) - T1 f g 2 * T1 f g 1)
    generalize T1 f g 0 = q0 at *
    generalize T1 f g 1 = q1 at *
    generalize T1 f g 2 = q2 at *
    generalize T1 f g 3 = q3 at *
    generalize mn f g 1 3 = n13 at *
    generalize g 1 = x1 at *
    generalize g 3 = x3 at *
    generalize g 4 = x4 at *
    grind
  | 2 =>
    have h := pk_g f g 2
    show T1 f g 3 * (T1 f g 3 * g 2 - g 4 * T1 f g 1) - (T1 f g 3 * g 3 - g 4 * T1 f g 2) * T1 f g 2 = -(g 4) * (T1 f g 3 * (T1 f g 1 + mn f g 2 3) - T1 f g 2 * T1 f g 2)
    generalize T1 f g 1 = q1 at *
    generalize T1 f g 2 = q2 at *
    generalize T1 f g 3 = q3 at *
    generalize mn f g 2 3 = n23 at *
    generalize g 2 = x2 at *
    generalize g 3 = x3 at *
    generalize g 4 = x4 at *
    grind
  | 3 =>
    show T1 f g 3 * T1b f g 3 - T1b f g 3 * T1 f g 3 = -(g 4) * 0
    rw [Int.mul_comm, Int.mul_zero]
    exact Int.sub_self _
  | i + 4 =>
    rw [T1b_hi hf hg (i + 4) (by omega), T1_hi hf hg (i + 4) (by omega), Int.mul_zero, Int.mul_zero]
    show (0 : Int) - 0 = -(g 4) * 0
    rw [Int.mul_zero]
    rfl
theorem T2b_hi {f g : Nat → Int} (hf : ∀ i, 4 < i → f i = 0) (hg : ∀ i, 4 < i → g i = 0) : ∀ i, 2 < i → T2b f g i = 0 := fun i hi => by
  obtain ⟨k, rfl⟩ : ∃ k, i = k + 1 := ⟨i - 1, by omega⟩
  show S2 f g 2 * T1 f g (k + 1) - T1 f g 3 * S2 f g k = 0
  by_cases e : k = 2
  · rw [e, Int.mul_comm]; exact Int.sub_self _
  · obtain ⟨j, rfl⟩ : ∃ j, k = j + 3 := ⟨k - 3, by omega⟩
    rw [T1_hi hf hg (j + 3 + 1) (by omega), Int.mul_zero]
    show (0 : Int) - T1 f g 3 * 0 = 0
    rw [Int.mul_zero]
    rfl
theorem E5_1 (f g : Nat → Int) : S2 f g 2 * T2b f g 1 - T2b f g 2 * S2 f g 1 = -(T1 f g 3 * T1 f g 3) * S1 f g 1 := by
  have h1 := pk_m12 f g
  show S2 f g 2 * (S2 f g 2 * T1 f g 1 - T1 f g 3 * S2 f g 0) - (S2 f g 2 * T1 f g 2 - T1 f g 3 * S2 f g 1) * S2 f g 1 = -(T1 f g 3 * T1 f g 3) * uu f g
  unfold uu
  show (T1 f g 3 * (T1 f g 1 + mn f g 2 3) - T1 f g 2 * T1 f g 2) * ((T1 f g 3 * (T1 f g 1 + mn f g 2 3) - T1 f g 2 * T1 f g 2) * T1 f g 1 - T1 f g 3 * (T1 f g 3 * mn f g 0 3 - T1 f g 2 * T1 f g 0)) - ((T1 f g 3 * (T1 f g 1 + mn f g 2 3) - T1 f g 2 * T1 f g 2) * T1 f g 2 - T1 f g 3 * (T1 f g 3 * (T1 f g 0 + mn f g 1 3) - T1 f g 2 * T1 f g 1)) * (T1 f g 3 * (T1 f g 0 + mn f g 1 3) - T1 f g 2 * T1 f g 1) = _
  generalize T1 f g 0 = q0 at *
  generalize T1 f g 1 = q1 at *
  generalize T1 f g 2 = q2 at *
  generalize T1 f g 3 = q3 at *
  generalize mn f g 0 3 = n03 at *
  generalize mn f g 1 3 = n13 at *
  generalize mn f g 2 3 = n23 at *
  generalize mn f g 1 2 = n12 at *
  grind
theorem E5_0 (f g : Nat → Int) : S2 f g 2 * T2b f g 0 - T2b f g 2 * S2 f g 0 = -(T1 f g 3 * T1 f g 3) * S1 f g 0 := by
  have h1 := pk_m02 f g
  show S2 f g 2 * (S2 f g 2 * T1 f g 0 - T1 f g 3 * 0) - (S2 f g 2 * T1 f g 2 - T1 f g 3 * S2 f g 1) * S2 f g 0 = -(T1 f g 3 * T1 f g 3) * ww f g
  unfold ww
  show (T1 f g 3 * (T1 f g 1 + mn f g 2 3) - T1 f g 2 * T1 f g 2) * ((T1 f g 3 * (T1 f g 1 + mn f g 2 3) - T1 f g 2 * T1 f g 2) * T1 f g 0 - T1 f g 3 * 0) - ((T1 f g 3 * (T1 f g 1 + mn f g 2 3) - T1 f g 2 * T1 f g 2) * T1 f g 2 - T1 f g 3 * (T1 f g 3 * (T1 f g 0 + mn f g 1 3) - T1 f g 2 * T1 f g 1)) * (T1 f g 3 * mn f g 0 3 - T1 f g 2 * T1 f g 0) = _
  generalize T1 f g 0 = q0 at *
  generalize T1 f g 1 = q1 at *
  generalize T1 f g 2 = q2 at *
  generalize T1 f g 3 = q3 at *
  generalize mn f g 0 3 = n03 at *
  generalize mn f g 1 3 = n13 at *
  generalize mn f g 2 3 = n23 at *
  generalize mn f g 0 2 = n02 at *
  grind
theorem E5 {f g : Nat → Int} (hf : ∀ i, 4 < i → f i = 0) (hg : ∀ i, 4 < i → g i = 0) (i : Nat) : S2 f g 2 * T2b f g i - T2b f g 2 * S2 f g i = -(T1 f g 3 * T1 f g 3) * S1 f g i := by
  match i with
  | 0 => exact E5_0 f g
  | 1 => exact E5_1 f g
  | 2 =>
    show S2 f g 2 * T2b f g 2 - T2b f g 2 * S2 f g 2 = -(T1 f g 3 * T1 f g 3) * 0
    rw [Int.mul_comm, Int.mul_zero]
    exact Int.sub_self _
  | i + 3 =>
    rw [T2b_hi hf hg (i + 3) (by omega), Int.mul_zero]
    show (0 : Int) - T2b f g 2 * 0 = -(T1 f g 3 * T1 f g 3) * 0
    rw [Int.mul_zero, Int.mul_zero]
    rfl
theorem T3b_hi (f g : Nat → Int) : ∀ i, 1 < i → T3b f g i = 0 := fun i hi => by
  match i, hi with
  | 2, _ =>
    show S1 f g 1 * S2 f g 2 - S2 f g 2 * S1 f g 1 = 0
    rw [Int.mul_comm]; exact Int.sub_self _
  | i + 3, _ =>
    show S1 f g 1 * 0 - S2 f g 2 * 0 = 0
    rw [Int.mul_zero, Int.mul_zero]
    rfl
/-! bounds -/
theorem nb_mul {x y : Int} {A B : Nat} (hx : x.natAbs ≤ A) (hy : y.natAbs ≤ B) : (x * y).natAbs ≤ A * B := by
  rw [Int.natAbs_mul]
  exact Nat.mul_le_mul hx hy
section CB
variable {f g : Nat → Int}
theorem mn_b (hf : bx 7 f) (hg : bx 7 g) (i j : Nat) : (mn f g i j).natAbs ≤ 98 := by
  have h1 := nb_mul (hf i) (hg j)
  have h2 := nb_mul (hf j) (hg i)
  unfold mn
  omega
theorem T1_b (hf : bx 7 f) (hg : bx 7 g) : bx 98 (T1 f g) := fun i => by
  have h1 := nb_mul (hg 4) (hf i)
  have h2 := nb_mul (hf 4) (hg i)
  unfold T1
  omega
theorem sh_b {B : Nat} {p : Nat → Int} (h : bx B p) : bx B (sh p) := fun i => by
  cases i with
  | zero => exact Nat.zero_le _
  | succ i => exact h i
theorem T1b_b (hf : bx 7 f) (hg : bx 7 g) : bx 1372 (T1b f g) := fun i => by
  have h1 := nb_mul (T1_b hf hg 3) (hg i)
  have h2 := nb_mul (hg 4) (sh_b (T1_b hf hg) i)
  unfold T1b
  omega
theorem S2_0b (hf : bx 7 f) (hg : bx 7 g) : (S2 f g 0).natAbs ≤ 19208 := by
  have h1 := nb_mul (T1_b hf hg 3) (mn_b hf hg 0 3)
  have h2 := nb_mul (T1_b hf hg 2) (T1_b hf hg 0)
  show (T1 f g 3 * mn f g 0 3 - T1 f g 2 * T1 f g 0).natAbs ≤ _
  omega
theorem b21_b (hf : bx 7 f) (hg : bx 7 g) : (T1 f g 0 + mn f g 1 3).natAbs ≤ 196 := by
  have h1 := T1_b hf hg 0
  have h2 := mn_b hf hg 1 3
  omega
theorem b22_b (hf : bx 7 f) (hg : bx 7 g) : (T1 f g 1 + mn f g 2 3).natAbs ≤ 196 := by
  have h1 := T1_b hf hg 1
  have h2 := mn_b hf hg 2 3
  omega
theorem b11_b (hf : bx 7 f) (hg : bx 7 g) : (mn f g 0 3 + mn f g 1 2).natAbs ≤ 196 := by
  have h1 := mn_b hf hg 0 3
  have h2 := mn_b hf hg 1 2
  omega
theorem S2_b (hf : bx 7 f) (hg : bx 7 g) : bx 28812 (S2 f g) := fun i => by
  match i with
  | 0 => have := S2_0b hf hg; omega
  | 1 =>
    have h1 := nb_mul (T1_b hf hg 3) (b21_b hf hg)
    have h2 := nb_mul (T1_b hf hg 2) (T1_b hf hg 1)
    show (T1 f g 3 * (T1 f g 0 + mn f g 1 3) - T1 f g 2 * T1 f g 1).natAbs ≤ _
    omega
  | 2 =>
    have h1 := nb_mul (T1_b hf hg 3) (b22_b hf hg)
    have h2 := nb_mul (T1_b hf hg 2) (T1_b hf hg 2)
    show (T1 f g 3 * (T1 f g 1 + mn f g 2 3) - T1 f g 2 * T1 f g 2).natAbs ≤ _
    omega
  | i + 3 => exact Nat.zero_le _
theorem T2b_b (hf : bx 7 f) (hg : bx 7 g) : bx 5647152 (T2b f g) := fun i => by
  have h1 := nb_mul (S2_b hf hg 2) (T1_b hf hg i)
  have h2 := nb_mul (T1_b hf hg 3) (sh_b (S2_b hf hg) i)
  unfold T2b
  omega
theorem uu_b (hf : bx 7 f) (hg : bx 7 g) : (uu f g).natAbs ≤ 15059072 := by
  have a1 := nb_mul (b22_b hf hg) (b11_b hf hg)
  have a2 := nb_mul (b21_b hf hg) (b21_b hf hg)
  have a3 := nb_mul (T1_b hf hg 2) (b11_b hf hg)
  have a4 := nb_mul (b21_b hf hg) (T1_b hf hg 1)
  have a5 := nb_mul (T1_b hf hg 2) (b21_b hf hg)
  have a6 := nb_mul (b22_b hf hg) (T1_b hf hg 1)
  unfold uu
  generalize (T1 f g 1 + mn f g 2 3) * (mn f g 0 3 + mn f g 1 2) = x1 at *
  generalize (T1 f g 0 + mn f g 1 3) * (T1 f g 0 + mn f g 1 3) = x2 at *
  generalize T1 f g 2 * (mn f g 0 3 + mn f g 1 2) = x3 at *
  generalize (T1 f g 0 + mn f g 1 3) * T1 f g 1 = x4 at *
  generalize T1 f g 2 * (T1 f g 0 + mn f g 1 3) = x5 at *
  generalize (T1 f g 1 + mn f g 2 3) * T1 f g 1 = x6 at *
  have c1 := nb_mul (T1_b hf hg 3) (show (x1 - x2).natAbs ≤ 76832 by omega)
  have c2 := nb_mul (T1_b hf hg 2) (show (x3 - x4).natAbs ≤ 38416 by omega)
  have c3 := nb_mul (T1_b hf hg 1) (show (x5 - x6).natAbs ≤ 38416 by omega)
  omega
theorem ww_b (hf : bx 7 f) (hg : bx 7 g) : (ww f g).natAbs ≤ 9411920 := by
  have a1 := nb_mul (b22_b hf hg) (mn_b hf hg 0 2)
  have a2 := nb_mul (mn_b hf hg 0 3) (b21_b hf hg)
  have a3 := nb_mul (T1_b hf hg 2) (mn_b hf hg 0 2)
  have a4 := nb_mul (mn_b hf hg 0 3) (T1_b hf hg 1)
  have a5 := nb_mul (T1_b hf hg 2) (b21_b hf hg)
  have a6 := nb_mul (b22_b hf hg) (T1_b hf hg 1)
  unfold ww
  generalize (T1 f g 1 + mn f g 2 3) * mn f g 0 2 = x1 at *
  generalize mn f g 0 3 * (T1 f g 0 + mn f g 1 3) = x2 at *
  generalize T1 f g 2 * mn f g 0 2 = x3 at *
  generalize mn f g 0 3 * T1 f g 1 = x4 at *
  generalize T1 f g 2 * (T1 f g 0 + mn f g 1 3) = x5 at *
  generalize (T1 f g 1 + mn f g 2 3) * T1 f g 1 = x6 at *
  have c1 := nb_mul (T1_b hf hg 3) (show (x1 - x2).natAbs ≤ 38416 by omega)
  have c2 := nb_mul (T1_b hf hg 2) (show (x3 - x4).natAbs ≤ 19208 by omega)
  have c3 := nb_mul (T1_b hf hg 0) (show (x5 - x6).natAbs ≤ 38416 by omega)
  omega
theorem S1_b (hf : bx 7 f) (hg : bx 7 g) : bx 15059072 (S1 f g) := fun i => by
  match i with
  | 0 => exact Nat.le_trans (ww_b hf hg) (by decide)
  | 1 => exact uu_b hf hg
  | i + 2 => exact Nat.zero_le _
theorem T3b_b (hf : bx 7 f) (hg : bx 7 g) : bx 867763964928 (T3b f g) := fun i => by
  have h1 := nb_mul (S1_b hf hg 1) (S2_b hf hg i)
  have h2 := nb_mul (S2_b hf hg 2) (sh_b (S1_b hf hg) i)
  unfold T3b
  omega
theorem T4_b (hf : bx 7 f) (hg : bx 7 g) : (S1 f g 1 * T3b f g 0 - T3b f g 1 * S1 f g 0).natAbs < 18446744073709551616 := by
  have e0 : T3b f g 0 = S1 f g 1 * S2 f g 0 - S2 f g 2 * 0 := rfl
  have e1 : T3b f g 1 = S1 f g 1 * S2 f g 1 - S2 f g 2 * S1 f g 0 := rfl
  have hu : (S1 f g 1).natAbs ≤ 15059072 := uu_b hf hg
  have hw : (S1 f g 0).natAbs ≤ 9411920 := ww_b hf hg
  have h0 : (T3b f g 0).natAbs ≤ 289254654976 := by
    rw [e0, Int.mul_zero, Int.sub_zero]
    exact nb_mul hu (S2_0b hf hg)
  have h1 : (T3b f g 1).natAbs ≤ 705058221504 := by
    have a1 := nb_mul hu (S2_b hf hg 1)
    have a2 := nb_mul (S2_b hf hg 2) hw
    rw [e1]
    omega
  have b1 := nb_mul hu h0
  have b2 := nb_mul h1 hw
  omega
end CB
end
section
/-! a degree, one more than it; 0 for the polynomial 0 -/
def dgp (A : Nat → Int) (a : Nat) : Prop := (∀ i, a ≤ i → A i = 0) ∧ (0 < a → A (a - 1) ≠ 0)
theorem dgp_uq {A : Nat → Int} {a b : Nat} (h1 : dgp A a) (h2 : dgp A b) : a = b := by
  rcases Nat.lt_trichotomy a b with h | h | h
  · exact absurd (h1.1 (b - 1) (by omega)) (h2.2 (by omega))
  · exact h
  · exact absurd (h2.1 (a - 1) (by omega)) (h1.2 (by omega))
theorem dgp_ex {A : Nat → Int} : ∀ N : Nat, (∀ i, N ≤ i → A i = 0) → ∃ a, a ≤ N ∧ dgp A a
  | 0, h => ⟨0, Nat.le_refl 0, h, fun q => absurd q (Nat.lt_irrefl 0)⟩
  | N + 1, h => by
    by_cases e : A N = 0
    · obtain ⟨a, h1, h2⟩ := dgp_ex (A := A) N (fun i hi => by
        by_cases q : i = N
        · rw [q]; exact e
        · exact h i (by omega))
      exact ⟨a, by omega, h2⟩
    · exact ⟨N + 1, Nat.le_refl _, h, fun _ => e⟩
theorem dgp_le {A : Nat → Int} {a N : Nat} (h : dgp A a) (hz : ∀ i, N ≤ i → A i = 0) : a ≤ N := Nat.le_of_not_lt fun q => h.2 (by omega) (hz (a - 1) (by omega))
theorem dgp_0 {A : Nat → Int} (h : dgp A 0) : ∀ i, A i = 0 := fun i => h.1 i (Nat.zero_le i)
theorem dgp_tp {A : Nat → Int} {a : Nat} (h : dgp A (a + 1)) : top A a := ⟨h.2 (Nat.succ_pos a), fun i hi => h.1 i hi⟩
theorem shN_b {B : Nat} {p : Nat → Int} (h : bx B p) : ∀ k, bx B (shN k p)
  | 0 => h
  | k + 1 => sh_b (shN_b h k)
/-! bounds alone: a pair whose every further number is below 2^63, a last constant below 2^64 -/
def nsafe : Nat → Nat → Nat → Nat → Nat → Bool
  | 0, _, _, _, _ => false
  | n + 1, a, α, b, β => decide (2 * α * β < 18446744073709551616) && (List.range a).all (fun a1 => decide (a1 = 0) || ((decide (a1 = 1) || decide (2 * α * β < 9223372036854775808)) && (if b ≤ a1 then nsafe n a1 (if a1 = 1 then 1 else 2 * α * β) b β else nsafe n b β a1 (if a1 = 1 then 1 else 2 * α * β))))
theorem nsafe_s {n a α b β : Nat} (h : nsafe (n + 1) a α b β = true) : 2 * α * β < 18446744073709551616 ∧ ∀ a1, a1 < a → a1 = 0 ∨ ((a1 = 1 ∨ 2 * α * β < 9223372036854775808) ∧ (if b ≤ a1 then nsafe n a1 (if a1 = 1 then 1 else 2 * α * β) b β else nsafe n b β a1 (if a1 = 1 then 1 else 2 * α * β)) = true) := by
  unfold nsafe at h
  rw [Bool.and_eq_true, decide_eq_true_eq, List.all_eq_true] at h
  refine ⟨h.1, fun a1 ha => ?_⟩
  have h1 := h.2 a1 (List.mem_range.mpr ha)
  rw [Bool.or_eq_true, decide_eq_true_eq, Bool.and_eq_true, Bool.or_eq_true, decide_eq_true_eq, decide_eq_true_eq] at h1
  exact h1
def NS (A B : Nat → Int) : Prop := ∃ n a α b β, dgp A a ∧ dgp B b ∧ 1 ≤ b ∧ b ≤ a ∧ bx α A ∧ bx β B ∧ nsafe n a α b β = true
def pro (A T : Nat → Int) : Prop := ∃ k : Int, k ≠ 0 ∧ ∀ i, k * A i = T i
def SPc (A B : Nat → Int) : Prop := ∃ f g : Nat → Int, bx 7 f ∧ bx 7 g ∧ (∀ i, 4 < i → f i = 0) ∧ (∀ i, 4 < i → g i = 0) ∧ g 4 ≠ 0 ∧ T1 f g 3 ≠ 0 ∧
  ((dgp A 5 ∧ dgp B 4 ∧ (∀ i, A i = g i) ∧ pro B (T1 f g)) ∨ (dgp A 4 ∧ dgp B 4 ∧ pro A (T1b f g) ∧ pro B (T1 f g)) ∨ (dgp A 4 ∧ dgp B 3 ∧ pro A (T1 f g) ∧ pro B (S2 f g)) ∨ (dgp A 3 ∧ dgp B 3 ∧ pro A (T2b f g) ∧ pro B (S2 f g)) ∨ (dgp A 3 ∧ dgp B 2 ∧ pro A (S2 f g) ∧ pro B (S1 f g)) ∨ (dgp A 2 ∧ dgp B 2 ∧ pro A (T3b f g) ∧ pro B (S1 f g)))
def SFo (A B : Nat → Int) : Prop := NS A B ∨ (dgp A 5 ∧ dgp B 5 ∧ bx 7 A ∧ bx 7 B) ∨ SPc A B
def SF (A B : Nat → Int) : Prop := (∀ i, A i = 0) ∨ (∀ i, B i = 0) ∨ SFo A B ∨ ∃ a b, dgp A a ∧ dgp B b ∧ a < b ∧ SFo B A
theorem pro_b {A T : Nat → Int} {B : Nat} (h : pro A T) (hT : bx B T) : bx B A := by
  obtain ⟨k, hk, h⟩ := h
  exact fun i => fac_le (by rw [h i]; exact hT i) hk
/-- a primitive polynomial, proportional to one, divides it -/
theorem pro_to {A T S : Nat → Int} (pr : Pr A) (h : pro A T) {p q : Int} (hp : p ≠ 0) (hq : q ≠ 0) (e : ∀ i, p * T i = q * S i) : pro A S := by
  obtain ⟨k, hk, h⟩ := h
  obtain ⟨k1, hk1⟩ := pr.dv (c := q) (n := p * k) hq (fun i => ⟨S i, by rw [Int.mul_assoc, h i]; exact e i⟩)
  refine ⟨k1, fun z => Int.mul_ne_zero hp hk (by rw [hk1, z, Int.mul_zero]), fun i => ?_⟩
  have h1 := e i
  rw [← h i, ← Int.mul_assoc, hk1, Int.mul_assoc] at h1
  exact Int.eq_of_mul_eq_mul_left hq h1
def NZ (R A1 : Nat → Int) : Prop := ((∀ i, R i = 0) ∧ ∀ i, A1 i = 0) ∨ (Pr A1 ∧ ∃ k : Int, k ≠ 0 ∧ ∀ i, R i = k * A1 i)
section ST
variable {A B R A1 : Nat → Int} {a b : Nat} {c sf ot : Int}
theorem low_top (da : dgp A a) (db : dgp B b) (h1 : 1 ≤ b) (h2 : b ≤ a) (hc : c ≠ 0) (e1 : c * sf = B (b - 1)) (e2 : c * ot = A (a - 1)) (hR : ∀ i, R i = sf * A i - ot * shN (a - b) B i) : ∀ i, a - 1 ≤ i → R i = 0 := fun i hi => by
  by_cases q : i = a - 1
  · have h3 : c * R i = 0 := by
      rw [hR i, shN_at, if_neg (by omega), Int.mul_sub, ← Int.mul_assoc, ← Int.mul_assoc, e1, e2, q, show a - 1 - (a - b) = b - 1 by omega, Int.mul_comm]
      exact Int.sub_self _
    exact (Int.mul_eq_zero.mp h3).resolve_left hc
  · rw [hR i, da.1 i (by omega), shN_at, if_neg (by omega), db.1 (i - (a - b)) (by omega), Int.mul_zero, Int.mul_zero]
    rfl
/-- the step, times the factors, is the step of the two that they are proportional to -/
theorem low_pro {TA TB : Nat → Int} (hc : c ≠ 0) (e1 : c * sf = B (b - 1)) (e2 : c * ot = A (a - 1)) (hR : ∀ i, R i = sf * A i - ot * shN (a - b) B i) (hA : pro A TA) (hB : pro B TB) : pro R (fun i => TB (b - 1) * TA i - TA (a - 1) * shN (a - b) TB i) := by
  obtain ⟨k, hk, hA⟩ := hA
  obtain ⟨m, hm, hB⟩ := hB
  refine ⟨c * (k * m), Int.mul_ne_zero hc (Int.mul_ne_zero hk hm), fun i => ?_⟩
  have hs : shN (a - b) TB i = m * shN (a - b) B i := by
    rw [shN_at, shN_at]
    by_cases q : i < a - b
    · rw [if_pos q, if_pos q, Int.mul_zero]
    · rw [if_neg q, if_neg q, hB]
  show c * (k * m) * R i = TB (b - 1) * TA i - TA (a - 1) * shN (a - b) TB i
  rw [hs, ← hB (b - 1), ← hA i, ← hA (a - 1), ← e1, ← e2, hR i]
  generalize A i = x
  generalize shN (a - b) B i = y
  grind
theorem low_pro0 {TA TB : Nat → Int} {l : Nat} (hc : c ≠ 0) (e1 : c * sf = B l) (e2 : c * ot = A l) (hR : ∀ i, R i = sf * A i - ot * B i) (hA : pro A TA) (hB : pro B TB) : pro R (fun i => TB l * TA i - TA l * TB i) := low_pro (a := l + 1) (b := l + 1) hc e1 e2 (fun i => by rw [hR i, Nat.sub_self]; rfl) hA hB |> fun h => by
  rw [Nat.sub_self] at h
  exact h
theorem low_pro1 {TA TB : Nat → Int} {la lb : Nat} (hl : la = lb + 1) (hc : c ≠ 0) (e1 : c * sf = B lb) (e2 : c * ot = A la) (hR : ∀ i, R i = sf * A i - ot * sh B i) (hA : pro A TA) (hB : pro B TB) : pro R (fun i => TB lb * TA i - TA la * sh TB i) := by
  have h := low_pro (a := la + 1) (b := lb + 1) hc e1 e2 (R := R) (fun i => by rw [hR i, show la + 1 - (lb + 1) = 1 by omega]; rfl) hA hB
  rw [show la + 1 - (lb + 1) = 1 by omega] at h
  exact h
theorem NZ.pro {T : Nat → Int} (h : pro R T) (hk : ∃ k : Int, k ≠ 0 ∧ ∀ i, R i = k * A1 i) : pro A1 T := by
  obtain ⟨k, h0, hk⟩ := hk
  obtain ⟨m, hm, h⟩ := h
  exact ⟨m * k, Int.mul_ne_zero hm h0, fun i => by rw [Int.mul_assoc, ← hk i]; exact h i⟩
theorem const_b (pr : Pr A1) (d : dgp A1 1) : bx 1 A1 := gb0 pr (dgp_tp d)
end ST
theorem sf_S2 {A1 B f g : Nat → Int} {a1 : Nat} (hf : bx 7 f) (hg : bx 7 g) (sf : ∀ i, 4 < i → f i = 0) (sg : ∀ i, 4 < i → g i = 0) (g4 : g 4 ≠ 0) (t3 : T1 f g 3 ≠ 0) (dB : dgp B 4) (hB : pro B (T1 f g)) (d1 : dgp A1 a1) (h1 : a1 ≤ 3) (hA : pro A1 (S2 f g)) : SF A1 B := by
  by_cases q0 : a1 = 0
  · subst q0; exact Or.inl (dgp_0 d1)
  · refine Or.inr (Or.inr (Or.inr ⟨a1, 4, d1, dB, by omega, ?_⟩))
    by_cases q3 : a1 = 3
    · subst q3
      exact Or.inr (Or.inr ⟨f, g, hf, hg, sf, sg, g4, t3, Or.inr (Or.inr (Or.inl ⟨dB, d1, hB, hA⟩))⟩)
    · refine Or.inl ⟨12, 4, 98, a1, 28812, dB, d1, by omega, by omega, pro_b hB (T1_b hf hg), pro_b hA (S2_b hf hg), ?_⟩
      rcases (show a1 = 1 ∨ a1 = 2 by omega) with rfl | rfl <;> decide +kernel
theorem sf_S1 {A1 B f g : Nat → Int} {a1 : Nat} (hf : bx 7 f) (hg : bx 7 g) (sf : ∀ i, 4 < i → f i = 0) (sg : ∀ i, 4 < i → g i = 0) (g4 : g 4 ≠ 0) (t3 : T1 f g 3 ≠ 0) (dB : dgp B 3) (hB : pro B (S2 f g)) (d1 : dgp A1 a1) (h1 : a1 ≤ 2) (pr : Pr A1) (hA : pro A1 (S1 f g)) : SF A1 B := by
  by_cases q0 : a1 = 0
  · subst q0; exact Or.inl (dgp_0 d1)
  · refine Or.inr (Or.inr (Or.inr ⟨a1, 3, d1, dB, by omega, ?_⟩))
    by_cases q3 : a1 = 2
    · subst q3
      exact Or.inr (Or.inr ⟨f, g, hf, hg, sf, sg, g4, t3, Or.inr (Or.inr (Or.inr (Or.inr (Or.inl ⟨dB, d1, hB, hA⟩))))⟩)
    · have e : a1 = 1 := by omega
      subst e
      exact Or.inl ⟨12, 3, 28812, 1, 1, dB, d1, by omega, by omega, pro_b hB (S2_b hf hg), const_b pr d1, by decide +kernel⟩
theorem sf_c {A1 B f g : Nat → Int} {a1 : Nat} (hf : bx 7 f) (hg : bx 7 g) (dB : dgp B 2) (hB : pro B (S1 f g)) (d1 : dgp A1 a1) (h1 : a1 ≤ 1) (pr : Pr A1) : SF A1 B := by
  by_cases q0 : a1 = 0
  · subst q0; exact Or.inl (dgp_0 d1)
  · have e : a1 = 1 := by omega
    subst e
    exact Or.inr (Or.inr (Or.inr ⟨1, 2, d1, dB, by omega, Or.inl ⟨12, 2, 15059072, 1, 1, dB, d1, by omega, by omega, pro_b hB (S1_b hf hg), const_b pr d1, by decide +kernel⟩⟩))
/-- what a step's numbers are below, and that the next pair is safe again -/
def STP (B R : Nat → Int) : Prop := (∀ i, (R i).natAbs < 18446744073709551616) ∧ ((∃ i, 1 ≤ i ∧ R i ≠ 0) → ∀ i, (R i).natAbs < 9223372036854775808) ∧ ∀ A1, NZ R A1 → SF A1 B
theorem stp_of {B R T : Nat → Int} {K : Nat} (hT : pro R T) (hb : bx K T) (hK : K < 9223372036854775808) (h : ∀ A1, Pr A1 → pro A1 T → (∃ k : Int, k ≠ 0 ∧ ∀ i, R i = k * A1 i) → SF A1 B) : STP B R := by
  have hb2 := pro_b hT hb
  refine ⟨fun i => Nat.lt_of_le_of_lt (hb2 i) (by omega), fun _ i => Nat.lt_of_le_of_lt (hb2 i) hK, fun A1 hA => ?_⟩
  rcases hA with ⟨-, z⟩ | ⟨pr, hk⟩
  · exact Or.inl z
  · exact h A1 pr (NZ.pro hT hk) hk
theorem nz_hi {R A1 : Nat → Int} {N : Nat} (hz : ∀ i, N ≤ i → R i = 0) (hk : ∃ k : Int, k ≠ 0 ∧ ∀ i, R i = k * A1 i) : ∀ i, N ≤ i → A1 i = 0 := fun i hi => by
  obtain ⟨k, h0, hk⟩ := hk
  have := hk i
  rw [hz i hi] at this
  exact (Int.mul_eq_zero.mp this.symm).resolve_left h0
theorem pro_0 {A T : Nat → Int} (h : pro A T) {i : Nat} (hz : A i = 0) : T i = 0 := by
  obtain ⟨k, -, h⟩ := h
  rw [← h i, hz, Int.mul_zero]
theorem step_ns {A B R : Nat → Int} {a b : Nat} {c sf ot : Int} (h : NS A B) (da : dgp A a) (db : dgp B b) (hc : c ≠ 0) (e1 : c * sf = B (b - 1)) (e2 : c * ot = A (a - 1)) (hR : ∀ i, R i = sf * A i - ot * shN (a - b) B i) : STP B R := by
  obtain ⟨n, a0, α, b0, β, da0, db0, h1, h2, bA, bB, hs⟩ := h
  have ea := dgp_uq da0 da
  have eb := dgp_uq db0 db
  subst ea; subst eb
  cases n with
  | zero => cases hs
  | succ n =>
    obtain ⟨v1, v2⟩ := nsafe_s hs
    have hsf : sf.natAbs ≤ β := fac_le (x := c) (by rw [e1]; exact bB _) hc
    have hot : ot.natAbs ≤ α := fac_le (x := c) (by rw [e2]; exact bA _) hc
    have hb : ∀ i, (R i).natAbs ≤ 2 * α * β := fun i => by
      have c1 := nb_mul hsf (bA i)
      have c2 := nb_mul hot (shN_b bB (a0 - b0) i)
      rw [Nat.mul_comm β α] at c1
      rw [hR i, Nat.mul_assoc]
      omega
    have hz := low_top da db h1 h2 hc e1 e2 hR
    refine ⟨fun i => Nat.lt_of_le_of_lt (hb i) v1, fun hn i => ?_, fun A1 hA => ?_⟩
    · obtain ⟨j, hj, hj0⟩ := hn
      obtain ⟨a1, ha1, d1⟩ := dgp_ex (a0 - 1) hz
      have hja : j < a1 := Nat.lt_of_not_le fun q => hj0 (d1.1 j q)
      rcases v2 a1 (by omega) with q | ⟨q, -⟩
      · omega
      · rcases q with q | q
        · omega
        · exact Nat.lt_of_le_of_lt (hb i) q
    · rcases hA with ⟨-, z⟩ | ⟨pr, hk⟩
      · exact Or.inl z
      · obtain ⟨a1, ha1, d1⟩ := dgp_ex (a0 - 1) (nz_hi hz hk)
        by_cases q0 : a1 = 0
        · subst q0; exact Or.inl (dgp_0 d1)
        · have hb1 : bx (if a1 = 1 then 1 else 2 * α * β) A1 := by
            by_cases q1 : a1 = 1
            · rw [if_pos q1]
              subst q1
              exact const_b pr d1
            · rw [if_neg q1]
              obtain ⟨k, hk0, hk⟩ := hk
              exact fun i => fac_le (x := k) (by rw [← hk i]; exact hb i) hk0
          obtain ⟨-, hn⟩ := (v2 a1 (by omega)).resolve_left q0
          by_cases hle : b0 ≤ a1
          · rw [if_pos hle] at hn
            exact Or.inr (Or.inr (Or.inl (Or.inl ⟨n, a1, _, b0, β, d1, db, h1, hle, hb1, bB, hn⟩)))
          · rw [if_neg hle] at hn
            exact Or.inr (Or.inr (Or.inr ⟨a1, b0, d1, db, by omega, Or.inl ⟨n, b0, β, a1, _, db, d1, by omega, by omega, bB, hb1, hn⟩⟩))
set_option maxHeartbeats 4000000 in
theorem step {A B R : Nat → Int} {a b : Nat} {c sf ot : Int} (h : SFo A B) (da : dgp A a) (db : dgp B b) (hc : c ≠ 0) (e1 : c * sf = B (b - 1)) (e2 : c * ot = A (a - 1)) (hR : ∀ i, R i = sf * A i - ot * shN (a - b) B i) : STP B R := by
  rcases h with h | ⟨d5, d5', bA, bB⟩ | ⟨f, g, hf, hg, zf, zg, g4, t3, h⟩
  · exact step_ns h da db hc e1 e2 hR
  · -- f and g themselves
    have ea := dgp_uq d5 da
    have eb := dgp_uq d5' db
    subst ea; subst eb
    have hp : pro R (T1 A B) := low_pro0 (l := 4) hc e1 e2 hR ⟨1, by decide, fun i => Int.one_mul (A i)⟩ ⟨1, by decide, fun i => Int.one_mul (B i)⟩
    have zf : ∀ i, 4 < i → A i = 0 := fun i hi => d5.1 i hi
    have zg : ∀ i, 4 < i → B i = 0 := fun i hi => d5'.1 i hi
    refine stp_of hp (T1_b bA bB) (by decide) (fun A1 pr hA hk => ?_)
    obtain ⟨a1, ha1, d1⟩ := dgp_ex 4 (nz_hi (low_top d5 d5' (by omega) (by omega) hc e1 e2 hR) hk)
    by_cases q0 : a1 = 0
    · subst q0; exact Or.inl (dgp_0 d1)
    · refine Or.inr (Or.inr (Or.inr ⟨a1, 5, d1, d5', by omega, ?_⟩))
      by_cases q4 : a1 = 4
      · subst q4
        have t3 : T1 A B 3 ≠ 0 := by
          obtain ⟨k, hk0, hk1⟩ := hA
          rw [← hk1 3]
          exact Int.mul_ne_zero hk0 (d1.2 (by omega))
        exact Or.inr (Or.inr ⟨A, B, bA, bB, zf, zg, d5'.2 (by omega), t3, Or.inl ⟨d5', d1, fun _ => rfl, hA⟩⟩)
      · refine Or.inl ⟨12, 5, 7, a1, 98, d5', d1, by omega, by omega, bB, pro_b hA (T1_b bA bB), ?_⟩
        rcases (show a1 = 1 ∨ a1 = 2 ∨ a1 = 3 by omega) with rfl | rfl | rfl <;> decide +kernel
  · have hng : -(g 4) ≠ 0 := by omega
    have hnp : -(T1 f g 3 * T1 f g 3) ≠ 0 := by
      have := Int.mul_ne_zero t3 t3
      omega
    rcases h with ⟨dA, dB, hA, hB⟩ | ⟨dA, dB, hA, hB⟩ | ⟨dA, dB, hA, hB⟩ | ⟨dA, dB, hA, hB⟩ | ⟨dA, dB, hA, hB⟩ | ⟨dA, dB, hA, hB⟩
    · have ea := dgp_uq dA da
      have eb := dgp_uq dB db
      subst ea; subst eb
      have hp : pro R (T1b f g) := low_pro1 (la := 4) (lb := 3) rfl hc e1 e2 hR (TA := g) ⟨1, by decide, fun i => by rw [hA i]; exact Int.one_mul _⟩ hB
      refine stp_of hp (T1b_b hf hg) (by decide) (fun A1 pr h1 hk => ?_)
      obtain ⟨a1, ha1, d1⟩ := dgp_ex 4 (nz_hi (low_top dA dB (by omega) (by omega) hc e1 e2 hR) hk)
      by_cases q4 : a1 = 4
      · subst q4
        exact Or.inr (Or.inr (Or.inl (Or.inr (Or.inr ⟨f, g, hf, hg, zf, zg, g4, t3, Or.inr (Or.inl ⟨d1, dB, h1, hB⟩)⟩))))
      · have z3 := pro_0 h1 (d1.1 3 (by omega))
        refine sf_S2 hf hg zf zg g4 t3 dB hB d1 (by omega) (pro_to pr h1 t3 hng (fun i => ?_))
        have := E4 zf zg i
        rw [z3, Int.zero_mul, Int.sub_zero] at this
        exact this
    · have ea := dgp_uq dA da
      have eb := dgp_uq dB db
      subst ea; subst eb
      have hp : pro R (fun i => T1 f g 3 * T1b f g i - T1b f g 3 * T1 f g i) := low_pro0 (l := 3) hc e1 e2 hR hA hB
      have hp : pro R (fun i => -(g 4) * S2 f g i) := by
        obtain ⟨k, hk0, hk⟩ := hp
        exact ⟨k, hk0, fun i => (hk i).trans (E4 zf zg i)⟩
      refine stp_of (K := 201684) hp (fun i => ?_) (by decide) (fun A1 pr h1 hk => ?_)
      · exact nb_mul (A := 7) (B := 28812) (by rw [Int.natAbs_neg]; exact hg 4) (S2_b hf hg i)
      · obtain ⟨a1, ha1, d1⟩ := dgp_ex 3 (nz_hi (low_top dA dB (by omega) (by omega) hc e1 e2 hR) hk)
        exact sf_S2 hf hg zf zg g4 t3 dB hB d1 (by omega) (pro_to pr h1 (p := 1) (by decide) hng (fun i => Int.one_mul _))
    · have ea := dgp_uq dA da
      have eb := dgp_uq dB db
      subst ea; subst eb
      have hp : pro R (T2b f g) := low_pro1 (la := 3) (lb := 2) rfl hc e1 e2 hR hA hB
      have s2 : S2 f g 2 ≠ 0 := by
        obtain ⟨k, hk0, hk1⟩ := hB
        rw [← hk1 2]
        exact Int.mul_ne_zero hk0 (dB.2 (by omega))
      refine stp_of hp (T2b_b hf hg) (by decide) (fun A1 pr h1 hk => ?_)
      obtain ⟨a1, ha1, d1⟩ := dgp_ex 3 (nz_hi (low_top dA dB (by omega) (by omega) hc e1 e2 hR) hk)
      by_cases q4 : a1 = 3
      · subst q4
        exact Or.inr (Or.inr (Or.inl (Or.inr (Or.inr ⟨f, g, hf, hg, zf, zg, g4, t3, Or.inr (Or.inr (Or.inr (Or.inl ⟨d1, dB, h1, hB⟩)))⟩))))
      · have z3 := pro_0 h1 (d1.1 2 (by omega))
        refine sf_S1 hf hg zf zg g4 t3 dB hB d1 (by omega) pr (pro_to pr h1 s2 hnp (fun i => ?_))
        have := E5 zf zg i
        rw [z3, Int.zero_mul, Int.sub_zero] at this
        exact this
    · have ea := dgp_uq dA da
      have eb := dgp_uq dB db
      subst ea; subst eb
      have hp : pro R (fun i => S2 f g 2 * T2b f g i - T2b f g 2 * S2 f g i) := low_pro0 (l := 2) hc e1 e2 hR hA hB
      have hp : pro R (fun i => -(T1 f g 3 * T1 f g 3) * S1 f g i) := by
        obtain ⟨k, hk0, hk⟩ := hp
        exact ⟨k, hk0, fun i => (hk i).trans (E5 zf zg i)⟩
      refine stp_of (K := 144627327488) hp (fun i => ?_) (by decide) (fun A1 pr h1 hk => ?_)
      · exact nb_mul (A := 9604) (B := 15059072) (by rw [Int.natAbs_neg]; exact nb_mul (A := 98) (B := 98) (T1_b hf hg 3) (T1_b hf hg 3)) (S1_b hf hg i)
      · obtain ⟨a1, ha1, d1⟩ := dgp_ex 2 (nz_hi (low_top dA dB (by omega) (by omega) hc e1 e2 hR) hk)
        exact sf_S1 hf hg zf zg g4 t3 dB hB d1 (by omega) pr (pro_to pr h1 (p := 1) (by decide) hnp (fun i => Int.one_mul _))
    · have ea := dgp_uq dA da
      have eb := dgp_uq dB db
      subst ea; subst eb
      have hp : pro R (T3b f g) := low_pro1 (la := 2) (lb := 1) rfl hc e1 e2 hR hA hB
      refine stp_of hp (T3b_b hf hg) (by decide) (fun A1 pr h1 hk => ?_)
      obtain ⟨a1, ha1, d1⟩ := dgp_ex 2 (nz_hi (low_top dA dB (by omega) (by omega) hc e1 e2 hR) hk)
      by_cases q4 : a1 = 2
      · subst q4
        exact Or.inr (Or.inr (Or.inl (Or.inr (Or.inr ⟨f, g, hf, hg, zf, zg, g4, t3, Or.inr (Or.inr (Or.inr (Or.inr (Or.inr ⟨d1, dB, h1, hB⟩))))⟩))))
      · exact sf_c hf hg dB hB d1 (by omega) pr
    · have ea := dgp_uq dA da
      have eb := dgp_uq dB db
      subst ea; subst eb
      have hp : pro R (fun i => S1 f g 1 * T3b f g i - T3b f g 1 * S1 f g i) := low_pro0 (l := 1) hc e1 e2 hR hA hB
      have hz := low_top dA dB (by omega) (by omega) hc e1 e2 hR
      have hb0 : (R 0).natAbs < 18446744073709551616 := by
        obtain ⟨k, hk0, hk⟩ := hp
        have h1 : (k * R 0).natAbs ≤ (S1 f g 1 * T3b f g 0 - T3b f g 1 * S1 f g 0).natAbs := by rw [hk 0]; exact Nat.le_refl _
        exact Nat.lt_of_le_of_lt (fac_le h1 hk0) (T4_b hf hg)
      refine ⟨fun i => ?_, fun hn => ?_, fun A1 hA1 => ?_⟩
      · cases i with
        | zero => exact hb0
        | succ i => rw [hz (i + 1) (by omega)]; decide
      · obtain ⟨j, hj, hj0⟩ := hn
        exact absurd (hz j (by omega)) hj0
      · rcases hA1 with ⟨-, z⟩ | ⟨pr, hk⟩
        · exact Or.inl z
        · obtain ⟨a1, ha1, d1⟩ := dgp_ex 1 (nz_hi hz hk)
          exact sf_c hf hg dB hB d1 (by omega) pr
/-- where the two begin -/
theorem SF.init {A B : Nat → Int} {a : Nat} (zA : ∀ i, 4 < i → A i = 0) (zB : ∀ i, 4 < i → B i = 0) (da : dgp A a) (hA : bx (if a = 3 then 105 else 7) A) (hB : bx 7 B) : SF A B := by
  have ha : a ≤ 5 := dgp_le da (fun i hi => zA i hi)
  obtain ⟨b, hb, db⟩ := dgp_ex 5 (A := B) (fun i hi => zB i hi)
  by_cases a0 : a = 0
  · subst a0; exact Or.inl (dgp_0 da)
  · by_cases b0 : b = 0
    · subst b0; exact Or.inr (Or.inl (dgp_0 db))
    · by_cases h55 : a = 5 ∧ b = 5
      · obtain ⟨rfl, rfl⟩ := h55
        exact Or.inr (Or.inr (Or.inl (Or.inr (Or.inl ⟨da, db, hA, hB⟩))))
      · by_cases hle : b ≤ a
        · refine Or.inr (Or.inr (Or.inl (Or.inl ⟨14, a, _, b, 7, da, db, by omega, hle, hA, hB, ?_⟩)))
          rcases (show a = 1 ∨ a = 2 ∨ a = 3 ∨ a = 4 ∨ a = 5 by omega) with rfl | rfl | rfl | rfl | rfl <;> rcases (show b = 1 ∨ b = 2 ∨ b = 3 ∨ b = 4 ∨ b = 5 by omega) with rfl | rfl | rfl | rfl | rfl <;> first | omega | exact absurd ⟨rfl, rfl⟩ h55 | decide +kernel
        · refine Or.inr (Or.inr (Or.inr ⟨a, b, da, db, by omega, Or.inl ⟨14, b, 7, a, _, db, da, by omega, by omega, hB, hA, ?_⟩⟩))
          rcases (show a = 1 ∨ a = 2 ∨ a = 3 ∨ a = 4 ∨ a = 5 by omega) with rfl | rfl | rfl | rfl | rfl <;> rcases (show b = 1 ∨ b = 2 ∨ b = 3 ∨ b = 4 ∨ b = 5 by omega) with rfl | rfl | rfl | rfl | rfl <;> first | omega | decide +kernel
end
section
/-! rows of longs and the whole numbers that they stand for -/
def ti (f : Nat → Int64) : Nat → Int := fun i => if i < 5 then (f i).toInt else 0
def bd (f : Nat → Int64) : Prop := ∀ i, i < 5 → (f i).toInt ≠ -9223372036854775808
theorem ti_hi (f : Nat → Int64) : ∀ i, 5 ≤ i → ti f i = 0 := fun i hi => if_neg (by omega)
theorem ti_lo (f : Nat → Int64) {i : Nat} (hi : i < 5) : ti f i = (f i).toInt := if_pos hi
theorem ti_0 {f : Nat → Int64} {i : Nat} (hi : i < 5) : ti f i = 0 ↔ f i = 0 := by
  rw [ti_lo f hi]
  exact ⟨fun h => Int64.toInt_inj.mp h, fun h => by rw [h]; rfl⟩
theorem ti_dg {f : Nat → Int64} {z : Int} (h1 : -1 ≤ z ∧ z ≤ 4) (h2 : ∀ k : Int, z < k → k ≤ 4 → f k.toNat = 0) (h3 : 0 ≤ z → f z.toNat ≠ 0) : dgp (ti f) (z + 1).toNat := by
  refine ⟨fun i hi => ?_, fun h => ?_⟩
  · by_cases q : i < 5
    · rw [ti_0 q]
      have := h2 (i : Int) (by omega) (by omega)
      rw [Int.toNat_natCast] at this
      exact this
    · exact ti_hi f i (by omega)
  · have e : (z + 1).toNat - 1 = z.toNat := by omega
    rw [e]
    intro q
    exact h3 (by omega) ((ti_0 (by omega)).mp q)
theorem l_wrap {r : Int} (h : r.natAbs < 18446744073709551616) (h0 : r ≠ 0) : zL r ≠ 0 := fun q => by
  have h1 := congrArg Int64.toInt q
  unfold zL at h1
  rw [Int64.toInt_ofInt] at h1
  have h2 : (r.bmod Int64.size) = 0 := h1
  have h3 : ((Int64.size : Nat) : Int) ∣ r := Int.dvd_of_bmod_eq_zero h2
  obtain ⟨k, hk⟩ := h3
  have h4 : ((Int64.size : Nat) : Int) = 18446744073709551616 := rfl
  rw [h4] at hk
  omega
/-- the greatest common divisor as it is computed, also of the least long -/
def cgX (a b r : Int64) : Prop := cgE a b r ∧ (a = 0 → r = lab b) ∧ (b = 0 → r = lab a)
def CGr (f : Nat → Int64) : Nat → Int64 → Prop
  | 0, x => x = 0
  | k + 1, x => ∃ y, CGr f k y ∧ cgX y (f k) x
theorem CGr_e {f : Nat → Int64} : ∀ (n : Nat) (x : Int64), (∀ i, i < n → (f i).toInt ≠ -9223372036854775808) → CGr f n x → 0 ≤ x.toInt ∧ (∀ i, i < n → x.toInt ∣ (f i).toInt) ∧ ∀ m : Nat, (∀ i, i < n → (m : Int) ∣ (f i).toInt) → (m : Int) ∣ x.toInt
  | 0, x, _, h => by
    have h : x = 0 := h
    subst h
    exact ⟨by decide, fun i hi => by omega, fun m _ => Int.dvd_zero _⟩
  | k + 1, x, hb, h => by
    obtain ⟨y, h1, h2⟩ := h
    obtain ⟨i1, i2, i3⟩ := CGr_e k y (fun i hi => hb i (by omega)) h1
    have e := h2.1.2 (by omega) (hb k (by omega))
    refine ⟨by omega, fun i hi => ?_, fun m hm => ?_⟩
    · rw [e]
      by_cases q : i = k
      · rw [q]; exact Int.gcd_dvd_right _ _
      · exact Int.dvd_trans (Int.gcd_dvd_left _ _) (i2 i (by omega))
    · rw [e]
      exact Int.dvd_coe_gcd (i3 m (fun i hi => hm i (by omega))) (hm k (by omega))
theorem lab_lab (x : Int64) : lab (lab x) = lab x := by
  unfold lab
  by_cases h : x < 0
  · rw [if_pos h]
    by_cases q : -x < 0
    · rw [if_pos q]
      by_cases m : x.toInt = -9223372036854775808
      · have e : x = Int64.minValue := Int64.toInt_inj.mp m
        subst e
        rfl
      · exfalso
        have h1 := Int64.le_toInt x
        have h2 := Int64.toInt_lt x
        rw [Int64.lt_iff_toInt_lt, l0] at h q
        rw [Int64.toInt_neg, Int.bmod_eq_of_le (by omega) (by omega)] at q
        omega
    · rw [if_neg q]
  · rw [if_neg h, if_neg h]
theorem CGr_c {f : Nat → Int64} : ∀ (n : Nat) (x : Int64), (∀ i, 1 ≤ i → i < n + 1 → f i = 0) → CGr f (n + 1) x → x = lab (f 0)
  | 0, x, _, h => by
    obtain ⟨y, h1, h2⟩ := h
    exact h2.2.1 h1
  | n + 1, x, hz, h => by
    obtain ⟨y, h1, h2⟩ := h
    have e := CGr_c n y (fun i a b => hz i a (by omega)) h1
    rw [h2.2.2 (hz (n + 1) (by omega) (by omega)), e, lab_lab]
/-- f2 is f, freed of its numbers' common divisor, its leading number made positive -/
def NPm (f f2 : Nat → Int64) : Prop := ∃ (n : Nat) (x y : Int64), n ≤ 5 ∧ (∀ i, n ≤ i → i < 5 → f i = 0) ∧ CGr f n x ∧ (y = x ∨ y = -x) ∧ (∀ d, dgp (ti f) (d + 1) → (f d < 0 → y = -x) ∧ (¬ f d < 0 → y = x)) ∧ (y = 0 → ∀ i, i < 5 → f2 i = f i) ∧ (y ≠ 0 → ∀ i, i < 5 → f2 i = f i / y)
theorem norm {f f2 : Nat → Int64} {R : Nat → Int} (hr : ∀ i, i < 5 → f i = zL (R i)) (hz : ∀ i, 5 ≤ i → R i = 0) (h64 : ∀ i, (R i).natAbs < 18446744073709551616) (h63 : (∃ i, 1 ≤ i ∧ R i ≠ 0) → ∀ i, (R i).natAbs < 9223372036854775808) (h : NPm f f2) : NZ R (ti f2) ∧ bd f2 ∧ ∀ d, dgp (ti f2) (d + 1) → 0 < ti f2 d := by
  obtain ⟨n, x, y, hn, hn0, hx, hy, hs, e0, e1⟩ := h
  by_cases hA : ∃ i, 1 ≤ i ∧ R i ≠ 0
  · have h63 := h63 hA
    have hex : ∀ i, i < 5 → (f i).toInt = R i := fun i hi => by
      have := h63 i
      rw [hr i hi, zL_toInt (by omega) (by omega)]
    have hRt : ∀ i, ti f i = R i := fun i => by
      by_cases q : i < 5
      · rw [ti_lo f q, hex i q]
      · rw [ti_hi f i (by omega), hz i (by omega)]
    obtain ⟨x0, xd, xg⟩ := CGr_e n x (fun i hi => by have := h63 i; rw [hex i (by omega)]; omega) hx
    have xd5 : ∀ i, x.toInt ∣ R i := fun i => by
      by_cases q : i < n
      · rw [← hex i (by omega)]; exact xd i q
      · by_cases q5 : i < 5
        · rw [← hex i q5, hn0 i (by omega) q5]; exact Int.dvd_zero _
        · rw [hz i (by omega)]; exact Int.dvd_zero _
    have xpos : 0 < x.toInt := by
      obtain ⟨i, -, hi⟩ := hA
      rcases Int.lt_or_eq_of_le x0 with q | q
      · exact q
      · exfalso
        apply hi
        have := xd5 i
        rw [← q] at this
        exact Int.zero_dvd.mp this
    have hx2 := Int64.toInt_lt x
    have yI : y.toInt = x.toInt ∨ y.toInt = -x.toInt := by
      rcases hy with q | q
      · rw [q]; exact Or.inl rfl
      · right
        rw [q, Int64.toInt_neg, Int.bmod_eq_of_le (by omega) (by omega)]
    have y0 : y.toInt ≠ 0 := by omega
    have hy0 : y ≠ 0 := fun q => y0 (by rw [q]; rfl)
    have hq : ∀ i, R i = y.toInt * ti f2 i := fun i => by
      by_cases q : i < 5
      · have h1 := h63 i
        rw [ti_lo f2 q, e1 hy0 i q, Int64.toInt_div_of_ne_left _ _ (fun z => by
          have h2 := hex i q
          rw [z, Int64.toInt_minValue] at h2
          omega), hex i q]
        have hd : y.toInt ∣ R i := by
          rcases yI with z | z
          · rw [z]; exact xd5 i
          · rw [z]; exact Int.neg_dvd.mpr (xd5 i)
        obtain ⟨k, hk⟩ := hd
        rw [hk, Int.mul_tdiv_cancel_left _ y0]
      · rw [hz i (by omega), ti_hi f2 i (by omega), Int.mul_zero]
    have hpr : Pr (ti f2) := fun m hm => by
      have h1 : ((m * x.toInt.toNat : Nat) : Int) ∣ x.toInt := xg _ (fun i hi => by
        obtain ⟨k, hk⟩ := hm i
        rw [hex i (by omega), hq i, hk]
        have e : ((m * x.toInt.toNat : Nat) : Int) = (m : Int) * x.toInt := by rw [Int.natCast_mul, Int.toNat_of_nonneg x0]
        rw [e]
        rcases yI with z | z
        · exact ⟨k, by rw [z]; grind⟩
        · exact ⟨-k, by rw [z]; grind⟩)
      have h2 : m * x.toInt.toNat ∣ x.toInt.toNat := by
        have := Int.ofNat_dvd_left.mp h1
        rw [show x.toInt.natAbs = x.toInt.toNat by omega] at this
        exact this
      have h3 : 0 < x.toInt.toNat := by omega
      have h4 := Nat.le_of_dvd h3 h2
      have h5 : m ≤ 1 := Nat.le_of_not_lt fun q => by
        have : 2 * x.toInt.toNat ≤ m * x.toInt.toNat := Nat.mul_le_mul_right _ q
        omega
      have h6 : m ≠ 0 := fun q => by
        rw [q, Nat.zero_mul] at h2
        have := Nat.eq_zero_of_zero_dvd h2
        omega
      omega
    refine ⟨Or.inr ⟨hpr, y.toInt, y0, hq⟩, fun i hi q => ?_, fun d hd => ?_⟩
    · have h1 := h63 i
      have h2 := hq i
      rw [ti_lo f2 hi, q] at h2
      have h3 : (y.toInt * -9223372036854775808).natAbs = y.toInt.natAbs * 9223372036854775808 := by rw [Int.natAbs_mul]; rfl
      have h4 := Int.natAbs_pos.mpr y0
      rw [h2, h3] at h1
      omega
    · have hfd : dgp (ti f) (d + 1) := ⟨fun i hi => by rw [hRt i, hq i, hd.1 i hi, Int.mul_zero], fun _ => by
        have h1 := hd.2 (Nat.succ_pos d)
        rw [hRt, hq]
        exact Int.mul_ne_zero y0 h1⟩
      have hd5 : d < 5 := Nat.lt_of_not_le fun q => hd.2 (Nat.succ_pos d) (ti_hi f2 d q)
      obtain ⟨s1, s2⟩ := hs d hfd
      have h1 := hq d
      have h2 : ti f2 d ≠ 0 := hd.2 (Nat.succ_pos d)
      by_cases q : f d < 0
      · have h3 := s1 q
        have h4 : y.toInt = -x.toInt := by rw [h3, Int64.toInt_neg, Int.bmod_eq_of_le (by omega) (by omega)]
        rw [Int64.lt_iff_toInt_lt, l0, hex d hd5] at q
        rcases Int.lt_or_gt_of_ne h2 with z | z
        · have : 0 < (-y.toInt) * (-(ti f2 d)) := Int.mul_pos (by omega) (by omega)
          rw [Int.neg_mul_neg] at this
          omega
        · exact z
      · have h3 := s2 q
        rw [Int64.lt_iff_toInt_lt, l0, hex d hd5] at q
        rw [h3] at h1
        rcases Int.lt_or_gt_of_ne h2 with z | z
        · have : 0 < x.toInt * (-(ti f2 d)) := Int.mul_pos xpos (by omega)
          rw [Int.mul_neg] at this
          omega
        · exact z
  · have hR1 : ∀ i, 1 ≤ i → R i = 0 := fun i hi => Classical.byContradiction fun q => hA ⟨i, hi, q⟩
    have hf1 : ∀ i, 1 ≤ i → i < 5 → f i = 0 := fun i a b => by rw [hr i b, hR1 i a]; rfl
    have f2z : ∀ i, i < 5 → f i = 0 → f2 i = 0 := fun i hi q => by
      by_cases z : y = 0
      · rw [e0 z i hi, q]
      · rw [e1 z i hi, q, Int64.zero_div]
    by_cases h0 : R 0 = 0
    · have z2 : ∀ i, ti f2 i = 0 := fun i => by
        by_cases q : i < 5
        · rw [ti_0 q]
          refine f2z i q ?_
          cases i with
          | zero => rw [hr 0 q, h0]; rfl
          | succ i => exact hf1 (i + 1) (by omega) q
        · exact ti_hi f2 i (by omega)
      refine ⟨Or.inl ⟨fun i => ?_, z2⟩, fun i hi q => ?_, fun d hd => absurd (z2 d) (hd.2 (Nat.succ_pos d))⟩
      · cases i with
        | zero => exact h0
        | succ i => exact hR1 (i + 1) (by omega)
      · have := z2 i
        rw [ti_lo f2 hi, q] at this
        exact absurd this (by decide)
    · have hf0 : f 0 ≠ 0 := by rw [hr 0 (by decide)]; exact l_wrap (h64 0) h0
      have hn1 : n ≠ 0 := fun q => hf0 (hn0 0 (by omega) (by decide))
      obtain ⟨m, rfl⟩ : ∃ m, n = m + 1 := ⟨n - 1, by omega⟩
      have ex := CGr_c m x (fun i a b => hf1 i a (by omega)) hx
      have hd1 : dgp (ti f) (0 + 1) := ⟨fun i hi => by
          by_cases q : i < 5
          · rw [ti_0 q]; exact hf1 i hi q
          · exact ti_hi f i (by omega), fun _ q => hf0 ((ti_0 (by decide)).mp q)⟩
      have ey : y = f 0 := by
        obtain ⟨s1, s2⟩ := hs 0 hd1
        by_cases q : f 0 < 0
        · rw [s1 q, ex]
          unfold lab
          rw [if_pos q, Int64.neg_neg]
        · rw [s2 q, ex]
          unfold lab
          rw [if_neg q]
      have e20 : f2 0 = 1 := by
        rw [e1 (by rw [ey]; exact hf0) 0 (by decide), ey, Int64.div_self, if_neg hf0]
      have t0 : ti f2 0 = 1 := by rw [ti_lo f2 (by decide), e20]; rfl
      have t1 : ∀ i, 1 ≤ i → ti f2 i = 0 := fun i hi => by
        by_cases q : i < 5
        · rw [ti_0 q]; exact f2z i q (hf1 i hi q)
        · exact ti_hi f2 i (by omega)
      refine ⟨Or.inr ⟨fun m hm => ?_, R 0, h0, fun i => ?_⟩, fun i hi q => ?_, fun d hd => ?_⟩
      · have := hm 0
        rw [t0] at this
        have h1 := Int.ofNat_dvd_left.mp this
        exact Nat.dvd_one.mp h1
      · cases i with
        | zero => rw [t0, Int.mul_one]
        | succ i => rw [t1 (i + 1) (by omega), Int.mul_zero]; exact hR1 (i + 1) (by omega)
      · cases i with
        | zero => rw [e20] at q; exact absurd q (by decide)
        | succ i =>
          have := t1 (i + 1) (by omega)
          rw [ti_lo f2 hi, q] at this
          exact absurd this (by decide)
      · cases d with
        | zero => rw [t0]; decide
        | succ d => exact absurd (t1 (d + 1) (by omega)) (hd.2 (Nat.succ_pos _))
end
section
/-! the pair under way: it generates the same, is safe, and its rows are the numbers themselves -/
theorem SFo_dg {A B : Nat → Int} (h : SFo A B) : ∃ a b, dgp A a ∧ dgp B b ∧ 1 ≤ b ∧ b ≤ a := by
  rcases h with ⟨n, a, α, b, β, da, db, h1, h2, -⟩ | ⟨da, db, -, -⟩ | ⟨f, g, -, -, -, -, -, -, h⟩
  · exact ⟨a, b, da, db, h1, h2⟩
  · exact ⟨5, 5, da, db, by omega, by omega⟩
  · rcases h with ⟨da, db, -⟩ | ⟨da, db, -⟩ | ⟨da, db, -⟩ | ⟨da, db, -⟩ | ⟨da, db, -⟩ | ⟨da, db, -⟩
    · exact ⟨_, _, da, db, by omega, by omega⟩
    · exact ⟨_, _, da, db, by omega, by omega⟩
    · exact ⟨_, _, da, db, by omega, by omega⟩
    · exact ⟨_, _, da, db, by omega, by omega⟩
    · exact ⟨_, _, da, db, by omega, by omega⟩
    · exact ⟨_, _, da, db, by omega, by omega⟩
theorem dgp_z {A : Nat → Int} {a : Nat} (h : dgp A a) (z : ∀ i, A i = 0) : a = 0 := dgp_uq h ⟨fun i _ => z i, fun q => absurd q (Nat.lt_irrefl 0)⟩
theorem SF.ord {A B : Nat → Int} {a b : Nat} (h : SF A B) (da : dgp A a) (db : dgp B b) (h1 : 1 ≤ b) (h2 : b ≤ a) : SFo A B := by
  rcases h with z | z | h | ⟨a1, b1, d1, d2, hlt, -⟩
  · have := dgp_z da z; omega
  · have := dgp_z db z; omega
  · exact h
  · have e1 := dgp_uq d1 da
    have e2 := dgp_uq d2 db
    omega
theorem SF.swp {A B : Nat → Int} {a b : Nat} (h : SF A B) (da : dgp A a) (db : dgp B b) (hlt : a < b) : SF B A := by
  rcases h with z | z | h | ⟨a1, b1, d1, d2, -, h⟩
  · exact Or.inr (Or.inl z)
  · exact Or.inl z
  · obtain ⟨a1, b1, d1, d2, h1, h2⟩ := SFo_dg h
    have e1 := dgp_uq d1 da
    have e2 := dgp_uq d2 db
    omega
  · exact Or.inr (Or.inr (Or.inl h))
def IV (X Y f g : Nat → Int64) : Prop := EQ2 (ti X) (ti Y) (ti f) (ti g) ∧ SF (ti f) (ti g) ∧ bd f ∧ bd g
theorem IV.swp {X Y f g : Nat → Int64} {a b : Nat} (h : IV X Y f g) (da : dgp (ti f) a) (db : dgp (ti g) b) (hlt : a < b) : IV X Y g f := ⟨h.1.sw, h.2.1.swp da db hlt, h.2.2.2, h.2.2.1⟩
theorem ti_zL (f : Nat → Int64) {i : Nat} (hi : i < 5) : f i = zL (ti f i) := by
  rw [ti_lo f hi]
  exact zL_of _
def RP (f : Nat → Int64) : Prop := bx 7 (ti f) ∨ Nm (ti f)
theorem stepX {X Y f g f1 f2 : Nat → Int64} {a b : Nat} {c sf ot : Int} (h : IV X Y f g) (da : dgp (ti f) a) (db : dgp (ti g) b) (h1 : 1 ≤ b) (h2 : b ≤ a) (hc : c ≠ 0) (e1 : c * sf = ti g (b - 1)) (e2 : c * ot = ti f (a - 1)) (hf : ∀ i, i < 5 → f1 i = zL (sf * ti f i - ot * shN (a - b) (ti g) i)) (hn : NPm f1 f2) : IV X Y f2 g ∧ Nm (ti f2) ∧ ∃ a1, dgp (ti f2) a1 ∧ a1 < a := by
  obtain ⟨hE, hS, bf, bg⟩ := h
  have hs := step (hS.ord da db h1 h2) da db hc e1 e2 (R := fun i => sf * ti f i - ot * shN (a - b) (ti g) i) (fun _ => rfl)
  have ht := low_top da db h1 h2 hc e1 e2 (R := fun i => sf * ti f i - ot * shN (a - b) (ti g) i) (fun _ => rfl)
  have ha5 : a ≤ 5 := dgp_le da (ti_hi f)
  obtain ⟨n1, n2, n3⟩ := norm hf (fun i hi => ht i (by omega)) hs.1 hs.2.1 hn
  have hz : ∀ i, a - 1 ≤ i → ti f2 i = 0 := fun i hi => by
    rcases n1 with ⟨-, z⟩ | ⟨-, hk⟩
    · exact z i
    · exact nz_hi ht hk i hi
  have sf0 : sf ≠ 0 := fun q => by
    rw [q, Int.mul_zero] at e1
    exact db.2 (by omega) e1.symm
  obtain ⟨a1, ha1, d1⟩ := dgp_ex (a - 1) hz
  have hnm : Nm (ti f2) := by
    rcases n1 with ⟨-, z⟩ | ⟨pr, hk⟩
    · exact Or.inl z
    · by_cases q : a1 = 0
      · subst q; exact Or.inl (dgp_0 d1)
      · obtain ⟨d, rfl⟩ : ∃ d, a1 = d + 1 := ⟨a1 - 1, by omega⟩
        exact Or.inr ⟨d, dgp_tp d1, n3 d d1, pr⟩
  refine ⟨⟨hE.tr ?_, hs.2.2 _ n1, n2, bg⟩, hnm, a1, d1, by omega⟩
  rcases n1 with ⟨z1, z2⟩ | ⟨-, k, hk0, hk⟩
  · exact EQ2.low (m := 1) (sf := sf) (ot := ot) (k := a - b) (by decide) sf0 (fun i => by rw [z2 i, Int.mul_zero]; exact (z1 i).symm)
  · exact EQ2.low (m := k) (sf := sf) (ot := ot) (k := a - b) hk0 sf0 (fun i => (hk i).symm)
/-- a row taken as it is, freed of its numbers' common divisor -/
theorem normX {P Q G : Nat → Int} {f f2 : Nat → Int64} (h : EQ2 P Q (ti f) G) (bf : bd f) (hn : NPm f f2) : EQ2 P Q (ti f2) G ∧ Nm (ti f2) ∧ bd f2 ∧ ∀ B, bx B (ti f) → bx B (ti f2) := by
  have hb : ∀ i, (ti f i).natAbs < 9223372036854775808 := fun i => by
    by_cases q : i < 5
    · have h1 := bf i q
      have h2 := Int64.le_toInt (f i)
      have h3 := Int64.toInt_lt (f i)
      rw [ti_lo f q]
      omega
    · rw [ti_hi f i (by omega)]; decide
  obtain ⟨n1, n2, n3⟩ := norm (R := ti f) (fun i hi => ti_zL f hi) (ti_hi f) (fun i => Nat.lt_trans (hb i) (by decide)) (fun _ => hb) hn
  refine ⟨h.tr ?_, ?_, n2, fun B hB => ?_⟩
  · rcases n1 with ⟨z1, z2⟩ | ⟨-, k, hk0, hk⟩
    · exact EQ2.sc (m := 1) (n := 1) (by decide) (by decide) (fun i => by rw [z1 i, z2 i])
    · exact EQ2.sc (m := k) (n := 1) hk0 (by decide) (fun i => by rw [Int.one_mul]; exact (hk i).symm)
  · rcases n1 with ⟨-, z2⟩ | ⟨pr, -⟩
    · exact Or.inl z2
    · obtain ⟨a1, -, d1⟩ := dgp_ex 5 (ti_hi f2)
      by_cases q : a1 = 0
      · subst q; exact Or.inl (dgp_0 d1)
      · obtain ⟨d, rfl⟩ : ∃ d, a1 = d + 1 := ⟨a1 - 1, by omega⟩
        exact Or.inr ⟨d, dgp_tp d1, n3 d d1, pr⟩
  · rcases n1 with ⟨-, z2⟩ | ⟨-, k, hk0, hk⟩
    · exact fun i => by rw [z2 i]; exact Nat.zero_le _
    · exact bx_mul hk0 hk hB
/-! the end, and that it is one -/
theorem RP.ini {X Y f W : Nat → Int64} (hX : bx 7 (ti X)) (hY : bx 7 (ti Y)) (h : EQ2 (ti X) (ti Y) (ti f) p0) (hf : RP f) (hW : bx 7 (ti W)) : SF (ti f) (ti W) := by
  obtain ⟨a, ha, da⟩ := dgp_ex 5 (ti_hi f)
  refine SF.init (fun i hi => ti_hi f i hi) (fun i hi => ti_hi W i hi) da ?_ hW
  have up : ∀ B, B ≤ 7 → bx B (ti f) → bx (if a = 3 then 105 else 7) (ti f) := fun B hB hb i => by
    have := hb i
    split <;> omega
  rcases hf with h7 | z | ⟨d, td, -, pr⟩
  · exact up 7 (Nat.le_refl 7) h7
  · exact up 0 (by decide) (fun i => by rw [z i]; decide)
  · have hd : a = d + 1 := dgp_uq da ⟨fun i hi => td.2 i hi, fun _ => td.1⟩
    obtain ⟨c, hc⟩ := quo pr h.2.2.1
    obtain ⟨e, he⟩ := quo pr h.2.2.2
    -- one of the two isn't 0
    have hne : (¬ ∀ i, ti X i = 0) ∨ ¬ ∀ i, ti Y i = 0 := by
      by_cases q : ∀ i, ti X i = 0
      · exact Or.inr fun q2 => td.1 (rs_zero q q2 h.1 d)
      · exact Or.inl q
    have sX : ∀ i, 4 < i → ti X i = 0 := fun i hi => ti_hi X i hi
    have sY : ∀ i, 4 < i → ti Y i = 0 := fun i hi => ti_hi Y i hi
    rcases (show d = 0 ∨ d = 1 ∨ d = 2 ∨ d = 3 ∨ d = 4 by omega) with rfl | rfl | rfl | rfl | rfl
    · exact up 1 (by decide) (gb0 pr td)
    · rcases hne with q | q
      · exact up 7 (Nat.le_refl 7) (gb1 hX td hc q)
      · exact up 7 (Nat.le_refl 7) (gb1 hY td he q)
    · rw [if_pos hd]
      rcases hne with q | q
      · exact gb2 hX sX td hc q
      · exact gb2 hY sY td he q
    · exact up 7 (Nat.le_refl 7) (gb3 pr hX hY sX sY td h)
    · rcases hne with q | q
      · exact up 7 (Nat.le_refl 7) (gb4 hX sX td hc q)
      · exact up 7 (Nat.le_refl 7) (gb4 hY sY td he q)
def GG (X Y W g : Nat → Int64) : Prop := ∃ g1 : Nat → Int, EQ2 (ti X) (ti Y) g1 p0 ∧ EQ2 g1 (ti W) (ti g) p0 ∧ Nm (ti g)
theorem rs_in0 {S : (Nat → Int) → Prop} (c : Cl S) {a : Nat → Int} (h : S a) : S p0 := by
  have := c.2.1 0 a h
  rw [show (fun i => 0 * a i) = p0 from funext fun i => Int.zero_mul _] at this
  exact this
theorem EQ2.fst {g g1 W : Nat → Int} (h : EQ2 g p0 g1 p0) : EQ2 g W g1 W := ⟨fun S c x y => h.1 S c x (rs_in0 c x), fun S c x y => y, fun S c x y => h.2.2.1 S c x (rs_in0 c x), fun S c x y => y⟩
theorem GG.uq {X Y W g h : Nat → Int64} (h1 : GG X Y W g) (h2 : GG X Y W h) : ∀ i, i < 5 → g i = h i := by
  obtain ⟨a, ha, hg, ng⟩ := h1
  obtain ⟨b, hb, hh, nh⟩ := h2
  have hab : EQ2 a p0 b p0 := ha.sm.tr hb
  have hgh : EQ2 (ti g) p0 (ti h) p0 := hg.sm.tr ((EQ2.fst (W := ti W) hab).tr hh)
  have hu := uniq hgh ng nh
  intro i hi
  have := hu i
  rw [ti_lo g hi, ti_lo h hi] at this
  exact Int64.toInt_inj.mp this
end
section
/-! what the loops keep, for the exact contracts -/
def cgJ (a b x y : Int64) : Prop := (a = 0 → (x = 0 ∧ y = lab b) ∨ (x = lab b ∧ y = 0)) ∧ (b = 0 → x = lab a ∧ y = 0)
theorem lab_z : lab 0 = 0 := rfl
theorem cgJ_0 (a b : Int64) : cgJ a b (lab a) (lab b) := ⟨fun h => Or.inl ⟨by rw [h]; rfl, rfl⟩, fun h => ⟨rfl, by rw [h]; rfl⟩⟩
theorem cgJ_s {a b x y : Int64} (hy : ¬ y = 0) (h : cgJ a b x y) : cgJ a b y (x - x / y * y) := by
  refine ⟨fun ha => ?_, fun hb => absurd (h.2 hb).2 hy⟩
  rcases h.1 ha with ⟨q1, q2⟩ | ⟨-, q2⟩
  · exact Or.inr ⟨q2, by rw [q1, Int64.zero_div, Int64.zero_mul]; rfl⟩
  · exact absurd q2 hy
theorem cgJ_e {a b x y : Int64} (hy : y = 0) (hc : cgE a b x) (h : cgJ a b x y) : cgX a b x := by
  refine ⟨hc, fun ha => ?_, fun hb => (h.2 hb).1⟩
  rcases h.1 ha with ⟨q1, q2⟩ | ⟨q1, -⟩
  · rw [q1, ← q2, hy]
  · exact q1
theorem CGr_s {f : Nat → Int64} {i : Int} {x r : Int64} (hi : 0 ≤ i) (h : CGr f i.toNat x) (hr : cgX x (f i.toNat) r) : CGr f (i + 1).toNat r := by
  have e : (i + 1).toNat = i.toNat + 1 := by omega
  rw [e]
  exact ⟨x, h, hr⟩
theorem np_zero {f : Nat → Int64} {z : Int} (h1 : z < 0) (h2 : ∀ k : Int, z < k → k ≤ 4 → f k.toNat = 0) : NPm f f := by
  have hz : ∀ i, i < 5 → f i = 0 := fun i hi => by
    have := h2 (i : Int) (by omega) (by omega)
    rw [Int.toNat_natCast] at this
    exact this
  exact ⟨0, 0, 0, by omega, fun i _ hi => hz i hi, rfl, Or.inl rfl, fun d hd => ⟨fun _ => rfl, fun _ => rfl⟩, fun _ _ _ => rfl, fun q => absurd rfl q⟩
/-- the sign of the common divisor -/
def sgn (t x y : Int64) : Prop := (t < 0 → y = -x) ∧ (¬ t < 0 → y = x)
theorem sgn_n {t x : Int64} (h : ¬ (0 : Int64) ≤ t) : sgn t x (-x) := ⟨fun _ => rfl, fun q => absurd (Int64.not_le.mp h) q⟩
theorem sgn_p {t x : Int64} (h : (0 : Int64) ≤ t) : sgn t x x := ⟨fun q => absurd h (Int64.not_le.mpr q), fun _ => rfl⟩
theorem np_end {f f2 : Nat → Int64} {z : Int} {x y : Int64} (h1 : -1 ≤ z ∧ z ≤ 4) (h2 : ∀ k : Int, z < k → k ≤ 4 → f k.toNat = 0) (h3 : 0 ≤ z → f z.toNat ≠ 0) (h4 : 0 ≤ z) (hx : CGr f (z + 1).toNat x) (hs : sgn (f z.toNat) x y) (e0 : y = 0 → ∀ i, i < 5 → f2 i = f i) (e1 : y ≠ 0 → ∀ j : Int, 0 ≤ j → j ≤ z → f2 j.toNat = f j.toNat / y) (e2 : ∀ j : Int, z < j → j ≤ 4 → f2 j.toNat = f j.toNat) : NPm f f2 := by
  refine ⟨(z + 1).toNat, x, y, by omega, fun i hi h5 => ?_, hx, ?_, fun d hd => ?_, e0, fun hy i hi => ?_⟩
  · have := h2 (i : Int) (by omega) (by omega)
    rw [Int.toNat_natCast] at this
    exact this
  · by_cases q : f z.toNat < 0
    · exact Or.inr (hs.1 q)
    · exact Or.inl (hs.2 q)
  · have e : d + 1 = (z + 1).toNat := dgp_uq hd (ti_dg h1 h2 h3)
    have e3 : d = z.toNat := by omega
    rw [e3]
    exact hs
  · by_cases q : (i : Int) ≤ z
    · have := e1 hy (i : Int) (by omega) q
      rw [Int.toNat_natCast] at this
      exact this
    · have a1 := e2 (i : Int) (by omega) (by omega)
      have a2 := h2 (i : Int) (by omega) (by omega)
      rw [Int.toNat_natCast] at a1 a2
      rw [a1, a2, Int64.zero_div]
theorem ti_ext {f g : Nat → Int64} (h : ∀ j : Int, 0 ≤ j → j ≤ 4 → f j.toNat = g j.toNat) : ti f = ti g := funext fun i => by
  by_cases q : i < 5
  · have := h (i : Int) (by omega) (by omega)
    rw [Int.toNat_natCast] at this
    rw [ti_lo f q, ti_lo g q, this]
  · rw [ti_hi f i (by omega), ti_hi g i (by omega)]
theorem bd_ext {f g : Nat → Int64} (h : ∀ j : Int, 0 ≤ j → j ≤ 4 → f j.toNat = g j.toNat) (hg : bd g) : bd f := fun i hi => by
  have := h (i : Int) (by omega) (by omega)
  rw [Int.toNat_natCast] at this
  rw [this]
  exact hg i hi
theorem np_c0 {f : Nat → Int64} {z : Int} {x : Int64} (h1 : -1 ≤ z ∧ z ≤ 4) (h2 : ∀ k : Int, z < k → k ≤ 4 → f k.toNat = 0) (h3 : 0 ≤ z → f z.toNat ≠ 0) (h4 : 0 ≤ z) (hx : CGr f (z + 1).toNat x) (h0 : x = 0) : NPm f f := np_end (y := 0) h1 h2 h3 h4 hx ⟨fun _ => by rw [h0]; rfl, fun _ => h0.symm⟩ (fun _ _ _ => rfl) (fun q => absurd rfl q) (fun _ _ _ => rfl)
theorem updL_at {f : Nat → Int64} {k j : Int} {x : Int64} (hk : 0 ≤ k) (hj : 0 ≤ j) : vp_updL f k.toNat x j.toNat = if j = k then x else f j.toNat := by
  unfold vp_updL
  by_cases e : j = k
  · rw [if_pos e, if_pos (by omega)]
  · rw [if_neg e, if_neg (by omega)]
theorem dv_s {f m m1 : Nat → Int64} {i n : Int} {y : Int64} (hi : 0 ≤ i) (hn : i < n) (g : m1 = vp_updL m i.toNat (m i.toNat / y)) (hq : ∀ j : Int, 0 ≤ j → j < n → m j.toNat = if j < i then f j.toNat / y else f j.toNat) : ∀ j : Int, 0 ≤ j → j < n → m1 j.toNat = if j < i + 1 then f j.toNat / y else f j.toNat := fun j a b => by
  rw [g, updL_at hi a]
  by_cases e : j = i
  · rw [if_pos e, if_pos (by omega), e, hq i hi hn, if_neg (by omega)]
  · rw [if_neg e, hq j a b]
    by_cases q : j < i
    · rw [if_pos q, if_pos (by omega)]
    · rw [if_neg q, if_neg (by omega)]
def lowV (f g : Nat → Int64) (st ot : Int) (sf of_ : Int64) (j : Int) : Int64 := sf * f j.toNat - (if j < st - ot then 0 else of_ * g (j - (st - ot)).toNat)
def lowP (f g f1 : Nat → Int64) (st ot : Int) (cm : Int64) : Prop := cm ≠ 0 ∧ ∀ j : Int, 0 ≤ j → j < 5 → f1 j.toNat = if j < st + 1 then lowV f g st ot (g ot.toNat / cm) (f st.toNat / cm) j else f j.toNat
theorem low_s {f g m m1 : Nat → Int64} {st ot i : Int} {sf of_ w : Int64} (hi : 0 ≤ i) (hn : i < 5) (g1 : m1 = vp_updL m i.toNat (sf * m i.toNat - w)) (hw : w = if i < st - ot then 0 else of_ * g (i - (st - ot)).toNat) (hq : ∀ j : Int, 0 ≤ j → j < 5 → m j.toNat = if j < i then lowV f g st ot sf of_ j else f j.toNat) : ∀ j : Int, 0 ≤ j → j < 5 → m1 j.toNat = if j < i + 1 then lowV f g st ot sf of_ j else f j.toNat := fun j a b => by
  rw [g1, updL_at hi a]
  by_cases e : j = i
  · rw [if_pos e, if_pos (by omega), e, hq i hi hn, if_neg (by omega), hw]
    rfl
  · rw [if_neg e, hq j a b]
    by_cases q : j < i
    · rw [if_pos q, if_pos (by omega)]
    · rw [if_neg q, if_neg (by omega)]
theorem cpy_at {f g : Nat → Int64} {j : Int} (h1 : 0 ≤ j) (h2 : j < 5) : va_cpy f g 0 0 5 j.toNat = f j.toNat := by
  unfold va_cpy
  rw [if_pos (by omega), show 0 + (j.toNat - 0) = j.toNat by omega]
end
section
def stn (f g : Nat → Int64) (i : Int) : Prop := ∃ a b : Nat, dgp (ti f) a ∧ dgp (ti g) b ∧ i + 2 * ((a : Int) + b) + (if a < b then 1 else 0) ≤ 20
theorem stn_le {f g : Nat → Int64} {i : Int} (h : stn f g i) : i ≤ 20 := by
  obtain ⟨a, b, -, -, h⟩ := h
  split at h <;> omega
theorem stn_0 (f g : Nat → Int64) : stn f g 0 := by
  obtain ⟨a, ha, da⟩ := dgp_ex 5 (ti_hi f)
  obtain ⟨b, hb, db⟩ := dgp_ex 5 (ti_hi g)
  refine ⟨a, b, da, db, ?_⟩
  split <;> omega
theorem z5_ti {g : Nat → Int64} {z : Int} (h1 : z < 0) (h2 : ∀ k : Int, z < k → k ≤ 4 → g k.toNat = 0) : ti g = p0 := funext fun i => by
  by_cases q : i < 5
  · have := h2 (i : Int) (by omega) (by omega)
    rw [Int.toNat_natCast] at this
    show ti g i = 0
    rw [ti_lo g q, this]
    rfl
  · exact ti_hi g i (by omega)
theorem iv_end {X Y f g : Nat → Int64} {z : Int} (h : IV X Y f g) (h1 : z < 0) (h2 : ∀ k : Int, z < k → k ≤ 4 → g k.toNat = 0) : EQ2 (ti X) (ti Y) (ti f) p0 := by
  have := h.1
  rw [z5_ti h1 h2] at this
  exact this
theorem ext5 {f g : Nat → Int64} (h : ∀ j : Int, 0 ≤ j → j < 5 → f j.toNat = g j.toNat) : ti f = ti g ∧ (bd g → bd f) := ⟨ti_ext fun j a b => h j a (by omega), bd_ext fun j a b => h j a (by omega)⟩
theorem iv_sw {X Y f g f1 g1 : Nat → Int64} {ta tb i : Int} (h : IV X Y f g) (a1 : -1 ≤ ta ∧ ta ≤ 4) (a2 : ∀ k : Int, ta < k → k ≤ 4 → f k.toNat = 0) (a3 : 0 ≤ ta → f ta.toNat ≠ 0) (b1 : -1 ≤ tb ∧ tb ≤ 4) (b2 : ∀ k : Int, tb < k → k ≤ 4 → g k.toNat = 0) (b3 : 0 ≤ tb → g tb.toNat ≠ 0) (hlt : ta < tb) (hs : ∀ j : Int, 0 ≤ j → j < 5 → f1 j.toNat = g j.toNat ∧ g1 j.toNat = f j.toNat) (hst : stn f g i) : IV X Y f1 g1 ∧ stn f1 g1 (i + 1) ∧ ti f1 = ti g ∧ ti g1 = ti f := by
  obtain ⟨e1, e2⟩ := ext5 (fun j a b => (hs j a b).1)
  obtain ⟨e3, e4⟩ := ext5 (fun j a b => (hs j a b).2)
  have da := ti_dg a1 a2 a3
  have db := ti_dg b1 b2 b3
  have h2 := h.swp da db (by omega)
  refine ⟨⟨by rw [e1, e3]; exact h2.1, by rw [e1, e3]; exact h2.2.1, e2 h2.2.2.1, e4 h2.2.2.2⟩, ?_, e1, e3⟩
  obtain ⟨a, b, d1, d2, hle⟩ := hst
  have q1 := dgp_uq d1 da
  have q2 := dgp_uq d2 db
  refine ⟨b, a, by rw [e1]; exact d2, by rw [e3]; exact d1, ?_⟩
  rw [if_pos (by omega)] at hle
  rw [if_neg (by omega)]
  omega
theorem tdiv_z {x c : Int64} (hx : x.toInt ≠ -9223372036854775808) (hd : c.toInt ∣ x.toInt) (h0 : c.toInt ≠ 0) : c.toInt * (x / c).toInt = x.toInt := by
  rw [Int64.toInt_div_of_ne_left _ _ (fun z => hx (by rw [z]; rfl))]
  obtain ⟨k, hk⟩ := hd
  rw [hk, Int.mul_tdiv_cancel_left _ h0]
theorem iv_low {X Y f g f1 f2 : Nat → Int64} {ta tb i : Int} {cm : Int64} (h : IV X Y f g) (a1 : -1 ≤ ta ∧ ta ≤ 4) (a2 : ∀ k : Int, ta < k → k ≤ 4 → f k.toNat = 0) (a3 : 0 ≤ ta → f ta.toNat ≠ 0) (b1 : -1 ≤ tb ∧ tb ≤ 4) (b2 : ∀ k : Int, tb < k → k ≤ 4 → g k.toNat = 0) (b3 : 0 ≤ tb → g tb.toNat ≠ 0) (h0 : 0 ≤ tb) (hle : tb ≤ ta) (hcm : cgX (f ta.toNat) (g tb.toNat) cm) (hl : lowP f g f1 ta tb cm) (hn : NPm f1 f2) (hst : stn f g i) : IV X Y f2 g ∧ Nm (ti f2) ∧ stn f2 g (i + 1) := by
  have da := ti_dg a1 a2 a3
  have db := ti_dg b1 b2 b3
  have mf := h.2.2.1 ta.toNat (by omega)
  have mg := h.2.2.2 tb.toNat (by omega)
  have eg := hcm.1.2 mf mg
  have c0 : cm.toInt ≠ 0 := fun q => hl.1 (Int64.toInt_inj.mp q)
  have e1 := tdiv_z mg (by rw [eg]; exact Int.gcd_dvd_right _ _) c0
  have e2 := tdiv_z mf (by rw [eg]; exact Int.gcd_dvd_left _ _) c0
  have hx := stepX h da db (by omega) (by omega) c0 (sf := (g tb.toNat / cm).toInt) (ot := (f ta.toNat / cm).toInt) (by
      rw [show (tb + 1).toNat - 1 = tb.toNat by omega, ti_lo g (by omega)]; exact e1) (by
      rw [show (ta + 1).toNat - 1 = ta.toNat by omega, ti_lo f (by omega)]; exact e2) (f1 := f1) (fun i hi => by
      have hj := hl.2 (i : Int) (by omega) (by omega)
      rw [Int.toNat_natCast] at hj
      rw [hj, shN_at]
      by_cases q : (i : Int) < ta + 1
      · rw [if_pos q]
        unfold lowV
        rw [Int.toNat_natCast, ← zL_sub, ← zL_mul, ← zL_of, ← ti_zL f hi]
        congr 1
        by_cases q2 : (i : Int) < ta - tb
        · rw [if_pos q2, if_pos (by omega), Int.mul_zero]
          rfl
        · rw [if_neg q2, if_neg (by omega), ← zL_mul, ← zL_of, show (i : Int) - (ta - tb) = ((i - ((ta + 1).toNat - (tb + 1).toNat) : Nat) : Int) by omega, Int.toNat_natCast, ← ti_zL g (by omega)]
      · rw [if_neg q]
        have z1 := a2 (i : Int) (by omega) (by omega)
        rw [Int.toNat_natCast] at z1
        rw [z1, (ti_0 hi).mpr z1, if_neg (by omega), db.1 (i - ((ta + 1).toNat - (tb + 1).toNat)) (by omega), Int.mul_zero, Int.mul_zero]
        rfl) hn
  refine ⟨hx.1, hx.2.1, ?_⟩
  obtain ⟨c1, d1, hlt⟩ := hx.2.2
  obtain ⟨a, b, k1, k2, hle2⟩ := hst
  have q1 := dgp_uq k1 da
  have q2 := dgp_uq k2 db
  refine ⟨c1, b, d1, k2, ?_⟩
  rw [if_neg (by omega)] at hle2
  split <;> omega
/-! the reference's side -/
def sgd (f : Nat → Int64) (x y : Int64) (d : Int) : Prop := (0 ≤ d → sgn (f d.toNat) x y) ∧ (d < 0 → y = x)
theorem np_ref {f f2 : Nat → Int64} {x y : Int64} {d k : Int} (d1 : -1 ≤ d ∧ d ≤ 4) (d2 : ∀ j : Int, d < j → j ≤ 4 → f j.toNat = 0) (d3 : 0 ≤ d → f d.toNat ≠ 0) (hx : CGr f 5 x) (hs : sgd f x y d) (hq : ∀ j : Int, 0 ≤ j → j < 5 → f2 j.toNat = if j < k then f j.toNat / y else f j.toNat) (hy : y = 0 → k = 0) (he : 5 ≤ k ∨ y = 0) : NPm f f2 := by
  refine ⟨5, x, y, Nat.le_refl 5, fun i a b => by omega, hx, ?_, fun e hd => ?_, fun q i hi => ?_, fun q i hi => ?_⟩
  · by_cases q : 0 ≤ d
    · by_cases q2 : f d.toNat < 0
      · exact Or.inr ((hs.1 q).1 q2)
      · exact Or.inl ((hs.1 q).2 q2)
    · exact Or.inl (hs.2 (by omega))
  · have h1 : e + 1 = (d + 1).toNat := dgp_uq hd (ti_dg d1 d2 d3)
    have h2 : e = d.toNat := by omega
    rw [h2]
    exact hs.1 (by omega)
  · have := hq (i : Int) (by omega) (by omega)
    rw [Int.toNat_natCast, hy q, if_neg (by omega)] at this
    exact this
  · have := hq (i : Int) (by omega) (by omega)
    have hk5 : 5 ≤ k := he.resolve_right q
    rw [Int.toNat_natCast, if_pos (by omega)] at this
    exact this
theorem iv_red {X Y j2 j3 f g : Nat → Int64} (hX : bx 7 (ti X)) (hY : bx 7 (ti Y)) (hE : EQ2 (ti X) (ti Y) (ti j2) p0) (b2 : bd j2) (h7 : bx 7 (ti j3)) (b3 : bd j3) (r1 : NPm j2 f) (r2 : NPm j3 g) : IV j2 j3 f g ∧ Nm (ti f) ∧ Nm (ti g) := by
  obtain ⟨e1, n1, q1, -⟩ := normX hE b2 r1
  obtain ⟨e2, -, -, -⟩ := normX (EQ2.rf (ti j2) (ti j3)) b2 r1
  obtain ⟨e3, n3, q3, w3⟩ := normX e2.sw b3 r2
  exact ⟨⟨e3.sw, RP.ini hX hY e1 (Or.inr n1) (w3 7 h7), q1, q3⟩, n1, n3⟩
theorem iv_sw2 {X Y f g f1 g1 : Nat → Int64} {ta tb : Int} (h : IV X Y f g) (a1 : -1 ≤ ta ∧ ta ≤ 4) (a2 : ∀ k : Int, ta < k → k ≤ 4 → f k.toNat = 0) (a3 : 0 ≤ ta → f ta.toNat ≠ 0) (b1 : -1 ≤ tb ∧ tb ≤ 4) (b2 : ∀ k : Int, tb < k → k ≤ 4 → g k.toNat = 0) (b3 : 0 ≤ tb → g tb.toNat ≠ 0) (hlt : ta < tb) (hs : ∀ j : Int, 0 ≤ j → j < 5 → f1 j.toNat = g j.toNat ∧ g1 j.toNat = f j.toNat) : IV X Y f1 g1 ∧ ti f1 = ti g ∧ ti g1 = ti f := by
  obtain ⟨e1, e2⟩ := ext5 (fun j a b => (hs j a b).1)
  obtain ⟨e3, e4⟩ := ext5 (fun j a b => (hs j a b).2)
  have h2 := h.swp (ti_dg a1 a2 a3) (ti_dg b1 b2 b3) (by omega)
  exact ⟨⟨by rw [e1, e3]; exact h2.1, by rw [e1, e3]; exact h2.2.1, e2 h2.2.2.1, e4 h2.2.2.2⟩, e1, e3⟩
def rfV (f g : Nat → Int64) (e d k j : Int) : Int64 := f j.toNat * g d.toNat - (if e - d ≤ j ∧ j < e - d + k then f e.toNat * g (j - (e - d)).toNat else 0)
theorem rsub_0 {f g m : Nat → Int64} {e d : Int} (hp : ∀ j : Int, 0 ≤ j → j ≤ 4 → m j.toNat = if j < 5 then f j.toNat * g d.toNat else f j.toNat) : ∀ j : Int, 0 ≤ j → j < 5 → m j.toNat = rfV f g e d 0 j := fun j a b => by
  rw [hp j a (by omega), if_pos b]
  unfold rfV
  rw [if_neg (by omega), Int64.sub_zero]
theorem rsub_s {f g m m1 : Nat → Int64} {e d k : Int} (hd : 0 ≤ d) (he : d ≤ e) (he4 : e ≤ 4) (hk : 0 ≤ k) (hkd : k ≤ d) (g1 : m1 = vp_updL m (e - d + k).toNat (m (e - d + k).toNat - f e.toNat * g k.toNat)) (hq : ∀ j : Int, 0 ≤ j → j < 5 → m j.toNat = rfV f g e d k j) : ∀ j : Int, 0 ≤ j → j < 5 → m1 j.toNat = rfV f g e d (k + 1) j := fun j a b => by
  rw [g1, updL_at (by omega) a]
  by_cases q : j = e - d + k
  · rw [if_pos q, hq (e - d + k) (by omega) (by omega), q]
    unfold rfV
    rw [if_neg (by omega), if_pos (by omega), Int64.sub_zero, show e - d + k - (e - d) = k by omega]
  · rw [if_neg q, hq j a b]
    unfold rfV
    by_cases q2 : e - d ≤ j ∧ j < e - d + k
    · rw [if_pos q2, if_pos (by omega)]
    · rw [if_neg q2, if_neg (by omega)]
theorem iv_ref {X Y f g f1 f2 : Nat → Int64} {e d : Int} (h : IV X Y f g) (a1 : -1 ≤ e ∧ e ≤ 4) (a2 : ∀ k : Int, e < k → k ≤ 4 → f k.toNat = 0) (a3 : 0 ≤ e → f e.toNat ≠ 0) (b1 : -1 ≤ d ∧ d ≤ 4) (b2 : ∀ k : Int, d < k → k ≤ 4 → g k.toNat = 0) (b3 : 0 ≤ d → g d.toNat ≠ 0) (h0 : 0 ≤ d) (hle : d ≤ e) (hf : ∀ j : Int, 0 ≤ j → j < 5 → f1 j.toNat = rfV f g e d (d + 1) j) (hn : NPm f1 f2) : IV X Y f2 g ∧ Nm (ti f2) ∧ ∀ j : Int, e - 1 < j → j ≤ 4 → f2 j.toNat = 0 := by
  have da := ti_dg a1 a2 a3
  have db := ti_dg b1 b2 b3
  have hx := stepX h da db (by omega) (by omega) (c := 1) (by decide) (sf := ti g d.toNat) (ot := ti f e.toNat) (by
      rw [show (d + 1).toNat - 1 = d.toNat by omega, Int.one_mul]) (by
      rw [show (e + 1).toNat - 1 = e.toNat by omega, Int.one_mul]) (f1 := f1) (fun i hi => by
      have hj := hf (i : Int) (by omega) (by omega)
      rw [Int.toNat_natCast] at hj
      rw [hj, shN_at]
      unfold rfV
      rw [Int.toNat_natCast, ← zL_sub, ← zL_mul, ← ti_zL g (by omega), ← ti_zL f hi, Int64.mul_comm]
      congr 1
      by_cases q2 : (i : Int) < e - d
      · rw [if_neg (by omega), if_pos (by omega), Int.mul_zero]
        rfl
      · by_cases q3 : (i : Int) < e - d + (d + 1)
        · rw [if_pos (by omega), if_neg (by omega), ← zL_mul, ← ti_zL f (by omega), show (i : Int) - (e - d) = ((i - ((e + 1).toNat - (d + 1).toNat) : Nat) : Int) by omega, Int.toNat_natCast, ← ti_zL g (by omega)]
        · rw [if_neg (by omega), if_neg (by omega), db.1 (i - ((e + 1).toNat - (d + 1).toNat)) (by omega), Int.mul_zero]
          rfl) hn
  refine ⟨hx.1, hx.2.1, fun j q1 q2 => ?_⟩
  obtain ⟨c1, d1, hlt⟩ := hx.2.2
  have := d1.1 j.toNat (by omega)
  exact (ti_0 (by omega)).mp this
end
section
/-! the quotient, as both compute it -/
def dq1 (g : Nat → Int64) (d i : Int) (s : Nat → Int64) : Nat → Int64 := fun j => if i ≤ (j : Int) ∧ (j : Int) < i + (d + 1) then s j - (s (i + d).toNat / g d.toNat) * g ((j : Int) - i).toNat else s j
def spq (f g : Nat → Int64) (d : Int) : Nat → Nat → Int64
  | 0 => f
  | n + 1 => dq1 g d (4 - d - n) (spq f g d n)
def rq (f g : Nat → Int64) (d j : Int) : Int64 := if j ≤ 4 - d then spq f g d (4 - d - j).toNat (j + d).toNat / g d.toNat else 0
theorem spq_c {f f1 g g1 : Nat → Int64} {d : Int} (hd : 0 ≤ d ∧ d ≤ 4) (hf : ∀ j, j < 5 → f j = f1 j) (hg : ∀ j, j < 5 → g j = g1 j) : ∀ n : Nat, (n : Int) ≤ 5 - d → ∀ j, j < 5 → spq f g d n j = spq f1 g1 d n j
  | 0, _, j, hj => hf j hj
  | n + 1, hn, j, hj => by
    have ih := spq_c hd hf hg n (by omega)
    show dq1 g d (4 - d - n) (spq f g d n) j = dq1 g1 d (4 - d - n) (spq f1 g1 d n) j
    unfold dq1
    by_cases q : 4 - d - n ≤ (j : Int) ∧ (j : Int) < 4 - d - n + (d + 1)
    · rw [if_pos q, if_pos q, ih j hj, ih (4 - d - n + d).toNat (by omega), hg d.toNat (by omega), hg ((j : Int) - (4 - d - n)).toNat (by omega)]
    · rw [if_neg q, if_neg q, ih j hj]
theorem rq_c {f f1 g g1 : Nat → Int64} {d j : Int} (hd : 0 ≤ d ∧ d ≤ 4) (hj : 0 ≤ j) (hf : ∀ j, j < 5 → f j = f1 j) (hg : ∀ j, j < 5 → g j = g1 j) : rq f g d j = rq f1 g1 d j := by
  unfold rq
  by_cases q : j ≤ 4 - d
  · rw [if_pos q, if_pos q, spq_c hd hf hg (4 - d - j).toNat (by omega) (j + d).toNat (by omega), hg d.toNat (by omega)]
  · rw [if_neg q, if_neg q]
def topz (f : Nat → Int64) (z : Int) : Prop := (-1 ≤ z ∧ z ≤ 4) ∧ (∀ k : Int, z < k → k ≤ 4 → f k.toNat = 0) ∧ (0 ≤ z → f z.toNat ≠ 0)
/-- the quotient's first number, written -/
theorem rq_w {f g s r r1 : Nat → Int64} {d i : Int} {x : Int64} (hd : 0 ≤ d) (hi : 0 ≤ i) (hi4 : i ≤ 4 - d) (hs : ∀ j : Int, 0 ≤ j → j < 5 → s j.toNat = spq f g d (4 - d - i).toNat j.toNat) (ex : x = s (i + d).toNat / g d.toNat) (g1 : r1 = vp_updL r i.toNat x) (hr : ∀ j : Int, 0 ≤ j → j < 5 → r j.toNat = if i < j then rq f g d j else 0) : ∀ j : Int, 0 ≤ j → j < 5 → r1 j.toNat = if i - 1 < j then rq f g d j else 0 := fun j a b => by
  rw [g1, updL_at hi a]
  by_cases q : j = i
  · rw [if_pos q, if_pos (by omega), ex, hs (i + d) (by omega) (by omega), q]
    unfold rq
    rw [if_pos hi4]
  · rw [if_neg q, hr j a b]
    by_cases q2 : i < j
    · rw [if_pos q2, if_pos (by omega)]
    · rw [if_neg q2, if_neg (by omega)]
/-- one number more taken off -/
theorem off_s {g s m m1 : Nat → Int64} {i k : Int} {x : Int64} (hi : 0 ≤ i) (hk : 0 ≤ k) (h5 : i + k < 5) (g1 : m1 = vp_updL m (i + k).toNat (m (i + k).toNat - x * g k.toNat)) (hq : ∀ j : Int, 0 ≤ j → j < 5 → m j.toNat = if i ≤ j ∧ j < i + k then s j.toNat - x * g (j - i).toNat else s j.toNat) : ∀ j : Int, 0 ≤ j → j < 5 → m1 j.toNat = if i ≤ j ∧ j < i + (k + 1) then s j.toNat - x * g (j - i).toNat else s j.toNat := fun j a b => by
  rw [g1, updL_at (by omega) a]
  by_cases q : j = i + k
  · rw [if_pos q, hq (i + k) (by omega) h5, if_neg (by omega), if_pos (by omega), q, show i + k - i = k by omega]
  · rw [if_neg q, hq j a b]
    by_cases q2 : i ≤ j ∧ j < i + k
    · rw [if_pos q2, if_pos (by omega)]
    · rw [if_neg q2, if_neg (by omega)]
/-- a whole step -/
theorem off_e {f g s m : Nat → Int64} {d i : Int} {x : Int64} (hd : 0 ≤ d) (hi : 0 ≤ i) (hi4 : i ≤ 4 - d) (hs : ∀ j : Int, 0 ≤ j → j < 5 → s j.toNat = spq f g d (4 - d - i).toNat j.toNat) (ex : x = s (i + d).toNat / g d.toNat) (hq : ∀ j : Int, 0 ≤ j → j < 5 → m j.toNat = if i ≤ j ∧ j < i + (d + 1) then s j.toNat - x * g (j - i).toNat else s j.toNat) : ∀ j : Int, 0 ≤ j → j < 5 → m j.toNat = spq f g d (4 - d - (i - 1)).toNat j.toNat := fun j a b => by
  have e : (4 - d - (i - 1)).toNat = (4 - d - i).toNat + 1 := by omega
  rw [e]
  show _ = dq1 g d (4 - d - ((4 - d - i).toNat : Int)) (spq f g d (4 - d - i).toNat) j.toNat
  rw [show 4 - d - ((4 - d - i).toNat : Int) = i by omega]
  unfold dq1
  rw [hq j a b, Int.toNat_of_nonneg a]
  by_cases q : i ≤ j ∧ j < i + (d + 1)
  · rw [if_pos q, if_pos q, ex, hs j a b, hs (i + d) (by omega) (by omega)]
  · rw [if_neg q, if_neg q, hs j a b]
theorem rq_0 {f g r : Nat → Int64} {d : Int} (hr : ∀ j : Int, 0 ≤ j → j < 5 → r j.toNat = 0) : ∀ j : Int, 0 ≤ j → j < 5 → r j.toNat = if 4 - d < j then rq f g d j else 0 := fun j a b => by
  rw [hr j a b]
  by_cases q : 4 - d < j
  · rw [if_pos q]
    unfold rq
    rw [if_neg (by omega)]
  · rw [if_neg q]
end
section
/-! the divisor of three, part by part; the freed row -/
theorem EQ2.sl {X Y A B : Nat → Int} (h : EQ2 X Y A B) : EQ2 Y X A B := ⟨fun S c x y => h.1 S c y x, fun S c x y => h.2.1 S c y x, h.2.2.2, h.2.2.1⟩
theorem bx_bd {f : Nat → Int64} (h : bx 7 (ti f)) : bd f := fun i hi q => by
  have := h i
  rw [ti_lo f hi, q] at this
  exact absurd this (by decide)
theorem ti_zero {f : Nat → Int64} (h : ∀ j : Int, 0 ≤ j → j < 5 → f j.toNat = 0) : ti f = p0 := funext fun i => by
  by_cases q : i < 5
  · have := h (i : Int) (by omega) (by omega)
    rw [Int.toNat_natCast] at this
    exact (ti_0 q).mpr this
  · exact ti_hi f i (by omega)
def SG (X Y W : Nat → Int64) (i : Int) (s : Nat → Int64) : Prop := bd s ∧ RP s ∧ (i = 0 → ti s = p0) ∧ (i = 1 → EQ2 p0 (ti X) (ti s) p0) ∧ (i = 2 → EQ2 (ti X) (ti Y) (ti s) p0) ∧ (i = 3 → ∃ g1, EQ2 (ti X) (ti Y) g1 p0 ∧ EQ2 g1 (ti W) (ti s) p0)
theorem SG_0 {X Y W s : Nat → Int64} (h : ∀ j : Int, 0 ≤ j → j < 5 → s j.toNat = 0) : SG X Y W 0 s := by
  have e := ti_zero h
  have hb : bx 7 (ti s) := fun i => by rw [e]; exact Nat.zero_le _
  exact ⟨bx_bd hb, Or.inl hb, fun _ => e, fun q => by omega, fun q => by omega, fun q => by omega⟩
def P3 (X Y W : Nat → Int64) (i : Int) : Nat → Int64 := if i = 0 then X else if i = 1 then Y else W
theorem SG_sf {X Y W s o : Nat → Int64} {i : Int} (hX : bx 7 (ti X)) (hY : bx 7 (ti Y)) (hW : bx 7 (ti W)) (hi : 0 ≤ i ∧ i < 3) (h : SG X Y W i s) (ho : ti o = ti (P3 X Y W i)) : SF (ti s) (ti o) := by
  obtain ⟨hb, hr, h0, h1, h2, -⟩ := h
  rw [ho]
  rcases (show i = 0 ∨ i = 1 ∨ i = 2 by omega) with rfl | rfl | rfl
  · exact Or.inl fun i => by rw [h0 rfl]; rfl
  · have hz : ti (fun _ => (0 : Int64)) = p0 := ti_zero (fun _ _ _ => rfl)
    exact RP.ini (X := fun _ => 0) (Y := X) (fun i => by rw [hz]; exact Nat.zero_le _) hX (by rw [hz]; exact h1 rfl) hr hY
  · exact RP.ini hX hY (h2 rfl) hr hW
theorem SG_s {X Y W s o s1 : Nat → Int64} {i : Int} (hi : 0 ≤ i ∧ i < 3) (h : SG X Y W i s) (ho : ti o = ti (P3 X Y W i)) (e : EQ2 (ti s) (ti o) (ti s1) p0) (hb : bd s1) (hr : RP s1) : SG X Y W (i + 1) s1 := by
  obtain ⟨-, -, h0, h1, h2, -⟩ := h
  rw [ho] at e
  refine ⟨hb, hr, fun q => by omega, fun q => ?_, fun q => ?_, fun q => ?_⟩
  · have q : i = 0 := by omega
    subst q
    rw [h0 rfl] at e
    exact e
  · have q : i = 1 := by omega
    subst q
    exact (EQ2.fst (W := ti Y) (h1 rfl).sl).tr e
  · have q : i = 2 := by omega
    subst q
    exact ⟨ti s, h2 rfl, e⟩
theorem GG_of {X Y W s g : Nat → Int64} (h : SG X Y W 3 s) (hn : NPm s g) : GG X Y W g := by
  obtain ⟨g1, h1, h2⟩ := h.2.2.2.2.2 rfl
  obtain ⟨e, n, -, -⟩ := normX h2 h.1 hn
  exact ⟨g1, h1, e, n⟩
def FRs (P F : Nat → Nat → Int64) : Prop := ∃ (g : Nat → Int64) (d : Int), GG (P 0) (P 1) (P 2) g ∧ topz g d ∧ ∀ a, a < 3 → ∀ j : Int, 0 ≤ j → j < 5 → F a j.toNat = if 1 ≤ d then rq (P a) g d j else P a j.toNat
theorem topz_uq {f g : Nat → Int64} {a b : Int} (h : ∀ j, j < 5 → f j = g j) (h1 : topz f a) (h2 : topz g b) : a = b := by
  obtain ⟨a1, a2, a3⟩ := h1
  obtain ⟨b1, b2, b3⟩ := h2
  have e : ti f = ti g := ti_ext fun j x y => h j.toNat (by omega)
  have da := ti_dg a1 a2 a3
  have db := ti_dg b1 b2 b3
  rw [e] at da
  have := dgp_uq da db
  omega
theorem FRs_uq {P Q F E : Nat → Nat → Int64} (hPQ : ∀ a, a < 3 → ∀ j, j < 5 → P a j = Q a j) (h1 : FRs P F) (h2 : FRs Q E) : ∀ a, a < 3 → ∀ j : Int, 0 ≤ j → j < 5 → F a j.toNat = E a j.toNat := by
  obtain ⟨g, d, hg, tg, hF⟩ := h1
  obtain ⟨g1, d1, hg1, tg1, hE⟩ := h2
  have et : ∀ a, a < 3 → ti (P a) = ti (Q a) := fun a ha => ti_ext fun j x y => hPQ a ha j.toNat (by omega)
  have hg2 : GG (P 0) (P 1) (P 2) g1 := by
    obtain ⟨c, c1, c2, c3⟩ := hg1
    exact ⟨c, by rw [et 0 (by decide), et 1 (by decide)]; exact c1, by rw [et 2 (by decide)]; exact c2, c3⟩
  have eg := GG.uq hg hg2
  have ed := topz_uq eg tg tg1
  intro a ha j x y
  rw [hF a ha j x y, hE a ha j x y, ← ed]
  by_cases q : 1 ≤ d
  · rw [if_pos q, if_pos q]
    have := tg.1
    exact rq_c (by omega) x (hPQ a ha) eg
  · rw [if_neg q, if_neg q]
    exact hPQ a ha j.toNat (by omega)
end
