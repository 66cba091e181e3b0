section
-- ===== PART A: goes FIRST, ahead of the names: the tables' words, and 'selects' of the private methods out of them =====
/-- a private method of a class that the tables say can be made, by its rows of tables_1 -/
def lw_okq (q : MethodName × Nat) : Prop := (q.1.cls ≠ "java/lang/invoke/MethodHandle" ∧ q.1.cls ≠ "java/lang/invoke/VarHandle") ∧ Cond.instantiable q.1.cls q.2 ∈ tables_1 ∧ Cond.privateMethod q.1 ∈ tables_1 ∧ Cond.instanceMethod q.1 ∈ tables_1
theorem lw_p0 : lw_okq (⟨"GridShapes$Frame", "besideInSquares", "(III)I"⟩, 6) := ⟨⟨by decide +kernel, by decide +kernel⟩, List.mem_of_getElem? (i := 24) (by decide +kernel), List.mem_of_getElem? (i := 88) (by decide +kernel), List.mem_of_getElem? (i := 89) (by decide +kernel)⟩
theorem lw_p1 : lw_okq (⟨"GridShapes$Frame", "besideInHexes", "(III)I"⟩, 6) := ⟨⟨by decide +kernel, by decide +kernel⟩, List.mem_of_getElem? (i := 24) (by decide +kernel), List.mem_of_getElem? (i := 96) (by decide +kernel), List.mem_of_getElem? (i := 97) (by decide +kernel)⟩
theorem lw_p2 : lw_okq (⟨"GridShapes$Frame", "besideInTriangles", "(III)I"⟩, 6) := ⟨⟨by decide +kernel, by decide +kernel⟩, List.mem_of_getElem? (i := 24) (by decide +kernel), List.mem_of_getElem? (i := 100) (by decide +kernel), List.mem_of_getElem? (i := 101) (by decide +kernel)⟩
theorem lw_p3 : lw_okq (⟨"GridShapes$Frame", "besideInRings", "(III)I"⟩, 6) := ⟨⟨by decide +kernel, by decide +kernel⟩, List.mem_of_getElem? (i := 24) (by decide +kernel), List.mem_of_getElem? (i := 104) (by decide +kernel), List.mem_of_getElem? (i := 105) (by decide +kernel)⟩
theorem lw_p4 : lw_okq (⟨"GridShapes$Net", "has", "(II)Z"⟩, 4) := ⟨⟨by decide +kernel, by decide +kernel⟩, List.mem_of_getElem? (i := 62) (by decide +kernel), List.mem_of_getElem? (i := 238) (by decide +kernel), List.mem_of_getElem? (i := 239) (by decide +kernel)⟩
theorem lw_p5 : lw_okq (⟨"GridShapes$Walk", "reach", "(II)V"⟩, 3) := ⟨⟨by decide +kernel, by decide +kernel⟩, List.mem_of_getElem? (i := 138) (by decide +kernel), List.mem_of_getElem? (i := 279) (by decide +kernel), List.mem_of_getElem? (i := 280) (by decide +kernel)⟩
theorem lw_p6 : lw_okq (⟨"GridShapes", "keepsAllPlaces", "(I)Z"⟩, 9) := ⟨⟨by decide +kernel, by decide +kernel⟩, List.mem_of_getElem? (i := 16) (by decide +kernel), List.mem_of_getElem? (i := 316) (by decide +kernel), List.mem_of_getElem? (i := 317) (by decide +kernel)⟩
theorem lw_p7 : lw_okq (⟨"GridShapes$Turns", "columnAround", "(II)I"⟩, 2) := ⟨⟨by decide +kernel, by decide +kernel⟩, List.mem_of_getElem? (i := 124) (by decide +kernel), List.mem_of_getElem? (i := 326) (by decide +kernel), List.mem_of_getElem? (i := 327) (by decide +kernel)⟩
theorem lw_p8 : lw_okq (⟨"GridShapes", "keepsBeside", "(III)Z"⟩, 9) := ⟨⟨by decide +kernel, by decide +kernel⟩, List.mem_of_getElem? (i := 16) (by decide +kernel), List.mem_of_getElem? (i := 332) (by decide +kernel), List.mem_of_getElem? (i := 333) (by decide +kernel)⟩
theorem lw_p9 : lw_okq (⟨"GridShapes$Scribe", "spellEmpty", "(I)V"⟩, 1) := ⟨⟨by decide +kernel, by decide +kernel⟩, List.mem_of_getElem? (i := 167) (by decide +kernel), List.mem_of_getElem? (i := 354) (by decide +kernel), List.mem_of_getElem? (i := 355) (by decide +kernel)⟩
theorem lw_p10 : lw_okq (⟨"GridShapes$Scribe", "spellNumber", "(I)V"⟩, 1) := ⟨⟨by decide +kernel, by decide +kernel⟩, List.mem_of_getElem? (i := 167) (by decide +kernel), List.mem_of_getElem? (i := 358) (by decide +kernel), List.mem_of_getElem? (i := 359) (by decide +kernel)⟩
theorem lw_p11 : lw_okq (⟨"GridShapes$Draft", "takes", "(II)Z"⟩, 3) := ⟨⟨by decide +kernel, by decide +kernel⟩, List.mem_of_getElem? (i := 180) (by decide +kernel), List.mem_of_getElem? (i := 378) (by decide +kernel), List.mem_of_getElem? (i := 379) (by decide +kernel)⟩
theorem lw_p12 : lw_okq (⟨"GridShapes$Draft", "beginsNumber", "(I)Z"⟩, 3) := ⟨⟨by decide +kernel, by decide +kernel⟩, List.mem_of_getElem? (i := 180) (by decide +kernel), List.mem_of_getElem? (i := 385) (by decide +kernel), List.mem_of_getElem? (i := 386) (by decide +kernel)⟩
theorem lw_p13 : lw_okq (⟨"GridShapes$Draft", "endsNumber", "(I)Z"⟩, 3) := ⟨⟨by decide +kernel, by decide +kernel⟩, List.mem_of_getElem? (i := 180) (by decide +kernel), List.mem_of_getElem? (i := 389) (by decide +kernel), List.mem_of_getElem? (i := 390) (by decide +kernel)⟩
theorem lw_p14 : lw_okq (⟨"GridShapes$Draft", "leavesEmpty", "(I)Z"⟩, 3) := ⟨⟨by decide +kernel, by decide +kernel⟩, List.mem_of_getElem? (i := 180) (by decide +kernel), List.mem_of_getElem? (i := 393) (by decide +kernel), List.mem_of_getElem? (i := 394) (by decide +kernel)⟩
theorem lw_p15 : lw_okq (⟨"GridShapes", "demandPlace", "(I)V"⟩, 9) := ⟨⟨by decide +kernel, by decide +kernel⟩, List.mem_of_getElem? (i := 16) (by decide +kernel), List.mem_of_getElem? (i := 413) (by decide +kernel), List.mem_of_getElem? (i := 414) (by decide +kernel)⟩
def lw_privs_1 : List (MethodName × Nat) := [(⟨"GridShapes$Frame", "besideInSquares", "(III)I"⟩, 6), (⟨"GridShapes$Frame", "besideInHexes", "(III)I"⟩, 6), (⟨"GridShapes$Frame", "besideInTriangles", "(III)I"⟩, 6), (⟨"GridShapes$Frame", "besideInRings", "(III)I"⟩, 6), (⟨"GridShapes$Net", "has", "(II)Z"⟩, 4), (⟨"GridShapes$Walk", "reach", "(II)V"⟩, 3), (⟨"GridShapes", "keepsAllPlaces", "(I)Z"⟩, 9), (⟨"GridShapes$Turns", "columnAround", "(II)I"⟩, 2), (⟨"GridShapes", "keepsBeside", "(III)Z"⟩, 9), (⟨"GridShapes$Scribe", "spellEmpty", "(I)V"⟩, 1), (⟨"GridShapes$Scribe", "spellNumber", "(I)V"⟩, 1), (⟨"GridShapes$Draft", "takes", "(II)Z"⟩, 3), (⟨"GridShapes$Draft", "beginsNumber", "(I)Z"⟩, 3), (⟨"GridShapes$Draft", "endsNumber", "(I)Z"⟩, 3), (⟨"GridShapes$Draft", "leavesEmpty", "(I)Z"⟩, 3), (⟨"GridShapes", "demandPlace", "(I)V"⟩, 9)]
theorem lw_r1 : ∀ q ∈ lw_privs_1, lw_okq q := List.forall_mem_cons.mpr ⟨lw_p0, List.forall_mem_cons.mpr ⟨lw_p1, List.forall_mem_cons.mpr ⟨lw_p2, List.forall_mem_cons.mpr ⟨lw_p3, List.forall_mem_cons.mpr ⟨lw_p4, List.forall_mem_cons.mpr ⟨lw_p5, List.forall_mem_cons.mpr ⟨lw_p6, List.forall_mem_cons.mpr ⟨lw_p7, List.forall_mem_cons.mpr ⟨lw_p8, List.forall_mem_cons.mpr ⟨lw_p9, List.forall_mem_cons.mpr ⟨lw_p10, List.forall_mem_cons.mpr ⟨lw_p11, List.forall_mem_cons.mpr ⟨lw_p12, List.forall_mem_cons.mpr ⟨lw_p13, List.forall_mem_cons.mpr ⟨lw_p14, List.forall_mem_cons.mpr ⟨lw_p15, fun _ h => absurd h List.not_mem_nil⟩⟩⟩⟩⟩⟩⟩⟩⟩⟩⟩⟩⟩⟩⟩⟩
theorem lw_p16 : lw_okq (⟨"java/lang/Throwable", "fillInStackTrace", "(I)Ljava/lang/Throwable;"⟩, 6) := ⟨⟨by decide +kernel, by decide +kernel⟩, List.mem_of_getElem? (i := 455) (by decide +kernel), List.mem_of_getElem? (i := 453) (by decide +kernel), List.mem_of_getElem? (i := 454) (by decide +kernel)⟩
theorem lw_p17 : lw_okq (⟨"GridShapesModel", "all", "()I"⟩, 16) := ⟨⟨by decide +kernel, by decide +kernel⟩, List.mem_of_getElem? (i := 570) (by decide +kernel), List.mem_of_getElem? (i := 580) (by decide +kernel), List.mem_of_getElem? (i := 581) (by decide +kernel)⟩
theorem lw_p18 : lw_okq (⟨"GridShapesModel", "step", "(II)I"⟩, 16) := ⟨⟨by decide +kernel, by decide +kernel⟩, List.mem_of_getElem? (i := 570) (by decide +kernel), List.mem_of_getElem? (i := 584) (by decide +kernel), List.mem_of_getElem? (i := 585) (by decide +kernel)⟩
theorem lw_p19 : lw_okq (⟨"GridShapesModel", "at", "(II)I"⟩, 16) := ⟨⟨by decide +kernel, by decide +kernel⟩, List.mem_of_getElem? (i := 570) (by decide +kernel), List.mem_of_getElem? (i := 588) (by decide +kernel), List.mem_of_getElem? (i := 589) (by decide +kernel)⟩
theorem lw_p20 : lw_okq (⟨"GridShapesModel", "hex", "(III)I"⟩, 16) := ⟨⟨by decide +kernel, by decide +kernel⟩, List.mem_of_getElem? (i := 570) (by decide +kernel), List.mem_of_getElem? (i := 592) (by decide +kernel), List.mem_of_getElem? (i := 593) (by decide +kernel)⟩
theorem lw_p21 : lw_okq (⟨"GridShapesModel", "ring", "(III)I"⟩, 16) := ⟨⟨by decide +kernel, by decide +kernel⟩, List.mem_of_getElem? (i := 570) (by decide +kernel), List.mem_of_getElem? (i := 596) (by decide +kernel), List.mem_of_getElem? (i := 597) (by decide +kernel)⟩
theorem lw_p22 : lw_okq (⟨"GridShapesModel", "isPlace", "(I)Z"⟩, 16) := ⟨⟨by decide +kernel, by decide +kernel⟩, List.mem_of_getElem? (i := 570) (by decide +kernel), List.mem_of_getElem? (i := 657) (by decide +kernel), List.mem_of_getElem? (i := 658) (by decide +kernel)⟩
theorem lw_p23 : lw_okq (⟨"GridShapesModel", "fails", "(Z)Z"⟩, 16) := ⟨⟨by decide +kernel, by decide +kernel⟩, List.mem_of_getElem? (i := 570) (by decide +kernel), List.mem_of_getElem? (i := 661) (by decide +kernel), List.mem_of_getElem? (i := 662) (by decide +kernel)⟩
theorem lw_p24 : lw_okq (⟨"GridShapesModel", "isNext", "(II)Z"⟩, 16) := ⟨⟨by decide +kernel, by decide +kernel⟩, List.mem_of_getElem? (i := 570) (by decide +kernel), List.mem_of_getElem? (i := 673) (by decide +kernel), List.mem_of_getElem? (i := 674) (by decide +kernel)⟩
theorem lw_p25 : lw_okq (⟨"GridShapesModel", "directions", "()I"⟩, 16) := ⟨⟨by decide +kernel, by decide +kernel⟩, List.mem_of_getElem? (i := 570) (by decide +kernel), List.mem_of_getElem? (i := 697) (by decide +kernel), List.mem_of_getElem? (i := 698) (by decide +kernel)⟩
theorem lw_p26 : lw_okq (⟨"GridShapesModel", "noneOut", "()V"⟩, 16) := ⟨⟨by decide +kernel, by decide +kernel⟩, List.mem_of_getElem? (i := 570) (by decide +kernel), List.mem_of_getElem? (i := 705) (by decide +kernel), List.mem_of_getElem? (i := 706) (by decide +kernel)⟩
theorem lw_p27 : lw_okq (⟨"GridShapesModel", "spread", "(I)V"⟩, 16) := ⟨⟨by decide +kernel, by decide +kernel⟩, List.mem_of_getElem? (i := 570) (by decide +kernel), List.mem_of_getElem? (i := 709) (by decide +kernel), List.mem_of_getElem? (i := 710) (by decide +kernel)⟩
theorem lw_p28 : lw_okq (⟨"GridShapesModel", "count", "()I"⟩, 16) := ⟨⟨by decide +kernel, by decide +kernel⟩, List.mem_of_getElem? (i := 570) (by decide +kernel), List.mem_of_getElem? (i := 717) (by decide +kernel), List.mem_of_getElem? (i := 718) (by decide +kernel)⟩
theorem lw_p29 : lw_okq (⟨"GridShapesModel", "isTurn", "(I)Z"⟩, 16) := ⟨⟨by decide +kernel, by decide +kernel⟩, List.mem_of_getElem? (i := 570) (by decide +kernel), List.mem_of_getElem? (i := 741) (by decide +kernel), List.mem_of_getElem? (i := 742) (by decide +kernel)⟩
theorem lw_p30 : lw_okq (⟨"GridShapesModel", "turned", "(II)I"⟩, 16) := ⟨⟨by decide +kernel, by decide +kernel⟩, List.mem_of_getElem? (i := 570) (by decide +kernel), List.mem_of_getElem? (i := 745) (by decide +kernel), List.mem_of_getElem? (i := 746) (by decide +kernel)⟩
theorem lw_p31 : lw_okq (⟨"GridShapesModel", "isKept", "(I)Z"⟩, 16) := ⟨⟨by decide +kernel, by decide +kernel⟩, List.mem_of_getElem? (i := 570) (by decide +kernel), List.mem_of_getElem? (i := 753) (by decide +kernel), List.mem_of_getElem? (i := 754) (by decide +kernel)⟩
def lw_privs_2 : List (MethodName × Nat) := [(⟨"java/lang/Throwable", "fillInStackTrace", "(I)Ljava/lang/Throwable;"⟩, 6), (⟨"GridShapesModel", "all", "()I"⟩, 16), (⟨"GridShapesModel", "step", "(II)I"⟩, 16), (⟨"GridShapesModel", "at", "(II)I"⟩, 16), (⟨"GridShapesModel", "hex", "(III)I"⟩, 16), (⟨"GridShapesModel", "ring", "(III)I"⟩, 16), (⟨"GridShapesModel", "isPlace", "(I)Z"⟩, 16), (⟨"GridShapesModel", "fails", "(Z)Z"⟩, 16), (⟨"GridShapesModel", "isNext", "(II)Z"⟩, 16), (⟨"GridShapesModel", "directions", "()I"⟩, 16), (⟨"GridShapesModel", "noneOut", "()V"⟩, 16), (⟨"GridShapesModel", "spread", "(I)V"⟩, 16), (⟨"GridShapesModel", "count", "()I"⟩, 16), (⟨"GridShapesModel", "isTurn", "(I)Z"⟩, 16), (⟨"GridShapesModel", "turned", "(II)I"⟩, 16), (⟨"GridShapesModel", "isKept", "(I)Z"⟩, 16)]
theorem lw_r2 : ∀ q ∈ lw_privs_2, lw_okq q := List.forall_mem_cons.mpr ⟨lw_p16, List.forall_mem_cons.mpr ⟨lw_p17, List.forall_mem_cons.mpr ⟨lw_p18, List.forall_mem_cons.mpr ⟨lw_p19, List.forall_mem_cons.mpr ⟨lw_p20, List.forall_mem_cons.mpr ⟨lw_p21, List.forall_mem_cons.mpr ⟨lw_p22, List.forall_mem_cons.mpr ⟨lw_p23, List.forall_mem_cons.mpr ⟨lw_p24, List.forall_mem_cons.mpr ⟨lw_p25, List.forall_mem_cons.mpr ⟨lw_p26, List.forall_mem_cons.mpr ⟨lw_p27, List.forall_mem_cons.mpr ⟨lw_p28, List.forall_mem_cons.mpr ⟨lw_p29, List.forall_mem_cons.mpr ⟨lw_p30, List.forall_mem_cons.mpr ⟨lw_p31, fun _ h => absurd h List.not_mem_nil⟩⟩⟩⟩⟩⟩⟩⟩⟩⟩⟩⟩⟩⟩⟩⟩
theorem lw_p32 : lw_okq (⟨"GridShapesModel", "say", "(I)V"⟩, 16) := ⟨⟨by decide +kernel, by decide +kernel⟩, List.mem_of_getElem? (i := 570) (by decide +kernel), List.mem_of_getElem? (i := 765) (by decide +kernel), List.mem_of_getElem? (i := 766) (by decide +kernel)⟩
theorem lw_p33 : lw_okq (⟨"GridShapesModel", "isDigit", "(I)Z"⟩, 16) := ⟨⟨by decide +kernel, by decide +kernel⟩, List.mem_of_getElem? (i := 570) (by decide +kernel), List.mem_of_getElem? (i := 777) (by decide +kernel), List.mem_of_getElem? (i := 778) (by decide +kernel)⟩
def lw_privs_3 : List (MethodName × Nat) := [(⟨"GridShapesModel", "say", "(I)V"⟩, 16), (⟨"GridShapesModel", "isDigit", "(I)Z"⟩, 16)]
theorem lw_r3 : ∀ q ∈ lw_privs_3, lw_okq q := List.forall_mem_cons.mpr ⟨lw_p32, List.forall_mem_cons.mpr ⟨lw_p33, fun _ h => absurd h List.not_mem_nil⟩⟩
def lw_privs : List (MethodName × Nat) := lw_privs_1 ++ (lw_privs_2 ++ (lw_privs_3))
def lw_tbl : List Cond := k2_sels lw_privs ++ tables_1
theorem lw_privs_ok : ∀ q ∈ lw_privs, lw_okq q := by
  show ∀ q ∈ lw_privs_1 ++ (lw_privs_2 ++ (lw_privs_3)), lw_okq q
  exact List.forall_mem_append.mpr ⟨lw_r1, List.forall_mem_append.mpr ⟨lw_r2, lw_r3⟩⟩
end
section
def RX0 : String := "GridShapes$Draft"
def TX0 : u_T := fun k => match k with
  | 0 => ("GridShapes$Draft", "marks", "[I", true)
  | 1 => ("GridShapes$Draft", "filled", "I", false)
  | _ => ("GridShapes$Draft", "digits", "I", false)
def tyX0 : Nat → FieldType := fun k => match k with
  | 0 => .array .int
  | 1 => .int
  | _ => .int
theorem nmX0 : ∀ a, a < 3 → ∀ b, b < 3 → a ≠ b → (TX0 a).2.1 ≠ (TX0 b).2.1 := by decide +kernel
theorem tyX0_ok : ∀ k, k < 3 → parseFieldDescriptor (TX0 k).2.2.1 = some (tyX0 k) := by decide +kernel
abbrev cX0_init : ByteArray := prog_2_method_1_code
def yX0_init : MethodName := ⟨RX0, "<init>", "(LGridShapes$Frame;)V"⟩
abbrev cX0_firstFault : ByteArray := prog_2_method_2_code
def yX0_firstFault : MethodName := ⟨RX0, "firstFault", "(LGridShapes$Row;)I"⟩
abbrev cX0_copyTo : ByteArray := prog_2_method_3_code
def yX0_copyTo : MethodName := ⟨RX0, "copyTo", "([I)V"⟩
abbrev cX0_takes : ByteArray := prog_2_method_4_code
def yX0_takes : MethodName := ⟨RX0, "takes", "(II)Z"⟩
abbrev cX0_beginsNumber : ByteArray := prog_2_method_5_code
def yX0_beginsNumber : MethodName := ⟨RX0, "beginsNumber", "(I)Z"⟩
abbrev cX0_endsNumber : ByteArray := prog_2_method_6_code
def yX0_endsNumber : MethodName := ⟨RX0, "endsNumber", "(I)Z"⟩
abbrev cX0_leavesEmpty : ByteArray := prog_2_method_7_code
def yX0_leavesEmpty : MethodName := ⟨RX0, "leavesEmpty", "(I)Z"⟩
def RX1 : String := "GridShapes$Frame"
def TX1 : u_T := fun k => match k with
  | 0 => ("GridShapes$Frame", "kind", "I", true)
  | 1 => ("GridShapes$Frame", "width", "I", true)
  | 2 => ("GridShapes$Frame", "height", "I", true)
  | 3 => ("GridShapes$Frame", "count", "I", true)
  | 4 => ("GridShapes$Frame", "columns", "[I", true)
  | _ => ("GridShapes$Frame", "rows", "[I", true)
def tyX1 : Nat → FieldType := fun k => match k with
  | 0 => .int
  | 1 => .int
  | 2 => .int
  | 3 => .int
  | 4 => .array .int
  | _ => .array .int
theorem nmX1 : ∀ a, a < 6 → ∀ b, b < 6 → a ≠ b → (TX1 a).2.1 ≠ (TX1 b).2.1 := by decide +kernel
theorem tyX1_ok : ∀ k, k < 6 → parseFieldDescriptor (TX1 k).2.2.1 = some (tyX1 k) := by decide +kernel
abbrev cX1_init : ByteArray := prog_3_method_1_code
def yX1_init : MethodName := ⟨RX1, "<init>", "(III)V"⟩
abbrev cX1_has : ByteArray := prog_3_method_2_code
def yX1_has : MethodName := ⟨RX1, "has", "(I)Z"⟩
abbrev cX1_columnOf : ByteArray := prog_3_method_3_code
def yX1_columnOf : MethodName := ⟨RX1, "columnOf", "(I)I"⟩
abbrev cX1_rowOf : ByteArray := prog_3_method_4_code
def yX1_rowOf : MethodName := ⟨RX1, "rowOf", "(I)I"⟩
abbrev cX1_placeAt : ByteArray := prog_3_method_5_code
def yX1_placeAt : MethodName := ⟨RX1, "placeAt", "(II)I"⟩
abbrev cX1_slots : ByteArray := prog_3_method_6_code
def yX1_slots : MethodName := ⟨RX1, "slots", "()I"⟩
abbrev cX1_directions : ByteArray := prog_3_method_7_code
def yX1_directions : MethodName := ⟨RX1, "directions", "()I"⟩
abbrev cX1_firstBeside : ByteArray := prog_3_method_8_code
def yX1_firstBeside : MethodName := ⟨RX1, "firstBeside", "(II)I"⟩
abbrev cX1_besideInSquares : ByteArray := prog_3_method_9_code
def yX1_besideInSquares : MethodName := ⟨RX1, "besideInSquares", "(III)I"⟩
abbrev cX1_besideInHexes : ByteArray := prog_3_method_10_code
def yX1_besideInHexes : MethodName := ⟨RX1, "besideInHexes", "(III)I"⟩
abbrev cX1_besideInTriangles : ByteArray := prog_3_method_11_code
def yX1_besideInTriangles : MethodName := ⟨RX1, "besideInTriangles", "(III)I"⟩
abbrev cX1_besideInRings : ByteArray := prog_3_method_12_code
def yX1_besideInRings : MethodName := ⟨RX1, "besideInRings", "(III)I"⟩
def RX2 : String := "GridShapes$Net"
def TX2 : u_T := fun k => match k with
  | 0 => ("GridShapes$Net", "slots", "I", true)
  | 1 => ("GridShapes$Net", "count", "I", true)
  | 2 => ("GridShapes$Net", "beside", "[I", true)
  | _ => ("GridShapes$Net", "walled", "[Z", true)
def tyX2 : Nat → FieldType := fun k => match k with
  | 0 => .int
  | 1 => .int
  | 2 => .array .int
  | _ => .array .boolean
theorem nmX2 : ∀ a, a < 4 → ∀ b, b < 4 → a ≠ b → (TX2 a).2.1 ≠ (TX2 b).2.1 := by decide +kernel
theorem tyX2_ok : ∀ k, k < 4 → parseFieldDescriptor (TX2 k).2.2.1 = some (tyX2 k) := by decide +kernel
abbrev cX2_init : ByteArray := prog_4_method_1_code
def yX2_init : MethodName := ⟨RX2, "<init>", "(LGridShapes$Frame;)V"⟩
abbrev cX2_has : ByteArray := prog_4_method_2_code
def yX2_has : MethodName := ⟨RX2, "has", "(II)Z"⟩
abbrev cX2_besideAt : ByteArray := prog_4_method_3_code
def yX2_besideAt : MethodName := ⟨RX2, "besideAt", "(II)I"⟩
abbrev cX2_walledAt : ByteArray := prog_4_method_4_code
def yX2_walledAt : MethodName := ⟨RX2, "walledAt", "(II)Z"⟩
abbrev cX2_openAt : ByteArray := prog_4_method_5_code
def yX2_openAt : MethodName := ⟨RX2, "openAt", "(II)I"⟩
abbrev cX2_slotOf : ByteArray := prog_4_method_6_code
def yX2_slotOf : MethodName := ⟨RX2, "slotOf", "(II)I"⟩
abbrev cX2_leastBeyond : ByteArray := prog_4_method_7_code
def yX2_leastBeyond : MethodName := ⟨RX2, "leastBeyond", "(II)I"⟩
abbrev cX2_tie : ByteArray := prog_4_method_8_code
def yX2_tie : MethodName := ⟨RX2, "tie", "(II)V"⟩
abbrev cX2_setWall : ByteArray := prog_4_method_9_code
def yX2_setWall : MethodName := ⟨RX2, "setWall", "(IIZ)V"⟩
def RX3 : String := "GridShapes$Row"
def TX3 : u_T := fun k => match k with
  | 0 => ("GridShapes$Row", "cells", "[I", true)
  | _ => ("GridShapes$Row", "filled", "I", false)
def tyX3 : Nat → FieldType := fun k => match k with
  | 0 => .array .int
  | _ => .int
theorem nmX3 : ∀ a, a < 2 → ∀ b, b < 2 → a ≠ b → (TX3 a).2.1 ≠ (TX3 b).2.1 := by decide +kernel
theorem tyX3_ok : ∀ k, k < 2 → parseFieldDescriptor (TX3 k).2.2.1 = some (tyX3 k) := by decide +kernel
abbrev cX3_init : ByteArray := prog_5_method_1_code
def yX3_init : MethodName := ⟨RX3, "<init>", "(I)V"⟩
abbrev cX3_length : ByteArray := prog_5_method_2_code
def yX3_length : MethodName := ⟨RX3, "length", "()I"⟩
abbrev cX3_at : ByteArray := prog_5_method_3_code
def yX3_at : MethodName := ⟨RX3, "at", "(I)I"⟩
abbrev cX3_put : ByteArray := prog_5_method_4_code
def yX3_put : MethodName := ⟨RX3, "put", "(I)Z"⟩
abbrev cX3_clear : ByteArray := prog_5_method_5_code
def yX3_clear : MethodName := ⟨RX3, "clear", "()V"⟩
def RX4 : String := "GridShapes$Scribe"
def TX4 : u_T := fun k => match k with
  | _ => ("GridShapes$Scribe", "line", "LGridShapes$Row;", true)
def tyX4 : Nat → FieldType := fun k => match k with
  | _ => .object "GridShapes$Row"
theorem nmX4 : ∀ a, a < 1 → ∀ b, b < 1 → a ≠ b → (TX4 a).2.1 ≠ (TX4 b).2.1 := by decide +kernel
theorem tyX4_ok : ∀ k, k < 1 → parseFieldDescriptor (TX4 k).2.2.1 = some (tyX4 k) := by decide +kernel
abbrev cX4_init : ByteArray := prog_6_method_1_code
def yX4_init : MethodName := ⟨RX4, "<init>", "(LGridShapes$Frame;)V"⟩
abbrev cX4_spell : ByteArray := prog_6_method_2_code
def yX4_spell : MethodName := ⟨RX4, "spell", "([I)V"⟩
abbrev cX4_spellEmpty : ByteArray := prog_6_method_3_code
def yX4_spellEmpty : MethodName := ⟨RX4, "spellEmpty", "(I)V"⟩
abbrev cX4_spellNumber : ByteArray := prog_6_method_4_code
def yX4_spellNumber : MethodName := ⟨RX4, "spellNumber", "(I)V"⟩
def RX5 : String := "GridShapes$Turns"
def TX5 : u_T := fun k => match k with
  | 0 => ("GridShapes$Turns", "count", "I", true)
  | _ => ("GridShapes$Turns", "frame", "LGridShapes$Frame;", true)
def tyX5 : Nat → FieldType := fun k => match k with
  | 0 => .int
  | _ => .object "GridShapes$Frame"
theorem nmX5 : ∀ a, a < 2 → ∀ b, b < 2 → a ≠ b → (TX5 a).2.1 ≠ (TX5 b).2.1 := by decide +kernel
theorem tyX5_ok : ∀ k, k < 2 → parseFieldDescriptor (TX5 k).2.2.1 = some (tyX5 k) := by decide +kernel
abbrev cX5_init : ByteArray := prog_7_method_1_code
def yX5_init : MethodName := ⟨RX5, "<init>", "(LGridShapes$Frame;)V"⟩
abbrev cX5_has : ByteArray := prog_7_method_2_code
def yX5_has : MethodName := ⟨RX5, "has", "(I)Z"⟩
abbrev cX5_placeAfter : ByteArray := prog_7_method_3_code
def yX5_placeAfter : MethodName := ⟨RX5, "placeAfter", "(II)I"⟩
abbrev cX5_columnAround : ByteArray := prog_7_method_4_code
def yX5_columnAround : MethodName := ⟨RX5, "columnAround", "(II)I"⟩
def RX6 : String := "GridShapes$Walk"
def TX6 : u_T := fun k => match k with
  | 0 => ("GridShapes$Walk", "net", "LGridShapes$Net;", true)
  | 1 => ("GridShapes$Walk", "steps", "[I", true)
  | _ => ("GridShapes$Walk", "reached", "LGridShapes$Row;", true)
def tyX6 : Nat → FieldType := fun k => match k with
  | 0 => .object "GridShapes$Net"
  | 1 => .array .int
  | _ => .object "GridShapes$Row"
theorem nmX6 : ∀ a, a < 3 → ∀ b, b < 3 → a ≠ b → (TX6 a).2.1 ≠ (TX6 b).2.1 := by decide +kernel
theorem tyX6_ok : ∀ k, k < 3 → parseFieldDescriptor (TX6 k).2.2.1 = some (tyX6 k) := by decide +kernel
abbrev cX6_init : ByteArray := prog_8_method_1_code
def yX6_init : MethodName := ⟨RX6, "<init>", "(LGridShapes$Frame;LGridShapes$Net;)V"⟩
abbrev cX6_admitAll : ByteArray := prog_8_method_2_code
def yX6_admitAll : MethodName := ⟨RX6, "admitAll", "()V"⟩
abbrev cX6_admitArea : ByteArray := prog_8_method_3_code
def yX6_admitArea : MethodName := ⟨RX6, "admitArea", "([II)V"⟩
abbrev cX6_refuse : ByteArray := prog_8_method_4_code
def yX6_refuse : MethodName := ⟨RX6, "refuse", "(I)V"⟩
abbrev cX6_stepsTo : ByteArray := prog_8_method_5_code
def yX6_stepsTo : MethodName := ⟨RX6, "stepsTo", "(I)I"⟩
abbrev cX6_countParts : ByteArray := prog_8_method_6_code
def yX6_countParts : MethodName := ⟨RX6, "countParts", "()I"⟩
abbrev cX6_spreadFrom : ByteArray := prog_8_method_7_code
def yX6_spreadFrom : MethodName := ⟨RX6, "spreadFrom", "(I)V"⟩
abbrev cX6_reach : ByteArray := prog_8_method_8_code
def yX6_reach : MethodName := ⟨RX6, "reach", "(II)V"⟩
def RX7 : String := "GridShapes"
def TX7 : u_T := fun k => match k with
  | 0 => ("GridShapes", "frame", "LGridShapes$Frame;", true)
  | 1 => ("GridShapes", "net", "LGridShapes$Net;", true)
  | 2 => ("GridShapes", "turns", "LGridShapes$Turns;", true)
  | 3 => ("GridShapes", "walk", "LGridShapes$Walk;", true)
  | 4 => ("GridShapes", "scribe", "LGridShapes$Scribe;", true)
  | 5 => ("GridShapes", "draft", "LGridShapes$Draft;", true)
  | 6 => ("GridShapes", "came", "LGridShapes$Row;", true)
  | 7 => ("GridShapes", "marks", "[I", true)
  | _ => ("GridShapes", "areas", "[I", true)
def tyX7 : Nat → FieldType := fun k => match k with
  | 0 => .object "GridShapes$Frame"
  | 1 => .object "GridShapes$Net"
  | 2 => .object "GridShapes$Turns"
  | 3 => .object "GridShapes$Walk"
  | 4 => .object "GridShapes$Scribe"
  | 5 => .object "GridShapes$Draft"
  | 6 => .object "GridShapes$Row"
  | 7 => .array .int
  | _ => .array .int
theorem nmX7 : ∀ a, a < 9 → ∀ b, b < 9 → a ≠ b → (TX7 a).2.1 ≠ (TX7 b).2.1 := by decide +kernel
theorem tyX7_ok : ∀ k, k < 9 → parseFieldDescriptor (TX7 k).2.2.1 = some (tyX7 k) := by decide +kernel
abbrev cX7_init : ByteArray := prog_1_method_1_code
def yX7_init : MethodName := ⟨RX7, "<init>", "(III)V"⟩
abbrev cX7_join : ByteArray := prog_1_method_2_code
def yX7_join : MethodName := ⟨RX7, "join", "(II)Z"⟩
abbrev cX7_places : ByteArray := prog_1_method_3_code
def yX7_places : MethodName := ⟨RX7, "places", "()I"⟩
abbrev cX7_degree : ByteArray := prog_1_method_4_code
def yX7_degree : MethodName := ⟨RX7, "degree", "(IZ)I"⟩
abbrev cX7_neighbour : ByteArray := prog_1_method_5_code
def yX7_neighbour : MethodName := ⟨RX7, "neighbour", "(II)I"⟩
abbrev cX7_wall : ByteArray := prog_1_method_6_code
def yX7_wall : MethodName := ⟨RX7, "wall", "(IIZ)Z"⟩
abbrev cX7_pairs : ByteArray := prog_1_method_7_code
def yX7_pairs : MethodName := ⟨RX7, "pairs", "(Z)I"⟩
abbrev cX7_pair : ByteArray := prog_1_method_8_code
def yX7_pair : MethodName := ⟨RX7, "pair", "(IZ)I"⟩
abbrev cX7_seen : ByteArray := prog_1_method_9_code
def yX7_seen : MethodName := ⟨RX7, "seen", "(III)I"⟩
abbrev cX7_far : ByteArray := prog_1_method_10_code
def yX7_far : MethodName := ⟨RX7, "far", "(II)I"⟩
abbrev cX7_parts : ByteArray := prog_1_method_11_code
def yX7_parts : MethodName := ⟨RX7, "parts", "(I)I"⟩
abbrev cX7_without : ByteArray := prog_1_method_12_code
def yX7_without : MethodName := ⟨RX7, "without", "(I)I"⟩
abbrev cX7_area : ByteArray := prog_1_method_13_code
def yX7_area : MethodName := ⟨RX7, "area", "(II)Z"⟩
abbrev cX7_size : ByteArray := prog_1_method_14_code
def yX7_size : MethodName := ⟨RX7, "size", "(I)I"⟩
abbrev cX7_mark : ByteArray := prog_1_method_15_code
def yX7_mark : MethodName := ⟨RX7, "mark", "(II)Z"⟩
abbrev cX7_image : ByteArray := prog_1_method_16_code
def yX7_image : MethodName := ⟨RX7, "image", "(II)I"⟩
abbrev cX7_keeps : ByteArray := prog_1_method_17_code
def yX7_keeps : MethodName := ⟨RX7, "keeps", "(I)Z"⟩
abbrev cX7_keeping : ByteArray := prog_1_method_18_code
def yX7_keeping : MethodName := ⟨RX7, "keeping", "()I"⟩
abbrev cX7_text : ByteArray := prog_1_method_19_code
def yX7_text : MethodName := ⟨RX7, "text", "(I)I"⟩
abbrev cX7_unit : ByteArray := prog_1_method_20_code
def yX7_unit : MethodName := ⟨RX7, "unit", "(I)Z"⟩
abbrev cX7_read : ByteArray := prog_1_method_21_code
def yX7_read : MethodName := ⟨RX7, "read", "()I"⟩
abbrev cX7_demandPlace : ByteArray := prog_1_method_22_code
def yX7_demandPlace : MethodName := ⟨RX7, "demandPlace", "(I)V"⟩
abbrev cX7_keepsAllPlaces : ByteArray := prog_1_method_23_code
def yX7_keepsAllPlaces : MethodName := ⟨RX7, "keepsAllPlaces", "(I)Z"⟩
abbrev cX7_keepsBeside : ByteArray := prog_1_method_24_code
def yX7_keepsBeside : MethodName := ⟨RX7, "keepsBeside", "(III)Z"⟩
abbrev cX7_within : ByteArray := prog_1_method_25_code
def yX7_within : MethodName := ⟨RX7, "within", "(III)I"⟩
abbrev cX7_isDigit : ByteArray := prog_1_method_26_code
def yX7_isDigit : MethodName := ⟨RX7, "isDigit", "(I)Z"⟩
def RX8 : String := "GridShapesModel"
def TX8 : u_T := fun k => match k with
  | 0 => ("GridShapesModel", "thrown", "I", false)
  | 1 => ("GridShapesModel", "kind", "I", false)
  | 2 => ("GridShapesModel", "width", "I", false)
  | 3 => ("GridShapesModel", "height", "I", false)
  | 4 => ("GridShapesModel", "neighbours", "[Z", true)
  | 5 => ("GridShapesModel", "walls", "[Z", true)
  | 6 => ("GridShapesModel", "areas", "[I", true)
  | 7 => ("GridShapesModel", "marks", "[I", true)
  | 8 => ("GridShapesModel", "reach", "[I", true)
  | 9 => ("GridShapesModel", "out", "[Z", true)
  | 10 => ("GridShapesModel", "size", "I", false)
  | 11 => ("GridShapesModel", "input", "[I", true)
  | 12 => ("GridShapesModel", "found", "[I", true)
  | 13 => ("GridShapesModel", "place", "I", false)
  | 14 => ("GridShapesModel", "sought", "I", false)
  | _ => ("GridShapesModel", "byteThere", "I", false)
def tyX8 : Nat → FieldType := fun k => match k with
  | 0 => .int
  | 1 => .int
  | 2 => .int
  | 3 => .int
  | 4 => .array .boolean
  | 5 => .array .boolean
  | 6 => .array .int
  | 7 => .array .int
  | 8 => .array .int
  | 9 => .array .boolean
  | 10 => .int
  | 11 => .array .int
  | 12 => .array .int
  | 13 => .int
  | 14 => .int
  | _ => .int
theorem nmX8 : ∀ a, a < 16 → ∀ b, b < 16 → a ≠ b → (TX8 a).2.1 ≠ (TX8 b).2.1 := by decide +kernel
theorem tyX8_ok : ∀ k, k < 16 → parseFieldDescriptor (TX8 k).2.2.1 = some (tyX8 k) := by decide +kernel
abbrev cX8_init : ByteArray := prog_10_method_1_code
def yX8_init : MethodName := ⟨RX8, "<init>", "(III)V"⟩
abbrev cX8_thrown : ByteArray := prog_10_method_2_code
def yX8_thrown : MethodName := ⟨RX8, "thrown", "()I"⟩
abbrev cX8_fails : ByteArray := prog_10_method_3_code
def yX8_fails : MethodName := ⟨RX8, "fails", "(Z)Z"⟩
abbrev cX8_held : ByteArray := prog_10_method_4_code
def yX8_held : MethodName := ⟨RX8, "held", "(III)I"⟩
abbrev cX8_all : ByteArray := prog_10_method_5_code
def yX8_all : MethodName := ⟨RX8, "all", "()I"⟩
abbrev cX8_isPlace : ByteArray := prog_10_method_6_code
def yX8_isPlace : MethodName := ⟨RX8, "isPlace", "(I)Z"⟩
abbrev cX8_at : ByteArray := prog_10_method_7_code
def yX8_at : MethodName := ⟨RX8, "at", "(II)I"⟩
abbrev cX8_step : ByteArray := prog_10_method_8_code
def yX8_step : MethodName := ⟨RX8, "step", "(II)I"⟩
abbrev cX8_hex : ByteArray := prog_10_method_9_code
def yX8_hex : MethodName := ⟨RX8, "hex", "(III)I"⟩
abbrev cX8_ring : ByteArray := prog_10_method_10_code
def yX8_ring : MethodName := ⟨RX8, "ring", "(III)I"⟩
abbrev cX8_join : ByteArray := prog_10_method_11_code
def yX8_join : MethodName := ⟨RX8, "join", "(II)Z"⟩
abbrev cX8_places : ByteArray := prog_10_method_12_code
def yX8_places : MethodName := ⟨RX8, "places", "()I"⟩
abbrev cX8_isNext : ByteArray := prog_10_method_13_code
def yX8_isNext : MethodName := ⟨RX8, "isNext", "(II)Z"⟩
abbrev cX8_degree : ByteArray := prog_10_method_14_code
def yX8_degree : MethodName := ⟨RX8, "degree", "(IZ)I"⟩
abbrev cX8_neighbour : ByteArray := prog_10_method_15_code
def yX8_neighbour : MethodName := ⟨RX8, "neighbour", "(II)I"⟩
abbrev cX8_wall : ByteArray := prog_10_method_16_code
def yX8_wall : MethodName := ⟨RX8, "wall", "(IIZ)Z"⟩
abbrev cX8_pairs : ByteArray := prog_10_method_17_code
def yX8_pairs : MethodName := ⟨RX8, "pairs", "(Z)I"⟩
abbrev cX8_pair : ByteArray := prog_10_method_18_code
def yX8_pair : MethodName := ⟨RX8, "pair", "(IZ)I"⟩
abbrev cX8_directions : ByteArray := prog_10_method_19_code
def yX8_directions : MethodName := ⟨RX8, "directions", "()I"⟩
abbrev cX8_seen : ByteArray := prog_10_method_20_code
def yX8_seen : MethodName := ⟨RX8, "seen", "(III)I"⟩
abbrev cX8_spread : ByteArray := prog_10_method_21_code
def yX8_spread : MethodName := ⟨RX8, "spread", "(I)V"⟩
abbrev cX8_noneOut : ByteArray := prog_10_method_22_code
def yX8_noneOut : MethodName := ⟨RX8, "noneOut", "()V"⟩
abbrev cX8_far : ByteArray := prog_10_method_23_code
def yX8_far : MethodName := ⟨RX8, "far", "(II)I"⟩
abbrev cX8_count : ByteArray := prog_10_method_24_code
def yX8_count : MethodName := ⟨RX8, "count", "()I"⟩
abbrev cX8_parts : ByteArray := prog_10_method_25_code
def yX8_parts : MethodName := ⟨RX8, "parts", "(I)I"⟩
abbrev cX8_without : ByteArray := prog_10_method_26_code
def yX8_without : MethodName := ⟨RX8, "without", "(I)I"⟩
abbrev cX8_area : ByteArray := prog_10_method_27_code
def yX8_area : MethodName := ⟨RX8, "area", "(II)Z"⟩
abbrev cX8_size : ByteArray := prog_10_method_28_code
def yX8_size : MethodName := ⟨RX8, "size", "(I)I"⟩
abbrev cX8_mark : ByteArray := prog_10_method_29_code
def yX8_mark : MethodName := ⟨RX8, "mark", "(II)Z"⟩
abbrev cX8_isTurn : ByteArray := prog_10_method_30_code
def yX8_isTurn : MethodName := ⟨RX8, "isTurn", "(I)Z"⟩
abbrev cX8_turned : ByteArray := prog_10_method_31_code
def yX8_turned : MethodName := ⟨RX8, "turned", "(II)I"⟩
abbrev cX8_image : ByteArray := prog_10_method_32_code
def yX8_image : MethodName := ⟨RX8, "image", "(II)I"⟩
abbrev cX8_isKept : ByteArray := prog_10_method_33_code
def yX8_isKept : MethodName := ⟨RX8, "isKept", "(I)Z"⟩
abbrev cX8_keeps : ByteArray := prog_10_method_34_code
def yX8_keeps : MethodName := ⟨RX8, "keeps", "(I)Z"⟩
abbrev cX8_keeping : ByteArray := prog_10_method_35_code
def yX8_keeping : MethodName := ⟨RX8, "keeping", "()I"⟩
abbrev cX8_say : ByteArray := prog_10_method_36_code
def yX8_say : MethodName := ⟨RX8, "say", "(I)V"⟩
abbrev cX8_text : ByteArray := prog_10_method_37_code
def yX8_text : MethodName := ⟨RX8, "text", "(I)I"⟩
abbrev cX8_unit : ByteArray := prog_10_method_38_code
def yX8_unit : MethodName := ⟨RX8, "unit", "(I)Z"⟩
abbrev cX8_isDigit : ByteArray := prog_10_method_39_code
def yX8_isDigit : MethodName := ⟨RX8, "isDigit", "(I)Z"⟩
abbrev cX8_read : ByteArray := prog_10_method_40_code
def yX8_read : MethodName := ⟨RX8, "read", "()I"⟩
def RJx00060 : String := "java/lang/ArrayIndexOutOfBoundsException"
def RL : String := "GridShapesLaw"
abbrev cL_cell : ByteArray := method_2_code
def yL_cell : MethodName := ⟨RL, "cell", "([II)I"⟩
abbrev cL_join : ByteArray := method_3_code
def yL_join : MethodName := ⟨RL, "join", "(LGridShapes;II[J)I"⟩
abbrev cL_degree : ByteArray := method_4_code
def yL_degree : MethodName := ⟨RL, "degree", "(LGridShapes;IZ[J)I"⟩
abbrev cL_neighbour : ByteArray := method_5_code
def yL_neighbour : MethodName := ⟨RL, "neighbour", "(LGridShapes;II[J)I"⟩
abbrev cL_wall : ByteArray := method_6_code
def yL_wall : MethodName := ⟨RL, "wall", "(LGridShapes;IIZ[J)I"⟩
abbrev cL_seen : ByteArray := method_7_code
def yL_seen : MethodName := ⟨RL, "seen", "(LGridShapes;III[J)I"⟩
abbrev cL_far : ByteArray := method_8_code
def yL_far : MethodName := ⟨RL, "far", "(LGridShapes;II[J)I"⟩
abbrev cL_without : ByteArray := method_9_code
def yL_without : MethodName := ⟨RL, "without", "(LGridShapes;I[J)I"⟩
abbrev cL_area : ByteArray := method_10_code
def yL_area : MethodName := ⟨RL, "area", "(LGridShapes;II[J)I"⟩
abbrev cL_mark : ByteArray := method_11_code
def yL_mark : MethodName := ⟨RL, "mark", "(LGridShapes;II[J)I"⟩
abbrev cL_image : ByteArray := method_12_code
def yL_image : MethodName := ⟨RL, "image", "(LGridShapes;II[J)I"⟩
abbrev cL_law : ByteArray := code
def yL_law : MethodName := ⟨RL, "law", "([I)Z"⟩
abbrev mCl : List vw_C := [(RX0, TX0, 3), (RX1, TX1, 6), (RX2, TX2, 4), (RX3, TX3, 2), (RX4, TX4, 1), (RX5, TX5, 2), (RX6, TX6, 3), (RX7, TX7, 9), (RX8, TX8, 16)]
end
section
theorem dX0_init_0 : decode cX0_init 0 = .ok (.aload_n 0, 1) := by decide +kernel
theorem dX0_init_1 : decode cX0_init 1 = .ok (.invokespecial 3, 3) := by decide +kernel
theorem dX0_init_4 : decode cX0_init 4 = .ok (.aload_n 0, 1) := by decide +kernel
theorem dX0_init_5 : decode cX0_init 5 = .ok (.aload_n 1, 1) := by decide +kernel
theorem dX0_init_6 : decode cX0_init 6 = .ok (.getfield 9, 3) := by decide +kernel
theorem dX0_init_9 : decode cX0_init 9 = .ok (.newarray .int, 2) := by decide +kernel
theorem dX0_init_11 : decode cX0_init 11 = .ok (.putfield 15, 3) := by decide +kernel
theorem dX0_init_14 : decode cX0_init 14 = .ok (.return_, 1) := by decide +kernel
theorem dX0_firstFault_0 : decode cX0_firstFault 0 = .ok (.aload_n 0, 1) := by decide +kernel
theorem dX0_firstFault_1 : decode cX0_firstFault 1 = .ok (.iconst 0, 1) := by decide +kernel
theorem dX0_firstFault_2 : decode cX0_firstFault 2 = .ok (.putfield 21, 3) := by decide +kernel
theorem dX0_firstFault_5 : decode cX0_firstFault 5 = .ok (.aload_n 0, 1) := by decide +kernel
theorem dX0_firstFault_6 : decode cX0_firstFault 6 = .ok (.iconst 0, 1) := by decide +kernel
theorem dX0_firstFault_7 : decode cX0_firstFault 7 = .ok (.putfield 24, 3) := by decide +kernel
theorem dX0_firstFault_10 : decode cX0_firstFault 10 = .ok (.iconst 0, 1) := by decide +kernel
theorem dX0_firstFault_11 : decode cX0_firstFault 11 = .ok (.istore_n 2, 1) := by decide +kernel
theorem dX0_firstFault_12 : decode cX0_firstFault 12 = .ok (.iload_n 2, 1) := by decide +kernel
theorem dX0_firstFault_13 : decode cX0_firstFault 13 = .ok (.aload_n 1, 1) := by decide +kernel
theorem dX0_firstFault_14 : decode cX0_firstFault 14 = .ok (.invokevirtual 27, 3) := by decide +kernel
theorem dX0_firstFault_17 : decode cX0_firstFault 17 = .ok (.if_icmp .ge 30, 3) := by decide +kernel
theorem dX0_firstFault_20 : decode cX0_firstFault 20 = .ok (.aload_n 0, 1) := by decide +kernel
theorem dX0_firstFault_21 : decode cX0_firstFault 21 = .ok (.aload_n 1, 1) := by decide +kernel
theorem dX0_firstFault_22 : decode cX0_firstFault 22 = .ok (.iload_n 2, 1) := by decide +kernel
theorem dX0_firstFault_23 : decode cX0_firstFault 23 = .ok (.invokevirtual 33, 3) := by decide +kernel
theorem dX0_firstFault_26 : decode cX0_firstFault 26 = .ok (.aload_n 1, 1) := by decide +kernel
theorem dX0_firstFault_27 : decode cX0_firstFault 27 = .ok (.iload_n 2, 1) := by decide +kernel
theorem dX0_firstFault_28 : decode cX0_firstFault 28 = .ok (.iconst 1, 1) := by decide +kernel
theorem dX0_firstFault_29 : decode cX0_firstFault 29 = .ok (.iadd, 1) := by decide +kernel
theorem dX0_firstFault_30 : decode cX0_firstFault 30 = .ok (.invokevirtual 33, 3) := by decide +kernel
theorem dX0_firstFault_33 : decode cX0_firstFault 33 = .ok (.invokevirtual 37, 3) := by decide +kernel
theorem dX0_firstFault_36 : decode cX0_firstFault 36 = .ok (.ifCond .ne 5, 3) := by decide +kernel
theorem dX0_firstFault_39 : decode cX0_firstFault 39 = .ok (.iload_n 2, 1) := by decide +kernel
theorem dX0_firstFault_40 : decode cX0_firstFault 40 = .ok (.ireturn, 1) := by decide +kernel
theorem dX0_firstFault_41 : decode cX0_firstFault 41 = .ok (.iinc 2 1, 3) := by decide +kernel
theorem dX0_firstFault_44 : decode cX0_firstFault 44 = .ok (.goto (-32), 3) := by decide +kernel
theorem dX0_firstFault_47 : decode cX0_firstFault 47 = .ok (.aload_n 0, 1) := by decide +kernel
theorem dX0_firstFault_48 : decode cX0_firstFault 48 = .ok (.getfield 21, 3) := by decide +kernel
theorem dX0_firstFault_51 : decode cX0_firstFault 51 = .ok (.aload_n 0, 1) := by decide +kernel
theorem dX0_firstFault_52 : decode cX0_firstFault 52 = .ok (.getfield 15, 3) := by decide +kernel
theorem dX0_firstFault_55 : decode cX0_firstFault 55 = .ok (.arraylength, 1) := by decide +kernel
theorem dX0_firstFault_56 : decode cX0_firstFault 56 = .ok (.if_icmp .ge 10, 3) := by decide +kernel
theorem dX0_firstFault_59 : decode cX0_firstFault 59 = .ok (.aload_n 1, 1) := by decide +kernel
theorem dX0_firstFault_60 : decode cX0_firstFault 60 = .ok (.invokevirtual 27, 3) := by decide +kernel
theorem dX0_firstFault_63 : decode cX0_firstFault 63 = .ok (.goto 4, 3) := by decide +kernel
theorem dX0_firstFault_66 : decode cX0_firstFault 66 = .ok (.iconst (-1), 1) := by decide +kernel
theorem dX0_firstFault_67 : decode cX0_firstFault 67 = .ok (.ireturn, 1) := by decide +kernel
theorem dX0_copyTo_0 : decode cX0_copyTo 0 = .ok (.iconst 0, 1) := by decide +kernel
theorem dX0_copyTo_1 : decode cX0_copyTo 1 = .ok (.istore_n 2, 1) := by decide +kernel
theorem dX0_copyTo_2 : decode cX0_copyTo 2 = .ok (.iload_n 2, 1) := by decide +kernel
theorem dX0_copyTo_3 : decode cX0_copyTo 3 = .ok (.aload_n 0, 1) := by decide +kernel
theorem dX0_copyTo_4 : decode cX0_copyTo 4 = .ok (.getfield 15, 3) := by decide +kernel
theorem dX0_copyTo_7 : decode cX0_copyTo 7 = .ok (.arraylength, 1) := by decide +kernel
theorem dX0_copyTo_8 : decode cX0_copyTo 8 = .ok (.if_icmp .ge 24, 3) := by decide +kernel
theorem dX0_copyTo_11 : decode cX0_copyTo 11 = .ok (.iload_n 2, 1) := by decide +kernel
theorem dX0_copyTo_12 : decode cX0_copyTo 12 = .ok (.aload_n 1, 1) := by decide +kernel
theorem dX0_copyTo_13 : decode cX0_copyTo 13 = .ok (.arraylength, 1) := by decide +kernel
theorem dX0_copyTo_14 : decode cX0_copyTo 14 = .ok (.if_icmp .ge 18, 3) := by decide +kernel
theorem dX0_copyTo_17 : decode cX0_copyTo 17 = .ok (.aload_n 1, 1) := by decide +kernel
theorem dX0_copyTo_18 : decode cX0_copyTo 18 = .ok (.iload_n 2, 1) := by decide +kernel
theorem dX0_copyTo_19 : decode cX0_copyTo 19 = .ok (.aload_n 0, 1) := by decide +kernel
theorem dX0_copyTo_20 : decode cX0_copyTo 20 = .ok (.getfield 15, 3) := by decide +kernel
theorem dX0_copyTo_23 : decode cX0_copyTo 23 = .ok (.iload_n 2, 1) := by decide +kernel
theorem dX0_copyTo_24 : decode cX0_copyTo 24 = .ok (.iaload, 1) := by decide +kernel
theorem dX0_copyTo_25 : decode cX0_copyTo 25 = .ok (.iastore, 1) := by decide +kernel
theorem dX0_copyTo_26 : decode cX0_copyTo 26 = .ok (.iinc 2 1, 3) := by decide +kernel
theorem dX0_copyTo_29 : decode cX0_copyTo 29 = .ok (.goto (-27), 3) := by decide +kernel
theorem dX0_copyTo_32 : decode cX0_copyTo 32 = .ok (.return_, 1) := by decide +kernel
theorem dX0_takes_0 : decode cX0_takes 0 = .ok (.iload_n 1, 1) := by decide +kernel
theorem dX0_takes_1 : decode cX0_takes 1 = .ok (.invokestatic 41, 3) := by decide +kernel
theorem dX0_takes_4 : decode cX0_takes 4 = .ok (.ifCond .eq 30, 3) := by decide +kernel
theorem dX0_takes_7 : decode cX0_takes 7 = .ok (.aload_n 0, 1) := by decide +kernel
theorem dX0_takes_8 : decode cX0_takes 8 = .ok (.getfield 24, 3) := by decide +kernel
theorem dX0_takes_11 : decode cX0_takes 11 = .ok (.ifCond .ne 14, 3) := by decide +kernel
theorem dX0_takes_14 : decode cX0_takes 14 = .ok (.aload_n 0, 1) := by decide +kernel
theorem dX0_takes_15 : decode cX0_takes 15 = .ok (.iload_n 1, 1) := by decide +kernel
theorem dX0_takes_16 : decode cX0_takes 16 = .ok (.bipush 48, 2) := by decide +kernel
theorem dX0_takes_18 : decode cX0_takes 18 = .ok (.isub, 1) := by decide +kernel
theorem dX0_takes_19 : decode cX0_takes 19 = .ok (.invokevirtual 45, 3) := by decide +kernel
theorem dX0_takes_22 : decode cX0_takes 22 = .ok (.goto 11, 3) := by decide +kernel
theorem dX0_takes_25 : decode cX0_takes 25 = .ok (.aload_n 0, 1) := by decide +kernel
theorem dX0_takes_26 : decode cX0_takes 26 = .ok (.iload_n 1, 1) := by decide +kernel
theorem dX0_takes_27 : decode cX0_takes 27 = .ok (.bipush 48, 2) := by decide +kernel
theorem dX0_takes_29 : decode cX0_takes 29 = .ok (.isub, 1) := by decide +kernel
theorem dX0_takes_30 : decode cX0_takes 30 = .ok (.invokevirtual 48, 3) := by decide +kernel
theorem dX0_takes_33 : decode cX0_takes 33 = .ok (.ireturn, 1) := by decide +kernel
theorem dX0_takes_34 : decode cX0_takes 34 = .ok (.aload_n 0, 1) := by decide +kernel
theorem dX0_takes_35 : decode cX0_takes 35 = .ok (.getfield 24, 3) := by decide +kernel
theorem dX0_takes_38 : decode cX0_takes 38 = .ok (.ifCond .le 7, 3) := by decide +kernel
theorem dX0_takes_41 : decode cX0_takes 41 = .ok (.iconst 1, 1) := by decide +kernel
theorem dX0_takes_42 : decode cX0_takes 42 = .ok (.goto 4, 3) := by decide +kernel
theorem dX0_takes_45 : decode cX0_takes 45 = .ok (.iconst 0, 1) := by decide +kernel
theorem dX0_takes_46 : decode cX0_takes 46 = .ok (.istore_n 3, 1) := by decide +kernel
theorem dX0_takes_47 : decode cX0_takes 47 = .ok (.aload_n 0, 1) := by decide +kernel
theorem dX0_takes_48 : decode cX0_takes 48 = .ok (.iconst 0, 1) := by decide +kernel
theorem dX0_takes_49 : decode cX0_takes 49 = .ok (.putfield 24, 3) := by decide +kernel
theorem dX0_takes_52 : decode cX0_takes 52 = .ok (.iload_n 1, 1) := by decide +kernel
theorem dX0_takes_53 : decode cX0_takes 53 = .ok (.bipush 32, 2) := by decide +kernel
theorem dX0_takes_55 : decode cX0_takes 55 = .ok (.if_icmp .ne 20, 3) := by decide +kernel
theorem dX0_takes_58 : decode cX0_takes 58 = .ok (.iload_n 3, 1) := by decide +kernel
theorem dX0_takes_59 : decode cX0_takes 59 = .ok (.ifCond .eq 14, 3) := by decide +kernel
theorem dX0_takes_62 : decode cX0_takes 62 = .ok (.iload_n 2, 1) := by decide +kernel
theorem dX0_takes_63 : decode cX0_takes 63 = .ok (.invokestatic 41, 3) := by decide +kernel
theorem dX0_takes_66 : decode cX0_takes 66 = .ok (.ifCond .eq 7, 3) := by decide +kernel
theorem dX0_takes_69 : decode cX0_takes 69 = .ok (.iconst 1, 1) := by decide +kernel
theorem dX0_takes_70 : decode cX0_takes 70 = .ok (.goto 4, 3) := by decide +kernel
theorem dX0_takes_73 : decode cX0_takes 73 = .ok (.iconst 0, 1) := by decide +kernel
theorem dX0_takes_74 : decode cX0_takes 74 = .ok (.ireturn, 1) := by decide +kernel
theorem dX0_takes_75 : decode cX0_takes 75 = .ok (.iload_n 1, 1) := by decide +kernel
theorem dX0_takes_76 : decode cX0_takes 76 = .ok (.bipush 96, 2) := by decide +kernel
theorem dX0_takes_78 : decode cX0_takes 78 = .ok (.if_icmp .le 24, 3) := by decide +kernel
theorem dX0_takes_81 : decode cX0_takes 81 = .ok (.iload_n 1, 1) := by decide +kernel
theorem dX0_takes_82 : decode cX0_takes 82 = .ok (.bipush 122, 2) := by decide +kernel
theorem dX0_takes_84 : decode cX0_takes 84 = .ok (.if_icmp .gt 18, 3) := by decide +kernel
theorem dX0_takes_87 : decode cX0_takes 87 = .ok (.aload_n 0, 1) := by decide +kernel
theorem dX0_takes_88 : decode cX0_takes 88 = .ok (.iload_n 1, 1) := by decide +kernel
theorem dX0_takes_89 : decode cX0_takes 89 = .ok (.bipush 96, 2) := by decide +kernel
theorem dX0_takes_91 : decode cX0_takes 91 = .ok (.isub, 1) := by decide +kernel
theorem dX0_takes_92 : decode cX0_takes 92 = .ok (.invokevirtual 51, 3) := by decide +kernel
theorem dX0_takes_95 : decode cX0_takes 95 = .ok (.ifCond .eq 7, 3) := by decide +kernel
theorem dX0_takes_98 : decode cX0_takes 98 = .ok (.iconst 1, 1) := by decide +kernel
theorem dX0_takes_99 : decode cX0_takes 99 = .ok (.goto 4, 3) := by decide +kernel
theorem dX0_takes_102 : decode cX0_takes 102 = .ok (.iconst 0, 1) := by decide +kernel
theorem dX0_takes_103 : decode cX0_takes 103 = .ok (.ireturn, 1) := by decide +kernel
theorem dX0_beginsNumber_0 : decode cX0_beginsNumber 0 = .ok (.iload_n 1, 1) := by decide +kernel
theorem dX0_beginsNumber_1 : decode cX0_beginsNumber 1 = .ok (.ifCond .eq 22, 3) := by decide +kernel
theorem dX0_beginsNumber_4 : decode cX0_beginsNumber 4 = .ok (.aload_n 0, 1) := by decide +kernel
theorem dX0_beginsNumber_5 : decode cX0_beginsNumber 5 = .ok (.getfield 21, 3) := by decide +kernel
theorem dX0_beginsNumber_8 : decode cX0_beginsNumber 8 = .ok (.ifCond .lt 15, 3) := by decide +kernel
theorem dX0_beginsNumber_11 : decode cX0_beginsNumber 11 = .ok (.aload_n 0, 1) := by decide +kernel
theorem dX0_beginsNumber_12 : decode cX0_beginsNumber 12 = .ok (.getfield 21, 3) := by decide +kernel
theorem dX0_beginsNumber_15 : decode cX0_beginsNumber 15 = .ok (.aload_n 0, 1) := by decide +kernel
theorem dX0_beginsNumber_16 : decode cX0_beginsNumber 16 = .ok (.getfield 15, 3) := by decide +kernel
theorem dX0_beginsNumber_19 : decode cX0_beginsNumber 19 = .ok (.arraylength, 1) := by decide +kernel
theorem dX0_beginsNumber_20 : decode cX0_beginsNumber 20 = .ok (.if_icmp .lt 5, 3) := by decide +kernel
theorem dX0_beginsNumber_23 : decode cX0_beginsNumber 23 = .ok (.iconst 0, 1) := by decide +kernel
theorem dX0_beginsNumber_24 : decode cX0_beginsNumber 24 = .ok (.ireturn, 1) := by decide +kernel
theorem dX0_beginsNumber_25 : decode cX0_beginsNumber 25 = .ok (.aload_n 0, 1) := by decide +kernel
theorem dX0_beginsNumber_26 : decode cX0_beginsNumber 26 = .ok (.getfield 15, 3) := by decide +kernel
theorem dX0_beginsNumber_29 : decode cX0_beginsNumber 29 = .ok (.aload_n 0, 1) := by decide +kernel
theorem dX0_beginsNumber_30 : decode cX0_beginsNumber 30 = .ok (.getfield 21, 3) := by decide +kernel
theorem dX0_beginsNumber_33 : decode cX0_beginsNumber 33 = .ok (.iload_n 1, 1) := by decide +kernel
theorem dX0_beginsNumber_34 : decode cX0_beginsNumber 34 = .ok (.iastore, 1) := by decide +kernel
theorem dX0_beginsNumber_35 : decode cX0_beginsNumber 35 = .ok (.aload_n 0, 1) := by decide +kernel
theorem dX0_beginsNumber_36 : decode cX0_beginsNumber 36 = .ok (.dup, 1) := by decide +kernel
theorem dX0_beginsNumber_37 : decode cX0_beginsNumber 37 = .ok (.getfield 21, 3) := by decide +kernel
theorem dX0_beginsNumber_40 : decode cX0_beginsNumber 40 = .ok (.iconst 1, 1) := by decide +kernel
theorem dX0_beginsNumber_41 : decode cX0_beginsNumber 41 = .ok (.iadd, 1) := by decide +kernel
theorem dX0_beginsNumber_42 : decode cX0_beginsNumber 42 = .ok (.putfield 21, 3) := by decide +kernel
theorem dX0_beginsNumber_45 : decode cX0_beginsNumber 45 = .ok (.aload_n 0, 1) := by decide +kernel
theorem dX0_beginsNumber_46 : decode cX0_beginsNumber 46 = .ok (.iconst 1, 1) := by decide +kernel
theorem dX0_beginsNumber_47 : decode cX0_beginsNumber 47 = .ok (.putfield 24, 3) := by decide +kernel
theorem dX0_beginsNumber_50 : decode cX0_beginsNumber 50 = .ok (.iconst 1, 1) := by decide +kernel
theorem dX0_beginsNumber_51 : decode cX0_beginsNumber 51 = .ok (.ireturn, 1) := by decide +kernel
theorem dX0_endsNumber_0 : decode cX0_endsNumber 0 = .ok (.aload_n 0, 1) := by decide +kernel
theorem dX0_endsNumber_1 : decode cX0_endsNumber 1 = .ok (.getfield 21, 3) := by decide +kernel
theorem dX0_endsNumber_4 : decode cX0_endsNumber 4 = .ok (.iconst 1, 1) := by decide +kernel
theorem dX0_endsNumber_5 : decode cX0_endsNumber 5 = .ok (.isub, 1) := by decide +kernel
theorem dX0_endsNumber_6 : decode cX0_endsNumber 6 = .ok (.istore_n 2, 1) := by decide +kernel
theorem dX0_endsNumber_7 : decode cX0_endsNumber 7 = .ok (.aload_n 0, 1) := by decide +kernel
theorem dX0_endsNumber_8 : decode cX0_endsNumber 8 = .ok (.getfield 24, 3) := by decide +kernel
theorem dX0_endsNumber_11 : decode cX0_endsNumber 11 = .ok (.iconst 1, 1) := by decide +kernel
theorem dX0_endsNumber_12 : decode cX0_endsNumber 12 = .ok (.if_icmp .ne 16, 3) := by decide +kernel
theorem dX0_endsNumber_15 : decode cX0_endsNumber 15 = .ok (.iload_n 2, 1) := by decide +kernel
theorem dX0_endsNumber_16 : decode cX0_endsNumber 16 = .ok (.ifCond .lt 12, 3) := by decide +kernel
theorem dX0_endsNumber_19 : decode cX0_endsNumber 19 = .ok (.iload_n 2, 1) := by decide +kernel
theorem dX0_endsNumber_20 : decode cX0_endsNumber 20 = .ok (.aload_n 0, 1) := by decide +kernel
theorem dX0_endsNumber_21 : decode cX0_endsNumber 21 = .ok (.getfield 15, 3) := by decide +kernel
theorem dX0_endsNumber_24 : decode cX0_endsNumber 24 = .ok (.arraylength, 1) := by decide +kernel
theorem dX0_endsNumber_25 : decode cX0_endsNumber 25 = .ok (.if_icmp .lt 5, 3) := by decide +kernel
theorem dX0_endsNumber_28 : decode cX0_endsNumber 28 = .ok (.iconst 0, 1) := by decide +kernel
theorem dX0_endsNumber_29 : decode cX0_endsNumber 29 = .ok (.ireturn, 1) := by decide +kernel
theorem dX0_endsNumber_30 : decode cX0_endsNumber 30 = .ok (.aload_n 0, 1) := by decide +kernel
theorem dX0_endsNumber_31 : decode cX0_endsNumber 31 = .ok (.getfield 15, 3) := by decide +kernel
theorem dX0_endsNumber_34 : decode cX0_endsNumber 34 = .ok (.iload_n 2, 1) := by decide +kernel
theorem dX0_endsNumber_35 : decode cX0_endsNumber 35 = .ok (.bipush 10, 2) := by decide +kernel
theorem dX0_endsNumber_37 : decode cX0_endsNumber 37 = .ok (.aload_n 0, 1) := by decide +kernel
theorem dX0_endsNumber_38 : decode cX0_endsNumber 38 = .ok (.getfield 15, 3) := by decide +kernel
theorem dX0_endsNumber_41 : decode cX0_endsNumber 41 = .ok (.iload_n 2, 1) := by decide +kernel
theorem dX0_endsNumber_42 : decode cX0_endsNumber 42 = .ok (.iaload, 1) := by decide +kernel
theorem dX0_endsNumber_43 : decode cX0_endsNumber 43 = .ok (.imul, 1) := by decide +kernel
theorem dX0_endsNumber_44 : decode cX0_endsNumber 44 = .ok (.iload_n 1, 1) := by decide +kernel
theorem dX0_endsNumber_45 : decode cX0_endsNumber 45 = .ok (.iadd, 1) := by decide +kernel
theorem dX0_endsNumber_46 : decode cX0_endsNumber 46 = .ok (.iastore, 1) := by decide +kernel
theorem dX0_endsNumber_47 : decode cX0_endsNumber 47 = .ok (.aload_n 0, 1) := by decide +kernel
theorem dX0_endsNumber_48 : decode cX0_endsNumber 48 = .ok (.iconst 2, 1) := by decide +kernel
theorem dX0_endsNumber_49 : decode cX0_endsNumber 49 = .ok (.putfield 24, 3) := by decide +kernel
theorem dX0_endsNumber_52 : decode cX0_endsNumber 52 = .ok (.iconst 1, 1) := by decide +kernel
theorem dX0_endsNumber_53 : decode cX0_endsNumber 53 = .ok (.ireturn, 1) := by decide +kernel
theorem dX0_leavesEmpty_0 : decode cX0_leavesEmpty 0 = .ok (.aload_n 0, 1) := by decide +kernel
theorem dX0_leavesEmpty_1 : decode cX0_leavesEmpty 1 = .ok (.getfield 21, 3) := by decide +kernel
theorem dX0_leavesEmpty_4 : decode cX0_leavesEmpty 4 = .ok (.ifCond .lt 17, 3) := by decide +kernel
theorem dX0_leavesEmpty_7 : decode cX0_leavesEmpty 7 = .ok (.iload_n 1, 1) := by decide +kernel
theorem dX0_leavesEmpty_8 : decode cX0_leavesEmpty 8 = .ok (.aload_n 0, 1) := by decide +kernel
theorem dX0_leavesEmpty_9 : decode cX0_leavesEmpty 9 = .ok (.getfield 15, 3) := by decide +kernel
theorem dX0_leavesEmpty_12 : decode cX0_leavesEmpty 12 = .ok (.arraylength, 1) := by decide +kernel
theorem dX0_leavesEmpty_13 : decode cX0_leavesEmpty 13 = .ok (.aload_n 0, 1) := by decide +kernel
theorem dX0_leavesEmpty_14 : decode cX0_leavesEmpty 14 = .ok (.getfield 21, 3) := by decide +kernel
theorem dX0_leavesEmpty_17 : decode cX0_leavesEmpty 17 = .ok (.isub, 1) := by decide +kernel
theorem dX0_leavesEmpty_18 : decode cX0_leavesEmpty 18 = .ok (.if_icmp .le 5, 3) := by decide +kernel
theorem dX0_leavesEmpty_21 : decode cX0_leavesEmpty 21 = .ok (.iconst 0, 1) := by decide +kernel
theorem dX0_leavesEmpty_22 : decode cX0_leavesEmpty 22 = .ok (.ireturn, 1) := by decide +kernel
theorem dX0_leavesEmpty_23 : decode cX0_leavesEmpty 23 = .ok (.iconst 0, 1) := by decide +kernel
theorem dX0_leavesEmpty_24 : decode cX0_leavesEmpty 24 = .ok (.istore_n 2, 1) := by decide +kernel
theorem dX0_leavesEmpty_25 : decode cX0_leavesEmpty 25 = .ok (.iload_n 2, 1) := by decide +kernel
theorem dX0_leavesEmpty_26 : decode cX0_leavesEmpty 26 = .ok (.iload_n 1, 1) := by decide +kernel
theorem dX0_leavesEmpty_27 : decode cX0_leavesEmpty 27 = .ok (.if_icmp .ge 29, 3) := by decide +kernel
theorem dX0_leavesEmpty_30 : decode cX0_leavesEmpty 30 = .ok (.aload_n 0, 1) := by decide +kernel
theorem dX0_leavesEmpty_31 : decode cX0_leavesEmpty 31 = .ok (.getfield 15, 3) := by decide +kernel
theorem dX0_leavesEmpty_34 : decode cX0_leavesEmpty 34 = .ok (.aload_n 0, 1) := by decide +kernel
theorem dX0_leavesEmpty_35 : decode cX0_leavesEmpty 35 = .ok (.getfield 21, 3) := by decide +kernel
theorem dX0_leavesEmpty_38 : decode cX0_leavesEmpty 38 = .ok (.iconst 0, 1) := by decide +kernel
theorem dX0_leavesEmpty_39 : decode cX0_leavesEmpty 39 = .ok (.iastore, 1) := by decide +kernel
theorem dX0_leavesEmpty_40 : decode cX0_leavesEmpty 40 = .ok (.aload_n 0, 1) := by decide +kernel
theorem dX0_leavesEmpty_41 : decode cX0_leavesEmpty 41 = .ok (.dup, 1) := by decide +kernel
theorem dX0_leavesEmpty_42 : decode cX0_leavesEmpty 42 = .ok (.getfield 21, 3) := by decide +kernel
theorem dX0_leavesEmpty_45 : decode cX0_leavesEmpty 45 = .ok (.iconst 1, 1) := by decide +kernel
theorem dX0_leavesEmpty_46 : decode cX0_leavesEmpty 46 = .ok (.iadd, 1) := by decide +kernel
theorem dX0_leavesEmpty_47 : decode cX0_leavesEmpty 47 = .ok (.putfield 21, 3) := by decide +kernel
theorem dX0_leavesEmpty_50 : decode cX0_leavesEmpty 50 = .ok (.iinc 2 1, 3) := by decide +kernel
theorem dX0_leavesEmpty_53 : decode cX0_leavesEmpty 53 = .ok (.goto (-28), 3) := by decide +kernel
theorem dX0_leavesEmpty_56 : decode cX0_leavesEmpty 56 = .ok (.iconst 1, 1) := by decide +kernel
theorem dX0_leavesEmpty_57 : decode cX0_leavesEmpty 57 = .ok (.ireturn, 1) := by decide +kernel
theorem dX1_init_0 : decode cX1_init 0 = .ok (.aload_n 0, 1) := by decide +kernel
theorem dX1_init_1 : decode cX1_init 1 = .ok (.invokespecial 3, 3) := by decide +kernel
theorem dX1_init_4 : decode cX1_init 4 = .ok (.aload_n 0, 1) := by decide +kernel
theorem dX1_init_5 : decode cX1_init 5 = .ok (.iload_n 1, 1) := by decide +kernel
theorem dX1_init_6 : decode cX1_init 6 = .ok (.iconst 0, 1) := by decide +kernel
theorem dX1_init_7 : decode cX1_init 7 = .ok (.iconst 4, 1) := by decide +kernel
theorem dX1_init_8 : decode cX1_init 8 = .ok (.invokestatic 9, 3) := by decide +kernel
theorem dX1_init_11 : decode cX1_init 11 = .ok (.putfield 13, 3) := by decide +kernel
theorem dX1_init_14 : decode cX1_init 14 = .ok (.aload_n 0, 1) := by decide +kernel
theorem dX1_init_15 : decode cX1_init 15 = .ok (.iload_n 2, 1) := by decide +kernel
theorem dX1_init_16 : decode cX1_init 16 = .ok (.iconst 1, 1) := by decide +kernel
theorem dX1_init_17 : decode cX1_init 17 = .ok (.bipush 16, 2) := by decide +kernel
theorem dX1_init_19 : decode cX1_init 19 = .ok (.invokestatic 9, 3) := by decide +kernel
theorem dX1_init_22 : decode cX1_init 22 = .ok (.putfield 19, 3) := by decide +kernel
theorem dX1_init_25 : decode cX1_init 25 = .ok (.aload_n 0, 1) := by decide +kernel
theorem dX1_init_26 : decode cX1_init 26 = .ok (.aload_n 0, 1) := by decide +kernel
theorem dX1_init_27 : decode cX1_init 27 = .ok (.getfield 13, 3) := by decide +kernel
theorem dX1_init_30 : decode cX1_init 30 = .ok (.iconst 4, 1) := by decide +kernel
theorem dX1_init_31 : decode cX1_init 31 = .ok (.if_icmp .ne 7, 3) := by decide +kernel
theorem dX1_init_34 : decode cX1_init 34 = .ok (.iconst 1, 1) := by decide +kernel
theorem dX1_init_35 : decode cX1_init 35 = .ok (.goto 10, 3) := by decide +kernel
theorem dX1_init_38 : decode cX1_init 38 = .ok (.iload_n 3, 1) := by decide +kernel
theorem dX1_init_39 : decode cX1_init 39 = .ok (.iconst 1, 1) := by decide +kernel
theorem dX1_init_40 : decode cX1_init 40 = .ok (.bipush 16, 2) := by decide +kernel
theorem dX1_init_42 : decode cX1_init 42 = .ok (.invokestatic 9, 3) := by decide +kernel
theorem dX1_init_45 : decode cX1_init 45 = .ok (.putfield 22, 3) := by decide +kernel
theorem dX1_init_48 : decode cX1_init 48 = .ok (.aload_n 0, 1) := by decide +kernel
theorem dX1_init_49 : decode cX1_init 49 = .ok (.aload_n 0, 1) := by decide +kernel
theorem dX1_init_50 : decode cX1_init 50 = .ok (.getfield 19, 3) := by decide +kernel
theorem dX1_init_53 : decode cX1_init 53 = .ok (.aload_n 0, 1) := by decide +kernel
theorem dX1_init_54 : decode cX1_init 54 = .ok (.getfield 22, 3) := by decide +kernel
theorem dX1_init_57 : decode cX1_init 57 = .ok (.imul, 1) := by decide +kernel
theorem dX1_init_58 : decode cX1_init 58 = .ok (.putfield 25, 3) := by decide +kernel
theorem dX1_init_61 : decode cX1_init 61 = .ok (.aload_n 0, 1) := by decide +kernel
theorem dX1_init_62 : decode cX1_init 62 = .ok (.aload_n 0, 1) := by decide +kernel
theorem dX1_init_63 : decode cX1_init 63 = .ok (.getfield 25, 3) := by decide +kernel
theorem dX1_init_66 : decode cX1_init 66 = .ok (.newarray .int, 2) := by decide +kernel
theorem dX1_init_68 : decode cX1_init 68 = .ok (.putfield 28, 3) := by decide +kernel
theorem dX1_init_71 : decode cX1_init 71 = .ok (.aload_n 0, 1) := by decide +kernel
theorem dX1_init_72 : decode cX1_init 72 = .ok (.aload_n 0, 1) := by decide +kernel
theorem dX1_init_73 : decode cX1_init 73 = .ok (.getfield 25, 3) := by decide +kernel
theorem dX1_init_76 : decode cX1_init 76 = .ok (.newarray .int, 2) := by decide +kernel
theorem dX1_init_78 : decode cX1_init 78 = .ok (.putfield 32, 3) := by decide +kernel
theorem dX1_init_81 : decode cX1_init 81 = .ok (.iconst 0, 1) := by decide +kernel
theorem dX1_init_82 : decode cX1_init 82 = .ok (.istore 4, 2) := by decide +kernel
theorem dX1_init_84 : decode cX1_init 84 = .ok (.iload 4, 2) := by decide +kernel
theorem dX1_init_86 : decode cX1_init 86 = .ok (.aload_n 0, 1) := by decide +kernel
theorem dX1_init_87 : decode cX1_init 87 = .ok (.getfield 22, 3) := by decide +kernel
theorem dX1_init_90 : decode cX1_init 90 = .ok (.if_icmp .ge 61, 3) := by decide +kernel
theorem dX1_init_93 : decode cX1_init 93 = .ok (.iconst 0, 1) := by decide +kernel
theorem dX1_init_94 : decode cX1_init 94 = .ok (.istore 5, 2) := by decide +kernel
theorem dX1_init_96 : decode cX1_init 96 = .ok (.iload 5, 2) := by decide +kernel
theorem dX1_init_98 : decode cX1_init 98 = .ok (.aload_n 0, 1) := by decide +kernel
theorem dX1_init_99 : decode cX1_init 99 = .ok (.getfield 19, 3) := by decide +kernel
theorem dX1_init_102 : decode cX1_init 102 = .ok (.if_icmp .ge 43, 3) := by decide +kernel
theorem dX1_init_105 : decode cX1_init 105 = .ok (.aload_n 0, 1) := by decide +kernel
theorem dX1_init_106 : decode cX1_init 106 = .ok (.getfield 28, 3) := by decide +kernel
theorem dX1_init_109 : decode cX1_init 109 = .ok (.aload_n 0, 1) := by decide +kernel
theorem dX1_init_110 : decode cX1_init 110 = .ok (.getfield 19, 3) := by decide +kernel
theorem dX1_init_113 : decode cX1_init 113 = .ok (.iload 4, 2) := by decide +kernel
theorem dX1_init_115 : decode cX1_init 115 = .ok (.imul, 1) := by decide +kernel
theorem dX1_init_116 : decode cX1_init 116 = .ok (.iload 5, 2) := by decide +kernel
theorem dX1_init_118 : decode cX1_init 118 = .ok (.iadd, 1) := by decide +kernel
theorem dX1_init_119 : decode cX1_init 119 = .ok (.iload 5, 2) := by decide +kernel
theorem dX1_init_121 : decode cX1_init 121 = .ok (.iastore, 1) := by decide +kernel
theorem dX1_init_122 : decode cX1_init 122 = .ok (.aload_n 0, 1) := by decide +kernel
theorem dX1_init_123 : decode cX1_init 123 = .ok (.getfield 32, 3) := by decide +kernel
theorem dX1_init_126 : decode cX1_init 126 = .ok (.aload_n 0, 1) := by decide +kernel
theorem dX1_init_127 : decode cX1_init 127 = .ok (.getfield 19, 3) := by decide +kernel
theorem dX1_init_130 : decode cX1_init 130 = .ok (.iload 4, 2) := by decide +kernel
theorem dX1_init_132 : decode cX1_init 132 = .ok (.imul, 1) := by decide +kernel
theorem dX1_init_133 : decode cX1_init 133 = .ok (.iload 5, 2) := by decide +kernel
theorem dX1_init_135 : decode cX1_init 135 = .ok (.iadd, 1) := by decide +kernel
theorem dX1_init_136 : decode cX1_init 136 = .ok (.iload 4, 2) := by decide +kernel
theorem dX1_init_138 : decode cX1_init 138 = .ok (.iastore, 1) := by decide +kernel
theorem dX1_init_139 : decode cX1_init 139 = .ok (.iinc 5 1, 3) := by decide +kernel
theorem dX1_init_142 : decode cX1_init 142 = .ok (.goto (-46), 3) := by decide +kernel
theorem dX1_init_145 : decode cX1_init 145 = .ok (.iinc 4 1, 3) := by decide +kernel
theorem dX1_init_148 : decode cX1_init 148 = .ok (.goto (-64), 3) := by decide +kernel
theorem dX1_init_151 : decode cX1_init 151 = .ok (.return_, 1) := by decide +kernel
theorem dX1_has_0 : decode cX1_has 0 = .ok (.iload_n 1, 1) := by decide +kernel
theorem dX1_has_1 : decode cX1_has 1 = .ok (.ifCond .lt 15, 3) := by decide +kernel
theorem dX1_has_4 : decode cX1_has 4 = .ok (.iload_n 1, 1) := by decide +kernel
theorem dX1_has_5 : decode cX1_has 5 = .ok (.aload_n 0, 1) := by decide +kernel
theorem dX1_has_6 : decode cX1_has 6 = .ok (.getfield 25, 3) := by decide +kernel
theorem dX1_has_9 : decode cX1_has 9 = .ok (.if_icmp .ge 7, 3) := by decide +kernel
theorem dX1_has_12 : decode cX1_has 12 = .ok (.iconst 1, 1) := by decide +kernel
theorem dX1_has_13 : decode cX1_has 13 = .ok (.goto 4, 3) := by decide +kernel
theorem dX1_has_16 : decode cX1_has 16 = .ok (.iconst 0, 1) := by decide +kernel
theorem dX1_has_17 : decode cX1_has 17 = .ok (.ireturn, 1) := by decide +kernel
theorem dX1_columnOf_0 : decode cX1_columnOf 0 = .ok (.aload_n 0, 1) := by decide +kernel
theorem dX1_columnOf_1 : decode cX1_columnOf 1 = .ok (.iload_n 1, 1) := by decide +kernel
theorem dX1_columnOf_2 : decode cX1_columnOf 2 = .ok (.invokevirtual 35, 3) := by decide +kernel
theorem dX1_columnOf_5 : decode cX1_columnOf 5 = .ok (.ifCond .eq 12, 3) := by decide +kernel
theorem dX1_columnOf_8 : decode cX1_columnOf 8 = .ok (.aload_n 0, 1) := by decide +kernel
theorem dX1_columnOf_9 : decode cX1_columnOf 9 = .ok (.getfield 28, 3) := by decide +kernel
theorem dX1_columnOf_12 : decode cX1_columnOf 12 = .ok (.iload_n 1, 1) := by decide +kernel
theorem dX1_columnOf_13 : decode cX1_columnOf 13 = .ok (.iaload, 1) := by decide +kernel
theorem dX1_columnOf_14 : decode cX1_columnOf 14 = .ok (.goto 4, 3) := by decide +kernel
theorem dX1_columnOf_17 : decode cX1_columnOf 17 = .ok (.iconst (-1), 1) := by decide +kernel
theorem dX1_columnOf_18 : decode cX1_columnOf 18 = .ok (.ireturn, 1) := by decide +kernel
theorem dX1_rowOf_0 : decode cX1_rowOf 0 = .ok (.aload_n 0, 1) := by decide +kernel
theorem dX1_rowOf_1 : decode cX1_rowOf 1 = .ok (.iload_n 1, 1) := by decide +kernel
theorem dX1_rowOf_2 : decode cX1_rowOf 2 = .ok (.invokevirtual 35, 3) := by decide +kernel
theorem dX1_rowOf_5 : decode cX1_rowOf 5 = .ok (.ifCond .eq 12, 3) := by decide +kernel
theorem dX1_rowOf_8 : decode cX1_rowOf 8 = .ok (.aload_n 0, 1) := by decide +kernel
theorem dX1_rowOf_9 : decode cX1_rowOf 9 = .ok (.getfield 32, 3) := by decide +kernel
theorem dX1_rowOf_12 : decode cX1_rowOf 12 = .ok (.iload_n 1, 1) := by decide +kernel
theorem dX1_rowOf_13 : decode cX1_rowOf 13 = .ok (.iaload, 1) := by decide +kernel
theorem dX1_rowOf_14 : decode cX1_rowOf 14 = .ok (.goto 4, 3) := by decide +kernel
theorem dX1_rowOf_17 : decode cX1_rowOf 17 = .ok (.iconst (-1), 1) := by decide +kernel
theorem dX1_rowOf_18 : decode cX1_rowOf 18 = .ok (.ireturn, 1) := by decide +kernel
theorem dX1_placeAt_0 : decode cX1_placeAt 0 = .ok (.iload_n 1, 1) := by decide +kernel
theorem dX1_placeAt_1 : decode cX1_placeAt 1 = .ok (.ifCond .lt 27, 3) := by decide +kernel
theorem dX1_placeAt_4 : decode cX1_placeAt 4 = .ok (.iload_n 1, 1) := by decide +kernel
theorem dX1_placeAt_5 : decode cX1_placeAt 5 = .ok (.aload_n 0, 1) := by decide +kernel
theorem dX1_placeAt_6 : decode cX1_placeAt 6 = .ok (.getfield 19, 3) := by decide +kernel
theorem dX1_placeAt_9 : decode cX1_placeAt 9 = .ok (.if_icmp .ge 19, 3) := by decide +kernel
theorem dX1_placeAt_12 : decode cX1_placeAt 12 = .ok (.iload_n 2, 1) := by decide +kernel
theorem dX1_placeAt_13 : decode cX1_placeAt 13 = .ok (.ifCond .lt 15, 3) := by decide +kernel
theorem dX1_placeAt_16 : decode cX1_placeAt 16 = .ok (.iload_n 2, 1) := by decide +kernel
theorem dX1_placeAt_17 : decode cX1_placeAt 17 = .ok (.aload_n 0, 1) := by decide +kernel
theorem dX1_placeAt_18 : decode cX1_placeAt 18 = .ok (.getfield 22, 3) := by decide +kernel
theorem dX1_placeAt_21 : decode cX1_placeAt 21 = .ok (.if_icmp .ge 7, 3) := by decide +kernel
theorem dX1_placeAt_24 : decode cX1_placeAt 24 = .ok (.iconst 1, 1) := by decide +kernel
theorem dX1_placeAt_25 : decode cX1_placeAt 25 = .ok (.goto 4, 3) := by decide +kernel
theorem dX1_placeAt_28 : decode cX1_placeAt 28 = .ok (.iconst 0, 1) := by decide +kernel
theorem dX1_placeAt_29 : decode cX1_placeAt 29 = .ok (.istore_n 3, 1) := by decide +kernel
theorem dX1_placeAt_30 : decode cX1_placeAt 30 = .ok (.iload_n 3, 1) := by decide +kernel
theorem dX1_placeAt_31 : decode cX1_placeAt 31 = .ok (.ifCond .eq 14, 3) := by decide +kernel
theorem dX1_placeAt_34 : decode cX1_placeAt 34 = .ok (.aload_n 0, 1) := by decide +kernel
theorem dX1_placeAt_35 : decode cX1_placeAt 35 = .ok (.getfield 19, 3) := by decide +kernel
theorem dX1_placeAt_38 : decode cX1_placeAt 38 = .ok (.iload_n 2, 1) := by decide +kernel
theorem dX1_placeAt_39 : decode cX1_placeAt 39 = .ok (.imul, 1) := by decide +kernel
theorem dX1_placeAt_40 : decode cX1_placeAt 40 = .ok (.iload_n 1, 1) := by decide +kernel
theorem dX1_placeAt_41 : decode cX1_placeAt 41 = .ok (.iadd, 1) := by decide +kernel
theorem dX1_placeAt_42 : decode cX1_placeAt 42 = .ok (.goto 4, 3) := by decide +kernel
theorem dX1_placeAt_45 : decode cX1_placeAt 45 = .ok (.iconst (-1), 1) := by decide +kernel
theorem dX1_placeAt_46 : decode cX1_placeAt 46 = .ok (.ireturn, 1) := by decide +kernel
theorem dX1_slots_0 : decode cX1_slots 0 = .ok (.aload_n 0, 1) := by decide +kernel
theorem dX1_slots_1 : decode cX1_slots 1 = .ok (.getfield 13, 3) := by decide +kernel
theorem dX1_slots_4 : decode cX1_slots 4 = .ok (.tableswitch 42 1 4 #[32, 35, 42, 37], 32) := by decide +kernel
theorem dX1_slots_36 : decode cX1_slots 36 = .ok (.bipush 6, 2) := by decide +kernel
theorem dX1_slots_38 : decode cX1_slots 38 = .ok (.ireturn, 1) := by decide +kernel
theorem dX1_slots_39 : decode cX1_slots 39 = .ok (.iconst 3, 1) := by decide +kernel
theorem dX1_slots_40 : decode cX1_slots 40 = .ok (.ireturn, 1) := by decide +kernel
theorem dX1_slots_41 : decode cX1_slots 41 = .ok (.aload_n 0, 1) := by decide +kernel
theorem dX1_slots_42 : decode cX1_slots 42 = .ok (.getfield 25, 3) := by decide +kernel
theorem dX1_slots_45 : decode cX1_slots 45 = .ok (.ireturn, 1) := by decide +kernel
theorem dX1_slots_46 : decode cX1_slots 46 = .ok (.iconst 4, 1) := by decide +kernel
theorem dX1_slots_47 : decode cX1_slots 47 = .ok (.ireturn, 1) := by decide +kernel
theorem dX1_directions_0 : decode cX1_directions 0 = .ok (.aload_n 0, 1) := by decide +kernel
theorem dX1_directions_1 : decode cX1_directions 1 = .ok (.getfield 13, 3) := by decide +kernel
theorem dX1_directions_4 : decode cX1_directions 4 = .ok (.tableswitch 39 1 4 #[32, 35, 39, 37], 32) := by decide +kernel
theorem dX1_directions_36 : decode cX1_directions 36 = .ok (.bipush 6, 2) := by decide +kernel
theorem dX1_directions_38 : decode cX1_directions 38 = .ok (.ireturn, 1) := by decide +kernel
theorem dX1_directions_39 : decode cX1_directions 39 = .ok (.iconst 2, 1) := by decide +kernel
theorem dX1_directions_40 : decode cX1_directions 40 = .ok (.ireturn, 1) := by decide +kernel
theorem dX1_directions_41 : decode cX1_directions 41 = .ok (.iconst 0, 1) := by decide +kernel
theorem dX1_directions_42 : decode cX1_directions 42 = .ok (.ireturn, 1) := by decide +kernel
theorem dX1_directions_43 : decode cX1_directions 43 = .ok (.iconst 4, 1) := by decide +kernel
theorem dX1_directions_44 : decode cX1_directions 44 = .ok (.ireturn, 1) := by decide +kernel
theorem dX1_firstBeside_0 : decode cX1_firstBeside 0 = .ok (.aload_n 0, 1) := by decide +kernel
theorem dX1_firstBeside_1 : decode cX1_firstBeside 1 = .ok (.iload_n 1, 1) := by decide +kernel
theorem dX1_firstBeside_2 : decode cX1_firstBeside 2 = .ok (.invokevirtual 39, 3) := by decide +kernel
theorem dX1_firstBeside_5 : decode cX1_firstBeside 5 = .ok (.istore_n 3, 1) := by decide +kernel
theorem dX1_firstBeside_6 : decode cX1_firstBeside 6 = .ok (.aload_n 0, 1) := by decide +kernel
theorem dX1_firstBeside_7 : decode cX1_firstBeside 7 = .ok (.iload_n 1, 1) := by decide +kernel
theorem dX1_firstBeside_8 : decode cX1_firstBeside 8 = .ok (.invokevirtual 43, 3) := by decide +kernel
theorem dX1_firstBeside_11 : decode cX1_firstBeside 11 = .ok (.istore 4, 2) := by decide +kernel
theorem dX1_firstBeside_13 : decode cX1_firstBeside 13 = .ok (.aload_n 0, 1) := by decide +kernel
theorem dX1_firstBeside_14 : decode cX1_firstBeside 14 = .ok (.getfield 13, 3) := by decide +kernel
theorem dX1_firstBeside_17 : decode cX1_firstBeside 17 = .ok (.tableswitch 67 0 3 #[31, 40, 49, 58], 31) := by decide +kernel
theorem dX1_firstBeside_48 : decode cX1_firstBeside 48 = .ok (.aload_n 0, 1) := by decide +kernel
theorem dX1_firstBeside_49 : decode cX1_firstBeside 49 = .ok (.iload_n 3, 1) := by decide +kernel
theorem dX1_firstBeside_50 : decode cX1_firstBeside 50 = .ok (.iload 4, 2) := by decide +kernel
theorem dX1_firstBeside_52 : decode cX1_firstBeside 52 = .ok (.iload_n 2, 1) := by decide +kernel
theorem dX1_firstBeside_53 : decode cX1_firstBeside 53 = .ok (.invokevirtual 46, 3) := by decide +kernel
theorem dX1_firstBeside_56 : decode cX1_firstBeside 56 = .ok (.ireturn, 1) := by decide +kernel
theorem dX1_firstBeside_57 : decode cX1_firstBeside 57 = .ok (.aload_n 0, 1) := by decide +kernel
theorem dX1_firstBeside_58 : decode cX1_firstBeside 58 = .ok (.iload_n 3, 1) := by decide +kernel
theorem dX1_firstBeside_59 : decode cX1_firstBeside 59 = .ok (.iload 4, 2) := by decide +kernel
theorem dX1_firstBeside_61 : decode cX1_firstBeside 61 = .ok (.iload_n 2, 1) := by decide +kernel
theorem dX1_firstBeside_62 : decode cX1_firstBeside 62 = .ok (.invokevirtual 49, 3) := by decide +kernel
theorem dX1_firstBeside_65 : decode cX1_firstBeside 65 = .ok (.ireturn, 1) := by decide +kernel
theorem dX1_firstBeside_66 : decode cX1_firstBeside 66 = .ok (.aload_n 0, 1) := by decide +kernel
theorem dX1_firstBeside_67 : decode cX1_firstBeside 67 = .ok (.iload_n 3, 1) := by decide +kernel
theorem dX1_firstBeside_68 : decode cX1_firstBeside 68 = .ok (.iload 4, 2) := by decide +kernel
theorem dX1_firstBeside_70 : decode cX1_firstBeside 70 = .ok (.iload_n 2, 1) := by decide +kernel
theorem dX1_firstBeside_71 : decode cX1_firstBeside 71 = .ok (.invokevirtual 52, 3) := by decide +kernel
theorem dX1_firstBeside_74 : decode cX1_firstBeside 74 = .ok (.ireturn, 1) := by decide +kernel
theorem dX1_firstBeside_75 : decode cX1_firstBeside 75 = .ok (.aload_n 0, 1) := by decide +kernel
theorem dX1_firstBeside_76 : decode cX1_firstBeside 76 = .ok (.iload_n 3, 1) := by decide +kernel
theorem dX1_firstBeside_77 : decode cX1_firstBeside 77 = .ok (.iload 4, 2) := by decide +kernel
theorem dX1_firstBeside_79 : decode cX1_firstBeside 79 = .ok (.iload_n 2, 1) := by decide +kernel
theorem dX1_firstBeside_80 : decode cX1_firstBeside 80 = .ok (.invokevirtual 55, 3) := by decide +kernel
theorem dX1_firstBeside_83 : decode cX1_firstBeside 83 = .ok (.ireturn, 1) := by decide +kernel
theorem dX1_firstBeside_84 : decode cX1_firstBeside 84 = .ok (.iconst (-1), 1) := by decide +kernel
theorem dX1_firstBeside_85 : decode cX1_firstBeside 85 = .ok (.ireturn, 1) := by decide +kernel
theorem dX1_besideInSquares_0 : decode cX1_besideInSquares 0 = .ok (.iload_n 3, 1) := by decide +kernel
theorem dX1_besideInSquares_1 : decode cX1_besideInSquares 1 = .ok (.tableswitch 67 0 3 #[31, 40, 49, 58], 31) := by decide +kernel
theorem dX1_besideInSquares_32 : decode cX1_besideInSquares 32 = .ok (.aload_n 0, 1) := by decide +kernel
theorem dX1_besideInSquares_33 : decode cX1_besideInSquares 33 = .ok (.iload_n 1, 1) := by decide +kernel
theorem dX1_besideInSquares_34 : decode cX1_besideInSquares 34 = .ok (.iload_n 2, 1) := by decide +kernel
theorem dX1_besideInSquares_35 : decode cX1_besideInSquares 35 = .ok (.iconst 1, 1) := by decide +kernel
theorem dX1_besideInSquares_36 : decode cX1_besideInSquares 36 = .ok (.isub, 1) := by decide +kernel
theorem dX1_besideInSquares_37 : decode cX1_besideInSquares 37 = .ok (.invokevirtual 58, 3) := by decide +kernel
theorem dX1_besideInSquares_40 : decode cX1_besideInSquares 40 = .ok (.ireturn, 1) := by decide +kernel
theorem dX1_besideInSquares_41 : decode cX1_besideInSquares 41 = .ok (.aload_n 0, 1) := by decide +kernel
theorem dX1_besideInSquares_42 : decode cX1_besideInSquares 42 = .ok (.iload_n 1, 1) := by decide +kernel
theorem dX1_besideInSquares_43 : decode cX1_besideInSquares 43 = .ok (.iconst 1, 1) := by decide +kernel
theorem dX1_besideInSquares_44 : decode cX1_besideInSquares 44 = .ok (.iadd, 1) := by decide +kernel
theorem dX1_besideInSquares_45 : decode cX1_besideInSquares 45 = .ok (.iload_n 2, 1) := by decide +kernel
theorem dX1_besideInSquares_46 : decode cX1_besideInSquares 46 = .ok (.invokevirtual 58, 3) := by decide +kernel
theorem dX1_besideInSquares_49 : decode cX1_besideInSquares 49 = .ok (.ireturn, 1) := by decide +kernel
theorem dX1_besideInSquares_50 : decode cX1_besideInSquares 50 = .ok (.aload_n 0, 1) := by decide +kernel
theorem dX1_besideInSquares_51 : decode cX1_besideInSquares 51 = .ok (.iload_n 1, 1) := by decide +kernel
theorem dX1_besideInSquares_52 : decode cX1_besideInSquares 52 = .ok (.iload_n 2, 1) := by decide +kernel
theorem dX1_besideInSquares_53 : decode cX1_besideInSquares 53 = .ok (.iconst 1, 1) := by decide +kernel
theorem dX1_besideInSquares_54 : decode cX1_besideInSquares 54 = .ok (.iadd, 1) := by decide +kernel
theorem dX1_besideInSquares_55 : decode cX1_besideInSquares 55 = .ok (.invokevirtual 58, 3) := by decide +kernel
theorem dX1_besideInSquares_58 : decode cX1_besideInSquares 58 = .ok (.ireturn, 1) := by decide +kernel
theorem dX1_besideInSquares_59 : decode cX1_besideInSquares 59 = .ok (.aload_n 0, 1) := by decide +kernel
theorem dX1_besideInSquares_60 : decode cX1_besideInSquares 60 = .ok (.iload_n 1, 1) := by decide +kernel
theorem dX1_besideInSquares_61 : decode cX1_besideInSquares 61 = .ok (.iconst 1, 1) := by decide +kernel
theorem dX1_besideInSquares_62 : decode cX1_besideInSquares 62 = .ok (.isub, 1) := by decide +kernel
theorem dX1_besideInSquares_63 : decode cX1_besideInSquares 63 = .ok (.iload_n 2, 1) := by decide +kernel
theorem dX1_besideInSquares_64 : decode cX1_besideInSquares 64 = .ok (.invokevirtual 58, 3) := by decide +kernel
theorem dX1_besideInSquares_67 : decode cX1_besideInSquares 67 = .ok (.ireturn, 1) := by decide +kernel
theorem dX1_besideInSquares_68 : decode cX1_besideInSquares 68 = .ok (.iconst (-1), 1) := by decide +kernel
theorem dX1_besideInSquares_69 : decode cX1_besideInSquares 69 = .ok (.ireturn, 1) := by decide +kernel
theorem dX1_besideInHexes_0 : decode cX1_besideInHexes 0 = .ok (.iload_n 2, 1) := by decide +kernel
theorem dX1_besideInHexes_1 : decode cX1_besideInHexes 1 = .ok (.iconst 1, 1) := by decide +kernel
theorem dX1_besideInHexes_2 : decode cX1_besideInHexes 2 = .ok (.iand, 1) := by decide +kernel
theorem dX1_besideInHexes_3 : decode cX1_besideInHexes 3 = .ok (.ifCond .ne 7, 3) := by decide +kernel
theorem dX1_besideInHexes_6 : decode cX1_besideInHexes 6 = .ok (.iload_n 1, 1) := by decide +kernel
theorem dX1_besideInHexes_7 : decode cX1_besideInHexes 7 = .ok (.goto 6, 3) := by decide +kernel
theorem dX1_besideInHexes_10 : decode cX1_besideInHexes 10 = .ok (.iload_n 1, 1) := by decide +kernel
theorem dX1_besideInHexes_11 : decode cX1_besideInHexes 11 = .ok (.iconst 1, 1) := by decide +kernel
theorem dX1_besideInHexes_12 : decode cX1_besideInHexes 12 = .ok (.iadd, 1) := by decide +kernel
theorem dX1_besideInHexes_13 : decode cX1_besideInHexes 13 = .ok (.istore 4, 2) := by decide +kernel
theorem dX1_besideInHexes_15 : decode cX1_besideInHexes 15 = .ok (.iload 4, 2) := by decide +kernel
theorem dX1_besideInHexes_17 : decode cX1_besideInHexes 17 = .ok (.iconst 1, 1) := by decide +kernel
theorem dX1_besideInHexes_18 : decode cX1_besideInHexes 18 = .ok (.isub, 1) := by decide +kernel
theorem dX1_besideInHexes_19 : decode cX1_besideInHexes 19 = .ok (.istore 5, 2) := by decide +kernel
theorem dX1_besideInHexes_21 : decode cX1_besideInHexes 21 = .ok (.iload_n 3, 1) := by decide +kernel
theorem dX1_besideInHexes_22 : decode cX1_besideInHexes 22 = .ok (.tableswitch 96 0 5 #[38, 48, 57, 67, 77, 86], 38) := by decide +kernel
theorem dX1_besideInHexes_60 : decode cX1_besideInHexes 60 = .ok (.aload_n 0, 1) := by decide +kernel
theorem dX1_besideInHexes_61 : decode cX1_besideInHexes 61 = .ok (.iload 4, 2) := by decide +kernel
theorem dX1_besideInHexes_63 : decode cX1_besideInHexes 63 = .ok (.iload_n 2, 1) := by decide +kernel
theorem dX1_besideInHexes_64 : decode cX1_besideInHexes 64 = .ok (.iconst 1, 1) := by decide +kernel
theorem dX1_besideInHexes_65 : decode cX1_besideInHexes 65 = .ok (.isub, 1) := by decide +kernel
theorem dX1_besideInHexes_66 : decode cX1_besideInHexes 66 = .ok (.invokevirtual 58, 3) := by decide +kernel
theorem dX1_besideInHexes_69 : decode cX1_besideInHexes 69 = .ok (.ireturn, 1) := by decide +kernel
theorem dX1_besideInHexes_70 : decode cX1_besideInHexes 70 = .ok (.aload_n 0, 1) := by decide +kernel
theorem dX1_besideInHexes_71 : decode cX1_besideInHexes 71 = .ok (.iload_n 1, 1) := by decide +kernel
theorem dX1_besideInHexes_72 : decode cX1_besideInHexes 72 = .ok (.iconst 1, 1) := by decide +kernel
theorem dX1_besideInHexes_73 : decode cX1_besideInHexes 73 = .ok (.iadd, 1) := by decide +kernel
theorem dX1_besideInHexes_74 : decode cX1_besideInHexes 74 = .ok (.iload_n 2, 1) := by decide +kernel
theorem dX1_besideInHexes_75 : decode cX1_besideInHexes 75 = .ok (.invokevirtual 58, 3) := by decide +kernel
theorem dX1_besideInHexes_78 : decode cX1_besideInHexes 78 = .ok (.ireturn, 1) := by decide +kernel
theorem dX1_besideInHexes_79 : decode cX1_besideInHexes 79 = .ok (.aload_n 0, 1) := by decide +kernel
theorem dX1_besideInHexes_80 : decode cX1_besideInHexes 80 = .ok (.iload 4, 2) := by decide +kernel
theorem dX1_besideInHexes_82 : decode cX1_besideInHexes 82 = .ok (.iload_n 2, 1) := by decide +kernel
theorem dX1_besideInHexes_83 : decode cX1_besideInHexes 83 = .ok (.iconst 1, 1) := by decide +kernel
theorem dX1_besideInHexes_84 : decode cX1_besideInHexes 84 = .ok (.iadd, 1) := by decide +kernel
theorem dX1_besideInHexes_85 : decode cX1_besideInHexes 85 = .ok (.invokevirtual 58, 3) := by decide +kernel
theorem dX1_besideInHexes_88 : decode cX1_besideInHexes 88 = .ok (.ireturn, 1) := by decide +kernel
theorem dX1_besideInHexes_89 : decode cX1_besideInHexes 89 = .ok (.aload_n 0, 1) := by decide +kernel
theorem dX1_besideInHexes_90 : decode cX1_besideInHexes 90 = .ok (.iload 5, 2) := by decide +kernel
theorem dX1_besideInHexes_92 : decode cX1_besideInHexes 92 = .ok (.iload_n 2, 1) := by decide +kernel
theorem dX1_besideInHexes_93 : decode cX1_besideInHexes 93 = .ok (.iconst 1, 1) := by decide +kernel
theorem dX1_besideInHexes_94 : decode cX1_besideInHexes 94 = .ok (.iadd, 1) := by decide +kernel
theorem dX1_besideInHexes_95 : decode cX1_besideInHexes 95 = .ok (.invokevirtual 58, 3) := by decide +kernel
theorem dX1_besideInHexes_98 : decode cX1_besideInHexes 98 = .ok (.ireturn, 1) := by decide +kernel
theorem dX1_besideInHexes_99 : decode cX1_besideInHexes 99 = .ok (.aload_n 0, 1) := by decide +kernel
theorem dX1_besideInHexes_100 : decode cX1_besideInHexes 100 = .ok (.iload_n 1, 1) := by decide +kernel
theorem dX1_besideInHexes_101 : decode cX1_besideInHexes 101 = .ok (.iconst 1, 1) := by decide +kernel
theorem dX1_besideInHexes_102 : decode cX1_besideInHexes 102 = .ok (.isub, 1) := by decide +kernel
theorem dX1_besideInHexes_103 : decode cX1_besideInHexes 103 = .ok (.iload_n 2, 1) := by decide +kernel
theorem dX1_besideInHexes_104 : decode cX1_besideInHexes 104 = .ok (.invokevirtual 58, 3) := by decide +kernel
theorem dX1_besideInHexes_107 : decode cX1_besideInHexes 107 = .ok (.ireturn, 1) := by decide +kernel
theorem dX1_besideInHexes_108 : decode cX1_besideInHexes 108 = .ok (.aload_n 0, 1) := by decide +kernel
theorem dX1_besideInHexes_109 : decode cX1_besideInHexes 109 = .ok (.iload 5, 2) := by decide +kernel
theorem dX1_besideInHexes_111 : decode cX1_besideInHexes 111 = .ok (.iload_n 2, 1) := by decide +kernel
theorem dX1_besideInHexes_112 : decode cX1_besideInHexes 112 = .ok (.iconst 1, 1) := by decide +kernel
theorem dX1_besideInHexes_113 : decode cX1_besideInHexes 113 = .ok (.isub, 1) := by decide +kernel
theorem dX1_besideInHexes_114 : decode cX1_besideInHexes 114 = .ok (.invokevirtual 58, 3) := by decide +kernel
theorem dX1_besideInHexes_117 : decode cX1_besideInHexes 117 = .ok (.ireturn, 1) := by decide +kernel
theorem dX1_besideInHexes_118 : decode cX1_besideInHexes 118 = .ok (.iconst (-1), 1) := by decide +kernel
theorem dX1_besideInHexes_119 : decode cX1_besideInHexes 119 = .ok (.ireturn, 1) := by decide +kernel
theorem dX1_besideInTriangles_0 : decode cX1_besideInTriangles 0 = .ok (.iload_n 1, 1) := by decide +kernel
theorem dX1_besideInTriangles_1 : decode cX1_besideInTriangles 1 = .ok (.iload_n 2, 1) := by decide +kernel
theorem dX1_besideInTriangles_2 : decode cX1_besideInTriangles 2 = .ok (.iadd, 1) := by decide +kernel
theorem dX1_besideInTriangles_3 : decode cX1_besideInTriangles 3 = .ok (.iconst 1, 1) := by decide +kernel
theorem dX1_besideInTriangles_4 : decode cX1_besideInTriangles 4 = .ok (.iand, 1) := by decide +kernel
theorem dX1_besideInTriangles_5 : decode cX1_besideInTriangles 5 = .ok (.ifCond .ne 7, 3) := by decide +kernel
theorem dX1_besideInTriangles_8 : decode cX1_besideInTriangles 8 = .ok (.iconst 1, 1) := by decide +kernel
theorem dX1_besideInTriangles_9 : decode cX1_besideInTriangles 9 = .ok (.goto 4, 3) := by decide +kernel
theorem dX1_besideInTriangles_12 : decode cX1_besideInTriangles 12 = .ok (.iconst 0, 1) := by decide +kernel
theorem dX1_besideInTriangles_13 : decode cX1_besideInTriangles 13 = .ok (.istore 4, 2) := by decide +kernel
theorem dX1_besideInTriangles_15 : decode cX1_besideInTriangles 15 = .ok (.iload_n 3, 1) := by decide +kernel
theorem dX1_besideInTriangles_16 : decode cX1_besideInTriangles 16 = .ok (.tableswitch 66 0 2 #[28, 37, 46], 28) := by decide +kernel
theorem dX1_besideInTriangles_44 : decode cX1_besideInTriangles 44 = .ok (.aload_n 0, 1) := by decide +kernel
theorem dX1_besideInTriangles_45 : decode cX1_besideInTriangles 45 = .ok (.iload_n 1, 1) := by decide +kernel
theorem dX1_besideInTriangles_46 : decode cX1_besideInTriangles 46 = .ok (.iconst 1, 1) := by decide +kernel
theorem dX1_besideInTriangles_47 : decode cX1_besideInTriangles 47 = .ok (.isub, 1) := by decide +kernel
theorem dX1_besideInTriangles_48 : decode cX1_besideInTriangles 48 = .ok (.iload_n 2, 1) := by decide +kernel
theorem dX1_besideInTriangles_49 : decode cX1_besideInTriangles 49 = .ok (.invokevirtual 58, 3) := by decide +kernel
theorem dX1_besideInTriangles_52 : decode cX1_besideInTriangles 52 = .ok (.ireturn, 1) := by decide +kernel
theorem dX1_besideInTriangles_53 : decode cX1_besideInTriangles 53 = .ok (.aload_n 0, 1) := by decide +kernel
theorem dX1_besideInTriangles_54 : decode cX1_besideInTriangles 54 = .ok (.iload_n 1, 1) := by decide +kernel
theorem dX1_besideInTriangles_55 : decode cX1_besideInTriangles 55 = .ok (.iconst 1, 1) := by decide +kernel
theorem dX1_besideInTriangles_56 : decode cX1_besideInTriangles 56 = .ok (.iadd, 1) := by decide +kernel
theorem dX1_besideInTriangles_57 : decode cX1_besideInTriangles 57 = .ok (.iload_n 2, 1) := by decide +kernel
theorem dX1_besideInTriangles_58 : decode cX1_besideInTriangles 58 = .ok (.invokevirtual 58, 3) := by decide +kernel
theorem dX1_besideInTriangles_61 : decode cX1_besideInTriangles 61 = .ok (.ireturn, 1) := by decide +kernel
theorem dX1_besideInTriangles_62 : decode cX1_besideInTriangles 62 = .ok (.aload_n 0, 1) := by decide +kernel
theorem dX1_besideInTriangles_63 : decode cX1_besideInTriangles 63 = .ok (.iload_n 1, 1) := by decide +kernel
theorem dX1_besideInTriangles_64 : decode cX1_besideInTriangles 64 = .ok (.iload 4, 2) := by decide +kernel
theorem dX1_besideInTriangles_66 : decode cX1_besideInTriangles 66 = .ok (.ifCond .eq 9, 3) := by decide +kernel
theorem dX1_besideInTriangles_69 : decode cX1_besideInTriangles 69 = .ok (.iload_n 2, 1) := by decide +kernel
theorem dX1_besideInTriangles_70 : decode cX1_besideInTriangles 70 = .ok (.iconst 1, 1) := by decide +kernel
theorem dX1_besideInTriangles_71 : decode cX1_besideInTriangles 71 = .ok (.iadd, 1) := by decide +kernel
theorem dX1_besideInTriangles_72 : decode cX1_besideInTriangles 72 = .ok (.goto 6, 3) := by decide +kernel
theorem dX1_besideInTriangles_75 : decode cX1_besideInTriangles 75 = .ok (.iload_n 2, 1) := by decide +kernel
theorem dX1_besideInTriangles_76 : decode cX1_besideInTriangles 76 = .ok (.iconst 1, 1) := by decide +kernel
theorem dX1_besideInTriangles_77 : decode cX1_besideInTriangles 77 = .ok (.isub, 1) := by decide +kernel
theorem dX1_besideInTriangles_78 : decode cX1_besideInTriangles 78 = .ok (.invokevirtual 58, 3) := by decide +kernel
theorem dX1_besideInTriangles_81 : decode cX1_besideInTriangles 81 = .ok (.ireturn, 1) := by decide +kernel
theorem dX1_besideInTriangles_82 : decode cX1_besideInTriangles 82 = .ok (.iconst (-1), 1) := by decide +kernel
theorem dX1_besideInTriangles_83 : decode cX1_besideInTriangles 83 = .ok (.ireturn, 1) := by decide +kernel
theorem dX1_besideInRings_0 : decode cX1_besideInRings 0 = .ok (.iload_n 3, 1) := by decide +kernel
theorem dX1_besideInRings_1 : decode cX1_besideInRings 1 = .ok (.tableswitch 118 0 3 #[31, 40, 75, 84], 31) := by decide +kernel
theorem dX1_besideInRings_32 : decode cX1_besideInRings 32 = .ok (.aload_n 0, 1) := by decide +kernel
theorem dX1_besideInRings_33 : decode cX1_besideInRings 33 = .ok (.iload_n 1, 1) := by decide +kernel
theorem dX1_besideInRings_34 : decode cX1_besideInRings 34 = .ok (.iload_n 2, 1) := by decide +kernel
theorem dX1_besideInRings_35 : decode cX1_besideInRings 35 = .ok (.iconst 1, 1) := by decide +kernel
theorem dX1_besideInRings_36 : decode cX1_besideInRings 36 = .ok (.isub, 1) := by decide +kernel
theorem dX1_besideInRings_37 : decode cX1_besideInRings 37 = .ok (.invokevirtual 58, 3) := by decide +kernel
theorem dX1_besideInRings_40 : decode cX1_besideInRings 40 = .ok (.ireturn, 1) := by decide +kernel
theorem dX1_besideInRings_41 : decode cX1_besideInRings 41 = .ok (.aload_n 0, 1) := by decide +kernel
theorem dX1_besideInRings_42 : decode cX1_besideInRings 42 = .ok (.getfield 19, 3) := by decide +kernel
theorem dX1_besideInRings_45 : decode cX1_besideInRings 45 = .ok (.iconst 2, 1) := by decide +kernel
theorem dX1_besideInRings_46 : decode cX1_besideInRings 46 = .ok (.if_icmp .ge 7, 3) := by decide +kernel
theorem dX1_besideInRings_49 : decode cX1_besideInRings 49 = .ok (.iconst (-1), 1) := by decide +kernel
theorem dX1_besideInRings_50 : decode cX1_besideInRings 50 = .ok (.goto 25, 3) := by decide +kernel
theorem dX1_besideInRings_53 : decode cX1_besideInRings 53 = .ok (.aload_n 0, 1) := by decide +kernel
theorem dX1_besideInRings_54 : decode cX1_besideInRings 54 = .ok (.iload_n 1, 1) := by decide +kernel
theorem dX1_besideInRings_55 : decode cX1_besideInRings 55 = .ok (.aload_n 0, 1) := by decide +kernel
theorem dX1_besideInRings_56 : decode cX1_besideInRings 56 = .ok (.getfield 19, 3) := by decide +kernel
theorem dX1_besideInRings_59 : decode cX1_besideInRings 59 = .ok (.iconst 1, 1) := by decide +kernel
theorem dX1_besideInRings_60 : decode cX1_besideInRings 60 = .ok (.isub, 1) := by decide +kernel
theorem dX1_besideInRings_61 : decode cX1_besideInRings 61 = .ok (.if_icmp .ne 7, 3) := by decide +kernel
theorem dX1_besideInRings_64 : decode cX1_besideInRings 64 = .ok (.iconst 0, 1) := by decide +kernel
theorem dX1_besideInRings_65 : decode cX1_besideInRings 65 = .ok (.goto 6, 3) := by decide +kernel
theorem dX1_besideInRings_68 : decode cX1_besideInRings 68 = .ok (.iload_n 1, 1) := by decide +kernel
theorem dX1_besideInRings_69 : decode cX1_besideInRings 69 = .ok (.iconst 1, 1) := by decide +kernel
theorem dX1_besideInRings_70 : decode cX1_besideInRings 70 = .ok (.iadd, 1) := by decide +kernel
theorem dX1_besideInRings_71 : decode cX1_besideInRings 71 = .ok (.iload_n 2, 1) := by decide +kernel
theorem dX1_besideInRings_72 : decode cX1_besideInRings 72 = .ok (.invokevirtual 58, 3) := by decide +kernel
theorem dX1_besideInRings_75 : decode cX1_besideInRings 75 = .ok (.ireturn, 1) := by decide +kernel
theorem dX1_besideInRings_76 : decode cX1_besideInRings 76 = .ok (.aload_n 0, 1) := by decide +kernel
theorem dX1_besideInRings_77 : decode cX1_besideInRings 77 = .ok (.iload_n 1, 1) := by decide +kernel
theorem dX1_besideInRings_78 : decode cX1_besideInRings 78 = .ok (.iload_n 2, 1) := by decide +kernel
theorem dX1_besideInRings_79 : decode cX1_besideInRings 79 = .ok (.iconst 1, 1) := by decide +kernel
theorem dX1_besideInRings_80 : decode cX1_besideInRings 80 = .ok (.iadd, 1) := by decide +kernel
theorem dX1_besideInRings_81 : decode cX1_besideInRings 81 = .ok (.invokevirtual 58, 3) := by decide +kernel
theorem dX1_besideInRings_84 : decode cX1_besideInRings 84 = .ok (.ireturn, 1) := by decide +kernel
theorem dX1_besideInRings_85 : decode cX1_besideInRings 85 = .ok (.aload_n 0, 1) := by decide +kernel
theorem dX1_besideInRings_86 : decode cX1_besideInRings 86 = .ok (.getfield 19, 3) := by decide +kernel
theorem dX1_besideInRings_89 : decode cX1_besideInRings 89 = .ok (.iconst 3, 1) := by decide +kernel
theorem dX1_besideInRings_90 : decode cX1_besideInRings 90 = .ok (.if_icmp .ge 7, 3) := by decide +kernel
theorem dX1_besideInRings_93 : decode cX1_besideInRings 93 = .ok (.iconst (-1), 1) := by decide +kernel
theorem dX1_besideInRings_94 : decode cX1_besideInRings 94 = .ok (.goto 24, 3) := by decide +kernel
theorem dX1_besideInRings_97 : decode cX1_besideInRings 97 = .ok (.aload_n 0, 1) := by decide +kernel
theorem dX1_besideInRings_98 : decode cX1_besideInRings 98 = .ok (.iload_n 1, 1) := by decide +kernel
theorem dX1_besideInRings_99 : decode cX1_besideInRings 99 = .ok (.ifCond .ne 12, 3) := by decide +kernel
theorem dX1_besideInRings_102 : decode cX1_besideInRings 102 = .ok (.aload_n 0, 1) := by decide +kernel
theorem dX1_besideInRings_103 : decode cX1_besideInRings 103 = .ok (.getfield 19, 3) := by decide +kernel
theorem dX1_besideInRings_106 : decode cX1_besideInRings 106 = .ok (.iconst 1, 1) := by decide +kernel
theorem dX1_besideInRings_107 : decode cX1_besideInRings 107 = .ok (.isub, 1) := by decide +kernel
theorem dX1_besideInRings_108 : decode cX1_besideInRings 108 = .ok (.goto 6, 3) := by decide +kernel
theorem dX1_besideInRings_111 : decode cX1_besideInRings 111 = .ok (.iload_n 1, 1) := by decide +kernel
theorem dX1_besideInRings_112 : decode cX1_besideInRings 112 = .ok (.iconst 1, 1) := by decide +kernel
theorem dX1_besideInRings_113 : decode cX1_besideInRings 113 = .ok (.isub, 1) := by decide +kernel
theorem dX1_besideInRings_114 : decode cX1_besideInRings 114 = .ok (.iload_n 2, 1) := by decide +kernel
theorem dX1_besideInRings_115 : decode cX1_besideInRings 115 = .ok (.invokevirtual 58, 3) := by decide +kernel
theorem dX1_besideInRings_118 : decode cX1_besideInRings 118 = .ok (.ireturn, 1) := by decide +kernel
theorem dX1_besideInRings_119 : decode cX1_besideInRings 119 = .ok (.iconst (-1), 1) := by decide +kernel
theorem dX1_besideInRings_120 : decode cX1_besideInRings 120 = .ok (.ireturn, 1) := by decide +kernel
theorem dX2_init_0 : decode cX2_init 0 = .ok (.aload_n 0, 1) := by decide +kernel
theorem dX2_init_1 : decode cX2_init 1 = .ok (.invokespecial 3, 3) := by decide +kernel
theorem dX2_init_4 : decode cX2_init 4 = .ok (.aload_n 0, 1) := by decide +kernel
theorem dX2_init_5 : decode cX2_init 5 = .ok (.aload_n 1, 1) := by decide +kernel
theorem dX2_init_6 : decode cX2_init 6 = .ok (.getfield 9, 3) := by decide +kernel
theorem dX2_init_9 : decode cX2_init 9 = .ok (.putfield 15, 3) := by decide +kernel
theorem dX2_init_12 : decode cX2_init 12 = .ok (.aload_n 0, 1) := by decide +kernel
theorem dX2_init_13 : decode cX2_init 13 = .ok (.aload_n 1, 1) := by decide +kernel
theorem dX2_init_14 : decode cX2_init 14 = .ok (.invokevirtual 18, 3) := by decide +kernel
theorem dX2_init_17 : decode cX2_init 17 = .ok (.putfield 22, 3) := by decide +kernel
theorem dX2_init_20 : decode cX2_init 20 = .ok (.aload_n 0, 1) := by decide +kernel
theorem dX2_init_21 : decode cX2_init 21 = .ok (.aload_n 0, 1) := by decide +kernel
theorem dX2_init_22 : decode cX2_init 22 = .ok (.getfield 15, 3) := by decide +kernel
theorem dX2_init_25 : decode cX2_init 25 = .ok (.aload_n 0, 1) := by decide +kernel
theorem dX2_init_26 : decode cX2_init 26 = .ok (.getfield 22, 3) := by decide +kernel
theorem dX2_init_29 : decode cX2_init 29 = .ok (.imul, 1) := by decide +kernel
theorem dX2_init_30 : decode cX2_init 30 = .ok (.newarray .int, 2) := by decide +kernel
theorem dX2_init_32 : decode cX2_init 32 = .ok (.putfield 24, 3) := by decide +kernel
theorem dX2_init_35 : decode cX2_init 35 = .ok (.aload_n 0, 1) := by decide +kernel
theorem dX2_init_36 : decode cX2_init 36 = .ok (.aload_n 0, 1) := by decide +kernel
theorem dX2_init_37 : decode cX2_init 37 = .ok (.getfield 15, 3) := by decide +kernel
theorem dX2_init_40 : decode cX2_init 40 = .ok (.aload_n 0, 1) := by decide +kernel
theorem dX2_init_41 : decode cX2_init 41 = .ok (.getfield 22, 3) := by decide +kernel
theorem dX2_init_44 : decode cX2_init 44 = .ok (.imul, 1) := by decide +kernel
theorem dX2_init_45 : decode cX2_init 45 = .ok (.newarray .boolean, 2) := by decide +kernel
theorem dX2_init_47 : decode cX2_init 47 = .ok (.putfield 28, 3) := by decide +kernel
theorem dX2_init_50 : decode cX2_init 50 = .ok (.iconst 0, 1) := by decide +kernel
theorem dX2_init_51 : decode cX2_init 51 = .ok (.istore_n 2, 1) := by decide +kernel
theorem dX2_init_52 : decode cX2_init 52 = .ok (.iload_n 2, 1) := by decide +kernel
theorem dX2_init_53 : decode cX2_init 53 = .ok (.aload_n 0, 1) := by decide +kernel
theorem dX2_init_54 : decode cX2_init 54 = .ok (.getfield 15, 3) := by decide +kernel
theorem dX2_init_57 : decode cX2_init 57 = .ok (.if_icmp .ge 44, 3) := by decide +kernel
theorem dX2_init_60 : decode cX2_init 60 = .ok (.iconst 0, 1) := by decide +kernel
theorem dX2_init_61 : decode cX2_init 61 = .ok (.istore_n 3, 1) := by decide +kernel
theorem dX2_init_62 : decode cX2_init 62 = .ok (.iload_n 3, 1) := by decide +kernel
theorem dX2_init_63 : decode cX2_init 63 = .ok (.aload_n 0, 1) := by decide +kernel
theorem dX2_init_64 : decode cX2_init 64 = .ok (.getfield 22, 3) := by decide +kernel
theorem dX2_init_67 : decode cX2_init 67 = .ok (.if_icmp .ge 28, 3) := by decide +kernel
theorem dX2_init_70 : decode cX2_init 70 = .ok (.aload_n 0, 1) := by decide +kernel
theorem dX2_init_71 : decode cX2_init 71 = .ok (.getfield 24, 3) := by decide +kernel
theorem dX2_init_74 : decode cX2_init 74 = .ok (.iload_n 2, 1) := by decide +kernel
theorem dX2_init_75 : decode cX2_init 75 = .ok (.aload_n 0, 1) := by decide +kernel
theorem dX2_init_76 : decode cX2_init 76 = .ok (.getfield 22, 3) := by decide +kernel
theorem dX2_init_79 : decode cX2_init 79 = .ok (.imul, 1) := by decide +kernel
theorem dX2_init_80 : decode cX2_init 80 = .ok (.iload_n 3, 1) := by decide +kernel
theorem dX2_init_81 : decode cX2_init 81 = .ok (.iadd, 1) := by decide +kernel
theorem dX2_init_82 : decode cX2_init 82 = .ok (.aload_n 1, 1) := by decide +kernel
theorem dX2_init_83 : decode cX2_init 83 = .ok (.iload_n 2, 1) := by decide +kernel
theorem dX2_init_84 : decode cX2_init 84 = .ok (.iload_n 3, 1) := by decide +kernel
theorem dX2_init_85 : decode cX2_init 85 = .ok (.invokevirtual 32, 3) := by decide +kernel
theorem dX2_init_88 : decode cX2_init 88 = .ok (.iastore, 1) := by decide +kernel
theorem dX2_init_89 : decode cX2_init 89 = .ok (.iinc 3 1, 3) := by decide +kernel
theorem dX2_init_92 : decode cX2_init 92 = .ok (.goto (-30), 3) := by decide +kernel
theorem dX2_init_95 : decode cX2_init 95 = .ok (.iinc 2 1, 3) := by decide +kernel
theorem dX2_init_98 : decode cX2_init 98 = .ok (.goto (-46), 3) := by decide +kernel
theorem dX2_init_101 : decode cX2_init 101 = .ok (.return_, 1) := by decide +kernel
theorem dX2_has_0 : decode cX2_has 0 = .ok (.iload_n 1, 1) := by decide +kernel
theorem dX2_has_1 : decode cX2_has 1 = .ok (.ifCond .lt 27, 3) := by decide +kernel
theorem dX2_has_4 : decode cX2_has 4 = .ok (.iload_n 1, 1) := by decide +kernel
theorem dX2_has_5 : decode cX2_has 5 = .ok (.aload_n 0, 1) := by decide +kernel
theorem dX2_has_6 : decode cX2_has 6 = .ok (.getfield 15, 3) := by decide +kernel
theorem dX2_has_9 : decode cX2_has 9 = .ok (.if_icmp .ge 19, 3) := by decide +kernel
theorem dX2_has_12 : decode cX2_has 12 = .ok (.iload_n 2, 1) := by decide +kernel
theorem dX2_has_13 : decode cX2_has 13 = .ok (.ifCond .lt 15, 3) := by decide +kernel
theorem dX2_has_16 : decode cX2_has 16 = .ok (.iload_n 2, 1) := by decide +kernel
theorem dX2_has_17 : decode cX2_has 17 = .ok (.aload_n 0, 1) := by decide +kernel
theorem dX2_has_18 : decode cX2_has 18 = .ok (.getfield 22, 3) := by decide +kernel
theorem dX2_has_21 : decode cX2_has 21 = .ok (.if_icmp .ge 7, 3) := by decide +kernel
theorem dX2_has_24 : decode cX2_has 24 = .ok (.iconst 1, 1) := by decide +kernel
theorem dX2_has_25 : decode cX2_has 25 = .ok (.goto 4, 3) := by decide +kernel
theorem dX2_has_28 : decode cX2_has 28 = .ok (.iconst 0, 1) := by decide +kernel
theorem dX2_has_29 : decode cX2_has 29 = .ok (.ireturn, 1) := by decide +kernel
theorem dX2_besideAt_0 : decode cX2_besideAt 0 = .ok (.aload_n 0, 1) := by decide +kernel
theorem dX2_besideAt_1 : decode cX2_besideAt 1 = .ok (.iload_n 1, 1) := by decide +kernel
theorem dX2_besideAt_2 : decode cX2_besideAt 2 = .ok (.iload_n 2, 1) := by decide +kernel
theorem dX2_besideAt_3 : decode cX2_besideAt 3 = .ok (.invokevirtual 36, 3) := by decide +kernel
theorem dX2_besideAt_6 : decode cX2_besideAt 6 = .ok (.ifCond .eq 19, 3) := by decide +kernel
theorem dX2_besideAt_9 : decode cX2_besideAt 9 = .ok (.aload_n 0, 1) := by decide +kernel
theorem dX2_besideAt_10 : decode cX2_besideAt 10 = .ok (.getfield 24, 3) := by decide +kernel
theorem dX2_besideAt_13 : decode cX2_besideAt 13 = .ok (.iload_n 1, 1) := by decide +kernel
theorem dX2_besideAt_14 : decode cX2_besideAt 14 = .ok (.aload_n 0, 1) := by decide +kernel
theorem dX2_besideAt_15 : decode cX2_besideAt 15 = .ok (.getfield 22, 3) := by decide +kernel
theorem dX2_besideAt_18 : decode cX2_besideAt 18 = .ok (.imul, 1) := by decide +kernel
theorem dX2_besideAt_19 : decode cX2_besideAt 19 = .ok (.iload_n 2, 1) := by decide +kernel
theorem dX2_besideAt_20 : decode cX2_besideAt 20 = .ok (.iadd, 1) := by decide +kernel
theorem dX2_besideAt_21 : decode cX2_besideAt 21 = .ok (.iaload, 1) := by decide +kernel
theorem dX2_besideAt_22 : decode cX2_besideAt 22 = .ok (.goto 4, 3) := by decide +kernel
theorem dX2_besideAt_25 : decode cX2_besideAt 25 = .ok (.iconst (-1), 1) := by decide +kernel
theorem dX2_besideAt_26 : decode cX2_besideAt 26 = .ok (.ireturn, 1) := by decide +kernel
theorem dX2_walledAt_0 : decode cX2_walledAt 0 = .ok (.aload_n 0, 1) := by decide +kernel
theorem dX2_walledAt_1 : decode cX2_walledAt 1 = .ok (.iload_n 1, 1) := by decide +kernel
theorem dX2_walledAt_2 : decode cX2_walledAt 2 = .ok (.iload_n 2, 1) := by decide +kernel
theorem dX2_walledAt_3 : decode cX2_walledAt 3 = .ok (.invokevirtual 36, 3) := by decide +kernel
theorem dX2_walledAt_6 : decode cX2_walledAt 6 = .ok (.ifCond .eq 23, 3) := by decide +kernel
theorem dX2_walledAt_9 : decode cX2_walledAt 9 = .ok (.aload_n 0, 1) := by decide +kernel
theorem dX2_walledAt_10 : decode cX2_walledAt 10 = .ok (.getfield 28, 3) := by decide +kernel
theorem dX2_walledAt_13 : decode cX2_walledAt 13 = .ok (.iload_n 1, 1) := by decide +kernel
theorem dX2_walledAt_14 : decode cX2_walledAt 14 = .ok (.aload_n 0, 1) := by decide +kernel
theorem dX2_walledAt_15 : decode cX2_walledAt 15 = .ok (.getfield 22, 3) := by decide +kernel
theorem dX2_walledAt_18 : decode cX2_walledAt 18 = .ok (.imul, 1) := by decide +kernel
theorem dX2_walledAt_19 : decode cX2_walledAt 19 = .ok (.iload_n 2, 1) := by decide +kernel
theorem dX2_walledAt_20 : decode cX2_walledAt 20 = .ok (.iadd, 1) := by decide +kernel
theorem dX2_walledAt_21 : decode cX2_walledAt 21 = .ok (.baload, 1) := by decide +kernel
theorem dX2_walledAt_22 : decode cX2_walledAt 22 = .ok (.ifCond .eq 7, 3) := by decide +kernel
theorem dX2_walledAt_25 : decode cX2_walledAt 25 = .ok (.iconst 1, 1) := by decide +kernel
theorem dX2_walledAt_26 : decode cX2_walledAt 26 = .ok (.goto 4, 3) := by decide +kernel
theorem dX2_walledAt_29 : decode cX2_walledAt 29 = .ok (.iconst 0, 1) := by decide +kernel
theorem dX2_walledAt_30 : decode cX2_walledAt 30 = .ok (.ireturn, 1) := by decide +kernel
theorem dX2_openAt_0 : decode cX2_openAt 0 = .ok (.aload_n 0, 1) := by decide +kernel
theorem dX2_openAt_1 : decode cX2_openAt 1 = .ok (.iload_n 1, 1) := by decide +kernel
theorem dX2_openAt_2 : decode cX2_openAt 2 = .ok (.iload_n 2, 1) := by decide +kernel
theorem dX2_openAt_3 : decode cX2_openAt 3 = .ok (.invokevirtual 40, 3) := by decide +kernel
theorem dX2_openAt_6 : decode cX2_openAt 6 = .ok (.ifCond .eq 7, 3) := by decide +kernel
theorem dX2_openAt_9 : decode cX2_openAt 9 = .ok (.iconst (-1), 1) := by decide +kernel
theorem dX2_openAt_10 : decode cX2_openAt 10 = .ok (.goto 9, 3) := by decide +kernel
theorem dX2_openAt_13 : decode cX2_openAt 13 = .ok (.aload_n 0, 1) := by decide +kernel
theorem dX2_openAt_14 : decode cX2_openAt 14 = .ok (.iload_n 1, 1) := by decide +kernel
theorem dX2_openAt_15 : decode cX2_openAt 15 = .ok (.iload_n 2, 1) := by decide +kernel
theorem dX2_openAt_16 : decode cX2_openAt 16 = .ok (.invokevirtual 43, 3) := by decide +kernel
theorem dX2_openAt_19 : decode cX2_openAt 19 = .ok (.ireturn, 1) := by decide +kernel
theorem dX2_slotOf_0 : decode cX2_slotOf 0 = .ok (.iload_n 2, 1) := by decide +kernel
theorem dX2_slotOf_1 : decode cX2_slotOf 1 = .ok (.iconst (-1), 1) := by decide +kernel
theorem dX2_slotOf_2 : decode cX2_slotOf 2 = .ok (.if_icmp .eq 31, 3) := by decide +kernel
theorem dX2_slotOf_5 : decode cX2_slotOf 5 = .ok (.iconst 0, 1) := by decide +kernel
theorem dX2_slotOf_6 : decode cX2_slotOf 6 = .ok (.istore_n 3, 1) := by decide +kernel
theorem dX2_slotOf_7 : decode cX2_slotOf 7 = .ok (.iload_n 3, 1) := by decide +kernel
theorem dX2_slotOf_8 : decode cX2_slotOf 8 = .ok (.aload_n 0, 1) := by decide +kernel
theorem dX2_slotOf_9 : decode cX2_slotOf 9 = .ok (.getfield 22, 3) := by decide +kernel
theorem dX2_slotOf_12 : decode cX2_slotOf 12 = .ok (.if_icmp .ge 21, 3) := by decide +kernel
theorem dX2_slotOf_15 : decode cX2_slotOf 15 = .ok (.aload_n 0, 1) := by decide +kernel
theorem dX2_slotOf_16 : decode cX2_slotOf 16 = .ok (.iload_n 1, 1) := by decide +kernel
theorem dX2_slotOf_17 : decode cX2_slotOf 17 = .ok (.iload_n 3, 1) := by decide +kernel
theorem dX2_slotOf_18 : decode cX2_slotOf 18 = .ok (.invokevirtual 43, 3) := by decide +kernel
theorem dX2_slotOf_21 : decode cX2_slotOf 21 = .ok (.iload_n 2, 1) := by decide +kernel
theorem dX2_slotOf_22 : decode cX2_slotOf 22 = .ok (.if_icmp .ne 5, 3) := by decide +kernel
theorem dX2_slotOf_25 : decode cX2_slotOf 25 = .ok (.iload_n 3, 1) := by decide +kernel
theorem dX2_slotOf_26 : decode cX2_slotOf 26 = .ok (.ireturn, 1) := by decide +kernel
theorem dX2_slotOf_27 : decode cX2_slotOf 27 = .ok (.iinc 3 1, 3) := by decide +kernel
theorem dX2_slotOf_30 : decode cX2_slotOf 30 = .ok (.goto (-23), 3) := by decide +kernel
theorem dX2_slotOf_33 : decode cX2_slotOf 33 = .ok (.iconst (-1), 1) := by decide +kernel
theorem dX2_slotOf_34 : decode cX2_slotOf 34 = .ok (.ireturn, 1) := by decide +kernel
theorem dX2_leastBeyond_0 : decode cX2_leastBeyond 0 = .ok (.iconst (-1), 1) := by decide +kernel
theorem dX2_leastBeyond_1 : decode cX2_leastBeyond 1 = .ok (.istore_n 3, 1) := by decide +kernel
theorem dX2_leastBeyond_2 : decode cX2_leastBeyond 2 = .ok (.iconst 0, 1) := by decide +kernel
theorem dX2_leastBeyond_3 : decode cX2_leastBeyond 3 = .ok (.istore 4, 2) := by decide +kernel
theorem dX2_leastBeyond_5 : decode cX2_leastBeyond 5 = .ok (.iload 4, 2) := by decide +kernel
theorem dX2_leastBeyond_7 : decode cX2_leastBeyond 7 = .ok (.aload_n 0, 1) := by decide +kernel
theorem dX2_leastBeyond_8 : decode cX2_leastBeyond 8 = .ok (.getfield 22, 3) := by decide +kernel
theorem dX2_leastBeyond_11 : decode cX2_leastBeyond 11 = .ok (.if_icmp .ge 38, 3) := by decide +kernel
theorem dX2_leastBeyond_14 : decode cX2_leastBeyond 14 = .ok (.aload_n 0, 1) := by decide +kernel
theorem dX2_leastBeyond_15 : decode cX2_leastBeyond 15 = .ok (.iload_n 1, 1) := by decide +kernel
theorem dX2_leastBeyond_16 : decode cX2_leastBeyond 16 = .ok (.iload 4, 2) := by decide +kernel
theorem dX2_leastBeyond_18 : decode cX2_leastBeyond 18 = .ok (.invokevirtual 43, 3) := by decide +kernel
theorem dX2_leastBeyond_21 : decode cX2_leastBeyond 21 = .ok (.istore 5, 2) := by decide +kernel
theorem dX2_leastBeyond_23 : decode cX2_leastBeyond 23 = .ok (.iload 5, 2) := by decide +kernel
theorem dX2_leastBeyond_25 : decode cX2_leastBeyond 25 = .ok (.iload_n 2, 1) := by decide +kernel
theorem dX2_leastBeyond_26 : decode cX2_leastBeyond 26 = .ok (.if_icmp .le 17, 3) := by decide +kernel
theorem dX2_leastBeyond_29 : decode cX2_leastBeyond 29 = .ok (.iload_n 3, 1) := by decide +kernel
theorem dX2_leastBeyond_30 : decode cX2_leastBeyond 30 = .ok (.iconst (-1), 1) := by decide +kernel
theorem dX2_leastBeyond_31 : decode cX2_leastBeyond 31 = .ok (.if_icmp .eq 9, 3) := by decide +kernel
theorem dX2_leastBeyond_34 : decode cX2_leastBeyond 34 = .ok (.iload 5, 2) := by decide +kernel
theorem dX2_leastBeyond_36 : decode cX2_leastBeyond 36 = .ok (.iload_n 3, 1) := by decide +kernel
theorem dX2_leastBeyond_37 : decode cX2_leastBeyond 37 = .ok (.if_icmp .ge 6, 3) := by decide +kernel
theorem dX2_leastBeyond_40 : decode cX2_leastBeyond 40 = .ok (.iload 5, 2) := by decide +kernel
theorem dX2_leastBeyond_42 : decode cX2_leastBeyond 42 = .ok (.istore_n 3, 1) := by decide +kernel
theorem dX2_leastBeyond_43 : decode cX2_leastBeyond 43 = .ok (.iinc 4 1, 3) := by decide +kernel
theorem dX2_leastBeyond_46 : decode cX2_leastBeyond 46 = .ok (.goto (-41), 3) := by decide +kernel
theorem dX2_leastBeyond_49 : decode cX2_leastBeyond 49 = .ok (.iload_n 3, 1) := by decide +kernel
theorem dX2_leastBeyond_50 : decode cX2_leastBeyond 50 = .ok (.ireturn, 1) := by decide +kernel
theorem dX2_tie_0 : decode cX2_tie 0 = .ok (.aload_n 0, 1) := by decide +kernel
theorem dX2_tie_1 : decode cX2_tie 1 = .ok (.iload_n 1, 1) := by decide +kernel
theorem dX2_tie_2 : decode cX2_tie 2 = .ok (.iload_n 2, 1) := by decide +kernel
theorem dX2_tie_3 : decode cX2_tie 3 = .ok (.invokevirtual 36, 3) := by decide +kernel
theorem dX2_tie_6 : decode cX2_tie 6 = .ok (.ifCond .eq 40, 3) := by decide +kernel
theorem dX2_tie_9 : decode cX2_tie 9 = .ok (.aload_n 0, 1) := by decide +kernel
theorem dX2_tie_10 : decode cX2_tie 10 = .ok (.iload_n 2, 1) := by decide +kernel
theorem dX2_tie_11 : decode cX2_tie 11 = .ok (.iload_n 1, 1) := by decide +kernel
theorem dX2_tie_12 : decode cX2_tie 12 = .ok (.invokevirtual 36, 3) := by decide +kernel
theorem dX2_tie_15 : decode cX2_tie 15 = .ok (.ifCond .eq 31, 3) := by decide +kernel
theorem dX2_tie_18 : decode cX2_tie 18 = .ok (.aload_n 0, 1) := by decide +kernel
theorem dX2_tie_19 : decode cX2_tie 19 = .ok (.getfield 24, 3) := by decide +kernel
theorem dX2_tie_22 : decode cX2_tie 22 = .ok (.iload_n 1, 1) := by decide +kernel
theorem dX2_tie_23 : decode cX2_tie 23 = .ok (.aload_n 0, 1) := by decide +kernel
theorem dX2_tie_24 : decode cX2_tie 24 = .ok (.getfield 22, 3) := by decide +kernel
theorem dX2_tie_27 : decode cX2_tie 27 = .ok (.imul, 1) := by decide +kernel
theorem dX2_tie_28 : decode cX2_tie 28 = .ok (.iload_n 2, 1) := by decide +kernel
theorem dX2_tie_29 : decode cX2_tie 29 = .ok (.iadd, 1) := by decide +kernel
theorem dX2_tie_30 : decode cX2_tie 30 = .ok (.iload_n 2, 1) := by decide +kernel
theorem dX2_tie_31 : decode cX2_tie 31 = .ok (.iastore, 1) := by decide +kernel
theorem dX2_tie_32 : decode cX2_tie 32 = .ok (.aload_n 0, 1) := by decide +kernel
theorem dX2_tie_33 : decode cX2_tie 33 = .ok (.getfield 24, 3) := by decide +kernel
theorem dX2_tie_36 : decode cX2_tie 36 = .ok (.iload_n 2, 1) := by decide +kernel
theorem dX2_tie_37 : decode cX2_tie 37 = .ok (.aload_n 0, 1) := by decide +kernel
theorem dX2_tie_38 : decode cX2_tie 38 = .ok (.getfield 22, 3) := by decide +kernel
theorem dX2_tie_41 : decode cX2_tie 41 = .ok (.imul, 1) := by decide +kernel
theorem dX2_tie_42 : decode cX2_tie 42 = .ok (.iload_n 1, 1) := by decide +kernel
theorem dX2_tie_43 : decode cX2_tie 43 = .ok (.iadd, 1) := by decide +kernel
theorem dX2_tie_44 : decode cX2_tie 44 = .ok (.iload_n 1, 1) := by decide +kernel
theorem dX2_tie_45 : decode cX2_tie 45 = .ok (.iastore, 1) := by decide +kernel
theorem dX2_tie_46 : decode cX2_tie 46 = .ok (.return_, 1) := by decide +kernel
theorem dX2_setWall_0 : decode cX2_setWall 0 = .ok (.aload_n 0, 1) := by decide +kernel
theorem dX2_setWall_1 : decode cX2_setWall 1 = .ok (.iload_n 1, 1) := by decide +kernel
theorem dX2_setWall_2 : decode cX2_setWall 2 = .ok (.iload_n 2, 1) := by decide +kernel
theorem dX2_setWall_3 : decode cX2_setWall 3 = .ok (.invokevirtual 36, 3) := by decide +kernel
theorem dX2_setWall_6 : decode cX2_setWall 6 = .ok (.ifCond .eq 17, 3) := by decide +kernel
theorem dX2_setWall_9 : decode cX2_setWall 9 = .ok (.aload_n 0, 1) := by decide +kernel
theorem dX2_setWall_10 : decode cX2_setWall 10 = .ok (.getfield 28, 3) := by decide +kernel
theorem dX2_setWall_13 : decode cX2_setWall 13 = .ok (.iload_n 1, 1) := by decide +kernel
theorem dX2_setWall_14 : decode cX2_setWall 14 = .ok (.aload_n 0, 1) := by decide +kernel
theorem dX2_setWall_15 : decode cX2_setWall 15 = .ok (.getfield 22, 3) := by decide +kernel
theorem dX2_setWall_18 : decode cX2_setWall 18 = .ok (.imul, 1) := by decide +kernel
theorem dX2_setWall_19 : decode cX2_setWall 19 = .ok (.iload_n 2, 1) := by decide +kernel
theorem dX2_setWall_20 : decode cX2_setWall 20 = .ok (.iadd, 1) := by decide +kernel
theorem dX2_setWall_21 : decode cX2_setWall 21 = .ok (.iload_n 3, 1) := by decide +kernel
theorem dX2_setWall_22 : decode cX2_setWall 22 = .ok (.bastore, 1) := by decide +kernel
theorem dX2_setWall_23 : decode cX2_setWall 23 = .ok (.return_, 1) := by decide +kernel
theorem dX3_init_0 : decode cX3_init 0 = .ok (.aload_n 0, 1) := by decide +kernel
theorem dX3_init_1 : decode cX3_init 1 = .ok (.invokespecial 3, 3) := by decide +kernel
theorem dX3_init_4 : decode cX3_init 4 = .ok (.aload_n 0, 1) := by decide +kernel
theorem dX3_init_5 : decode cX3_init 5 = .ok (.iload_n 1, 1) := by decide +kernel
theorem dX3_init_6 : decode cX3_init 6 = .ok (.ifCond .ge 7, 3) := by decide +kernel
theorem dX3_init_9 : decode cX3_init 9 = .ok (.iconst 0, 1) := by decide +kernel
theorem dX3_init_10 : decode cX3_init 10 = .ok (.goto 4, 3) := by decide +kernel
theorem dX3_init_13 : decode cX3_init 13 = .ok (.iload_n 1, 1) := by decide +kernel
theorem dX3_init_14 : decode cX3_init 14 = .ok (.newarray .int, 2) := by decide +kernel
theorem dX3_init_16 : decode cX3_init 16 = .ok (.putfield 9, 3) := by decide +kernel
theorem dX3_init_19 : decode cX3_init 19 = .ok (.return_, 1) := by decide +kernel
theorem dX3_length_0 : decode cX3_length 0 = .ok (.aload_n 0, 1) := by decide +kernel
theorem dX3_length_1 : decode cX3_length 1 = .ok (.getfield 15, 3) := by decide +kernel
theorem dX3_length_4 : decode cX3_length 4 = .ok (.ireturn, 1) := by decide +kernel
theorem dX3_at_0 : decode cX3_at 0 = .ok (.iload_n 1, 1) := by decide +kernel
theorem dX3_at_1 : decode cX3_at 1 = .ok (.ifCond .lt 29, 3) := by decide +kernel
theorem dX3_at_4 : decode cX3_at 4 = .ok (.iload_n 1, 1) := by decide +kernel
theorem dX3_at_5 : decode cX3_at 5 = .ok (.aload_n 0, 1) := by decide +kernel
theorem dX3_at_6 : decode cX3_at 6 = .ok (.getfield 15, 3) := by decide +kernel
theorem dX3_at_9 : decode cX3_at 9 = .ok (.if_icmp .ge 21, 3) := by decide +kernel
theorem dX3_at_12 : decode cX3_at 12 = .ok (.iload_n 1, 1) := by decide +kernel
theorem dX3_at_13 : decode cX3_at 13 = .ok (.aload_n 0, 1) := by decide +kernel
theorem dX3_at_14 : decode cX3_at 14 = .ok (.getfield 9, 3) := by decide +kernel
theorem dX3_at_17 : decode cX3_at 17 = .ok (.arraylength, 1) := by decide +kernel
theorem dX3_at_18 : decode cX3_at 18 = .ok (.if_icmp .ge 12, 3) := by decide +kernel
theorem dX3_at_21 : decode cX3_at 21 = .ok (.aload_n 0, 1) := by decide +kernel
theorem dX3_at_22 : decode cX3_at 22 = .ok (.getfield 9, 3) := by decide +kernel
theorem dX3_at_25 : decode cX3_at 25 = .ok (.iload_n 1, 1) := by decide +kernel
theorem dX3_at_26 : decode cX3_at 26 = .ok (.iaload, 1) := by decide +kernel
theorem dX3_at_27 : decode cX3_at 27 = .ok (.goto 4, 3) := by decide +kernel
theorem dX3_at_30 : decode cX3_at 30 = .ok (.iconst (-1), 1) := by decide +kernel
theorem dX3_at_31 : decode cX3_at 31 = .ok (.ireturn, 1) := by decide +kernel
theorem dX3_put_0 : decode cX3_put 0 = .ok (.aload_n 0, 1) := by decide +kernel
theorem dX3_put_1 : decode cX3_put 1 = .ok (.getfield 15, 3) := by decide +kernel
theorem dX3_put_4 : decode cX3_put 4 = .ok (.ifCond .lt 15, 3) := by decide +kernel
theorem dX3_put_7 : decode cX3_put 7 = .ok (.aload_n 0, 1) := by decide +kernel
theorem dX3_put_8 : decode cX3_put 8 = .ok (.getfield 15, 3) := by decide +kernel
theorem dX3_put_11 : decode cX3_put 11 = .ok (.aload_n 0, 1) := by decide +kernel
theorem dX3_put_12 : decode cX3_put 12 = .ok (.getfield 9, 3) := by decide +kernel
theorem dX3_put_15 : decode cX3_put 15 = .ok (.arraylength, 1) := by decide +kernel
theorem dX3_put_16 : decode cX3_put 16 = .ok (.if_icmp .lt 5, 3) := by decide +kernel
theorem dX3_put_19 : decode cX3_put 19 = .ok (.iconst 0, 1) := by decide +kernel
theorem dX3_put_20 : decode cX3_put 20 = .ok (.ireturn, 1) := by decide +kernel
theorem dX3_put_21 : decode cX3_put 21 = .ok (.aload_n 0, 1) := by decide +kernel
theorem dX3_put_22 : decode cX3_put 22 = .ok (.getfield 9, 3) := by decide +kernel
theorem dX3_put_25 : decode cX3_put 25 = .ok (.aload_n 0, 1) := by decide +kernel
theorem dX3_put_26 : decode cX3_put 26 = .ok (.getfield 15, 3) := by decide +kernel
theorem dX3_put_29 : decode cX3_put 29 = .ok (.iload_n 1, 1) := by decide +kernel
theorem dX3_put_30 : decode cX3_put 30 = .ok (.iastore, 1) := by decide +kernel
theorem dX3_put_31 : decode cX3_put 31 = .ok (.aload_n 0, 1) := by decide +kernel
theorem dX3_put_32 : decode cX3_put 32 = .ok (.dup, 1) := by decide +kernel
theorem dX3_put_33 : decode cX3_put 33 = .ok (.getfield 15, 3) := by decide +kernel
theorem dX3_put_36 : decode cX3_put 36 = .ok (.iconst 1, 1) := by decide +kernel
theorem dX3_put_37 : decode cX3_put 37 = .ok (.iadd, 1) := by decide +kernel
theorem dX3_put_38 : decode cX3_put 38 = .ok (.putfield 15, 3) := by decide +kernel
theorem dX3_put_41 : decode cX3_put 41 = .ok (.iconst 1, 1) := by decide +kernel
theorem dX3_put_42 : decode cX3_put 42 = .ok (.ireturn, 1) := by decide +kernel
theorem dX3_clear_0 : decode cX3_clear 0 = .ok (.aload_n 0, 1) := by decide +kernel
theorem dX3_clear_1 : decode cX3_clear 1 = .ok (.iconst 0, 1) := by decide +kernel
theorem dX3_clear_2 : decode cX3_clear 2 = .ok (.putfield 15, 3) := by decide +kernel
theorem dX3_clear_5 : decode cX3_clear 5 = .ok (.return_, 1) := by decide +kernel
theorem dX4_init_0 : decode cX4_init 0 = .ok (.aload_n 0, 1) := by decide +kernel
theorem dX4_init_1 : decode cX4_init 1 = .ok (.invokespecial 3, 3) := by decide +kernel
theorem dX4_init_4 : decode cX4_init 4 = .ok (.aload_n 0, 1) := by decide +kernel
theorem dX4_init_5 : decode cX4_init 5 = .ok (.new 9, 3) := by decide +kernel
theorem dX4_init_8 : decode cX4_init 8 = .ok (.dup, 1) := by decide +kernel
theorem dX4_init_9 : decode cX4_init 9 = .ok (.iconst 3, 1) := by decide +kernel
theorem dX4_init_10 : decode cX4_init 10 = .ok (.aload_n 1, 1) := by decide +kernel
theorem dX4_init_11 : decode cX4_init 11 = .ok (.getfield 11, 3) := by decide +kernel
theorem dX4_init_14 : decode cX4_init 14 = .ok (.imul, 1) := by decide +kernel
theorem dX4_init_15 : decode cX4_init 15 = .ok (.invokespecial 17, 3) := by decide +kernel
theorem dX4_init_18 : decode cX4_init 18 = .ok (.putfield 20, 3) := by decide +kernel
theorem dX4_init_21 : decode cX4_init 21 = .ok (.return_, 1) := by decide +kernel
theorem dX4_spell_0 : decode cX4_spell 0 = .ok (.aload_n 0, 1) := by decide +kernel
theorem dX4_spell_1 : decode cX4_spell 1 = .ok (.getfield 20, 3) := by decide +kernel
theorem dX4_spell_4 : decode cX4_spell 4 = .ok (.invokevirtual 26, 3) := by decide +kernel
theorem dX4_spell_7 : decode cX4_spell 7 = .ok (.iconst 0, 1) := by decide +kernel
theorem dX4_spell_8 : decode cX4_spell 8 = .ok (.istore_n 2, 1) := by decide +kernel
theorem dX4_spell_9 : decode cX4_spell 9 = .ok (.iconst 0, 1) := by decide +kernel
theorem dX4_spell_10 : decode cX4_spell 10 = .ok (.istore_n 3, 1) := by decide +kernel
theorem dX4_spell_11 : decode cX4_spell 11 = .ok (.iload_n 3, 1) := by decide +kernel
theorem dX4_spell_12 : decode cX4_spell 12 = .ok (.aload_n 1, 1) := by decide +kernel
theorem dX4_spell_13 : decode cX4_spell 13 = .ok (.arraylength, 1) := by decide +kernel
theorem dX4_spell_14 : decode cX4_spell 14 = .ok (.if_icmp .ge 53, 3) := by decide +kernel
theorem dX4_spell_17 : decode cX4_spell 17 = .ok (.aload_n 1, 1) := by decide +kernel
theorem dX4_spell_18 : decode cX4_spell 18 = .ok (.iload_n 3, 1) := by decide +kernel
theorem dX4_spell_19 : decode cX4_spell 19 = .ok (.iaload, 1) := by decide +kernel
theorem dX4_spell_20 : decode cX4_spell 20 = .ok (.ifCond .ne 9, 3) := by decide +kernel
theorem dX4_spell_23 : decode cX4_spell 23 = .ok (.iinc 2 1, 3) := by decide +kernel
theorem dX4_spell_26 : decode cX4_spell 26 = .ok (.goto 35, 3) := by decide +kernel
theorem dX4_spell_29 : decode cX4_spell 29 = .ok (.iload_n 3, 1) := by decide +kernel
theorem dX4_spell_30 : decode cX4_spell 30 = .ok (.ifCond .le 17, 3) := by decide +kernel
theorem dX4_spell_33 : decode cX4_spell 33 = .ok (.iload_n 2, 1) := by decide +kernel
theorem dX4_spell_34 : decode cX4_spell 34 = .ok (.ifCond .ne 13, 3) := by decide +kernel
theorem dX4_spell_37 : decode cX4_spell 37 = .ok (.aload_n 0, 1) := by decide +kernel
theorem dX4_spell_38 : decode cX4_spell 38 = .ok (.getfield 20, 3) := by decide +kernel
theorem dX4_spell_41 : decode cX4_spell 41 = .ok (.bipush 32, 2) := by decide +kernel
theorem dX4_spell_43 : decode cX4_spell 43 = .ok (.invokevirtual 29, 3) := by decide +kernel
theorem dX4_spell_46 : decode cX4_spell 46 = .ok (.pop, 1) := by decide +kernel
theorem dX4_spell_47 : decode cX4_spell 47 = .ok (.aload_n 0, 1) := by decide +kernel
theorem dX4_spell_48 : decode cX4_spell 48 = .ok (.iload_n 2, 1) := by decide +kernel
theorem dX4_spell_49 : decode cX4_spell 49 = .ok (.invokevirtual 33, 3) := by decide +kernel
theorem dX4_spell_52 : decode cX4_spell 52 = .ok (.aload_n 0, 1) := by decide +kernel
theorem dX4_spell_53 : decode cX4_spell 53 = .ok (.aload_n 1, 1) := by decide +kernel
theorem dX4_spell_54 : decode cX4_spell 54 = .ok (.iload_n 3, 1) := by decide +kernel
theorem dX4_spell_55 : decode cX4_spell 55 = .ok (.iaload, 1) := by decide +kernel
theorem dX4_spell_56 : decode cX4_spell 56 = .ok (.invokevirtual 36, 3) := by decide +kernel
theorem dX4_spell_59 : decode cX4_spell 59 = .ok (.iconst 0, 1) := by decide +kernel
theorem dX4_spell_60 : decode cX4_spell 60 = .ok (.istore_n 2, 1) := by decide +kernel
theorem dX4_spell_61 : decode cX4_spell 61 = .ok (.iinc 3 1, 3) := by decide +kernel
theorem dX4_spell_64 : decode cX4_spell 64 = .ok (.goto (-53), 3) := by decide +kernel
theorem dX4_spell_67 : decode cX4_spell 67 = .ok (.aload_n 0, 1) := by decide +kernel
theorem dX4_spell_68 : decode cX4_spell 68 = .ok (.iload_n 2, 1) := by decide +kernel
theorem dX4_spell_69 : decode cX4_spell 69 = .ok (.invokevirtual 33, 3) := by decide +kernel
theorem dX4_spell_72 : decode cX4_spell 72 = .ok (.return_, 1) := by decide +kernel
theorem dX4_spellEmpty_0 : decode cX4_spellEmpty 0 = .ok (.iload_n 1, 1) := by decide +kernel
theorem dX4_spellEmpty_1 : decode cX4_spellEmpty 1 = .ok (.istore_n 2, 1) := by decide +kernel
theorem dX4_spellEmpty_2 : decode cX4_spellEmpty 2 = .ok (.iload_n 2, 1) := by decide +kernel
theorem dX4_spellEmpty_3 : decode cX4_spellEmpty 3 = .ok (.bipush 26, 2) := by decide +kernel
theorem dX4_spellEmpty_5 : decode cX4_spellEmpty 5 = .ok (.if_icmp .lt 19, 3) := by decide +kernel
theorem dX4_spellEmpty_8 : decode cX4_spellEmpty 8 = .ok (.aload_n 0, 1) := by decide +kernel
theorem dX4_spellEmpty_9 : decode cX4_spellEmpty 9 = .ok (.getfield 20, 3) := by decide +kernel
theorem dX4_spellEmpty_12 : decode cX4_spellEmpty 12 = .ok (.bipush 122, 2) := by decide +kernel
theorem dX4_spellEmpty_14 : decode cX4_spellEmpty 14 = .ok (.invokevirtual 29, 3) := by decide +kernel
theorem dX4_spellEmpty_17 : decode cX4_spellEmpty 17 = .ok (.pop, 1) := by decide +kernel
theorem dX4_spellEmpty_18 : decode cX4_spellEmpty 18 = .ok (.iinc 2 (-26), 3) := by decide +kernel
theorem dX4_spellEmpty_21 : decode cX4_spellEmpty 21 = .ok (.goto (-19), 3) := by decide +kernel
theorem dX4_spellEmpty_24 : decode cX4_spellEmpty 24 = .ok (.iload_n 2, 1) := by decide +kernel
theorem dX4_spellEmpty_25 : decode cX4_spellEmpty 25 = .ok (.ifCond .le 15, 3) := by decide +kernel
theorem dX4_spellEmpty_28 : decode cX4_spellEmpty 28 = .ok (.aload_n 0, 1) := by decide +kernel
theorem dX4_spellEmpty_29 : decode cX4_spellEmpty 29 = .ok (.getfield 20, 3) := by decide +kernel
theorem dX4_spellEmpty_32 : decode cX4_spellEmpty 32 = .ok (.bipush 96, 2) := by decide +kernel
theorem dX4_spellEmpty_34 : decode cX4_spellEmpty 34 = .ok (.iload_n 2, 1) := by decide +kernel
theorem dX4_spellEmpty_35 : decode cX4_spellEmpty 35 = .ok (.iadd, 1) := by decide +kernel
theorem dX4_spellEmpty_36 : decode cX4_spellEmpty 36 = .ok (.invokevirtual 29, 3) := by decide +kernel
theorem dX4_spellEmpty_39 : decode cX4_spellEmpty 39 = .ok (.pop, 1) := by decide +kernel
theorem dX4_spellEmpty_40 : decode cX4_spellEmpty 40 = .ok (.return_, 1) := by decide +kernel
theorem dX4_spellNumber_0 : decode cX4_spellNumber 0 = .ok (.iload_n 1, 1) := by decide +kernel
theorem dX4_spellNumber_1 : decode cX4_spellNumber 1 = .ok (.bipush 10, 2) := by decide +kernel
theorem dX4_spellNumber_3 : decode cX4_spellNumber 3 = .ok (.if_icmp .lt 18, 3) := by decide +kernel
theorem dX4_spellNumber_6 : decode cX4_spellNumber 6 = .ok (.aload_n 0, 1) := by decide +kernel
theorem dX4_spellNumber_7 : decode cX4_spellNumber 7 = .ok (.getfield 20, 3) := by decide +kernel
theorem dX4_spellNumber_10 : decode cX4_spellNumber 10 = .ok (.bipush 48, 2) := by decide +kernel
theorem dX4_spellNumber_12 : decode cX4_spellNumber 12 = .ok (.iload_n 1, 1) := by decide +kernel
theorem dX4_spellNumber_13 : decode cX4_spellNumber 13 = .ok (.bipush 10, 2) := by decide +kernel
theorem dX4_spellNumber_15 : decode cX4_spellNumber 15 = .ok (.idiv, 1) := by decide +kernel
theorem dX4_spellNumber_16 : decode cX4_spellNumber 16 = .ok (.iadd, 1) := by decide +kernel
theorem dX4_spellNumber_17 : decode cX4_spellNumber 17 = .ok (.invokevirtual 29, 3) := by decide +kernel
theorem dX4_spellNumber_20 : decode cX4_spellNumber 20 = .ok (.pop, 1) := by decide +kernel
theorem dX4_spellNumber_21 : decode cX4_spellNumber 21 = .ok (.aload_n 0, 1) := by decide +kernel
theorem dX4_spellNumber_22 : decode cX4_spellNumber 22 = .ok (.getfield 20, 3) := by decide +kernel
theorem dX4_spellNumber_25 : decode cX4_spellNumber 25 = .ok (.bipush 48, 2) := by decide +kernel
theorem dX4_spellNumber_27 : decode cX4_spellNumber 27 = .ok (.iload_n 1, 1) := by decide +kernel
theorem dX4_spellNumber_28 : decode cX4_spellNumber 28 = .ok (.bipush 10, 2) := by decide +kernel
theorem dX4_spellNumber_30 : decode cX4_spellNumber 30 = .ok (.irem, 1) := by decide +kernel
theorem dX4_spellNumber_31 : decode cX4_spellNumber 31 = .ok (.iadd, 1) := by decide +kernel
theorem dX4_spellNumber_32 : decode cX4_spellNumber 32 = .ok (.invokevirtual 29, 3) := by decide +kernel
theorem dX4_spellNumber_35 : decode cX4_spellNumber 35 = .ok (.pop, 1) := by decide +kernel
theorem dX4_spellNumber_36 : decode cX4_spellNumber 36 = .ok (.return_, 1) := by decide +kernel
theorem dX5_init_0 : decode cX5_init 0 = .ok (.aload_n 0, 1) := by decide +kernel
theorem dX5_init_1 : decode cX5_init 1 = .ok (.invokespecial 3, 3) := by decide +kernel
theorem dX5_init_4 : decode cX5_init 4 = .ok (.aload_n 0, 1) := by decide +kernel
theorem dX5_init_5 : decode cX5_init 5 = .ok (.aload_n 1, 1) := by decide +kernel
theorem dX5_init_6 : decode cX5_init 6 = .ok (.putfield 9, 3) := by decide +kernel
theorem dX5_init_9 : decode cX5_init 9 = .ok (.aload_n 1, 1) := by decide +kernel
theorem dX5_init_10 : decode cX5_init 10 = .ok (.getfield 15, 3) := by decide +kernel
theorem dX5_init_13 : decode cX5_init 13 = .ok (.iconst 4, 1) := by decide +kernel
theorem dX5_init_14 : decode cX5_init 14 = .ok (.if_icmp .ne 11, 3) := by decide +kernel
theorem dX5_init_17 : decode cX5_init 17 = .ok (.aload_n 0, 1) := by decide +kernel
theorem dX5_init_18 : decode cX5_init 18 = .ok (.iconst 1, 1) := by decide +kernel
theorem dX5_init_19 : decode cX5_init 19 = .ok (.putfield 21, 3) := by decide +kernel
theorem dX5_init_22 : decode cX5_init 22 = .ok (.goto 45, 3) := by decide +kernel
theorem dX5_init_25 : decode cX5_init 25 = .ok (.aload_n 1, 1) := by decide +kernel
theorem dX5_init_26 : decode cX5_init 26 = .ok (.getfield 15, 3) := by decide +kernel
theorem dX5_init_29 : decode cX5_init 29 = .ok (.iconst 3, 1) := by decide +kernel
theorem dX5_init_30 : decode cX5_init 30 = .ok (.if_icmp .ne 16, 3) := by decide +kernel
theorem dX5_init_33 : decode cX5_init 33 = .ok (.aload_n 0, 1) := by decide +kernel
theorem dX5_init_34 : decode cX5_init 34 = .ok (.iconst 2, 1) := by decide +kernel
theorem dX5_init_35 : decode cX5_init 35 = .ok (.aload_n 1, 1) := by decide +kernel
theorem dX5_init_36 : decode cX5_init 36 = .ok (.getfield 24, 3) := by decide +kernel
theorem dX5_init_39 : decode cX5_init 39 = .ok (.imul, 1) := by decide +kernel
theorem dX5_init_40 : decode cX5_init 40 = .ok (.putfield 21, 3) := by decide +kernel
theorem dX5_init_43 : decode cX5_init 43 = .ok (.goto 24, 3) := by decide +kernel
theorem dX5_init_46 : decode cX5_init 46 = .ok (.aload_n 0, 1) := by decide +kernel
theorem dX5_init_47 : decode cX5_init 47 = .ok (.aload_n 1, 1) := by decide +kernel
theorem dX5_init_48 : decode cX5_init 48 = .ok (.getfield 24, 3) := by decide +kernel
theorem dX5_init_51 : decode cX5_init 51 = .ok (.aload_n 1, 1) := by decide +kernel
theorem dX5_init_52 : decode cX5_init 52 = .ok (.getfield 27, 3) := by decide +kernel
theorem dX5_init_55 : decode cX5_init 55 = .ok (.if_icmp .ne 8, 3) := by decide +kernel
theorem dX5_init_58 : decode cX5_init 58 = .ok (.bipush 8, 2) := by decide +kernel
theorem dX5_init_60 : decode cX5_init 60 = .ok (.goto 4, 3) := by decide +kernel
theorem dX5_init_63 : decode cX5_init 63 = .ok (.iconst 4, 1) := by decide +kernel
theorem dX5_init_64 : decode cX5_init 64 = .ok (.putfield 21, 3) := by decide +kernel
theorem dX5_init_67 : decode cX5_init 67 = .ok (.return_, 1) := by decide +kernel
theorem dX5_has_0 : decode cX5_has 0 = .ok (.iload_n 1, 1) := by decide +kernel
theorem dX5_has_1 : decode cX5_has 1 = .ok (.ifCond .lt 15, 3) := by decide +kernel
theorem dX5_has_4 : decode cX5_has 4 = .ok (.iload_n 1, 1) := by decide +kernel
theorem dX5_has_5 : decode cX5_has 5 = .ok (.aload_n 0, 1) := by decide +kernel
theorem dX5_has_6 : decode cX5_has 6 = .ok (.getfield 21, 3) := by decide +kernel
theorem dX5_has_9 : decode cX5_has 9 = .ok (.if_icmp .ge 7, 3) := by decide +kernel
theorem dX5_has_12 : decode cX5_has 12 = .ok (.iconst 1, 1) := by decide +kernel
theorem dX5_has_13 : decode cX5_has 13 = .ok (.goto 4, 3) := by decide +kernel
theorem dX5_has_16 : decode cX5_has 16 = .ok (.iconst 0, 1) := by decide +kernel
theorem dX5_has_17 : decode cX5_has 17 = .ok (.ireturn, 1) := by decide +kernel
theorem dX5_placeAfter_0 : decode cX5_placeAfter 0 = .ok (.aload_n 0, 1) := by decide +kernel
theorem dX5_placeAfter_1 : decode cX5_placeAfter 1 = .ok (.getfield 9, 3) := by decide +kernel
theorem dX5_placeAfter_4 : decode cX5_placeAfter 4 = .ok (.iload_n 2, 1) := by decide +kernel
theorem dX5_placeAfter_5 : decode cX5_placeAfter 5 = .ok (.invokevirtual 30, 3) := by decide +kernel
theorem dX5_placeAfter_8 : decode cX5_placeAfter 8 = .ok (.istore_n 3, 1) := by decide +kernel
theorem dX5_placeAfter_9 : decode cX5_placeAfter 9 = .ok (.aload_n 0, 1) := by decide +kernel
theorem dX5_placeAfter_10 : decode cX5_placeAfter 10 = .ok (.getfield 9, 3) := by decide +kernel
theorem dX5_placeAfter_13 : decode cX5_placeAfter 13 = .ok (.iload_n 2, 1) := by decide +kernel
theorem dX5_placeAfter_14 : decode cX5_placeAfter 14 = .ok (.invokevirtual 34, 3) := by decide +kernel
theorem dX5_placeAfter_17 : decode cX5_placeAfter 17 = .ok (.istore 4, 2) := by decide +kernel
theorem dX5_placeAfter_19 : decode cX5_placeAfter 19 = .ok (.aload_n 0, 1) := by decide +kernel
theorem dX5_placeAfter_20 : decode cX5_placeAfter 20 = .ok (.getfield 9, 3) := by decide +kernel
theorem dX5_placeAfter_23 : decode cX5_placeAfter 23 = .ok (.getfield 15, 3) := by decide +kernel
theorem dX5_placeAfter_26 : decode cX5_placeAfter 26 = .ok (.iconst 3, 1) := by decide +kernel
theorem dX5_placeAfter_27 : decode cX5_placeAfter 27 = .ok (.if_icmp .ne 19, 3) := by decide +kernel
theorem dX5_placeAfter_30 : decode cX5_placeAfter 30 = .ok (.aload_n 0, 1) := by decide +kernel
theorem dX5_placeAfter_31 : decode cX5_placeAfter 31 = .ok (.getfield 9, 3) := by decide +kernel
theorem dX5_placeAfter_34 : decode cX5_placeAfter 34 = .ok (.aload_n 0, 1) := by decide +kernel
theorem dX5_placeAfter_35 : decode cX5_placeAfter 35 = .ok (.iload_n 1, 1) := by decide +kernel
theorem dX5_placeAfter_36 : decode cX5_placeAfter 36 = .ok (.iload_n 3, 1) := by decide +kernel
theorem dX5_placeAfter_37 : decode cX5_placeAfter 37 = .ok (.invokevirtual 37, 3) := by decide +kernel
theorem dX5_placeAfter_40 : decode cX5_placeAfter 40 = .ok (.iload 4, 2) := by decide +kernel
theorem dX5_placeAfter_42 : decode cX5_placeAfter 42 = .ok (.invokevirtual 41, 3) := by decide +kernel
theorem dX5_placeAfter_45 : decode cX5_placeAfter 45 = .ok (.ireturn, 1) := by decide +kernel
theorem dX5_placeAfter_46 : decode cX5_placeAfter 46 = .ok (.iload_n 1, 1) := by decide +kernel
theorem dX5_placeAfter_47 : decode cX5_placeAfter 47 = .ok (.iconst 4, 1) := by decide +kernel
theorem dX5_placeAfter_48 : decode cX5_placeAfter 48 = .ok (.iand, 1) := by decide +kernel
theorem dX5_placeAfter_49 : decode cX5_placeAfter 49 = .ok (.ifCond .eq 7, 3) := by decide +kernel
theorem dX5_placeAfter_52 : decode cX5_placeAfter 52 = .ok (.iconst 1, 1) := by decide +kernel
theorem dX5_placeAfter_53 : decode cX5_placeAfter 53 = .ok (.goto 4, 3) := by decide +kernel
theorem dX5_placeAfter_56 : decode cX5_placeAfter 56 = .ok (.iconst 0, 1) := by decide +kernel
theorem dX5_placeAfter_57 : decode cX5_placeAfter 57 = .ok (.istore 5, 2) := by decide +kernel
theorem dX5_placeAfter_59 : decode cX5_placeAfter 59 = .ok (.iload 5, 2) := by decide +kernel
theorem dX5_placeAfter_61 : decode cX5_placeAfter 61 = .ok (.ifCond .eq 8, 3) := by decide +kernel
theorem dX5_placeAfter_64 : decode cX5_placeAfter 64 = .ok (.iload 4, 2) := by decide +kernel
theorem dX5_placeAfter_66 : decode cX5_placeAfter 66 = .ok (.goto 4, 3) := by decide +kernel
theorem dX5_placeAfter_69 : decode cX5_placeAfter 69 = .ok (.iload_n 3, 1) := by decide +kernel
theorem dX5_placeAfter_70 : decode cX5_placeAfter 70 = .ok (.istore 6, 2) := by decide +kernel
theorem dX5_placeAfter_72 : decode cX5_placeAfter 72 = .ok (.iload 5, 2) := by decide +kernel
theorem dX5_placeAfter_74 : decode cX5_placeAfter 74 = .ok (.ifCond .eq 7, 3) := by decide +kernel
theorem dX5_placeAfter_77 : decode cX5_placeAfter 77 = .ok (.iload_n 3, 1) := by decide +kernel
theorem dX5_placeAfter_78 : decode cX5_placeAfter 78 = .ok (.goto 5, 3) := by decide +kernel
theorem dX5_placeAfter_81 : decode cX5_placeAfter 81 = .ok (.iload 4, 2) := by decide +kernel
theorem dX5_placeAfter_83 : decode cX5_placeAfter 83 = .ok (.istore 7, 2) := by decide +kernel
theorem dX5_placeAfter_85 : decode cX5_placeAfter 85 = .ok (.iload_n 1, 1) := by decide +kernel
theorem dX5_placeAfter_86 : decode cX5_placeAfter 86 = .ok (.iconst 1, 1) := by decide +kernel
theorem dX5_placeAfter_87 : decode cX5_placeAfter 87 = .ok (.iand, 1) := by decide +kernel
theorem dX5_placeAfter_88 : decode cX5_placeAfter 88 = .ok (.ifCond .eq 18, 3) := by decide +kernel
theorem dX5_placeAfter_91 : decode cX5_placeAfter 91 = .ok (.aload_n 0, 1) := by decide +kernel
theorem dX5_placeAfter_92 : decode cX5_placeAfter 92 = .ok (.getfield 9, 3) := by decide +kernel
theorem dX5_placeAfter_95 : decode cX5_placeAfter 95 = .ok (.getfield 24, 3) := by decide +kernel
theorem dX5_placeAfter_98 : decode cX5_placeAfter 98 = .ok (.iconst 1, 1) := by decide +kernel
theorem dX5_placeAfter_99 : decode cX5_placeAfter 99 = .ok (.isub, 1) := by decide +kernel
theorem dX5_placeAfter_100 : decode cX5_placeAfter 100 = .ok (.iload 6, 2) := by decide +kernel
theorem dX5_placeAfter_102 : decode cX5_placeAfter 102 = .ok (.isub, 1) := by decide +kernel
theorem dX5_placeAfter_103 : decode cX5_placeAfter 103 = .ok (.goto 5, 3) := by decide +kernel
theorem dX5_placeAfter_106 : decode cX5_placeAfter 106 = .ok (.iload 6, 2) := by decide +kernel
theorem dX5_placeAfter_108 : decode cX5_placeAfter 108 = .ok (.istore 8, 2) := by decide +kernel
theorem dX5_placeAfter_110 : decode cX5_placeAfter 110 = .ok (.iload_n 1, 1) := by decide +kernel
theorem dX5_placeAfter_111 : decode cX5_placeAfter 111 = .ok (.iconst 2, 1) := by decide +kernel
theorem dX5_placeAfter_112 : decode cX5_placeAfter 112 = .ok (.iand, 1) := by decide +kernel
theorem dX5_placeAfter_113 : decode cX5_placeAfter 113 = .ok (.ifCond .eq 18, 3) := by decide +kernel
theorem dX5_placeAfter_116 : decode cX5_placeAfter 116 = .ok (.aload_n 0, 1) := by decide +kernel
theorem dX5_placeAfter_117 : decode cX5_placeAfter 117 = .ok (.getfield 9, 3) := by decide +kernel
theorem dX5_placeAfter_120 : decode cX5_placeAfter 120 = .ok (.getfield 27, 3) := by decide +kernel
theorem dX5_placeAfter_123 : decode cX5_placeAfter 123 = .ok (.iconst 1, 1) := by decide +kernel
theorem dX5_placeAfter_124 : decode cX5_placeAfter 124 = .ok (.isub, 1) := by decide +kernel
theorem dX5_placeAfter_125 : decode cX5_placeAfter 125 = .ok (.iload 7, 2) := by decide +kernel
theorem dX5_placeAfter_127 : decode cX5_placeAfter 127 = .ok (.isub, 1) := by decide +kernel
theorem dX5_placeAfter_128 : decode cX5_placeAfter 128 = .ok (.goto 5, 3) := by decide +kernel
theorem dX5_placeAfter_131 : decode cX5_placeAfter 131 = .ok (.iload 7, 2) := by decide +kernel
theorem dX5_placeAfter_133 : decode cX5_placeAfter 133 = .ok (.istore 9, 2) := by decide +kernel
theorem dX5_placeAfter_135 : decode cX5_placeAfter 135 = .ok (.aload_n 0, 1) := by decide +kernel
theorem dX5_placeAfter_136 : decode cX5_placeAfter 136 = .ok (.getfield 9, 3) := by decide +kernel
theorem dX5_placeAfter_139 : decode cX5_placeAfter 139 = .ok (.iload 8, 2) := by decide +kernel
theorem dX5_placeAfter_141 : decode cX5_placeAfter 141 = .ok (.iload 9, 2) := by decide +kernel
theorem dX5_placeAfter_143 : decode cX5_placeAfter 143 = .ok (.invokevirtual 41, 3) := by decide +kernel
theorem dX5_placeAfter_146 : decode cX5_placeAfter 146 = .ok (.ireturn, 1) := by decide +kernel
theorem dX5_columnAround_0 : decode cX5_columnAround 0 = .ok (.iload_n 1, 1) := by decide +kernel
theorem dX5_columnAround_1 : decode cX5_columnAround 1 = .ok (.iconst 1, 1) := by decide +kernel
theorem dX5_columnAround_2 : decode cX5_columnAround 2 = .ok (.ishr, 1) := by decide +kernel
theorem dX5_columnAround_3 : decode cX5_columnAround 3 = .ok (.istore_n 3, 1) := by decide +kernel
theorem dX5_columnAround_4 : decode cX5_columnAround 4 = .ok (.iload_n 1, 1) := by decide +kernel
theorem dX5_columnAround_5 : decode cX5_columnAround 5 = .ok (.iconst 1, 1) := by decide +kernel
theorem dX5_columnAround_6 : decode cX5_columnAround 6 = .ok (.iand, 1) := by decide +kernel
theorem dX5_columnAround_7 : decode cX5_columnAround 7 = .ok (.ifCond .ne 36, 3) := by decide +kernel
theorem dX5_columnAround_10 : decode cX5_columnAround 10 = .ok (.iload_n 2, 1) := by decide +kernel
theorem dX5_columnAround_11 : decode cX5_columnAround 11 = .ok (.iload_n 3, 1) := by decide +kernel
theorem dX5_columnAround_12 : decode cX5_columnAround 12 = .ok (.iadd, 1) := by decide +kernel
theorem dX5_columnAround_13 : decode cX5_columnAround 13 = .ok (.istore 4, 2) := by decide +kernel
theorem dX5_columnAround_15 : decode cX5_columnAround 15 = .ok (.iload 4, 2) := by decide +kernel
theorem dX5_columnAround_17 : decode cX5_columnAround 17 = .ok (.aload_n 0, 1) := by decide +kernel
theorem dX5_columnAround_18 : decode cX5_columnAround 18 = .ok (.getfield 9, 3) := by decide +kernel
theorem dX5_columnAround_21 : decode cX5_columnAround 21 = .ok (.getfield 24, 3) := by decide +kernel
theorem dX5_columnAround_24 : decode cX5_columnAround 24 = .ok (.if_icmp .lt 16, 3) := by decide +kernel
theorem dX5_columnAround_27 : decode cX5_columnAround 27 = .ok (.iload 4, 2) := by decide +kernel
theorem dX5_columnAround_29 : decode cX5_columnAround 29 = .ok (.aload_n 0, 1) := by decide +kernel
theorem dX5_columnAround_30 : decode cX5_columnAround 30 = .ok (.getfield 9, 3) := by decide +kernel
theorem dX5_columnAround_33 : decode cX5_columnAround 33 = .ok (.getfield 24, 3) := by decide +kernel
theorem dX5_columnAround_36 : decode cX5_columnAround 36 = .ok (.isub, 1) := by decide +kernel
theorem dX5_columnAround_37 : decode cX5_columnAround 37 = .ok (.goto 5, 3) := by decide +kernel
theorem dX5_columnAround_40 : decode cX5_columnAround 40 = .ok (.iload 4, 2) := by decide +kernel
theorem dX5_columnAround_42 : decode cX5_columnAround 42 = .ok (.ireturn, 1) := by decide +kernel
theorem dX5_columnAround_43 : decode cX5_columnAround 43 = .ok (.iload_n 3, 1) := by decide +kernel
theorem dX5_columnAround_44 : decode cX5_columnAround 44 = .ok (.iload_n 2, 1) := by decide +kernel
theorem dX5_columnAround_45 : decode cX5_columnAround 45 = .ok (.isub, 1) := by decide +kernel
theorem dX5_columnAround_46 : decode cX5_columnAround 46 = .ok (.istore 4, 2) := by decide +kernel
theorem dX5_columnAround_48 : decode cX5_columnAround 48 = .ok (.iload 4, 2) := by decide +kernel
theorem dX5_columnAround_50 : decode cX5_columnAround 50 = .ok (.ifCond .ge 16, 3) := by decide +kernel
theorem dX5_columnAround_53 : decode cX5_columnAround 53 = .ok (.iload 4, 2) := by decide +kernel
theorem dX5_columnAround_55 : decode cX5_columnAround 55 = .ok (.aload_n 0, 1) := by decide +kernel
theorem dX5_columnAround_56 : decode cX5_columnAround 56 = .ok (.getfield 9, 3) := by decide +kernel
theorem dX5_columnAround_59 : decode cX5_columnAround 59 = .ok (.getfield 24, 3) := by decide +kernel
theorem dX5_columnAround_62 : decode cX5_columnAround 62 = .ok (.iadd, 1) := by decide +kernel
theorem dX5_columnAround_63 : decode cX5_columnAround 63 = .ok (.goto 5, 3) := by decide +kernel
theorem dX5_columnAround_66 : decode cX5_columnAround 66 = .ok (.iload 4, 2) := by decide +kernel
theorem dX5_columnAround_68 : decode cX5_columnAround 68 = .ok (.ireturn, 1) := by decide +kernel
theorem dX6_init_0 : decode cX6_init 0 = .ok (.aload_n 0, 1) := by decide +kernel
theorem dX6_init_1 : decode cX6_init 1 = .ok (.invokespecial 1, 3) := by decide +kernel
theorem dX6_init_4 : decode cX6_init 4 = .ok (.aload_n 0, 1) := by decide +kernel
theorem dX6_init_5 : decode cX6_init 5 = .ok (.aload_n 2, 1) := by decide +kernel
theorem dX6_init_6 : decode cX6_init 6 = .ok (.putfield 7, 3) := by decide +kernel
theorem dX6_init_9 : decode cX6_init 9 = .ok (.aload_n 0, 1) := by decide +kernel
theorem dX6_init_10 : decode cX6_init 10 = .ok (.aload_n 1, 1) := by decide +kernel
theorem dX6_init_11 : decode cX6_init 11 = .ok (.getfield 13, 3) := by decide +kernel
theorem dX6_init_14 : decode cX6_init 14 = .ok (.newarray .int, 2) := by decide +kernel
theorem dX6_init_16 : decode cX6_init 16 = .ok (.putfield 19, 3) := by decide +kernel
theorem dX6_init_19 : decode cX6_init 19 = .ok (.aload_n 0, 1) := by decide +kernel
theorem dX6_init_20 : decode cX6_init 20 = .ok (.new 23, 3) := by decide +kernel
theorem dX6_init_23 : decode cX6_init 23 = .ok (.dup, 1) := by decide +kernel
theorem dX6_init_24 : decode cX6_init 24 = .ok (.aload_n 1, 1) := by decide +kernel
theorem dX6_init_25 : decode cX6_init 25 = .ok (.getfield 13, 3) := by decide +kernel
theorem dX6_init_28 : decode cX6_init 28 = .ok (.invokespecial 25, 3) := by decide +kernel
theorem dX6_init_31 : decode cX6_init 31 = .ok (.putfield 28, 3) := by decide +kernel
theorem dX6_init_34 : decode cX6_init 34 = .ok (.return_, 1) := by decide +kernel
theorem dX6_admitAll_0 : decode cX6_admitAll 0 = .ok (.iconst 0, 1) := by decide +kernel
theorem dX6_admitAll_1 : decode cX6_admitAll 1 = .ok (.istore_n 1, 1) := by decide +kernel
theorem dX6_admitAll_2 : decode cX6_admitAll 2 = .ok (.iload_n 1, 1) := by decide +kernel
theorem dX6_admitAll_3 : decode cX6_admitAll 3 = .ok (.aload_n 0, 1) := by decide +kernel
theorem dX6_admitAll_4 : decode cX6_admitAll 4 = .ok (.getfield 19, 3) := by decide +kernel
theorem dX6_admitAll_7 : decode cX6_admitAll 7 = .ok (.arraylength, 1) := by decide +kernel
theorem dX6_admitAll_8 : decode cX6_admitAll 8 = .ok (.if_icmp .ge 16, 3) := by decide +kernel
theorem dX6_admitAll_11 : decode cX6_admitAll 11 = .ok (.aload_n 0, 1) := by decide +kernel
theorem dX6_admitAll_12 : decode cX6_admitAll 12 = .ok (.getfield 19, 3) := by decide +kernel
theorem dX6_admitAll_15 : decode cX6_admitAll 15 = .ok (.iload_n 1, 1) := by decide +kernel
theorem dX6_admitAll_16 : decode cX6_admitAll 16 = .ok (.iconst (-1), 1) := by decide +kernel
theorem dX6_admitAll_17 : decode cX6_admitAll 17 = .ok (.iastore, 1) := by decide +kernel
theorem dX6_admitAll_18 : decode cX6_admitAll 18 = .ok (.iinc 1 1, 3) := by decide +kernel
theorem dX6_admitAll_21 : decode cX6_admitAll 21 = .ok (.goto (-19), 3) := by decide +kernel
theorem dX6_admitAll_24 : decode cX6_admitAll 24 = .ok (.return_, 1) := by decide +kernel
theorem dX6_admitArea_0 : decode cX6_admitArea 0 = .ok (.iconst 0, 1) := by decide +kernel
theorem dX6_admitArea_1 : decode cX6_admitArea 1 = .ok (.istore_n 3, 1) := by decide +kernel
theorem dX6_admitArea_2 : decode cX6_admitArea 2 = .ok (.iload_n 3, 1) := by decide +kernel
theorem dX6_admitArea_3 : decode cX6_admitArea 3 = .ok (.aload_n 0, 1) := by decide +kernel
theorem dX6_admitArea_4 : decode cX6_admitArea 4 = .ok (.getfield 19, 3) := by decide +kernel
theorem dX6_admitArea_7 : decode cX6_admitArea 7 = .ok (.arraylength, 1) := by decide +kernel
theorem dX6_admitArea_8 : decode cX6_admitArea 8 = .ok (.if_icmp .ge 34, 3) := by decide +kernel
theorem dX6_admitArea_11 : decode cX6_admitArea 11 = .ok (.iload_n 3, 1) := by decide +kernel
theorem dX6_admitArea_12 : decode cX6_admitArea 12 = .ok (.aload_n 1, 1) := by decide +kernel
theorem dX6_admitArea_13 : decode cX6_admitArea 13 = .ok (.arraylength, 1) := by decide +kernel
theorem dX6_admitArea_14 : decode cX6_admitArea 14 = .ok (.if_icmp .ge 28, 3) := by decide +kernel
theorem dX6_admitArea_17 : decode cX6_admitArea 17 = .ok (.aload_n 0, 1) := by decide +kernel
theorem dX6_admitArea_18 : decode cX6_admitArea 18 = .ok (.getfield 19, 3) := by decide +kernel
theorem dX6_admitArea_21 : decode cX6_admitArea 21 = .ok (.iload_n 3, 1) := by decide +kernel
theorem dX6_admitArea_22 : decode cX6_admitArea 22 = .ok (.aload_n 1, 1) := by decide +kernel
theorem dX6_admitArea_23 : decode cX6_admitArea 23 = .ok (.iload_n 3, 1) := by decide +kernel
theorem dX6_admitArea_24 : decode cX6_admitArea 24 = .ok (.iaload, 1) := by decide +kernel
theorem dX6_admitArea_25 : decode cX6_admitArea 25 = .ok (.iload_n 2, 1) := by decide +kernel
theorem dX6_admitArea_26 : decode cX6_admitArea 26 = .ok (.if_icmp .ne 7, 3) := by decide +kernel
theorem dX6_admitArea_29 : decode cX6_admitArea 29 = .ok (.iconst (-1), 1) := by decide +kernel
theorem dX6_admitArea_30 : decode cX6_admitArea 30 = .ok (.goto 5, 3) := by decide +kernel
theorem dX6_admitArea_33 : decode cX6_admitArea 33 = .ok (.bipush (-2), 2) := by decide +kernel
theorem dX6_admitArea_35 : decode cX6_admitArea 35 = .ok (.iastore, 1) := by decide +kernel
theorem dX6_admitArea_36 : decode cX6_admitArea 36 = .ok (.iinc 3 1, 3) := by decide +kernel
theorem dX6_admitArea_39 : decode cX6_admitArea 39 = .ok (.goto (-37), 3) := by decide +kernel
theorem dX6_admitArea_42 : decode cX6_admitArea 42 = .ok (.return_, 1) := by decide +kernel
theorem dX6_refuse_0 : decode cX6_refuse 0 = .ok (.iload_n 1, 1) := by decide +kernel
theorem dX6_refuse_1 : decode cX6_refuse 1 = .ok (.ifCond .lt 20, 3) := by decide +kernel
theorem dX6_refuse_4 : decode cX6_refuse 4 = .ok (.iload_n 1, 1) := by decide +kernel
theorem dX6_refuse_5 : decode cX6_refuse 5 = .ok (.aload_n 0, 1) := by decide +kernel
theorem dX6_refuse_6 : decode cX6_refuse 6 = .ok (.getfield 19, 3) := by decide +kernel
theorem dX6_refuse_9 : decode cX6_refuse 9 = .ok (.arraylength, 1) := by decide +kernel
theorem dX6_refuse_10 : decode cX6_refuse 10 = .ok (.if_icmp .ge 11, 3) := by decide +kernel
theorem dX6_refuse_13 : decode cX6_refuse 13 = .ok (.aload_n 0, 1) := by decide +kernel
theorem dX6_refuse_14 : decode cX6_refuse 14 = .ok (.getfield 19, 3) := by decide +kernel
theorem dX6_refuse_17 : decode cX6_refuse 17 = .ok (.iload_n 1, 1) := by decide +kernel
theorem dX6_refuse_18 : decode cX6_refuse 18 = .ok (.bipush (-2), 2) := by decide +kernel
theorem dX6_refuse_20 : decode cX6_refuse 20 = .ok (.iastore, 1) := by decide +kernel
theorem dX6_refuse_21 : decode cX6_refuse 21 = .ok (.return_, 1) := by decide +kernel
theorem dX6_stepsTo_0 : decode cX6_stepsTo 0 = .ok (.iload_n 1, 1) := by decide +kernel
theorem dX6_stepsTo_1 : decode cX6_stepsTo 1 = .ok (.ifCond .lt 21, 3) := by decide +kernel
theorem dX6_stepsTo_4 : decode cX6_stepsTo 4 = .ok (.iload_n 1, 1) := by decide +kernel
theorem dX6_stepsTo_5 : decode cX6_stepsTo 5 = .ok (.aload_n 0, 1) := by decide +kernel
theorem dX6_stepsTo_6 : decode cX6_stepsTo 6 = .ok (.getfield 19, 3) := by decide +kernel
theorem dX6_stepsTo_9 : decode cX6_stepsTo 9 = .ok (.arraylength, 1) := by decide +kernel
theorem dX6_stepsTo_10 : decode cX6_stepsTo 10 = .ok (.if_icmp .ge 12, 3) := by decide +kernel
theorem dX6_stepsTo_13 : decode cX6_stepsTo 13 = .ok (.aload_n 0, 1) := by decide +kernel
theorem dX6_stepsTo_14 : decode cX6_stepsTo 14 = .ok (.getfield 19, 3) := by decide +kernel
theorem dX6_stepsTo_17 : decode cX6_stepsTo 17 = .ok (.iload_n 1, 1) := by decide +kernel
theorem dX6_stepsTo_18 : decode cX6_stepsTo 18 = .ok (.iaload, 1) := by decide +kernel
theorem dX6_stepsTo_19 : decode cX6_stepsTo 19 = .ok (.goto 5, 3) := by decide +kernel
theorem dX6_stepsTo_22 : decode cX6_stepsTo 22 = .ok (.bipush (-2), 2) := by decide +kernel
theorem dX6_stepsTo_24 : decode cX6_stepsTo 24 = .ok (.ireturn, 1) := by decide +kernel
theorem dX6_countParts_0 : decode cX6_countParts 0 = .ok (.iconst 0, 1) := by decide +kernel
theorem dX6_countParts_1 : decode cX6_countParts 1 = .ok (.istore_n 1, 1) := by decide +kernel
theorem dX6_countParts_2 : decode cX6_countParts 2 = .ok (.iconst 0, 1) := by decide +kernel
theorem dX6_countParts_3 : decode cX6_countParts 3 = .ok (.istore_n 2, 1) := by decide +kernel
theorem dX6_countParts_4 : decode cX6_countParts 4 = .ok (.iload_n 2, 1) := by decide +kernel
theorem dX6_countParts_5 : decode cX6_countParts 5 = .ok (.aload_n 0, 1) := by decide +kernel
theorem dX6_countParts_6 : decode cX6_countParts 6 = .ok (.getfield 19, 3) := by decide +kernel
theorem dX6_countParts_9 : decode cX6_countParts 9 = .ok (.arraylength, 1) := by decide +kernel
theorem dX6_countParts_10 : decode cX6_countParts 10 = .ok (.if_icmp .ge 27, 3) := by decide +kernel
theorem dX6_countParts_13 : decode cX6_countParts 13 = .ok (.aload_n 0, 1) := by decide +kernel
theorem dX6_countParts_14 : decode cX6_countParts 14 = .ok (.getfield 19, 3) := by decide +kernel
theorem dX6_countParts_17 : decode cX6_countParts 17 = .ok (.iload_n 2, 1) := by decide +kernel
theorem dX6_countParts_18 : decode cX6_countParts 18 = .ok (.iaload, 1) := by decide +kernel
theorem dX6_countParts_19 : decode cX6_countParts 19 = .ok (.iconst (-1), 1) := by decide +kernel
theorem dX6_countParts_20 : decode cX6_countParts 20 = .ok (.if_icmp .ne 11, 3) := by decide +kernel
theorem dX6_countParts_23 : decode cX6_countParts 23 = .ok (.iinc 1 1, 3) := by decide +kernel
theorem dX6_countParts_26 : decode cX6_countParts 26 = .ok (.aload_n 0, 1) := by decide +kernel
theorem dX6_countParts_27 : decode cX6_countParts 27 = .ok (.iload_n 2, 1) := by decide +kernel
theorem dX6_countParts_28 : decode cX6_countParts 28 = .ok (.invokevirtual 32, 3) := by decide +kernel
theorem dX6_countParts_31 : decode cX6_countParts 31 = .ok (.iinc 2 1, 3) := by decide +kernel
theorem dX6_countParts_34 : decode cX6_countParts 34 = .ok (.goto (-30), 3) := by decide +kernel
theorem dX6_countParts_37 : decode cX6_countParts 37 = .ok (.iload_n 1, 1) := by decide +kernel
theorem dX6_countParts_38 : decode cX6_countParts 38 = .ok (.ireturn, 1) := by decide +kernel
theorem dX6_spreadFrom_0 : decode cX6_spreadFrom 0 = .ok (.aload_n 0, 1) := by decide +kernel
theorem dX6_spreadFrom_1 : decode cX6_spreadFrom 1 = .ok (.getfield 28, 3) := by decide +kernel
theorem dX6_spreadFrom_4 : decode cX6_spreadFrom 4 = .ok (.invokevirtual 35, 3) := by decide +kernel
theorem dX6_spreadFrom_7 : decode cX6_spreadFrom 7 = .ok (.aload_n 0, 1) := by decide +kernel
theorem dX6_spreadFrom_8 : decode cX6_spreadFrom 8 = .ok (.iload_n 1, 1) := by decide +kernel
theorem dX6_spreadFrom_9 : decode cX6_spreadFrom 9 = .ok (.iconst 0, 1) := by decide +kernel
theorem dX6_spreadFrom_10 : decode cX6_spreadFrom 10 = .ok (.invokevirtual 38, 3) := by decide +kernel
theorem dX6_spreadFrom_13 : decode cX6_spreadFrom 13 = .ok (.iconst 0, 1) := by decide +kernel
theorem dX6_spreadFrom_14 : decode cX6_spreadFrom 14 = .ok (.istore_n 2, 1) := by decide +kernel
theorem dX6_spreadFrom_15 : decode cX6_spreadFrom 15 = .ok (.iload_n 2, 1) := by decide +kernel
theorem dX6_spreadFrom_16 : decode cX6_spreadFrom 16 = .ok (.aload_n 0, 1) := by decide +kernel
theorem dX6_spreadFrom_17 : decode cX6_spreadFrom 17 = .ok (.getfield 19, 3) := by decide +kernel
theorem dX6_spreadFrom_20 : decode cX6_spreadFrom 20 = .ok (.arraylength, 1) := by decide +kernel
theorem dX6_spreadFrom_21 : decode cX6_spreadFrom 21 = .ok (.if_icmp .ge 71, 3) := by decide +kernel
theorem dX6_spreadFrom_24 : decode cX6_spreadFrom 24 = .ok (.iload_n 2, 1) := by decide +kernel
theorem dX6_spreadFrom_25 : decode cX6_spreadFrom 25 = .ok (.aload_n 0, 1) := by decide +kernel
theorem dX6_spreadFrom_26 : decode cX6_spreadFrom 26 = .ok (.getfield 28, 3) := by decide +kernel
theorem dX6_spreadFrom_29 : decode cX6_spreadFrom 29 = .ok (.invokevirtual 42, 3) := by decide +kernel
theorem dX6_spreadFrom_32 : decode cX6_spreadFrom 32 = .ok (.if_icmp .ge 60, 3) := by decide +kernel
theorem dX6_spreadFrom_35 : decode cX6_spreadFrom 35 = .ok (.aload_n 0, 1) := by decide +kernel
theorem dX6_spreadFrom_36 : decode cX6_spreadFrom 36 = .ok (.getfield 28, 3) := by decide +kernel
theorem dX6_spreadFrom_39 : decode cX6_spreadFrom 39 = .ok (.iload_n 2, 1) := by decide +kernel
theorem dX6_spreadFrom_40 : decode cX6_spreadFrom 40 = .ok (.invokevirtual 46, 3) := by decide +kernel
theorem dX6_spreadFrom_43 : decode cX6_spreadFrom 43 = .ok (.istore_n 3, 1) := by decide +kernel
theorem dX6_spreadFrom_44 : decode cX6_spreadFrom 44 = .ok (.iconst 0, 1) := by decide +kernel
theorem dX6_spreadFrom_45 : decode cX6_spreadFrom 45 = .ok (.istore 4, 2) := by decide +kernel
theorem dX6_spreadFrom_47 : decode cX6_spreadFrom 47 = .ok (.iload 4, 2) := by decide +kernel
theorem dX6_spreadFrom_49 : decode cX6_spreadFrom 49 = .ok (.aload_n 0, 1) := by decide +kernel
theorem dX6_spreadFrom_50 : decode cX6_spreadFrom 50 = .ok (.getfield 7, 3) := by decide +kernel
theorem dX6_spreadFrom_53 : decode cX6_spreadFrom 53 = .ok (.getfield 50, 3) := by decide +kernel
theorem dX6_spreadFrom_56 : decode cX6_spreadFrom 56 = .ok (.if_icmp .ge 30, 3) := by decide +kernel
theorem dX6_spreadFrom_59 : decode cX6_spreadFrom 59 = .ok (.aload_n 0, 1) := by decide +kernel
theorem dX6_spreadFrom_60 : decode cX6_spreadFrom 60 = .ok (.aload_n 0, 1) := by decide +kernel
theorem dX6_spreadFrom_61 : decode cX6_spreadFrom 61 = .ok (.getfield 7, 3) := by decide +kernel
theorem dX6_spreadFrom_64 : decode cX6_spreadFrom 64 = .ok (.iload_n 3, 1) := by decide +kernel
theorem dX6_spreadFrom_65 : decode cX6_spreadFrom 65 = .ok (.iload 4, 2) := by decide +kernel
theorem dX6_spreadFrom_67 : decode cX6_spreadFrom 67 = .ok (.invokevirtual 55, 3) := by decide +kernel
theorem dX6_spreadFrom_70 : decode cX6_spreadFrom 70 = .ok (.aload_n 0, 1) := by decide +kernel
theorem dX6_spreadFrom_71 : decode cX6_spreadFrom 71 = .ok (.iload_n 3, 1) := by decide +kernel
theorem dX6_spreadFrom_72 : decode cX6_spreadFrom 72 = .ok (.invokevirtual 59, 3) := by decide +kernel
theorem dX6_spreadFrom_75 : decode cX6_spreadFrom 75 = .ok (.iconst 1, 1) := by decide +kernel
theorem dX6_spreadFrom_76 : decode cX6_spreadFrom 76 = .ok (.iadd, 1) := by decide +kernel
theorem dX6_spreadFrom_77 : decode cX6_spreadFrom 77 = .ok (.invokevirtual 38, 3) := by decide +kernel
theorem dX6_spreadFrom_80 : decode cX6_spreadFrom 80 = .ok (.iinc 4 1, 3) := by decide +kernel
theorem dX6_spreadFrom_83 : decode cX6_spreadFrom 83 = .ok (.goto (-36), 3) := by decide +kernel
theorem dX6_spreadFrom_86 : decode cX6_spreadFrom 86 = .ok (.iinc 2 1, 3) := by decide +kernel
theorem dX6_spreadFrom_89 : decode cX6_spreadFrom 89 = .ok (.goto (-74), 3) := by decide +kernel
theorem dX6_spreadFrom_92 : decode cX6_spreadFrom 92 = .ok (.return_, 1) := by decide +kernel
theorem dX6_reach_0 : decode cX6_reach 0 = .ok (.iload_n 1, 1) := by decide +kernel
theorem dX6_reach_1 : decode cX6_reach 1 = .ok (.ifCond .lt 38, 3) := by decide +kernel
theorem dX6_reach_4 : decode cX6_reach 4 = .ok (.iload_n 1, 1) := by decide +kernel
theorem dX6_reach_5 : decode cX6_reach 5 = .ok (.aload_n 0, 1) := by decide +kernel
theorem dX6_reach_6 : decode cX6_reach 6 = .ok (.getfield 19, 3) := by decide +kernel
theorem dX6_reach_9 : decode cX6_reach 9 = .ok (.arraylength, 1) := by decide +kernel
theorem dX6_reach_10 : decode cX6_reach 10 = .ok (.if_icmp .ge 29, 3) := by decide +kernel
theorem dX6_reach_13 : decode cX6_reach 13 = .ok (.aload_n 0, 1) := by decide +kernel
theorem dX6_reach_14 : decode cX6_reach 14 = .ok (.getfield 19, 3) := by decide +kernel
theorem dX6_reach_17 : decode cX6_reach 17 = .ok (.iload_n 1, 1) := by decide +kernel
theorem dX6_reach_18 : decode cX6_reach 18 = .ok (.iaload, 1) := by decide +kernel
theorem dX6_reach_19 : decode cX6_reach 19 = .ok (.iconst (-1), 1) := by decide +kernel
theorem dX6_reach_20 : decode cX6_reach 20 = .ok (.if_icmp .ne 19, 3) := by decide +kernel
theorem dX6_reach_23 : decode cX6_reach 23 = .ok (.aload_n 0, 1) := by decide +kernel
theorem dX6_reach_24 : decode cX6_reach 24 = .ok (.getfield 19, 3) := by decide +kernel
theorem dX6_reach_27 : decode cX6_reach 27 = .ok (.iload_n 1, 1) := by decide +kernel
theorem dX6_reach_28 : decode cX6_reach 28 = .ok (.iload_n 2, 1) := by decide +kernel
theorem dX6_reach_29 : decode cX6_reach 29 = .ok (.iastore, 1) := by decide +kernel
theorem dX6_reach_30 : decode cX6_reach 30 = .ok (.aload_n 0, 1) := by decide +kernel
theorem dX6_reach_31 : decode cX6_reach 31 = .ok (.getfield 28, 3) := by decide +kernel
theorem dX6_reach_34 : decode cX6_reach 34 = .ok (.iload_n 1, 1) := by decide +kernel
theorem dX6_reach_35 : decode cX6_reach 35 = .ok (.invokevirtual 62, 3) := by decide +kernel
theorem dX6_reach_38 : decode cX6_reach 38 = .ok (.pop, 1) := by decide +kernel
theorem dX6_reach_39 : decode cX6_reach 39 = .ok (.return_, 1) := by decide +kernel
theorem dX7_init_0 : decode cX7_init 0 = .ok (.aload_n 0, 1) := by decide +kernel
theorem dX7_init_1 : decode cX7_init 1 = .ok (.invokespecial 1, 3) := by decide +kernel
theorem dX7_init_4 : decode cX7_init 4 = .ok (.aload_n 0, 1) := by decide +kernel
theorem dX7_init_5 : decode cX7_init 5 = .ok (.new 7, 3) := by decide +kernel
theorem dX7_init_8 : decode cX7_init 8 = .ok (.dup, 1) := by decide +kernel
theorem dX7_init_9 : decode cX7_init 9 = .ok (.iload_n 1, 1) := by decide +kernel
theorem dX7_init_10 : decode cX7_init 10 = .ok (.iload_n 2, 1) := by decide +kernel
theorem dX7_init_11 : decode cX7_init 11 = .ok (.iload_n 3, 1) := by decide +kernel
theorem dX7_init_12 : decode cX7_init 12 = .ok (.invokespecial 9, 3) := by decide +kernel
theorem dX7_init_15 : decode cX7_init 15 = .ok (.putfield 12, 3) := by decide +kernel
theorem dX7_init_18 : decode cX7_init 18 = .ok (.aload_n 0, 1) := by decide +kernel
theorem dX7_init_19 : decode cX7_init 19 = .ok (.new 18, 3) := by decide +kernel
theorem dX7_init_22 : decode cX7_init 22 = .ok (.dup, 1) := by decide +kernel
theorem dX7_init_23 : decode cX7_init 23 = .ok (.aload_n 0, 1) := by decide +kernel
theorem dX7_init_24 : decode cX7_init 24 = .ok (.getfield 12, 3) := by decide +kernel
theorem dX7_init_27 : decode cX7_init 27 = .ok (.invokespecial 20, 3) := by decide +kernel
theorem dX7_init_30 : decode cX7_init 30 = .ok (.putfield 23, 3) := by decide +kernel
theorem dX7_init_33 : decode cX7_init 33 = .ok (.aload_n 0, 1) := by decide +kernel
theorem dX7_init_34 : decode cX7_init 34 = .ok (.new 27, 3) := by decide +kernel
theorem dX7_init_37 : decode cX7_init 37 = .ok (.dup, 1) := by decide +kernel
theorem dX7_init_38 : decode cX7_init 38 = .ok (.aload_n 0, 1) := by decide +kernel
theorem dX7_init_39 : decode cX7_init 39 = .ok (.getfield 12, 3) := by decide +kernel
theorem dX7_init_42 : decode cX7_init 42 = .ok (.invokespecial 29, 3) := by decide +kernel
theorem dX7_init_45 : decode cX7_init 45 = .ok (.putfield 30, 3) := by decide +kernel
theorem dX7_init_48 : decode cX7_init 48 = .ok (.aload_n 0, 1) := by decide +kernel
theorem dX7_init_49 : decode cX7_init 49 = .ok (.new 34, 3) := by decide +kernel
theorem dX7_init_52 : decode cX7_init 52 = .ok (.dup, 1) := by decide +kernel
theorem dX7_init_53 : decode cX7_init 53 = .ok (.aload_n 0, 1) := by decide +kernel
theorem dX7_init_54 : decode cX7_init 54 = .ok (.getfield 12, 3) := by decide +kernel
theorem dX7_init_57 : decode cX7_init 57 = .ok (.aload_n 0, 1) := by decide +kernel
theorem dX7_init_58 : decode cX7_init 58 = .ok (.getfield 23, 3) := by decide +kernel
theorem dX7_init_61 : decode cX7_init 61 = .ok (.invokespecial 36, 3) := by decide +kernel
theorem dX7_init_64 : decode cX7_init 64 = .ok (.putfield 39, 3) := by decide +kernel
theorem dX7_init_67 : decode cX7_init 67 = .ok (.aload_n 0, 1) := by decide +kernel
theorem dX7_init_68 : decode cX7_init 68 = .ok (.new 43, 3) := by decide +kernel
theorem dX7_init_71 : decode cX7_init 71 = .ok (.dup, 1) := by decide +kernel
theorem dX7_init_72 : decode cX7_init 72 = .ok (.aload_n 0, 1) := by decide +kernel
theorem dX7_init_73 : decode cX7_init 73 = .ok (.getfield 12, 3) := by decide +kernel
theorem dX7_init_76 : decode cX7_init 76 = .ok (.invokespecial 45, 3) := by decide +kernel
theorem dX7_init_79 : decode cX7_init 79 = .ok (.putfield 46, 3) := by decide +kernel
theorem dX7_init_82 : decode cX7_init 82 = .ok (.aload_n 0, 1) := by decide +kernel
theorem dX7_init_83 : decode cX7_init 83 = .ok (.new 50, 3) := by decide +kernel
theorem dX7_init_86 : decode cX7_init 86 = .ok (.dup, 1) := by decide +kernel
theorem dX7_init_87 : decode cX7_init 87 = .ok (.aload_n 0, 1) := by decide +kernel
theorem dX7_init_88 : decode cX7_init 88 = .ok (.getfield 12, 3) := by decide +kernel
theorem dX7_init_91 : decode cX7_init 91 = .ok (.invokespecial 52, 3) := by decide +kernel
theorem dX7_init_94 : decode cX7_init 94 = .ok (.putfield 53, 3) := by decide +kernel
theorem dX7_init_97 : decode cX7_init 97 = .ok (.aload_n 0, 1) := by decide +kernel
theorem dX7_init_98 : decode cX7_init 98 = .ok (.new 57, 3) := by decide +kernel
theorem dX7_init_101 : decode cX7_init 101 = .ok (.dup, 1) := by decide +kernel
theorem dX7_init_102 : decode cX7_init 102 = .ok (.sipush 1200, 3) := by decide +kernel
theorem dX7_init_105 : decode cX7_init 105 = .ok (.invokespecial 59, 3) := by decide +kernel
theorem dX7_init_108 : decode cX7_init 108 = .ok (.putfield 62, 3) := by decide +kernel
theorem dX7_init_111 : decode cX7_init 111 = .ok (.aload_n 0, 1) := by decide +kernel
theorem dX7_init_112 : decode cX7_init 112 = .ok (.aload_n 0, 1) := by decide +kernel
theorem dX7_init_113 : decode cX7_init 113 = .ok (.getfield 12, 3) := by decide +kernel
theorem dX7_init_116 : decode cX7_init 116 = .ok (.getfield 66, 3) := by decide +kernel
theorem dX7_init_119 : decode cX7_init 119 = .ok (.newarray .int, 2) := by decide +kernel
theorem dX7_init_121 : decode cX7_init 121 = .ok (.putfield 70, 3) := by decide +kernel
theorem dX7_init_124 : decode cX7_init 124 = .ok (.aload_n 0, 1) := by decide +kernel
theorem dX7_init_125 : decode cX7_init 125 = .ok (.aload_n 0, 1) := by decide +kernel
theorem dX7_init_126 : decode cX7_init 126 = .ok (.getfield 12, 3) := by decide +kernel
theorem dX7_init_129 : decode cX7_init 129 = .ok (.getfield 66, 3) := by decide +kernel
theorem dX7_init_132 : decode cX7_init 132 = .ok (.newarray .int, 2) := by decide +kernel
theorem dX7_init_134 : decode cX7_init 134 = .ok (.putfield 74, 3) := by decide +kernel
theorem dX7_init_137 : decode cX7_init 137 = .ok (.return_, 1) := by decide +kernel
theorem dX7_join_0 : decode cX7_join 0 = .ok (.aload_n 0, 1) := by decide +kernel
theorem dX7_join_1 : decode cX7_join 1 = .ok (.iload_n 1, 1) := by decide +kernel
theorem dX7_join_2 : decode cX7_join 2 = .ok (.invokevirtual 77, 3) := by decide +kernel
theorem dX7_join_5 : decode cX7_join 5 = .ok (.aload_n 0, 1) := by decide +kernel
theorem dX7_join_6 : decode cX7_join 6 = .ok (.iload_n 2, 1) := by decide +kernel
theorem dX7_join_7 : decode cX7_join 7 = .ok (.invokevirtual 77, 3) := by decide +kernel
theorem dX7_join_10 : decode cX7_join 10 = .ok (.aload_n 0, 1) := by decide +kernel
theorem dX7_join_11 : decode cX7_join 11 = .ok (.getfield 12, 3) := by decide +kernel
theorem dX7_join_14 : decode cX7_join 14 = .ok (.getfield 80, 3) := by decide +kernel
theorem dX7_join_17 : decode cX7_join 17 = .ok (.iconst 4, 1) := by decide +kernel
theorem dX7_join_18 : decode cX7_join 18 = .ok (.if_icmp .ne 21, 3) := by decide +kernel
theorem dX7_join_21 : decode cX7_join 21 = .ok (.iload_n 1, 1) := by decide +kernel
theorem dX7_join_22 : decode cX7_join 22 = .ok (.iload_n 2, 1) := by decide +kernel
theorem dX7_join_23 : decode cX7_join 23 = .ok (.if_icmp .eq 16, 3) := by decide +kernel
theorem dX7_join_26 : decode cX7_join 26 = .ok (.aload_n 0, 1) := by decide +kernel
theorem dX7_join_27 : decode cX7_join 27 = .ok (.getfield 23, 3) := by decide +kernel
theorem dX7_join_30 : decode cX7_join 30 = .ok (.iload_n 1, 1) := by decide +kernel
theorem dX7_join_31 : decode cX7_join 31 = .ok (.iload_n 2, 1) := by decide +kernel
theorem dX7_join_32 : decode cX7_join 32 = .ok (.invokevirtual 83, 3) := by decide +kernel
theorem dX7_join_35 : decode cX7_join 35 = .ok (.iconst (-1), 1) := by decide +kernel
theorem dX7_join_36 : decode cX7_join 36 = .ok (.if_icmp .eq 5, 3) := by decide +kernel
theorem dX7_join_39 : decode cX7_join 39 = .ok (.iconst 0, 1) := by decide +kernel
theorem dX7_join_40 : decode cX7_join 40 = .ok (.ireturn, 1) := by decide +kernel
theorem dX7_join_41 : decode cX7_join 41 = .ok (.aload_n 0, 1) := by decide +kernel
theorem dX7_join_42 : decode cX7_join 42 = .ok (.getfield 23, 3) := by decide +kernel
theorem dX7_join_45 : decode cX7_join 45 = .ok (.iload_n 1, 1) := by decide +kernel
theorem dX7_join_46 : decode cX7_join 46 = .ok (.iload_n 2, 1) := by decide +kernel
theorem dX7_join_47 : decode cX7_join 47 = .ok (.invokevirtual 87, 3) := by decide +kernel
theorem dX7_join_50 : decode cX7_join 50 = .ok (.iconst 1, 1) := by decide +kernel
theorem dX7_join_51 : decode cX7_join 51 = .ok (.ireturn, 1) := by decide +kernel
theorem dX7_places_0 : decode cX7_places 0 = .ok (.aload_n 0, 1) := by decide +kernel
theorem dX7_places_1 : decode cX7_places 1 = .ok (.getfield 12, 3) := by decide +kernel
theorem dX7_places_4 : decode cX7_places 4 = .ok (.getfield 66, 3) := by decide +kernel
theorem dX7_places_7 : decode cX7_places 7 = .ok (.ireturn, 1) := by decide +kernel
theorem dX7_degree_0 : decode cX7_degree 0 = .ok (.aload_n 0, 1) := by decide +kernel
theorem dX7_degree_1 : decode cX7_degree 1 = .ok (.iload_n 1, 1) := by decide +kernel
theorem dX7_degree_2 : decode cX7_degree 2 = .ok (.invokevirtual 77, 3) := by decide +kernel
theorem dX7_degree_5 : decode cX7_degree 5 = .ok (.iconst 0, 1) := by decide +kernel
theorem dX7_degree_6 : decode cX7_degree 6 = .ok (.istore_n 3, 1) := by decide +kernel
theorem dX7_degree_7 : decode cX7_degree 7 = .ok (.iconst 0, 1) := by decide +kernel
theorem dX7_degree_8 : decode cX7_degree 8 = .ok (.istore 4, 2) := by decide +kernel
theorem dX7_degree_10 : decode cX7_degree 10 = .ok (.iload 4, 2) := by decide +kernel
theorem dX7_degree_12 : decode cX7_degree 12 = .ok (.aload_n 0, 1) := by decide +kernel
theorem dX7_degree_13 : decode cX7_degree 13 = .ok (.getfield 23, 3) := by decide +kernel
theorem dX7_degree_16 : decode cX7_degree 16 = .ok (.getfield 91, 3) := by decide +kernel
theorem dX7_degree_19 : decode cX7_degree 19 = .ok (.if_icmp .ge 47, 3) := by decide +kernel
theorem dX7_degree_22 : decode cX7_degree 22 = .ok (.iload_n 2, 1) := by decide +kernel
theorem dX7_degree_23 : decode cX7_degree 23 = .ok (.ifCond .eq 16, 3) := by decide +kernel
theorem dX7_degree_26 : decode cX7_degree 26 = .ok (.aload_n 0, 1) := by decide +kernel
theorem dX7_degree_27 : decode cX7_degree 27 = .ok (.getfield 23, 3) := by decide +kernel
theorem dX7_degree_30 : decode cX7_degree 30 = .ok (.iload_n 1, 1) := by decide +kernel
theorem dX7_degree_31 : decode cX7_degree 31 = .ok (.iload 4, 2) := by decide +kernel
theorem dX7_degree_33 : decode cX7_degree 33 = .ok (.invokevirtual 94, 3) := by decide +kernel
theorem dX7_degree_36 : decode cX7_degree 36 = .ok (.goto 13, 3) := by decide +kernel
theorem dX7_degree_39 : decode cX7_degree 39 = .ok (.aload_n 0, 1) := by decide +kernel
theorem dX7_degree_40 : decode cX7_degree 40 = .ok (.getfield 23, 3) := by decide +kernel
theorem dX7_degree_43 : decode cX7_degree 43 = .ok (.iload_n 1, 1) := by decide +kernel
theorem dX7_degree_44 : decode cX7_degree 44 = .ok (.iload 4, 2) := by decide +kernel
theorem dX7_degree_46 : decode cX7_degree 46 = .ok (.invokevirtual 97, 3) := by decide +kernel
theorem dX7_degree_49 : decode cX7_degree 49 = .ok (.istore 5, 2) := by decide +kernel
theorem dX7_degree_51 : decode cX7_degree 51 = .ok (.iload 5, 2) := by decide +kernel
theorem dX7_degree_53 : decode cX7_degree 53 = .ok (.iconst (-1), 1) := by decide +kernel
theorem dX7_degree_54 : decode cX7_degree 54 = .ok (.if_icmp .eq 6, 3) := by decide +kernel
theorem dX7_degree_57 : decode cX7_degree 57 = .ok (.iinc 3 1, 3) := by decide +kernel
theorem dX7_degree_60 : decode cX7_degree 60 = .ok (.iinc 4 1, 3) := by decide +kernel
theorem dX7_degree_63 : decode cX7_degree 63 = .ok (.goto (-53), 3) := by decide +kernel
theorem dX7_degree_66 : decode cX7_degree 66 = .ok (.iload_n 3, 1) := by decide +kernel
theorem dX7_degree_67 : decode cX7_degree 67 = .ok (.ireturn, 1) := by decide +kernel
theorem dX7_neighbour_0 : decode cX7_neighbour 0 = .ok (.aload_n 0, 1) := by decide +kernel
theorem dX7_neighbour_1 : decode cX7_neighbour 1 = .ok (.iload_n 1, 1) := by decide +kernel
theorem dX7_neighbour_2 : decode cX7_neighbour 2 = .ok (.invokevirtual 77, 3) := by decide +kernel
theorem dX7_neighbour_5 : decode cX7_neighbour 5 = .ok (.iconst 0, 1) := by decide +kernel
theorem dX7_neighbour_6 : decode cX7_neighbour 6 = .ok (.istore_n 3, 1) := by decide +kernel
theorem dX7_neighbour_7 : decode cX7_neighbour 7 = .ok (.iconst 0, 1) := by decide +kernel
theorem dX7_neighbour_8 : decode cX7_neighbour 8 = .ok (.istore 4, 2) := by decide +kernel
theorem dX7_neighbour_10 : decode cX7_neighbour 10 = .ok (.iload 4, 2) := by decide +kernel
theorem dX7_neighbour_12 : decode cX7_neighbour 12 = .ok (.aload_n 0, 1) := by decide +kernel
theorem dX7_neighbour_13 : decode cX7_neighbour 13 = .ok (.getfield 23, 3) := by decide +kernel
theorem dX7_neighbour_16 : decode cX7_neighbour 16 = .ok (.getfield 91, 3) := by decide +kernel
theorem dX7_neighbour_19 : decode cX7_neighbour 19 = .ok (.if_icmp .ge 38, 3) := by decide +kernel
theorem dX7_neighbour_22 : decode cX7_neighbour 22 = .ok (.aload_n 0, 1) := by decide +kernel
theorem dX7_neighbour_23 : decode cX7_neighbour 23 = .ok (.getfield 23, 3) := by decide +kernel
theorem dX7_neighbour_26 : decode cX7_neighbour 26 = .ok (.iload_n 1, 1) := by decide +kernel
theorem dX7_neighbour_27 : decode cX7_neighbour 27 = .ok (.iload 4, 2) := by decide +kernel
theorem dX7_neighbour_29 : decode cX7_neighbour 29 = .ok (.invokevirtual 97, 3) := by decide +kernel
theorem dX7_neighbour_32 : decode cX7_neighbour 32 = .ok (.istore 5, 2) := by decide +kernel
theorem dX7_neighbour_34 : decode cX7_neighbour 34 = .ok (.iload 5, 2) := by decide +kernel
theorem dX7_neighbour_36 : decode cX7_neighbour 36 = .ok (.iconst (-1), 1) := by decide +kernel
theorem dX7_neighbour_37 : decode cX7_neighbour 37 = .ok (.if_icmp .eq 14, 3) := by decide +kernel
theorem dX7_neighbour_40 : decode cX7_neighbour 40 = .ok (.iload_n 3, 1) := by decide +kernel
theorem dX7_neighbour_41 : decode cX7_neighbour 41 = .ok (.iload_n 2, 1) := by decide +kernel
theorem dX7_neighbour_42 : decode cX7_neighbour 42 = .ok (.if_icmp .ne 6, 3) := by decide +kernel
theorem dX7_neighbour_45 : decode cX7_neighbour 45 = .ok (.iload 5, 2) := by decide +kernel
theorem dX7_neighbour_47 : decode cX7_neighbour 47 = .ok (.ireturn, 1) := by decide +kernel
theorem dX7_neighbour_48 : decode cX7_neighbour 48 = .ok (.iinc 3 1, 3) := by decide +kernel
theorem dX7_neighbour_51 : decode cX7_neighbour 51 = .ok (.iinc 4 1, 3) := by decide +kernel
theorem dX7_neighbour_54 : decode cX7_neighbour 54 = .ok (.goto (-44), 3) := by decide +kernel
theorem dX7_neighbour_57 : decode cX7_neighbour 57 = .ok (.iconst (-1), 1) := by decide +kernel
theorem dX7_neighbour_58 : decode cX7_neighbour 58 = .ok (.ireturn, 1) := by decide +kernel
theorem dX7_wall_0 : decode cX7_wall 0 = .ok (.aload_n 0, 1) := by decide +kernel
theorem dX7_wall_1 : decode cX7_wall 1 = .ok (.iload_n 1, 1) := by decide +kernel
theorem dX7_wall_2 : decode cX7_wall 2 = .ok (.invokevirtual 77, 3) := by decide +kernel
theorem dX7_wall_5 : decode cX7_wall 5 = .ok (.aload_n 0, 1) := by decide +kernel
theorem dX7_wall_6 : decode cX7_wall 6 = .ok (.iload_n 2, 1) := by decide +kernel
theorem dX7_wall_7 : decode cX7_wall 7 = .ok (.invokevirtual 77, 3) := by decide +kernel
theorem dX7_wall_10 : decode cX7_wall 10 = .ok (.aload_n 0, 1) := by decide +kernel
theorem dX7_wall_11 : decode cX7_wall 11 = .ok (.getfield 23, 3) := by decide +kernel
theorem dX7_wall_14 : decode cX7_wall 14 = .ok (.iload_n 1, 1) := by decide +kernel
theorem dX7_wall_15 : decode cX7_wall 15 = .ok (.iload_n 2, 1) := by decide +kernel
theorem dX7_wall_16 : decode cX7_wall 16 = .ok (.invokevirtual 83, 3) := by decide +kernel
theorem dX7_wall_19 : decode cX7_wall 19 = .ok (.istore 4, 2) := by decide +kernel
theorem dX7_wall_21 : decode cX7_wall 21 = .ok (.iload 4, 2) := by decide +kernel
theorem dX7_wall_23 : decode cX7_wall 23 = .ok (.iconst (-1), 1) := by decide +kernel
theorem dX7_wall_24 : decode cX7_wall 24 = .ok (.if_icmp .eq 17, 3) := by decide +kernel
theorem dX7_wall_27 : decode cX7_wall 27 = .ok (.aload_n 0, 1) := by decide +kernel
theorem dX7_wall_28 : decode cX7_wall 28 = .ok (.getfield 23, 3) := by decide +kernel
theorem dX7_wall_31 : decode cX7_wall 31 = .ok (.iload_n 1, 1) := by decide +kernel
theorem dX7_wall_32 : decode cX7_wall 32 = .ok (.iload 4, 2) := by decide +kernel
theorem dX7_wall_34 : decode cX7_wall 34 = .ok (.invokevirtual 100, 3) := by decide +kernel
theorem dX7_wall_37 : decode cX7_wall 37 = .ok (.iload_n 3, 1) := by decide +kernel
theorem dX7_wall_38 : decode cX7_wall 38 = .ok (.if_icmp .ne 5, 3) := by decide +kernel
theorem dX7_wall_41 : decode cX7_wall 41 = .ok (.iconst 0, 1) := by decide +kernel
theorem dX7_wall_42 : decode cX7_wall 42 = .ok (.ireturn, 1) := by decide +kernel
theorem dX7_wall_43 : decode cX7_wall 43 = .ok (.aload_n 0, 1) := by decide +kernel
theorem dX7_wall_44 : decode cX7_wall 44 = .ok (.getfield 23, 3) := by decide +kernel
theorem dX7_wall_47 : decode cX7_wall 47 = .ok (.iload_n 1, 1) := by decide +kernel
theorem dX7_wall_48 : decode cX7_wall 48 = .ok (.iload 4, 2) := by decide +kernel
theorem dX7_wall_50 : decode cX7_wall 50 = .ok (.iload_n 3, 1) := by decide +kernel
theorem dX7_wall_51 : decode cX7_wall 51 = .ok (.invokevirtual 104, 3) := by decide +kernel
theorem dX7_wall_54 : decode cX7_wall 54 = .ok (.aload_n 0, 1) := by decide +kernel
theorem dX7_wall_55 : decode cX7_wall 55 = .ok (.getfield 23, 3) := by decide +kernel
theorem dX7_wall_58 : decode cX7_wall 58 = .ok (.iload_n 2, 1) := by decide +kernel
theorem dX7_wall_59 : decode cX7_wall 59 = .ok (.aload_n 0, 1) := by decide +kernel
theorem dX7_wall_60 : decode cX7_wall 60 = .ok (.getfield 23, 3) := by decide +kernel
theorem dX7_wall_63 : decode cX7_wall 63 = .ok (.iload_n 2, 1) := by decide +kernel
theorem dX7_wall_64 : decode cX7_wall 64 = .ok (.iload_n 1, 1) := by decide +kernel
theorem dX7_wall_65 : decode cX7_wall 65 = .ok (.invokevirtual 83, 3) := by decide +kernel
theorem dX7_wall_68 : decode cX7_wall 68 = .ok (.iload_n 3, 1) := by decide +kernel
theorem dX7_wall_69 : decode cX7_wall 69 = .ok (.invokevirtual 104, 3) := by decide +kernel
theorem dX7_wall_72 : decode cX7_wall 72 = .ok (.iconst 1, 1) := by decide +kernel
theorem dX7_wall_73 : decode cX7_wall 73 = .ok (.ireturn, 1) := by decide +kernel
theorem dX7_pairs_0 : decode cX7_pairs 0 = .ok (.iconst 0, 1) := by decide +kernel
theorem dX7_pairs_1 : decode cX7_pairs 1 = .ok (.istore_n 2, 1) := by decide +kernel
theorem dX7_pairs_2 : decode cX7_pairs 2 = .ok (.iconst 0, 1) := by decide +kernel
theorem dX7_pairs_3 : decode cX7_pairs 3 = .ok (.istore_n 3, 1) := by decide +kernel
theorem dX7_pairs_4 : decode cX7_pairs 4 = .ok (.iload_n 3, 1) := by decide +kernel
theorem dX7_pairs_5 : decode cX7_pairs 5 = .ok (.aload_n 0, 1) := by decide +kernel
theorem dX7_pairs_6 : decode cX7_pairs 6 = .ok (.getfield 12, 3) := by decide +kernel
theorem dX7_pairs_9 : decode cX7_pairs 9 = .ok (.getfield 66, 3) := by decide +kernel
theorem dX7_pairs_12 : decode cX7_pairs 12 = .ok (.if_icmp .ge 76, 3) := by decide +kernel
theorem dX7_pairs_15 : decode cX7_pairs 15 = .ok (.iconst 0, 1) := by decide +kernel
theorem dX7_pairs_16 : decode cX7_pairs 16 = .ok (.istore 4, 2) := by decide +kernel
theorem dX7_pairs_18 : decode cX7_pairs 18 = .ok (.iload 4, 2) := by decide +kernel
theorem dX7_pairs_20 : decode cX7_pairs 20 = .ok (.aload_n 0, 1) := by decide +kernel
theorem dX7_pairs_21 : decode cX7_pairs 21 = .ok (.getfield 23, 3) := by decide +kernel
theorem dX7_pairs_24 : decode cX7_pairs 24 = .ok (.getfield 91, 3) := by decide +kernel
theorem dX7_pairs_27 : decode cX7_pairs 27 = .ok (.if_icmp .ge 55, 3) := by decide +kernel
theorem dX7_pairs_30 : decode cX7_pairs 30 = .ok (.aload_n 0, 1) := by decide +kernel
theorem dX7_pairs_31 : decode cX7_pairs 31 = .ok (.getfield 23, 3) := by decide +kernel
theorem dX7_pairs_34 : decode cX7_pairs 34 = .ok (.iload_n 3, 1) := by decide +kernel
theorem dX7_pairs_35 : decode cX7_pairs 35 = .ok (.iload 4, 2) := by decide +kernel
theorem dX7_pairs_37 : decode cX7_pairs 37 = .ok (.invokevirtual 97, 3) := by decide +kernel
theorem dX7_pairs_40 : decode cX7_pairs 40 = .ok (.iload_n 3, 1) := by decide +kernel
theorem dX7_pairs_41 : decode cX7_pairs 41 = .ok (.if_icmp .le 7, 3) := by decide +kernel
theorem dX7_pairs_44 : decode cX7_pairs 44 = .ok (.iconst 1, 1) := by decide +kernel
theorem dX7_pairs_45 : decode cX7_pairs 45 = .ok (.goto 4, 3) := by decide +kernel
theorem dX7_pairs_48 : decode cX7_pairs 48 = .ok (.iconst 0, 1) := by decide +kernel
theorem dX7_pairs_49 : decode cX7_pairs 49 = .ok (.istore 5, 2) := by decide +kernel
theorem dX7_pairs_51 : decode cX7_pairs 51 = .ok (.iload 5, 2) := by decide +kernel
theorem dX7_pairs_53 : decode cX7_pairs 53 = .ok (.ifCond .eq 23, 3) := by decide +kernel
theorem dX7_pairs_56 : decode cX7_pairs 56 = .ok (.iload_n 1, 1) := by decide +kernel
theorem dX7_pairs_57 : decode cX7_pairs 57 = .ok (.ifCond .eq 16, 3) := by decide +kernel
theorem dX7_pairs_60 : decode cX7_pairs 60 = .ok (.aload_n 0, 1) := by decide +kernel
theorem dX7_pairs_61 : decode cX7_pairs 61 = .ok (.getfield 23, 3) := by decide +kernel
theorem dX7_pairs_64 : decode cX7_pairs 64 = .ok (.iload_n 3, 1) := by decide +kernel
theorem dX7_pairs_65 : decode cX7_pairs 65 = .ok (.iload 4, 2) := by decide +kernel
theorem dX7_pairs_67 : decode cX7_pairs 67 = .ok (.invokevirtual 100, 3) := by decide +kernel
theorem dX7_pairs_70 : decode cX7_pairs 70 = .ok (.ifCond .eq 6, 3) := by decide +kernel
theorem dX7_pairs_73 : decode cX7_pairs 73 = .ok (.iinc 2 1, 3) := by decide +kernel
theorem dX7_pairs_76 : decode cX7_pairs 76 = .ok (.iinc 4 1, 3) := by decide +kernel
theorem dX7_pairs_79 : decode cX7_pairs 79 = .ok (.goto (-61), 3) := by decide +kernel
theorem dX7_pairs_82 : decode cX7_pairs 82 = .ok (.iinc 3 1, 3) := by decide +kernel
theorem dX7_pairs_85 : decode cX7_pairs 85 = .ok (.goto (-81), 3) := by decide +kernel
theorem dX7_pairs_88 : decode cX7_pairs 88 = .ok (.iload_n 2, 1) := by decide +kernel
theorem dX7_pairs_89 : decode cX7_pairs 89 = .ok (.ireturn, 1) := by decide +kernel
theorem dX7_pair_0 : decode cX7_pair 0 = .ok (.iconst 0, 1) := by decide +kernel
theorem dX7_pair_1 : decode cX7_pair 1 = .ok (.istore_n 3, 1) := by decide +kernel
theorem dX7_pair_2 : decode cX7_pair 2 = .ok (.iconst 0, 1) := by decide +kernel
theorem dX7_pair_3 : decode cX7_pair 3 = .ok (.istore 4, 2) := by decide +kernel
theorem dX7_pair_5 : decode cX7_pair 5 = .ok (.iload 4, 2) := by decide +kernel
theorem dX7_pair_7 : decode cX7_pair 7 = .ok (.aload_n 0, 1) := by decide +kernel
theorem dX7_pair_8 : decode cX7_pair 8 = .ok (.getfield 12, 3) := by decide +kernel
theorem dX7_pair_11 : decode cX7_pair 11 = .ok (.getfield 66, 3) := by decide +kernel
theorem dX7_pair_14 : decode cX7_pair 14 = .ok (.if_icmp .ge 82, 3) := by decide +kernel
theorem dX7_pair_17 : decode cX7_pair 17 = .ok (.aload_n 0, 1) := by decide +kernel
theorem dX7_pair_18 : decode cX7_pair 18 = .ok (.getfield 23, 3) := by decide +kernel
theorem dX7_pair_21 : decode cX7_pair 21 = .ok (.iload 4, 2) := by decide +kernel
theorem dX7_pair_23 : decode cX7_pair 23 = .ok (.iload 4, 2) := by decide +kernel
theorem dX7_pair_25 : decode cX7_pair 25 = .ok (.invokevirtual 108, 3) := by decide +kernel
theorem dX7_pair_28 : decode cX7_pair 28 = .ok (.istore 5, 2) := by decide +kernel
theorem dX7_pair_30 : decode cX7_pair 30 = .ok (.iconst 0, 1) := by decide +kernel
theorem dX7_pair_31 : decode cX7_pair 31 = .ok (.istore 6, 2) := by decide +kernel
theorem dX7_pair_33 : decode cX7_pair 33 = .ok (.iload 6, 2) := by decide +kernel
end
section
theorem dX7_pair_35 : decode cX7_pair 35 = .ok (.aload_n 0, 1) := by decide +kernel
theorem dX7_pair_36 : decode cX7_pair 36 = .ok (.getfield 23, 3) := by decide +kernel
theorem dX7_pair_39 : decode cX7_pair 39 = .ok (.getfield 91, 3) := by decide +kernel
theorem dX7_pair_42 : decode cX7_pair 42 = .ok (.if_icmp .ge 48, 3) := by decide +kernel
theorem dX7_pair_45 : decode cX7_pair 45 = .ok (.iload 5, 2) := by decide +kernel
theorem dX7_pair_47 : decode cX7_pair 47 = .ok (.iconst (-1), 1) := by decide +kernel
theorem dX7_pair_48 : decode cX7_pair 48 = .ok (.if_icmp .eq 42, 3) := by decide +kernel
theorem dX7_pair_51 : decode cX7_pair 51 = .ok (.iload_n 3, 1) := by decide +kernel
theorem dX7_pair_52 : decode cX7_pair 52 = .ok (.iload_n 1, 1) := by decide +kernel
theorem dX7_pair_53 : decode cX7_pair 53 = .ok (.if_icmp .ne 15, 3) := by decide +kernel
theorem dX7_pair_56 : decode cX7_pair 56 = .ok (.iload_n 2, 1) := by decide +kernel
theorem dX7_pair_57 : decode cX7_pair 57 = .ok (.ifCond .eq 8, 3) := by decide +kernel
theorem dX7_pair_60 : decode cX7_pair 60 = .ok (.iload 5, 2) := by decide +kernel
theorem dX7_pair_62 : decode cX7_pair 62 = .ok (.goto 5, 3) := by decide +kernel
theorem dX7_pair_65 : decode cX7_pair 65 = .ok (.iload 4, 2) := by decide +kernel
theorem dX7_pair_67 : decode cX7_pair 67 = .ok (.ireturn, 1) := by decide +kernel
theorem dX7_pair_68 : decode cX7_pair 68 = .ok (.iinc 3 1, 3) := by decide +kernel
theorem dX7_pair_71 : decode cX7_pair 71 = .ok (.aload_n 0, 1) := by decide +kernel
theorem dX7_pair_72 : decode cX7_pair 72 = .ok (.getfield 23, 3) := by decide +kernel
theorem dX7_pair_75 : decode cX7_pair 75 = .ok (.iload 4, 2) := by decide +kernel
theorem dX7_pair_77 : decode cX7_pair 77 = .ok (.iload 5, 2) := by decide +kernel
theorem dX7_pair_79 : decode cX7_pair 79 = .ok (.invokevirtual 108, 3) := by decide +kernel
theorem dX7_pair_82 : decode cX7_pair 82 = .ok (.istore 5, 2) := by decide +kernel
theorem dX7_pair_84 : decode cX7_pair 84 = .ok (.iinc 6 1, 3) := by decide +kernel
theorem dX7_pair_87 : decode cX7_pair 87 = .ok (.goto (-54), 3) := by decide +kernel
theorem dX7_pair_90 : decode cX7_pair 90 = .ok (.iinc 4 1, 3) := by decide +kernel
theorem dX7_pair_93 : decode cX7_pair 93 = .ok (.goto (-88), 3) := by decide +kernel
theorem dX7_pair_96 : decode cX7_pair 96 = .ok (.iconst (-1), 1) := by decide +kernel
theorem dX7_pair_97 : decode cX7_pair 97 = .ok (.ireturn, 1) := by decide +kernel
theorem dX7_seen_0 : decode cX7_seen 0 = .ok (.aload_n 0, 1) := by decide +kernel
theorem dX7_seen_1 : decode cX7_seen 1 = .ok (.iload_n 1, 1) := by decide +kernel
theorem dX7_seen_2 : decode cX7_seen 2 = .ok (.invokevirtual 77, 3) := by decide +kernel
theorem dX7_seen_5 : decode cX7_seen 5 = .ok (.iload_n 2, 1) := by decide +kernel
theorem dX7_seen_6 : decode cX7_seen 6 = .ok (.ifCond .lt 14, 3) := by decide +kernel
theorem dX7_seen_9 : decode cX7_seen 9 = .ok (.iload_n 2, 1) := by decide +kernel
theorem dX7_seen_10 : decode cX7_seen 10 = .ok (.aload_n 0, 1) := by decide +kernel
theorem dX7_seen_11 : decode cX7_seen 11 = .ok (.getfield 12, 3) := by decide +kernel
theorem dX7_seen_14 : decode cX7_seen 14 = .ok (.invokevirtual 111, 3) := by decide +kernel
theorem dX7_seen_17 : decode cX7_seen 17 = .ok (.if_icmp .lt 5, 3) := by decide +kernel
theorem dX7_seen_20 : decode cX7_seen 20 = .ok (.iconst (-1), 1) := by decide +kernel
theorem dX7_seen_21 : decode cX7_seen 21 = .ok (.ireturn, 1) := by decide +kernel
theorem dX7_seen_22 : decode cX7_seen 22 = .ok (.aload_n 0, 1) := by decide +kernel
theorem dX7_seen_23 : decode cX7_seen 23 = .ok (.getfield 23, 3) := by decide +kernel
theorem dX7_seen_26 : decode cX7_seen 26 = .ok (.iload_n 1, 1) := by decide +kernel
theorem dX7_seen_27 : decode cX7_seen 27 = .ok (.iload_n 2, 1) := by decide +kernel
theorem dX7_seen_28 : decode cX7_seen 28 = .ok (.invokevirtual 94, 3) := by decide +kernel
theorem dX7_seen_31 : decode cX7_seen 31 = .ok (.istore 4, 2) := by decide +kernel
theorem dX7_seen_33 : decode cX7_seen 33 = .ok (.iconst 0, 1) := by decide +kernel
theorem dX7_seen_34 : decode cX7_seen 34 = .ok (.istore 5, 2) := by decide +kernel
theorem dX7_seen_36 : decode cX7_seen 36 = .ok (.iload 5, 2) := by decide +kernel
theorem dX7_seen_38 : decode cX7_seen 38 = .ok (.aload_n 0, 1) := by decide +kernel
theorem dX7_seen_39 : decode cX7_seen 39 = .ok (.getfield 12, 3) := by decide +kernel
theorem dX7_seen_42 : decode cX7_seen 42 = .ok (.getfield 66, 3) := by decide +kernel
theorem dX7_seen_45 : decode cX7_seen 45 = .ok (.if_icmp .ge 42, 3) := by decide +kernel
theorem dX7_seen_48 : decode cX7_seen 48 = .ok (.iload 4, 2) := by decide +kernel
theorem dX7_seen_50 : decode cX7_seen 50 = .ok (.iconst (-1), 1) := by decide +kernel
theorem dX7_seen_51 : decode cX7_seen 51 = .ok (.if_icmp .eq 36, 3) := by decide +kernel
theorem dX7_seen_54 : decode cX7_seen 54 = .ok (.iload 4, 2) := by decide +kernel
theorem dX7_seen_56 : decode cX7_seen 56 = .ok (.iload_n 1, 1) := by decide +kernel
theorem dX7_seen_57 : decode cX7_seen 57 = .ok (.if_icmp .eq 30, 3) := by decide +kernel
theorem dX7_seen_60 : decode cX7_seen 60 = .ok (.iload 5, 2) := by decide +kernel
theorem dX7_seen_62 : decode cX7_seen 62 = .ok (.iload_n 3, 1) := by decide +kernel
theorem dX7_seen_63 : decode cX7_seen 63 = .ok (.if_icmp .ne 6, 3) := by decide +kernel
theorem dX7_seen_66 : decode cX7_seen 66 = .ok (.iload 4, 2) := by decide +kernel
theorem dX7_seen_68 : decode cX7_seen 68 = .ok (.ireturn, 1) := by decide +kernel
theorem dX7_seen_69 : decode cX7_seen 69 = .ok (.aload_n 0, 1) := by decide +kernel
theorem dX7_seen_70 : decode cX7_seen 70 = .ok (.getfield 23, 3) := by decide +kernel
theorem dX7_seen_73 : decode cX7_seen 73 = .ok (.iload 4, 2) := by decide +kernel
theorem dX7_seen_75 : decode cX7_seen 75 = .ok (.iload_n 2, 1) := by decide +kernel
theorem dX7_seen_76 : decode cX7_seen 76 = .ok (.invokevirtual 94, 3) := by decide +kernel
theorem dX7_seen_79 : decode cX7_seen 79 = .ok (.istore 4, 2) := by decide +kernel
theorem dX7_seen_81 : decode cX7_seen 81 = .ok (.iinc 5 1, 3) := by decide +kernel
theorem dX7_seen_84 : decode cX7_seen 84 = .ok (.goto (-48), 3) := by decide +kernel
theorem dX7_seen_87 : decode cX7_seen 87 = .ok (.iconst (-1), 1) := by decide +kernel
theorem dX7_seen_88 : decode cX7_seen 88 = .ok (.ireturn, 1) := by decide +kernel
theorem dX7_far_0 : decode cX7_far 0 = .ok (.aload_n 0, 1) := by decide +kernel
theorem dX7_far_1 : decode cX7_far 1 = .ok (.iload_n 1, 1) := by decide +kernel
theorem dX7_far_2 : decode cX7_far 2 = .ok (.invokevirtual 77, 3) := by decide +kernel
theorem dX7_far_5 : decode cX7_far 5 = .ok (.aload_n 0, 1) := by decide +kernel
theorem dX7_far_6 : decode cX7_far 6 = .ok (.iload_n 2, 1) := by decide +kernel
theorem dX7_far_7 : decode cX7_far 7 = .ok (.invokevirtual 77, 3) := by decide +kernel
theorem dX7_far_10 : decode cX7_far 10 = .ok (.aload_n 0, 1) := by decide +kernel
theorem dX7_far_11 : decode cX7_far 11 = .ok (.getfield 39, 3) := by decide +kernel
theorem dX7_far_14 : decode cX7_far 14 = .ok (.invokevirtual 115, 3) := by decide +kernel
theorem dX7_far_17 : decode cX7_far 17 = .ok (.aload_n 0, 1) := by decide +kernel
theorem dX7_far_18 : decode cX7_far 18 = .ok (.getfield 39, 3) := by decide +kernel
theorem dX7_far_21 : decode cX7_far 21 = .ok (.iload_n 1, 1) := by decide +kernel
theorem dX7_far_22 : decode cX7_far 22 = .ok (.invokevirtual 118, 3) := by decide +kernel
theorem dX7_far_25 : decode cX7_far 25 = .ok (.aload_n 0, 1) := by decide +kernel
theorem dX7_far_26 : decode cX7_far 26 = .ok (.getfield 39, 3) := by decide +kernel
theorem dX7_far_29 : decode cX7_far 29 = .ok (.iload_n 2, 1) := by decide +kernel
theorem dX7_far_30 : decode cX7_far 30 = .ok (.invokevirtual 121, 3) := by decide +kernel
theorem dX7_far_33 : decode cX7_far 33 = .ok (.ireturn, 1) := by decide +kernel
theorem dX7_parts_0 : decode cX7_parts 0 = .ok (.iload_n 1, 1) := by decide +kernel
theorem dX7_parts_1 : decode cX7_parts 1 = .ok (.ifCond .ge 13, 3) := by decide +kernel
theorem dX7_parts_4 : decode cX7_parts 4 = .ok (.aload_n 0, 1) := by decide +kernel
theorem dX7_parts_5 : decode cX7_parts 5 = .ok (.getfield 39, 3) := by decide +kernel
theorem dX7_parts_8 : decode cX7_parts 8 = .ok (.invokevirtual 115, 3) := by decide +kernel
theorem dX7_parts_11 : decode cX7_parts 11 = .ok (.goto 15, 3) := by decide +kernel
theorem dX7_parts_14 : decode cX7_parts 14 = .ok (.aload_n 0, 1) := by decide +kernel
theorem dX7_parts_15 : decode cX7_parts 15 = .ok (.getfield 39, 3) := by decide +kernel
theorem dX7_parts_18 : decode cX7_parts 18 = .ok (.aload_n 0, 1) := by decide +kernel
theorem dX7_parts_19 : decode cX7_parts 19 = .ok (.getfield 74, 3) := by decide +kernel
theorem dX7_parts_22 : decode cX7_parts 22 = .ok (.iload_n 1, 1) := by decide +kernel
theorem dX7_parts_23 : decode cX7_parts 23 = .ok (.invokevirtual 125, 3) := by decide +kernel
theorem dX7_parts_26 : decode cX7_parts 26 = .ok (.aload_n 0, 1) := by decide +kernel
theorem dX7_parts_27 : decode cX7_parts 27 = .ok (.getfield 39, 3) := by decide +kernel
theorem dX7_parts_30 : decode cX7_parts 30 = .ok (.invokevirtual 129, 3) := by decide +kernel
theorem dX7_parts_33 : decode cX7_parts 33 = .ok (.ireturn, 1) := by decide +kernel
theorem dX7_without_0 : decode cX7_without 0 = .ok (.aload_n 0, 1) := by decide +kernel
theorem dX7_without_1 : decode cX7_without 1 = .ok (.iload_n 1, 1) := by decide +kernel
theorem dX7_without_2 : decode cX7_without 2 = .ok (.invokevirtual 77, 3) := by decide +kernel
theorem dX7_without_5 : decode cX7_without 5 = .ok (.aload_n 0, 1) := by decide +kernel
theorem dX7_without_6 : decode cX7_without 6 = .ok (.getfield 39, 3) := by decide +kernel
theorem dX7_without_9 : decode cX7_without 9 = .ok (.invokevirtual 115, 3) := by decide +kernel
theorem dX7_without_12 : decode cX7_without 12 = .ok (.aload_n 0, 1) := by decide +kernel
theorem dX7_without_13 : decode cX7_without 13 = .ok (.getfield 39, 3) := by decide +kernel
theorem dX7_without_16 : decode cX7_without 16 = .ok (.iload_n 1, 1) := by decide +kernel
theorem dX7_without_17 : decode cX7_without 17 = .ok (.invokevirtual 132, 3) := by decide +kernel
theorem dX7_without_20 : decode cX7_without 20 = .ok (.aload_n 0, 1) := by decide +kernel
theorem dX7_without_21 : decode cX7_without 21 = .ok (.getfield 39, 3) := by decide +kernel
theorem dX7_without_24 : decode cX7_without 24 = .ok (.invokevirtual 129, 3) := by decide +kernel
theorem dX7_without_27 : decode cX7_without 27 = .ok (.ireturn, 1) := by decide +kernel
theorem dX7_area_0 : decode cX7_area 0 = .ok (.aload_n 0, 1) := by decide +kernel
theorem dX7_area_1 : decode cX7_area 1 = .ok (.iload_n 1, 1) := by decide +kernel
theorem dX7_area_2 : decode cX7_area 2 = .ok (.invokevirtual 77, 3) := by decide +kernel
theorem dX7_area_5 : decode cX7_area 5 = .ok (.iload_n 2, 1) := by decide +kernel
theorem dX7_area_6 : decode cX7_area 6 = .ok (.ifCond .lt 14, 3) := by decide +kernel
theorem dX7_area_9 : decode cX7_area 9 = .ok (.iload_n 2, 1) := by decide +kernel
theorem dX7_area_10 : decode cX7_area 10 = .ok (.aload_n 0, 1) := by decide +kernel
theorem dX7_area_11 : decode cX7_area 11 = .ok (.getfield 12, 3) := by decide +kernel
theorem dX7_area_14 : decode cX7_area 14 = .ok (.getfield 66, 3) := by decide +kernel
theorem dX7_area_17 : decode cX7_area 17 = .ok (.if_icmp .lt 5, 3) := by decide +kernel
theorem dX7_area_20 : decode cX7_area 20 = .ok (.iconst 0, 1) := by decide +kernel
theorem dX7_area_21 : decode cX7_area 21 = .ok (.ireturn, 1) := by decide +kernel
theorem dX7_area_22 : decode cX7_area 22 = .ok (.aload_n 0, 1) := by decide +kernel
theorem dX7_area_23 : decode cX7_area 23 = .ok (.getfield 74, 3) := by decide +kernel
theorem dX7_area_26 : decode cX7_area 26 = .ok (.iload_n 1, 1) := by decide +kernel
theorem dX7_area_27 : decode cX7_area 27 = .ok (.iload_n 2, 1) := by decide +kernel
theorem dX7_area_28 : decode cX7_area 28 = .ok (.iastore, 1) := by decide +kernel
theorem dX7_area_29 : decode cX7_area 29 = .ok (.iconst 1, 1) := by decide +kernel
theorem dX7_area_30 : decode cX7_area 30 = .ok (.ireturn, 1) := by decide +kernel
theorem dX7_size_0 : decode cX7_size 0 = .ok (.iconst 0, 1) := by decide +kernel
theorem dX7_size_1 : decode cX7_size 1 = .ok (.istore_n 2, 1) := by decide +kernel
theorem dX7_size_2 : decode cX7_size 2 = .ok (.iconst 0, 1) := by decide +kernel
theorem dX7_size_3 : decode cX7_size 3 = .ok (.istore_n 3, 1) := by decide +kernel
theorem dX7_size_4 : decode cX7_size 4 = .ok (.iload_n 3, 1) := by decide +kernel
theorem dX7_size_5 : decode cX7_size 5 = .ok (.aload_n 0, 1) := by decide +kernel
theorem dX7_size_6 : decode cX7_size 6 = .ok (.getfield 74, 3) := by decide +kernel
theorem dX7_size_9 : decode cX7_size 9 = .ok (.arraylength, 1) := by decide +kernel
theorem dX7_size_10 : decode cX7_size 10 = .ok (.if_icmp .ge 22, 3) := by decide +kernel
theorem dX7_size_13 : decode cX7_size 13 = .ok (.aload_n 0, 1) := by decide +kernel
theorem dX7_size_14 : decode cX7_size 14 = .ok (.getfield 74, 3) := by decide +kernel
theorem dX7_size_17 : decode cX7_size 17 = .ok (.iload_n 3, 1) := by decide +kernel
theorem dX7_size_18 : decode cX7_size 18 = .ok (.iaload, 1) := by decide +kernel
theorem dX7_size_19 : decode cX7_size 19 = .ok (.iload_n 1, 1) := by decide +kernel
theorem dX7_size_20 : decode cX7_size 20 = .ok (.if_icmp .ne 6, 3) := by decide +kernel
theorem dX7_size_23 : decode cX7_size 23 = .ok (.iinc 2 1, 3) := by decide +kernel
theorem dX7_size_26 : decode cX7_size 26 = .ok (.iinc 3 1, 3) := by decide +kernel
theorem dX7_size_29 : decode cX7_size 29 = .ok (.goto (-25), 3) := by decide +kernel
theorem dX7_size_32 : decode cX7_size 32 = .ok (.iload_n 2, 1) := by decide +kernel
theorem dX7_size_33 : decode cX7_size 33 = .ok (.ireturn, 1) := by decide +kernel
theorem dX7_mark_0 : decode cX7_mark 0 = .ok (.aload_n 0, 1) := by decide +kernel
theorem dX7_mark_1 : decode cX7_mark 1 = .ok (.iload_n 1, 1) := by decide +kernel
theorem dX7_mark_2 : decode cX7_mark 2 = .ok (.invokevirtual 77, 3) := by decide +kernel
theorem dX7_mark_5 : decode cX7_mark 5 = .ok (.iload_n 2, 1) := by decide +kernel
theorem dX7_mark_6 : decode cX7_mark 6 = .ok (.ifCond .lt 9, 3) := by decide +kernel
theorem dX7_mark_9 : decode cX7_mark 9 = .ok (.iload_n 2, 1) := by decide +kernel
theorem dX7_mark_10 : decode cX7_mark 10 = .ok (.bipush 99, 2) := by decide +kernel
theorem dX7_mark_12 : decode cX7_mark 12 = .ok (.if_icmp .le 5, 3) := by decide +kernel
theorem dX7_mark_15 : decode cX7_mark 15 = .ok (.iconst 0, 1) := by decide +kernel
theorem dX7_mark_16 : decode cX7_mark 16 = .ok (.ireturn, 1) := by decide +kernel
theorem dX7_mark_17 : decode cX7_mark 17 = .ok (.aload_n 0, 1) := by decide +kernel
theorem dX7_mark_18 : decode cX7_mark 18 = .ok (.getfield 70, 3) := by decide +kernel
theorem dX7_mark_21 : decode cX7_mark 21 = .ok (.iload_n 1, 1) := by decide +kernel
theorem dX7_mark_22 : decode cX7_mark 22 = .ok (.iload_n 2, 1) := by decide +kernel
theorem dX7_mark_23 : decode cX7_mark 23 = .ok (.iastore, 1) := by decide +kernel
theorem dX7_mark_24 : decode cX7_mark 24 = .ok (.iconst 1, 1) := by decide +kernel
theorem dX7_mark_25 : decode cX7_mark 25 = .ok (.ireturn, 1) := by decide +kernel
theorem dX7_image_0 : decode cX7_image 0 = .ok (.aload_n 0, 1) := by decide +kernel
theorem dX7_image_1 : decode cX7_image 1 = .ok (.iload_n 2, 1) := by decide +kernel
theorem dX7_image_2 : decode cX7_image 2 = .ok (.invokevirtual 77, 3) := by decide +kernel
theorem dX7_image_5 : decode cX7_image 5 = .ok (.aload_n 0, 1) := by decide +kernel
theorem dX7_image_6 : decode cX7_image 6 = .ok (.getfield 30, 3) := by decide +kernel
theorem dX7_image_9 : decode cX7_image 9 = .ok (.iload_n 1, 1) := by decide +kernel
theorem dX7_image_10 : decode cX7_image 10 = .ok (.invokevirtual 135, 3) := by decide +kernel
theorem dX7_image_13 : decode cX7_image 13 = .ok (.ifCond .eq 15, 3) := by decide +kernel
theorem dX7_image_16 : decode cX7_image 16 = .ok (.aload_n 0, 1) := by decide +kernel
theorem dX7_image_17 : decode cX7_image 17 = .ok (.getfield 30, 3) := by decide +kernel
theorem dX7_image_20 : decode cX7_image 20 = .ok (.iload_n 1, 1) := by decide +kernel
theorem dX7_image_21 : decode cX7_image 21 = .ok (.iload_n 2, 1) := by decide +kernel
theorem dX7_image_22 : decode cX7_image 22 = .ok (.invokevirtual 139, 3) := by decide +kernel
theorem dX7_image_25 : decode cX7_image 25 = .ok (.goto 4, 3) := by decide +kernel
theorem dX7_image_28 : decode cX7_image 28 = .ok (.iconst (-1), 1) := by decide +kernel
theorem dX7_image_29 : decode cX7_image 29 = .ok (.ireturn, 1) := by decide +kernel
theorem dX7_keeps_0 : decode cX7_keeps 0 = .ok (.aload_n 0, 1) := by decide +kernel
theorem dX7_keeps_1 : decode cX7_keeps 1 = .ok (.getfield 30, 3) := by decide +kernel
theorem dX7_keeps_4 : decode cX7_keeps 4 = .ok (.iload_n 1, 1) := by decide +kernel
theorem dX7_keeps_5 : decode cX7_keeps 5 = .ok (.invokevirtual 135, 3) := by decide +kernel
theorem dX7_keeps_8 : decode cX7_keeps 8 = .ok (.ifCond .eq 15, 3) := by decide +kernel
theorem dX7_keeps_11 : decode cX7_keeps 11 = .ok (.aload_n 0, 1) := by decide +kernel
theorem dX7_keeps_12 : decode cX7_keeps 12 = .ok (.iload_n 1, 1) := by decide +kernel
theorem dX7_keeps_13 : decode cX7_keeps 13 = .ok (.invokevirtual 142, 3) := by decide +kernel
theorem dX7_keeps_16 : decode cX7_keeps 16 = .ok (.ifCond .eq 7, 3) := by decide +kernel
theorem dX7_keeps_19 : decode cX7_keeps 19 = .ok (.iconst 1, 1) := by decide +kernel
theorem dX7_keeps_20 : decode cX7_keeps 20 = .ok (.goto 4, 3) := by decide +kernel
theorem dX7_keeps_23 : decode cX7_keeps 23 = .ok (.iconst 0, 1) := by decide +kernel
theorem dX7_keeps_24 : decode cX7_keeps 24 = .ok (.ireturn, 1) := by decide +kernel
theorem dX7_keeping_0 : decode cX7_keeping 0 = .ok (.iconst 0, 1) := by decide +kernel
theorem dX7_keeping_1 : decode cX7_keeping 1 = .ok (.istore_n 1, 1) := by decide +kernel
theorem dX7_keeping_2 : decode cX7_keeping 2 = .ok (.iconst 0, 1) := by decide +kernel
theorem dX7_keeping_3 : decode cX7_keeping 3 = .ok (.istore_n 2, 1) := by decide +kernel
theorem dX7_keeping_4 : decode cX7_keeping 4 = .ok (.iload_n 2, 1) := by decide +kernel
theorem dX7_keeping_5 : decode cX7_keeping 5 = .ok (.aload_n 0, 1) := by decide +kernel
theorem dX7_keeping_6 : decode cX7_keeping 6 = .ok (.getfield 30, 3) := by decide +kernel
theorem dX7_keeping_9 : decode cX7_keeping 9 = .ok (.getfield 145, 3) := by decide +kernel
theorem dX7_keeping_12 : decode cX7_keeping 12 = .ok (.if_icmp .ge 20, 3) := by decide +kernel
theorem dX7_keeping_15 : decode cX7_keeping 15 = .ok (.aload_n 0, 1) := by decide +kernel
theorem dX7_keeping_16 : decode cX7_keeping 16 = .ok (.iload_n 2, 1) := by decide +kernel
theorem dX7_keeping_17 : decode cX7_keeping 17 = .ok (.invokevirtual 142, 3) := by decide +kernel
theorem dX7_keeping_20 : decode cX7_keeping 20 = .ok (.ifCond .eq 6, 3) := by decide +kernel
theorem dX7_keeping_23 : decode cX7_keeping 23 = .ok (.iinc 1 1, 3) := by decide +kernel
theorem dX7_keeping_26 : decode cX7_keeping 26 = .ok (.iinc 2 1, 3) := by decide +kernel
theorem dX7_keeping_29 : decode cX7_keeping 29 = .ok (.goto (-25), 3) := by decide +kernel
theorem dX7_keeping_32 : decode cX7_keeping 32 = .ok (.iload_n 1, 1) := by decide +kernel
theorem dX7_keeping_33 : decode cX7_keeping 33 = .ok (.ireturn, 1) := by decide +kernel
theorem dX7_text_0 : decode cX7_text 0 = .ok (.aload_n 0, 1) := by decide +kernel
theorem dX7_text_1 : decode cX7_text 1 = .ok (.getfield 46, 3) := by decide +kernel
theorem dX7_text_4 : decode cX7_text 4 = .ok (.aload_n 0, 1) := by decide +kernel
theorem dX7_text_5 : decode cX7_text 5 = .ok (.getfield 70, 3) := by decide +kernel
theorem dX7_text_8 : decode cX7_text 8 = .ok (.invokevirtual 146, 3) := by decide +kernel
theorem dX7_text_11 : decode cX7_text 11 = .ok (.aload_n 0, 1) := by decide +kernel
theorem dX7_text_12 : decode cX7_text 12 = .ok (.getfield 46, 3) := by decide +kernel
theorem dX7_text_15 : decode cX7_text 15 = .ok (.getfield 150, 3) := by decide +kernel
theorem dX7_text_18 : decode cX7_text 18 = .ok (.iload_n 1, 1) := by decide +kernel
theorem dX7_text_19 : decode cX7_text 19 = .ok (.invokevirtual 153, 3) := by decide +kernel
theorem dX7_text_22 : decode cX7_text 22 = .ok (.ireturn, 1) := by decide +kernel
theorem dX7_unit_0 : decode cX7_unit 0 = .ok (.iload_n 1, 1) := by decide +kernel
theorem dX7_unit_1 : decode cX7_unit 1 = .ok (.ifCond .lt 25, 3) := by decide +kernel
theorem dX7_unit_4 : decode cX7_unit 4 = .ok (.iload_n 1, 1) := by decide +kernel
theorem dX7_unit_5 : decode cX7_unit 5 = .ok (.sipush 255, 3) := by decide +kernel
theorem dX7_unit_8 : decode cX7_unit 8 = .ok (.if_icmp .gt 18, 3) := by decide +kernel
theorem dX7_unit_11 : decode cX7_unit 11 = .ok (.aload_n 0, 1) := by decide +kernel
theorem dX7_unit_12 : decode cX7_unit 12 = .ok (.getfield 62, 3) := by decide +kernel
theorem dX7_unit_15 : decode cX7_unit 15 = .ok (.iload_n 1, 1) := by decide +kernel
theorem dX7_unit_16 : decode cX7_unit 16 = .ok (.invokevirtual 156, 3) := by decide +kernel
theorem dX7_unit_19 : decode cX7_unit 19 = .ok (.ifCond .eq 7, 3) := by decide +kernel
theorem dX7_unit_22 : decode cX7_unit 22 = .ok (.iconst 1, 1) := by decide +kernel
theorem dX7_unit_23 : decode cX7_unit 23 = .ok (.goto 4, 3) := by decide +kernel
theorem dX7_unit_26 : decode cX7_unit 26 = .ok (.iconst 0, 1) := by decide +kernel
theorem dX7_unit_27 : decode cX7_unit 27 = .ok (.ireturn, 1) := by decide +kernel
theorem dX7_read_0 : decode cX7_read 0 = .ok (.aload_n 0, 1) := by decide +kernel
theorem dX7_read_1 : decode cX7_read 1 = .ok (.getfield 53, 3) := by decide +kernel
theorem dX7_read_4 : decode cX7_read 4 = .ok (.aload_n 0, 1) := by decide +kernel
theorem dX7_read_5 : decode cX7_read 5 = .ok (.getfield 62, 3) := by decide +kernel
theorem dX7_read_8 : decode cX7_read 8 = .ok (.invokevirtual 159, 3) := by decide +kernel
theorem dX7_read_11 : decode cX7_read 11 = .ok (.istore_n 1, 1) := by decide +kernel
theorem dX7_read_12 : decode cX7_read 12 = .ok (.aload_n 0, 1) := by decide +kernel
theorem dX7_read_13 : decode cX7_read 13 = .ok (.getfield 62, 3) := by decide +kernel
theorem dX7_read_16 : decode cX7_read 16 = .ok (.invokevirtual 163, 3) := by decide +kernel
theorem dX7_read_19 : decode cX7_read 19 = .ok (.iload_n 1, 1) := by decide +kernel
theorem dX7_read_20 : decode cX7_read 20 = .ok (.iconst (-1), 1) := by decide +kernel
theorem dX7_read_21 : decode cX7_read 21 = .ok (.if_icmp .eq 7, 3) := by decide +kernel
theorem dX7_read_24 : decode cX7_read 24 = .ok (.iconst (-1), 1) := by decide +kernel
theorem dX7_read_25 : decode cX7_read 25 = .ok (.iload_n 1, 1) := by decide +kernel
theorem dX7_read_26 : decode cX7_read 26 = .ok (.isub, 1) := by decide +kernel
theorem dX7_read_27 : decode cX7_read 27 = .ok (.ireturn, 1) := by decide +kernel
theorem dX7_read_28 : decode cX7_read 28 = .ok (.aload_n 0, 1) := by decide +kernel
theorem dX7_read_29 : decode cX7_read 29 = .ok (.getfield 53, 3) := by decide +kernel
theorem dX7_read_32 : decode cX7_read 32 = .ok (.aload_n 0, 1) := by decide +kernel
theorem dX7_read_33 : decode cX7_read 33 = .ok (.getfield 70, 3) := by decide +kernel
theorem dX7_read_36 : decode cX7_read 36 = .ok (.invokevirtual 166, 3) := by decide +kernel
theorem dX7_read_39 : decode cX7_read 39 = .ok (.aload_n 0, 1) := by decide +kernel
theorem dX7_read_40 : decode cX7_read 40 = .ok (.getfield 12, 3) := by decide +kernel
theorem dX7_read_43 : decode cX7_read 43 = .ok (.getfield 66, 3) := by decide +kernel
theorem dX7_read_46 : decode cX7_read 46 = .ok (.ireturn, 1) := by decide +kernel
theorem dX7_demandPlace_0 : decode cX7_demandPlace 0 = .ok (.aload_n 0, 1) := by decide +kernel
theorem dX7_demandPlace_1 : decode cX7_demandPlace 1 = .ok (.getfield 12, 3) := by decide +kernel
theorem dX7_demandPlace_4 : decode cX7_demandPlace 4 = .ok (.iload_n 1, 1) := by decide +kernel
theorem dX7_demandPlace_5 : decode cX7_demandPlace 5 = .ok (.invokevirtual 169, 3) := by decide +kernel
theorem dX7_demandPlace_8 : decode cX7_demandPlace 8 = .ok (.ifCond .ne 13, 3) := by decide +kernel
theorem dX7_demandPlace_11 : decode cX7_demandPlace 11 = .ok (.new 170, 3) := by decide +kernel
theorem dX7_demandPlace_14 : decode cX7_demandPlace 14 = .ok (.dup, 1) := by decide +kernel
theorem dX7_demandPlace_15 : decode cX7_demandPlace 15 = .ok (.ldc 172, 2) := by decide +kernel
theorem dX7_demandPlace_17 : decode cX7_demandPlace 17 = .ok (.invokespecial 174, 3) := by decide +kernel
theorem dX7_demandPlace_20 : decode cX7_demandPlace 20 = .ok (.athrow, 1) := by decide +kernel
theorem dX7_demandPlace_21 : decode cX7_demandPlace 21 = .ok (.return_, 1) := by decide +kernel
theorem dX7_keepsAllPlaces_0 : decode cX7_keepsAllPlaces 0 = .ok (.iconst 0, 1) := by decide +kernel
theorem dX7_keepsAllPlaces_1 : decode cX7_keepsAllPlaces 1 = .ok (.istore_n 2, 1) := by decide +kernel
theorem dX7_keepsAllPlaces_2 : decode cX7_keepsAllPlaces 2 = .ok (.iload_n 2, 1) := by decide +kernel
theorem dX7_keepsAllPlaces_3 : decode cX7_keepsAllPlaces 3 = .ok (.aload_n 0, 1) := by decide +kernel
theorem dX7_keepsAllPlaces_4 : decode cX7_keepsAllPlaces 4 = .ok (.getfield 70, 3) := by decide +kernel
theorem dX7_keepsAllPlaces_7 : decode cX7_keepsAllPlaces 7 = .ok (.arraylength, 1) := by decide +kernel
theorem dX7_keepsAllPlaces_8 : decode cX7_keepsAllPlaces 8 = .ok (.if_icmp .ge 57, 3) := by decide +kernel
theorem dX7_keepsAllPlaces_11 : decode cX7_keepsAllPlaces 11 = .ok (.aload_n 0, 1) := by decide +kernel
theorem dX7_keepsAllPlaces_12 : decode cX7_keepsAllPlaces 12 = .ok (.getfield 30, 3) := by decide +kernel
theorem dX7_keepsAllPlaces_15 : decode cX7_keepsAllPlaces 15 = .ok (.iload_n 1, 1) := by decide +kernel
theorem dX7_keepsAllPlaces_16 : decode cX7_keepsAllPlaces 16 = .ok (.iload_n 2, 1) := by decide +kernel
theorem dX7_keepsAllPlaces_17 : decode cX7_keepsAllPlaces 17 = .ok (.invokevirtual 139, 3) := by decide +kernel
theorem dX7_keepsAllPlaces_20 : decode cX7_keepsAllPlaces 20 = .ok (.istore_n 3, 1) := by decide +kernel
theorem dX7_keepsAllPlaces_21 : decode cX7_keepsAllPlaces 21 = .ok (.aload_n 0, 1) := by decide +kernel
theorem dX7_keepsAllPlaces_22 : decode cX7_keepsAllPlaces 22 = .ok (.getfield 12, 3) := by decide +kernel
theorem dX7_keepsAllPlaces_25 : decode cX7_keepsAllPlaces 25 = .ok (.iload_n 3, 1) := by decide +kernel
theorem dX7_keepsAllPlaces_26 : decode cX7_keepsAllPlaces 26 = .ok (.invokevirtual 169, 3) := by decide +kernel
theorem dX7_keepsAllPlaces_29 : decode cX7_keepsAllPlaces 29 = .ok (.ifCond .eq 28, 3) := by decide +kernel
theorem dX7_keepsAllPlaces_32 : decode cX7_keepsAllPlaces 32 = .ok (.aload_n 0, 1) := by decide +kernel
theorem dX7_keepsAllPlaces_33 : decode cX7_keepsAllPlaces 33 = .ok (.getfield 70, 3) := by decide +kernel
theorem dX7_keepsAllPlaces_36 : decode cX7_keepsAllPlaces 36 = .ok (.iload_n 2, 1) := by decide +kernel
theorem dX7_keepsAllPlaces_37 : decode cX7_keepsAllPlaces 37 = .ok (.iaload, 1) := by decide +kernel
theorem dX7_keepsAllPlaces_38 : decode cX7_keepsAllPlaces 38 = .ok (.aload_n 0, 1) := by decide +kernel
theorem dX7_keepsAllPlaces_39 : decode cX7_keepsAllPlaces 39 = .ok (.getfield 70, 3) := by decide +kernel
theorem dX7_keepsAllPlaces_42 : decode cX7_keepsAllPlaces 42 = .ok (.iload_n 3, 1) := by decide +kernel
theorem dX7_keepsAllPlaces_43 : decode cX7_keepsAllPlaces 43 = .ok (.iaload, 1) := by decide +kernel
theorem dX7_keepsAllPlaces_44 : decode cX7_keepsAllPlaces 44 = .ok (.if_icmp .ne 13, 3) := by decide +kernel
theorem dX7_keepsAllPlaces_47 : decode cX7_keepsAllPlaces 47 = .ok (.aload_n 0, 1) := by decide +kernel
theorem dX7_keepsAllPlaces_48 : decode cX7_keepsAllPlaces 48 = .ok (.iload_n 1, 1) := by decide +kernel
theorem dX7_keepsAllPlaces_49 : decode cX7_keepsAllPlaces 49 = .ok (.iload_n 2, 1) := by decide +kernel
theorem dX7_keepsAllPlaces_50 : decode cX7_keepsAllPlaces 50 = .ok (.iload_n 3, 1) := by decide +kernel
theorem dX7_keepsAllPlaces_51 : decode cX7_keepsAllPlaces 51 = .ok (.invokevirtual 177, 3) := by decide +kernel
theorem dX7_keepsAllPlaces_54 : decode cX7_keepsAllPlaces 54 = .ok (.ifCond .ne 5, 3) := by decide +kernel
theorem dX7_keepsAllPlaces_57 : decode cX7_keepsAllPlaces 57 = .ok (.iconst 0, 1) := by decide +kernel
theorem dX7_keepsAllPlaces_58 : decode cX7_keepsAllPlaces 58 = .ok (.ireturn, 1) := by decide +kernel
theorem dX7_keepsAllPlaces_59 : decode cX7_keepsAllPlaces 59 = .ok (.iinc 2 1, 3) := by decide +kernel
theorem dX7_keepsAllPlaces_62 : decode cX7_keepsAllPlaces 62 = .ok (.goto (-60), 3) := by decide +kernel
theorem dX7_keepsAllPlaces_65 : decode cX7_keepsAllPlaces 65 = .ok (.iconst 1, 1) := by decide +kernel
theorem dX7_keepsAllPlaces_66 : decode cX7_keepsAllPlaces 66 = .ok (.ireturn, 1) := by decide +kernel
theorem dX7_keepsBeside_0 : decode cX7_keepsBeside 0 = .ok (.iconst 0, 1) := by decide +kernel
theorem dX7_keepsBeside_1 : decode cX7_keepsBeside 1 = .ok (.istore 4, 2) := by decide +kernel
theorem dX7_keepsBeside_3 : decode cX7_keepsBeside 3 = .ok (.iload 4, 2) := by decide +kernel
theorem dX7_keepsBeside_5 : decode cX7_keepsBeside 5 = .ok (.aload_n 0, 1) := by decide +kernel
theorem dX7_keepsBeside_6 : decode cX7_keepsBeside 6 = .ok (.getfield 23, 3) := by decide +kernel
theorem dX7_keepsBeside_9 : decode cX7_keepsBeside 9 = .ok (.getfield 91, 3) := by decide +kernel
theorem dX7_keepsBeside_12 : decode cX7_keepsBeside 12 = .ok (.if_icmp .ge 78, 3) := by decide +kernel
theorem dX7_keepsBeside_15 : decode cX7_keepsBeside 15 = .ok (.aload_n 0, 1) := by decide +kernel
theorem dX7_keepsBeside_16 : decode cX7_keepsBeside 16 = .ok (.getfield 23, 3) := by decide +kernel
theorem dX7_keepsBeside_19 : decode cX7_keepsBeside 19 = .ok (.iload_n 2, 1) := by decide +kernel
theorem dX7_keepsBeside_20 : decode cX7_keepsBeside 20 = .ok (.iload 4, 2) := by decide +kernel
theorem dX7_keepsBeside_22 : decode cX7_keepsBeside 22 = .ok (.invokevirtual 97, 3) := by decide +kernel
theorem dX7_keepsBeside_25 : decode cX7_keepsBeside 25 = .ok (.istore 5, 2) := by decide +kernel
theorem dX7_keepsBeside_27 : decode cX7_keepsBeside 27 = .ok (.iload 5, 2) := by decide +kernel
theorem dX7_keepsBeside_29 : decode cX7_keepsBeside 29 = .ok (.iconst (-1), 1) := by decide +kernel
theorem dX7_keepsBeside_30 : decode cX7_keepsBeside 30 = .ok (.if_icmp .eq 54, 3) := by decide +kernel
theorem dX7_keepsBeside_33 : decode cX7_keepsBeside 33 = .ok (.aload_n 0, 1) := by decide +kernel
theorem dX7_keepsBeside_34 : decode cX7_keepsBeside 34 = .ok (.getfield 23, 3) := by decide +kernel
theorem dX7_keepsBeside_37 : decode cX7_keepsBeside 37 = .ok (.iload_n 3, 1) := by decide +kernel
theorem dX7_keepsBeside_38 : decode cX7_keepsBeside 38 = .ok (.aload_n 0, 1) := by decide +kernel
theorem dX7_keepsBeside_39 : decode cX7_keepsBeside 39 = .ok (.getfield 30, 3) := by decide +kernel
theorem dX7_keepsBeside_42 : decode cX7_keepsBeside 42 = .ok (.iload_n 1, 1) := by decide +kernel
theorem dX7_keepsBeside_43 : decode cX7_keepsBeside 43 = .ok (.iload 5, 2) := by decide +kernel
theorem dX7_keepsBeside_45 : decode cX7_keepsBeside 45 = .ok (.invokevirtual 139, 3) := by decide +kernel
theorem dX7_keepsBeside_48 : decode cX7_keepsBeside 48 = .ok (.invokevirtual 83, 3) := by decide +kernel
theorem dX7_keepsBeside_51 : decode cX7_keepsBeside 51 = .ok (.istore 6, 2) := by decide +kernel
theorem dX7_keepsBeside_53 : decode cX7_keepsBeside 53 = .ok (.iload 6, 2) := by decide +kernel
theorem dX7_keepsBeside_55 : decode cX7_keepsBeside 55 = .ok (.iconst (-1), 1) := by decide +kernel
theorem dX7_keepsBeside_56 : decode cX7_keepsBeside 56 = .ok (.if_icmp .eq 26, 3) := by decide +kernel
theorem dX7_keepsBeside_59 : decode cX7_keepsBeside 59 = .ok (.aload_n 0, 1) := by decide +kernel
theorem dX7_keepsBeside_60 : decode cX7_keepsBeside 60 = .ok (.getfield 23, 3) := by decide +kernel
theorem dX7_keepsBeside_63 : decode cX7_keepsBeside 63 = .ok (.iload_n 2, 1) := by decide +kernel
theorem dX7_keepsBeside_64 : decode cX7_keepsBeside 64 = .ok (.iload 4, 2) := by decide +kernel
theorem dX7_keepsBeside_66 : decode cX7_keepsBeside 66 = .ok (.invokevirtual 100, 3) := by decide +kernel
theorem dX7_keepsBeside_69 : decode cX7_keepsBeside 69 = .ok (.aload_n 0, 1) := by decide +kernel
theorem dX7_keepsBeside_70 : decode cX7_keepsBeside 70 = .ok (.getfield 23, 3) := by decide +kernel
theorem dX7_keepsBeside_73 : decode cX7_keepsBeside 73 = .ok (.iload_n 3, 1) := by decide +kernel
theorem dX7_keepsBeside_74 : decode cX7_keepsBeside 74 = .ok (.iload 6, 2) := by decide +kernel
theorem dX7_keepsBeside_76 : decode cX7_keepsBeside 76 = .ok (.invokevirtual 100, 3) := by decide +kernel
theorem dX7_keepsBeside_79 : decode cX7_keepsBeside 79 = .ok (.if_icmp .eq 5, 3) := by decide +kernel
theorem dX7_keepsBeside_82 : decode cX7_keepsBeside 82 = .ok (.iconst 0, 1) := by decide +kernel
theorem dX7_keepsBeside_83 : decode cX7_keepsBeside 83 = .ok (.ireturn, 1) := by decide +kernel
theorem dX7_keepsBeside_84 : decode cX7_keepsBeside 84 = .ok (.iinc 4 1, 3) := by decide +kernel
theorem dX7_keepsBeside_87 : decode cX7_keepsBeside 87 = .ok (.goto (-84), 3) := by decide +kernel
theorem dX7_keepsBeside_90 : decode cX7_keepsBeside 90 = .ok (.iconst 1, 1) := by decide +kernel
theorem dX7_keepsBeside_91 : decode cX7_keepsBeside 91 = .ok (.ireturn, 1) := by decide +kernel
theorem dX7_within_0 : decode cX7_within 0 = .ok (.iload_n 0, 1) := by decide +kernel
theorem dX7_within_1 : decode cX7_within 1 = .ok (.iload_n 1, 1) := by decide +kernel
theorem dX7_within_2 : decode cX7_within 2 = .ok (.if_icmp .ge 7, 3) := by decide +kernel
theorem dX7_within_5 : decode cX7_within 5 = .ok (.iload_n 1, 1) := by decide +kernel
theorem dX7_within_6 : decode cX7_within 6 = .ok (.goto 13, 3) := by decide +kernel
theorem dX7_within_9 : decode cX7_within 9 = .ok (.iload_n 0, 1) := by decide +kernel
theorem dX7_within_10 : decode cX7_within 10 = .ok (.iload_n 2, 1) := by decide +kernel
theorem dX7_within_11 : decode cX7_within 11 = .ok (.if_icmp .le 7, 3) := by decide +kernel
theorem dX7_within_14 : decode cX7_within 14 = .ok (.iload_n 2, 1) := by decide +kernel
theorem dX7_within_15 : decode cX7_within 15 = .ok (.goto 4, 3) := by decide +kernel
theorem dX7_within_18 : decode cX7_within 18 = .ok (.iload_n 0, 1) := by decide +kernel
theorem dX7_within_19 : decode cX7_within 19 = .ok (.ireturn, 1) := by decide +kernel
theorem dX7_isDigit_0 : decode cX7_isDigit 0 = .ok (.iload_n 0, 1) := by decide +kernel
theorem dX7_isDigit_1 : decode cX7_isDigit 1 = .ok (.bipush 48, 2) := by decide +kernel
theorem dX7_isDigit_3 : decode cX7_isDigit 3 = .ok (.if_icmp .lt 13, 3) := by decide +kernel
theorem dX7_isDigit_6 : decode cX7_isDigit 6 = .ok (.iload_n 0, 1) := by decide +kernel
theorem dX7_isDigit_7 : decode cX7_isDigit 7 = .ok (.bipush 57, 2) := by decide +kernel
theorem dX7_isDigit_9 : decode cX7_isDigit 9 = .ok (.if_icmp .gt 7, 3) := by decide +kernel
theorem dX7_isDigit_12 : decode cX7_isDigit 12 = .ok (.iconst 1, 1) := by decide +kernel
theorem dX7_isDigit_13 : decode cX7_isDigit 13 = .ok (.goto 4, 3) := by decide +kernel
theorem dX7_isDigit_16 : decode cX7_isDigit 16 = .ok (.iconst 0, 1) := by decide +kernel
theorem dX7_isDigit_17 : decode cX7_isDigit 17 = .ok (.ireturn, 1) := by decide +kernel
theorem dX8_init_0 : decode cX8_init 0 = .ok (.aload_n 0, 1) := by decide +kernel
theorem dX8_init_1 : decode cX8_init 1 = .ok (.invokespecial 1, 3) := by decide +kernel
theorem dX8_init_4 : decode cX8_init 4 = .ok (.aload_n 0, 1) := by decide +kernel
theorem dX8_init_5 : decode cX8_init 5 = .ok (.ldc 7, 2) := by decide +kernel
theorem dX8_init_7 : decode cX8_init 7 = .ok (.newarray .boolean, 2) := by decide +kernel
theorem dX8_init_9 : decode cX8_init 9 = .ok (.putfield 8, 3) := by decide +kernel
theorem dX8_init_12 : decode cX8_init 12 = .ok (.aload_n 0, 1) := by decide +kernel
theorem dX8_init_13 : decode cX8_init 13 = .ok (.ldc 7, 2) := by decide +kernel
theorem dX8_init_15 : decode cX8_init 15 = .ok (.newarray .boolean, 2) := by decide +kernel
theorem dX8_init_17 : decode cX8_init 17 = .ok (.putfield 14, 3) := by decide +kernel
theorem dX8_init_20 : decode cX8_init 20 = .ok (.aload_n 0, 1) := by decide +kernel
theorem dX8_init_21 : decode cX8_init 21 = .ok (.sipush 256, 3) := by decide +kernel
theorem dX8_init_24 : decode cX8_init 24 = .ok (.newarray .int, 2) := by decide +kernel
theorem dX8_init_26 : decode cX8_init 26 = .ok (.putfield 17, 3) := by decide +kernel
theorem dX8_init_29 : decode cX8_init 29 = .ok (.aload_n 0, 1) := by decide +kernel
theorem dX8_init_30 : decode cX8_init 30 = .ok (.sipush 256, 3) := by decide +kernel
theorem dX8_init_33 : decode cX8_init 33 = .ok (.newarray .int, 2) := by decide +kernel
theorem dX8_init_35 : decode cX8_init 35 = .ok (.putfield 21, 3) := by decide +kernel
theorem dX8_init_38 : decode cX8_init 38 = .ok (.aload_n 0, 1) := by decide +kernel
theorem dX8_init_39 : decode cX8_init 39 = .ok (.sipush 256, 3) := by decide +kernel
theorem dX8_init_42 : decode cX8_init 42 = .ok (.newarray .int, 2) := by decide +kernel
theorem dX8_init_44 : decode cX8_init 44 = .ok (.putfield 24, 3) := by decide +kernel
theorem dX8_init_47 : decode cX8_init 47 = .ok (.aload_n 0, 1) := by decide +kernel
theorem dX8_init_48 : decode cX8_init 48 = .ok (.sipush 256, 3) := by decide +kernel
theorem dX8_init_51 : decode cX8_init 51 = .ok (.newarray .boolean, 2) := by decide +kernel
theorem dX8_init_53 : decode cX8_init 53 = .ok (.putfield 27, 3) := by decide +kernel
theorem dX8_init_56 : decode cX8_init 56 = .ok (.aload_n 0, 1) := by decide +kernel
theorem dX8_init_57 : decode cX8_init 57 = .ok (.sipush 1200, 3) := by decide +kernel
theorem dX8_init_60 : decode cX8_init 60 = .ok (.newarray .int, 2) := by decide +kernel
theorem dX8_init_62 : decode cX8_init 62 = .ok (.putfield 30, 3) := by decide +kernel
theorem dX8_init_65 : decode cX8_init 65 = .ok (.aload_n 0, 1) := by decide +kernel
theorem dX8_init_66 : decode cX8_init 66 = .ok (.sipush 256, 3) := by decide +kernel
theorem dX8_init_69 : decode cX8_init 69 = .ok (.newarray .int, 2) := by decide +kernel
theorem dX8_init_71 : decode cX8_init 71 = .ok (.putfield 33, 3) := by decide +kernel
theorem dX8_init_74 : decode cX8_init 74 = .ok (.aload_n 0, 1) := by decide +kernel
theorem dX8_init_75 : decode cX8_init 75 = .ok (.iload_n 1, 1) := by decide +kernel
theorem dX8_init_76 : decode cX8_init 76 = .ok (.iconst 0, 1) := by decide +kernel
theorem dX8_init_77 : decode cX8_init 77 = .ok (.iconst 4, 1) := by decide +kernel
theorem dX8_init_78 : decode cX8_init 78 = .ok (.invokestatic 36, 3) := by decide +kernel
theorem dX8_init_81 : decode cX8_init 81 = .ok (.putfield 40, 3) := by decide +kernel
theorem dX8_init_84 : decode cX8_init 84 = .ok (.aload_n 0, 1) := by decide +kernel
theorem dX8_init_85 : decode cX8_init 85 = .ok (.iload_n 2, 1) := by decide +kernel
theorem dX8_init_86 : decode cX8_init 86 = .ok (.iconst 1, 1) := by decide +kernel
theorem dX8_init_87 : decode cX8_init 87 = .ok (.bipush 16, 2) := by decide +kernel
theorem dX8_init_89 : decode cX8_init 89 = .ok (.invokestatic 36, 3) := by decide +kernel
theorem dX8_init_92 : decode cX8_init 92 = .ok (.putfield 44, 3) := by decide +kernel
theorem dX8_init_95 : decode cX8_init 95 = .ok (.aload_n 0, 1) := by decide +kernel
theorem dX8_init_96 : decode cX8_init 96 = .ok (.aload_n 0, 1) := by decide +kernel
theorem dX8_init_97 : decode cX8_init 97 = .ok (.getfield 40, 3) := by decide +kernel
theorem dX8_init_100 : decode cX8_init 100 = .ok (.iconst 4, 1) := by decide +kernel
theorem dX8_init_101 : decode cX8_init 101 = .ok (.if_icmp .ne 7, 3) := by decide +kernel
theorem dX8_init_104 : decode cX8_init 104 = .ok (.iconst 1, 1) := by decide +kernel
theorem dX8_init_105 : decode cX8_init 105 = .ok (.goto 10, 3) := by decide +kernel
theorem dX8_init_108 : decode cX8_init 108 = .ok (.iload_n 3, 1) := by decide +kernel
theorem dX8_init_109 : decode cX8_init 109 = .ok (.iconst 1, 1) := by decide +kernel
theorem dX8_init_110 : decode cX8_init 110 = .ok (.bipush 16, 2) := by decide +kernel
theorem dX8_init_112 : decode cX8_init 112 = .ok (.invokestatic 36, 3) := by decide +kernel
theorem dX8_init_115 : decode cX8_init 115 = .ok (.putfield 47, 3) := by decide +kernel
theorem dX8_init_118 : decode cX8_init 118 = .ok (.iconst 0, 1) := by decide +kernel
theorem dX8_init_119 : decode cX8_init 119 = .ok (.istore 4, 2) := by decide +kernel
theorem dX8_init_121 : decode cX8_init 121 = .ok (.iload 4, 2) := by decide +kernel
theorem dX8_init_123 : decode cX8_init 123 = .ok (.aload_n 0, 1) := by decide +kernel
theorem dX8_init_124 : decode cX8_init 124 = .ok (.invokevirtual 50, 3) := by decide +kernel
theorem dX8_init_127 : decode cX8_init 127 = .ok (.if_icmp .ge 73, 3) := by decide +kernel
theorem dX8_init_130 : decode cX8_init 130 = .ok (.iconst 0, 1) := by decide +kernel
theorem dX8_init_131 : decode cX8_init 131 = .ok (.istore 5, 2) := by decide +kernel
theorem dX8_init_133 : decode cX8_init 133 = .ok (.iload 5, 2) := by decide +kernel
theorem dX8_init_135 : decode cX8_init 135 = .ok (.bipush 6, 2) := by decide +kernel
theorem dX8_init_137 : decode cX8_init 137 = .ok (.if_icmp .ge 57, 3) := by decide +kernel
theorem dX8_init_140 : decode cX8_init 140 = .ok (.aload_n 0, 1) := by decide +kernel
theorem dX8_init_141 : decode cX8_init 141 = .ok (.iload 4, 2) := by decide +kernel
theorem dX8_init_143 : decode cX8_init 143 = .ok (.iload 5, 2) := by decide +kernel
theorem dX8_init_145 : decode cX8_init 145 = .ok (.invokevirtual 54, 3) := by decide +kernel
theorem dX8_init_148 : decode cX8_init 148 = .ok (.istore 6, 2) := by decide +kernel
theorem dX8_init_150 : decode cX8_init 150 = .ok (.iload 6, 2) := by decide +kernel
theorem dX8_init_152 : decode cX8_init 152 = .ok (.ifCond .ge 6, 3) := by decide +kernel
theorem dX8_init_155 : decode cX8_init 155 = .ok (.goto 33, 3) := by decide +kernel
theorem dX8_init_158 : decode cX8_init 158 = .ok (.aload_n 0, 1) := by decide +kernel
theorem dX8_init_159 : decode cX8_init 159 = .ok (.getfield 8, 3) := by decide +kernel
theorem dX8_init_162 : decode cX8_init 162 = .ok (.sipush 256, 3) := by decide +kernel
theorem dX8_init_165 : decode cX8_init 165 = .ok (.iload 4, 2) := by decide +kernel
theorem dX8_init_167 : decode cX8_init 167 = .ok (.imul, 1) := by decide +kernel
theorem dX8_init_168 : decode cX8_init 168 = .ok (.iload 6, 2) := by decide +kernel
theorem dX8_init_170 : decode cX8_init 170 = .ok (.iadd, 1) := by decide +kernel
theorem dX8_init_171 : decode cX8_init 171 = .ok (.iconst 1, 1) := by decide +kernel
theorem dX8_init_172 : decode cX8_init 172 = .ok (.bastore, 1) := by decide +kernel
theorem dX8_init_173 : decode cX8_init 173 = .ok (.aload_n 0, 1) := by decide +kernel
theorem dX8_init_174 : decode cX8_init 174 = .ok (.getfield 8, 3) := by decide +kernel
theorem dX8_init_177 : decode cX8_init 177 = .ok (.sipush 256, 3) := by decide +kernel
theorem dX8_init_180 : decode cX8_init 180 = .ok (.iload 6, 2) := by decide +kernel
theorem dX8_init_182 : decode cX8_init 182 = .ok (.imul, 1) := by decide +kernel
theorem dX8_init_183 : decode cX8_init 183 = .ok (.iload 4, 2) := by decide +kernel
theorem dX8_init_185 : decode cX8_init 185 = .ok (.iadd, 1) := by decide +kernel
theorem dX8_init_186 : decode cX8_init 186 = .ok (.iconst 1, 1) := by decide +kernel
theorem dX8_init_187 : decode cX8_init 187 = .ok (.bastore, 1) := by decide +kernel
theorem dX8_init_188 : decode cX8_init 188 = .ok (.iinc 5 1, 3) := by decide +kernel
theorem dX8_init_191 : decode cX8_init 191 = .ok (.goto (-58), 3) := by decide +kernel
theorem dX8_init_194 : decode cX8_init 194 = .ok (.iinc 4 1, 3) := by decide +kernel
theorem dX8_init_197 : decode cX8_init 197 = .ok (.goto (-76), 3) := by decide +kernel
theorem dX8_init_200 : decode cX8_init 200 = .ok (.return_, 1) := by decide +kernel
theorem dX8_thrown_0 : decode cX8_thrown 0 = .ok (.aload_n 0, 1) := by decide +kernel
theorem dX8_thrown_1 : decode cX8_thrown 1 = .ok (.getfield 58, 3) := by decide +kernel
theorem dX8_thrown_4 : decode cX8_thrown 4 = .ok (.ireturn, 1) := by decide +kernel
theorem dX8_fails_0 : decode cX8_fails 0 = .ok (.aload_n 0, 1) := by decide +kernel
theorem dX8_fails_1 : decode cX8_fails 1 = .ok (.iload_n 1, 1) := by decide +kernel
theorem dX8_fails_2 : decode cX8_fails 2 = .ok (.ifCond .eq 7, 3) := by decide +kernel
theorem dX8_fails_5 : decode cX8_fails 5 = .ok (.iconst 1, 1) := by decide +kernel
theorem dX8_fails_6 : decode cX8_fails 6 = .ok (.goto 4, 3) := by decide +kernel
theorem dX8_fails_9 : decode cX8_fails 9 = .ok (.iconst 0, 1) := by decide +kernel
theorem dX8_fails_10 : decode cX8_fails 10 = .ok (.putfield 58, 3) := by decide +kernel
theorem dX8_fails_13 : decode cX8_fails 13 = .ok (.iload_n 1, 1) := by decide +kernel
theorem dX8_fails_14 : decode cX8_fails 14 = .ok (.ireturn, 1) := by decide +kernel
theorem dX8_held_0 : decode cX8_held 0 = .ok (.iload_n 0, 1) := by decide +kernel
theorem dX8_held_1 : decode cX8_held 1 = .ok (.iload_n 1, 1) := by decide +kernel
theorem dX8_held_2 : decode cX8_held 2 = .ok (.if_icmp .ge 7, 3) := by decide +kernel
theorem dX8_held_5 : decode cX8_held 5 = .ok (.iload_n 1, 1) := by decide +kernel
theorem dX8_held_6 : decode cX8_held 6 = .ok (.goto 13, 3) := by decide +kernel
theorem dX8_held_9 : decode cX8_held 9 = .ok (.iload_n 0, 1) := by decide +kernel
theorem dX8_held_10 : decode cX8_held 10 = .ok (.iload_n 2, 1) := by decide +kernel
theorem dX8_held_11 : decode cX8_held 11 = .ok (.if_icmp .le 7, 3) := by decide +kernel
theorem dX8_held_14 : decode cX8_held 14 = .ok (.iload_n 2, 1) := by decide +kernel
theorem dX8_held_15 : decode cX8_held 15 = .ok (.goto 4, 3) := by decide +kernel
theorem dX8_held_18 : decode cX8_held 18 = .ok (.iload_n 0, 1) := by decide +kernel
theorem dX8_held_19 : decode cX8_held 19 = .ok (.ireturn, 1) := by decide +kernel
theorem dX8_all_0 : decode cX8_all 0 = .ok (.aload_n 0, 1) := by decide +kernel
theorem dX8_all_1 : decode cX8_all 1 = .ok (.getfield 44, 3) := by decide +kernel
theorem dX8_all_4 : decode cX8_all 4 = .ok (.aload_n 0, 1) := by decide +kernel
theorem dX8_all_5 : decode cX8_all 5 = .ok (.getfield 47, 3) := by decide +kernel
theorem dX8_all_8 : decode cX8_all 8 = .ok (.imul, 1) := by decide +kernel
theorem dX8_all_9 : decode cX8_all 9 = .ok (.ireturn, 1) := by decide +kernel
theorem dX8_isPlace_0 : decode cX8_isPlace 0 = .ok (.iload_n 1, 1) := by decide +kernel
theorem dX8_isPlace_1 : decode cX8_isPlace 1 = .ok (.ifCond .lt 15, 3) := by decide +kernel
theorem dX8_isPlace_4 : decode cX8_isPlace 4 = .ok (.iload_n 1, 1) := by decide +kernel
theorem dX8_isPlace_5 : decode cX8_isPlace 5 = .ok (.aload_n 0, 1) := by decide +kernel
theorem dX8_isPlace_6 : decode cX8_isPlace 6 = .ok (.invokevirtual 50, 3) := by decide +kernel
theorem dX8_isPlace_9 : decode cX8_isPlace 9 = .ok (.if_icmp .ge 7, 3) := by decide +kernel
theorem dX8_isPlace_12 : decode cX8_isPlace 12 = .ok (.iconst 1, 1) := by decide +kernel
theorem dX8_isPlace_13 : decode cX8_isPlace 13 = .ok (.goto 4, 3) := by decide +kernel
theorem dX8_isPlace_16 : decode cX8_isPlace 16 = .ok (.iconst 0, 1) := by decide +kernel
theorem dX8_isPlace_17 : decode cX8_isPlace 17 = .ok (.ireturn, 1) := by decide +kernel
theorem dX8_at_0 : decode cX8_at 0 = .ok (.iload_n 1, 1) := by decide +kernel
theorem dX8_at_1 : decode cX8_at 1 = .ok (.ifCond .lt 23, 3) := by decide +kernel
theorem dX8_at_4 : decode cX8_at 4 = .ok (.iload_n 1, 1) := by decide +kernel
theorem dX8_at_5 : decode cX8_at 5 = .ok (.aload_n 0, 1) := by decide +kernel
theorem dX8_at_6 : decode cX8_at 6 = .ok (.getfield 44, 3) := by decide +kernel
theorem dX8_at_9 : decode cX8_at 9 = .ok (.if_icmp .ge 15, 3) := by decide +kernel
theorem dX8_at_12 : decode cX8_at 12 = .ok (.iload_n 2, 1) := by decide +kernel
theorem dX8_at_13 : decode cX8_at 13 = .ok (.ifCond .lt 11, 3) := by decide +kernel
theorem dX8_at_16 : decode cX8_at 16 = .ok (.iload_n 2, 1) := by decide +kernel
theorem dX8_at_17 : decode cX8_at 17 = .ok (.aload_n 0, 1) := by decide +kernel
theorem dX8_at_18 : decode cX8_at 18 = .ok (.getfield 47, 3) := by decide +kernel
theorem dX8_at_21 : decode cX8_at 21 = .ok (.if_icmp .lt 7, 3) := by decide +kernel
theorem dX8_at_24 : decode cX8_at 24 = .ok (.iconst (-1), 1) := by decide +kernel
theorem dX8_at_25 : decode cX8_at 25 = .ok (.goto 11, 3) := by decide +kernel
theorem dX8_at_28 : decode cX8_at 28 = .ok (.aload_n 0, 1) := by decide +kernel
theorem dX8_at_29 : decode cX8_at 29 = .ok (.getfield 44, 3) := by decide +kernel
theorem dX8_at_32 : decode cX8_at 32 = .ok (.iload_n 2, 1) := by decide +kernel
theorem dX8_at_33 : decode cX8_at 33 = .ok (.imul, 1) := by decide +kernel
theorem dX8_at_34 : decode cX8_at 34 = .ok (.iload_n 1, 1) := by decide +kernel
theorem dX8_at_35 : decode cX8_at 35 = .ok (.iadd, 1) := by decide +kernel
theorem dX8_at_36 : decode cX8_at 36 = .ok (.ireturn, 1) := by decide +kernel
theorem dX8_step_0 : decode cX8_step 0 = .ok (.iload_n 1, 1) := by decide +kernel
theorem dX8_step_1 : decode cX8_step 1 = .ok (.aload_n 0, 1) := by decide +kernel
theorem dX8_step_2 : decode cX8_step 2 = .ok (.getfield 44, 3) := by decide +kernel
theorem dX8_step_5 : decode cX8_step 5 = .ok (.irem, 1) := by decide +kernel
theorem dX8_step_6 : decode cX8_step 6 = .ok (.istore_n 3, 1) := by decide +kernel
theorem dX8_step_7 : decode cX8_step 7 = .ok (.iload_n 1, 1) := by decide +kernel
theorem dX8_step_8 : decode cX8_step 8 = .ok (.aload_n 0, 1) := by decide +kernel
theorem dX8_step_9 : decode cX8_step 9 = .ok (.getfield 44, 3) := by decide +kernel
theorem dX8_step_12 : decode cX8_step 12 = .ok (.idiv, 1) := by decide +kernel
theorem dX8_step_13 : decode cX8_step 13 = .ok (.istore 4, 2) := by decide +kernel
theorem dX8_step_15 : decode cX8_step 15 = .ok (.aload_n 0, 1) := by decide +kernel
theorem dX8_step_16 : decode cX8_step 16 = .ok (.getfield 40, 3) := by decide +kernel
theorem dX8_step_19 : decode cX8_step 19 = .ok (.tableswitch 184 0 3 #[29, 98, 107, 175], 29) := by decide +kernel
theorem dX8_step_48 : decode cX8_step 48 = .ok (.iload_n 2, 1) := by decide +kernel
theorem dX8_step_49 : decode cX8_step 49 = .ok (.ifCond .ne 15, 3) := by decide +kernel
theorem dX8_step_52 : decode cX8_step 52 = .ok (.aload_n 0, 1) := by decide +kernel
theorem dX8_step_53 : decode cX8_step 53 = .ok (.iload_n 3, 1) := by decide +kernel
theorem dX8_step_54 : decode cX8_step 54 = .ok (.iload 4, 2) := by decide +kernel
theorem dX8_step_56 : decode cX8_step 56 = .ok (.iconst 1, 1) := by decide +kernel
theorem dX8_step_57 : decode cX8_step 57 = .ok (.isub, 1) := by decide +kernel
theorem dX8_step_58 : decode cX8_step 58 = .ok (.invokevirtual 61, 3) := by decide +kernel
theorem dX8_step_61 : decode cX8_step 61 = .ok (.goto 55, 3) := by decide +kernel
theorem dX8_step_64 : decode cX8_step 64 = .ok (.iload_n 2, 1) := by decide +kernel
theorem dX8_step_65 : decode cX8_step 65 = .ok (.iconst 1, 1) := by decide +kernel
theorem dX8_step_66 : decode cX8_step 66 = .ok (.if_icmp .ne 15, 3) := by decide +kernel
theorem dX8_step_69 : decode cX8_step 69 = .ok (.aload_n 0, 1) := by decide +kernel
theorem dX8_step_70 : decode cX8_step 70 = .ok (.iload_n 3, 1) := by decide +kernel
theorem dX8_step_71 : decode cX8_step 71 = .ok (.iconst 1, 1) := by decide +kernel
theorem dX8_step_72 : decode cX8_step 72 = .ok (.iadd, 1) := by decide +kernel
theorem dX8_step_73 : decode cX8_step 73 = .ok (.iload 4, 2) := by decide +kernel
theorem dX8_step_75 : decode cX8_step 75 = .ok (.invokevirtual 61, 3) := by decide +kernel
theorem dX8_step_78 : decode cX8_step 78 = .ok (.goto 38, 3) := by decide +kernel
theorem dX8_step_81 : decode cX8_step 81 = .ok (.iload_n 2, 1) := by decide +kernel
theorem dX8_step_82 : decode cX8_step 82 = .ok (.iconst 2, 1) := by decide +kernel
theorem dX8_step_83 : decode cX8_step 83 = .ok (.if_icmp .ne 15, 3) := by decide +kernel
theorem dX8_step_86 : decode cX8_step 86 = .ok (.aload_n 0, 1) := by decide +kernel
theorem dX8_step_87 : decode cX8_step 87 = .ok (.iload_n 3, 1) := by decide +kernel
theorem dX8_step_88 : decode cX8_step 88 = .ok (.iload 4, 2) := by decide +kernel
theorem dX8_step_90 : decode cX8_step 90 = .ok (.iconst 1, 1) := by decide +kernel
theorem dX8_step_91 : decode cX8_step 91 = .ok (.iadd, 1) := by decide +kernel
theorem dX8_step_92 : decode cX8_step 92 = .ok (.invokevirtual 61, 3) := by decide +kernel
theorem dX8_step_95 : decode cX8_step 95 = .ok (.goto 21, 3) := by decide +kernel
theorem dX8_step_98 : decode cX8_step 98 = .ok (.iload_n 2, 1) := by decide +kernel
theorem dX8_step_99 : decode cX8_step 99 = .ok (.iconst 3, 1) := by decide +kernel
theorem dX8_step_100 : decode cX8_step 100 = .ok (.if_icmp .ne 15, 3) := by decide +kernel
theorem dX8_step_103 : decode cX8_step 103 = .ok (.aload_n 0, 1) := by decide +kernel
theorem dX8_step_104 : decode cX8_step 104 = .ok (.iload_n 3, 1) := by decide +kernel
theorem dX8_step_105 : decode cX8_step 105 = .ok (.iconst 1, 1) := by decide +kernel
theorem dX8_step_106 : decode cX8_step 106 = .ok (.isub, 1) := by decide +kernel
theorem dX8_step_107 : decode cX8_step 107 = .ok (.iload 4, 2) := by decide +kernel
theorem dX8_step_109 : decode cX8_step 109 = .ok (.invokevirtual 61, 3) := by decide +kernel
theorem dX8_step_112 : decode cX8_step 112 = .ok (.goto 4, 3) := by decide +kernel
theorem dX8_step_115 : decode cX8_step 115 = .ok (.iconst (-1), 1) := by decide +kernel
theorem dX8_step_116 : decode cX8_step 116 = .ok (.ireturn, 1) := by decide +kernel
theorem dX8_step_117 : decode cX8_step 117 = .ok (.aload_n 0, 1) := by decide +kernel
theorem dX8_step_118 : decode cX8_step 118 = .ok (.iload_n 3, 1) := by decide +kernel
theorem dX8_step_119 : decode cX8_step 119 = .ok (.iload 4, 2) := by decide +kernel
theorem dX8_step_121 : decode cX8_step 121 = .ok (.iload_n 2, 1) := by decide +kernel
theorem dX8_step_122 : decode cX8_step 122 = .ok (.invokevirtual 64, 3) := by decide +kernel
theorem dX8_step_125 : decode cX8_step 125 = .ok (.ireturn, 1) := by decide +kernel
theorem dX8_step_126 : decode cX8_step 126 = .ok (.iload_n 2, 1) := by decide +kernel
theorem dX8_step_127 : decode cX8_step 127 = .ok (.ifCond .ne 15, 3) := by decide +kernel
theorem dX8_step_130 : decode cX8_step 130 = .ok (.aload_n 0, 1) := by decide +kernel
theorem dX8_step_131 : decode cX8_step 131 = .ok (.iload_n 3, 1) := by decide +kernel
theorem dX8_step_132 : decode cX8_step 132 = .ok (.iconst 1, 1) := by decide +kernel
theorem dX8_step_133 : decode cX8_step 133 = .ok (.isub, 1) := by decide +kernel
theorem dX8_step_134 : decode cX8_step 134 = .ok (.iload 4, 2) := by decide +kernel
theorem dX8_step_136 : decode cX8_step 136 = .ok (.invokevirtual 61, 3) := by decide +kernel
theorem dX8_step_139 : decode cX8_step 139 = .ok (.goto 54, 3) := by decide +kernel
theorem dX8_step_142 : decode cX8_step 142 = .ok (.iload_n 2, 1) := by decide +kernel
theorem dX8_step_143 : decode cX8_step 143 = .ok (.iconst 1, 1) := by decide +kernel
theorem dX8_step_144 : decode cX8_step 144 = .ok (.if_icmp .ne 15, 3) := by decide +kernel
theorem dX8_step_147 : decode cX8_step 147 = .ok (.aload_n 0, 1) := by decide +kernel
theorem dX8_step_148 : decode cX8_step 148 = .ok (.iload_n 3, 1) := by decide +kernel
theorem dX8_step_149 : decode cX8_step 149 = .ok (.iconst 1, 1) := by decide +kernel
theorem dX8_step_150 : decode cX8_step 150 = .ok (.iadd, 1) := by decide +kernel
theorem dX8_step_151 : decode cX8_step 151 = .ok (.iload 4, 2) := by decide +kernel
theorem dX8_step_153 : decode cX8_step 153 = .ok (.invokevirtual 61, 3) := by decide +kernel
theorem dX8_step_156 : decode cX8_step 156 = .ok (.goto 37, 3) := by decide +kernel
theorem dX8_step_159 : decode cX8_step 159 = .ok (.iload_n 2, 1) := by decide +kernel
theorem dX8_step_160 : decode cX8_step 160 = .ok (.iconst 2, 1) := by decide +kernel
theorem dX8_step_161 : decode cX8_step 161 = .ok (.if_icmp .ne 31, 3) := by decide +kernel
theorem dX8_step_164 : decode cX8_step 164 = .ok (.aload_n 0, 1) := by decide +kernel
theorem dX8_step_165 : decode cX8_step 165 = .ok (.iload_n 3, 1) := by decide +kernel
theorem dX8_step_166 : decode cX8_step 166 = .ok (.iload_n 3, 1) := by decide +kernel
theorem dX8_step_167 : decode cX8_step 167 = .ok (.iload 4, 2) := by decide +kernel
theorem dX8_step_169 : decode cX8_step 169 = .ok (.iadd, 1) := by decide +kernel
theorem dX8_step_170 : decode cX8_step 170 = .ok (.iconst 2, 1) := by decide +kernel
theorem dX8_step_171 : decode cX8_step 171 = .ok (.irem, 1) := by decide +kernel
theorem dX8_step_172 : decode cX8_step 172 = .ok (.ifCond .ne 10, 3) := by decide +kernel
theorem dX8_step_175 : decode cX8_step 175 = .ok (.iload 4, 2) := by decide +kernel
theorem dX8_step_177 : decode cX8_step 177 = .ok (.iconst 1, 1) := by decide +kernel
theorem dX8_step_178 : decode cX8_step 178 = .ok (.iadd, 1) := by decide +kernel
theorem dX8_step_179 : decode cX8_step 179 = .ok (.goto 7, 3) := by decide +kernel
theorem dX8_step_182 : decode cX8_step 182 = .ok (.iload 4, 2) := by decide +kernel
theorem dX8_step_184 : decode cX8_step 184 = .ok (.iconst 1, 1) := by decide +kernel
theorem dX8_step_185 : decode cX8_step 185 = .ok (.isub, 1) := by decide +kernel
theorem dX8_step_186 : decode cX8_step 186 = .ok (.invokevirtual 61, 3) := by decide +kernel
theorem dX8_step_189 : decode cX8_step 189 = .ok (.goto 4, 3) := by decide +kernel
theorem dX8_step_192 : decode cX8_step 192 = .ok (.iconst (-1), 1) := by decide +kernel
theorem dX8_step_193 : decode cX8_step 193 = .ok (.ireturn, 1) := by decide +kernel
theorem dX8_step_194 : decode cX8_step 194 = .ok (.aload_n 0, 1) := by decide +kernel
theorem dX8_step_195 : decode cX8_step 195 = .ok (.iload_n 3, 1) := by decide +kernel
theorem dX8_step_196 : decode cX8_step 196 = .ok (.iload 4, 2) := by decide +kernel
theorem dX8_step_198 : decode cX8_step 198 = .ok (.iload_n 2, 1) := by decide +kernel
theorem dX8_step_199 : decode cX8_step 199 = .ok (.invokevirtual 67, 3) := by decide +kernel
theorem dX8_step_202 : decode cX8_step 202 = .ok (.ireturn, 1) := by decide +kernel
theorem dX8_step_203 : decode cX8_step 203 = .ok (.iconst (-1), 1) := by decide +kernel
theorem dX8_step_204 : decode cX8_step 204 = .ok (.ireturn, 1) := by decide +kernel
theorem dX8_hex_0 : decode cX8_hex 0 = .ok (.iload_n 1, 1) := by decide +kernel
theorem dX8_hex_1 : decode cX8_hex 1 = .ok (.iload_n 2, 1) := by decide +kernel
theorem dX8_hex_2 : decode cX8_hex 2 = .ok (.iconst 2, 1) := by decide +kernel
theorem dX8_hex_3 : decode cX8_hex 3 = .ok (.irem, 1) := by decide +kernel
theorem dX8_hex_4 : decode cX8_hex 4 = .ok (.iadd, 1) := by decide +kernel
theorem dX8_hex_5 : decode cX8_hex 5 = .ok (.istore 4, 2) := by decide +kernel
theorem dX8_hex_7 : decode cX8_hex 7 = .ok (.iload_n 3, 1) := by decide +kernel
theorem dX8_hex_8 : decode cX8_hex 8 = .ok (.tableswitch 86 0 4 #[36, 46, 55, 65, 77], 36) := by decide +kernel
theorem dX8_hex_44 : decode cX8_hex 44 = .ok (.aload_n 0, 1) := by decide +kernel
theorem dX8_hex_45 : decode cX8_hex 45 = .ok (.iload 4, 2) := by decide +kernel
theorem dX8_hex_47 : decode cX8_hex 47 = .ok (.iload_n 2, 1) := by decide +kernel
theorem dX8_hex_48 : decode cX8_hex 48 = .ok (.iconst 1, 1) := by decide +kernel
theorem dX8_hex_49 : decode cX8_hex 49 = .ok (.isub, 1) := by decide +kernel
theorem dX8_hex_50 : decode cX8_hex 50 = .ok (.invokevirtual 61, 3) := by decide +kernel
theorem dX8_hex_53 : decode cX8_hex 53 = .ok (.ireturn, 1) := by decide +kernel
theorem dX8_hex_54 : decode cX8_hex 54 = .ok (.aload_n 0, 1) := by decide +kernel
theorem dX8_hex_55 : decode cX8_hex 55 = .ok (.iload_n 1, 1) := by decide +kernel
theorem dX8_hex_56 : decode cX8_hex 56 = .ok (.iconst 1, 1) := by decide +kernel
theorem dX8_hex_57 : decode cX8_hex 57 = .ok (.iadd, 1) := by decide +kernel
theorem dX8_hex_58 : decode cX8_hex 58 = .ok (.iload_n 2, 1) := by decide +kernel
theorem dX8_hex_59 : decode cX8_hex 59 = .ok (.invokevirtual 61, 3) := by decide +kernel
theorem dX8_hex_62 : decode cX8_hex 62 = .ok (.ireturn, 1) := by decide +kernel
theorem dX8_hex_63 : decode cX8_hex 63 = .ok (.aload_n 0, 1) := by decide +kernel
theorem dX8_hex_64 : decode cX8_hex 64 = .ok (.iload 4, 2) := by decide +kernel
theorem dX8_hex_66 : decode cX8_hex 66 = .ok (.iload_n 2, 1) := by decide +kernel
theorem dX8_hex_67 : decode cX8_hex 67 = .ok (.iconst 1, 1) := by decide +kernel
theorem dX8_hex_68 : decode cX8_hex 68 = .ok (.iadd, 1) := by decide +kernel
theorem dX8_hex_69 : decode cX8_hex 69 = .ok (.invokevirtual 61, 3) := by decide +kernel
theorem dX8_hex_72 : decode cX8_hex 72 = .ok (.ireturn, 1) := by decide +kernel
theorem dX8_hex_73 : decode cX8_hex 73 = .ok (.aload_n 0, 1) := by decide +kernel
theorem dX8_hex_74 : decode cX8_hex 74 = .ok (.iload 4, 2) := by decide +kernel
theorem dX8_hex_76 : decode cX8_hex 76 = .ok (.iconst 1, 1) := by decide +kernel
theorem dX8_hex_77 : decode cX8_hex 77 = .ok (.isub, 1) := by decide +kernel
theorem dX8_hex_78 : decode cX8_hex 78 = .ok (.iload_n 2, 1) := by decide +kernel
theorem dX8_hex_79 : decode cX8_hex 79 = .ok (.iconst 1, 1) := by decide +kernel
theorem dX8_hex_80 : decode cX8_hex 80 = .ok (.iadd, 1) := by decide +kernel
theorem dX8_hex_81 : decode cX8_hex 81 = .ok (.invokevirtual 61, 3) := by decide +kernel
theorem dX8_hex_84 : decode cX8_hex 84 = .ok (.ireturn, 1) := by decide +kernel
theorem dX8_hex_85 : decode cX8_hex 85 = .ok (.aload_n 0, 1) := by decide +kernel
theorem dX8_hex_86 : decode cX8_hex 86 = .ok (.iload_n 1, 1) := by decide +kernel
theorem dX8_hex_87 : decode cX8_hex 87 = .ok (.iconst 1, 1) := by decide +kernel
theorem dX8_hex_88 : decode cX8_hex 88 = .ok (.isub, 1) := by decide +kernel
theorem dX8_hex_89 : decode cX8_hex 89 = .ok (.iload_n 2, 1) := by decide +kernel
theorem dX8_hex_90 : decode cX8_hex 90 = .ok (.invokevirtual 61, 3) := by decide +kernel
theorem dX8_hex_93 : decode cX8_hex 93 = .ok (.ireturn, 1) := by decide +kernel
theorem dX8_hex_94 : decode cX8_hex 94 = .ok (.aload_n 0, 1) := by decide +kernel
theorem dX8_hex_95 : decode cX8_hex 95 = .ok (.iload 4, 2) := by decide +kernel
theorem dX8_hex_97 : decode cX8_hex 97 = .ok (.iconst 1, 1) := by decide +kernel
theorem dX8_hex_98 : decode cX8_hex 98 = .ok (.isub, 1) := by decide +kernel
theorem dX8_hex_99 : decode cX8_hex 99 = .ok (.iload_n 2, 1) := by decide +kernel
theorem dX8_hex_100 : decode cX8_hex 100 = .ok (.iconst 1, 1) := by decide +kernel
theorem dX8_hex_101 : decode cX8_hex 101 = .ok (.isub, 1) := by decide +kernel
theorem dX8_hex_102 : decode cX8_hex 102 = .ok (.invokevirtual 61, 3) := by decide +kernel
theorem dX8_hex_105 : decode cX8_hex 105 = .ok (.ireturn, 1) := by decide +kernel
theorem dX8_ring_0 : decode cX8_ring 0 = .ok (.iload_n 3, 1) := by decide +kernel
theorem dX8_ring_1 : decode cX8_ring 1 = .ok (.tableswitch 106 0 3 #[31, 40, 66, 75], 31) := by decide +kernel
theorem dX8_ring_32 : decode cX8_ring 32 = .ok (.aload_n 0, 1) := by decide +kernel
theorem dX8_ring_33 : decode cX8_ring 33 = .ok (.iload_n 1, 1) := by decide +kernel
theorem dX8_ring_34 : decode cX8_ring 34 = .ok (.iload_n 2, 1) := by decide +kernel
theorem dX8_ring_35 : decode cX8_ring 35 = .ok (.iconst 1, 1) := by decide +kernel
theorem dX8_ring_36 : decode cX8_ring 36 = .ok (.isub, 1) := by decide +kernel
theorem dX8_ring_37 : decode cX8_ring 37 = .ok (.invokevirtual 61, 3) := by decide +kernel
theorem dX8_ring_40 : decode cX8_ring 40 = .ok (.ireturn, 1) := by decide +kernel
theorem dX8_ring_41 : decode cX8_ring 41 = .ok (.aload_n 0, 1) := by decide +kernel
theorem dX8_ring_42 : decode cX8_ring 42 = .ok (.getfield 44, 3) := by decide +kernel
theorem dX8_ring_45 : decode cX8_ring 45 = .ok (.iconst 1, 1) := by decide +kernel
theorem dX8_ring_46 : decode cX8_ring 46 = .ok (.if_icmp .le 19, 3) := by decide +kernel
theorem dX8_ring_49 : decode cX8_ring 49 = .ok (.aload_n 0, 1) := by decide +kernel
theorem dX8_ring_50 : decode cX8_ring 50 = .ok (.iload_n 1, 1) := by decide +kernel
theorem dX8_ring_51 : decode cX8_ring 51 = .ok (.iconst 1, 1) := by decide +kernel
theorem dX8_ring_52 : decode cX8_ring 52 = .ok (.iadd, 1) := by decide +kernel
theorem dX8_ring_53 : decode cX8_ring 53 = .ok (.aload_n 0, 1) := by decide +kernel
theorem dX8_ring_54 : decode cX8_ring 54 = .ok (.getfield 44, 3) := by decide +kernel
theorem dX8_ring_57 : decode cX8_ring 57 = .ok (.irem, 1) := by decide +kernel
theorem dX8_ring_58 : decode cX8_ring 58 = .ok (.iload_n 2, 1) := by decide +kernel
theorem dX8_ring_59 : decode cX8_ring 59 = .ok (.invokevirtual 61, 3) := by decide +kernel
theorem dX8_ring_62 : decode cX8_ring 62 = .ok (.goto 4, 3) := by decide +kernel
theorem dX8_ring_65 : decode cX8_ring 65 = .ok (.iconst (-1), 1) := by decide +kernel
theorem dX8_ring_66 : decode cX8_ring 66 = .ok (.ireturn, 1) := by decide +kernel
theorem dX8_ring_67 : decode cX8_ring 67 = .ok (.aload_n 0, 1) := by decide +kernel
theorem dX8_ring_68 : decode cX8_ring 68 = .ok (.iload_n 1, 1) := by decide +kernel
theorem dX8_ring_69 : decode cX8_ring 69 = .ok (.iload_n 2, 1) := by decide +kernel
theorem dX8_ring_70 : decode cX8_ring 70 = .ok (.iconst 1, 1) := by decide +kernel
theorem dX8_ring_71 : decode cX8_ring 71 = .ok (.iadd, 1) := by decide +kernel
theorem dX8_ring_72 : decode cX8_ring 72 = .ok (.invokevirtual 61, 3) := by decide +kernel
theorem dX8_ring_75 : decode cX8_ring 75 = .ok (.ireturn, 1) := by decide +kernel
theorem dX8_ring_76 : decode cX8_ring 76 = .ok (.aload_n 0, 1) := by decide +kernel
theorem dX8_ring_77 : decode cX8_ring 77 = .ok (.getfield 44, 3) := by decide +kernel
theorem dX8_ring_80 : decode cX8_ring 80 = .ok (.iconst 2, 1) := by decide +kernel
theorem dX8_ring_81 : decode cX8_ring 81 = .ok (.if_icmp .le 24, 3) := by decide +kernel
theorem dX8_ring_84 : decode cX8_ring 84 = .ok (.aload_n 0, 1) := by decide +kernel
theorem dX8_ring_85 : decode cX8_ring 85 = .ok (.iload_n 1, 1) := by decide +kernel
theorem dX8_ring_86 : decode cX8_ring 86 = .ok (.aload_n 0, 1) := by decide +kernel
theorem dX8_ring_87 : decode cX8_ring 87 = .ok (.getfield 44, 3) := by decide +kernel
theorem dX8_ring_90 : decode cX8_ring 90 = .ok (.iadd, 1) := by decide +kernel
theorem dX8_ring_91 : decode cX8_ring 91 = .ok (.iconst 1, 1) := by decide +kernel
theorem dX8_ring_92 : decode cX8_ring 92 = .ok (.isub, 1) := by decide +kernel
theorem dX8_ring_93 : decode cX8_ring 93 = .ok (.aload_n 0, 1) := by decide +kernel
theorem dX8_ring_94 : decode cX8_ring 94 = .ok (.getfield 44, 3) := by decide +kernel
theorem dX8_ring_97 : decode cX8_ring 97 = .ok (.irem, 1) := by decide +kernel
theorem dX8_ring_98 : decode cX8_ring 98 = .ok (.iload_n 2, 1) := by decide +kernel
theorem dX8_ring_99 : decode cX8_ring 99 = .ok (.invokevirtual 61, 3) := by decide +kernel
theorem dX8_ring_102 : decode cX8_ring 102 = .ok (.goto 4, 3) := by decide +kernel
theorem dX8_ring_105 : decode cX8_ring 105 = .ok (.iconst (-1), 1) := by decide +kernel
theorem dX8_ring_106 : decode cX8_ring 106 = .ok (.ireturn, 1) := by decide +kernel
theorem dX8_ring_107 : decode cX8_ring 107 = .ok (.iconst (-1), 1) := by decide +kernel
theorem dX8_ring_108 : decode cX8_ring 108 = .ok (.ireturn, 1) := by decide +kernel
theorem dX8_join_0 : decode cX8_join 0 = .ok (.aload_n 0, 1) := by decide +kernel
theorem dX8_join_1 : decode cX8_join 1 = .ok (.aload_n 0, 1) := by decide +kernel
theorem dX8_join_2 : decode cX8_join 2 = .ok (.iload_n 1, 1) := by decide +kernel
theorem dX8_join_3 : decode cX8_join 3 = .ok (.invokevirtual 70, 3) := by decide +kernel
theorem dX8_join_6 : decode cX8_join 6 = .ok (.ifCond .eq 11, 3) := by decide +kernel
theorem dX8_join_9 : decode cX8_join 9 = .ok (.aload_n 0, 1) := by decide +kernel
theorem dX8_join_10 : decode cX8_join 10 = .ok (.iload_n 2, 1) := by decide +kernel
theorem dX8_join_11 : decode cX8_join 11 = .ok (.invokevirtual 70, 3) := by decide +kernel
theorem dX8_join_14 : decode cX8_join 14 = .ok (.ifCond .ne 7, 3) := by decide +kernel
theorem dX8_join_17 : decode cX8_join 17 = .ok (.iconst 1, 1) := by decide +kernel
theorem dX8_join_18 : decode cX8_join 18 = .ok (.goto 4, 3) := by decide +kernel
theorem dX8_join_21 : decode cX8_join 21 = .ok (.iconst 0, 1) := by decide +kernel
theorem dX8_join_22 : decode cX8_join 22 = .ok (.invokevirtual 74, 3) := by decide +kernel
theorem dX8_join_25 : decode cX8_join 25 = .ok (.ifCond .ne 31, 3) := by decide +kernel
theorem dX8_join_28 : decode cX8_join 28 = .ok (.aload_n 0, 1) := by decide +kernel
theorem dX8_join_29 : decode cX8_join 29 = .ok (.getfield 40, 3) := by decide +kernel
theorem dX8_join_32 : decode cX8_join 32 = .ok (.iconst 4, 1) := by decide +kernel
theorem dX8_join_33 : decode cX8_join 33 = .ok (.if_icmp .ne 23, 3) := by decide +kernel
theorem dX8_join_36 : decode cX8_join 36 = .ok (.iload_n 1, 1) := by decide +kernel
theorem dX8_join_37 : decode cX8_join 37 = .ok (.iload_n 2, 1) := by decide +kernel
theorem dX8_join_38 : decode cX8_join 38 = .ok (.if_icmp .eq 18, 3) := by decide +kernel
theorem dX8_join_41 : decode cX8_join 41 = .ok (.aload_n 0, 1) := by decide +kernel
theorem dX8_join_42 : decode cX8_join 42 = .ok (.getfield 8, 3) := by decide +kernel
theorem dX8_join_45 : decode cX8_join 45 = .ok (.sipush 256, 3) := by decide +kernel
theorem dX8_join_48 : decode cX8_join 48 = .ok (.iload_n 1, 1) := by decide +kernel
theorem dX8_join_49 : decode cX8_join 49 = .ok (.imul, 1) := by decide +kernel
theorem dX8_join_50 : decode cX8_join 50 = .ok (.iload_n 2, 1) := by decide +kernel
theorem dX8_join_51 : decode cX8_join 51 = .ok (.iadd, 1) := by decide +kernel
theorem dX8_join_52 : decode cX8_join 52 = .ok (.baload, 1) := by decide +kernel
theorem dX8_join_53 : decode cX8_join 53 = .ok (.ifCond .eq 5, 3) := by decide +kernel
theorem dX8_join_56 : decode cX8_join 56 = .ok (.iconst 0, 1) := by decide +kernel
theorem dX8_join_57 : decode cX8_join 57 = .ok (.ireturn, 1) := by decide +kernel
theorem dX8_join_58 : decode cX8_join 58 = .ok (.aload_n 0, 1) := by decide +kernel
theorem dX8_join_59 : decode cX8_join 59 = .ok (.getfield 8, 3) := by decide +kernel
theorem dX8_join_62 : decode cX8_join 62 = .ok (.sipush 256, 3) := by decide +kernel
theorem dX8_join_65 : decode cX8_join 65 = .ok (.iload_n 1, 1) := by decide +kernel
theorem dX8_join_66 : decode cX8_join 66 = .ok (.imul, 1) := by decide +kernel
theorem dX8_join_67 : decode cX8_join 67 = .ok (.iload_n 2, 1) := by decide +kernel
theorem dX8_join_68 : decode cX8_join 68 = .ok (.iadd, 1) := by decide +kernel
theorem dX8_join_69 : decode cX8_join 69 = .ok (.iconst 1, 1) := by decide +kernel
theorem dX8_join_70 : decode cX8_join 70 = .ok (.bastore, 1) := by decide +kernel
theorem dX8_join_71 : decode cX8_join 71 = .ok (.aload_n 0, 1) := by decide +kernel
theorem dX8_join_72 : decode cX8_join 72 = .ok (.getfield 8, 3) := by decide +kernel
theorem dX8_join_75 : decode cX8_join 75 = .ok (.sipush 256, 3) := by decide +kernel
theorem dX8_join_78 : decode cX8_join 78 = .ok (.iload_n 2, 1) := by decide +kernel
theorem dX8_join_79 : decode cX8_join 79 = .ok (.imul, 1) := by decide +kernel
theorem dX8_join_80 : decode cX8_join 80 = .ok (.iload_n 1, 1) := by decide +kernel
theorem dX8_join_81 : decode cX8_join 81 = .ok (.iadd, 1) := by decide +kernel
theorem dX8_join_82 : decode cX8_join 82 = .ok (.iconst 1, 1) := by decide +kernel
theorem dX8_join_83 : decode cX8_join 83 = .ok (.bastore, 1) := by decide +kernel
theorem dX8_join_84 : decode cX8_join 84 = .ok (.iconst 1, 1) := by decide +kernel
theorem dX8_join_85 : decode cX8_join 85 = .ok (.ireturn, 1) := by decide +kernel
theorem dX8_places_0 : decode cX8_places 0 = .ok (.aload_n 0, 1) := by decide +kernel
theorem dX8_places_1 : decode cX8_places 1 = .ok (.iconst 0, 1) := by decide +kernel
theorem dX8_places_2 : decode cX8_places 2 = .ok (.putfield 58, 3) := by decide +kernel
theorem dX8_places_5 : decode cX8_places 5 = .ok (.aload_n 0, 1) := by decide +kernel
theorem dX8_places_6 : decode cX8_places 6 = .ok (.invokevirtual 50, 3) := by decide +kernel
theorem dX8_places_9 : decode cX8_places 9 = .ok (.ireturn, 1) := by decide +kernel
theorem dX8_isNext_0 : decode cX8_isNext 0 = .ok (.aload_n 0, 1) := by decide +kernel
theorem dX8_isNext_1 : decode cX8_isNext 1 = .ok (.getfield 8, 3) := by decide +kernel
theorem dX8_isNext_4 : decode cX8_isNext 4 = .ok (.sipush 256, 3) := by decide +kernel
theorem dX8_isNext_7 : decode cX8_isNext 7 = .ok (.iload_n 1, 1) := by decide +kernel
theorem dX8_isNext_8 : decode cX8_isNext 8 = .ok (.imul, 1) := by decide +kernel
theorem dX8_isNext_9 : decode cX8_isNext 9 = .ok (.iload_n 2, 1) := by decide +kernel
theorem dX8_isNext_10 : decode cX8_isNext 10 = .ok (.iadd, 1) := by decide +kernel
theorem dX8_isNext_11 : decode cX8_isNext 11 = .ok (.baload, 1) := by decide +kernel
theorem dX8_isNext_12 : decode cX8_isNext 12 = .ok (.ifCond .eq 22, 3) := by decide +kernel
theorem dX8_isNext_15 : decode cX8_isNext 15 = .ok (.aload_n 0, 1) := by decide +kernel
theorem dX8_isNext_16 : decode cX8_isNext 16 = .ok (.getfield 14, 3) := by decide +kernel
theorem dX8_isNext_19 : decode cX8_isNext 19 = .ok (.sipush 256, 3) := by decide +kernel
theorem dX8_isNext_22 : decode cX8_isNext 22 = .ok (.iload_n 1, 1) := by decide +kernel
theorem dX8_isNext_23 : decode cX8_isNext 23 = .ok (.imul, 1) := by decide +kernel
theorem dX8_isNext_24 : decode cX8_isNext 24 = .ok (.iload_n 2, 1) := by decide +kernel
theorem dX8_isNext_25 : decode cX8_isNext 25 = .ok (.iadd, 1) := by decide +kernel
theorem dX8_isNext_26 : decode cX8_isNext 26 = .ok (.baload, 1) := by decide +kernel
theorem dX8_isNext_27 : decode cX8_isNext 27 = .ok (.ifCond .ne 7, 3) := by decide +kernel
theorem dX8_isNext_30 : decode cX8_isNext 30 = .ok (.iconst 1, 1) := by decide +kernel
theorem dX8_isNext_31 : decode cX8_isNext 31 = .ok (.goto 4, 3) := by decide +kernel
theorem dX8_isNext_34 : decode cX8_isNext 34 = .ok (.iconst 0, 1) := by decide +kernel
theorem dX8_isNext_35 : decode cX8_isNext 35 = .ok (.ireturn, 1) := by decide +kernel
theorem dX8_degree_0 : decode cX8_degree 0 = .ok (.aload_n 0, 1) := by decide +kernel
theorem dX8_degree_1 : decode cX8_degree 1 = .ok (.aload_n 0, 1) := by decide +kernel
theorem dX8_degree_2 : decode cX8_degree 2 = .ok (.iload_n 1, 1) := by decide +kernel
theorem dX8_degree_3 : decode cX8_degree 3 = .ok (.invokevirtual 70, 3) := by decide +kernel
theorem dX8_degree_6 : decode cX8_degree 6 = .ok (.ifCond .ne 7, 3) := by decide +kernel
theorem dX8_degree_9 : decode cX8_degree 9 = .ok (.iconst 1, 1) := by decide +kernel
theorem dX8_degree_10 : decode cX8_degree 10 = .ok (.goto 4, 3) := by decide +kernel
theorem dX8_degree_13 : decode cX8_degree 13 = .ok (.iconst 0, 1) := by decide +kernel
theorem dX8_degree_14 : decode cX8_degree 14 = .ok (.invokevirtual 74, 3) := by decide +kernel
theorem dX8_degree_17 : decode cX8_degree 17 = .ok (.ifCond .eq 5, 3) := by decide +kernel
theorem dX8_degree_20 : decode cX8_degree 20 = .ok (.iconst 0, 1) := by decide +kernel
theorem dX8_degree_21 : decode cX8_degree 21 = .ok (.ireturn, 1) := by decide +kernel
theorem dX8_degree_22 : decode cX8_degree 22 = .ok (.iconst 0, 1) := by decide +kernel
theorem dX8_degree_23 : decode cX8_degree 23 = .ok (.istore_n 3, 1) := by decide +kernel
theorem dX8_degree_24 : decode cX8_degree 24 = .ok (.iconst 0, 1) := by decide +kernel
theorem dX8_degree_25 : decode cX8_degree 25 = .ok (.istore 4, 2) := by decide +kernel
theorem dX8_degree_27 : decode cX8_degree 27 = .ok (.iload 4, 2) := by decide +kernel
theorem dX8_degree_29 : decode cX8_degree 29 = .ok (.aload_n 0, 1) := by decide +kernel
theorem dX8_degree_30 : decode cX8_degree 30 = .ok (.invokevirtual 50, 3) := by decide +kernel
theorem dX8_degree_33 : decode cX8_degree 33 = .ok (.if_icmp .ge 55, 3) := by decide +kernel
theorem dX8_degree_36 : decode cX8_degree 36 = .ok (.iload_n 3, 1) := by decide +kernel
theorem dX8_degree_37 : decode cX8_degree 37 = .ok (.iload_n 2, 1) := by decide +kernel
theorem dX8_degree_38 : decode cX8_degree 38 = .ok (.ifCond .eq 21, 3) := by decide +kernel
theorem dX8_degree_41 : decode cX8_degree 41 = .ok (.aload_n 0, 1) := by decide +kernel
theorem dX8_degree_42 : decode cX8_degree 42 = .ok (.iload_n 1, 1) := by decide +kernel
theorem dX8_degree_43 : decode cX8_degree 43 = .ok (.iload 4, 2) := by decide +kernel
theorem dX8_degree_45 : decode cX8_degree 45 = .ok (.invokevirtual 78, 3) := by decide +kernel
theorem dX8_degree_48 : decode cX8_degree 48 = .ok (.ifCond .eq 7, 3) := by decide +kernel
theorem dX8_degree_51 : decode cX8_degree 51 = .ok (.iconst 1, 1) := by decide +kernel
theorem dX8_degree_52 : decode cX8_degree 52 = .ok (.goto 28, 3) := by decide +kernel
theorem dX8_degree_55 : decode cX8_degree 55 = .ok (.iconst 0, 1) := by decide +kernel
theorem dX8_degree_56 : decode cX8_degree 56 = .ok (.goto 24, 3) := by decide +kernel
theorem dX8_degree_59 : decode cX8_degree 59 = .ok (.aload_n 0, 1) := by decide +kernel
theorem dX8_degree_60 : decode cX8_degree 60 = .ok (.getfield 8, 3) := by decide +kernel
theorem dX8_degree_63 : decode cX8_degree 63 = .ok (.sipush 256, 3) := by decide +kernel
theorem dX8_degree_66 : decode cX8_degree 66 = .ok (.iload_n 1, 1) := by decide +kernel
theorem dX8_degree_67 : decode cX8_degree 67 = .ok (.imul, 1) := by decide +kernel
theorem dX8_degree_68 : decode cX8_degree 68 = .ok (.iload 4, 2) := by decide +kernel
theorem dX8_degree_70 : decode cX8_degree 70 = .ok (.iadd, 1) := by decide +kernel
theorem dX8_degree_71 : decode cX8_degree 71 = .ok (.baload, 1) := by decide +kernel
theorem dX8_degree_72 : decode cX8_degree 72 = .ok (.ifCond .eq 7, 3) := by decide +kernel
theorem dX8_degree_75 : decode cX8_degree 75 = .ok (.iconst 1, 1) := by decide +kernel
theorem dX8_degree_76 : decode cX8_degree 76 = .ok (.goto 4, 3) := by decide +kernel
theorem dX8_degree_79 : decode cX8_degree 79 = .ok (.iconst 0, 1) := by decide +kernel
theorem dX8_degree_80 : decode cX8_degree 80 = .ok (.iadd, 1) := by decide +kernel
theorem dX8_degree_81 : decode cX8_degree 81 = .ok (.istore_n 3, 1) := by decide +kernel
theorem dX8_degree_82 : decode cX8_degree 82 = .ok (.iinc 4 1, 3) := by decide +kernel
theorem dX8_degree_85 : decode cX8_degree 85 = .ok (.goto (-58), 3) := by decide +kernel
theorem dX8_degree_88 : decode cX8_degree 88 = .ok (.iload_n 3, 1) := by decide +kernel
theorem dX8_degree_89 : decode cX8_degree 89 = .ok (.ireturn, 1) := by decide +kernel
theorem dX8_neighbour_0 : decode cX8_neighbour 0 = .ok (.aload_n 0, 1) := by decide +kernel
theorem dX8_neighbour_1 : decode cX8_neighbour 1 = .ok (.aload_n 0, 1) := by decide +kernel
theorem dX8_neighbour_2 : decode cX8_neighbour 2 = .ok (.iload_n 1, 1) := by decide +kernel
theorem dX8_neighbour_3 : decode cX8_neighbour 3 = .ok (.invokevirtual 70, 3) := by decide +kernel
theorem dX8_neighbour_6 : decode cX8_neighbour 6 = .ok (.ifCond .ne 7, 3) := by decide +kernel
theorem dX8_neighbour_9 : decode cX8_neighbour 9 = .ok (.iconst 1, 1) := by decide +kernel
theorem dX8_neighbour_10 : decode cX8_neighbour 10 = .ok (.goto 4, 3) := by decide +kernel
theorem dX8_neighbour_13 : decode cX8_neighbour 13 = .ok (.iconst 0, 1) := by decide +kernel
theorem dX8_neighbour_14 : decode cX8_neighbour 14 = .ok (.invokevirtual 74, 3) := by decide +kernel
theorem dX8_neighbour_17 : decode cX8_neighbour 17 = .ok (.ifCond .eq 5, 3) := by decide +kernel
theorem dX8_neighbour_20 : decode cX8_neighbour 20 = .ok (.iconst 0, 1) := by decide +kernel
theorem dX8_neighbour_21 : decode cX8_neighbour 21 = .ok (.ireturn, 1) := by decide +kernel
theorem dX8_neighbour_22 : decode cX8_neighbour 22 = .ok (.iconst 0, 1) := by decide +kernel
theorem dX8_neighbour_23 : decode cX8_neighbour 23 = .ok (.istore_n 3, 1) := by decide +kernel
theorem dX8_neighbour_24 : decode cX8_neighbour 24 = .ok (.iconst 0, 1) := by decide +kernel
theorem dX8_neighbour_25 : decode cX8_neighbour 25 = .ok (.istore 4, 2) := by decide +kernel
theorem dX8_neighbour_27 : decode cX8_neighbour 27 = .ok (.iload 4, 2) := by decide +kernel
theorem dX8_neighbour_29 : decode cX8_neighbour 29 = .ok (.sipush 256, 3) := by decide +kernel
theorem dX8_neighbour_32 : decode cX8_neighbour 32 = .ok (.if_icmp .ge 90, 3) := by decide +kernel
theorem dX8_neighbour_35 : decode cX8_neighbour 35 = .ok (.aload_n 0, 1) := by decide +kernel
theorem dX8_neighbour_36 : decode cX8_neighbour 36 = .ok (.getfield 40, 3) := by decide +kernel
theorem dX8_neighbour_39 : decode cX8_neighbour 39 = .ok (.iconst 4, 1) := by decide +kernel
theorem dX8_neighbour_40 : decode cX8_neighbour 40 = .ok (.if_icmp .ne 37, 3) := by decide +kernel
theorem dX8_neighbour_43 : decode cX8_neighbour 43 = .ok (.iload 4, 2) := by decide +kernel
theorem dX8_neighbour_45 : decode cX8_neighbour 45 = .ok (.aload_n 0, 1) := by decide +kernel
theorem dX8_neighbour_46 : decode cX8_neighbour 46 = .ok (.invokevirtual 50, 3) := by decide +kernel
theorem dX8_neighbour_49 : decode cX8_neighbour 49 = .ok (.if_icmp .ge 24, 3) := by decide +kernel
theorem dX8_neighbour_52 : decode cX8_neighbour 52 = .ok (.aload_n 0, 1) := by decide +kernel
theorem dX8_neighbour_53 : decode cX8_neighbour 53 = .ok (.getfield 8, 3) := by decide +kernel
theorem dX8_neighbour_56 : decode cX8_neighbour 56 = .ok (.sipush 256, 3) := by decide +kernel
theorem dX8_neighbour_59 : decode cX8_neighbour 59 = .ok (.iload_n 1, 1) := by decide +kernel
theorem dX8_neighbour_60 : decode cX8_neighbour 60 = .ok (.imul, 1) := by decide +kernel
theorem dX8_neighbour_61 : decode cX8_neighbour 61 = .ok (.iload 4, 2) := by decide +kernel
theorem dX8_neighbour_63 : decode cX8_neighbour 63 = .ok (.iadd, 1) := by decide +kernel
theorem dX8_neighbour_64 : decode cX8_neighbour 64 = .ok (.baload, 1) := by decide +kernel
theorem dX8_neighbour_65 : decode cX8_neighbour 65 = .ok (.ifCond .eq 8, 3) := by decide +kernel
theorem dX8_neighbour_68 : decode cX8_neighbour 68 = .ok (.iload 4, 2) := by decide +kernel
theorem dX8_neighbour_70 : decode cX8_neighbour 70 = .ok (.goto 25, 3) := by decide +kernel
theorem dX8_neighbour_73 : decode cX8_neighbour 73 = .ok (.iconst (-1), 1) := by decide +kernel
theorem dX8_neighbour_74 : decode cX8_neighbour 74 = .ok (.goto 21, 3) := by decide +kernel
theorem dX8_neighbour_77 : decode cX8_neighbour 77 = .ok (.iload 4, 2) := by decide +kernel
theorem dX8_neighbour_79 : decode cX8_neighbour 79 = .ok (.bipush 6, 2) := by decide +kernel
theorem dX8_neighbour_81 : decode cX8_neighbour 81 = .ok (.if_icmp .ge 13, 3) := by decide +kernel
theorem dX8_neighbour_84 : decode cX8_neighbour 84 = .ok (.aload_n 0, 1) := by decide +kernel
theorem dX8_neighbour_85 : decode cX8_neighbour 85 = .ok (.iload_n 1, 1) := by decide +kernel
theorem dX8_neighbour_86 : decode cX8_neighbour 86 = .ok (.iload 4, 2) := by decide +kernel
theorem dX8_neighbour_88 : decode cX8_neighbour 88 = .ok (.invokevirtual 54, 3) := by decide +kernel
theorem dX8_neighbour_91 : decode cX8_neighbour 91 = .ok (.goto 4, 3) := by decide +kernel
theorem dX8_neighbour_94 : decode cX8_neighbour 94 = .ok (.iconst (-1), 1) := by decide +kernel
theorem dX8_neighbour_95 : decode cX8_neighbour 95 = .ok (.istore 5, 2) := by decide +kernel
theorem dX8_neighbour_97 : decode cX8_neighbour 97 = .ok (.iload 5, 2) := by decide +kernel
theorem dX8_neighbour_99 : decode cX8_neighbour 99 = .ok (.ifCond .ge 6, 3) := by decide +kernel
theorem dX8_neighbour_102 : decode cX8_neighbour 102 = .ok (.goto 14, 3) := by decide +kernel
theorem dX8_neighbour_105 : decode cX8_neighbour 105 = .ok (.iload_n 3, 1) := by decide +kernel
theorem dX8_neighbour_106 : decode cX8_neighbour 106 = .ok (.iload_n 2, 1) := by decide +kernel
theorem dX8_neighbour_107 : decode cX8_neighbour 107 = .ok (.if_icmp .ne 6, 3) := by decide +kernel
theorem dX8_neighbour_110 : decode cX8_neighbour 110 = .ok (.iload 5, 2) := by decide +kernel
theorem dX8_neighbour_112 : decode cX8_neighbour 112 = .ok (.ireturn, 1) := by decide +kernel
theorem dX8_neighbour_113 : decode cX8_neighbour 113 = .ok (.iinc 3 1, 3) := by decide +kernel
theorem dX8_neighbour_116 : decode cX8_neighbour 116 = .ok (.iinc 4 1, 3) := by decide +kernel
theorem dX8_neighbour_119 : decode cX8_neighbour 119 = .ok (.goto (-92), 3) := by decide +kernel
theorem dX8_neighbour_122 : decode cX8_neighbour 122 = .ok (.iconst (-1), 1) := by decide +kernel
theorem dX8_neighbour_123 : decode cX8_neighbour 123 = .ok (.ireturn, 1) := by decide +kernel
theorem dX8_wall_0 : decode cX8_wall 0 = .ok (.aload_n 0, 1) := by decide +kernel
theorem dX8_wall_1 : decode cX8_wall 1 = .ok (.aload_n 0, 1) := by decide +kernel
theorem dX8_wall_2 : decode cX8_wall 2 = .ok (.iload_n 1, 1) := by decide +kernel
theorem dX8_wall_3 : decode cX8_wall 3 = .ok (.invokevirtual 70, 3) := by decide +kernel
theorem dX8_wall_6 : decode cX8_wall 6 = .ok (.ifCond .eq 11, 3) := by decide +kernel
theorem dX8_wall_9 : decode cX8_wall 9 = .ok (.aload_n 0, 1) := by decide +kernel
theorem dX8_wall_10 : decode cX8_wall 10 = .ok (.iload_n 2, 1) := by decide +kernel
theorem dX8_wall_11 : decode cX8_wall 11 = .ok (.invokevirtual 70, 3) := by decide +kernel
theorem dX8_wall_14 : decode cX8_wall 14 = .ok (.ifCond .ne 7, 3) := by decide +kernel
theorem dX8_wall_17 : decode cX8_wall 17 = .ok (.iconst 1, 1) := by decide +kernel
theorem dX8_wall_18 : decode cX8_wall 18 = .ok (.goto 4, 3) := by decide +kernel
theorem dX8_wall_21 : decode cX8_wall 21 = .ok (.iconst 0, 1) := by decide +kernel
theorem dX8_wall_22 : decode cX8_wall 22 = .ok (.invokevirtual 74, 3) := by decide +kernel
theorem dX8_wall_25 : decode cX8_wall 25 = .ok (.ifCond .ne 34, 3) := by decide +kernel
theorem dX8_wall_28 : decode cX8_wall 28 = .ok (.aload_n 0, 1) := by decide +kernel
theorem dX8_wall_29 : decode cX8_wall 29 = .ok (.getfield 8, 3) := by decide +kernel
theorem dX8_wall_32 : decode cX8_wall 32 = .ok (.sipush 256, 3) := by decide +kernel
theorem dX8_wall_35 : decode cX8_wall 35 = .ok (.iload_n 1, 1) := by decide +kernel
theorem dX8_wall_36 : decode cX8_wall 36 = .ok (.imul, 1) := by decide +kernel
theorem dX8_wall_37 : decode cX8_wall 37 = .ok (.iload_n 2, 1) := by decide +kernel
theorem dX8_wall_38 : decode cX8_wall 38 = .ok (.iadd, 1) := by decide +kernel
theorem dX8_wall_39 : decode cX8_wall 39 = .ok (.baload, 1) := by decide +kernel
theorem dX8_wall_40 : decode cX8_wall 40 = .ok (.ifCond .eq 19, 3) := by decide +kernel
theorem dX8_wall_43 : decode cX8_wall 43 = .ok (.aload_n 0, 1) := by decide +kernel
theorem dX8_wall_44 : decode cX8_wall 44 = .ok (.getfield 14, 3) := by decide +kernel
theorem dX8_wall_47 : decode cX8_wall 47 = .ok (.sipush 256, 3) := by decide +kernel
theorem dX8_wall_50 : decode cX8_wall 50 = .ok (.iload_n 1, 1) := by decide +kernel
theorem dX8_wall_51 : decode cX8_wall 51 = .ok (.imul, 1) := by decide +kernel
theorem dX8_wall_52 : decode cX8_wall 52 = .ok (.iload_n 2, 1) := by decide +kernel
theorem dX8_wall_53 : decode cX8_wall 53 = .ok (.iadd, 1) := by decide +kernel
theorem dX8_wall_54 : decode cX8_wall 54 = .ok (.baload, 1) := by decide +kernel
theorem dX8_wall_55 : decode cX8_wall 55 = .ok (.iload_n 3, 1) := by decide +kernel
theorem dX8_wall_56 : decode cX8_wall 56 = .ok (.if_icmp .ne 5, 3) := by decide +kernel
theorem dX8_wall_59 : decode cX8_wall 59 = .ok (.iconst 0, 1) := by decide +kernel
theorem dX8_wall_60 : decode cX8_wall 60 = .ok (.ireturn, 1) := by decide +kernel
theorem dX8_wall_61 : decode cX8_wall 61 = .ok (.aload_n 0, 1) := by decide +kernel
theorem dX8_wall_62 : decode cX8_wall 62 = .ok (.getfield 14, 3) := by decide +kernel
theorem dX8_wall_65 : decode cX8_wall 65 = .ok (.sipush 256, 3) := by decide +kernel
theorem dX8_wall_68 : decode cX8_wall 68 = .ok (.iload_n 1, 1) := by decide +kernel
theorem dX8_wall_69 : decode cX8_wall 69 = .ok (.imul, 1) := by decide +kernel
theorem dX8_wall_70 : decode cX8_wall 70 = .ok (.iload_n 2, 1) := by decide +kernel
theorem dX8_wall_71 : decode cX8_wall 71 = .ok (.iadd, 1) := by decide +kernel
theorem dX8_wall_72 : decode cX8_wall 72 = .ok (.iload_n 3, 1) := by decide +kernel
theorem dX8_wall_73 : decode cX8_wall 73 = .ok (.bastore, 1) := by decide +kernel
theorem dX8_wall_74 : decode cX8_wall 74 = .ok (.aload_n 0, 1) := by decide +kernel
theorem dX8_wall_75 : decode cX8_wall 75 = .ok (.getfield 14, 3) := by decide +kernel
theorem dX8_wall_78 : decode cX8_wall 78 = .ok (.sipush 256, 3) := by decide +kernel
theorem dX8_wall_81 : decode cX8_wall 81 = .ok (.iload_n 2, 1) := by decide +kernel
theorem dX8_wall_82 : decode cX8_wall 82 = .ok (.imul, 1) := by decide +kernel
theorem dX8_wall_83 : decode cX8_wall 83 = .ok (.iload_n 1, 1) := by decide +kernel
theorem dX8_wall_84 : decode cX8_wall 84 = .ok (.iadd, 1) := by decide +kernel
theorem dX8_wall_85 : decode cX8_wall 85 = .ok (.iload_n 3, 1) := by decide +kernel
theorem dX8_wall_86 : decode cX8_wall 86 = .ok (.bastore, 1) := by decide +kernel
theorem dX8_wall_87 : decode cX8_wall 87 = .ok (.iconst 1, 1) := by decide +kernel
theorem dX8_wall_88 : decode cX8_wall 88 = .ok (.ireturn, 1) := by decide +kernel
theorem dX8_pairs_0 : decode cX8_pairs 0 = .ok (.aload_n 0, 1) := by decide +kernel
theorem dX8_pairs_1 : decode cX8_pairs 1 = .ok (.iconst 0, 1) := by decide +kernel
theorem dX8_pairs_2 : decode cX8_pairs 2 = .ok (.putfield 58, 3) := by decide +kernel
theorem dX8_pairs_5 : decode cX8_pairs 5 = .ok (.iconst 0, 1) := by decide +kernel
theorem dX8_pairs_6 : decode cX8_pairs 6 = .ok (.istore_n 2, 1) := by decide +kernel
theorem dX8_pairs_7 : decode cX8_pairs 7 = .ok (.iconst 0, 1) := by decide +kernel
theorem dX8_pairs_8 : decode cX8_pairs 8 = .ok (.istore_n 3, 1) := by decide +kernel
theorem dX8_pairs_9 : decode cX8_pairs 9 = .ok (.iload_n 3, 1) := by decide +kernel
theorem dX8_pairs_10 : decode cX8_pairs 10 = .ok (.aload_n 0, 1) := by decide +kernel
theorem dX8_pairs_11 : decode cX8_pairs 11 = .ok (.invokevirtual 50, 3) := by decide +kernel
theorem dX8_pairs_14 : decode cX8_pairs 14 = .ok (.if_icmp .ge 73, 3) := by decide +kernel
theorem dX8_pairs_17 : decode cX8_pairs 17 = .ok (.iload_n 3, 1) := by decide +kernel
theorem dX8_pairs_18 : decode cX8_pairs 18 = .ok (.iconst 1, 1) := by decide +kernel
theorem dX8_pairs_19 : decode cX8_pairs 19 = .ok (.iadd, 1) := by decide +kernel
theorem dX8_pairs_20 : decode cX8_pairs 20 = .ok (.istore 4, 2) := by decide +kernel
theorem dX8_pairs_22 : decode cX8_pairs 22 = .ok (.iload 4, 2) := by decide +kernel
theorem dX8_pairs_24 : decode cX8_pairs 24 = .ok (.aload_n 0, 1) := by decide +kernel
theorem dX8_pairs_25 : decode cX8_pairs 25 = .ok (.invokevirtual 50, 3) := by decide +kernel
theorem dX8_pairs_28 : decode cX8_pairs 28 = .ok (.if_icmp .ge 53, 3) := by decide +kernel
theorem dX8_pairs_31 : decode cX8_pairs 31 = .ok (.iload_n 2, 1) := by decide +kernel
theorem dX8_pairs_32 : decode cX8_pairs 32 = .ok (.aload_n 0, 1) := by decide +kernel
theorem dX8_pairs_33 : decode cX8_pairs 33 = .ok (.getfield 8, 3) := by decide +kernel
theorem dX8_pairs_36 : decode cX8_pairs 36 = .ok (.sipush 256, 3) := by decide +kernel
theorem dX8_pairs_39 : decode cX8_pairs 39 = .ok (.iload_n 3, 1) := by decide +kernel
theorem dX8_pairs_40 : decode cX8_pairs 40 = .ok (.imul, 1) := by decide +kernel
theorem dX8_pairs_41 : decode cX8_pairs 41 = .ok (.iload 4, 2) := by decide +kernel
theorem dX8_pairs_43 : decode cX8_pairs 43 = .ok (.iadd, 1) := by decide +kernel
theorem dX8_pairs_44 : decode cX8_pairs 44 = .ok (.baload, 1) := by decide +kernel
theorem dX8_pairs_45 : decode cX8_pairs 45 = .ok (.ifCond .eq 27, 3) := by decide +kernel
theorem dX8_pairs_48 : decode cX8_pairs 48 = .ok (.iload_n 1, 1) := by decide +kernel
theorem dX8_pairs_49 : decode cX8_pairs 49 = .ok (.ifCond .eq 19, 3) := by decide +kernel
theorem dX8_pairs_52 : decode cX8_pairs 52 = .ok (.aload_n 0, 1) := by decide +kernel
theorem dX8_pairs_53 : decode cX8_pairs 53 = .ok (.getfield 14, 3) := by decide +kernel
theorem dX8_pairs_56 : decode cX8_pairs 56 = .ok (.sipush 256, 3) := by decide +kernel
theorem dX8_pairs_59 : decode cX8_pairs 59 = .ok (.iload_n 3, 1) := by decide +kernel
theorem dX8_pairs_60 : decode cX8_pairs 60 = .ok (.imul, 1) := by decide +kernel
theorem dX8_pairs_61 : decode cX8_pairs 61 = .ok (.iload 4, 2) := by decide +kernel
theorem dX8_pairs_63 : decode cX8_pairs 63 = .ok (.iadd, 1) := by decide +kernel
theorem dX8_pairs_64 : decode cX8_pairs 64 = .ok (.baload, 1) := by decide +kernel
theorem dX8_pairs_65 : decode cX8_pairs 65 = .ok (.ifCond .eq 7, 3) := by decide +kernel
theorem dX8_pairs_68 : decode cX8_pairs 68 = .ok (.iconst 1, 1) := by decide +kernel
theorem dX8_pairs_69 : decode cX8_pairs 69 = .ok (.goto 4, 3) := by decide +kernel
theorem dX8_pairs_72 : decode cX8_pairs 72 = .ok (.iconst 0, 1) := by decide +kernel
theorem dX8_pairs_73 : decode cX8_pairs 73 = .ok (.iadd, 1) := by decide +kernel
theorem dX8_pairs_74 : decode cX8_pairs 74 = .ok (.istore_n 2, 1) := by decide +kernel
theorem dX8_pairs_75 : decode cX8_pairs 75 = .ok (.iinc 4 1, 3) := by decide +kernel
theorem dX8_pairs_78 : decode cX8_pairs 78 = .ok (.goto (-56), 3) := by decide +kernel
theorem dX8_pairs_81 : decode cX8_pairs 81 = .ok (.iinc 3 1, 3) := by decide +kernel
theorem dX8_pairs_84 : decode cX8_pairs 84 = .ok (.goto (-75), 3) := by decide +kernel
theorem dX8_pairs_87 : decode cX8_pairs 87 = .ok (.iload_n 2, 1) := by decide +kernel
theorem dX8_pairs_88 : decode cX8_pairs 88 = .ok (.ireturn, 1) := by decide +kernel
theorem dX8_pair_0 : decode cX8_pair 0 = .ok (.aload_n 0, 1) := by decide +kernel
theorem dX8_pair_1 : decode cX8_pair 1 = .ok (.iconst 0, 1) := by decide +kernel
theorem dX8_pair_2 : decode cX8_pair 2 = .ok (.putfield 58, 3) := by decide +kernel
theorem dX8_pair_5 : decode cX8_pair 5 = .ok (.iconst 0, 1) := by decide +kernel
theorem dX8_pair_6 : decode cX8_pair 6 = .ok (.istore_n 3, 1) := by decide +kernel
theorem dX8_pair_7 : decode cX8_pair 7 = .ok (.iconst 0, 1) := by decide +kernel
theorem dX8_pair_8 : decode cX8_pair 8 = .ok (.istore 4, 2) := by decide +kernel
theorem dX8_pair_10 : decode cX8_pair 10 = .ok (.iload 4, 2) := by decide +kernel
theorem dX8_pair_12 : decode cX8_pair 12 = .ok (.aload_n 0, 1) := by decide +kernel
theorem dX8_pair_13 : decode cX8_pair 13 = .ok (.invokevirtual 50, 3) := by decide +kernel
theorem dX8_pair_16 : decode cX8_pair 16 = .ok (.if_icmp .ge 70, 3) := by decide +kernel
theorem dX8_pair_19 : decode cX8_pair 19 = .ok (.iload 4, 2) := by decide +kernel
theorem dX8_pair_21 : decode cX8_pair 21 = .ok (.iconst 1, 1) := by decide +kernel
theorem dX8_pair_22 : decode cX8_pair 22 = .ok (.iadd, 1) := by decide +kernel
theorem dX8_pair_23 : decode cX8_pair 23 = .ok (.istore 5, 2) := by decide +kernel
theorem dX8_pair_25 : decode cX8_pair 25 = .ok (.iload 5, 2) := by decide +kernel
theorem dX8_pair_27 : decode cX8_pair 27 = .ok (.aload_n 0, 1) := by decide +kernel
theorem dX8_pair_28 : decode cX8_pair 28 = .ok (.invokevirtual 50, 3) := by decide +kernel
theorem dX8_pair_31 : decode cX8_pair 31 = .ok (.if_icmp .ge 49, 3) := by decide +kernel
theorem dX8_pair_34 : decode cX8_pair 34 = .ok (.aload_n 0, 1) := by decide +kernel
theorem dX8_pair_35 : decode cX8_pair 35 = .ok (.getfield 8, 3) := by decide +kernel
theorem dX8_pair_38 : decode cX8_pair 38 = .ok (.sipush 256, 3) := by decide +kernel
theorem dX8_pair_41 : decode cX8_pair 41 = .ok (.iload 4, 2) := by decide +kernel
theorem dX8_pair_43 : decode cX8_pair 43 = .ok (.imul, 1) := by decide +kernel
theorem dX8_pair_44 : decode cX8_pair 44 = .ok (.iload 5, 2) := by decide +kernel
theorem dX8_pair_46 : decode cX8_pair 46 = .ok (.iadd, 1) := by decide +kernel
theorem dX8_pair_47 : decode cX8_pair 47 = .ok (.baload, 1) := by decide +kernel
theorem dX8_pair_48 : decode cX8_pair 48 = .ok (.ifCond .ne 6, 3) := by decide +kernel
theorem dX8_pair_51 : decode cX8_pair 51 = .ok (.goto 23, 3) := by decide +kernel
theorem dX8_pair_54 : decode cX8_pair 54 = .ok (.iload_n 3, 1) := by decide +kernel
theorem dX8_pair_55 : decode cX8_pair 55 = .ok (.iload_n 1, 1) := by decide +kernel
theorem dX8_pair_56 : decode cX8_pair 56 = .ok (.if_icmp .ne 15, 3) := by decide +kernel
theorem dX8_pair_59 : decode cX8_pair 59 = .ok (.iload_n 2, 1) := by decide +kernel
theorem dX8_pair_60 : decode cX8_pair 60 = .ok (.ifCond .eq 8, 3) := by decide +kernel
theorem dX8_pair_63 : decode cX8_pair 63 = .ok (.iload 5, 2) := by decide +kernel
theorem dX8_pair_65 : decode cX8_pair 65 = .ok (.goto 5, 3) := by decide +kernel
theorem dX8_pair_68 : decode cX8_pair 68 = .ok (.iload 4, 2) := by decide +kernel
theorem dX8_pair_70 : decode cX8_pair 70 = .ok (.ireturn, 1) := by decide +kernel
theorem dX8_pair_71 : decode cX8_pair 71 = .ok (.iinc 3 1, 3) := by decide +kernel
theorem dX8_pair_74 : decode cX8_pair 74 = .ok (.iinc 5 1, 3) := by decide +kernel
theorem dX8_pair_77 : decode cX8_pair 77 = .ok (.goto (-52), 3) := by decide +kernel
theorem dX8_pair_80 : decode cX8_pair 80 = .ok (.iinc 4 1, 3) := by decide +kernel
theorem dX8_pair_83 : decode cX8_pair 83 = .ok (.goto (-73), 3) := by decide +kernel
theorem dX8_pair_86 : decode cX8_pair 86 = .ok (.iconst (-1), 1) := by decide +kernel
theorem dX8_pair_87 : decode cX8_pair 87 = .ok (.ireturn, 1) := by decide +kernel
theorem dX8_directions_0 : decode cX8_directions 0 = .ok (.aload_n 0, 1) := by decide +kernel
theorem dX8_directions_1 : decode cX8_directions 1 = .ok (.getfield 40, 3) := by decide +kernel
theorem dX8_directions_4 : decode cX8_directions 4 = .ok (.iconst 1, 1) := by decide +kernel
theorem dX8_directions_5 : decode cX8_directions 5 = .ok (.if_icmp .ne 8, 3) := by decide +kernel
theorem dX8_directions_8 : decode cX8_directions 8 = .ok (.bipush 6, 2) := by decide +kernel
theorem dX8_directions_10 : decode cX8_directions 10 = .ok (.goto 28, 3) := by decide +kernel
theorem dX8_directions_13 : decode cX8_directions 13 = .ok (.aload_n 0, 1) := by decide +kernel
theorem dX8_directions_14 : decode cX8_directions 14 = .ok (.getfield 40, 3) := by decide +kernel
theorem dX8_directions_17 : decode cX8_directions 17 = .ok (.iconst 2, 1) := by decide +kernel
theorem dX8_directions_18 : decode cX8_directions 18 = .ok (.if_icmp .ne 7, 3) := by decide +kernel
theorem dX8_directions_21 : decode cX8_directions 21 = .ok (.iconst 2, 1) := by decide +kernel
theorem dX8_directions_22 : decode cX8_directions 22 = .ok (.goto 16, 3) := by decide +kernel
theorem dX8_directions_25 : decode cX8_directions 25 = .ok (.aload_n 0, 1) := by decide +kernel
theorem dX8_directions_26 : decode cX8_directions 26 = .ok (.getfield 40, 3) := by decide +kernel
theorem dX8_directions_29 : decode cX8_directions 29 = .ok (.iconst 4, 1) := by decide +kernel
theorem dX8_directions_30 : decode cX8_directions 30 = .ok (.if_icmp .ne 7, 3) := by decide +kernel
theorem dX8_directions_33 : decode cX8_directions 33 = .ok (.iconst 0, 1) := by decide +kernel
theorem dX8_directions_34 : decode cX8_directions 34 = .ok (.goto 4, 3) := by decide +kernel
theorem dX8_directions_37 : decode cX8_directions 37 = .ok (.iconst 4, 1) := by decide +kernel
theorem dX8_directions_38 : decode cX8_directions 38 = .ok (.ireturn, 1) := by decide +kernel
theorem dX8_seen_0 : decode cX8_seen 0 = .ok (.aload_n 0, 1) := by decide +kernel
theorem dX8_seen_1 : decode cX8_seen 1 = .ok (.aload_n 0, 1) := by decide +kernel
theorem dX8_seen_2 : decode cX8_seen 2 = .ok (.iload_n 1, 1) := by decide +kernel
theorem dX8_seen_3 : decode cX8_seen 3 = .ok (.invokevirtual 70, 3) := by decide +kernel
theorem dX8_seen_6 : decode cX8_seen 6 = .ok (.ifCond .ne 7, 3) := by decide +kernel
theorem dX8_seen_9 : decode cX8_seen 9 = .ok (.iconst 1, 1) := by decide +kernel
theorem dX8_seen_10 : decode cX8_seen 10 = .ok (.goto 4, 3) := by decide +kernel
theorem dX8_seen_13 : decode cX8_seen 13 = .ok (.iconst 0, 1) := by decide +kernel
theorem dX8_seen_14 : decode cX8_seen 14 = .ok (.invokevirtual 74, 3) := by decide +kernel
theorem dX8_seen_17 : decode cX8_seen 17 = .ok (.ifCond .ne 19, 3) := by decide +kernel
theorem dX8_seen_20 : decode cX8_seen 20 = .ok (.iload_n 2, 1) := by decide +kernel
theorem dX8_seen_21 : decode cX8_seen 21 = .ok (.ifCond .lt 15, 3) := by decide +kernel
theorem dX8_seen_24 : decode cX8_seen 24 = .ok (.iload_n 2, 1) := by decide +kernel
theorem dX8_seen_25 : decode cX8_seen 25 = .ok (.aload_n 0, 1) := by decide +kernel
theorem dX8_seen_26 : decode cX8_seen 26 = .ok (.invokevirtual 82, 3) := by decide +kernel
theorem dX8_seen_29 : decode cX8_seen 29 = .ok (.if_icmp .ge 7, 3) := by decide +kernel
theorem dX8_seen_32 : decode cX8_seen 32 = .ok (.iload_n 3, 1) := by decide +kernel
theorem dX8_seen_33 : decode cX8_seen 33 = .ok (.ifCond .ge 16, 3) := by decide +kernel
theorem dX8_seen_36 : decode cX8_seen 36 = .ok (.aload_n 0, 1) := by decide +kernel
theorem dX8_seen_37 : decode cX8_seen 37 = .ok (.getfield 58, 3) := by decide +kernel
theorem dX8_seen_40 : decode cX8_seen 40 = .ok (.ifCond .le 7, 3) := by decide +kernel
theorem dX8_seen_43 : decode cX8_seen 43 = .ok (.iconst 0, 1) := by decide +kernel
theorem dX8_seen_44 : decode cX8_seen 44 = .ok (.goto 4, 3) := by decide +kernel
theorem dX8_seen_47 : decode cX8_seen 47 = .ok (.iconst (-1), 1) := by decide +kernel
theorem dX8_seen_48 : decode cX8_seen 48 = .ok (.ireturn, 1) := by decide +kernel
theorem dX8_seen_49 : decode cX8_seen 49 = .ok (.iload_n 1, 1) := by decide +kernel
theorem dX8_seen_50 : decode cX8_seen 50 = .ok (.istore 4, 2) := by decide +kernel
theorem dX8_seen_52 : decode cX8_seen 52 = .ok (.iconst 0, 1) := by decide +kernel
theorem dX8_seen_53 : decode cX8_seen 53 = .ok (.istore 5, 2) := by decide +kernel
theorem dX8_seen_55 : decode cX8_seen 55 = .ok (.iload 5, 2) := by decide +kernel
theorem dX8_seen_57 : decode cX8_seen 57 = .ok (.iload_n 3, 1) := by decide +kernel
theorem dX8_seen_58 : decode cX8_seen 58 = .ok (.if_icmp .gt 52, 3) := by decide +kernel
theorem dX8_seen_61 : decode cX8_seen 61 = .ok (.aload_n 0, 1) := by decide +kernel
theorem dX8_seen_62 : decode cX8_seen 62 = .ok (.iload 4, 2) := by decide +kernel
theorem dX8_seen_64 : decode cX8_seen 64 = .ok (.iload_n 2, 1) := by decide +kernel
theorem dX8_seen_65 : decode cX8_seen 65 = .ok (.invokevirtual 54, 3) := by decide +kernel
theorem dX8_seen_68 : decode cX8_seen 68 = .ok (.istore 6, 2) := by decide +kernel
theorem dX8_seen_70 : decode cX8_seen 70 = .ok (.iload 6, 2) := by decide +kernel
theorem dX8_seen_72 : decode cX8_seen 72 = .ok (.ifCond .lt 26, 3) := by decide +kernel
theorem dX8_seen_75 : decode cX8_seen 75 = .ok (.iload 6, 2) := by decide +kernel
theorem dX8_seen_77 : decode cX8_seen 77 = .ok (.iload_n 1, 1) := by decide +kernel
theorem dX8_seen_78 : decode cX8_seen 78 = .ok (.if_icmp .eq 20, 3) := by decide +kernel
theorem dX8_seen_81 : decode cX8_seen 81 = .ok (.aload_n 0, 1) := by decide +kernel
theorem dX8_seen_82 : decode cX8_seen 82 = .ok (.getfield 14, 3) := by decide +kernel
theorem dX8_seen_85 : decode cX8_seen 85 = .ok (.sipush 256, 3) := by decide +kernel
theorem dX8_seen_88 : decode cX8_seen 88 = .ok (.iload 4, 2) := by decide +kernel
theorem dX8_seen_90 : decode cX8_seen 90 = .ok (.imul, 1) := by decide +kernel
theorem dX8_seen_91 : decode cX8_seen 91 = .ok (.iload 6, 2) := by decide +kernel
theorem dX8_seen_93 : decode cX8_seen 93 = .ok (.iadd, 1) := by decide +kernel
theorem dX8_seen_94 : decode cX8_seen 94 = .ok (.baload, 1) := by decide +kernel
theorem dX8_seen_95 : decode cX8_seen 95 = .ok (.ifCond .eq 5, 3) := by decide +kernel
theorem dX8_seen_98 : decode cX8_seen 98 = .ok (.iconst (-1), 1) := by decide +kernel
theorem dX8_seen_99 : decode cX8_seen 99 = .ok (.ireturn, 1) := by decide +kernel
theorem dX8_seen_100 : decode cX8_seen 100 = .ok (.iload 6, 2) := by decide +kernel
theorem dX8_seen_102 : decode cX8_seen 102 = .ok (.istore 4, 2) := by decide +kernel
theorem dX8_seen_104 : decode cX8_seen 104 = .ok (.iinc 5 1, 3) := by decide +kernel
theorem dX8_seen_107 : decode cX8_seen 107 = .ok (.goto (-52), 3) := by decide +kernel
theorem dX8_seen_110 : decode cX8_seen 110 = .ok (.iload 4, 2) := by decide +kernel
theorem dX8_seen_112 : decode cX8_seen 112 = .ok (.ireturn, 1) := by decide +kernel
theorem dX8_spread_0 : decode cX8_spread 0 = .ok (.iconst 0, 1) := by decide +kernel
theorem dX8_spread_1 : decode cX8_spread 1 = .ok (.istore_n 2, 1) := by decide +kernel
theorem dX8_spread_2 : decode cX8_spread 2 = .ok (.iload_n 2, 1) := by decide +kernel
theorem dX8_spread_3 : decode cX8_spread 3 = .ok (.sipush 256, 3) := by decide +kernel
theorem dX8_spread_6 : decode cX8_spread 6 = .ok (.if_icmp .ge 25, 3) := by decide +kernel
theorem dX8_spread_9 : decode cX8_spread 9 = .ok (.aload_n 0, 1) := by decide +kernel
theorem dX8_spread_10 : decode cX8_spread 10 = .ok (.getfield 24, 3) := by decide +kernel
theorem dX8_spread_13 : decode cX8_spread 13 = .ok (.iload_n 2, 1) := by decide +kernel
theorem dX8_spread_14 : decode cX8_spread 14 = .ok (.iload_n 2, 1) := by decide +kernel
theorem dX8_spread_15 : decode cX8_spread 15 = .ok (.iload_n 1, 1) := by decide +kernel
theorem dX8_spread_16 : decode cX8_spread 16 = .ok (.if_icmp .ne 7, 3) := by decide +kernel
theorem dX8_spread_19 : decode cX8_spread 19 = .ok (.iconst 0, 1) := by decide +kernel
theorem dX8_spread_20 : decode cX8_spread 20 = .ok (.goto 4, 3) := by decide +kernel
theorem dX8_spread_23 : decode cX8_spread 23 = .ok (.iconst (-1), 1) := by decide +kernel
theorem dX8_spread_24 : decode cX8_spread 24 = .ok (.iastore, 1) := by decide +kernel
theorem dX8_spread_25 : decode cX8_spread 25 = .ok (.iinc 2 1, 3) := by decide +kernel
theorem dX8_spread_28 : decode cX8_spread 28 = .ok (.goto (-26), 3) := by decide +kernel
theorem dX8_spread_31 : decode cX8_spread 31 = .ok (.iconst 1, 1) := by decide +kernel
theorem dX8_spread_32 : decode cX8_spread 32 = .ok (.istore_n 2, 1) := by decide +kernel
theorem dX8_spread_33 : decode cX8_spread 33 = .ok (.iconst 0, 1) := by decide +kernel
theorem dX8_spread_34 : decode cX8_spread 34 = .ok (.istore_n 3, 1) := by decide +kernel
theorem dX8_spread_35 : decode cX8_spread 35 = .ok (.iload_n 2, 1) := by decide +kernel
theorem dX8_spread_36 : decode cX8_spread 36 = .ok (.ifCond .eq 107, 3) := by decide +kernel
theorem dX8_spread_39 : decode cX8_spread 39 = .ok (.iconst 0, 1) := by decide +kernel
theorem dX8_spread_40 : decode cX8_spread 40 = .ok (.istore_n 2, 1) := by decide +kernel
theorem dX8_spread_41 : decode cX8_spread 41 = .ok (.iconst 0, 1) := by decide +kernel
theorem dX8_spread_42 : decode cX8_spread 42 = .ok (.istore 4, 2) := by decide +kernel
theorem dX8_spread_44 : decode cX8_spread 44 = .ok (.iload 4, 2) := by decide +kernel
theorem dX8_spread_46 : decode cX8_spread 46 = .ok (.aload_n 0, 1) := by decide +kernel
theorem dX8_spread_47 : decode cX8_spread 47 = .ok (.invokevirtual 50, 3) := by decide +kernel
theorem dX8_spread_50 : decode cX8_spread 50 = .ok (.if_icmp .ge 87, 3) := by decide +kernel
theorem dX8_spread_53 : decode cX8_spread 53 = .ok (.aload_n 0, 1) := by decide +kernel
theorem dX8_spread_54 : decode cX8_spread 54 = .ok (.getfield 24, 3) := by decide +kernel
theorem dX8_spread_57 : decode cX8_spread 57 = .ok (.iload 4, 2) := by decide +kernel
theorem dX8_spread_59 : decode cX8_spread 59 = .ok (.iaload, 1) := by decide +kernel
theorem dX8_spread_60 : decode cX8_spread 60 = .ok (.iload_n 3, 1) := by decide +kernel
theorem dX8_spread_61 : decode cX8_spread 61 = .ok (.if_icmp .eq 6, 3) := by decide +kernel
theorem dX8_spread_64 : decode cX8_spread 64 = .ok (.goto 67, 3) := by decide +kernel
theorem dX8_spread_67 : decode cX8_spread 67 = .ok (.iconst 0, 1) := by decide +kernel
theorem dX8_spread_68 : decode cX8_spread 68 = .ok (.istore 5, 2) := by decide +kernel
theorem dX8_spread_70 : decode cX8_spread 70 = .ok (.iload 5, 2) := by decide +kernel
theorem dX8_spread_72 : decode cX8_spread 72 = .ok (.aload_n 0, 1) := by decide +kernel
theorem dX8_spread_73 : decode cX8_spread 73 = .ok (.invokevirtual 50, 3) := by decide +kernel
theorem dX8_spread_76 : decode cX8_spread 76 = .ok (.if_icmp .ge 55, 3) := by decide +kernel
theorem dX8_spread_79 : decode cX8_spread 79 = .ok (.aload_n 0, 1) := by decide +kernel
theorem dX8_spread_80 : decode cX8_spread 80 = .ok (.iload 4, 2) := by decide +kernel
theorem dX8_spread_82 : decode cX8_spread 82 = .ok (.iload 5, 2) := by decide +kernel
theorem dX8_spread_84 : decode cX8_spread 84 = .ok (.invokevirtual 78, 3) := by decide +kernel
theorem dX8_spread_87 : decode cX8_spread 87 = .ok (.ifCond .eq 38, 3) := by decide +kernel
theorem dX8_spread_90 : decode cX8_spread 90 = .ok (.aload_n 0, 1) := by decide +kernel
theorem dX8_spread_91 : decode cX8_spread 91 = .ok (.getfield 27, 3) := by decide +kernel
theorem dX8_spread_94 : decode cX8_spread 94 = .ok (.iload 5, 2) := by decide +kernel
theorem dX8_spread_96 : decode cX8_spread 96 = .ok (.baload, 1) := by decide +kernel
theorem dX8_spread_97 : decode cX8_spread 97 = .ok (.ifCond .ne 28, 3) := by decide +kernel
theorem dX8_spread_100 : decode cX8_spread 100 = .ok (.aload_n 0, 1) := by decide +kernel
theorem dX8_spread_101 : decode cX8_spread 101 = .ok (.getfield 24, 3) := by decide +kernel
theorem dX8_spread_104 : decode cX8_spread 104 = .ok (.iload 5, 2) := by decide +kernel
theorem dX8_spread_106 : decode cX8_spread 106 = .ok (.iaload, 1) := by decide +kernel
theorem dX8_spread_107 : decode cX8_spread 107 = .ok (.ifCond .lt 6, 3) := by decide +kernel
theorem dX8_spread_110 : decode cX8_spread 110 = .ok (.goto 15, 3) := by decide +kernel
theorem dX8_spread_113 : decode cX8_spread 113 = .ok (.aload_n 0, 1) := by decide +kernel
theorem dX8_spread_114 : decode cX8_spread 114 = .ok (.getfield 24, 3) := by decide +kernel
theorem dX8_spread_117 : decode cX8_spread 117 = .ok (.iload 5, 2) := by decide +kernel
theorem dX8_spread_119 : decode cX8_spread 119 = .ok (.iload_n 3, 1) := by decide +kernel
theorem dX8_spread_120 : decode cX8_spread 120 = .ok (.iconst 1, 1) := by decide +kernel
theorem dX8_spread_121 : decode cX8_spread 121 = .ok (.iadd, 1) := by decide +kernel
theorem dX8_spread_122 : decode cX8_spread 122 = .ok (.iastore, 1) := by decide +kernel
theorem dX8_spread_123 : decode cX8_spread 123 = .ok (.iconst 1, 1) := by decide +kernel
theorem dX8_spread_124 : decode cX8_spread 124 = .ok (.istore_n 2, 1) := by decide +kernel
theorem dX8_spread_125 : decode cX8_spread 125 = .ok (.iinc 5 1, 3) := by decide +kernel
theorem dX8_spread_128 : decode cX8_spread 128 = .ok (.goto (-58), 3) := by decide +kernel
theorem dX8_spread_131 : decode cX8_spread 131 = .ok (.iinc 4 1, 3) := by decide +kernel
theorem dX8_spread_134 : decode cX8_spread 134 = .ok (.goto (-90), 3) := by decide +kernel
theorem dX8_spread_137 : decode cX8_spread 137 = .ok (.iinc 3 1, 3) := by decide +kernel
theorem dX8_spread_140 : decode cX8_spread 140 = .ok (.goto (-105), 3) := by decide +kernel
theorem dX8_spread_143 : decode cX8_spread 143 = .ok (.return_, 1) := by decide +kernel
theorem dX8_noneOut_0 : decode cX8_noneOut 0 = .ok (.iconst 0, 1) := by decide +kernel
theorem dX8_noneOut_1 : decode cX8_noneOut 1 = .ok (.istore_n 1, 1) := by decide +kernel
theorem dX8_noneOut_2 : decode cX8_noneOut 2 = .ok (.iload_n 1, 1) := by decide +kernel
theorem dX8_noneOut_3 : decode cX8_noneOut 3 = .ok (.sipush 256, 3) := by decide +kernel
theorem dX8_noneOut_6 : decode cX8_noneOut 6 = .ok (.if_icmp .ge 16, 3) := by decide +kernel
theorem dX8_noneOut_9 : decode cX8_noneOut 9 = .ok (.aload_n 0, 1) := by decide +kernel
theorem dX8_noneOut_10 : decode cX8_noneOut 10 = .ok (.getfield 27, 3) := by decide +kernel
theorem dX8_noneOut_13 : decode cX8_noneOut 13 = .ok (.iload_n 1, 1) := by decide +kernel
theorem dX8_noneOut_14 : decode cX8_noneOut 14 = .ok (.iconst 0, 1) := by decide +kernel
theorem dX8_noneOut_15 : decode cX8_noneOut 15 = .ok (.bastore, 1) := by decide +kernel
theorem dX8_noneOut_16 : decode cX8_noneOut 16 = .ok (.iinc 1 1, 3) := by decide +kernel
theorem dX8_noneOut_19 : decode cX8_noneOut 19 = .ok (.goto (-17), 3) := by decide +kernel
theorem dX8_noneOut_22 : decode cX8_noneOut 22 = .ok (.return_, 1) := by decide +kernel
theorem dX8_far_0 : decode cX8_far 0 = .ok (.aload_n 0, 1) := by decide +kernel
theorem dX8_far_1 : decode cX8_far 1 = .ok (.aload_n 0, 1) := by decide +kernel
theorem dX8_far_2 : decode cX8_far 2 = .ok (.iload_n 1, 1) := by decide +kernel
theorem dX8_far_3 : decode cX8_far 3 = .ok (.invokevirtual 70, 3) := by decide +kernel
theorem dX8_far_6 : decode cX8_far 6 = .ok (.ifCond .eq 11, 3) := by decide +kernel
theorem dX8_far_9 : decode cX8_far 9 = .ok (.aload_n 0, 1) := by decide +kernel
theorem dX8_far_10 : decode cX8_far 10 = .ok (.iload_n 2, 1) := by decide +kernel
theorem dX8_far_11 : decode cX8_far 11 = .ok (.invokevirtual 70, 3) := by decide +kernel
theorem dX8_far_14 : decode cX8_far 14 = .ok (.ifCond .ne 7, 3) := by decide +kernel
theorem dX8_far_17 : decode cX8_far 17 = .ok (.iconst 1, 1) := by decide +kernel
theorem dX8_far_18 : decode cX8_far 18 = .ok (.goto 4, 3) := by decide +kernel
theorem dX8_far_21 : decode cX8_far 21 = .ok (.iconst 0, 1) := by decide +kernel
theorem dX8_far_22 : decode cX8_far 22 = .ok (.invokevirtual 74, 3) := by decide +kernel
theorem dX8_far_25 : decode cX8_far 25 = .ok (.ifCond .eq 5, 3) := by decide +kernel
theorem dX8_far_28 : decode cX8_far 28 = .ok (.iconst 0, 1) := by decide +kernel
theorem dX8_far_29 : decode cX8_far 29 = .ok (.ireturn, 1) := by decide +kernel
theorem dX8_far_30 : decode cX8_far 30 = .ok (.aload_n 0, 1) := by decide +kernel
theorem dX8_far_31 : decode cX8_far 31 = .ok (.invokevirtual 85, 3) := by decide +kernel
theorem dX8_far_34 : decode cX8_far 34 = .ok (.aload_n 0, 1) := by decide +kernel
theorem dX8_far_35 : decode cX8_far 35 = .ok (.iload_n 1, 1) := by decide +kernel
theorem dX8_far_36 : decode cX8_far 36 = .ok (.invokevirtual 88, 3) := by decide +kernel
theorem dX8_far_39 : decode cX8_far 39 = .ok (.aload_n 0, 1) := by decide +kernel
theorem dX8_far_40 : decode cX8_far 40 = .ok (.getfield 24, 3) := by decide +kernel
theorem dX8_far_43 : decode cX8_far 43 = .ok (.iload_n 2, 1) := by decide +kernel
theorem dX8_far_44 : decode cX8_far 44 = .ok (.iaload, 1) := by decide +kernel
theorem dX8_far_45 : decode cX8_far 45 = .ok (.ireturn, 1) := by decide +kernel
theorem dX8_count_0 : decode cX8_count 0 = .ok (.iconst 0, 1) := by decide +kernel
theorem dX8_count_1 : decode cX8_count 1 = .ok (.istore_n 1, 1) := by decide +kernel
theorem dX8_count_2 : decode cX8_count 2 = .ok (.iconst 0, 1) := by decide +kernel
theorem dX8_count_3 : decode cX8_count 3 = .ok (.istore_n 2, 1) := by decide +kernel
theorem dX8_count_4 : decode cX8_count 4 = .ok (.iload_n 2, 1) := by decide +kernel
theorem dX8_count_5 : decode cX8_count 5 = .ok (.aload_n 0, 1) := by decide +kernel
theorem dX8_count_6 : decode cX8_count 6 = .ok (.invokevirtual 50, 3) := by decide +kernel
theorem dX8_count_9 : decode cX8_count 9 = .ok (.if_icmp .ge 74, 3) := by decide +kernel
theorem dX8_count_12 : decode cX8_count 12 = .ok (.aload_n 0, 1) := by decide +kernel
theorem dX8_count_13 : decode cX8_count 13 = .ok (.getfield 27, 3) := by decide +kernel
theorem dX8_count_16 : decode cX8_count 16 = .ok (.iload_n 2, 1) := by decide +kernel
theorem dX8_count_17 : decode cX8_count 17 = .ok (.baload, 1) := by decide +kernel
theorem dX8_count_18 : decode cX8_count 18 = .ok (.ifCond .eq 6, 3) := by decide +kernel
theorem dX8_count_21 : decode cX8_count 21 = .ok (.goto 56, 3) := by decide +kernel
theorem dX8_count_24 : decode cX8_count 24 = .ok (.iinc 1 1, 3) := by decide +kernel
theorem dX8_count_27 : decode cX8_count 27 = .ok (.aload_n 0, 1) := by decide +kernel
theorem dX8_count_28 : decode cX8_count 28 = .ok (.iload_n 2, 1) := by decide +kernel
theorem dX8_count_29 : decode cX8_count 29 = .ok (.invokevirtual 88, 3) := by decide +kernel
theorem dX8_count_32 : decode cX8_count 32 = .ok (.iconst 0, 1) := by decide +kernel
theorem dX8_count_33 : decode cX8_count 33 = .ok (.istore_n 3, 1) := by decide +kernel
theorem dX8_count_34 : decode cX8_count 34 = .ok (.iload_n 3, 1) := by decide +kernel
theorem dX8_count_35 : decode cX8_count 35 = .ok (.aload_n 0, 1) := by decide +kernel
theorem dX8_count_36 : decode cX8_count 36 = .ok (.invokevirtual 50, 3) := by decide +kernel
theorem dX8_count_39 : decode cX8_count 39 = .ok (.if_icmp .ge 38, 3) := by decide +kernel
theorem dX8_count_42 : decode cX8_count 42 = .ok (.aload_n 0, 1) := by decide +kernel
theorem dX8_count_43 : decode cX8_count 43 = .ok (.getfield 27, 3) := by decide +kernel
theorem dX8_count_46 : decode cX8_count 46 = .ok (.iload_n 3, 1) := by decide +kernel
theorem dX8_count_47 : decode cX8_count 47 = .ok (.aload_n 0, 1) := by decide +kernel
theorem dX8_count_48 : decode cX8_count 48 = .ok (.getfield 27, 3) := by decide +kernel
theorem dX8_count_51 : decode cX8_count 51 = .ok (.iload_n 3, 1) := by decide +kernel
theorem dX8_count_52 : decode cX8_count 52 = .ok (.baload, 1) := by decide +kernel
theorem dX8_count_53 : decode cX8_count 53 = .ok (.ifCond .ne 12, 3) := by decide +kernel
theorem dX8_count_56 : decode cX8_count 56 = .ok (.aload_n 0, 1) := by decide +kernel
theorem dX8_count_57 : decode cX8_count 57 = .ok (.getfield 24, 3) := by decide +kernel
theorem dX8_count_60 : decode cX8_count 60 = .ok (.iload_n 3, 1) := by decide +kernel
theorem dX8_count_61 : decode cX8_count 61 = .ok (.iaload, 1) := by decide +kernel
theorem dX8_count_62 : decode cX8_count 62 = .ok (.ifCond .lt 7, 3) := by decide +kernel
theorem dX8_count_65 : decode cX8_count 65 = .ok (.iconst 1, 1) := by decide +kernel
theorem dX8_count_66 : decode cX8_count 66 = .ok (.goto 4, 3) := by decide +kernel
theorem dX8_count_69 : decode cX8_count 69 = .ok (.iconst 0, 1) := by decide +kernel
theorem dX8_count_70 : decode cX8_count 70 = .ok (.bastore, 1) := by decide +kernel
theorem dX8_count_71 : decode cX8_count 71 = .ok (.iinc 3 1, 3) := by decide +kernel
theorem dX8_count_74 : decode cX8_count 74 = .ok (.goto (-40), 3) := by decide +kernel
theorem dX8_count_77 : decode cX8_count 77 = .ok (.iinc 2 1, 3) := by decide +kernel
theorem dX8_count_80 : decode cX8_count 80 = .ok (.goto (-76), 3) := by decide +kernel
theorem dX8_count_83 : decode cX8_count 83 = .ok (.iload_n 1, 1) := by decide +kernel
theorem dX8_count_84 : decode cX8_count 84 = .ok (.ireturn, 1) := by decide +kernel
theorem dX8_parts_0 : decode cX8_parts 0 = .ok (.aload_n 0, 1) := by decide +kernel
theorem dX8_parts_1 : decode cX8_parts 1 = .ok (.iconst 0, 1) := by decide +kernel
theorem dX8_parts_2 : decode cX8_parts 2 = .ok (.putfield 58, 3) := by decide +kernel
theorem dX8_parts_5 : decode cX8_parts 5 = .ok (.iconst 0, 1) := by decide +kernel
theorem dX8_parts_6 : decode cX8_parts 6 = .ok (.istore_n 2, 1) := by decide +kernel
theorem dX8_parts_7 : decode cX8_parts 7 = .ok (.iload_n 2, 1) := by decide +kernel
theorem dX8_parts_8 : decode cX8_parts 8 = .ok (.sipush 256, 3) := by decide +kernel
theorem dX8_parts_11 : decode cX8_parts 11 = .ok (.if_icmp .ge 34, 3) := by decide +kernel
theorem dX8_parts_14 : decode cX8_parts 14 = .ok (.aload_n 0, 1) := by decide +kernel
theorem dX8_parts_15 : decode cX8_parts 15 = .ok (.getfield 27, 3) := by decide +kernel
theorem dX8_parts_18 : decode cX8_parts 18 = .ok (.iload_n 2, 1) := by decide +kernel
theorem dX8_parts_19 : decode cX8_parts 19 = .ok (.iload_n 1, 1) := by decide +kernel
theorem dX8_parts_20 : decode cX8_parts 20 = .ok (.ifCond .lt 17, 3) := by decide +kernel
theorem dX8_parts_23 : decode cX8_parts 23 = .ok (.aload_n 0, 1) := by decide +kernel
theorem dX8_parts_24 : decode cX8_parts 24 = .ok (.getfield 17, 3) := by decide +kernel
theorem dX8_parts_27 : decode cX8_parts 27 = .ok (.iload_n 2, 1) := by decide +kernel
theorem dX8_parts_28 : decode cX8_parts 28 = .ok (.iaload, 1) := by decide +kernel
theorem dX8_parts_29 : decode cX8_parts 29 = .ok (.iload_n 1, 1) := by decide +kernel
theorem dX8_parts_30 : decode cX8_parts 30 = .ok (.if_icmp .eq 7, 3) := by decide +kernel
theorem dX8_parts_33 : decode cX8_parts 33 = .ok (.iconst 1, 1) := by decide +kernel
theorem dX8_parts_34 : decode cX8_parts 34 = .ok (.goto 4, 3) := by decide +kernel
theorem dX8_parts_37 : decode cX8_parts 37 = .ok (.iconst 0, 1) := by decide +kernel
theorem dX8_parts_38 : decode cX8_parts 38 = .ok (.bastore, 1) := by decide +kernel
theorem dX8_parts_39 : decode cX8_parts 39 = .ok (.iinc 2 1, 3) := by decide +kernel
theorem dX8_parts_42 : decode cX8_parts 42 = .ok (.goto (-35), 3) := by decide +kernel
theorem dX8_parts_45 : decode cX8_parts 45 = .ok (.aload_n 0, 1) := by decide +kernel
theorem dX8_parts_46 : decode cX8_parts 46 = .ok (.invokevirtual 92, 3) := by decide +kernel
theorem dX8_parts_49 : decode cX8_parts 49 = .ok (.ireturn, 1) := by decide +kernel
theorem dX8_without_0 : decode cX8_without 0 = .ok (.aload_n 0, 1) := by decide +kernel
theorem dX8_without_1 : decode cX8_without 1 = .ok (.aload_n 0, 1) := by decide +kernel
theorem dX8_without_2 : decode cX8_without 2 = .ok (.iload_n 1, 1) := by decide +kernel
theorem dX8_without_3 : decode cX8_without 3 = .ok (.invokevirtual 70, 3) := by decide +kernel
theorem dX8_without_6 : decode cX8_without 6 = .ok (.ifCond .ne 7, 3) := by decide +kernel
theorem dX8_without_9 : decode cX8_without 9 = .ok (.iconst 1, 1) := by decide +kernel
theorem dX8_without_10 : decode cX8_without 10 = .ok (.goto 4, 3) := by decide +kernel
theorem dX8_without_13 : decode cX8_without 13 = .ok (.iconst 0, 1) := by decide +kernel
theorem dX8_without_14 : decode cX8_without 14 = .ok (.invokevirtual 74, 3) := by decide +kernel
theorem dX8_without_17 : decode cX8_without 17 = .ok (.ifCond .eq 5, 3) := by decide +kernel
theorem dX8_without_20 : decode cX8_without 20 = .ok (.iconst 0, 1) := by decide +kernel
theorem dX8_without_21 : decode cX8_without 21 = .ok (.ireturn, 1) := by decide +kernel
theorem dX8_without_22 : decode cX8_without 22 = .ok (.aload_n 0, 1) := by decide +kernel
theorem dX8_without_23 : decode cX8_without 23 = .ok (.invokevirtual 85, 3) := by decide +kernel
theorem dX8_without_26 : decode cX8_without 26 = .ok (.aload_n 0, 1) := by decide +kernel
theorem dX8_without_27 : decode cX8_without 27 = .ok (.getfield 27, 3) := by decide +kernel
theorem dX8_without_30 : decode cX8_without 30 = .ok (.iload_n 1, 1) := by decide +kernel
theorem dX8_without_31 : decode cX8_without 31 = .ok (.iconst 1, 1) := by decide +kernel
theorem dX8_without_32 : decode cX8_without 32 = .ok (.bastore, 1) := by decide +kernel
theorem dX8_without_33 : decode cX8_without 33 = .ok (.aload_n 0, 1) := by decide +kernel
theorem dX8_without_34 : decode cX8_without 34 = .ok (.invokevirtual 92, 3) := by decide +kernel
theorem dX8_without_37 : decode cX8_without 37 = .ok (.ireturn, 1) := by decide +kernel
theorem dX8_area_0 : decode cX8_area 0 = .ok (.aload_n 0, 1) := by decide +kernel
theorem dX8_area_1 : decode cX8_area 1 = .ok (.aload_n 0, 1) := by decide +kernel
theorem dX8_area_2 : decode cX8_area 2 = .ok (.iload_n 1, 1) := by decide +kernel
theorem dX8_area_3 : decode cX8_area 3 = .ok (.invokevirtual 70, 3) := by decide +kernel
theorem dX8_area_6 : decode cX8_area 6 = .ok (.ifCond .ne 7, 3) := by decide +kernel
theorem dX8_area_9 : decode cX8_area 9 = .ok (.iconst 1, 1) := by decide +kernel
theorem dX8_area_10 : decode cX8_area 10 = .ok (.goto 4, 3) := by decide +kernel
theorem dX8_area_13 : decode cX8_area 13 = .ok (.iconst 0, 1) := by decide +kernel
theorem dX8_area_14 : decode cX8_area 14 = .ok (.invokevirtual 74, 3) := by decide +kernel
theorem dX8_area_17 : decode cX8_area 17 = .ok (.ifCond .ne 11, 3) := by decide +kernel
theorem dX8_area_20 : decode cX8_area 20 = .ok (.aload_n 0, 1) := by decide +kernel
theorem dX8_area_21 : decode cX8_area 21 = .ok (.iload_n 2, 1) := by decide +kernel
theorem dX8_area_22 : decode cX8_area 22 = .ok (.invokevirtual 70, 3) := by decide +kernel
theorem dX8_area_25 : decode cX8_area 25 = .ok (.ifCond .ne 5, 3) := by decide +kernel
theorem dX8_area_28 : decode cX8_area 28 = .ok (.iconst 0, 1) := by decide +kernel
theorem dX8_area_29 : decode cX8_area 29 = .ok (.ireturn, 1) := by decide +kernel
theorem dX8_area_30 : decode cX8_area 30 = .ok (.aload_n 0, 1) := by decide +kernel
theorem dX8_area_31 : decode cX8_area 31 = .ok (.getfield 17, 3) := by decide +kernel
theorem dX8_area_34 : decode cX8_area 34 = .ok (.iload_n 1, 1) := by decide +kernel
theorem dX8_area_35 : decode cX8_area 35 = .ok (.iload_n 2, 1) := by decide +kernel
theorem dX8_area_36 : decode cX8_area 36 = .ok (.iastore, 1) := by decide +kernel
theorem dX8_area_37 : decode cX8_area 37 = .ok (.iconst 1, 1) := by decide +kernel
theorem dX8_area_38 : decode cX8_area 38 = .ok (.ireturn, 1) := by decide +kernel
theorem dX8_size_0 : decode cX8_size 0 = .ok (.aload_n 0, 1) := by decide +kernel
theorem dX8_size_1 : decode cX8_size 1 = .ok (.iconst 0, 1) := by decide +kernel
theorem dX8_size_2 : decode cX8_size 2 = .ok (.putfield 58, 3) := by decide +kernel
theorem dX8_size_5 : decode cX8_size 5 = .ok (.iconst 0, 1) := by decide +kernel
theorem dX8_size_6 : decode cX8_size 6 = .ok (.istore_n 2, 1) := by decide +kernel
theorem dX8_size_7 : decode cX8_size 7 = .ok (.iconst 0, 1) := by decide +kernel
theorem dX8_size_8 : decode cX8_size 8 = .ok (.istore_n 3, 1) := by decide +kernel
theorem dX8_size_9 : decode cX8_size 9 = .ok (.iload_n 3, 1) := by decide +kernel
theorem dX8_size_10 : decode cX8_size 10 = .ok (.aload_n 0, 1) := by decide +kernel
theorem dX8_size_11 : decode cX8_size 11 = .ok (.invokevirtual 50, 3) := by decide +kernel
theorem dX8_size_14 : decode cX8_size 14 = .ok (.if_icmp .ge 27, 3) := by decide +kernel
theorem dX8_size_17 : decode cX8_size 17 = .ok (.iload_n 2, 1) := by decide +kernel
theorem dX8_size_18 : decode cX8_size 18 = .ok (.aload_n 0, 1) := by decide +kernel
theorem dX8_size_19 : decode cX8_size 19 = .ok (.getfield 17, 3) := by decide +kernel
theorem dX8_size_22 : decode cX8_size 22 = .ok (.iload_n 3, 1) := by decide +kernel
theorem dX8_size_23 : decode cX8_size 23 = .ok (.iaload, 1) := by decide +kernel
theorem dX8_size_24 : decode cX8_size 24 = .ok (.iload_n 1, 1) := by decide +kernel
theorem dX8_size_25 : decode cX8_size 25 = .ok (.if_icmp .ne 7, 3) := by decide +kernel
theorem dX8_size_28 : decode cX8_size 28 = .ok (.iconst 1, 1) := by decide +kernel
theorem dX8_size_29 : decode cX8_size 29 = .ok (.goto 4, 3) := by decide +kernel
theorem dX8_size_32 : decode cX8_size 32 = .ok (.iconst 0, 1) := by decide +kernel
theorem dX8_size_33 : decode cX8_size 33 = .ok (.iadd, 1) := by decide +kernel
theorem dX8_size_34 : decode cX8_size 34 = .ok (.istore_n 2, 1) := by decide +kernel
theorem dX8_size_35 : decode cX8_size 35 = .ok (.iinc 3 1, 3) := by decide +kernel
theorem dX8_size_38 : decode cX8_size 38 = .ok (.goto (-29), 3) := by decide +kernel
theorem dX8_size_41 : decode cX8_size 41 = .ok (.iload_n 2, 1) := by decide +kernel
theorem dX8_size_42 : decode cX8_size 42 = .ok (.ireturn, 1) := by decide +kernel
theorem dX8_mark_0 : decode cX8_mark 0 = .ok (.aload_n 0, 1) := by decide +kernel
theorem dX8_mark_1 : decode cX8_mark 1 = .ok (.aload_n 0, 1) := by decide +kernel
theorem dX8_mark_2 : decode cX8_mark 2 = .ok (.iload_n 1, 1) := by decide +kernel
theorem dX8_mark_3 : decode cX8_mark 3 = .ok (.invokevirtual 70, 3) := by decide +kernel
theorem dX8_mark_6 : decode cX8_mark 6 = .ok (.ifCond .ne 7, 3) := by decide +kernel
theorem dX8_mark_9 : decode cX8_mark 9 = .ok (.iconst 1, 1) := by decide +kernel
theorem dX8_mark_10 : decode cX8_mark 10 = .ok (.goto 4, 3) := by decide +kernel
theorem dX8_mark_13 : decode cX8_mark 13 = .ok (.iconst 0, 1) := by decide +kernel
theorem dX8_mark_14 : decode cX8_mark 14 = .ok (.invokevirtual 74, 3) := by decide +kernel
theorem dX8_mark_17 : decode cX8_mark 17 = .ok (.ifCond .ne 13, 3) := by decide +kernel
theorem dX8_mark_20 : decode cX8_mark 20 = .ok (.iload_n 2, 1) := by decide +kernel
theorem dX8_mark_21 : decode cX8_mark 21 = .ok (.ifCond .lt 9, 3) := by decide +kernel
theorem dX8_mark_24 : decode cX8_mark 24 = .ok (.iload_n 2, 1) := by decide +kernel
theorem dX8_mark_25 : decode cX8_mark 25 = .ok (.bipush 99, 2) := by decide +kernel
theorem dX8_mark_27 : decode cX8_mark 27 = .ok (.if_icmp .le 5, 3) := by decide +kernel
theorem dX8_mark_30 : decode cX8_mark 30 = .ok (.iconst 0, 1) := by decide +kernel
theorem dX8_mark_31 : decode cX8_mark 31 = .ok (.ireturn, 1) := by decide +kernel
theorem dX8_mark_32 : decode cX8_mark 32 = .ok (.aload_n 0, 1) := by decide +kernel
theorem dX8_mark_33 : decode cX8_mark 33 = .ok (.getfield 21, 3) := by decide +kernel
theorem dX8_mark_36 : decode cX8_mark 36 = .ok (.iload_n 1, 1) := by decide +kernel
theorem dX8_mark_37 : decode cX8_mark 37 = .ok (.iload_n 2, 1) := by decide +kernel
theorem dX8_mark_38 : decode cX8_mark 38 = .ok (.iastore, 1) := by decide +kernel
theorem dX8_mark_39 : decode cX8_mark 39 = .ok (.iconst 1, 1) := by decide +kernel
theorem dX8_mark_40 : decode cX8_mark 40 = .ok (.ireturn, 1) := by decide +kernel
theorem dX8_isTurn_0 : decode cX8_isTurn 0 = .ok (.aload_n 0, 1) := by decide +kernel
theorem dX8_isTurn_1 : decode cX8_isTurn 1 = .ok (.getfield 40, 3) := by decide +kernel
theorem dX8_isTurn_4 : decode cX8_isTurn 4 = .ok (.iconst 4, 1) := by decide +kernel
theorem dX8_isTurn_5 : decode cX8_isTurn 5 = .ok (.if_icmp .ne 7, 3) := by decide +kernel
theorem dX8_isTurn_8 : decode cX8_isTurn 8 = .ok (.iconst 1, 1) := by decide +kernel
theorem dX8_isTurn_9 : decode cX8_isTurn 9 = .ok (.goto 37, 3) := by decide +kernel
theorem dX8_isTurn_12 : decode cX8_isTurn 12 = .ok (.aload_n 0, 1) := by decide +kernel
theorem dX8_isTurn_13 : decode cX8_isTurn 13 = .ok (.getfield 40, 3) := by decide +kernel
theorem dX8_isTurn_16 : decode cX8_isTurn 16 = .ok (.iconst 3, 1) := by decide +kernel
theorem dX8_isTurn_17 : decode cX8_isTurn 17 = .ok (.if_icmp .ne 12, 3) := by decide +kernel
theorem dX8_isTurn_20 : decode cX8_isTurn 20 = .ok (.iconst 2, 1) := by decide +kernel
theorem dX8_isTurn_21 : decode cX8_isTurn 21 = .ok (.aload_n 0, 1) := by decide +kernel
theorem dX8_isTurn_22 : decode cX8_isTurn 22 = .ok (.getfield 44, 3) := by decide +kernel
theorem dX8_isTurn_25 : decode cX8_isTurn 25 = .ok (.imul, 1) := by decide +kernel
theorem dX8_isTurn_26 : decode cX8_isTurn 26 = .ok (.goto 20, 3) := by decide +kernel
theorem dX8_isTurn_29 : decode cX8_isTurn 29 = .ok (.aload_n 0, 1) := by decide +kernel
theorem dX8_isTurn_30 : decode cX8_isTurn 30 = .ok (.getfield 44, 3) := by decide +kernel
theorem dX8_isTurn_33 : decode cX8_isTurn 33 = .ok (.aload_n 0, 1) := by decide +kernel
theorem dX8_isTurn_34 : decode cX8_isTurn 34 = .ok (.getfield 47, 3) := by decide +kernel
theorem dX8_isTurn_37 : decode cX8_isTurn 37 = .ok (.if_icmp .ne 8, 3) := by decide +kernel
theorem dX8_isTurn_40 : decode cX8_isTurn 40 = .ok (.bipush 8, 2) := by decide +kernel
theorem dX8_isTurn_42 : decode cX8_isTurn 42 = .ok (.goto 4, 3) := by decide +kernel
theorem dX8_isTurn_45 : decode cX8_isTurn 45 = .ok (.iconst 4, 1) := by decide +kernel
theorem dX8_isTurn_46 : decode cX8_isTurn 46 = .ok (.istore_n 2, 1) := by decide +kernel
theorem dX8_isTurn_47 : decode cX8_isTurn 47 = .ok (.iload_n 1, 1) := by decide +kernel
theorem dX8_isTurn_48 : decode cX8_isTurn 48 = .ok (.ifCond .lt 12, 3) := by decide +kernel
theorem dX8_isTurn_51 : decode cX8_isTurn 51 = .ok (.iload_n 1, 1) := by decide +kernel
theorem dX8_isTurn_52 : decode cX8_isTurn 52 = .ok (.iload_n 2, 1) := by decide +kernel
theorem dX8_isTurn_53 : decode cX8_isTurn 53 = .ok (.if_icmp .ge 7, 3) := by decide +kernel
theorem dX8_isTurn_56 : decode cX8_isTurn 56 = .ok (.iconst 1, 1) := by decide +kernel
theorem dX8_isTurn_57 : decode cX8_isTurn 57 = .ok (.goto 4, 3) := by decide +kernel
theorem dX8_isTurn_60 : decode cX8_isTurn 60 = .ok (.iconst 0, 1) := by decide +kernel
theorem dX8_isTurn_61 : decode cX8_isTurn 61 = .ok (.ireturn, 1) := by decide +kernel
theorem dX8_turned_0 : decode cX8_turned 0 = .ok (.iload_n 2, 1) := by decide +kernel
theorem dX8_turned_1 : decode cX8_turned 1 = .ok (.aload_n 0, 1) := by decide +kernel
theorem dX8_turned_2 : decode cX8_turned 2 = .ok (.getfield 44, 3) := by decide +kernel
theorem dX8_turned_5 : decode cX8_turned 5 = .ok (.irem, 1) := by decide +kernel
theorem dX8_turned_6 : decode cX8_turned 6 = .ok (.istore_n 3, 1) := by decide +kernel
theorem dX8_turned_7 : decode cX8_turned 7 = .ok (.iload_n 2, 1) := by decide +kernel
theorem dX8_turned_8 : decode cX8_turned 8 = .ok (.aload_n 0, 1) := by decide +kernel
theorem dX8_turned_9 : decode cX8_turned 9 = .ok (.getfield 44, 3) := by decide +kernel
theorem dX8_turned_12 : decode cX8_turned 12 = .ok (.idiv, 1) := by decide +kernel
theorem dX8_turned_13 : decode cX8_turned 13 = .ok (.istore 4, 2) := by decide +kernel
theorem dX8_turned_15 : decode cX8_turned 15 = .ok (.aload_n 0, 1) := by decide +kernel
theorem dX8_turned_16 : decode cX8_turned 16 = .ok (.getfield 40, 3) := by decide +kernel
theorem dX8_turned_19 : decode cX8_turned 19 = .ok (.iconst 3, 1) := by decide +kernel
theorem dX8_turned_20 : decode cX8_turned 20 = .ok (.if_icmp .ne 44, 3) := by decide +kernel
theorem dX8_turned_23 : decode cX8_turned 23 = .ok (.aload_n 0, 1) := by decide +kernel
theorem dX8_turned_24 : decode cX8_turned 24 = .ok (.iload_n 1, 1) := by decide +kernel
theorem dX8_turned_25 : decode cX8_turned 25 = .ok (.iconst 2, 1) := by decide +kernel
theorem dX8_turned_26 : decode cX8_turned 26 = .ok (.irem, 1) := by decide +kernel
theorem dX8_turned_27 : decode cX8_turned 27 = .ok (.ifCond .ne 16, 3) := by decide +kernel
theorem dX8_turned_30 : decode cX8_turned 30 = .ok (.iload_n 3, 1) := by decide +kernel
theorem dX8_turned_31 : decode cX8_turned 31 = .ok (.iload_n 1, 1) := by decide +kernel
theorem dX8_turned_32 : decode cX8_turned 32 = .ok (.iconst 2, 1) := by decide +kernel
theorem dX8_turned_33 : decode cX8_turned 33 = .ok (.idiv, 1) := by decide +kernel
theorem dX8_turned_34 : decode cX8_turned 34 = .ok (.iadd, 1) := by decide +kernel
theorem dX8_turned_35 : decode cX8_turned 35 = .ok (.aload_n 0, 1) := by decide +kernel
theorem dX8_turned_36 : decode cX8_turned 36 = .ok (.getfield 44, 3) := by decide +kernel
theorem dX8_turned_39 : decode cX8_turned 39 = .ok (.irem, 1) := by decide +kernel
theorem dX8_turned_40 : decode cX8_turned 40 = .ok (.goto 18, 3) := by decide +kernel
theorem dX8_turned_43 : decode cX8_turned 43 = .ok (.iload_n 1, 1) := by decide +kernel
theorem dX8_turned_44 : decode cX8_turned 44 = .ok (.iconst 2, 1) := by decide +kernel
theorem dX8_turned_45 : decode cX8_turned 45 = .ok (.idiv, 1) := by decide +kernel
theorem dX8_turned_46 : decode cX8_turned 46 = .ok (.iload_n 3, 1) := by decide +kernel
theorem dX8_turned_47 : decode cX8_turned 47 = .ok (.isub, 1) := by decide +kernel
theorem dX8_turned_48 : decode cX8_turned 48 = .ok (.aload_n 0, 1) := by decide +kernel
theorem dX8_turned_49 : decode cX8_turned 49 = .ok (.getfield 44, 3) := by decide +kernel
theorem dX8_turned_52 : decode cX8_turned 52 = .ok (.iadd, 1) := by decide +kernel
theorem dX8_turned_53 : decode cX8_turned 53 = .ok (.aload_n 0, 1) := by decide +kernel
theorem dX8_turned_54 : decode cX8_turned 54 = .ok (.getfield 44, 3) := by decide +kernel
theorem dX8_turned_57 : decode cX8_turned 57 = .ok (.irem, 1) := by decide +kernel
theorem dX8_turned_58 : decode cX8_turned 58 = .ok (.iload 4, 2) := by decide +kernel
theorem dX8_turned_60 : decode cX8_turned 60 = .ok (.invokevirtual 61, 3) := by decide +kernel
theorem dX8_turned_63 : decode cX8_turned 63 = .ok (.ireturn, 1) := by decide +kernel
theorem dX8_turned_64 : decode cX8_turned 64 = .ok (.iload_n 1, 1) := by decide +kernel
theorem dX8_turned_65 : decode cX8_turned 65 = .ok (.iconst 4, 1) := by decide +kernel
theorem dX8_turned_66 : decode cX8_turned 66 = .ok (.if_icmp .ge 7, 3) := by decide +kernel
theorem dX8_turned_69 : decode cX8_turned 69 = .ok (.iload_n 3, 1) := by decide +kernel
theorem dX8_turned_70 : decode cX8_turned 70 = .ok (.goto 5, 3) := by decide +kernel
theorem dX8_turned_73 : decode cX8_turned 73 = .ok (.iload 4, 2) := by decide +kernel
theorem dX8_turned_75 : decode cX8_turned 75 = .ok (.istore 5, 2) := by decide +kernel
theorem dX8_turned_77 : decode cX8_turned 77 = .ok (.iload_n 1, 1) := by decide +kernel
theorem dX8_turned_78 : decode cX8_turned 78 = .ok (.iconst 4, 1) := by decide +kernel
theorem dX8_turned_79 : decode cX8_turned 79 = .ok (.if_icmp .ge 8, 3) := by decide +kernel
theorem dX8_turned_82 : decode cX8_turned 82 = .ok (.iload 4, 2) := by decide +kernel
theorem dX8_turned_84 : decode cX8_turned 84 = .ok (.goto 4, 3) := by decide +kernel
theorem dX8_turned_87 : decode cX8_turned 87 = .ok (.iload_n 3, 1) := by decide +kernel
theorem dX8_turned_88 : decode cX8_turned 88 = .ok (.istore 6, 2) := by decide +kernel
theorem dX8_turned_90 : decode cX8_turned 90 = .ok (.iload_n 1, 1) := by decide +kernel
theorem dX8_turned_91 : decode cX8_turned 91 = .ok (.iconst 2, 1) := by decide +kernel
theorem dX8_turned_92 : decode cX8_turned 92 = .ok (.irem, 1) := by decide +kernel
theorem dX8_turned_93 : decode cX8_turned 93 = .ok (.iconst 1, 1) := by decide +kernel
theorem dX8_turned_94 : decode cX8_turned 94 = .ok (.if_icmp .ne 7, 3) := by decide +kernel
theorem dX8_turned_97 : decode cX8_turned 97 = .ok (.iconst 1, 1) := by decide +kernel
theorem dX8_turned_98 : decode cX8_turned 98 = .ok (.goto 4, 3) := by decide +kernel
theorem dX8_turned_101 : decode cX8_turned 101 = .ok (.iconst 0, 1) := by decide +kernel
theorem dX8_turned_102 : decode cX8_turned 102 = .ok (.istore 7, 2) := by decide +kernel
theorem dX8_turned_104 : decode cX8_turned 104 = .ok (.iload_n 1, 1) := by decide +kernel
theorem dX8_turned_105 : decode cX8_turned 105 = .ok (.iconst 4, 1) := by decide +kernel
theorem dX8_turned_106 : decode cX8_turned 106 = .ok (.irem, 1) := by decide +kernel
theorem dX8_turned_107 : decode cX8_turned 107 = .ok (.iconst 1, 1) := by decide +kernel
theorem dX8_turned_108 : decode cX8_turned 108 = .ok (.if_icmp .le 7, 3) := by decide +kernel
theorem dX8_turned_111 : decode cX8_turned 111 = .ok (.iconst 1, 1) := by decide +kernel
theorem dX8_turned_112 : decode cX8_turned 112 = .ok (.goto 4, 3) := by decide +kernel
theorem dX8_turned_115 : decode cX8_turned 115 = .ok (.iconst 0, 1) := by decide +kernel
theorem dX8_turned_116 : decode cX8_turned 116 = .ok (.istore 8, 2) := by decide +kernel
theorem dX8_turned_118 : decode cX8_turned 118 = .ok (.aload_n 0, 1) := by decide +kernel
theorem dX8_turned_119 : decode cX8_turned 119 = .ok (.iload 7, 2) := by decide +kernel
theorem dX8_turned_121 : decode cX8_turned 121 = .ok (.ifCond .eq 15, 3) := by decide +kernel
theorem dX8_turned_124 : decode cX8_turned 124 = .ok (.aload_n 0, 1) := by decide +kernel
theorem dX8_turned_125 : decode cX8_turned 125 = .ok (.getfield 44, 3) := by decide +kernel
theorem dX8_turned_128 : decode cX8_turned 128 = .ok (.iconst 1, 1) := by decide +kernel
theorem dX8_turned_129 : decode cX8_turned 129 = .ok (.isub, 1) := by decide +kernel
theorem dX8_turned_130 : decode cX8_turned 130 = .ok (.iload 5, 2) := by decide +kernel
theorem dX8_turned_132 : decode cX8_turned 132 = .ok (.isub, 1) := by decide +kernel
theorem dX8_turned_133 : decode cX8_turned 133 = .ok (.goto 5, 3) := by decide +kernel
theorem dX8_turned_136 : decode cX8_turned 136 = .ok (.iload 5, 2) := by decide +kernel
theorem dX8_turned_138 : decode cX8_turned 138 = .ok (.iload 8, 2) := by decide +kernel
theorem dX8_turned_140 : decode cX8_turned 140 = .ok (.ifCond .eq 15, 3) := by decide +kernel
end
section
theorem dX8_turned_143 : decode cX8_turned 143 = .ok (.aload_n 0, 1) := by decide +kernel
theorem dX8_turned_144 : decode cX8_turned 144 = .ok (.getfield 47, 3) := by decide +kernel
theorem dX8_turned_147 : decode cX8_turned 147 = .ok (.iconst 1, 1) := by decide +kernel
theorem dX8_turned_148 : decode cX8_turned 148 = .ok (.isub, 1) := by decide +kernel
theorem dX8_turned_149 : decode cX8_turned 149 = .ok (.iload 6, 2) := by decide +kernel
theorem dX8_turned_151 : decode cX8_turned 151 = .ok (.isub, 1) := by decide +kernel
theorem dX8_turned_152 : decode cX8_turned 152 = .ok (.goto 5, 3) := by decide +kernel
theorem dX8_turned_155 : decode cX8_turned 155 = .ok (.iload 6, 2) := by decide +kernel
theorem dX8_turned_157 : decode cX8_turned 157 = .ok (.invokevirtual 61, 3) := by decide +kernel
theorem dX8_turned_160 : decode cX8_turned 160 = .ok (.ireturn, 1) := by decide +kernel
theorem dX8_image_0 : decode cX8_image 0 = .ok (.aload_n 0, 1) := by decide +kernel
theorem dX8_image_1 : decode cX8_image 1 = .ok (.aload_n 0, 1) := by decide +kernel
theorem dX8_image_2 : decode cX8_image 2 = .ok (.iload_n 2, 1) := by decide +kernel
theorem dX8_image_3 : decode cX8_image 3 = .ok (.invokevirtual 70, 3) := by decide +kernel
theorem dX8_image_6 : decode cX8_image 6 = .ok (.ifCond .ne 7, 3) := by decide +kernel
theorem dX8_image_9 : decode cX8_image 9 = .ok (.iconst 1, 1) := by decide +kernel
theorem dX8_image_10 : decode cX8_image 10 = .ok (.goto 4, 3) := by decide +kernel
theorem dX8_image_13 : decode cX8_image 13 = .ok (.iconst 0, 1) := by decide +kernel
theorem dX8_image_14 : decode cX8_image 14 = .ok (.invokevirtual 74, 3) := by decide +kernel
theorem dX8_image_17 : decode cX8_image 17 = .ok (.ifCond .eq 5, 3) := by decide +kernel
theorem dX8_image_20 : decode cX8_image 20 = .ok (.iconst 0, 1) := by decide +kernel
theorem dX8_image_21 : decode cX8_image 21 = .ok (.ireturn, 1) := by decide +kernel
theorem dX8_image_22 : decode cX8_image 22 = .ok (.aload_n 0, 1) := by decide +kernel
theorem dX8_image_23 : decode cX8_image 23 = .ok (.iload_n 1, 1) := by decide +kernel
theorem dX8_image_24 : decode cX8_image 24 = .ok (.invokevirtual 95, 3) := by decide +kernel
theorem dX8_image_27 : decode cX8_image 27 = .ok (.ifCond .eq 12, 3) := by decide +kernel
theorem dX8_image_30 : decode cX8_image 30 = .ok (.aload_n 0, 1) := by decide +kernel
theorem dX8_image_31 : decode cX8_image 31 = .ok (.iload_n 1, 1) := by decide +kernel
theorem dX8_image_32 : decode cX8_image 32 = .ok (.iload_n 2, 1) := by decide +kernel
theorem dX8_image_33 : decode cX8_image 33 = .ok (.invokevirtual 98, 3) := by decide +kernel
theorem dX8_image_36 : decode cX8_image 36 = .ok (.goto 4, 3) := by decide +kernel
theorem dX8_image_39 : decode cX8_image 39 = .ok (.iconst (-1), 1) := by decide +kernel
theorem dX8_image_40 : decode cX8_image 40 = .ok (.ireturn, 1) := by decide +kernel
theorem dX8_isKept_0 : decode cX8_isKept 0 = .ok (.iconst 0, 1) := by decide +kernel
theorem dX8_isKept_1 : decode cX8_isKept 1 = .ok (.istore_n 2, 1) := by decide +kernel
theorem dX8_isKept_2 : decode cX8_isKept 2 = .ok (.iload_n 2, 1) := by decide +kernel
theorem dX8_isKept_3 : decode cX8_isKept 3 = .ok (.aload_n 0, 1) := by decide +kernel
theorem dX8_isKept_4 : decode cX8_isKept 4 = .ok (.invokevirtual 50, 3) := by decide +kernel
theorem dX8_isKept_7 : decode cX8_isKept 7 = .ok (.if_icmp .ge 120, 3) := by decide +kernel
theorem dX8_isKept_10 : decode cX8_isKept 10 = .ok (.aload_n 0, 1) := by decide +kernel
theorem dX8_isKept_11 : decode cX8_isKept 11 = .ok (.iload_n 1, 1) := by decide +kernel
theorem dX8_isKept_12 : decode cX8_isKept 12 = .ok (.iload_n 2, 1) := by decide +kernel
theorem dX8_isKept_13 : decode cX8_isKept 13 = .ok (.invokevirtual 98, 3) := by decide +kernel
theorem dX8_isKept_16 : decode cX8_isKept 16 = .ok (.istore_n 3, 1) := by decide +kernel
theorem dX8_isKept_17 : decode cX8_isKept 17 = .ok (.aload_n 0, 1) := by decide +kernel
theorem dX8_isKept_18 : decode cX8_isKept 18 = .ok (.getfield 21, 3) := by decide +kernel
theorem dX8_isKept_21 : decode cX8_isKept 21 = .ok (.iload_n 2, 1) := by decide +kernel
theorem dX8_isKept_22 : decode cX8_isKept 22 = .ok (.iaload, 1) := by decide +kernel
theorem dX8_isKept_23 : decode cX8_isKept 23 = .ok (.aload_n 0, 1) := by decide +kernel
theorem dX8_isKept_24 : decode cX8_isKept 24 = .ok (.getfield 21, 3) := by decide +kernel
theorem dX8_isKept_27 : decode cX8_isKept 27 = .ok (.iload_n 3, 1) := by decide +kernel
theorem dX8_isKept_28 : decode cX8_isKept 28 = .ok (.iaload, 1) := by decide +kernel
theorem dX8_isKept_29 : decode cX8_isKept 29 = .ok (.if_icmp .eq 5, 3) := by decide +kernel
theorem dX8_isKept_32 : decode cX8_isKept 32 = .ok (.iconst 0, 1) := by decide +kernel
theorem dX8_isKept_33 : decode cX8_isKept 33 = .ok (.ireturn, 1) := by decide +kernel
theorem dX8_isKept_34 : decode cX8_isKept 34 = .ok (.iconst 0, 1) := by decide +kernel
theorem dX8_isKept_35 : decode cX8_isKept 35 = .ok (.istore 4, 2) := by decide +kernel
theorem dX8_isKept_37 : decode cX8_isKept 37 = .ok (.iload 4, 2) := by decide +kernel
theorem dX8_isKept_39 : decode cX8_isKept 39 = .ok (.aload_n 0, 1) := by decide +kernel
theorem dX8_isKept_40 : decode cX8_isKept 40 = .ok (.invokevirtual 50, 3) := by decide +kernel
theorem dX8_isKept_43 : decode cX8_isKept 43 = .ok (.if_icmp .ge 78, 3) := by decide +kernel
theorem dX8_isKept_46 : decode cX8_isKept 46 = .ok (.aload_n 0, 1) := by decide +kernel
theorem dX8_isKept_47 : decode cX8_isKept 47 = .ok (.iload_n 1, 1) := by decide +kernel
theorem dX8_isKept_48 : decode cX8_isKept 48 = .ok (.iload 4, 2) := by decide +kernel
theorem dX8_isKept_50 : decode cX8_isKept 50 = .ok (.invokevirtual 98, 3) := by decide +kernel
theorem dX8_isKept_53 : decode cX8_isKept 53 = .ok (.istore 5, 2) := by decide +kernel
theorem dX8_isKept_55 : decode cX8_isKept 55 = .ok (.aload_n 0, 1) := by decide +kernel
theorem dX8_isKept_56 : decode cX8_isKept 56 = .ok (.getfield 8, 3) := by decide +kernel
theorem dX8_isKept_59 : decode cX8_isKept 59 = .ok (.sipush 256, 3) := by decide +kernel
theorem dX8_isKept_62 : decode cX8_isKept 62 = .ok (.iload_n 2, 1) := by decide +kernel
theorem dX8_isKept_63 : decode cX8_isKept 63 = .ok (.imul, 1) := by decide +kernel
theorem dX8_isKept_64 : decode cX8_isKept 64 = .ok (.iload 4, 2) := by decide +kernel
theorem dX8_isKept_66 : decode cX8_isKept 66 = .ok (.iadd, 1) := by decide +kernel
theorem dX8_isKept_67 : decode cX8_isKept 67 = .ok (.baload, 1) := by decide +kernel
theorem dX8_isKept_68 : decode cX8_isKept 68 = .ok (.aload_n 0, 1) := by decide +kernel
theorem dX8_isKept_69 : decode cX8_isKept 69 = .ok (.getfield 8, 3) := by decide +kernel
theorem dX8_isKept_72 : decode cX8_isKept 72 = .ok (.sipush 256, 3) := by decide +kernel
theorem dX8_isKept_75 : decode cX8_isKept 75 = .ok (.iload_n 3, 1) := by decide +kernel
theorem dX8_isKept_76 : decode cX8_isKept 76 = .ok (.imul, 1) := by decide +kernel
theorem dX8_isKept_77 : decode cX8_isKept 77 = .ok (.iload 5, 2) := by decide +kernel
theorem dX8_isKept_79 : decode cX8_isKept 79 = .ok (.iadd, 1) := by decide +kernel
theorem dX8_isKept_80 : decode cX8_isKept 80 = .ok (.baload, 1) := by decide +kernel
theorem dX8_isKept_81 : decode cX8_isKept 81 = .ok (.if_icmp .ne 32, 3) := by decide +kernel
theorem dX8_isKept_84 : decode cX8_isKept 84 = .ok (.aload_n 0, 1) := by decide +kernel
theorem dX8_isKept_85 : decode cX8_isKept 85 = .ok (.getfield 14, 3) := by decide +kernel
theorem dX8_isKept_88 : decode cX8_isKept 88 = .ok (.sipush 256, 3) := by decide +kernel
theorem dX8_isKept_91 : decode cX8_isKept 91 = .ok (.iload_n 2, 1) := by decide +kernel
theorem dX8_isKept_92 : decode cX8_isKept 92 = .ok (.imul, 1) := by decide +kernel
theorem dX8_isKept_93 : decode cX8_isKept 93 = .ok (.iload 4, 2) := by decide +kernel
theorem dX8_isKept_95 : decode cX8_isKept 95 = .ok (.iadd, 1) := by decide +kernel
theorem dX8_isKept_96 : decode cX8_isKept 96 = .ok (.baload, 1) := by decide +kernel
theorem dX8_isKept_97 : decode cX8_isKept 97 = .ok (.aload_n 0, 1) := by decide +kernel
theorem dX8_isKept_98 : decode cX8_isKept 98 = .ok (.getfield 14, 3) := by decide +kernel
theorem dX8_isKept_101 : decode cX8_isKept 101 = .ok (.sipush 256, 3) := by decide +kernel
theorem dX8_isKept_104 : decode cX8_isKept 104 = .ok (.iload_n 3, 1) := by decide +kernel
theorem dX8_isKept_105 : decode cX8_isKept 105 = .ok (.imul, 1) := by decide +kernel
theorem dX8_isKept_106 : decode cX8_isKept 106 = .ok (.iload 5, 2) := by decide +kernel
theorem dX8_isKept_108 : decode cX8_isKept 108 = .ok (.iadd, 1) := by decide +kernel
theorem dX8_isKept_109 : decode cX8_isKept 109 = .ok (.baload, 1) := by decide +kernel
theorem dX8_isKept_110 : decode cX8_isKept 110 = .ok (.if_icmp .eq 5, 3) := by decide +kernel
theorem dX8_isKept_113 : decode cX8_isKept 113 = .ok (.iconst 0, 1) := by decide +kernel
theorem dX8_isKept_114 : decode cX8_isKept 114 = .ok (.ireturn, 1) := by decide +kernel
theorem dX8_isKept_115 : decode cX8_isKept 115 = .ok (.iinc 4 1, 3) := by decide +kernel
theorem dX8_isKept_118 : decode cX8_isKept 118 = .ok (.goto (-81), 3) := by decide +kernel
theorem dX8_isKept_121 : decode cX8_isKept 121 = .ok (.iinc 2 1, 3) := by decide +kernel
theorem dX8_isKept_124 : decode cX8_isKept 124 = .ok (.goto (-122), 3) := by decide +kernel
theorem dX8_isKept_127 : decode cX8_isKept 127 = .ok (.iconst 1, 1) := by decide +kernel
theorem dX8_isKept_128 : decode cX8_isKept 128 = .ok (.ireturn, 1) := by decide +kernel
theorem dX8_keeps_0 : decode cX8_keeps 0 = .ok (.aload_n 0, 1) := by decide +kernel
theorem dX8_keeps_1 : decode cX8_keeps 1 = .ok (.iconst 0, 1) := by decide +kernel
theorem dX8_keeps_2 : decode cX8_keeps 2 = .ok (.putfield 58, 3) := by decide +kernel
theorem dX8_keeps_5 : decode cX8_keeps 5 = .ok (.aload_n 0, 1) := by decide +kernel
theorem dX8_keeps_6 : decode cX8_keeps 6 = .ok (.iload_n 1, 1) := by decide +kernel
theorem dX8_keeps_7 : decode cX8_keeps 7 = .ok (.invokevirtual 95, 3) := by decide +kernel
theorem dX8_keeps_10 : decode cX8_keeps 10 = .ok (.ifCond .eq 15, 3) := by decide +kernel
theorem dX8_keeps_13 : decode cX8_keeps 13 = .ok (.aload_n 0, 1) := by decide +kernel
theorem dX8_keeps_14 : decode cX8_keeps 14 = .ok (.iload_n 1, 1) := by decide +kernel
theorem dX8_keeps_15 : decode cX8_keeps 15 = .ok (.invokevirtual 101, 3) := by decide +kernel
theorem dX8_keeps_18 : decode cX8_keeps 18 = .ok (.ifCond .eq 7, 3) := by decide +kernel
theorem dX8_keeps_21 : decode cX8_keeps 21 = .ok (.iconst 1, 1) := by decide +kernel
theorem dX8_keeps_22 : decode cX8_keeps 22 = .ok (.goto 4, 3) := by decide +kernel
theorem dX8_keeps_25 : decode cX8_keeps 25 = .ok (.iconst 0, 1) := by decide +kernel
theorem dX8_keeps_26 : decode cX8_keeps 26 = .ok (.ireturn, 1) := by decide +kernel
theorem dX8_keeping_0 : decode cX8_keeping 0 = .ok (.aload_n 0, 1) := by decide +kernel
theorem dX8_keeping_1 : decode cX8_keeping 1 = .ok (.iconst 0, 1) := by decide +kernel
theorem dX8_keeping_2 : decode cX8_keeping 2 = .ok (.putfield 58, 3) := by decide +kernel
theorem dX8_keeping_5 : decode cX8_keeping 5 = .ok (.iconst 0, 1) := by decide +kernel
theorem dX8_keeping_6 : decode cX8_keeping 6 = .ok (.istore_n 1, 1) := by decide +kernel
theorem dX8_keeping_7 : decode cX8_keeping 7 = .ok (.iconst 0, 1) := by decide +kernel
theorem dX8_keeping_8 : decode cX8_keeping 8 = .ok (.istore_n 2, 1) := by decide +kernel
theorem dX8_keeping_9 : decode cX8_keeping 9 = .ok (.aload_n 0, 1) := by decide +kernel
theorem dX8_keeping_10 : decode cX8_keeping 10 = .ok (.iload_n 2, 1) := by decide +kernel
theorem dX8_keeping_11 : decode cX8_keeping 11 = .ok (.invokevirtual 95, 3) := by decide +kernel
theorem dX8_keeping_14 : decode cX8_keeping 14 = .ok (.ifCond .eq 25, 3) := by decide +kernel
theorem dX8_keeping_17 : decode cX8_keeping 17 = .ok (.iload_n 1, 1) := by decide +kernel
theorem dX8_keeping_18 : decode cX8_keeping 18 = .ok (.aload_n 0, 1) := by decide +kernel
theorem dX8_keeping_19 : decode cX8_keeping 19 = .ok (.iload_n 2, 1) := by decide +kernel
theorem dX8_keeping_20 : decode cX8_keeping 20 = .ok (.invokevirtual 101, 3) := by decide +kernel
theorem dX8_keeping_23 : decode cX8_keeping 23 = .ok (.ifCond .eq 7, 3) := by decide +kernel
theorem dX8_keeping_26 : decode cX8_keeping 26 = .ok (.iconst 1, 1) := by decide +kernel
theorem dX8_keeping_27 : decode cX8_keeping 27 = .ok (.goto 4, 3) := by decide +kernel
theorem dX8_keeping_30 : decode cX8_keeping 30 = .ok (.iconst 0, 1) := by decide +kernel
theorem dX8_keeping_31 : decode cX8_keeping 31 = .ok (.iadd, 1) := by decide +kernel
theorem dX8_keeping_32 : decode cX8_keeping 32 = .ok (.istore_n 1, 1) := by decide +kernel
theorem dX8_keeping_33 : decode cX8_keeping 33 = .ok (.iinc 2 1, 3) := by decide +kernel
theorem dX8_keeping_36 : decode cX8_keeping 36 = .ok (.goto (-27), 3) := by decide +kernel
theorem dX8_keeping_39 : decode cX8_keeping 39 = .ok (.iload_n 1, 1) := by decide +kernel
theorem dX8_keeping_40 : decode cX8_keeping 40 = .ok (.ireturn, 1) := by decide +kernel
theorem dX8_say_0 : decode cX8_say 0 = .ok (.aload_n 0, 1) := by decide +kernel
theorem dX8_say_1 : decode cX8_say 1 = .ok (.getfield 104, 3) := by decide +kernel
theorem dX8_say_4 : decode cX8_say 4 = .ok (.aload_n 0, 1) := by decide +kernel
theorem dX8_say_5 : decode cX8_say 5 = .ok (.getfield 107, 3) := by decide +kernel
theorem dX8_say_8 : decode cX8_say 8 = .ok (.if_icmp .ne 8, 3) := by decide +kernel
theorem dX8_say_11 : decode cX8_say 11 = .ok (.aload_n 0, 1) := by decide +kernel
theorem dX8_say_12 : decode cX8_say 12 = .ok (.iload_n 1, 1) := by decide +kernel
theorem dX8_say_13 : decode cX8_say 13 = .ok (.putfield 110, 3) := by decide +kernel
theorem dX8_say_16 : decode cX8_say 16 = .ok (.aload_n 0, 1) := by decide +kernel
theorem dX8_say_17 : decode cX8_say 17 = .ok (.dup, 1) := by decide +kernel
theorem dX8_say_18 : decode cX8_say 18 = .ok (.getfield 104, 3) := by decide +kernel
theorem dX8_say_21 : decode cX8_say 21 = .ok (.iconst 1, 1) := by decide +kernel
theorem dX8_say_22 : decode cX8_say 22 = .ok (.iadd, 1) := by decide +kernel
theorem dX8_say_23 : decode cX8_say 23 = .ok (.putfield 104, 3) := by decide +kernel
theorem dX8_say_26 : decode cX8_say 26 = .ok (.return_, 1) := by decide +kernel
theorem dX8_text_0 : decode cX8_text 0 = .ok (.aload_n 0, 1) := by decide +kernel
theorem dX8_text_1 : decode cX8_text 1 = .ok (.iconst 0, 1) := by decide +kernel
theorem dX8_text_2 : decode cX8_text 2 = .ok (.putfield 58, 3) := by decide +kernel
theorem dX8_text_5 : decode cX8_text 5 = .ok (.aload_n 0, 1) := by decide +kernel
theorem dX8_text_6 : decode cX8_text 6 = .ok (.iconst 0, 1) := by decide +kernel
theorem dX8_text_7 : decode cX8_text 7 = .ok (.putfield 104, 3) := by decide +kernel
theorem dX8_text_10 : decode cX8_text 10 = .ok (.aload_n 0, 1) := by decide +kernel
theorem dX8_text_11 : decode cX8_text 11 = .ok (.iload_n 1, 1) := by decide +kernel
theorem dX8_text_12 : decode cX8_text 12 = .ok (.putfield 107, 3) := by decide +kernel
theorem dX8_text_15 : decode cX8_text 15 = .ok (.aload_n 0, 1) := by decide +kernel
theorem dX8_text_16 : decode cX8_text 16 = .ok (.iconst (-1), 1) := by decide +kernel
theorem dX8_text_17 : decode cX8_text 17 = .ok (.putfield 110, 3) := by decide +kernel
theorem dX8_text_20 : decode cX8_text 20 = .ok (.iconst 0, 1) := by decide +kernel
theorem dX8_text_21 : decode cX8_text 21 = .ok (.istore_n 2, 1) := by decide +kernel
theorem dX8_text_22 : decode cX8_text 22 = .ok (.iload_n 2, 1) := by decide +kernel
theorem dX8_text_23 : decode cX8_text 23 = .ok (.aload_n 0, 1) := by decide +kernel
theorem dX8_text_24 : decode cX8_text 24 = .ok (.invokevirtual 50, 3) := by decide +kernel
theorem dX8_text_27 : decode cX8_text 27 = .ok (.if_icmp .ge 162, 3) := by decide +kernel
theorem dX8_text_30 : decode cX8_text 30 = .ok (.iconst 0, 1) := by decide +kernel
theorem dX8_text_31 : decode cX8_text 31 = .ok (.istore_n 3, 1) := by decide +kernel
theorem dX8_text_32 : decode cX8_text 32 = .ok (.iload_n 2, 1) := by decide +kernel
theorem dX8_text_33 : decode cX8_text 33 = .ok (.iload_n 3, 1) := by decide +kernel
theorem dX8_text_34 : decode cX8_text 34 = .ok (.iadd, 1) := by decide +kernel
theorem dX8_text_35 : decode cX8_text 35 = .ok (.aload_n 0, 1) := by decide +kernel
theorem dX8_text_36 : decode cX8_text 36 = .ok (.invokevirtual 50, 3) := by decide +kernel
theorem dX8_text_39 : decode cX8_text 39 = .ok (.if_icmp .ge 20, 3) := by decide +kernel
theorem dX8_text_42 : decode cX8_text 42 = .ok (.aload_n 0, 1) := by decide +kernel
theorem dX8_text_43 : decode cX8_text 43 = .ok (.getfield 21, 3) := by decide +kernel
theorem dX8_text_46 : decode cX8_text 46 = .ok (.iload_n 2, 1) := by decide +kernel
theorem dX8_text_47 : decode cX8_text 47 = .ok (.iload_n 3, 1) := by decide +kernel
theorem dX8_text_48 : decode cX8_text 48 = .ok (.iadd, 1) := by decide +kernel
theorem dX8_text_49 : decode cX8_text 49 = .ok (.iaload, 1) := by decide +kernel
theorem dX8_text_50 : decode cX8_text 50 = .ok (.ifCond .ne 9, 3) := by decide +kernel
theorem dX8_text_53 : decode cX8_text 53 = .ok (.iinc 3 1, 3) := by decide +kernel
theorem dX8_text_56 : decode cX8_text 56 = .ok (.goto (-24), 3) := by decide +kernel
theorem dX8_text_59 : decode cX8_text 59 = .ok (.iload_n 3, 1) := by decide +kernel
theorem dX8_text_60 : decode cX8_text 60 = .ok (.istore 4, 2) := by decide +kernel
theorem dX8_text_62 : decode cX8_text 62 = .ok (.iload 4, 2) := by decide +kernel
theorem dX8_text_64 : decode cX8_text 64 = .ok (.ifCond .le 47, 3) := by decide +kernel
theorem dX8_text_67 : decode cX8_text 67 = .ok (.aload_n 0, 1) := by decide +kernel
theorem dX8_text_68 : decode cX8_text 68 = .ok (.iload 4, 2) := by decide +kernel
theorem dX8_text_70 : decode cX8_text 70 = .ok (.bipush 26, 2) := by decide +kernel
theorem dX8_text_72 : decode cX8_text 72 = .ok (.if_icmp .lt 8, 3) := by decide +kernel
theorem dX8_text_75 : decode cX8_text 75 = .ok (.bipush 122, 2) := by decide +kernel
theorem dX8_text_77 : decode cX8_text 77 = .ok (.goto 10, 3) := by decide +kernel
theorem dX8_text_80 : decode cX8_text 80 = .ok (.bipush 97, 2) := by decide +kernel
theorem dX8_text_82 : decode cX8_text 82 = .ok (.iload 4, 2) := by decide +kernel
theorem dX8_text_84 : decode cX8_text 84 = .ok (.iadd, 1) := by decide +kernel
theorem dX8_text_85 : decode cX8_text 85 = .ok (.iconst 1, 1) := by decide +kernel
theorem dX8_text_86 : decode cX8_text 86 = .ok (.isub, 1) := by decide +kernel
theorem dX8_text_87 : decode cX8_text 87 = .ok (.invokevirtual 113, 3) := by decide +kernel
theorem dX8_text_90 : decode cX8_text 90 = .ok (.iload 4, 2) := by decide +kernel
theorem dX8_text_92 : decode cX8_text 92 = .ok (.bipush 26, 2) := by decide +kernel
theorem dX8_text_94 : decode cX8_text 94 = .ok (.if_icmp .le 11, 3) := by decide +kernel
theorem dX8_text_97 : decode cX8_text 97 = .ok (.iload 4, 2) := by decide +kernel
theorem dX8_text_99 : decode cX8_text 99 = .ok (.bipush 26, 2) := by decide +kernel
theorem dX8_text_101 : decode cX8_text 101 = .ok (.isub, 1) := by decide +kernel
theorem dX8_text_102 : decode cX8_text 102 = .ok (.goto 4, 3) := by decide +kernel
theorem dX8_text_105 : decode cX8_text 105 = .ok (.iconst 0, 1) := by decide +kernel
theorem dX8_text_106 : decode cX8_text 106 = .ok (.istore 4, 2) := by decide +kernel
theorem dX8_text_108 : decode cX8_text 108 = .ok (.goto (-46), 3) := by decide +kernel
theorem dX8_text_111 : decode cX8_text 111 = .ok (.iload_n 2, 1) := by decide +kernel
theorem dX8_text_112 : decode cX8_text 112 = .ok (.iload_n 3, 1) := by decide +kernel
theorem dX8_text_113 : decode cX8_text 113 = .ok (.iadd, 1) := by decide +kernel
theorem dX8_text_114 : decode cX8_text 114 = .ok (.istore_n 2, 1) := by decide +kernel
theorem dX8_text_115 : decode cX8_text 115 = .ok (.iload_n 2, 1) := by decide +kernel
theorem dX8_text_116 : decode cX8_text 116 = .ok (.aload_n 0, 1) := by decide +kernel
theorem dX8_text_117 : decode cX8_text 117 = .ok (.invokevirtual 50, 3) := by decide +kernel
theorem dX8_text_120 : decode cX8_text 120 = .ok (.if_icmp .ne 6, 3) := by decide +kernel
theorem dX8_text_123 : decode cX8_text 123 = .ok (.goto 66, 3) := by decide +kernel
theorem dX8_text_126 : decode cX8_text 126 = .ok (.iload_n 2, 1) := by decide +kernel
theorem dX8_text_127 : decode cX8_text 127 = .ok (.ifCond .le 13, 3) := by decide +kernel
theorem dX8_text_130 : decode cX8_text 130 = .ok (.iload_n 3, 1) := by decide +kernel
theorem dX8_text_131 : decode cX8_text 131 = .ok (.ifCond .ne 9, 3) := by decide +kernel
theorem dX8_text_134 : decode cX8_text 134 = .ok (.aload_n 0, 1) := by decide +kernel
theorem dX8_text_135 : decode cX8_text 135 = .ok (.bipush 32, 2) := by decide +kernel
theorem dX8_text_137 : decode cX8_text 137 = .ok (.invokevirtual 113, 3) := by decide +kernel
theorem dX8_text_140 : decode cX8_text 140 = .ok (.aload_n 0, 1) := by decide +kernel
theorem dX8_text_141 : decode cX8_text 141 = .ok (.getfield 21, 3) := by decide +kernel
theorem dX8_text_144 : decode cX8_text 144 = .ok (.iload_n 2, 1) := by decide +kernel
theorem dX8_text_145 : decode cX8_text 145 = .ok (.iaload, 1) := by decide +kernel
theorem dX8_text_146 : decode cX8_text 146 = .ok (.bipush 9, 2) := by decide +kernel
theorem dX8_text_148 : decode cX8_text 148 = .ok (.if_icmp .le 19, 3) := by decide +kernel
theorem dX8_text_151 : decode cX8_text 151 = .ok (.aload_n 0, 1) := by decide +kernel
theorem dX8_text_152 : decode cX8_text 152 = .ok (.bipush 48, 2) := by decide +kernel
theorem dX8_text_154 : decode cX8_text 154 = .ok (.aload_n 0, 1) := by decide +kernel
theorem dX8_text_155 : decode cX8_text 155 = .ok (.getfield 21, 3) := by decide +kernel
theorem dX8_text_158 : decode cX8_text 158 = .ok (.iload_n 2, 1) := by decide +kernel
theorem dX8_text_159 : decode cX8_text 159 = .ok (.iaload, 1) := by decide +kernel
theorem dX8_text_160 : decode cX8_text 160 = .ok (.bipush 10, 2) := by decide +kernel
theorem dX8_text_162 : decode cX8_text 162 = .ok (.idiv, 1) := by decide +kernel
theorem dX8_text_163 : decode cX8_text 163 = .ok (.iadd, 1) := by decide +kernel
theorem dX8_text_164 : decode cX8_text 164 = .ok (.invokevirtual 113, 3) := by decide +kernel
theorem dX8_text_167 : decode cX8_text 167 = .ok (.aload_n 0, 1) := by decide +kernel
theorem dX8_text_168 : decode cX8_text 168 = .ok (.bipush 48, 2) := by decide +kernel
theorem dX8_text_170 : decode cX8_text 170 = .ok (.aload_n 0, 1) := by decide +kernel
theorem dX8_text_171 : decode cX8_text 171 = .ok (.getfield 21, 3) := by decide +kernel
theorem dX8_text_174 : decode cX8_text 174 = .ok (.iload_n 2, 1) := by decide +kernel
theorem dX8_text_175 : decode cX8_text 175 = .ok (.iaload, 1) := by decide +kernel
theorem dX8_text_176 : decode cX8_text 176 = .ok (.bipush 10, 2) := by decide +kernel
theorem dX8_text_178 : decode cX8_text 178 = .ok (.irem, 1) := by decide +kernel
theorem dX8_text_179 : decode cX8_text 179 = .ok (.iadd, 1) := by decide +kernel
theorem dX8_text_180 : decode cX8_text 180 = .ok (.invokevirtual 113, 3) := by decide +kernel
theorem dX8_text_183 : decode cX8_text 183 = .ok (.iinc 2 1, 3) := by decide +kernel
theorem dX8_text_186 : decode cX8_text 186 = .ok (.goto (-164), 3) := by decide +kernel
theorem dX8_text_189 : decode cX8_text 189 = .ok (.aload_n 0, 1) := by decide +kernel
theorem dX8_text_190 : decode cX8_text 190 = .ok (.getfield 110, 3) := by decide +kernel
theorem dX8_text_193 : decode cX8_text 193 = .ok (.ireturn, 1) := by decide +kernel
theorem dX8_unit_0 : decode cX8_unit 0 = .ok (.aload_n 0, 1) := by decide +kernel
theorem dX8_unit_1 : decode cX8_unit 1 = .ok (.iconst 0, 1) := by decide +kernel
theorem dX8_unit_2 : decode cX8_unit 2 = .ok (.putfield 58, 3) := by decide +kernel
theorem dX8_unit_5 : decode cX8_unit 5 = .ok (.iload_n 1, 1) := by decide +kernel
theorem dX8_unit_6 : decode cX8_unit 6 = .ok (.ifCond .lt 20, 3) := by decide +kernel
theorem dX8_unit_9 : decode cX8_unit 9 = .ok (.iload_n 1, 1) := by decide +kernel
theorem dX8_unit_10 : decode cX8_unit 10 = .ok (.sipush 255, 3) := by decide +kernel
theorem dX8_unit_13 : decode cX8_unit 13 = .ok (.if_icmp .gt 13, 3) := by decide +kernel
theorem dX8_unit_16 : decode cX8_unit 16 = .ok (.aload_n 0, 1) := by decide +kernel
theorem dX8_unit_17 : decode cX8_unit 17 = .ok (.getfield 116, 3) := by decide +kernel
theorem dX8_unit_20 : decode cX8_unit 20 = .ok (.sipush 1200, 3) := by decide +kernel
theorem dX8_unit_23 : decode cX8_unit 23 = .ok (.if_icmp .ne 5, 3) := by decide +kernel
theorem dX8_unit_26 : decode cX8_unit 26 = .ok (.iconst 0, 1) := by decide +kernel
theorem dX8_unit_27 : decode cX8_unit 27 = .ok (.ireturn, 1) := by decide +kernel
theorem dX8_unit_28 : decode cX8_unit 28 = .ok (.aload_n 0, 1) := by decide +kernel
theorem dX8_unit_29 : decode cX8_unit 29 = .ok (.getfield 30, 3) := by decide +kernel
theorem dX8_unit_32 : decode cX8_unit 32 = .ok (.aload_n 0, 1) := by decide +kernel
theorem dX8_unit_33 : decode cX8_unit 33 = .ok (.getfield 116, 3) := by decide +kernel
theorem dX8_unit_36 : decode cX8_unit 36 = .ok (.iload_n 1, 1) := by decide +kernel
theorem dX8_unit_37 : decode cX8_unit 37 = .ok (.iastore, 1) := by decide +kernel
theorem dX8_unit_38 : decode cX8_unit 38 = .ok (.aload_n 0, 1) := by decide +kernel
theorem dX8_unit_39 : decode cX8_unit 39 = .ok (.dup, 1) := by decide +kernel
theorem dX8_unit_40 : decode cX8_unit 40 = .ok (.getfield 116, 3) := by decide +kernel
theorem dX8_unit_43 : decode cX8_unit 43 = .ok (.iconst 1, 1) := by decide +kernel
theorem dX8_unit_44 : decode cX8_unit 44 = .ok (.iadd, 1) := by decide +kernel
theorem dX8_unit_45 : decode cX8_unit 45 = .ok (.putfield 116, 3) := by decide +kernel
theorem dX8_unit_48 : decode cX8_unit 48 = .ok (.iconst 1, 1) := by decide +kernel
theorem dX8_unit_49 : decode cX8_unit 49 = .ok (.ireturn, 1) := by decide +kernel
theorem dX8_isDigit_0 : decode cX8_isDigit 0 = .ok (.iload_n 1, 1) := by decide +kernel
theorem dX8_isDigit_1 : decode cX8_isDigit 1 = .ok (.ifCond .lt 37, 3) := by decide +kernel
theorem dX8_isDigit_4 : decode cX8_isDigit 4 = .ok (.iload_n 1, 1) := by decide +kernel
theorem dX8_isDigit_5 : decode cX8_isDigit 5 = .ok (.aload_n 0, 1) := by decide +kernel
theorem dX8_isDigit_6 : decode cX8_isDigit 6 = .ok (.getfield 116, 3) := by decide +kernel
theorem dX8_isDigit_9 : decode cX8_isDigit 9 = .ok (.if_icmp .ge 29, 3) := by decide +kernel
theorem dX8_isDigit_12 : decode cX8_isDigit 12 = .ok (.aload_n 0, 1) := by decide +kernel
theorem dX8_isDigit_13 : decode cX8_isDigit 13 = .ok (.getfield 30, 3) := by decide +kernel
theorem dX8_isDigit_16 : decode cX8_isDigit 16 = .ok (.iload_n 1, 1) := by decide +kernel
theorem dX8_isDigit_17 : decode cX8_isDigit 17 = .ok (.iaload, 1) := by decide +kernel
theorem dX8_isDigit_18 : decode cX8_isDigit 18 = .ok (.bipush 48, 2) := by decide +kernel
theorem dX8_isDigit_20 : decode cX8_isDigit 20 = .ok (.if_icmp .lt 18, 3) := by decide +kernel
theorem dX8_isDigit_23 : decode cX8_isDigit 23 = .ok (.aload_n 0, 1) := by decide +kernel
theorem dX8_isDigit_24 : decode cX8_isDigit 24 = .ok (.getfield 30, 3) := by decide +kernel
theorem dX8_isDigit_27 : decode cX8_isDigit 27 = .ok (.iload_n 1, 1) := by decide +kernel
theorem dX8_isDigit_28 : decode cX8_isDigit 28 = .ok (.iaload, 1) := by decide +kernel
theorem dX8_isDigit_29 : decode cX8_isDigit 29 = .ok (.bipush 57, 2) := by decide +kernel
theorem dX8_isDigit_31 : decode cX8_isDigit 31 = .ok (.if_icmp .gt 7, 3) := by decide +kernel
theorem dX8_isDigit_34 : decode cX8_isDigit 34 = .ok (.iconst 1, 1) := by decide +kernel
theorem dX8_isDigit_35 : decode cX8_isDigit 35 = .ok (.goto 4, 3) := by decide +kernel
theorem dX8_isDigit_38 : decode cX8_isDigit 38 = .ok (.iconst 0, 1) := by decide +kernel
theorem dX8_isDigit_39 : decode cX8_isDigit 39 = .ok (.ireturn, 1) := by decide +kernel
theorem dX8_read_0 : decode cX8_read 0 = .ok (.aload_n 0, 1) := by decide +kernel
theorem dX8_read_1 : decode cX8_read 1 = .ok (.iconst 0, 1) := by decide +kernel
theorem dX8_read_2 : decode cX8_read 2 = .ok (.putfield 58, 3) := by decide +kernel
theorem dX8_read_5 : decode cX8_read 5 = .ok (.iconst 0, 1) := by decide +kernel
theorem dX8_read_6 : decode cX8_read 6 = .ok (.istore_n 1, 1) := by decide +kernel
theorem dX8_read_7 : decode cX8_read 7 = .ok (.iconst (-1), 1) := by decide +kernel
theorem dX8_read_8 : decode cX8_read 8 = .ok (.istore_n 2, 1) := by decide +kernel
theorem dX8_read_9 : decode cX8_read 9 = .ok (.iconst 0, 1) := by decide +kernel
theorem dX8_read_10 : decode cX8_read 10 = .ok (.istore_n 3, 1) := by decide +kernel
theorem dX8_read_11 : decode cX8_read 11 = .ok (.iload_n 3, 1) := by decide +kernel
theorem dX8_read_12 : decode cX8_read 12 = .ok (.aload_n 0, 1) := by decide +kernel
theorem dX8_read_13 : decode cX8_read 13 = .ok (.getfield 116, 3) := by decide +kernel
theorem dX8_read_16 : decode cX8_read 16 = .ok (.if_icmp .ge 265, 3) := by decide +kernel
theorem dX8_read_19 : decode cX8_read 19 = .ok (.iload_n 2, 1) := by decide +kernel
theorem dX8_read_20 : decode cX8_read 20 = .ok (.ifCond .ge 261, 3) := by decide +kernel
theorem dX8_read_23 : decode cX8_read 23 = .ok (.aload_n 0, 1) := by decide +kernel
theorem dX8_read_24 : decode cX8_read 24 = .ok (.getfield 30, 3) := by decide +kernel
theorem dX8_read_27 : decode cX8_read 27 = .ok (.iload_n 3, 1) := by decide +kernel
theorem dX8_read_28 : decode cX8_read 28 = .ok (.iaload, 1) := by decide +kernel
theorem dX8_read_29 : decode cX8_read 29 = .ok (.istore 4, 2) := by decide +kernel
theorem dX8_read_31 : decode cX8_read 31 = .ok (.aload_n 0, 1) := by decide +kernel
theorem dX8_read_32 : decode cX8_read 32 = .ok (.iload_n 3, 1) := by decide +kernel
theorem dX8_read_33 : decode cX8_read 33 = .ok (.invokevirtual 119, 3) := by decide +kernel
theorem dX8_read_36 : decode cX8_read 36 = .ok (.ifCond .eq 128, 3) := by decide +kernel
theorem dX8_read_39 : decode cX8_read 39 = .ok (.aload_n 0, 1) := by decide +kernel
theorem dX8_read_40 : decode cX8_read 40 = .ok (.iload_n 3, 1) := by decide +kernel
theorem dX8_read_41 : decode cX8_read 41 = .ok (.iconst 1, 1) := by decide +kernel
theorem dX8_read_42 : decode cX8_read 42 = .ok (.isub, 1) := by decide +kernel
theorem dX8_read_43 : decode cX8_read 43 = .ok (.invokevirtual 119, 3) := by decide +kernel
theorem dX8_read_46 : decode cX8_read 46 = .ok (.istore 5, 2) := by decide +kernel
theorem dX8_read_48 : decode cX8_read 48 = .ok (.iload 5, 2) := by decide +kernel
theorem dX8_read_50 : decode cX8_read 50 = .ok (.ifCond .eq 17, 3) := by decide +kernel
theorem dX8_read_53 : decode cX8_read 53 = .ok (.aload_n 0, 1) := by decide +kernel
theorem dX8_read_54 : decode cX8_read 54 = .ok (.iload_n 3, 1) := by decide +kernel
theorem dX8_read_55 : decode cX8_read 55 = .ok (.iconst 2, 1) := by decide +kernel
theorem dX8_read_56 : decode cX8_read 56 = .ok (.isub, 1) := by decide +kernel
theorem dX8_read_57 : decode cX8_read 57 = .ok (.invokevirtual 119, 3) := by decide +kernel
theorem dX8_read_60 : decode cX8_read 60 = .ok (.ifCond .eq 7, 3) := by decide +kernel
theorem dX8_read_63 : decode cX8_read 63 = .ok (.iconst 1, 1) := by decide +kernel
theorem dX8_read_64 : decode cX8_read 64 = .ok (.goto 4, 3) := by decide +kernel
theorem dX8_read_67 : decode cX8_read 67 = .ok (.iconst 0, 1) := by decide +kernel
theorem dX8_read_68 : decode cX8_read 68 = .ok (.istore 6, 2) := by decide +kernel
theorem dX8_read_70 : decode cX8_read 70 = .ok (.iload 6, 2) := by decide +kernel
theorem dX8_read_72 : decode cX8_read 72 = .ok (.ifCond .ne 23, 3) := by decide +kernel
theorem dX8_read_75 : decode cX8_read 75 = .ok (.iload 5, 2) := by decide +kernel
theorem dX8_read_77 : decode cX8_read 77 = .ok (.ifCond .ne 23, 3) := by decide +kernel
theorem dX8_read_80 : decode cX8_read 80 = .ok (.iload 4, 2) := by decide +kernel
theorem dX8_read_82 : decode cX8_read 82 = .ok (.bipush 48, 2) := by decide +kernel
theorem dX8_read_84 : decode cX8_read 84 = .ok (.if_icmp .eq 11, 3) := by decide +kernel
theorem dX8_read_87 : decode cX8_read 87 = .ok (.iload_n 1, 1) := by decide +kernel
theorem dX8_read_88 : decode cX8_read 88 = .ok (.aload_n 0, 1) := by decide +kernel
theorem dX8_read_89 : decode cX8_read 89 = .ok (.invokevirtual 50, 3) := by decide +kernel
theorem dX8_read_92 : decode cX8_read 92 = .ok (.if_icmp .ne 8, 3) := by decide +kernel
theorem dX8_read_95 : decode cX8_read 95 = .ok (.iload_n 3, 1) := by decide +kernel
theorem dX8_read_96 : decode cX8_read 96 = .ok (.istore_n 2, 1) := by decide +kernel
theorem dX8_read_97 : decode cX8_read 97 = .ok (.goto 47, 3) := by decide +kernel
theorem dX8_read_100 : decode cX8_read 100 = .ok (.iload 5, 2) := by decide +kernel
theorem dX8_read_102 : decode cX8_read 102 = .ok (.ifCond .eq 31, 3) := by decide +kernel
theorem dX8_read_105 : decode cX8_read 105 = .ok (.aload_n 0, 1) := by decide +kernel
theorem dX8_read_106 : decode cX8_read 106 = .ok (.getfield 33, 3) := by decide +kernel
theorem dX8_read_109 : decode cX8_read 109 = .ok (.iload_n 1, 1) := by decide +kernel
theorem dX8_read_110 : decode cX8_read 110 = .ok (.iconst 1, 1) := by decide +kernel
theorem dX8_read_111 : decode cX8_read 111 = .ok (.isub, 1) := by decide +kernel
theorem dX8_read_112 : decode cX8_read 112 = .ok (.bipush 10, 2) := by decide +kernel
theorem dX8_read_114 : decode cX8_read 114 = .ok (.aload_n 0, 1) := by decide +kernel
theorem dX8_read_115 : decode cX8_read 115 = .ok (.getfield 33, 3) := by decide +kernel
theorem dX8_read_118 : decode cX8_read 118 = .ok (.iload_n 1, 1) := by decide +kernel
theorem dX8_read_119 : decode cX8_read 119 = .ok (.iconst 1, 1) := by decide +kernel
theorem dX8_read_120 : decode cX8_read 120 = .ok (.isub, 1) := by decide +kernel
theorem dX8_read_121 : decode cX8_read 121 = .ok (.iaload, 1) := by decide +kernel
theorem dX8_read_122 : decode cX8_read 122 = .ok (.imul, 1) := by decide +kernel
theorem dX8_read_123 : decode cX8_read 123 = .ok (.iload 4, 2) := by decide +kernel
theorem dX8_read_125 : decode cX8_read 125 = .ok (.iadd, 1) := by decide +kernel
theorem dX8_read_126 : decode cX8_read 126 = .ok (.bipush 48, 2) := by decide +kernel
theorem dX8_read_128 : decode cX8_read 128 = .ok (.isub, 1) := by decide +kernel
theorem dX8_read_129 : decode cX8_read 129 = .ok (.iastore, 1) := by decide +kernel
theorem dX8_read_130 : decode cX8_read 130 = .ok (.goto 14, 3) := by decide +kernel
theorem dX8_read_133 : decode cX8_read 133 = .ok (.aload_n 0, 1) := by decide +kernel
theorem dX8_read_134 : decode cX8_read 134 = .ok (.getfield 33, 3) := by decide +kernel
theorem dX8_read_137 : decode cX8_read 137 = .ok (.iload_n 1, 1) := by decide +kernel
theorem dX8_read_138 : decode cX8_read 138 = .ok (.iload 4, 2) := by decide +kernel
theorem dX8_read_140 : decode cX8_read 140 = .ok (.bipush 48, 2) := by decide +kernel
theorem dX8_read_142 : decode cX8_read 142 = .ok (.isub, 1) := by decide +kernel
theorem dX8_read_143 : decode cX8_read 143 = .ok (.iastore, 1) := by decide +kernel
theorem dX8_read_144 : decode cX8_read 144 = .ok (.iload_n 1, 1) := by decide +kernel
theorem dX8_read_145 : decode cX8_read 145 = .ok (.iload_n 2, 1) := by decide +kernel
theorem dX8_read_146 : decode cX8_read 146 = .ok (.ifCond .ge 12, 3) := by decide +kernel
theorem dX8_read_149 : decode cX8_read 149 = .ok (.iload 5, 2) := by decide +kernel
theorem dX8_read_151 : decode cX8_read 151 = .ok (.ifCond .ne 7, 3) := by decide +kernel
theorem dX8_read_154 : decode cX8_read 154 = .ok (.iconst 1, 1) := by decide +kernel
theorem dX8_read_155 : decode cX8_read 155 = .ok (.goto 4, 3) := by decide +kernel
theorem dX8_read_158 : decode cX8_read 158 = .ok (.iconst 0, 1) := by decide +kernel
theorem dX8_read_159 : decode cX8_read 159 = .ok (.iadd, 1) := by decide +kernel
theorem dX8_read_160 : decode cX8_read 160 = .ok (.istore_n 1, 1) := by decide +kernel
theorem dX8_read_161 : decode cX8_read 161 = .ok (.goto 114, 3) := by decide +kernel
theorem dX8_read_164 : decode cX8_read 164 = .ok (.iload 4, 2) := by decide +kernel
theorem dX8_read_166 : decode cX8_read 166 = .ok (.bipush 97, 2) := by decide +kernel
theorem dX8_read_168 : decode cX8_read 168 = .ok (.if_icmp .lt 78, 3) := by decide +kernel
theorem dX8_read_171 : decode cX8_read 171 = .ok (.iload 4, 2) := by decide +kernel
theorem dX8_read_173 : decode cX8_read 173 = .ok (.bipush 122, 2) := by decide +kernel
theorem dX8_read_175 : decode cX8_read 175 = .ok (.if_icmp .gt 71, 3) := by decide +kernel
theorem dX8_read_178 : decode cX8_read 178 = .ok (.iload 4, 2) := by decide +kernel
theorem dX8_read_180 : decode cX8_read 180 = .ok (.bipush 97, 2) := by decide +kernel
theorem dX8_read_182 : decode cX8_read 182 = .ok (.isub, 1) := by decide +kernel
theorem dX8_read_183 : decode cX8_read 183 = .ok (.iconst 1, 1) := by decide +kernel
theorem dX8_read_184 : decode cX8_read 184 = .ok (.iadd, 1) := by decide +kernel
theorem dX8_read_185 : decode cX8_read 185 = .ok (.istore 5, 2) := by decide +kernel
theorem dX8_read_187 : decode cX8_read 187 = .ok (.iload_n 1, 1) := by decide +kernel
theorem dX8_read_188 : decode cX8_read 188 = .ok (.iload 5, 2) := by decide +kernel
theorem dX8_read_190 : decode cX8_read 190 = .ok (.iadd, 1) := by decide +kernel
theorem dX8_read_191 : decode cX8_read 191 = .ok (.aload_n 0, 1) := by decide +kernel
theorem dX8_read_192 : decode cX8_read 192 = .ok (.invokevirtual 50, 3) := by decide +kernel
theorem dX8_read_195 : decode cX8_read 195 = .ok (.if_icmp .le 5, 3) := by decide +kernel
theorem dX8_read_198 : decode cX8_read 198 = .ok (.iload_n 3, 1) := by decide +kernel
theorem dX8_read_199 : decode cX8_read 199 = .ok (.istore_n 2, 1) := by decide +kernel
theorem dX8_read_200 : decode cX8_read 200 = .ok (.iconst 0, 1) := by decide +kernel
theorem dX8_read_201 : decode cX8_read 201 = .ok (.istore 6, 2) := by decide +kernel
theorem dX8_read_203 : decode cX8_read 203 = .ok (.iload 6, 2) := by decide +kernel
theorem dX8_read_205 : decode cX8_read 205 = .ok (.iload 5, 2) := by decide +kernel
theorem dX8_read_207 : decode cX8_read 207 = .ok (.if_icmp .ge 23, 3) := by decide +kernel
theorem dX8_read_210 : decode cX8_read 210 = .ok (.iload_n 2, 1) := by decide +kernel
theorem dX8_read_211 : decode cX8_read 211 = .ok (.ifCond .ge 19, 3) := by decide +kernel
theorem dX8_read_214 : decode cX8_read 214 = .ok (.aload_n 0, 1) := by decide +kernel
theorem dX8_read_215 : decode cX8_read 215 = .ok (.getfield 33, 3) := by decide +kernel
theorem dX8_read_218 : decode cX8_read 218 = .ok (.iload_n 1, 1) := by decide +kernel
theorem dX8_read_219 : decode cX8_read 219 = .ok (.iload 6, 2) := by decide +kernel
theorem dX8_read_221 : decode cX8_read 221 = .ok (.iadd, 1) := by decide +kernel
theorem dX8_read_222 : decode cX8_read 222 = .ok (.iconst 0, 1) := by decide +kernel
theorem dX8_read_223 : decode cX8_read 223 = .ok (.iastore, 1) := by decide +kernel
theorem dX8_read_224 : decode cX8_read 224 = .ok (.iinc 6 1, 3) := by decide +kernel
theorem dX8_read_227 : decode cX8_read 227 = .ok (.goto (-24), 3) := by decide +kernel
theorem dX8_read_230 : decode cX8_read 230 = .ok (.iload_n 1, 1) := by decide +kernel
theorem dX8_read_231 : decode cX8_read 231 = .ok (.iload_n 2, 1) := by decide +kernel
theorem dX8_read_232 : decode cX8_read 232 = .ok (.ifCond .ge 8, 3) := by decide +kernel
theorem dX8_read_235 : decode cX8_read 235 = .ok (.iload 5, 2) := by decide +kernel
theorem dX8_read_237 : decode cX8_read 237 = .ok (.goto 4, 3) := by decide +kernel
theorem dX8_read_240 : decode cX8_read 240 = .ok (.iconst 0, 1) := by decide +kernel
theorem dX8_read_241 : decode cX8_read 241 = .ok (.iadd, 1) := by decide +kernel
theorem dX8_read_242 : decode cX8_read 242 = .ok (.istore_n 1, 1) := by decide +kernel
theorem dX8_read_243 : decode cX8_read 243 = .ok (.goto 32, 3) := by decide +kernel
theorem dX8_read_246 : decode cX8_read 246 = .ok (.iload 4, 2) := by decide +kernel
theorem dX8_read_248 : decode cX8_read 248 = .ok (.bipush 32, 2) := by decide +kernel
theorem dX8_read_250 : decode cX8_read 250 = .ok (.if_icmp .ne 23, 3) := by decide +kernel
theorem dX8_read_253 : decode cX8_read 253 = .ok (.aload_n 0, 1) := by decide +kernel
theorem dX8_read_254 : decode cX8_read 254 = .ok (.iload_n 3, 1) := by decide +kernel
theorem dX8_read_255 : decode cX8_read 255 = .ok (.iconst 1, 1) := by decide +kernel
theorem dX8_read_256 : decode cX8_read 256 = .ok (.isub, 1) := by decide +kernel
theorem dX8_read_257 : decode cX8_read 257 = .ok (.invokevirtual 119, 3) := by decide +kernel
theorem dX8_read_260 : decode cX8_read 260 = .ok (.ifCond .eq 13, 3) := by decide +kernel
theorem dX8_read_263 : decode cX8_read 263 = .ok (.aload_n 0, 1) := by decide +kernel
theorem dX8_read_264 : decode cX8_read 264 = .ok (.iload_n 3, 1) := by decide +kernel
theorem dX8_read_265 : decode cX8_read 265 = .ok (.iconst 1, 1) := by decide +kernel
theorem dX8_read_266 : decode cX8_read 266 = .ok (.iadd, 1) := by decide +kernel
theorem dX8_read_267 : decode cX8_read 267 = .ok (.invokevirtual 119, 3) := by decide +kernel
theorem dX8_read_270 : decode cX8_read 270 = .ok (.ifCond .ne 5, 3) := by decide +kernel
theorem dX8_read_273 : decode cX8_read 273 = .ok (.iload_n 3, 1) := by decide +kernel
theorem dX8_read_274 : decode cX8_read 274 = .ok (.istore_n 2, 1) := by decide +kernel
theorem dX8_read_275 : decode cX8_read 275 = .ok (.iinc 3 1, 3) := by decide +kernel
theorem dX8_read_278 : decode cX8_read 278 = .ok (.goto (-267), 3) := by decide +kernel
theorem dX8_read_281 : decode cX8_read 281 = .ok (.iload_n 2, 1) := by decide +kernel
theorem dX8_read_282 : decode cX8_read 282 = .ok (.ifCond .ge 16, 3) := by decide +kernel
theorem dX8_read_285 : decode cX8_read 285 = .ok (.iload_n 1, 1) := by decide +kernel
theorem dX8_read_286 : decode cX8_read 286 = .ok (.aload_n 0, 1) := by decide +kernel
theorem dX8_read_287 : decode cX8_read 287 = .ok (.invokevirtual 50, 3) := by decide +kernel
theorem dX8_read_290 : decode cX8_read 290 = .ok (.if_icmp .ge 8, 3) := by decide +kernel
theorem dX8_read_293 : decode cX8_read 293 = .ok (.aload_n 0, 1) := by decide +kernel
theorem dX8_read_294 : decode cX8_read 294 = .ok (.getfield 116, 3) := by decide +kernel
theorem dX8_read_297 : decode cX8_read 297 = .ok (.istore_n 2, 1) := by decide +kernel
theorem dX8_read_298 : decode cX8_read 298 = .ok (.aload_n 0, 1) := by decide +kernel
theorem dX8_read_299 : decode cX8_read 299 = .ok (.iconst 0, 1) := by decide +kernel
theorem dX8_read_300 : decode cX8_read 300 = .ok (.putfield 116, 3) := by decide +kernel
theorem dX8_read_303 : decode cX8_read 303 = .ok (.iload_n 2, 1) := by decide +kernel
theorem dX8_read_304 : decode cX8_read 304 = .ok (.ifCond .lt 7, 3) := by decide +kernel
theorem dX8_read_307 : decode cX8_read 307 = .ok (.iconst (-1), 1) := by decide +kernel
theorem dX8_read_308 : decode cX8_read 308 = .ok (.iload_n 2, 1) := by decide +kernel
theorem dX8_read_309 : decode cX8_read 309 = .ok (.isub, 1) := by decide +kernel
theorem dX8_read_310 : decode cX8_read 310 = .ok (.ireturn, 1) := by decide +kernel
theorem dX8_read_311 : decode cX8_read 311 = .ok (.iconst 0, 1) := by decide +kernel
theorem dX8_read_312 : decode cX8_read 312 = .ok (.istore_n 3, 1) := by decide +kernel
theorem dX8_read_313 : decode cX8_read 313 = .ok (.iload_n 3, 1) := by decide +kernel
theorem dX8_read_314 : decode cX8_read 314 = .ok (.aload_n 0, 1) := by decide +kernel
theorem dX8_read_315 : decode cX8_read 315 = .ok (.invokevirtual 50, 3) := by decide +kernel
theorem dX8_read_318 : decode cX8_read 318 = .ok (.if_icmp .ge 21, 3) := by decide +kernel
theorem dX8_read_321 : decode cX8_read 321 = .ok (.aload_n 0, 1) := by decide +kernel
theorem dX8_read_322 : decode cX8_read 322 = .ok (.getfield 21, 3) := by decide +kernel
theorem dX8_read_325 : decode cX8_read 325 = .ok (.iload_n 3, 1) := by decide +kernel
theorem dX8_read_326 : decode cX8_read 326 = .ok (.aload_n 0, 1) := by decide +kernel
theorem dX8_read_327 : decode cX8_read 327 = .ok (.getfield 33, 3) := by decide +kernel
theorem dX8_read_330 : decode cX8_read 330 = .ok (.iload_n 3, 1) := by decide +kernel
theorem dX8_read_331 : decode cX8_read 331 = .ok (.iaload, 1) := by decide +kernel
theorem dX8_read_332 : decode cX8_read 332 = .ok (.iastore, 1) := by decide +kernel
theorem dX8_read_333 : decode cX8_read 333 = .ok (.iinc 3 1, 3) := by decide +kernel
theorem dX8_read_336 : decode cX8_read 336 = .ok (.goto (-23), 3) := by decide +kernel
theorem dX8_read_339 : decode cX8_read 339 = .ok (.iload_n 1, 1) := by decide +kernel
theorem dX8_read_340 : decode cX8_read 340 = .ok (.ireturn, 1) := by decide +kernel
theorem dL_cell_0 : decode cL_cell 0 = .ok (.iload_n 1, 1) := by decide +kernel
theorem dL_cell_1 : decode cL_cell 1 = .ok (.aload_n 0, 1) := by decide +kernel
theorem dL_cell_2 : decode cL_cell 2 = .ok (.arraylength, 1) := by decide +kernel
theorem dL_cell_3 : decode cL_cell 3 = .ok (.if_icmp .ge 9, 3) := by decide +kernel
theorem dL_cell_6 : decode cL_cell 6 = .ok (.aload_n 0, 1) := by decide +kernel
theorem dL_cell_7 : decode cL_cell 7 = .ok (.iload_n 1, 1) := by decide +kernel
theorem dL_cell_8 : decode cL_cell 8 = .ok (.iaload, 1) := by decide +kernel
theorem dL_cell_9 : decode cL_cell 9 = .ok (.goto 4, 3) := by decide +kernel
theorem dL_cell_12 : decode cL_cell 12 = .ok (.iconst 0, 1) := by decide +kernel
theorem dL_cell_13 : decode cL_cell 13 = .ok (.ireturn, 1) := by decide +kernel
theorem dL_join_0 : decode cL_join 0 = .ok (.aload_n 3, 1) := by decide +kernel
theorem dL_join_1 : decode cL_join 1 = .ok (.iconst 0, 1) := by decide +kernel
theorem dL_join_2 : decode cL_join 2 = .ok (.aload_n 0, 1) := by decide +kernel
theorem dL_join_3 : decode cL_join 3 = .ok (.iload_n 1, 1) := by decide +kernel
theorem dL_join_4 : decode cL_join 4 = .ok (.iload_n 2, 1) := by decide +kernel
theorem dL_join_5 : decode cL_join 5 = .ok (.invokevirtual 7, 3) := by decide +kernel
theorem dL_join_8 : decode cL_join 8 = .ok (.ifCond .eq 7, 3) := by decide +kernel
theorem dL_join_11 : decode cL_join 11 = .ok (.lconst 1, 1) := by decide +kernel
theorem dL_join_12 : decode cL_join 12 = .ok (.goto 4, 3) := by decide +kernel
theorem dL_join_15 : decode cL_join 15 = .ok (.lconst 0, 1) := by decide +kernel
theorem dL_join_16 : decode cL_join 16 = .ok (.lastore, 1) := by decide +kernel
theorem dL_join_17 : decode cL_join 17 = .ok (.goto 7, 3) := by decide +kernel
theorem dL_join_20 : decode cL_join 20 = .ok (.astore 4, 2) := by decide +kernel
theorem dL_join_22 : decode cL_join 22 = .ok (.iconst 1, 1) := by decide +kernel
theorem dL_join_23 : decode cL_join 23 = .ok (.ireturn, 1) := by decide +kernel
theorem dL_join_24 : decode cL_join 24 = .ok (.iconst 0, 1) := by decide +kernel
theorem dL_join_25 : decode cL_join 25 = .ok (.ireturn, 1) := by decide +kernel
theorem dL_degree_0 : decode cL_degree 0 = .ok (.aload_n 3, 1) := by decide +kernel
theorem dL_degree_1 : decode cL_degree 1 = .ok (.iconst 0, 1) := by decide +kernel
theorem dL_degree_2 : decode cL_degree 2 = .ok (.aload_n 0, 1) := by decide +kernel
theorem dL_degree_3 : decode cL_degree 3 = .ok (.iload_n 1, 1) := by decide +kernel
theorem dL_degree_4 : decode cL_degree 4 = .ok (.iload_n 2, 1) := by decide +kernel
theorem dL_degree_5 : decode cL_degree 5 = .ok (.invokevirtual 15, 3) := by decide +kernel
theorem dL_degree_8 : decode cL_degree 8 = .ok (.i2l, 1) := by decide +kernel
theorem dL_degree_9 : decode cL_degree 9 = .ok (.lastore, 1) := by decide +kernel
theorem dL_degree_10 : decode cL_degree 10 = .ok (.goto 7, 3) := by decide +kernel
theorem dL_degree_13 : decode cL_degree 13 = .ok (.astore 4, 2) := by decide +kernel
theorem dL_degree_15 : decode cL_degree 15 = .ok (.iconst 1, 1) := by decide +kernel
theorem dL_degree_16 : decode cL_degree 16 = .ok (.ireturn, 1) := by decide +kernel
theorem dL_degree_17 : decode cL_degree 17 = .ok (.iconst 0, 1) := by decide +kernel
theorem dL_degree_18 : decode cL_degree 18 = .ok (.ireturn, 1) := by decide +kernel
theorem dL_neighbour_0 : decode cL_neighbour 0 = .ok (.aload_n 3, 1) := by decide +kernel
theorem dL_neighbour_1 : decode cL_neighbour 1 = .ok (.iconst 0, 1) := by decide +kernel
theorem dL_neighbour_2 : decode cL_neighbour 2 = .ok (.aload_n 0, 1) := by decide +kernel
theorem dL_neighbour_3 : decode cL_neighbour 3 = .ok (.iload_n 1, 1) := by decide +kernel
theorem dL_neighbour_4 : decode cL_neighbour 4 = .ok (.iload_n 2, 1) := by decide +kernel
theorem dL_neighbour_5 : decode cL_neighbour 5 = .ok (.invokevirtual 19, 3) := by decide +kernel
theorem dL_neighbour_8 : decode cL_neighbour 8 = .ok (.i2l, 1) := by decide +kernel
theorem dL_neighbour_9 : decode cL_neighbour 9 = .ok (.lastore, 1) := by decide +kernel
theorem dL_neighbour_10 : decode cL_neighbour 10 = .ok (.goto 7, 3) := by decide +kernel
theorem dL_neighbour_13 : decode cL_neighbour 13 = .ok (.astore 4, 2) := by decide +kernel
theorem dL_neighbour_15 : decode cL_neighbour 15 = .ok (.iconst 1, 1) := by decide +kernel
theorem dL_neighbour_16 : decode cL_neighbour 16 = .ok (.ireturn, 1) := by decide +kernel
theorem dL_neighbour_17 : decode cL_neighbour 17 = .ok (.iconst 0, 1) := by decide +kernel
theorem dL_neighbour_18 : decode cL_neighbour 18 = .ok (.ireturn, 1) := by decide +kernel
theorem dL_wall_0 : decode cL_wall 0 = .ok (.aload 4, 2) := by decide +kernel
theorem dL_wall_2 : decode cL_wall 2 = .ok (.iconst 0, 1) := by decide +kernel
theorem dL_wall_3 : decode cL_wall 3 = .ok (.aload_n 0, 1) := by decide +kernel
theorem dL_wall_4 : decode cL_wall 4 = .ok (.iload_n 1, 1) := by decide +kernel
theorem dL_wall_5 : decode cL_wall 5 = .ok (.iload_n 2, 1) := by decide +kernel
theorem dL_wall_6 : decode cL_wall 6 = .ok (.iload_n 3, 1) := by decide +kernel
theorem dL_wall_7 : decode cL_wall 7 = .ok (.invokevirtual 23, 3) := by decide +kernel
theorem dL_wall_10 : decode cL_wall 10 = .ok (.ifCond .eq 7, 3) := by decide +kernel
theorem dL_wall_13 : decode cL_wall 13 = .ok (.lconst 1, 1) := by decide +kernel
theorem dL_wall_14 : decode cL_wall 14 = .ok (.goto 4, 3) := by decide +kernel
theorem dL_wall_17 : decode cL_wall 17 = .ok (.lconst 0, 1) := by decide +kernel
theorem dL_wall_18 : decode cL_wall 18 = .ok (.lastore, 1) := by decide +kernel
theorem dL_wall_19 : decode cL_wall 19 = .ok (.goto 7, 3) := by decide +kernel
theorem dL_wall_22 : decode cL_wall 22 = .ok (.astore 5, 2) := by decide +kernel
theorem dL_wall_24 : decode cL_wall 24 = .ok (.iconst 1, 1) := by decide +kernel
theorem dL_wall_25 : decode cL_wall 25 = .ok (.ireturn, 1) := by decide +kernel
theorem dL_wall_26 : decode cL_wall 26 = .ok (.iconst 0, 1) := by decide +kernel
theorem dL_wall_27 : decode cL_wall 27 = .ok (.ireturn, 1) := by decide +kernel
theorem dL_seen_0 : decode cL_seen 0 = .ok (.aload 4, 2) := by decide +kernel
theorem dL_seen_2 : decode cL_seen 2 = .ok (.iconst 0, 1) := by decide +kernel
theorem dL_seen_3 : decode cL_seen 3 = .ok (.aload_n 0, 1) := by decide +kernel
theorem dL_seen_4 : decode cL_seen 4 = .ok (.iload_n 1, 1) := by decide +kernel
theorem dL_seen_5 : decode cL_seen 5 = .ok (.iload_n 2, 1) := by decide +kernel
theorem dL_seen_6 : decode cL_seen 6 = .ok (.iload_n 3, 1) := by decide +kernel
theorem dL_seen_7 : decode cL_seen 7 = .ok (.invokevirtual 27, 3) := by decide +kernel
theorem dL_seen_10 : decode cL_seen 10 = .ok (.i2l, 1) := by decide +kernel
theorem dL_seen_11 : decode cL_seen 11 = .ok (.lastore, 1) := by decide +kernel
theorem dL_seen_12 : decode cL_seen 12 = .ok (.goto 7, 3) := by decide +kernel
theorem dL_seen_15 : decode cL_seen 15 = .ok (.astore 5, 2) := by decide +kernel
theorem dL_seen_17 : decode cL_seen 17 = .ok (.iconst 1, 1) := by decide +kernel
theorem dL_seen_18 : decode cL_seen 18 = .ok (.ireturn, 1) := by decide +kernel
theorem dL_seen_19 : decode cL_seen 19 = .ok (.iconst 0, 1) := by decide +kernel
theorem dL_seen_20 : decode cL_seen 20 = .ok (.ireturn, 1) := by decide +kernel
theorem dL_far_0 : decode cL_far 0 = .ok (.aload_n 3, 1) := by decide +kernel
theorem dL_far_1 : decode cL_far 1 = .ok (.iconst 0, 1) := by decide +kernel
theorem dL_far_2 : decode cL_far 2 = .ok (.aload_n 0, 1) := by decide +kernel
theorem dL_far_3 : decode cL_far 3 = .ok (.iload_n 1, 1) := by decide +kernel
theorem dL_far_4 : decode cL_far 4 = .ok (.iload_n 2, 1) := by decide +kernel
theorem dL_far_5 : decode cL_far 5 = .ok (.invokevirtual 31, 3) := by decide +kernel
theorem dL_far_8 : decode cL_far 8 = .ok (.i2l, 1) := by decide +kernel
theorem dL_far_9 : decode cL_far 9 = .ok (.lastore, 1) := by decide +kernel
theorem dL_far_10 : decode cL_far 10 = .ok (.goto 7, 3) := by decide +kernel
theorem dL_far_13 : decode cL_far 13 = .ok (.astore 4, 2) := by decide +kernel
theorem dL_far_15 : decode cL_far 15 = .ok (.iconst 1, 1) := by decide +kernel
theorem dL_far_16 : decode cL_far 16 = .ok (.ireturn, 1) := by decide +kernel
theorem dL_far_17 : decode cL_far 17 = .ok (.iconst 0, 1) := by decide +kernel
theorem dL_far_18 : decode cL_far 18 = .ok (.ireturn, 1) := by decide +kernel
theorem dL_without_0 : decode cL_without 0 = .ok (.aload_n 2, 1) := by decide +kernel
theorem dL_without_1 : decode cL_without 1 = .ok (.iconst 0, 1) := by decide +kernel
theorem dL_without_2 : decode cL_without 2 = .ok (.aload_n 0, 1) := by decide +kernel
theorem dL_without_3 : decode cL_without 3 = .ok (.iload_n 1, 1) := by decide +kernel
theorem dL_without_4 : decode cL_without 4 = .ok (.invokevirtual 34, 3) := by decide +kernel
theorem dL_without_7 : decode cL_without 7 = .ok (.i2l, 1) := by decide +kernel
theorem dL_without_8 : decode cL_without 8 = .ok (.lastore, 1) := by decide +kernel
theorem dL_without_9 : decode cL_without 9 = .ok (.goto 6, 3) := by decide +kernel
theorem dL_without_12 : decode cL_without 12 = .ok (.astore_n 3, 1) := by decide +kernel
theorem dL_without_13 : decode cL_without 13 = .ok (.iconst 1, 1) := by decide +kernel
theorem dL_without_14 : decode cL_without 14 = .ok (.ireturn, 1) := by decide +kernel
theorem dL_without_15 : decode cL_without 15 = .ok (.iconst 0, 1) := by decide +kernel
theorem dL_without_16 : decode cL_without 16 = .ok (.ireturn, 1) := by decide +kernel
theorem dL_area_0 : decode cL_area 0 = .ok (.aload_n 3, 1) := by decide +kernel
theorem dL_area_1 : decode cL_area 1 = .ok (.iconst 0, 1) := by decide +kernel
theorem dL_area_2 : decode cL_area 2 = .ok (.aload_n 0, 1) := by decide +kernel
theorem dL_area_3 : decode cL_area 3 = .ok (.iload_n 1, 1) := by decide +kernel
theorem dL_area_4 : decode cL_area 4 = .ok (.iload_n 2, 1) := by decide +kernel
theorem dL_area_5 : decode cL_area 5 = .ok (.invokevirtual 38, 3) := by decide +kernel
theorem dL_area_8 : decode cL_area 8 = .ok (.ifCond .eq 7, 3) := by decide +kernel
theorem dL_area_11 : decode cL_area 11 = .ok (.lconst 1, 1) := by decide +kernel
theorem dL_area_12 : decode cL_area 12 = .ok (.goto 4, 3) := by decide +kernel
theorem dL_area_15 : decode cL_area 15 = .ok (.lconst 0, 1) := by decide +kernel
theorem dL_area_16 : decode cL_area 16 = .ok (.lastore, 1) := by decide +kernel
theorem dL_area_17 : decode cL_area 17 = .ok (.goto 7, 3) := by decide +kernel
theorem dL_area_20 : decode cL_area 20 = .ok (.astore 4, 2) := by decide +kernel
theorem dL_area_22 : decode cL_area 22 = .ok (.iconst 1, 1) := by decide +kernel
theorem dL_area_23 : decode cL_area 23 = .ok (.ireturn, 1) := by decide +kernel
theorem dL_area_24 : decode cL_area 24 = .ok (.iconst 0, 1) := by decide +kernel
theorem dL_area_25 : decode cL_area 25 = .ok (.ireturn, 1) := by decide +kernel
theorem dL_mark_0 : decode cL_mark 0 = .ok (.aload_n 3, 1) := by decide +kernel
theorem dL_mark_1 : decode cL_mark 1 = .ok (.iconst 0, 1) := by decide +kernel
theorem dL_mark_2 : decode cL_mark 2 = .ok (.aload_n 0, 1) := by decide +kernel
theorem dL_mark_3 : decode cL_mark 3 = .ok (.iload_n 1, 1) := by decide +kernel
theorem dL_mark_4 : decode cL_mark 4 = .ok (.iload_n 2, 1) := by decide +kernel
theorem dL_mark_5 : decode cL_mark 5 = .ok (.invokevirtual 41, 3) := by decide +kernel
theorem dL_mark_8 : decode cL_mark 8 = .ok (.ifCond .eq 7, 3) := by decide +kernel
theorem dL_mark_11 : decode cL_mark 11 = .ok (.lconst 1, 1) := by decide +kernel
theorem dL_mark_12 : decode cL_mark 12 = .ok (.goto 4, 3) := by decide +kernel
theorem dL_mark_15 : decode cL_mark 15 = .ok (.lconst 0, 1) := by decide +kernel
theorem dL_mark_16 : decode cL_mark 16 = .ok (.lastore, 1) := by decide +kernel
theorem dL_mark_17 : decode cL_mark 17 = .ok (.goto 7, 3) := by decide +kernel
theorem dL_mark_20 : decode cL_mark 20 = .ok (.astore 4, 2) := by decide +kernel
theorem dL_mark_22 : decode cL_mark 22 = .ok (.iconst 1, 1) := by decide +kernel
theorem dL_mark_23 : decode cL_mark 23 = .ok (.ireturn, 1) := by decide +kernel
theorem dL_mark_24 : decode cL_mark 24 = .ok (.iconst 0, 1) := by decide +kernel
theorem dL_mark_25 : decode cL_mark 25 = .ok (.ireturn, 1) := by decide +kernel
theorem dL_image_0 : decode cL_image 0 = .ok (.aload_n 3, 1) := by decide +kernel
theorem dL_image_1 : decode cL_image 1 = .ok (.iconst 0, 1) := by decide +kernel
theorem dL_image_2 : decode cL_image 2 = .ok (.aload_n 0, 1) := by decide +kernel
theorem dL_image_3 : decode cL_image 3 = .ok (.iload_n 1, 1) := by decide +kernel
theorem dL_image_4 : decode cL_image 4 = .ok (.iload_n 2, 1) := by decide +kernel
theorem dL_image_5 : decode cL_image 5 = .ok (.invokevirtual 44, 3) := by decide +kernel
theorem dL_image_8 : decode cL_image 8 = .ok (.i2l, 1) := by decide +kernel
theorem dL_image_9 : decode cL_image 9 = .ok (.lastore, 1) := by decide +kernel
theorem dL_image_10 : decode cL_image 10 = .ok (.goto 7, 3) := by decide +kernel
theorem dL_image_13 : decode cL_image 13 = .ok (.astore 4, 2) := by decide +kernel
theorem dL_image_15 : decode cL_image 15 = .ok (.iconst 1, 1) := by decide +kernel
theorem dL_image_16 : decode cL_image 16 = .ok (.ireturn, 1) := by decide +kernel
theorem dL_image_17 : decode cL_image 17 = .ok (.iconst 0, 1) := by decide +kernel
theorem dL_image_18 : decode cL_image 18 = .ok (.ireturn, 1) := by decide +kernel
theorem dL_law_0 : decode cL_law 0 = .ok (.new 8, 3) := by decide +kernel
theorem dL_law_3 : decode cL_law 3 = .ok (.dup, 1) := by decide +kernel
theorem dL_law_4 : decode cL_law 4 = .ok (.aload_n 0, 1) := by decide +kernel
theorem dL_law_5 : decode cL_law 5 = .ok (.iconst 0, 1) := by decide +kernel
theorem dL_law_6 : decode cL_law 6 = .ok (.invokestatic 47, 3) := by decide +kernel
theorem dL_law_9 : decode cL_law 9 = .ok (.aload_n 0, 1) := by decide +kernel
theorem dL_law_10 : decode cL_law 10 = .ok (.iconst 1, 1) := by decide +kernel
theorem dL_law_11 : decode cL_law 11 = .ok (.invokestatic 47, 3) := by decide +kernel
theorem dL_law_14 : decode cL_law 14 = .ok (.aload_n 0, 1) := by decide +kernel
theorem dL_law_15 : decode cL_law 15 = .ok (.iconst 2, 1) := by decide +kernel
theorem dL_law_16 : decode cL_law 16 = .ok (.invokestatic 47, 3) := by decide +kernel
theorem dL_law_19 : decode cL_law 19 = .ok (.invokespecial 53, 3) := by decide +kernel
theorem dL_law_22 : decode cL_law 22 = .ok (.astore_n 1, 1) := by decide +kernel
theorem dL_law_23 : decode cL_law 23 = .ok (.new 56, 3) := by decide +kernel
theorem dL_law_26 : decode cL_law 26 = .ok (.dup, 1) := by decide +kernel
theorem dL_law_27 : decode cL_law 27 = .ok (.aload_n 0, 1) := by decide +kernel
theorem dL_law_28 : decode cL_law 28 = .ok (.iconst 0, 1) := by decide +kernel
theorem dL_law_29 : decode cL_law 29 = .ok (.invokestatic 47, 3) := by decide +kernel
theorem dL_law_32 : decode cL_law 32 = .ok (.aload_n 0, 1) := by decide +kernel
theorem dL_law_33 : decode cL_law 33 = .ok (.iconst 1, 1) := by decide +kernel
theorem dL_law_34 : decode cL_law 34 = .ok (.invokestatic 47, 3) := by decide +kernel
theorem dL_law_37 : decode cL_law 37 = .ok (.aload_n 0, 1) := by decide +kernel
theorem dL_law_38 : decode cL_law 38 = .ok (.iconst 2, 1) := by decide +kernel
theorem dL_law_39 : decode cL_law 39 = .ok (.invokestatic 47, 3) := by decide +kernel
theorem dL_law_42 : decode cL_law 42 = .ok (.invokespecial 58, 3) := by decide +kernel
theorem dL_law_45 : decode cL_law 45 = .ok (.astore_n 2, 1) := by decide +kernel
theorem dL_law_46 : decode cL_law 46 = .ok (.iconst 1, 1) := by decide +kernel
theorem dL_law_47 : decode cL_law 47 = .ok (.newarray .long, 2) := by decide +kernel
theorem dL_law_49 : decode cL_law 49 = .ok (.astore_n 3, 1) := by decide +kernel
theorem dL_law_50 : decode cL_law 50 = .ok (.iconst 3, 1) := by decide +kernel
theorem dL_law_51 : decode cL_law 51 = .ok (.istore 4, 2) := by decide +kernel
theorem dL_law_53 : decode cL_law 53 = .ok (.iload 4, 2) := by decide +kernel
theorem dL_law_55 : decode cL_law 55 = .ok (.aload_n 0, 1) := by decide +kernel
theorem dL_law_56 : decode cL_law 56 = .ok (.arraylength, 1) := by decide +kernel
theorem dL_law_57 : decode cL_law 57 = .ok (.iconst 4, 1) := by decide +kernel
theorem dL_law_58 : decode cL_law 58 = .ok (.isub, 1) := by decide +kernel
theorem dL_law_59 : decode cL_law 59 = .ok (.if_icmp .gt 1121, 3) := by decide +kernel
theorem dL_law_62 : decode cL_law 62 = .ok (.aload_n 0, 1) := by decide +kernel
theorem dL_law_63 : decode cL_law 63 = .ok (.iload 4, 2) := by decide +kernel
theorem dL_law_65 : decode cL_law 65 = .ok (.iaload, 1) := by decide +kernel
theorem dL_law_66 : decode cL_law 66 = .ok (.bipush 31, 2) := by decide +kernel
theorem dL_law_68 : decode cL_law 68 = .ok (.iand, 1) := by decide +kernel
theorem dL_law_69 : decode cL_law 69 = .ok (.tableswitch 1105 0 19 #[95, 170, 183, 267, 335, 438, 479, 532, 612, 680, 705, 761, 836, 861, 936, 1004, 1029, 1042, 1067, 1092], 95) := by decide +kernel
theorem dL_law_164 : decode cL_law 164 = .ok (.aload_n 1, 1) := by decide +kernel
theorem dL_law_165 : decode cL_law 165 = .ok (.aload_n 0, 1) := by decide +kernel
theorem dL_law_166 : decode cL_law 166 = .ok (.iload 4, 2) := by decide +kernel
theorem dL_law_168 : decode cL_law 168 = .ok (.iconst 1, 1) := by decide +kernel
theorem dL_law_169 : decode cL_law 169 = .ok (.iadd, 1) := by decide +kernel
theorem dL_law_170 : decode cL_law 170 = .ok (.iaload, 1) := by decide +kernel
theorem dL_law_171 : decode cL_law 171 = .ok (.aload_n 0, 1) := by decide +kernel
theorem dL_law_172 : decode cL_law 172 = .ok (.iload 4, 2) := by decide +kernel
theorem dL_law_174 : decode cL_law 174 = .ok (.iconst 2, 1) := by decide +kernel
theorem dL_law_175 : decode cL_law 175 = .ok (.iadd, 1) := by decide +kernel
theorem dL_law_176 : decode cL_law 176 = .ok (.iaload, 1) := by decide +kernel
theorem dL_law_177 : decode cL_law 177 = .ok (.aload_n 3, 1) := by decide +kernel
theorem dL_law_178 : decode cL_law 178 = .ok (.invokestatic 59, 3) := by decide +kernel
theorem dL_law_181 : decode cL_law 181 = .ok (.istore 5, 2) := by decide +kernel
theorem dL_law_183 : decode cL_law 183 = .ok (.aload_n 2, 1) := by decide +kernel
theorem dL_law_184 : decode cL_law 184 = .ok (.aload_n 0, 1) := by decide +kernel
theorem dL_law_185 : decode cL_law 185 = .ok (.iload 4, 2) := by decide +kernel
theorem dL_law_187 : decode cL_law 187 = .ok (.iconst 1, 1) := by decide +kernel
theorem dL_law_188 : decode cL_law 188 = .ok (.iadd, 1) := by decide +kernel
theorem dL_law_189 : decode cL_law 189 = .ok (.iaload, 1) := by decide +kernel
theorem dL_law_190 : decode cL_law 190 = .ok (.aload_n 0, 1) := by decide +kernel
theorem dL_law_191 : decode cL_law 191 = .ok (.iload 4, 2) := by decide +kernel
theorem dL_law_193 : decode cL_law 193 = .ok (.iconst 2, 1) := by decide +kernel
theorem dL_law_194 : decode cL_law 194 = .ok (.iadd, 1) := by decide +kernel
theorem dL_law_195 : decode cL_law 195 = .ok (.iaload, 1) := by decide +kernel
theorem dL_law_196 : decode cL_law 196 = .ok (.invokevirtual 62, 3) := by decide +kernel
theorem dL_law_199 : decode cL_law 199 = .ok (.istore 6, 2) := by decide +kernel
theorem dL_law_201 : decode cL_law 201 = .ok (.aload_n 2, 1) := by decide +kernel
theorem dL_law_202 : decode cL_law 202 = .ok (.invokevirtual 63, 3) := by decide +kernel
theorem dL_law_205 : decode cL_law 205 = .ok (.iload 5, 2) := by decide +kernel
theorem dL_law_207 : decode cL_law 207 = .ok (.if_icmp .eq 5, 3) := by decide +kernel
theorem dL_law_210 : decode cL_law 210 = .ok (.iconst 0, 1) := by decide +kernel
theorem dL_law_211 : decode cL_law 211 = .ok (.ireturn, 1) := by decide +kernel
theorem dL_law_212 : decode cL_law 212 = .ok (.iload 5, 2) := by decide +kernel
theorem dL_law_214 : decode cL_law 214 = .ok (.ifCond .ne 22, 3) := by decide +kernel
theorem dL_law_217 : decode cL_law 217 = .ok (.aload_n 3, 1) := by decide +kernel
theorem dL_law_218 : decode cL_law 218 = .ok (.iconst 0, 1) := by decide +kernel
theorem dL_law_219 : decode cL_law 219 = .ok (.laload, 1) := by decide +kernel
theorem dL_law_220 : decode cL_law 220 = .ok (.iload 6, 2) := by decide +kernel
theorem dL_law_222 : decode cL_law 222 = .ok (.ifCond .eq 7, 3) := by decide +kernel
theorem dL_law_225 : decode cL_law 225 = .ok (.lconst 1, 1) := by decide +kernel
theorem dL_law_226 : decode cL_law 226 = .ok (.goto 4, 3) := by decide +kernel
theorem dL_law_229 : decode cL_law 229 = .ok (.lconst 0, 1) := by decide +kernel
theorem dL_law_230 : decode cL_law 230 = .ok (.lcmp, 1) := by decide +kernel
theorem dL_law_231 : decode cL_law 231 = .ok (.ifCond .eq 5, 3) := by decide +kernel
theorem dL_law_234 : decode cL_law 234 = .ok (.iconst 0, 1) := by decide +kernel
theorem dL_law_235 : decode cL_law 235 = .ok (.ireturn, 1) := by decide +kernel
theorem dL_law_236 : decode cL_law 236 = .ok (.goto 938, 3) := by decide +kernel
theorem dL_law_239 : decode cL_law 239 = .ok (.aload_n 1, 1) := by decide +kernel
theorem dL_law_240 : decode cL_law 240 = .ok (.invokevirtual 67, 3) := by decide +kernel
theorem dL_law_243 : decode cL_law 243 = .ok (.aload_n 2, 1) := by decide +kernel
theorem dL_law_244 : decode cL_law 244 = .ok (.invokevirtual 70, 3) := by decide +kernel
theorem dL_law_247 : decode cL_law 247 = .ok (.if_icmp .eq 927, 3) := by decide +kernel
theorem dL_law_250 : decode cL_law 250 = .ok (.iconst 0, 1) := by decide +kernel
theorem dL_law_251 : decode cL_law 251 = .ok (.ireturn, 1) := by decide +kernel
theorem dL_law_252 : decode cL_law 252 = .ok (.aload_n 1, 1) := by decide +kernel
theorem dL_law_253 : decode cL_law 253 = .ok (.aload_n 0, 1) := by decide +kernel
theorem dL_law_254 : decode cL_law 254 = .ok (.iload 4, 2) := by decide +kernel
theorem dL_law_256 : decode cL_law 256 = .ok (.iconst 1, 1) := by decide +kernel
theorem dL_law_257 : decode cL_law 257 = .ok (.iadd, 1) := by decide +kernel
theorem dL_law_258 : decode cL_law 258 = .ok (.iaload, 1) := by decide +kernel
theorem dL_law_259 : decode cL_law 259 = .ok (.aload_n 0, 1) := by decide +kernel
theorem dL_law_260 : decode cL_law 260 = .ok (.iload 4, 2) := by decide +kernel
theorem dL_law_262 : decode cL_law 262 = .ok (.iconst 2, 1) := by decide +kernel
theorem dL_law_263 : decode cL_law 263 = .ok (.iadd, 1) := by decide +kernel
theorem dL_law_264 : decode cL_law 264 = .ok (.iaload, 1) := by decide +kernel
theorem dL_law_265 : decode cL_law 265 = .ok (.ifCond .eq 7, 3) := by decide +kernel
theorem dL_law_268 : decode cL_law 268 = .ok (.iconst 1, 1) := by decide +kernel
theorem dL_law_269 : decode cL_law 269 = .ok (.goto 4, 3) := by decide +kernel
theorem dL_law_272 : decode cL_law 272 = .ok (.iconst 0, 1) := by decide +kernel
theorem dL_law_273 : decode cL_law 273 = .ok (.aload_n 3, 1) := by decide +kernel
theorem dL_law_274 : decode cL_law 274 = .ok (.invokestatic 71, 3) := by decide +kernel
theorem dL_law_277 : decode cL_law 277 = .ok (.istore 5, 2) := by decide +kernel
theorem dL_law_279 : decode cL_law 279 = .ok (.aload_n 2, 1) := by decide +kernel
theorem dL_law_280 : decode cL_law 280 = .ok (.aload_n 0, 1) := by decide +kernel
theorem dL_law_281 : decode cL_law 281 = .ok (.iload 4, 2) := by decide +kernel
theorem dL_law_283 : decode cL_law 283 = .ok (.iconst 1, 1) := by decide +kernel
theorem dL_law_284 : decode cL_law 284 = .ok (.iadd, 1) := by decide +kernel
theorem dL_law_285 : decode cL_law 285 = .ok (.iaload, 1) := by decide +kernel
theorem dL_law_286 : decode cL_law 286 = .ok (.aload_n 0, 1) := by decide +kernel
theorem dL_law_287 : decode cL_law 287 = .ok (.iload 4, 2) := by decide +kernel
theorem dL_law_289 : decode cL_law 289 = .ok (.iconst 2, 1) := by decide +kernel
theorem dL_law_290 : decode cL_law 290 = .ok (.iadd, 1) := by decide +kernel
theorem dL_law_291 : decode cL_law 291 = .ok (.iaload, 1) := by decide +kernel
theorem dL_law_292 : decode cL_law 292 = .ok (.ifCond .eq 7, 3) := by decide +kernel
theorem dL_law_295 : decode cL_law 295 = .ok (.iconst 1, 1) := by decide +kernel
theorem dL_law_296 : decode cL_law 296 = .ok (.goto 4, 3) := by decide +kernel
theorem dL_law_299 : decode cL_law 299 = .ok (.iconst 0, 1) := by decide +kernel
theorem dL_law_300 : decode cL_law 300 = .ok (.invokevirtual 74, 3) := by decide +kernel
theorem dL_law_303 : decode cL_law 303 = .ok (.istore 6, 2) := by decide +kernel
theorem dL_law_305 : decode cL_law 305 = .ok (.aload_n 2, 1) := by decide +kernel
theorem dL_law_306 : decode cL_law 306 = .ok (.invokevirtual 63, 3) := by decide +kernel
theorem dL_law_309 : decode cL_law 309 = .ok (.iload 5, 2) := by decide +kernel
theorem dL_law_311 : decode cL_law 311 = .ok (.if_icmp .eq 5, 3) := by decide +kernel
theorem dL_law_314 : decode cL_law 314 = .ok (.iconst 0, 1) := by decide +kernel
theorem dL_law_315 : decode cL_law 315 = .ok (.ireturn, 1) := by decide +kernel
theorem dL_law_316 : decode cL_law 316 = .ok (.iload 5, 2) := by decide +kernel
theorem dL_law_318 : decode cL_law 318 = .ok (.ifCond .ne 15, 3) := by decide +kernel
theorem dL_law_321 : decode cL_law 321 = .ok (.aload_n 3, 1) := by decide +kernel
theorem dL_law_322 : decode cL_law 322 = .ok (.iconst 0, 1) := by decide +kernel
theorem dL_law_323 : decode cL_law 323 = .ok (.laload, 1) := by decide +kernel
theorem dL_law_324 : decode cL_law 324 = .ok (.iload 6, 2) := by decide +kernel
theorem dL_law_326 : decode cL_law 326 = .ok (.i2l, 1) := by decide +kernel
theorem dL_law_327 : decode cL_law 327 = .ok (.lcmp, 1) := by decide +kernel
theorem dL_law_328 : decode cL_law 328 = .ok (.ifCond .eq 5, 3) := by decide +kernel
theorem dL_law_331 : decode cL_law 331 = .ok (.iconst 0, 1) := by decide +kernel
theorem dL_law_332 : decode cL_law 332 = .ok (.ireturn, 1) := by decide +kernel
theorem dL_law_333 : decode cL_law 333 = .ok (.goto 841, 3) := by decide +kernel
theorem dL_law_336 : decode cL_law 336 = .ok (.aload_n 1, 1) := by decide +kernel
theorem dL_law_337 : decode cL_law 337 = .ok (.aload_n 0, 1) := by decide +kernel
theorem dL_law_338 : decode cL_law 338 = .ok (.iload 4, 2) := by decide +kernel
theorem dL_law_340 : decode cL_law 340 = .ok (.iconst 1, 1) := by decide +kernel
theorem dL_law_341 : decode cL_law 341 = .ok (.iadd, 1) := by decide +kernel
theorem dL_law_342 : decode cL_law 342 = .ok (.iaload, 1) := by decide +kernel
theorem dL_law_343 : decode cL_law 343 = .ok (.aload_n 0, 1) := by decide +kernel
theorem dL_law_344 : decode cL_law 344 = .ok (.iload 4, 2) := by decide +kernel
theorem dL_law_346 : decode cL_law 346 = .ok (.iconst 2, 1) := by decide +kernel
theorem dL_law_347 : decode cL_law 347 = .ok (.iadd, 1) := by decide +kernel
theorem dL_law_348 : decode cL_law 348 = .ok (.iaload, 1) := by decide +kernel
theorem dL_law_349 : decode cL_law 349 = .ok (.aload_n 3, 1) := by decide +kernel
theorem dL_law_350 : decode cL_law 350 = .ok (.invokestatic 75, 3) := by decide +kernel
theorem dL_law_353 : decode cL_law 353 = .ok (.istore 5, 2) := by decide +kernel
theorem dL_law_355 : decode cL_law 355 = .ok (.aload_n 2, 1) := by decide +kernel
theorem dL_law_356 : decode cL_law 356 = .ok (.aload_n 0, 1) := by decide +kernel
theorem dL_law_357 : decode cL_law 357 = .ok (.iload 4, 2) := by decide +kernel
theorem dL_law_359 : decode cL_law 359 = .ok (.iconst 1, 1) := by decide +kernel
theorem dL_law_360 : decode cL_law 360 = .ok (.iadd, 1) := by decide +kernel
theorem dL_law_361 : decode cL_law 361 = .ok (.iaload, 1) := by decide +kernel
theorem dL_law_362 : decode cL_law 362 = .ok (.aload_n 0, 1) := by decide +kernel
theorem dL_law_363 : decode cL_law 363 = .ok (.iload 4, 2) := by decide +kernel
theorem dL_law_365 : decode cL_law 365 = .ok (.iconst 2, 1) := by decide +kernel
theorem dL_law_366 : decode cL_law 366 = .ok (.iadd, 1) := by decide +kernel
theorem dL_law_367 : decode cL_law 367 = .ok (.iaload, 1) := by decide +kernel
theorem dL_law_368 : decode cL_law 368 = .ok (.invokevirtual 77, 3) := by decide +kernel
theorem dL_law_371 : decode cL_law 371 = .ok (.istore 6, 2) := by decide +kernel
theorem dL_law_373 : decode cL_law 373 = .ok (.aload_n 2, 1) := by decide +kernel
theorem dL_law_374 : decode cL_law 374 = .ok (.invokevirtual 63, 3) := by decide +kernel
theorem dL_law_377 : decode cL_law 377 = .ok (.iload 5, 2) := by decide +kernel
theorem dL_law_379 : decode cL_law 379 = .ok (.if_icmp .eq 5, 3) := by decide +kernel
theorem dL_law_382 : decode cL_law 382 = .ok (.iconst 0, 1) := by decide +kernel
theorem dL_law_383 : decode cL_law 383 = .ok (.ireturn, 1) := by decide +kernel
theorem dL_law_384 : decode cL_law 384 = .ok (.iload 5, 2) := by decide +kernel
theorem dL_law_386 : decode cL_law 386 = .ok (.ifCond .ne 15, 3) := by decide +kernel
theorem dL_law_389 : decode cL_law 389 = .ok (.aload_n 3, 1) := by decide +kernel
theorem dL_law_390 : decode cL_law 390 = .ok (.iconst 0, 1) := by decide +kernel
theorem dL_law_391 : decode cL_law 391 = .ok (.laload, 1) := by decide +kernel
theorem dL_law_392 : decode cL_law 392 = .ok (.iload 6, 2) := by decide +kernel
theorem dL_law_394 : decode cL_law 394 = .ok (.i2l, 1) := by decide +kernel
theorem dL_law_395 : decode cL_law 395 = .ok (.lcmp, 1) := by decide +kernel
theorem dL_law_396 : decode cL_law 396 = .ok (.ifCond .eq 5, 3) := by decide +kernel
theorem dL_law_399 : decode cL_law 399 = .ok (.iconst 0, 1) := by decide +kernel
theorem dL_law_400 : decode cL_law 400 = .ok (.ireturn, 1) := by decide +kernel
theorem dL_law_401 : decode cL_law 401 = .ok (.goto 773, 3) := by decide +kernel
theorem dL_law_404 : decode cL_law 404 = .ok (.aload_n 1, 1) := by decide +kernel
theorem dL_law_405 : decode cL_law 405 = .ok (.aload_n 0, 1) := by decide +kernel
theorem dL_law_406 : decode cL_law 406 = .ok (.iload 4, 2) := by decide +kernel
theorem dL_law_408 : decode cL_law 408 = .ok (.iconst 1, 1) := by decide +kernel
theorem dL_law_409 : decode cL_law 409 = .ok (.iadd, 1) := by decide +kernel
theorem dL_law_410 : decode cL_law 410 = .ok (.iaload, 1) := by decide +kernel
theorem dL_law_411 : decode cL_law 411 = .ok (.aload_n 0, 1) := by decide +kernel
theorem dL_law_412 : decode cL_law 412 = .ok (.iload 4, 2) := by decide +kernel
theorem dL_law_414 : decode cL_law 414 = .ok (.iconst 2, 1) := by decide +kernel
theorem dL_law_415 : decode cL_law 415 = .ok (.iadd, 1) := by decide +kernel
theorem dL_law_416 : decode cL_law 416 = .ok (.iaload, 1) := by decide +kernel
theorem dL_law_417 : decode cL_law 417 = .ok (.aload_n 0, 1) := by decide +kernel
theorem dL_law_418 : decode cL_law 418 = .ok (.iload 4, 2) := by decide +kernel
theorem dL_law_420 : decode cL_law 420 = .ok (.iconst 3, 1) := by decide +kernel
theorem dL_law_421 : decode cL_law 421 = .ok (.iadd, 1) := by decide +kernel
theorem dL_law_422 : decode cL_law 422 = .ok (.iaload, 1) := by decide +kernel
theorem dL_law_423 : decode cL_law 423 = .ok (.ifCond .eq 7, 3) := by decide +kernel
theorem dL_law_426 : decode cL_law 426 = .ok (.iconst 1, 1) := by decide +kernel
theorem dL_law_427 : decode cL_law 427 = .ok (.goto 4, 3) := by decide +kernel
theorem dL_law_430 : decode cL_law 430 = .ok (.iconst 0, 1) := by decide +kernel
theorem dL_law_431 : decode cL_law 431 = .ok (.aload_n 3, 1) := by decide +kernel
theorem dL_law_432 : decode cL_law 432 = .ok (.invokestatic 78, 3) := by decide +kernel
theorem dL_law_435 : decode cL_law 435 = .ok (.istore 5, 2) := by decide +kernel
theorem dL_law_437 : decode cL_law 437 = .ok (.aload_n 2, 1) := by decide +kernel
theorem dL_law_438 : decode cL_law 438 = .ok (.aload_n 0, 1) := by decide +kernel
theorem dL_law_439 : decode cL_law 439 = .ok (.iload 4, 2) := by decide +kernel
theorem dL_law_441 : decode cL_law 441 = .ok (.iconst 1, 1) := by decide +kernel
theorem dL_law_442 : decode cL_law 442 = .ok (.iadd, 1) := by decide +kernel
theorem dL_law_443 : decode cL_law 443 = .ok (.iaload, 1) := by decide +kernel
theorem dL_law_444 : decode cL_law 444 = .ok (.aload_n 0, 1) := by decide +kernel
theorem dL_law_445 : decode cL_law 445 = .ok (.iload 4, 2) := by decide +kernel
theorem dL_law_447 : decode cL_law 447 = .ok (.iconst 2, 1) := by decide +kernel
theorem dL_law_448 : decode cL_law 448 = .ok (.iadd, 1) := by decide +kernel
theorem dL_law_449 : decode cL_law 449 = .ok (.iaload, 1) := by decide +kernel
theorem dL_law_450 : decode cL_law 450 = .ok (.aload_n 0, 1) := by decide +kernel
theorem dL_law_451 : decode cL_law 451 = .ok (.iload 4, 2) := by decide +kernel
theorem dL_law_453 : decode cL_law 453 = .ok (.iconst 3, 1) := by decide +kernel
theorem dL_law_454 : decode cL_law 454 = .ok (.iadd, 1) := by decide +kernel
theorem dL_law_455 : decode cL_law 455 = .ok (.iaload, 1) := by decide +kernel
theorem dL_law_456 : decode cL_law 456 = .ok (.ifCond .eq 7, 3) := by decide +kernel
theorem dL_law_459 : decode cL_law 459 = .ok (.iconst 1, 1) := by decide +kernel
theorem dL_law_460 : decode cL_law 460 = .ok (.goto 4, 3) := by decide +kernel
theorem dL_law_463 : decode cL_law 463 = .ok (.iconst 0, 1) := by decide +kernel
theorem dL_law_464 : decode cL_law 464 = .ok (.invokevirtual 81, 3) := by decide +kernel
theorem dL_law_467 : decode cL_law 467 = .ok (.istore 6, 2) := by decide +kernel
theorem dL_law_469 : decode cL_law 469 = .ok (.aload_n 2, 1) := by decide +kernel
theorem dL_law_470 : decode cL_law 470 = .ok (.invokevirtual 63, 3) := by decide +kernel
theorem dL_law_473 : decode cL_law 473 = .ok (.iload 5, 2) := by decide +kernel
theorem dL_law_475 : decode cL_law 475 = .ok (.if_icmp .eq 5, 3) := by decide +kernel
theorem dL_law_478 : decode cL_law 478 = .ok (.iconst 0, 1) := by decide +kernel
theorem dL_law_479 : decode cL_law 479 = .ok (.ireturn, 1) := by decide +kernel
theorem dL_law_480 : decode cL_law 480 = .ok (.iload 5, 2) := by decide +kernel
theorem dL_law_482 : decode cL_law 482 = .ok (.ifCond .ne 22, 3) := by decide +kernel
theorem dL_law_485 : decode cL_law 485 = .ok (.aload_n 3, 1) := by decide +kernel
theorem dL_law_486 : decode cL_law 486 = .ok (.iconst 0, 1) := by decide +kernel
theorem dL_law_487 : decode cL_law 487 = .ok (.laload, 1) := by decide +kernel
theorem dL_law_488 : decode cL_law 488 = .ok (.iload 6, 2) := by decide +kernel
theorem dL_law_490 : decode cL_law 490 = .ok (.ifCond .eq 7, 3) := by decide +kernel
theorem dL_law_493 : decode cL_law 493 = .ok (.lconst 1, 1) := by decide +kernel
theorem dL_law_494 : decode cL_law 494 = .ok (.goto 4, 3) := by decide +kernel
theorem dL_law_497 : decode cL_law 497 = .ok (.lconst 0, 1) := by decide +kernel
theorem dL_law_498 : decode cL_law 498 = .ok (.lcmp, 1) := by decide +kernel
theorem dL_law_499 : decode cL_law 499 = .ok (.ifCond .eq 5, 3) := by decide +kernel
theorem dL_law_502 : decode cL_law 502 = .ok (.iconst 0, 1) := by decide +kernel
theorem dL_law_503 : decode cL_law 503 = .ok (.ireturn, 1) := by decide +kernel
theorem dL_law_504 : decode cL_law 504 = .ok (.goto 670, 3) := by decide +kernel
theorem dL_law_507 : decode cL_law 507 = .ok (.aload_n 1, 1) := by decide +kernel
theorem dL_law_508 : decode cL_law 508 = .ok (.aload_n 0, 1) := by decide +kernel
theorem dL_law_509 : decode cL_law 509 = .ok (.iload 4, 2) := by decide +kernel
theorem dL_law_511 : decode cL_law 511 = .ok (.iconst 1, 1) := by decide +kernel
theorem dL_law_512 : decode cL_law 512 = .ok (.iadd, 1) := by decide +kernel
theorem dL_law_513 : decode cL_law 513 = .ok (.iaload, 1) := by decide +kernel
theorem dL_law_514 : decode cL_law 514 = .ok (.ifCond .eq 7, 3) := by decide +kernel
theorem dL_law_517 : decode cL_law 517 = .ok (.iconst 1, 1) := by decide +kernel
theorem dL_law_518 : decode cL_law 518 = .ok (.goto 4, 3) := by decide +kernel
theorem dL_law_521 : decode cL_law 521 = .ok (.iconst 0, 1) := by decide +kernel
theorem dL_law_522 : decode cL_law 522 = .ok (.invokevirtual 82, 3) := by decide +kernel
theorem dL_law_525 : decode cL_law 525 = .ok (.aload_n 2, 1) := by decide +kernel
theorem dL_law_526 : decode cL_law 526 = .ok (.aload_n 0, 1) := by decide +kernel
theorem dL_law_527 : decode cL_law 527 = .ok (.iload 4, 2) := by decide +kernel
theorem dL_law_529 : decode cL_law 529 = .ok (.iconst 1, 1) := by decide +kernel
theorem dL_law_530 : decode cL_law 530 = .ok (.iadd, 1) := by decide +kernel
theorem dL_law_531 : decode cL_law 531 = .ok (.iaload, 1) := by decide +kernel
theorem dL_law_532 : decode cL_law 532 = .ok (.ifCond .eq 7, 3) := by decide +kernel
theorem dL_law_535 : decode cL_law 535 = .ok (.iconst 1, 1) := by decide +kernel
theorem dL_law_536 : decode cL_law 536 = .ok (.goto 4, 3) := by decide +kernel
theorem dL_law_539 : decode cL_law 539 = .ok (.iconst 0, 1) := by decide +kernel
theorem dL_law_540 : decode cL_law 540 = .ok (.invokevirtual 86, 3) := by decide +kernel
theorem dL_law_543 : decode cL_law 543 = .ok (.if_icmp .eq 631, 3) := by decide +kernel
theorem dL_law_546 : decode cL_law 546 = .ok (.iconst 0, 1) := by decide +kernel
theorem dL_law_547 : decode cL_law 547 = .ok (.ireturn, 1) := by decide +kernel
theorem dL_law_548 : decode cL_law 548 = .ok (.aload_n 1, 1) := by decide +kernel
theorem dL_law_549 : decode cL_law 549 = .ok (.aload_n 0, 1) := by decide +kernel
theorem dL_law_550 : decode cL_law 550 = .ok (.iload 4, 2) := by decide +kernel
theorem dL_law_552 : decode cL_law 552 = .ok (.iconst 1, 1) := by decide +kernel
theorem dL_law_553 : decode cL_law 553 = .ok (.iadd, 1) := by decide +kernel
theorem dL_law_554 : decode cL_law 554 = .ok (.iaload, 1) := by decide +kernel
theorem dL_law_555 : decode cL_law 555 = .ok (.aload_n 0, 1) := by decide +kernel
theorem dL_law_556 : decode cL_law 556 = .ok (.iload 4, 2) := by decide +kernel
theorem dL_law_558 : decode cL_law 558 = .ok (.iconst 2, 1) := by decide +kernel
theorem dL_law_559 : decode cL_law 559 = .ok (.iadd, 1) := by decide +kernel
theorem dL_law_560 : decode cL_law 560 = .ok (.iaload, 1) := by decide +kernel
theorem dL_law_561 : decode cL_law 561 = .ok (.ifCond .eq 7, 3) := by decide +kernel
theorem dL_law_564 : decode cL_law 564 = .ok (.iconst 1, 1) := by decide +kernel
theorem dL_law_565 : decode cL_law 565 = .ok (.goto 4, 3) := by decide +kernel
theorem dL_law_568 : decode cL_law 568 = .ok (.iconst 0, 1) := by decide +kernel
theorem dL_law_569 : decode cL_law 569 = .ok (.invokevirtual 87, 3) := by decide +kernel
theorem dL_law_572 : decode cL_law 572 = .ok (.aload_n 2, 1) := by decide +kernel
theorem dL_law_573 : decode cL_law 573 = .ok (.aload_n 0, 1) := by decide +kernel
theorem dL_law_574 : decode cL_law 574 = .ok (.iload 4, 2) := by decide +kernel
theorem dL_law_576 : decode cL_law 576 = .ok (.iconst 1, 1) := by decide +kernel
theorem dL_law_577 : decode cL_law 577 = .ok (.iadd, 1) := by decide +kernel
theorem dL_law_578 : decode cL_law 578 = .ok (.iaload, 1) := by decide +kernel
theorem dL_law_579 : decode cL_law 579 = .ok (.aload_n 0, 1) := by decide +kernel
theorem dL_law_580 : decode cL_law 580 = .ok (.iload 4, 2) := by decide +kernel
theorem dL_law_582 : decode cL_law 582 = .ok (.iconst 2, 1) := by decide +kernel
theorem dL_law_583 : decode cL_law 583 = .ok (.iadd, 1) := by decide +kernel
theorem dL_law_584 : decode cL_law 584 = .ok (.iaload, 1) := by decide +kernel
theorem dL_law_585 : decode cL_law 585 = .ok (.ifCond .eq 7, 3) := by decide +kernel
theorem dL_law_588 : decode cL_law 588 = .ok (.iconst 1, 1) := by decide +kernel
theorem dL_law_589 : decode cL_law 589 = .ok (.goto 4, 3) := by decide +kernel
theorem dL_law_592 : decode cL_law 592 = .ok (.iconst 0, 1) := by decide +kernel
theorem dL_law_593 : decode cL_law 593 = .ok (.invokevirtual 90, 3) := by decide +kernel
theorem dL_law_596 : decode cL_law 596 = .ok (.if_icmp .eq 578, 3) := by decide +kernel
theorem dL_law_599 : decode cL_law 599 = .ok (.iconst 0, 1) := by decide +kernel
theorem dL_law_600 : decode cL_law 600 = .ok (.ireturn, 1) := by decide +kernel
theorem dL_law_601 : decode cL_law 601 = .ok (.aload_n 1, 1) := by decide +kernel
theorem dL_law_602 : decode cL_law 602 = .ok (.aload_n 0, 1) := by decide +kernel
theorem dL_law_603 : decode cL_law 603 = .ok (.iload 4, 2) := by decide +kernel
theorem dL_law_605 : decode cL_law 605 = .ok (.iconst 1, 1) := by decide +kernel
theorem dL_law_606 : decode cL_law 606 = .ok (.iadd, 1) := by decide +kernel
theorem dL_law_607 : decode cL_law 607 = .ok (.iaload, 1) := by decide +kernel
theorem dL_law_608 : decode cL_law 608 = .ok (.aload_n 0, 1) := by decide +kernel
theorem dL_law_609 : decode cL_law 609 = .ok (.iload 4, 2) := by decide +kernel
theorem dL_law_611 : decode cL_law 611 = .ok (.iconst 2, 1) := by decide +kernel
theorem dL_law_612 : decode cL_law 612 = .ok (.iadd, 1) := by decide +kernel
theorem dL_law_613 : decode cL_law 613 = .ok (.iaload, 1) := by decide +kernel
theorem dL_law_614 : decode cL_law 614 = .ok (.aload_n 0, 1) := by decide +kernel
theorem dL_law_615 : decode cL_law 615 = .ok (.iload 4, 2) := by decide +kernel
theorem dL_law_617 : decode cL_law 617 = .ok (.iconst 3, 1) := by decide +kernel
theorem dL_law_618 : decode cL_law 618 = .ok (.iadd, 1) := by decide +kernel
theorem dL_law_619 : decode cL_law 619 = .ok (.iaload, 1) := by decide +kernel
theorem dL_law_620 : decode cL_law 620 = .ok (.aload_n 3, 1) := by decide +kernel
theorem dL_law_621 : decode cL_law 621 = .ok (.invokestatic 91, 3) := by decide +kernel
theorem dL_law_624 : decode cL_law 624 = .ok (.istore 5, 2) := by decide +kernel
theorem dL_law_626 : decode cL_law 626 = .ok (.aload_n 2, 1) := by decide +kernel
theorem dL_law_627 : decode cL_law 627 = .ok (.aload_n 0, 1) := by decide +kernel
theorem dL_law_628 : decode cL_law 628 = .ok (.iload 4, 2) := by decide +kernel
theorem dL_law_630 : decode cL_law 630 = .ok (.iconst 1, 1) := by decide +kernel
theorem dL_law_631 : decode cL_law 631 = .ok (.iadd, 1) := by decide +kernel
theorem dL_law_632 : decode cL_law 632 = .ok (.iaload, 1) := by decide +kernel
theorem dL_law_633 : decode cL_law 633 = .ok (.aload_n 0, 1) := by decide +kernel
theorem dL_law_634 : decode cL_law 634 = .ok (.iload 4, 2) := by decide +kernel
theorem dL_law_636 : decode cL_law 636 = .ok (.iconst 2, 1) := by decide +kernel
theorem dL_law_637 : decode cL_law 637 = .ok (.iadd, 1) := by decide +kernel
theorem dL_law_638 : decode cL_law 638 = .ok (.iaload, 1) := by decide +kernel
theorem dL_law_639 : decode cL_law 639 = .ok (.aload_n 0, 1) := by decide +kernel
theorem dL_law_640 : decode cL_law 640 = .ok (.iload 4, 2) := by decide +kernel
theorem dL_law_642 : decode cL_law 642 = .ok (.iconst 3, 1) := by decide +kernel
theorem dL_law_643 : decode cL_law 643 = .ok (.iadd, 1) := by decide +kernel
theorem dL_law_644 : decode cL_law 644 = .ok (.iaload, 1) := by decide +kernel
theorem dL_law_645 : decode cL_law 645 = .ok (.invokevirtual 94, 3) := by decide +kernel
theorem dL_law_648 : decode cL_law 648 = .ok (.istore 6, 2) := by decide +kernel
theorem dL_law_650 : decode cL_law 650 = .ok (.aload_n 2, 1) := by decide +kernel
theorem dL_law_651 : decode cL_law 651 = .ok (.invokevirtual 63, 3) := by decide +kernel
theorem dL_law_654 : decode cL_law 654 = .ok (.iload 5, 2) := by decide +kernel
theorem dL_law_656 : decode cL_law 656 = .ok (.if_icmp .eq 5, 3) := by decide +kernel
theorem dL_law_659 : decode cL_law 659 = .ok (.iconst 0, 1) := by decide +kernel
theorem dL_law_660 : decode cL_law 660 = .ok (.ireturn, 1) := by decide +kernel
theorem dL_law_661 : decode cL_law 661 = .ok (.iload 5, 2) := by decide +kernel
theorem dL_law_663 : decode cL_law 663 = .ok (.ifCond .ne 15, 3) := by decide +kernel
theorem dL_law_666 : decode cL_law 666 = .ok (.aload_n 3, 1) := by decide +kernel
theorem dL_law_667 : decode cL_law 667 = .ok (.iconst 0, 1) := by decide +kernel
theorem dL_law_668 : decode cL_law 668 = .ok (.laload, 1) := by decide +kernel
theorem dL_law_669 : decode cL_law 669 = .ok (.iload 6, 2) := by decide +kernel
theorem dL_law_671 : decode cL_law 671 = .ok (.i2l, 1) := by decide +kernel
theorem dL_law_672 : decode cL_law 672 = .ok (.lcmp, 1) := by decide +kernel
theorem dL_law_673 : decode cL_law 673 = .ok (.ifCond .eq 5, 3) := by decide +kernel
theorem dL_law_676 : decode cL_law 676 = .ok (.iconst 0, 1) := by decide +kernel
theorem dL_law_677 : decode cL_law 677 = .ok (.ireturn, 1) := by decide +kernel
theorem dL_law_678 : decode cL_law 678 = .ok (.goto 496, 3) := by decide +kernel
theorem dL_law_681 : decode cL_law 681 = .ok (.aload_n 1, 1) := by decide +kernel
theorem dL_law_682 : decode cL_law 682 = .ok (.aload_n 0, 1) := by decide +kernel
theorem dL_law_683 : decode cL_law 683 = .ok (.iload 4, 2) := by decide +kernel
theorem dL_law_685 : decode cL_law 685 = .ok (.iconst 1, 1) := by decide +kernel
theorem dL_law_686 : decode cL_law 686 = .ok (.iadd, 1) := by decide +kernel
theorem dL_law_687 : decode cL_law 687 = .ok (.iaload, 1) := by decide +kernel
theorem dL_law_688 : decode cL_law 688 = .ok (.aload_n 0, 1) := by decide +kernel
theorem dL_law_689 : decode cL_law 689 = .ok (.iload 4, 2) := by decide +kernel
theorem dL_law_691 : decode cL_law 691 = .ok (.iconst 2, 1) := by decide +kernel
theorem dL_law_692 : decode cL_law 692 = .ok (.iadd, 1) := by decide +kernel
theorem dL_law_693 : decode cL_law 693 = .ok (.iaload, 1) := by decide +kernel
theorem dL_law_694 : decode cL_law 694 = .ok (.aload_n 3, 1) := by decide +kernel
theorem dL_law_695 : decode cL_law 695 = .ok (.invokestatic 95, 3) := by decide +kernel
theorem dL_law_698 : decode cL_law 698 = .ok (.istore 5, 2) := by decide +kernel
theorem dL_law_700 : decode cL_law 700 = .ok (.aload_n 2, 1) := by decide +kernel
theorem dL_law_701 : decode cL_law 701 = .ok (.aload_n 0, 1) := by decide +kernel
theorem dL_law_702 : decode cL_law 702 = .ok (.iload 4, 2) := by decide +kernel
theorem dL_law_704 : decode cL_law 704 = .ok (.iconst 1, 1) := by decide +kernel
theorem dL_law_705 : decode cL_law 705 = .ok (.iadd, 1) := by decide +kernel
theorem dL_law_706 : decode cL_law 706 = .ok (.iaload, 1) := by decide +kernel
theorem dL_law_707 : decode cL_law 707 = .ok (.aload_n 0, 1) := by decide +kernel
theorem dL_law_708 : decode cL_law 708 = .ok (.iload 4, 2) := by decide +kernel
theorem dL_law_710 : decode cL_law 710 = .ok (.iconst 2, 1) := by decide +kernel
theorem dL_law_711 : decode cL_law 711 = .ok (.iadd, 1) := by decide +kernel
theorem dL_law_712 : decode cL_law 712 = .ok (.iaload, 1) := by decide +kernel
theorem dL_law_713 : decode cL_law 713 = .ok (.invokevirtual 97, 3) := by decide +kernel
theorem dL_law_716 : decode cL_law 716 = .ok (.istore 6, 2) := by decide +kernel
theorem dL_law_718 : decode cL_law 718 = .ok (.aload_n 2, 1) := by decide +kernel
theorem dL_law_719 : decode cL_law 719 = .ok (.invokevirtual 63, 3) := by decide +kernel
theorem dL_law_722 : decode cL_law 722 = .ok (.iload 5, 2) := by decide +kernel
theorem dL_law_724 : decode cL_law 724 = .ok (.if_icmp .eq 5, 3) := by decide +kernel
theorem dL_law_727 : decode cL_law 727 = .ok (.iconst 0, 1) := by decide +kernel
theorem dL_law_728 : decode cL_law 728 = .ok (.ireturn, 1) := by decide +kernel
theorem dL_law_729 : decode cL_law 729 = .ok (.iload 5, 2) := by decide +kernel
theorem dL_law_731 : decode cL_law 731 = .ok (.ifCond .ne 15, 3) := by decide +kernel
theorem dL_law_734 : decode cL_law 734 = .ok (.aload_n 3, 1) := by decide +kernel
theorem dL_law_735 : decode cL_law 735 = .ok (.iconst 0, 1) := by decide +kernel
theorem dL_law_736 : decode cL_law 736 = .ok (.laload, 1) := by decide +kernel
theorem dL_law_737 : decode cL_law 737 = .ok (.iload 6, 2) := by decide +kernel
theorem dL_law_739 : decode cL_law 739 = .ok (.i2l, 1) := by decide +kernel
theorem dL_law_740 : decode cL_law 740 = .ok (.lcmp, 1) := by decide +kernel
theorem dL_law_741 : decode cL_law 741 = .ok (.ifCond .eq 5, 3) := by decide +kernel
theorem dL_law_744 : decode cL_law 744 = .ok (.iconst 0, 1) := by decide +kernel
theorem dL_law_745 : decode cL_law 745 = .ok (.ireturn, 1) := by decide +kernel
theorem dL_law_746 : decode cL_law 746 = .ok (.goto 428, 3) := by decide +kernel
theorem dL_law_749 : decode cL_law 749 = .ok (.aload_n 1, 1) := by decide +kernel
theorem dL_law_750 : decode cL_law 750 = .ok (.aload_n 0, 1) := by decide +kernel
theorem dL_law_751 : decode cL_law 751 = .ok (.iload 4, 2) := by decide +kernel
theorem dL_law_753 : decode cL_law 753 = .ok (.iconst 1, 1) := by decide +kernel
theorem dL_law_754 : decode cL_law 754 = .ok (.iadd, 1) := by decide +kernel
theorem dL_law_755 : decode cL_law 755 = .ok (.iaload, 1) := by decide +kernel
theorem dL_law_756 : decode cL_law 756 = .ok (.invokevirtual 98, 3) := by decide +kernel
theorem dL_law_759 : decode cL_law 759 = .ok (.aload_n 2, 1) := by decide +kernel
theorem dL_law_760 : decode cL_law 760 = .ok (.aload_n 0, 1) := by decide +kernel
theorem dL_law_761 : decode cL_law 761 = .ok (.iload 4, 2) := by decide +kernel
theorem dL_law_763 : decode cL_law 763 = .ok (.iconst 1, 1) := by decide +kernel
theorem dL_law_764 : decode cL_law 764 = .ok (.iadd, 1) := by decide +kernel
theorem dL_law_765 : decode cL_law 765 = .ok (.iaload, 1) := by decide +kernel
theorem dL_law_766 : decode cL_law 766 = .ok (.invokevirtual 101, 3) := by decide +kernel
theorem dL_law_769 : decode cL_law 769 = .ok (.if_icmp .eq 405, 3) := by decide +kernel
theorem dL_law_772 : decode cL_law 772 = .ok (.iconst 0, 1) := by decide +kernel
theorem dL_law_773 : decode cL_law 773 = .ok (.ireturn, 1) := by decide +kernel
theorem dL_law_774 : decode cL_law 774 = .ok (.aload_n 1, 1) := by decide +kernel
theorem dL_law_775 : decode cL_law 775 = .ok (.aload_n 0, 1) := by decide +kernel
theorem dL_law_776 : decode cL_law 776 = .ok (.iload 4, 2) := by decide +kernel
theorem dL_law_778 : decode cL_law 778 = .ok (.iconst 1, 1) := by decide +kernel
theorem dL_law_779 : decode cL_law 779 = .ok (.iadd, 1) := by decide +kernel
theorem dL_law_780 : decode cL_law 780 = .ok (.iaload, 1) := by decide +kernel
theorem dL_law_781 : decode cL_law 781 = .ok (.aload_n 3, 1) := by decide +kernel
theorem dL_law_782 : decode cL_law 782 = .ok (.invokestatic 102, 3) := by decide +kernel
theorem dL_law_785 : decode cL_law 785 = .ok (.istore 5, 2) := by decide +kernel
theorem dL_law_787 : decode cL_law 787 = .ok (.aload_n 2, 1) := by decide +kernel
theorem dL_law_788 : decode cL_law 788 = .ok (.aload_n 0, 1) := by decide +kernel
theorem dL_law_789 : decode cL_law 789 = .ok (.iload 4, 2) := by decide +kernel
theorem dL_law_791 : decode cL_law 791 = .ok (.iconst 1, 1) := by decide +kernel
theorem dL_law_792 : decode cL_law 792 = .ok (.iadd, 1) := by decide +kernel
theorem dL_law_793 : decode cL_law 793 = .ok (.iaload, 1) := by decide +kernel
theorem dL_law_794 : decode cL_law 794 = .ok (.invokevirtual 105, 3) := by decide +kernel
theorem dL_law_797 : decode cL_law 797 = .ok (.istore 6, 2) := by decide +kernel
theorem dL_law_799 : decode cL_law 799 = .ok (.aload_n 2, 1) := by decide +kernel
theorem dL_law_800 : decode cL_law 800 = .ok (.invokevirtual 63, 3) := by decide +kernel
theorem dL_law_803 : decode cL_law 803 = .ok (.iload 5, 2) := by decide +kernel
theorem dL_law_805 : decode cL_law 805 = .ok (.if_icmp .eq 5, 3) := by decide +kernel
theorem dL_law_808 : decode cL_law 808 = .ok (.iconst 0, 1) := by decide +kernel
theorem dL_law_809 : decode cL_law 809 = .ok (.ireturn, 1) := by decide +kernel
theorem dL_law_810 : decode cL_law 810 = .ok (.iload 5, 2) := by decide +kernel
theorem dL_law_812 : decode cL_law 812 = .ok (.ifCond .ne 15, 3) := by decide +kernel
theorem dL_law_815 : decode cL_law 815 = .ok (.aload_n 3, 1) := by decide +kernel
theorem dL_law_816 : decode cL_law 816 = .ok (.iconst 0, 1) := by decide +kernel
theorem dL_law_817 : decode cL_law 817 = .ok (.laload, 1) := by decide +kernel
theorem dL_law_818 : decode cL_law 818 = .ok (.iload 6, 2) := by decide +kernel
theorem dL_law_820 : decode cL_law 820 = .ok (.i2l, 1) := by decide +kernel
theorem dL_law_821 : decode cL_law 821 = .ok (.lcmp, 1) := by decide +kernel
theorem dL_law_822 : decode cL_law 822 = .ok (.ifCond .eq 5, 3) := by decide +kernel
theorem dL_law_825 : decode cL_law 825 = .ok (.iconst 0, 1) := by decide +kernel
theorem dL_law_826 : decode cL_law 826 = .ok (.ireturn, 1) := by decide +kernel
theorem dL_law_827 : decode cL_law 827 = .ok (.goto 347, 3) := by decide +kernel
theorem dL_law_830 : decode cL_law 830 = .ok (.aload_n 1, 1) := by decide +kernel
theorem dL_law_831 : decode cL_law 831 = .ok (.aload_n 0, 1) := by decide +kernel
theorem dL_law_832 : decode cL_law 832 = .ok (.iload 4, 2) := by decide +kernel
theorem dL_law_834 : decode cL_law 834 = .ok (.iconst 1, 1) := by decide +kernel
theorem dL_law_835 : decode cL_law 835 = .ok (.iadd, 1) := by decide +kernel
theorem dL_law_836 : decode cL_law 836 = .ok (.iaload, 1) := by decide +kernel
theorem dL_law_837 : decode cL_law 837 = .ok (.aload_n 0, 1) := by decide +kernel
theorem dL_law_838 : decode cL_law 838 = .ok (.iload 4, 2) := by decide +kernel
theorem dL_law_840 : decode cL_law 840 = .ok (.iconst 2, 1) := by decide +kernel
theorem dL_law_841 : decode cL_law 841 = .ok (.iadd, 1) := by decide +kernel
theorem dL_law_842 : decode cL_law 842 = .ok (.iaload, 1) := by decide +kernel
theorem dL_law_843 : decode cL_law 843 = .ok (.aload_n 3, 1) := by decide +kernel
theorem dL_law_844 : decode cL_law 844 = .ok (.invokestatic 106, 3) := by decide +kernel
theorem dL_law_847 : decode cL_law 847 = .ok (.istore 5, 2) := by decide +kernel
theorem dL_law_849 : decode cL_law 849 = .ok (.aload_n 2, 1) := by decide +kernel
theorem dL_law_850 : decode cL_law 850 = .ok (.aload_n 0, 1) := by decide +kernel
theorem dL_law_851 : decode cL_law 851 = .ok (.iload 4, 2) := by decide +kernel
theorem dL_law_853 : decode cL_law 853 = .ok (.iconst 1, 1) := by decide +kernel
theorem dL_law_854 : decode cL_law 854 = .ok (.iadd, 1) := by decide +kernel
theorem dL_law_855 : decode cL_law 855 = .ok (.iaload, 1) := by decide +kernel
theorem dL_law_856 : decode cL_law 856 = .ok (.aload_n 0, 1) := by decide +kernel
theorem dL_law_857 : decode cL_law 857 = .ok (.iload 4, 2) := by decide +kernel
theorem dL_law_859 : decode cL_law 859 = .ok (.iconst 2, 1) := by decide +kernel
theorem dL_law_860 : decode cL_law 860 = .ok (.iadd, 1) := by decide +kernel
theorem dL_law_861 : decode cL_law 861 = .ok (.iaload, 1) := by decide +kernel
theorem dL_law_862 : decode cL_law 862 = .ok (.invokevirtual 108, 3) := by decide +kernel
theorem dL_law_865 : decode cL_law 865 = .ok (.istore 6, 2) := by decide +kernel
theorem dL_law_867 : decode cL_law 867 = .ok (.aload_n 2, 1) := by decide +kernel
theorem dL_law_868 : decode cL_law 868 = .ok (.invokevirtual 63, 3) := by decide +kernel
theorem dL_law_871 : decode cL_law 871 = .ok (.iload 5, 2) := by decide +kernel
theorem dL_law_873 : decode cL_law 873 = .ok (.if_icmp .eq 5, 3) := by decide +kernel
theorem dL_law_876 : decode cL_law 876 = .ok (.iconst 0, 1) := by decide +kernel
theorem dL_law_877 : decode cL_law 877 = .ok (.ireturn, 1) := by decide +kernel
theorem dL_law_878 : decode cL_law 878 = .ok (.iload 5, 2) := by decide +kernel
theorem dL_law_880 : decode cL_law 880 = .ok (.ifCond .ne 22, 3) := by decide +kernel
theorem dL_law_883 : decode cL_law 883 = .ok (.aload_n 3, 1) := by decide +kernel
theorem dL_law_884 : decode cL_law 884 = .ok (.iconst 0, 1) := by decide +kernel
theorem dL_law_885 : decode cL_law 885 = .ok (.laload, 1) := by decide +kernel
theorem dL_law_886 : decode cL_law 886 = .ok (.iload 6, 2) := by decide +kernel
theorem dL_law_888 : decode cL_law 888 = .ok (.ifCond .eq 7, 3) := by decide +kernel
theorem dL_law_891 : decode cL_law 891 = .ok (.lconst 1, 1) := by decide +kernel
theorem dL_law_892 : decode cL_law 892 = .ok (.goto 4, 3) := by decide +kernel
theorem dL_law_895 : decode cL_law 895 = .ok (.lconst 0, 1) := by decide +kernel
theorem dL_law_896 : decode cL_law 896 = .ok (.lcmp, 1) := by decide +kernel
theorem dL_law_897 : decode cL_law 897 = .ok (.ifCond .eq 5, 3) := by decide +kernel
theorem dL_law_900 : decode cL_law 900 = .ok (.iconst 0, 1) := by decide +kernel
theorem dL_law_901 : decode cL_law 901 = .ok (.ireturn, 1) := by decide +kernel
theorem dL_law_902 : decode cL_law 902 = .ok (.goto 272, 3) := by decide +kernel
theorem dL_law_905 : decode cL_law 905 = .ok (.aload_n 1, 1) := by decide +kernel
theorem dL_law_906 : decode cL_law 906 = .ok (.aload_n 0, 1) := by decide +kernel
theorem dL_law_907 : decode cL_law 907 = .ok (.iload 4, 2) := by decide +kernel
theorem dL_law_909 : decode cL_law 909 = .ok (.iconst 1, 1) := by decide +kernel
theorem dL_law_910 : decode cL_law 910 = .ok (.iadd, 1) := by decide +kernel
theorem dL_law_911 : decode cL_law 911 = .ok (.iaload, 1) := by decide +kernel
theorem dL_law_912 : decode cL_law 912 = .ok (.invokevirtual 109, 3) := by decide +kernel
theorem dL_law_915 : decode cL_law 915 = .ok (.aload_n 2, 1) := by decide +kernel
theorem dL_law_916 : decode cL_law 916 = .ok (.aload_n 0, 1) := by decide +kernel
theorem dL_law_917 : decode cL_law 917 = .ok (.iload 4, 2) := by decide +kernel
theorem dL_law_919 : decode cL_law 919 = .ok (.iconst 1, 1) := by decide +kernel
theorem dL_law_920 : decode cL_law 920 = .ok (.iadd, 1) := by decide +kernel
theorem dL_law_921 : decode cL_law 921 = .ok (.iaload, 1) := by decide +kernel
theorem dL_law_922 : decode cL_law 922 = .ok (.invokevirtual 112, 3) := by decide +kernel
theorem dL_law_925 : decode cL_law 925 = .ok (.if_icmp .eq 249, 3) := by decide +kernel
theorem dL_law_928 : decode cL_law 928 = .ok (.iconst 0, 1) := by decide +kernel
theorem dL_law_929 : decode cL_law 929 = .ok (.ireturn, 1) := by decide +kernel
theorem dL_law_930 : decode cL_law 930 = .ok (.aload_n 1, 1) := by decide +kernel
theorem dL_law_931 : decode cL_law 931 = .ok (.aload_n 0, 1) := by decide +kernel
theorem dL_law_932 : decode cL_law 932 = .ok (.iload 4, 2) := by decide +kernel
theorem dL_law_934 : decode cL_law 934 = .ok (.iconst 1, 1) := by decide +kernel
theorem dL_law_935 : decode cL_law 935 = .ok (.iadd, 1) := by decide +kernel
theorem dL_law_936 : decode cL_law 936 = .ok (.iaload, 1) := by decide +kernel
theorem dL_law_937 : decode cL_law 937 = .ok (.aload_n 0, 1) := by decide +kernel
theorem dL_law_938 : decode cL_law 938 = .ok (.iload 4, 2) := by decide +kernel
theorem dL_law_940 : decode cL_law 940 = .ok (.iconst 2, 1) := by decide +kernel
theorem dL_law_941 : decode cL_law 941 = .ok (.iadd, 1) := by decide +kernel
theorem dL_law_942 : decode cL_law 942 = .ok (.iaload, 1) := by decide +kernel
theorem dL_law_943 : decode cL_law 943 = .ok (.aload_n 3, 1) := by decide +kernel
theorem dL_law_944 : decode cL_law 944 = .ok (.invokestatic 113, 3) := by decide +kernel
theorem dL_law_947 : decode cL_law 947 = .ok (.istore 5, 2) := by decide +kernel
theorem dL_law_949 : decode cL_law 949 = .ok (.aload_n 2, 1) := by decide +kernel
theorem dL_law_950 : decode cL_law 950 = .ok (.aload_n 0, 1) := by decide +kernel
theorem dL_law_951 : decode cL_law 951 = .ok (.iload 4, 2) := by decide +kernel
theorem dL_law_953 : decode cL_law 953 = .ok (.iconst 1, 1) := by decide +kernel
theorem dL_law_954 : decode cL_law 954 = .ok (.iadd, 1) := by decide +kernel
theorem dL_law_955 : decode cL_law 955 = .ok (.iaload, 1) := by decide +kernel
theorem dL_law_956 : decode cL_law 956 = .ok (.aload_n 0, 1) := by decide +kernel
theorem dL_law_957 : decode cL_law 957 = .ok (.iload 4, 2) := by decide +kernel
theorem dL_law_959 : decode cL_law 959 = .ok (.iconst 2, 1) := by decide +kernel
theorem dL_law_960 : decode cL_law 960 = .ok (.iadd, 1) := by decide +kernel
theorem dL_law_961 : decode cL_law 961 = .ok (.iaload, 1) := by decide +kernel
theorem dL_law_962 : decode cL_law 962 = .ok (.invokevirtual 115, 3) := by decide +kernel
theorem dL_law_965 : decode cL_law 965 = .ok (.istore 6, 2) := by decide +kernel
theorem dL_law_967 : decode cL_law 967 = .ok (.aload_n 2, 1) := by decide +kernel
theorem dL_law_968 : decode cL_law 968 = .ok (.invokevirtual 63, 3) := by decide +kernel
theorem dL_law_971 : decode cL_law 971 = .ok (.iload 5, 2) := by decide +kernel
theorem dL_law_973 : decode cL_law 973 = .ok (.if_icmp .eq 5, 3) := by decide +kernel
theorem dL_law_976 : decode cL_law 976 = .ok (.iconst 0, 1) := by decide +kernel
theorem dL_law_977 : decode cL_law 977 = .ok (.ireturn, 1) := by decide +kernel
theorem dL_law_978 : decode cL_law 978 = .ok (.iload 5, 2) := by decide +kernel
theorem dL_law_980 : decode cL_law 980 = .ok (.ifCond .ne 22, 3) := by decide +kernel
theorem dL_law_983 : decode cL_law 983 = .ok (.aload_n 3, 1) := by decide +kernel
theorem dL_law_984 : decode cL_law 984 = .ok (.iconst 0, 1) := by decide +kernel
theorem dL_law_985 : decode cL_law 985 = .ok (.laload, 1) := by decide +kernel
theorem dL_law_986 : decode cL_law 986 = .ok (.iload 6, 2) := by decide +kernel
theorem dL_law_988 : decode cL_law 988 = .ok (.ifCond .eq 7, 3) := by decide +kernel
theorem dL_law_991 : decode cL_law 991 = .ok (.lconst 1, 1) := by decide +kernel
theorem dL_law_992 : decode cL_law 992 = .ok (.goto 4, 3) := by decide +kernel
theorem dL_law_995 : decode cL_law 995 = .ok (.lconst 0, 1) := by decide +kernel
theorem dL_law_996 : decode cL_law 996 = .ok (.lcmp, 1) := by decide +kernel
theorem dL_law_997 : decode cL_law 997 = .ok (.ifCond .eq 5, 3) := by decide +kernel
theorem dL_law_1000 : decode cL_law 1000 = .ok (.iconst 0, 1) := by decide +kernel
theorem dL_law_1001 : decode cL_law 1001 = .ok (.ireturn, 1) := by decide +kernel
theorem dL_law_1002 : decode cL_law 1002 = .ok (.goto 172, 3) := by decide +kernel
theorem dL_law_1005 : decode cL_law 1005 = .ok (.aload_n 1, 1) := by decide +kernel
theorem dL_law_1006 : decode cL_law 1006 = .ok (.aload_n 0, 1) := by decide +kernel
theorem dL_law_1007 : decode cL_law 1007 = .ok (.iload 4, 2) := by decide +kernel
theorem dL_law_1009 : decode cL_law 1009 = .ok (.iconst 1, 1) := by decide +kernel
theorem dL_law_1010 : decode cL_law 1010 = .ok (.iadd, 1) := by decide +kernel
theorem dL_law_1011 : decode cL_law 1011 = .ok (.iaload, 1) := by decide +kernel
theorem dL_law_1012 : decode cL_law 1012 = .ok (.aload_n 0, 1) := by decide +kernel
theorem dL_law_1013 : decode cL_law 1013 = .ok (.iload 4, 2) := by decide +kernel
theorem dL_law_1015 : decode cL_law 1015 = .ok (.iconst 2, 1) := by decide +kernel
theorem dL_law_1016 : decode cL_law 1016 = .ok (.iadd, 1) := by decide +kernel
theorem dL_law_1017 : decode cL_law 1017 = .ok (.iaload, 1) := by decide +kernel
theorem dL_law_1018 : decode cL_law 1018 = .ok (.aload_n 3, 1) := by decide +kernel
theorem dL_law_1019 : decode cL_law 1019 = .ok (.invokestatic 116, 3) := by decide +kernel
theorem dL_law_1022 : decode cL_law 1022 = .ok (.istore 5, 2) := by decide +kernel
theorem dL_law_1024 : decode cL_law 1024 = .ok (.aload_n 2, 1) := by decide +kernel
theorem dL_law_1025 : decode cL_law 1025 = .ok (.aload_n 0, 1) := by decide +kernel
theorem dL_law_1026 : decode cL_law 1026 = .ok (.iload 4, 2) := by decide +kernel
theorem dL_law_1028 : decode cL_law 1028 = .ok (.iconst 1, 1) := by decide +kernel
theorem dL_law_1029 : decode cL_law 1029 = .ok (.iadd, 1) := by decide +kernel
theorem dL_law_1030 : decode cL_law 1030 = .ok (.iaload, 1) := by decide +kernel
theorem dL_law_1031 : decode cL_law 1031 = .ok (.aload_n 0, 1) := by decide +kernel
theorem dL_law_1032 : decode cL_law 1032 = .ok (.iload 4, 2) := by decide +kernel
theorem dL_law_1034 : decode cL_law 1034 = .ok (.iconst 2, 1) := by decide +kernel
theorem dL_law_1035 : decode cL_law 1035 = .ok (.iadd, 1) := by decide +kernel
theorem dL_law_1036 : decode cL_law 1036 = .ok (.iaload, 1) := by decide +kernel
theorem dL_law_1037 : decode cL_law 1037 = .ok (.invokevirtual 118, 3) := by decide +kernel
theorem dL_law_1040 : decode cL_law 1040 = .ok (.istore 6, 2) := by decide +kernel
theorem dL_law_1042 : decode cL_law 1042 = .ok (.aload_n 2, 1) := by decide +kernel
theorem dL_law_1043 : decode cL_law 1043 = .ok (.invokevirtual 63, 3) := by decide +kernel
theorem dL_law_1046 : decode cL_law 1046 = .ok (.iload 5, 2) := by decide +kernel
theorem dL_law_1048 : decode cL_law 1048 = .ok (.if_icmp .eq 5, 3) := by decide +kernel
theorem dL_law_1051 : decode cL_law 1051 = .ok (.iconst 0, 1) := by decide +kernel
theorem dL_law_1052 : decode cL_law 1052 = .ok (.ireturn, 1) := by decide +kernel
theorem dL_law_1053 : decode cL_law 1053 = .ok (.iload 5, 2) := by decide +kernel
theorem dL_law_1055 : decode cL_law 1055 = .ok (.ifCond .ne 15, 3) := by decide +kernel
theorem dL_law_1058 : decode cL_law 1058 = .ok (.aload_n 3, 1) := by decide +kernel
theorem dL_law_1059 : decode cL_law 1059 = .ok (.iconst 0, 1) := by decide +kernel
theorem dL_law_1060 : decode cL_law 1060 = .ok (.laload, 1) := by decide +kernel
theorem dL_law_1061 : decode cL_law 1061 = .ok (.iload 6, 2) := by decide +kernel
theorem dL_law_1063 : decode cL_law 1063 = .ok (.i2l, 1) := by decide +kernel
theorem dL_law_1064 : decode cL_law 1064 = .ok (.lcmp, 1) := by decide +kernel
theorem dL_law_1065 : decode cL_law 1065 = .ok (.ifCond .eq 5, 3) := by decide +kernel
theorem dL_law_1068 : decode cL_law 1068 = .ok (.iconst 0, 1) := by decide +kernel
theorem dL_law_1069 : decode cL_law 1069 = .ok (.ireturn, 1) := by decide +kernel
theorem dL_law_1070 : decode cL_law 1070 = .ok (.goto 104, 3) := by decide +kernel
theorem dL_law_1073 : decode cL_law 1073 = .ok (.aload_n 1, 1) := by decide +kernel
theorem dL_law_1074 : decode cL_law 1074 = .ok (.aload_n 0, 1) := by decide +kernel
theorem dL_law_1075 : decode cL_law 1075 = .ok (.iload 4, 2) := by decide +kernel
theorem dL_law_1077 : decode cL_law 1077 = .ok (.iconst 1, 1) := by decide +kernel
theorem dL_law_1078 : decode cL_law 1078 = .ok (.iadd, 1) := by decide +kernel
theorem dL_law_1079 : decode cL_law 1079 = .ok (.iaload, 1) := by decide +kernel
theorem dL_law_1080 : decode cL_law 1080 = .ok (.invokevirtual 119, 3) := by decide +kernel
theorem dL_law_1083 : decode cL_law 1083 = .ok (.aload_n 2, 1) := by decide +kernel
theorem dL_law_1084 : decode cL_law 1084 = .ok (.aload_n 0, 1) := by decide +kernel
theorem dL_law_1085 : decode cL_law 1085 = .ok (.iload 4, 2) := by decide +kernel
theorem dL_law_1087 : decode cL_law 1087 = .ok (.iconst 1, 1) := by decide +kernel
theorem dL_law_1088 : decode cL_law 1088 = .ok (.iadd, 1) := by decide +kernel
theorem dL_law_1089 : decode cL_law 1089 = .ok (.iaload, 1) := by decide +kernel
theorem dL_law_1090 : decode cL_law 1090 = .ok (.invokevirtual 123, 3) := by decide +kernel
theorem dL_law_1093 : decode cL_law 1093 = .ok (.if_icmp .eq 81, 3) := by decide +kernel
theorem dL_law_1096 : decode cL_law 1096 = .ok (.iconst 0, 1) := by decide +kernel
theorem dL_law_1097 : decode cL_law 1097 = .ok (.ireturn, 1) := by decide +kernel
theorem dL_law_1098 : decode cL_law 1098 = .ok (.aload_n 1, 1) := by decide +kernel
theorem dL_law_1099 : decode cL_law 1099 = .ok (.invokevirtual 124, 3) := by decide +kernel
theorem dL_law_1102 : decode cL_law 1102 = .ok (.aload_n 2, 1) := by decide +kernel
theorem dL_law_1103 : decode cL_law 1103 = .ok (.invokevirtual 127, 3) := by decide +kernel
theorem dL_law_1106 : decode cL_law 1106 = .ok (.if_icmp .eq 68, 3) := by decide +kernel
theorem dL_law_1109 : decode cL_law 1109 = .ok (.iconst 0, 1) := by decide +kernel
theorem dL_law_1110 : decode cL_law 1110 = .ok (.ireturn, 1) := by decide +kernel
theorem dL_law_1111 : decode cL_law 1111 = .ok (.aload_n 1, 1) := by decide +kernel
theorem dL_law_1112 : decode cL_law 1112 = .ok (.aload_n 0, 1) := by decide +kernel
theorem dL_law_1113 : decode cL_law 1113 = .ok (.iload 4, 2) := by decide +kernel
theorem dL_law_1115 : decode cL_law 1115 = .ok (.iconst 1, 1) := by decide +kernel
theorem dL_law_1116 : decode cL_law 1116 = .ok (.iadd, 1) := by decide +kernel
theorem dL_law_1117 : decode cL_law 1117 = .ok (.iaload, 1) := by decide +kernel
theorem dL_law_1118 : decode cL_law 1118 = .ok (.invokevirtual 128, 3) := by decide +kernel
theorem dL_law_1121 : decode cL_law 1121 = .ok (.aload_n 2, 1) := by decide +kernel
theorem dL_law_1122 : decode cL_law 1122 = .ok (.aload_n 0, 1) := by decide +kernel
theorem dL_law_1123 : decode cL_law 1123 = .ok (.iload 4, 2) := by decide +kernel
theorem dL_law_1125 : decode cL_law 1125 = .ok (.iconst 1, 1) := by decide +kernel
theorem dL_law_1126 : decode cL_law 1126 = .ok (.iadd, 1) := by decide +kernel
theorem dL_law_1127 : decode cL_law 1127 = .ok (.iaload, 1) := by decide +kernel
theorem dL_law_1128 : decode cL_law 1128 = .ok (.invokevirtual 131, 3) := by decide +kernel
theorem dL_law_1131 : decode cL_law 1131 = .ok (.if_icmp .eq 43, 3) := by decide +kernel
theorem dL_law_1134 : decode cL_law 1134 = .ok (.iconst 0, 1) := by decide +kernel
theorem dL_law_1135 : decode cL_law 1135 = .ok (.ireturn, 1) := by decide +kernel
theorem dL_law_1136 : decode cL_law 1136 = .ok (.aload_n 1, 1) := by decide +kernel
theorem dL_law_1137 : decode cL_law 1137 = .ok (.aload_n 0, 1) := by decide +kernel
theorem dL_law_1138 : decode cL_law 1138 = .ok (.iload 4, 2) := by decide +kernel
theorem dL_law_1140 : decode cL_law 1140 = .ok (.iconst 1, 1) := by decide +kernel
theorem dL_law_1141 : decode cL_law 1141 = .ok (.iadd, 1) := by decide +kernel
theorem dL_law_1142 : decode cL_law 1142 = .ok (.iaload, 1) := by decide +kernel
theorem dL_law_1143 : decode cL_law 1143 = .ok (.invokevirtual 132, 3) := by decide +kernel
theorem dL_law_1146 : decode cL_law 1146 = .ok (.aload_n 2, 1) := by decide +kernel
theorem dL_law_1147 : decode cL_law 1147 = .ok (.aload_n 0, 1) := by decide +kernel
theorem dL_law_1148 : decode cL_law 1148 = .ok (.iload 4, 2) := by decide +kernel
theorem dL_law_1150 : decode cL_law 1150 = .ok (.iconst 1, 1) := by decide +kernel
theorem dL_law_1151 : decode cL_law 1151 = .ok (.iadd, 1) := by decide +kernel
theorem dL_law_1152 : decode cL_law 1152 = .ok (.iaload, 1) := by decide +kernel
theorem dL_law_1153 : decode cL_law 1153 = .ok (.invokevirtual 135, 3) := by decide +kernel
theorem dL_law_1156 : decode cL_law 1156 = .ok (.if_icmp .eq 18, 3) := by decide +kernel
theorem dL_law_1159 : decode cL_law 1159 = .ok (.iconst 0, 1) := by decide +kernel
theorem dL_law_1160 : decode cL_law 1160 = .ok (.ireturn, 1) := by decide +kernel
theorem dL_law_1161 : decode cL_law 1161 = .ok (.aload_n 1, 1) := by decide +kernel
theorem dL_law_1162 : decode cL_law 1162 = .ok (.invokevirtual 136, 3) := by decide +kernel
theorem dL_law_1165 : decode cL_law 1165 = .ok (.aload_n 2, 1) := by decide +kernel
theorem dL_law_1166 : decode cL_law 1166 = .ok (.invokevirtual 139, 3) := by decide +kernel
theorem dL_law_1169 : decode cL_law 1169 = .ok (.if_icmp .eq 5, 3) := by decide +kernel
theorem dL_law_1172 : decode cL_law 1172 = .ok (.iconst 0, 1) := by decide +kernel
theorem dL_law_1173 : decode cL_law 1173 = .ok (.ireturn, 1) := by decide +kernel
theorem dL_law_1174 : decode cL_law 1174 = .ok (.iinc 4 4, 3) := by decide +kernel
theorem dL_law_1177 : decode cL_law 1177 = .ok (.goto (-1124), 3) := by decide +kernel
theorem dL_law_1180 : decode cL_law 1180 = .ok (.iconst 1, 1) := by decide +kernel
theorem dL_law_1181 : decode cL_law 1181 = .ok (.ireturn, 1) := by decide +kernel
end
section
/-! a machine of one's own over the kit's walk: the heap since the law's start as a list of cells; a reference is a place in that list; place 0 is the script -/
/-- the launch, the law's first state, the script's address, the classes' numbers and slots -/
abbrev mG : Type := Launch × State × Nat × va_G
/-- a method: its name, bytes, locals, answer's type, handlers -/
abbrev mM : Type := MethodName × ByteArray × Nat × Option FieldType × List (Nat × Nat × Nat × Nat)
def m_a (G : mG) : Nat → Nat
  | 0 => G.2.2.1
  | i + 1 => G.2.1.heap.size + i
def m_v (G : mG) : Value → Value
  | .ref i => .ref (m_a G i)
  | v => v
abbrev mC : Type := (FieldType × Nat × (Nat → Int32)) ⊕ (Nat × (Nat → Int64)) ⊕ (Nat × List Value) ⊕ Unit
abbrev mI (n : Nat) (f : Nat → Int32) : mC := .inl (.int, n, f)
abbrev mZ (n : Nat) (f : Nat → Int32) : mC := .inl (.boolean, n, f)
abbrev mJ (n : Nat) (f : Nat → Int64) : mC := .inr (.inl (n, f))
abbrev mO (ci : Nat) (fs : List Value) : mC := .inr (.inr (.inl (ci, fs)))
abbrev mU : mC := .inr (.inr (.inr ()))
def m_ok (G : mG) (i : Nat) (H : Heap) (c : mC) : Prop := match c with
  | .inl (ty, n, f) => ∃ cell : Cell, H[m_a G i]? = some cell ∧ G.2.1.isArrayOf cell ty ∧ cell.vm ≠ .unknown ∧ cell.slots.size = n ∧ ∀ j : Nat, j < n → cell.slots[j]? = some (.int (f j))
  | .inr (.inl (n, f)) => ∃ cell : Cell, H[m_a G i]? = some cell ∧ G.2.1.isArrayOf cell .long ∧ cell.vm ≠ .unknown ∧ cell.slots.size = n ∧ ∀ j : Nat, j < n → cell.slots[j]? = some (.long (f j))
  | .inr (.inr (.inl (ci, fs))) => ∃ r : vw_C, mCl[ci]? = some r ∧ t_OB (m_a G i) (G.2.2.2.1 ci) r.2.2 (G.2.2.2.2 ci) H (vp_V (fs.map (m_v G)))
  | .inr (.inr (.inr _)) => ∃ cell : Cell, H[m_a G i]? = some cell ∧ cell.vm = .none
def m_R (G : mG) (w : List mC) (H : Heap) : Prop := 0 < w.length ∧ G.2.1.heap.size + w.length = H.size + 1 ∧ (∀ q : Nat, q < G.2.1.heap.size → H[q]? = G.2.1.heap[q]?) ∧ ∀ (i : Nat) (c : mC), w[i]? = some c → m_ok G i H c
def m_uns : Cond := .isRef (.static "java/lang/Throwable" "UNASSIGNED_STACK" "[Ljava/lang/StackTraceElement;")
def m_sup : Cond := .isRef (.static "java/lang/Throwable" "SUPPRESSED_SENTINEL" "Ljava/util/List;")
/-- what is given of the law's first state -/
def m_G (G : mG) : Prop := G.2.2.1 < G.2.1.heap.size ∧ (∀ w ∈ lw_tbl, w.before #[] G.2.1 = true) ∧ va_K G.2.2.2 mCl [] G.2.1 ∧ G.1.stackTraces = false ∧ m_uns.before #[] G.2.1 = true ∧ m_sup.before #[] G.2.1 = true ∧ ∃ a : Nat, vk_R "GridShapes" 172 "no such place" a G.2.1
/-- how a method ends: an answer, or the one exception -/
def m_oc (G : mG) (r : Option (Option Value)) (o : Outcome) (t : State) : Prop := match r with
  | some v => o = .returned (v.map (m_v G))
  | none => ∃ (a : Nat) (cell : Cell), o = .threw a ∧ t.heap[a]? = some cell ∧ G.2.1.vm.findClass RJx00060 = some cell.cls ∧ cell.vm = .none
def m_Q (G : mG) (R : Room) (Q : Option (Option Value) → List mC → Prop) : Array Value → State → Outcome → State → Prop := fun _ st o t =>
  ∃ (r : Option (Option Value)) (w : List mC), Q r w ∧ m_oc G r o t ∧ m_R G w t.heap ∧ st.WarmedH t.vm ∧ ∃ Lc : List Loc, st.sameButNew ({ t with vm := st.vm } : State) Lc R.cells R.slots ∧ ∀ q ∈ Lc, G.2.1.heap.size ≤ q.base
def m_cw (M : mM) : Cond := match M.2.2.2.2 with
  | [] => .code M.1 M.2.1 M.2.2.1 M.2.2.2.1
  | a :: r => .codeWith M.1 M.2.1 M.2.2.1 M.2.2.2.1 (a :: r)
def m_Pc (G : mG) (av : List Value) (w : List mC) : Array Value → State → Prop := fun a U => a = (av.map (m_v G)).toArray ∧ G.2.1.WarmedH U.vm ∧ m_R G w U.heap
/-- a method's contract at these arguments and this heap -/
def m_Ct (G : mG) (M : mM) (R : Room) (av : List Value) (w : List mC) (Q : Option (Option Value) → List mC → Prop) : Prop :=
  MetFree G.1 M.1 (headSpec [m_cw M] R) (m_Pc G av w) (fun _ _ _ _ _ => True) (m_Q G R Q)
/-- the method's own frame -/
def m_Cx (G : mG) (M : mM) (p : Program) (s : State) (m : MethodId) (meth : Method) (c : Code) : Prop :=
  p.tables.exec = Jvm.exec ∧ c.code = M.2.1 ∧ c.maxLocals = M.2.2.1 ∧ meth.sig.returnType = M.2.2.2.1 ∧ meth.locks = false ∧ s.vm.findClass M.1.cls = some m.cls ∧ meth.name = M.1.name ∧ c.exceptionTable.toList = tableOf M.2.2.2.2 ∧ G.2.1.WarmedH s.vm ∧ (∀ (q : Nat) (cell : Cell), G.2.1.heap.size ≤ q → s.heap[q]? = some cell → cell.vm.isStatics = false) ∧ G.2.1.heap.size ≤ s.heap.size ∧ m_G G
def m_lv (G : mG) (ls : Array Slot) (nL : Nat) (L : List (Option Value)) : Prop := ls.size = nL ∧ lv_wf ls ∧ L.length = nL ∧ ∀ (i : Nat) (v : Value), L[i]? = some (some v) → v.category = 1 ∧ ls[i]? = some (.val (m_v G v))
def m_E (G : mG) (R : Room) (Q : Option (Option Value) → List mC → Prop) (args : Array Value) (s : State) (below : List Frame) : State → Prop := fun t => ∃ o : Outcome, t.status = .running ∧ Ended t below o ∧ m_Q G R Q args s o t
/-- from this frame and this heap the method ends as Q says -/
def m_J (G : mG) (M : mM) (R : Room) (Q : Option (Option Value) → List mC → Prop) (n k pc : Nat) (L : List (Option Value)) (st : List Value) (w : List mC) : Prop :=
  ∀ (p : Program) (e : Env) (s : State) (m : MethodId) (args : Array Value) (below : List Frame) (meth : Method) (c : Code), m_Cx G M p s m meth c → ∀ (H : Heap) (locs : List Loc) (ls : Array Slot), m_R G w H → (∀ q ∈ locs, G.2.1.heap.size ≤ q.base) → m_lv G ls M.2.2.1 L →
    W p G.1 e R s m args below meth c H locs n k (m_E G R Q args s below) (F0 m pc ls (st.map (m_v G)))
theorem m_cat (G : mG) (v : Value) : (m_v G v).category = v.category := by cases v <;> rfl
theorem m_inj {G : mG} (hb : G.2.2.1 < G.2.1.heap.size) {i j : Nat} (h : m_a G i = m_a G j) : i = j := by
  cases i <;> cases j <;> simp only [m_a] at h <;> omega
theorem m_R.lt {G : mG} {w : List mC} {H : Heap} (h : m_R G w H) : G.2.1.heap.size ≤ H.size := by
  have := h.1
  have := h.2.1
  omega
/-- a cell is kept where the heap is -/
theorem m_ok.kept {G : mG} {i : Nat} {H H' : Heap} {c : mC} (h : m_ok G i H c) (e : H'[m_a G i]? = H[m_a G i]?) : m_ok G i H' c := by
  obtain ⟨ty, n, f⟩ | ⟨n, f⟩ | ⟨ci, fs⟩ | u := c
  · obtain ⟨cell, h1, h2⟩ := h
    exact ⟨cell, e.trans h1, h2⟩
  · obtain ⟨cell, h1, h2⟩ := h
    exact ⟨cell, e.trans h1, h2⟩
  · obtain ⟨r, h1, h2⟩ := h
    exact ⟨r, h1, h2.kept e⟩
  · obtain ⟨cell, h1, h2⟩ := h
    exact ⟨cell, e.trans h1, h2⟩
/-- one cell is written -/
theorem m_R.set {G : mG} {w : List mC} {H H' : Heap} {i : Nat} {c c' : mC} (h : m_R G w H) (hb : G.2.2.1 < G.2.1.heap.size) (hi : w[i + 1]? = some c) (hz : H'.size = H.size) (hq : ∀ q : Nat, q ≠ m_a G (i + 1) → H'[q]? = H[q]?) (hc : m_ok G (i + 1) H' c') : m_R G (w.set (i + 1) c') H' := by
  obtain ⟨h0, h1, h2, h3⟩ := h
  refine ⟨by simpa using h0, by simpa [hz] using h1, fun q hlt => ?_, fun j d hj => ?_⟩
  · rw [hq q (by simp only [m_a]; omega)]
    exact h2 q hlt
  · by_cases hij : j = i + 1
    · subst hij
      have hl := (List.getElem?_eq_some_iff.mp hi).1
      rw [List.getElem?_set_self hl] at hj
      cases hj
      exact hc
    · rw [List.getElem?_set_ne (Ne.symm hij)] at hj
      exact (h3 j d hj).kept (hq _ (fun q => hij (m_inj hb q)))
/-- one cell comes -/
theorem m_R.push {G : mG} {w : List mC} {H H' : Heap} {c : mC} (h : m_R G w H) (hb : G.2.2.1 < G.2.1.heap.size) (hz : H'.size = H.size + 1) (hq : ∀ q : Nat, q < H.size → H'[q]? = H[q]?) (hc : m_ok G w.length H' c) : m_R G (w ++ [c]) H' := by
  have hlt := h.lt
  obtain ⟨h0, h1, h2, h3⟩ := h
  refine ⟨by simp, by simp; omega, fun q hlt' => ?_, fun j d hj => ?_⟩
  · rw [hq q (by omega)]
    exact h2 q hlt'
  · by_cases hl : j < w.length
    · rw [List.getElem?_append_left hl] at hj
      refine (h3 j d hj).kept (hq _ ?_)
      cases j with
      | zero => simp only [m_a]; omega
      | succ j => simp only [m_a]; omega
    · rw [List.getElem?_append_right (by omega)] at hj
      have hz1 : j - w.length < 1 := (List.getElem?_eq_some_iff.mp hj).1
      have hj0 : j = w.length := by omega
      subst hj0
      rw [Nat.sub_self] at hj
      cases hj
      exact hc
theorem m_at {G : mG} {w : List mC} {H : Heap} (h : m_R G w H) : m_a G w.length = H.size := by
  obtain ⟨h0, h1, -⟩ := h
  obtain ⟨n, hn⟩ : ∃ n, w.length = n + 1 := ⟨w.length - 1, by omega⟩
  rw [hn] at h1 ⊢
  simp only [m_a]
  omega
/-! ## the locals -/
def m_ll (G : mG) (L : List (Option Value)) : List (Nat × Value) := (List.range L.length).filterMap fun i => match L[i]? with
  | some (some v) => some (i, m_v G v)
  | _ => none
theorem m_ll_mem {G : mG} {L : List (Option Value)} {q : Nat × Value} : q ∈ m_ll G L ↔ ∃ v : Value, L[q.1]? = some (some v) ∧ q.2 = m_v G v := by
  unfold m_ll
  rw [List.mem_filterMap]
  constructor
  · rintro ⟨i, -, hi⟩
    split at hi
    · rename_i v hv
      cases hi
      exact ⟨v, hv, rfl⟩
    · cases hi
  · rintro ⟨v, hv, he⟩
    refine ⟨q.1, List.mem_range.mpr (List.getElem?_eq_some_iff.mp hv).1, ?_⟩
    rw [hv]
    simp [← he]
theorem m_lv.has {G : mG} {ls : Array Slot} {nL : Nat} {L : List (Option Value)} (h : m_lv G ls nL L) : lv_has ls nL (m_ll G L) := by
  refine ⟨h.1, h.2.1, fun q hq => ?_⟩
  obtain ⟨v, hv, he⟩ := m_ll_mem.mp hq
  rw [he]
  exact (h.2.2.2 _ _ hv).2
theorem m_lv.stored {G : mG} {ls ls' : Array Slot} {nL i : Nat} {L : List (Option Value)} {v : Value} (h : m_lv G ls nL L) (hc : v.category = 1) (hs : lv_has ls' nL ((i, m_v G v) :: (m_ll G L).filter (fun q => !(q.1 == i) && !(q.1 + 1 == i && q.2.category == 2)))) : m_lv G ls' nL (L.set i (some v)) := by
  refine ⟨hs.1, hs.2.1, by simpa using h.2.2.1, fun j x hj => ?_⟩
  by_cases hij : j = i
  · subst hij
    have hl : j < L.length := by
      have := (List.getElem?_eq_some_iff.mp hj).1
      simpa using this
    rw [List.getElem?_set_self hl] at hj
    cases hj
    exact ⟨hc, hs.2.2 _ List.mem_cons_self⟩
  · rw [List.getElem?_set_ne (Ne.symm hij)] at hj
    refine ⟨(h.2.2.2 _ _ hj).1, hs.2.2 (j, m_v G x) (List.mem_cons_of_mem _ (List.mem_filter.mpr ⟨m_ll_mem.mpr ⟨x, hj, rfl⟩, ?_⟩))⟩
    have h1 := (h.2.2.2 _ _ hj).1
    rw [← m_cat G] at h1
    simp [hij, h1]
/-- a store of what isn't told -/
theorem m_lv.dropped {G : mG} {ls ls' : Array Slot} {nL i : Nat} {L : List (Option Value)} {v : Value} (h : m_lv G ls nL L) (hs : lv_has ls' nL ((i, v) :: (m_ll G L).filter (fun q => !(q.1 == i) && !(q.1 + 1 == i && q.2.category == 2)))) : m_lv G ls' nL (L.set i none) := by
  refine ⟨hs.1, hs.2.1, by simpa using h.2.2.1, fun j x hj => ?_⟩
  by_cases hij : j = i
  · subst hij
    have hl : j < L.length := by
      have := (List.getElem?_eq_some_iff.mp hj).1
      simpa using this
    rw [List.getElem?_set_self hl] at hj
    cases hj
  · rw [List.getElem?_set_ne (Ne.symm hij)] at hj
    refine ⟨(h.2.2.2 _ _ hj).1, hs.2.2 (j, m_v G x) (List.mem_cons_of_mem _ (List.mem_filter.mpr ⟨m_ll_mem.mpr ⟨x, hj, rfl⟩, ?_⟩))⟩
    have h1 := (h.2.2.2 _ _ hj).1
    rw [← m_cat G] at h1
    simp [hij, h1]
end
section
section MJ
variable {G : mG} {M : mM} {R : Room} {Q : Option (Option Value) → List mC → Prop} {nc ns pc : Nat} {L : List (Option Value)} {st : List Value} {w : List mC}
theorem m_word {U : State} (hG : m_G G) (hW : G.2.1.WarmedH U.vm) {x : Cond} (hx : x ∈ lw_tbl) (hg : goodWord x = true) (a : Array Value) : x.before a U = true := word_at hW (good_of_word hg) (hG.2.1 x hx)
theorem m_K {U : State} (hG : m_G G) (hW : G.2.1.WarmedH U.vm) : va_K G.2.2.2 mCl [] U := va_K.moved hW.alike hG.2.2.1
theorem m_iconst (pc' : Nat) {z : Int} {v : Int32} (hd : decode M.2.1 pc = .ok (.iconst z, 1)) (hp : pc + 1 = pc') (hv : Int32.ofInt z = v)
    (k : m_J G M R Q nc ns pc' L (.int v :: st) w) : m_J G M R Q nc ns pc L (st) w := by
  intro p e s m args below meth c C H locs ls hR hlo hL
  subst hp
  exact lv_iconst C.1 C.2.1 hd hv (k p e s m args below meth c C H locs ls hR hlo hL)
theorem m_bipush (pc' : Nat) {z : Int} {v : Int32} (hd : decode M.2.1 pc = .ok (.bipush z, 2)) (hp : pc + 2 = pc') (hv : (Int8.ofInt z).toInt32 = v)
    (k : m_J G M R Q nc ns pc' L (.int v :: st) w) : m_J G M R Q nc ns pc L (st) w := by
  intro p e s m args below meth c C H locs ls hR hlo hL
  subst hp
  exact lv_bipush C.1 C.2.1 hd hv (k p e s m args below meth c C H locs ls hR hlo hL)
theorem m_sipush (pc' : Nat) {z : Int} {v : Int32} (hd : decode M.2.1 pc = .ok (.sipush z, 3)) (hp : pc + 3 = pc') (hv : (Int16.ofInt z).toInt32 = v)
    (k : m_J G M R Q nc ns pc' L (.int v :: st) w) : m_J G M R Q nc ns pc L (st) w := by
  intro p e s m args below meth c C H locs ls hR hlo hL
  subst hp
  exact lv_sipush C.1 C.2.1 hd hv (k p e s m args below meth c C H locs ls hR hlo hL)
theorem m_lconst (pc' : Nat) {z : Fin 2} {v : Int64} (hd : decode M.2.1 pc = .ok (.lconst z, 1)) (hp : pc + 1 = pc') (hv : Int64.ofNat (z : Nat) = v)
    (k : m_J G M R Q nc ns pc' L (.long v :: st) w) : m_J G M R Q nc ns pc L (st) w := by
  intro p e s m args below meth c C H locs ls hR hlo hL
  subst hp
  exact lv_lconst C.1 C.2.1 hd hv (k p e s m args below meth c C H locs ls hR hlo hL)
theorem m_iload_n (pc' : Nat) {z : Fin 4} {x : Int32} (hd : decode M.2.1 pc = .ok (.iload_n z, 1)) (hp : pc + 1 = pc') (hl : L[(z : Nat)]? = some (some (.int x)))
    (k : m_J G M R Q nc ns pc' L (.int x :: st) w) : m_J G M R Q nc ns pc L (st) w := by
  intro p e s m args below meth c C H locs ls hR hlo hL
  subst hp
  exact lv_iload_n C.1 C.2.1 hd rfl ((hL.2.2.2 _ _ hl).2) (k p e s m args below meth c C H locs ls hR hlo hL)
theorem m_iload (pc' : Nat) {i : Nat} {x : Int32} (hd : decode M.2.1 pc = .ok (.iload i, 2)) (hp : pc + 2 = pc') (hl : L[i]? = some (some (.int x)))
    (k : m_J G M R Q nc ns pc' L (.int x :: st) w) : m_J G M R Q nc ns pc L (st) w := by
  intro p e s m args below meth c C H locs ls hR hlo hL
  subst hp
  exact lv_iload C.1 C.2.1 hd ((hL.2.2.2 _ _ hl).2) (k p e s m args below meth c C H locs ls hR hlo hL)
theorem m_aload_n (pc' : Nat) {z : Fin 4} {x : Nat} (hd : decode M.2.1 pc = .ok (.aload_n z, 1)) (hp : pc + 1 = pc') (hl : L[(z : Nat)]? = some (some (.ref x)))
    (k : m_J G M R Q nc ns pc' L (.ref x :: st) w) : m_J G M R Q nc ns pc L (st) w := by
  intro p e s m args below meth c C H locs ls hR hlo hL
  subst hp
  exact lv_aload_n C.1 C.2.1 hd rfl ((hL.2.2.2 _ _ hl).2) (k p e s m args below meth c C H locs ls hR hlo hL)
theorem m_aload (pc' : Nat) {i x : Nat} (hd : decode M.2.1 pc = .ok (.aload i, 2)) (hp : pc + 2 = pc') (hl : L[i]? = some (some (.ref x)))
    (k : m_J G M R Q nc ns pc' L (.ref x :: st) w) : m_J G M R Q nc ns pc L (st) w := by
  intro p e s m args below meth c C H locs ls hR hlo hL
  subst hp
  exact lv_aload C.1 C.2.1 hd ((hL.2.2.2 _ _ hl).2) (k p e s m args below meth c C H locs ls hR hlo hL)
theorem m_iadd (pc' : Nat) {x y : Int32} (hd : decode M.2.1 pc = .ok (.iadd, 1)) (hp : pc + 1 = pc') 
    (k : m_J G M R Q nc ns pc' L (.int (x + y) :: st) w) : m_J G M R Q nc ns pc L (.int y :: .int x :: st) w := by
  intro p e s m args below meth c C H locs ls hR hlo hL
  subst hp
  exact lv_iadd C.1 C.2.1 hd  (k p e s m args below meth c C H locs ls hR hlo hL)
theorem m_isub (pc' : Nat) {x y : Int32} (hd : decode M.2.1 pc = .ok (.isub, 1)) (hp : pc + 1 = pc') 
    (k : m_J G M R Q nc ns pc' L (.int (x - y) :: st) w) : m_J G M R Q nc ns pc L (.int y :: .int x :: st) w := by
  intro p e s m args below meth c C H locs ls hR hlo hL
  subst hp
  exact lv_isub C.1 C.2.1 hd  (k p e s m args below meth c C H locs ls hR hlo hL)
theorem m_imul (pc' : Nat) {x y : Int32} (hd : decode M.2.1 pc = .ok (.imul, 1)) (hp : pc + 1 = pc') 
    (k : m_J G M R Q nc ns pc' L (.int (x * y) :: st) w) : m_J G M R Q nc ns pc L (.int y :: .int x :: st) w := by
  intro p e s m args below meth c C H locs ls hR hlo hL
  subst hp
  exact lv_imul C.1 C.2.1 hd  (k p e s m args below meth c C H locs ls hR hlo hL)
theorem m_iand (pc' : Nat) {x y : Int32} (hd : decode M.2.1 pc = .ok (.iand, 1)) (hp : pc + 1 = pc') 
    (k : m_J G M R Q nc ns pc' L (.int (x &&& y) :: st) w) : m_J G M R Q nc ns pc L (.int y :: .int x :: st) w := by
  intro p e s m args below meth c C H locs ls hR hlo hL
  subst hp
  exact lv_iand C.1 C.2.1 hd  (k p e s m args below meth c C H locs ls hR hlo hL)
theorem m_ior (pc' : Nat) {x y : Int32} (hd : decode M.2.1 pc = .ok (.ior, 1)) (hp : pc + 1 = pc') 
    (k : m_J G M R Q nc ns pc' L (.int (x ||| y) :: st) w) : m_J G M R Q nc ns pc L (.int y :: .int x :: st) w := by
  intro p e s m args below meth c C H locs ls hR hlo hL
  subst hp
  exact lv_ior C.1 C.2.1 hd  (k p e s m args below meth c C H locs ls hR hlo hL)
theorem m_ixor (pc' : Nat) {x y : Int32} (hd : decode M.2.1 pc = .ok (.ixor, 1)) (hp : pc + 1 = pc') 
    (k : m_J G M R Q nc ns pc' L (.int (x ^^^ y) :: st) w) : m_J G M R Q nc ns pc L (.int y :: .int x :: st) w := by
  intro p e s m args below meth c C H locs ls hR hlo hL
  subst hp
  exact lv_ixor C.1 C.2.1 hd  (k p e s m args below meth c C H locs ls hR hlo hL)
theorem m_ishr (pc' : Nat) {x y : Int32} (hd : decode M.2.1 pc = .ok (.ishr, 1)) (hp : pc + 1 = pc') 
    (k : m_J G M R Q nc ns pc' L (.int (x >>> (y &&& 31)) :: st) w) : m_J G M R Q nc ns pc L (.int y :: .int x :: st) w := by
  intro p e s m args below meth c C H locs ls hR hlo hL
  subst hp
  exact lv_ishr C.1 C.2.1 hd  (k p e s m args below meth c C H locs ls hR hlo hL)
theorem m_ishl (pc' : Nat) {x y : Int32} (hd : decode M.2.1 pc = .ok (.ishl, 1)) (hp : pc + 1 = pc') 
    (k : m_J G M R Q nc ns pc' L (.int (x <<< (y &&& 31)) :: st) w) : m_J G M R Q nc ns pc L (.int y :: .int x :: st) w := by
  intro p e s m args below meth c C H locs ls hR hlo hL
  subst hp
  exact lv_ishl C.1 C.2.1 hd  (k p e s m args below meth c C H locs ls hR hlo hL)
theorem m_idiv (pc' : Nat) {x y : Int32} (hd : decode M.2.1 pc = .ok (.idiv, 1)) (hp : pc + 1 = pc') (hne : ¬ y = 0)
    (k : m_J G M R Q nc ns pc' L (.int (x / y) :: st) w) : m_J G M R Q nc ns pc L (.int y :: .int x :: st) w := by
  intro p e s m args below meth c C H locs ls hR hlo hL
  subst hp
  exact lv_idiv C.1 C.2.1 hd hne (k p e s m args below meth c C H locs ls hR hlo hL)
theorem m_irem (pc' : Nat) {x y : Int32} (hd : decode M.2.1 pc = .ok (.irem, 1)) (hp : pc + 1 = pc') (hne : ¬ y = 0)
    (k : m_J G M R Q nc ns pc' L (.int (x - x / y * y) :: st) w) : m_J G M R Q nc ns pc L (.int y :: .int x :: st) w := by
  intro p e s m args below meth c C H locs ls hR hlo hL
  subst hp
  exact lv_irem C.1 C.2.1 hd hne (k p e s m args below meth c C H locs ls hR hlo hL)
theorem m_i2l (pc' : Nat) {x : Int32} (hd : decode M.2.1 pc = .ok (.i2l, 1)) (hp : pc + 1 = pc') 
    (k : m_J G M R Q nc ns pc' L (.long x.toInt64 :: st) w) : m_J G M R Q nc ns pc L (.int x :: st) w := by
  intro p e s m args below meth c C H locs ls hR hlo hL
  subst hp
  exact lv_i2l C.1 C.2.1 hd rfl (k p e s m args below meth c C H locs ls hR hlo hL)
theorem m_dup (pc' : Nat) {v : Value} (hd : decode M.2.1 pc = .ok (.dup, 1)) (hp : pc + 1 = pc') (hv : v.category = 1)
    (k : m_J G M R Q nc ns pc' L (v :: v :: st) w) : m_J G M R Q nc ns pc L (v :: st) w := by
  intro p e s m args below meth c C H locs ls hR hlo hL
  subst hp
  exact lv_dup C.1 C.2.1 hd (by rw [m_cat]; exact hv) (k p e s m args below meth c C H locs ls hR hlo hL)
theorem m_pop (pc' : Nat) {v : Value} (hd : decode M.2.1 pc = .ok (.pop, 1)) (hp : pc + 1 = pc') (hv : v.category = 1)
    (k : m_J G M R Q nc ns pc' L (st) w) : m_J G M R Q nc ns pc L (v :: st) w := by
  intro p e s m args below meth c C H locs ls hR hlo hL
  subst hp
  exact lv_pop C.1 C.2.1 hd (by rw [m_cat]; exact hv) (k p e s m args below meth c C H locs ls hR hlo hL)
theorem m_dup_x1 (pc' : Nat) {v u : Value} (hd : decode M.2.1 pc = .ok (.dup_x1, 1)) (hp : pc + 1 = pc') (hv : v.category = 1) (hu : u.category = 1)
    (k : m_J G M R Q nc ns pc' L (v :: u :: v :: st) w) : m_J G M R Q nc ns pc L (v :: u :: st) w := by
  intro p e s m args below meth c C H locs ls hR hlo hL
  subst hp
  exact lv_dup_x1 C.1 C.2.1 hd (by rw [m_cat]; exact hv) (by rw [m_cat]; exact hu) (k p e s m args below meth c C H locs ls hR hlo hL)
theorem m_dup2 (pc' : Nat) {v u : Value} (hd : decode M.2.1 pc = .ok (.dup2, 1)) (hp : pc + 1 = pc') (hv : v.category = 1) (hu : u.category = 1)
    (k : m_J G M R Q nc ns pc' L (v :: u :: v :: u :: st) w) : m_J G M R Q nc ns pc L (v :: u :: st) w := by
  intro p e s m args below meth c C H locs ls hR hlo hL
  subst hp
  exact lv_dup2_11 C.1 C.2.1 hd (by rw [m_cat]; exact hv) (by rw [m_cat]; exact hu) (k p e s m args below meth c C H locs ls hR hlo hL)
theorem m_istore_n (pc' : Nat) {z : Fin 4} {x : Int32} (hd : decode M.2.1 pc = .ok (.istore_n z, 1)) (hp : pc + 1 = pc') (hi : (z : Nat) < M.2.2.1)
    (k : m_J G M R Q nc ns pc' (L.set (z : Nat) (some (.int x))) st w) : m_J G M R Q nc ns pc L (.int x :: st) w := by
  intro p e s m args below meth c C H locs ls hR hlo hL
  subst hp
  exact lv_istore_n C.1 C.2.1 hd rfl hL.has hi rfl (fun ls' h' => k p e s m args below meth c C H locs ls' hR hlo (hL.stored rfl h'))
theorem m_istore (pc' : Nat) {i : Nat} {x : Int32} (hd : decode M.2.1 pc = .ok (.istore i, 2)) (hp : pc + 2 = pc') (hi : i < M.2.2.1)
    (k : m_J G M R Q nc ns pc' (L.set i (some (.int x))) st w) : m_J G M R Q nc ns pc L (.int x :: st) w := by
  intro p e s m args below meth c C H locs ls hR hlo hL
  subst hp
  exact lv_istore C.1 C.2.1 hd hL.has hi rfl (fun ls' h' => k p e s m args below meth c C H locs ls' hR hlo (hL.stored rfl h'))
theorem m_astore_n (pc' : Nat) {z : Fin 4} {x : Nat} (hd : decode M.2.1 pc = .ok (.astore_n z, 1)) (hp : pc + 1 = pc') (hi : (z : Nat) < M.2.2.1)
    (k : m_J G M R Q nc ns pc' (L.set (z : Nat) (some (.ref x))) st w) : m_J G M R Q nc ns pc L (.ref x :: st) w := by
  intro p e s m args below meth c C H locs ls hR hlo hL
  subst hp
  exact lv_astore_n C.1 C.2.1 hd rfl hL.has hi rfl (fun ls' h' => k p e s m args below meth c C H locs ls' hR hlo (hL.stored rfl h'))
theorem m_astore (pc' : Nat) {i x : Nat} (hd : decode M.2.1 pc = .ok (.astore i, 2)) (hp : pc + 2 = pc') (hi : i < M.2.2.1)
    (k : m_J G M R Q nc ns pc' (L.set i (some (.ref x))) st w) : m_J G M R Q nc ns pc L (.ref x :: st) w := by
  intro p e s m args below meth c C H locs ls hR hlo hL
  subst hp
  exact lv_astore C.1 C.2.1 hd hL.has hi rfl (fun ls' h' => k p e s m args below meth c C H locs ls' hR hlo (hL.stored rfl h'))
theorem m_iinc (pc' : Nat) {i : Nat} {z : Int} {x v : Int32} (hd : decode M.2.1 pc = .ok (.iinc i z, 3)) (hp : pc + 3 = pc') (hl : L[i]? = some (some (.int x))) (hv : x + Int32.ofInt z = v) (hi : i < M.2.2.1)
    (k : m_J G M R Q nc ns pc' (L.set i (some (.int v))) st w) : m_J G M R Q nc ns pc L st w := by
  intro p e s m args below meth c C H locs ls hR hlo hL
  subst hp
  obtain ⟨q, hq⟩ := List.getElem?_of_mem ((m_ll_mem (G := G) (L := L) (q := (i, .int x))).mpr ⟨.int x, hl, rfl⟩)
  exact lv_iinc C.1 C.2.1 hd hL.has hq hv hi rfl (fun ls' h' => k p e s m args below meth c C H locs ls' hR hlo (hL.stored rfl h'))
theorem m_if_eq (pc' tgt : Nat) {x : Int32} {off : Int} (hd : decode M.2.1 pc = .ok (.ifCond .eq off, 3)) (hp : pc + 3 = pc') (ht : (pc : Int) + off = (tgt : Int))
    (kt : x = 0 → m_J G M R Q nc ns tgt L st w) (kf : ¬ x = 0 → m_J G M R Q nc ns pc' L st w) : m_J G M R Q nc ns pc L (.int x :: st) w := by
  intro p e s m args below meth c C H locs ls hR hlo hL
  subst hp
  exact lv_if_eq C.1 C.2.1 hd ht (fun h => kt h p e s m args below meth c C H locs ls hR hlo hL) (fun h => kf h p e s m args below meth c C H locs ls hR hlo hL)
theorem m_icmp_eq (pc' tgt : Nat) {x y : Int32} {off : Int} (hd : decode M.2.1 pc = .ok (.if_icmp .eq off, 3)) (hp : pc + 3 = pc') (ht : (pc : Int) + off = (tgt : Int))
    (kt : x = y → m_J G M R Q nc ns tgt L st w) (kf : ¬ x = y → m_J G M R Q nc ns pc' L st w) : m_J G M R Q nc ns pc L (.int y :: .int x :: st) w := by
  intro p e s m args below meth c C H locs ls hR hlo hL
  subst hp
  exact lv_icmp_eq C.1 C.2.1 hd ht (fun h => kt h p e s m args below meth c C H locs ls hR hlo hL) (fun h => kf h p e s m args below meth c C H locs ls hR hlo hL)
theorem m_if_ne (pc' tgt : Nat) {x : Int32} {off : Int} (hd : decode M.2.1 pc = .ok (.ifCond .ne off, 3)) (hp : pc + 3 = pc') (ht : (pc : Int) + off = (tgt : Int))
    (kt : ¬ x = 0 → m_J G M R Q nc ns tgt L st w) (kf : x = 0 → m_J G M R Q nc ns pc' L st w) : m_J G M R Q nc ns pc L (.int x :: st) w := by
  intro p e s m args below meth c C H locs ls hR hlo hL
  subst hp
  exact lv_if_ne C.1 C.2.1 hd ht (fun h => kt h p e s m args below meth c C H locs ls hR hlo hL) (fun h => kf h p e s m args below meth c C H locs ls hR hlo hL)
theorem m_icmp_ne (pc' tgt : Nat) {x y : Int32} {off : Int} (hd : decode M.2.1 pc = .ok (.if_icmp .ne off, 3)) (hp : pc + 3 = pc') (ht : (pc : Int) + off = (tgt : Int))
    (kt : ¬ x = y → m_J G M R Q nc ns tgt L st w) (kf : x = y → m_J G M R Q nc ns pc' L st w) : m_J G M R Q nc ns pc L (.int y :: .int x :: st) w := by
  intro p e s m args below meth c C H locs ls hR hlo hL
  subst hp
  exact lv_icmp_ne C.1 C.2.1 hd ht (fun h => kt h p e s m args below meth c C H locs ls hR hlo hL) (fun h => kf h p e s m args below meth c C H locs ls hR hlo hL)
theorem m_if_lt (pc' tgt : Nat) {x : Int32} {off : Int} (hd : decode M.2.1 pc = .ok (.ifCond .lt off, 3)) (hp : pc + 3 = pc') (ht : (pc : Int) + off = (tgt : Int))
    (kt : x < 0 → m_J G M R Q nc ns tgt L st w) (kf : ¬ x < 0 → m_J G M R Q nc ns pc' L st w) : m_J G M R Q nc ns pc L (.int x :: st) w := by
  intro p e s m args below meth c C H locs ls hR hlo hL
  subst hp
  exact lv_if_lt C.1 C.2.1 hd ht (fun h => kt h p e s m args below meth c C H locs ls hR hlo hL) (fun h => kf h p e s m args below meth c C H locs ls hR hlo hL)
theorem m_icmp_lt (pc' tgt : Nat) {x y : Int32} {off : Int} (hd : decode M.2.1 pc = .ok (.if_icmp .lt off, 3)) (hp : pc + 3 = pc') (ht : (pc : Int) + off = (tgt : Int))
    (kt : x < y → m_J G M R Q nc ns tgt L st w) (kf : ¬ x < y → m_J G M R Q nc ns pc' L st w) : m_J G M R Q nc ns pc L (.int y :: .int x :: st) w := by
  intro p e s m args below meth c C H locs ls hR hlo hL
  subst hp
  exact lv_icmp_lt C.1 C.2.1 hd ht (fun h => kt h p e s m args below meth c C H locs ls hR hlo hL) (fun h => kf h p e s m args below meth c C H locs ls hR hlo hL)
theorem m_if_ge (pc' tgt : Nat) {x : Int32} {off : Int} (hd : decode M.2.1 pc = .ok (.ifCond .ge off, 3)) (hp : pc + 3 = pc') (ht : (pc : Int) + off = (tgt : Int))
    (kt : 0 ≤ x → m_J G M R Q nc ns tgt L st w) (kf : ¬ 0 ≤ x → m_J G M R Q nc ns pc' L st w) : m_J G M R Q nc ns pc L (.int x :: st) w := by
  intro p e s m args below meth c C H locs ls hR hlo hL
  subst hp
  exact lv_if_ge C.1 C.2.1 hd ht (fun h => kt h p e s m args below meth c C H locs ls hR hlo hL) (fun h => kf h p e s m args below meth c C H locs ls hR hlo hL)
theorem m_icmp_ge (pc' tgt : Nat) {x y : Int32} {off : Int} (hd : decode M.2.1 pc = .ok (.if_icmp .ge off, 3)) (hp : pc + 3 = pc') (ht : (pc : Int) + off = (tgt : Int))
    (kt : y ≤ x → m_J G M R Q nc ns tgt L st w) (kf : ¬ y ≤ x → m_J G M R Q nc ns pc' L st w) : m_J G M R Q nc ns pc L (.int y :: .int x :: st) w := by
  intro p e s m args below meth c C H locs ls hR hlo hL
  subst hp
  exact lv_icmp_ge C.1 C.2.1 hd ht (fun h => kt h p e s m args below meth c C H locs ls hR hlo hL) (fun h => kf h p e s m args below meth c C H locs ls hR hlo hL)
theorem m_if_gt (pc' tgt : Nat) {x : Int32} {off : Int} (hd : decode M.2.1 pc = .ok (.ifCond .gt off, 3)) (hp : pc + 3 = pc') (ht : (pc : Int) + off = (tgt : Int))
    (kt : 0 < x → m_J G M R Q nc ns tgt L st w) (kf : ¬ 0 < x → m_J G M R Q nc ns pc' L st w) : m_J G M R Q nc ns pc L (.int x :: st) w := by
  intro p e s m args below meth c C H locs ls hR hlo hL
  subst hp
  exact lv_if_gt C.1 C.2.1 hd ht (fun h => kt h p e s m args below meth c C H locs ls hR hlo hL) (fun h => kf h p e s m args below meth c C H locs ls hR hlo hL)
theorem m_icmp_gt (pc' tgt : Nat) {x y : Int32} {off : Int} (hd : decode M.2.1 pc = .ok (.if_icmp .gt off, 3)) (hp : pc + 3 = pc') (ht : (pc : Int) + off = (tgt : Int))
    (kt : y < x → m_J G M R Q nc ns tgt L st w) (kf : ¬ y < x → m_J G M R Q nc ns pc' L st w) : m_J G M R Q nc ns pc L (.int y :: .int x :: st) w := by
  intro p e s m args below meth c C H locs ls hR hlo hL
  subst hp
  exact lv_icmp_gt C.1 C.2.1 hd ht (fun h => kt h p e s m args below meth c C H locs ls hR hlo hL) (fun h => kf h p e s m args below meth c C H locs ls hR hlo hL)
theorem m_if_le (pc' tgt : Nat) {x : Int32} {off : Int} (hd : decode M.2.1 pc = .ok (.ifCond .le off, 3)) (hp : pc + 3 = pc') (ht : (pc : Int) + off = (tgt : Int))
    (kt : x ≤ 0 → m_J G M R Q nc ns tgt L st w) (kf : ¬ x ≤ 0 → m_J G M R Q nc ns pc' L st w) : m_J G M R Q nc ns pc L (.int x :: st) w := by
  intro p e s m args below meth c C H locs ls hR hlo hL
  subst hp
  exact lv_if_le C.1 C.2.1 hd ht (fun h => kt h p e s m args below meth c C H locs ls hR hlo hL) (fun h => kf h p e s m args below meth c C H locs ls hR hlo hL)
theorem m_icmp_le (pc' tgt : Nat) {x y : Int32} {off : Int} (hd : decode M.2.1 pc = .ok (.if_icmp .le off, 3)) (hp : pc + 3 = pc') (ht : (pc : Int) + off = (tgt : Int))
    (kt : x ≤ y → m_J G M R Q nc ns tgt L st w) (kf : ¬ x ≤ y → m_J G M R Q nc ns pc' L st w) : m_J G M R Q nc ns pc L (.int y :: .int x :: st) w := by
  intro p e s m args below meth c C H locs ls hR hlo hL
  subst hp
  exact lv_icmp_le C.1 C.2.1 hd ht (fun h => kt h p e s m args below meth c C H locs ls hR hlo hL) (fun h => kf h p e s m args below meth c C H locs ls hR hlo hL)
theorem m_goto (tgt : Nat) {off : Int} (hd : decode M.2.1 pc = .ok (.goto off, 3)) (ht : (pc : Int) + off = (tgt : Int)) (k : m_J G M R Q nc ns tgt L st w) : m_J G M R Q nc ns pc L st w := by
  intro p e s m args below meth c C H locs ls hR hlo hL
  exact lv_goto C.1 C.2.1 hd ht (k p e s m args below meth c C H locs ls hR hlo hL)
theorem m_lcmp (pc' : Nat) {x y : Int64} (hd : decode M.2.1 pc = .ok (.lcmp, 1)) (hp : pc + 1 = pc')
    (k : m_J G M R Q nc ns pc' L (.int (lg_cmp x y) :: st) w) : m_J G M R Q nc ns pc L (.long y :: .long x :: st) w := by
  intro p e s m args below meth c C H locs ls hR hlo hL
  subst hp
  exact W.lcmp C.1 C.2.1 hd (k p e s m args below meth c C H locs ls hR hlo hL)
theorem m_tableOut (tgt : Nat) {dflt lo hi : Int} {offs : Array Int} {len : Nat} {x : Int32} (hd : decode M.2.1 pc = .ok (.tableswitch dflt lo hi offs, len)) (h : x.toInt < lo ∨ hi < x.toInt) (ht : (pc : Int) + dflt = (tgt : Int))
    (k : m_J G M R Q nc ns tgt L st w) : m_J G M R Q nc ns pc L (.int x :: st) w := by
  intro p e s m args below meth c C H locs ls hR hlo hL
  exact lv_tableOut C.1 C.2.1 hd h ht (k p e s m args below meth c C H locs ls hR hlo hL)
theorem m_tableIn (tgt : Nat) {dflt lo hi : Int} {offs : Array Int} {len : Nat} {x : Int32} {off : Int} (hd : decode M.2.1 pc = .ok (.tableswitch dflt lo hi offs, len)) (h1 : ¬ x.toInt < lo) (h2 : ¬ hi < x.toInt) (ho : offs[(x.toInt - lo).toNat]? = some off) (ht : (pc : Int) + off = (tgt : Int))
    (k : m_J G M R Q nc ns tgt L st w) : m_J G M R Q nc ns pc L (.int x :: st) w := by
  intro p e s m args below meth c C H locs ls hR hlo hL
  exact lv_tableIn C.1 C.2.1 hd h1 h2 ho ht (k p e s m args below meth c C H locs ls hR hlo hL)
theorem m_lookup (tgt : Nat) {dflt : Int} {ps : Array (Int × Int)} {len : Nat} {x : Int32} {off : Int} (hd : decode M.2.1 pc = .ok (.lookupswitch dflt ps, len)) (hp : (ps.toList.zip (ps.toList.drop 1)).all (fun (a, next) => a.1 < next.1) = true) (ho : Op.lookupswitch.offset ps.toList dflt x.toInt = off) (ht : (pc : Int) + off = (tgt : Int))
    (k : m_J G M R Q nc ns tgt L st w) : m_J G M R Q nc ns pc L (.int x :: st) w := by
  intro p e s m args below meth c C H locs ls hR hlo hL
  exact lv_lookup C.1 C.2.1 hd hp ho ht (k p e s m args below meth c C H locs ls hR hlo hL)
theorem m_widen {n k : Nat} (h1 : nc ≤ n) (h2 : ns ≤ k) (kk : m_J G M R Q n k pc L st w) : m_J G M R Q nc ns pc L st w := fun p e s m args below meth c C H locs ls hR hlo hL => W.widen h1 h2 (kk p e s m args below meth c C H locs ls hR hlo hL)
/-- forgetting locals -/
theorem m_locs {L' : List (Option Value)} (hn : L'.length = L.length) (h : ∀ (i : Nat) (v : Value), L'[i]? = some (some v) → L[i]? = some (some v)) (kk : m_J G M R Q nc ns pc L' st w) : m_J G M R Q nc ns pc L st w := fun p e s m args below meth c C H locs ls hR hlo hL => kk p e s m args below meth c C H locs ls hR hlo ⟨hL.1, hL.2.1, hn.trans hL.2.2.1, fun i v hv => hL.2.2.2 i v (h i v hv)⟩
theorem m_post {Q' : Option (Option Value) → List mC → Prop} (h : ∀ r w, Q' r w → Q r w) (kk : m_J G M R Q' nc ns pc L st w) : m_J G M R Q nc ns pc L st w := by
  intro p e s m args below meth c C H locs ls hR hlo hL T hT X
  obtain ⟨t, h1, o, h2, h3, r, w', h4, h5⟩ := kk p e s m args below meth c C H locs ls hR hlo hL T hT X
  exact ⟨t, h1, o, h2, h3, r, w', h r w' h4, h5⟩
end MJ
end
section
section MH
variable {G : mG} {M : mM} {R : Room} {Q : Option (Option Value) → List mC → Prop} {nc ns pc : Nat} {L : List (Option Value)} {st : List Value} {w : List mC}
/-- entry idx of the class own names field k of class ci -/
def m_fo (own : String) (idx ci k : Nat) : Prop := ∃ (C : String) (T : u_T) (N : Nat), mCl[ci]? = some (C, T, N) ∧ k < N ∧ Cond.fieldLink own idx (T k).1 (T k).2.1 (T k).2.2.1 ∈ lw_tbl ∧ ∀ x ∈ u_ws C T N, x ∈ lw_tbl
theorem m_gu (C : String) (T : u_T) (N : Nat) : ∀ x ∈ u_ws C T N, goodWord x = true := by
  intro x hx
  obtain ⟨k, -, rfl⟩ := List.mem_map.mp hx
  unfold u_lay
  split <;> rfl
theorem m_getf (pc' : Nat) {i idx ci k : Nat} {fs : List Value} {v : Value} (hf : m_fo M.1.cls idx ci k) (hd : decode M.2.1 pc = .ok (.getfield idx, 3)) (hp : pc + 3 = pc') (hw : w[i]? = some (mO ci fs)) (hv : fs[k]? = some v)
    (kk : m_J G M R Q nc ns pc' L (v :: st) w) : m_J G M R Q nc ns pc L (.ref i :: st) w := by
  intro p e s m args below meth c C H locs ls hR hlo hL
  subst hp
  obtain ⟨Cn, T, N, h1, h2, h3, h4⟩ := hf
  obtain ⟨hx, hb, -, -, -, hown, -, -, hW, -, -, hG⟩ := id C
  obtain ⟨r, hr, hob⟩ := hR.2.2.2 _ _ hw
  have hP : va_P G.2.2.2 mCl [(m_a G i, .inr (ci, fs.map (m_v G)))] H := by
    intro q x hq
    match q, hq with
    | 0, hq => cases hq; exact ⟨r, hr, hob⟩
  exact va_get (D := G.2.2.2) (cl := mCl) (ci := ci) (C := Cn) (T := T) (N := N) (v := m_v G v) hx hb (Ts := u_ws Cn T N) (fun x hx => m_word hG hW (h4 x hx) (m_gu _ _ _ x hx) _) (fun _ h => h) hown (m_K hG hW) hP 0 rfl h1 k h2 (m_word hG hW h3 rfl _) (fun _ h9 => h9) (by simp [hv]) hd (kk p e s m args below meth c C H locs ls hR hlo hL)
theorem m_fits {ty : FieldType} {v : Value} (h : (ty = .int ∧ ∃ x, v = .int x) ∨ (ty = .boolean ∧ (v = .int 0 ∨ v = .int 1)) ∨ ((∃ t, ty = .array t) ∧ ∃ i, v = .ref i) ∨ ((∃ t, ty = .object t) ∧ ∃ i, v = .ref i)) : narrow ty (m_v G v) = m_v G v ∧ fits ty (m_v G v) = true := by
  rcases h with ⟨rfl, x, rfl⟩ | ⟨rfl, rfl | rfl⟩ | ⟨⟨t, rfl⟩, i, rfl⟩ | ⟨⟨t, rfl⟩, i, rfl⟩ <;> exact ⟨rfl, rfl⟩
theorem m_putf (pc' : Nat) {i idx ci k : Nat} {fs : List Value} {v : Value} {C0 : String} {T0 : u_T} {N0 : Nat} (ty0 : Nat → FieldType) (hc0 : mCl[ci]? = some (C0, T0, N0)) (hty : ∀ k, k < N0 → parseFieldDescriptor (T0 k).2.2.1 = some (ty0 k)) (hnm : ∀ a, a < N0 → ∀ b, b < N0 → a ≠ b → (T0 a).2.1 ≠ (T0 b).2.1) (hfin : (T0 k).2.2.2 = false ∨ ((T0 k).1 = M.1.cls ∧ M.1.name = "<init>" ∧ (T0 k).2.2.2 = true))
    (hf : m_fo M.1.cls idx ci k) (hd : decode M.2.1 pc = .ok (.putfield idx, 3)) (hp : pc + 3 = pc') (hw : w[i + 1]? = some (mO ci fs)) (hl : k < fs.length)
    (hv : (ty0 k = .int ∧ ∃ x, v = .int x) ∨ (ty0 k = .boolean ∧ (v = .int 0 ∨ v = .int 1)) ∨ ((∃ t, ty0 k = .array t) ∧ ∃ i, v = .ref i) ∨ ((∃ t, ty0 k = .object t) ∧ ∃ i, v = .ref i))
    (kk : m_J G M R Q nc ns pc' L st (w.set (i + 1) (mO ci (fs.set k v)))) : m_J G M R Q nc ns pc L (v :: .ref (i + 1) :: st) w := by
  intro p e s m args below meth c C H locs ls hR hlo hL
  subst hp
  obtain ⟨Cn, T, N, h1, h2, h3, h4⟩ := hf
  obtain ⟨rfl, rfl, rfl⟩ : C0 = Cn ∧ T0 = T ∧ N0 = N := by
    have := hc0.symm.trans h1
    simpa using this
  obtain ⟨hx, hb, -, -, -, hown, hname, -, hW, -, -, hG⟩ := id C
  obtain ⟨r, hr, cell, q1, q2, q3, q4⟩ := hR.2.2.2 _ _ hw
  have hr' : r = (C0, T0, N0) := Option.some.inj (hr.symm.trans h1)
  subst hr'
  have hts : ∀ x ∈ u_ws C0 T0 N0, x.before args s = true := fun x hx => m_word hG hW (h4 x hx) (m_gu _ _ _ x hx) _
  have hK := m_K hG hW
  have hap := va_apart (own := M.1.cls) (D := G.2.2.2) (cl := mCl) hts (fun _ h => h) ty0 hty hnm hK h1
  obtain ⟨hS, hfc, kC, hkC, hkind⟩ := hK.1 ci _ h1
  obtain ⟨cf, kf, fi, f, hi, hsl⟩ := hS k h2
  have hlay := hts _ (u_in_lay h2)
  unfold u_lay at hlay
  have hst := (u_facts hfc hkC (u_lays hts (fun _ h => h) h2) hi).1
  have hlink := m_word hG hW h3 rfl args
  obtain ⟨v1, v2⟩ := m_fits (G := G) hv
  have hd1 := hty k h2
  have key : ∀ H' : Heap, H'[m_a G (i + 1)]? = some (cell.setSlot f.slot (m_v G v)) → H'.size = H.size → (∀ q, q ≠ m_a G (i + 1) → H'[q]? = H[q]?) → W p G.1 e R s m args below meth c H' (locs ++ [⟨m_a G (i + 1), f.slot⟩]) nc ns (m_E G R Q args s below) (F0 m (pc + 3) ls (st.map (m_v G))) := by
    intro H' e1 e2 e3
    refine kk p e s m args below meth c C H' _ ls (hR.set hG.1 hw e2 e3 ⟨_, h1, t_OB.to (V := updV (vp_V (fs.map (m_v G))) k (m_v G v)) ⟨_, e1, q2, q3, ?_⟩ (fun j _ => ?_)⟩) ?_ hL
    · rw [hsl]
      exact t_set q4 hap h2 _
    · rw [vp_updV_set (by simpa using hl), List.map_set]
    · intro q hq
      rcases List.mem_append.mp hq with h | h
      · exact hlo q h
      · rw [List.mem_singleton.mp h]
        simp only [m_a]
        omega
  rcases hfin with hfin | ⟨hdecl, hinit, hfin⟩
  · rw [if_neg (by rw [hfin]; decide)] at hlay
    have h6 := u_store hfc hkC hkind hlay hi hd1 v1 v2
    exact W.putK hx hb (f := f) ⟨hown, hlink, ⟨_, _, _, hi⟩, hst⟩ (by rw [q2]; exact h6) q1 q3 (by rw [hsl]; exact k2_hasslot (q4 k h2)) rfl rfl hd key
  · rw [if_pos hfin] at hlay
    have hcf : m.cls = cf := by
      obtain ⟨_, _, c', _, _, _, -, -, hf', -, -, -, hown2, -⟩ := Cond.laysFinal_spec hlay
      have e1 : c' = cf := by have := hi.symm.trans hf'; simp at this; exact this.1.symm
      rw [hdecl] at hown2
      rw [← e1]; exact Option.some.inj (hown.symm.trans hown2)
    have h6 := u_fits hfc hkC hkind (Or.inr hlay) hi hd1 v1 v2
    exact W.putFinK hx hb hown hlink hi hst hcf (by rw [hname]; exact hinit) (by rw [q2]; exact h6) q1 q3 (by rw [hsl]; exact k2_hasslot (q4 k h2)) rfl rfl hd key
/-! arrays -/
theorem m_iald (pc' : Nat) {i n : Nat} {f : Nat → Int32} {j : Int32} (hd : decode M.2.1 pc = .ok (.iaload, 1)) (hp : pc + 1 = pc') (hw : w[i]? = some (mI n f)) (hin : vp_in j n)
    (kk : m_J G M R Q nc ns pc' L (.int (f j.toNatClampNeg) :: st) w) : m_J G M R Q nc ns pc L (.int j :: .ref i :: st) w := by
  intro p e s m args below meth c C H locs ls hR hlo hL
  subst hp
  obtain ⟨hx, hb, -, -, -, hown, hname, -, hW, -, -, hG⟩ := id C
  obtain ⟨cell, h1, h2, h3, h4, h5⟩ := hR.2.2.2 _ _ hw
  exact W.iald (v := .int (f j.toNatClampNeg)) hx hb h1 (State.isArrayOf_alike hW.alike h2) h3 (by rw [h4]; exact hin) (h5 _ (Nat.not_le.mp fun q => hin (Or.inr q))) rfl rfl hd (kk p e s m args below meth c C H locs ls hR hlo hL)
theorem m_zald (pc' : Nat) {i n : Nat} {f : Nat → Int32} {j : Int32} (hd : decode M.2.1 pc = .ok (.baload, 1)) (hp : pc + 1 = pc') (hw : w[i]? = some (mZ n f)) (hin : vp_in j n)
    (kk : m_J G M R Q nc ns pc' L (.int (f j.toNatClampNeg) :: st) w) : m_J G M R Q nc ns pc L (.int j :: .ref i :: st) w := by
  intro p e s m args below meth c C H locs ls hR hlo hL
  subst hp
  obtain ⟨hx, hb, -, -, -, hown, hname, -, hW, -, -, hG⟩ := id C
  obtain ⟨cell, h1, h2, h3, h4, h5⟩ := hR.2.2.2 _ _ hw
  exact W.zald (v := .int (f j.toNatClampNeg)) hx hb h1 (State.isArrayOf_alike hW.alike h2) h3 (by rw [h4]; exact hin) (h5 _ (Nat.not_le.mp fun q => hin (Or.inr q))) rfl rfl hd (kk p e s m args below meth c C H locs ls hR hlo hL)
theorem m_lald (pc' : Nat) {i n : Nat} {f : Nat → Int64} {j : Int32} (hd : decode M.2.1 pc = .ok (.laload, 1)) (hp : pc + 1 = pc') (hw : w[i]? = some (mJ n f)) (hin : vp_in j n)
    (kk : m_J G M R Q nc ns pc' L (.long (f j.toNatClampNeg) :: st) w) : m_J G M R Q nc ns pc L (.int j :: .ref i :: st) w := by
  intro p e s m args below meth c C H locs ls hR hlo hL
  subst hp
  obtain ⟨hx, hb, -, -, -, hown, hname, -, hW, -, -, hG⟩ := id C
  obtain ⟨cell, h1, h2, h3, h4, h5⟩ := hR.2.2.2 _ _ hw
  exact W.lald (v := .long (f j.toNatClampNeg)) hx hb h1 (State.isArrayOf_alike hW.alike h2) h3 (by rw [h4]; exact hin) (h5 _ (Nat.not_le.mp fun q => hin (Or.inr q))) rfl rfl hd (kk p e s m args below meth c C H locs ls hR hlo hL)
theorem m_len {i n : Nat} {c : mC} (hc : (∃ ty f, c = .inl (ty, n, f)) ∨ ∃ f, c = mJ n f) (pc' : Nat) (hd : decode M.2.1 pc = .ok (.arraylength, 1)) (hp : pc + 1 = pc') (hw : w[i]? = some c)
    (kk : m_J G M R Q nc ns pc' L (.int (nI n) :: st) w) : m_J G M R Q nc ns pc L (.ref i :: st) w := by
  intro p e s m args below meth c C H locs ls hR hlo hL
  subst hp
  obtain ⟨hx, hb, -, -, -, hown, hname, -, hW, -, -, hG⟩ := id C
  rcases hc with ⟨ty, f, rfl⟩ | ⟨f, rfl⟩
  · obtain ⟨cell, h1, h2, h3, h4, h5⟩ := hR.2.2.2 _ _ hw
    exact W.alen (n := nI n) hx hb h1 (State.isArrayOf_alike hW.alike h2) (by rw [h4]; rfl) rfl rfl hd (kk p e s m args below meth _ C H locs ls hR hlo hL)
  · obtain ⟨cell, h1, h2, h3, h4, h5⟩ := hR.2.2.2 _ _ hw
    exact W.alen (n := nI n) hx hb h1 (State.isArrayOf_alike hW.alike h2) (by rw [h4]; rfl) rfl rfl hd (kk p e s m args below meth _ C H locs ls hR hlo hL)
theorem m_slot {cell : Cell} {j k : Nat} {v : Value} (hj : j < cell.slots.size) : (cell.setSlot k v).slots[j]? = if j = k then some v else cell.slots[j]? := by
  unfold Cell.setSlot
  by_cases h : j = k
  · subst h
    simp [hj]
  · simp [h, Array.getElem?_setIfInBounds, Ne.symm h]
theorem m_slotn {cell : Cell} {k : Nat} {v : Value} : (cell.setSlot k v).slots.size = cell.slots.size := by simp [Cell.setSlot]
theorem m_isarr {U : State} {cell : Cell} {k : Nat} {v : Value} {ty : FieldType} (h : U.isArrayOf cell ty) : U.isArrayOf (cell.setSlot k v) ty := h
theorem m_iast (pc' : Nat) {i n : Nat} {f : Nat → Int32} {j x : Int32} (hd : decode M.2.1 pc = .ok (.iastore, 1)) (hp : pc + 1 = pc') (hw : w[i + 1]? = some (mI n f)) (hin : vp_in j n)
    (kk : m_J G M R Q nc ns pc' L st (w.set (i + 1) (mI n (upd f j.toNatClampNeg x)))) : m_J G M R Q nc ns pc L (.int x :: .int j :: .ref (i + 1) :: st) w := by
  intro p e s m args below meth c C H locs ls hR hlo hL
  subst hp
  obtain ⟨hx, hb, -, -, -, hown, hname, -, hW, -, -, hG⟩ := id C
  obtain ⟨cell, h1, h2, h3, h4, h5⟩ := hR.2.2.2 _ _ hw
  refine W.iast hx hb h1 (State.isArrayOf_alike hW.alike h2) h3 (by rw [h4]; exact hin) rfl rfl hd fun H' e1 e2 e3 => ?_
  refine kk p e s m args below meth c C H' _ ls (hR.set hG.1 hw e2 e3 ⟨_, e1, m_isarr h2, h3, m_slotn.trans h4, fun q hq => ?_⟩) (fun q hq => ?_) hL
  · rw [m_slot (by omega)]
    by_cases hqj : q = j.toNatClampNeg
    · rw [if_pos hqj]; subst hqj; simp [upd]
    · rw [if_neg hqj, h5 q hq]; simp [upd, hqj]
  · rcases List.mem_append.mp hq with h | h
    · exact hlo q h
    · rw [List.mem_singleton.mp h]
      simp only [m_a]
      omega
theorem m_zast (pc' : Nat) {i n : Nat} {f : Nat → Int32} {j x : Int32} (hd : decode M.2.1 pc = .ok (.bastore, 1)) (hp : pc + 1 = pc') (hw : w[i + 1]? = some (mZ n f)) (hin : vp_in j n) (hx01 : x = 0 ∨ x = 1)
    (kk : m_J G M R Q nc ns pc' L st (w.set (i + 1) (mZ n (upd f j.toNatClampNeg x)))) : m_J G M R Q nc ns pc L (.int x :: .int j :: .ref (i + 1) :: st) w := by
  intro p e s m args below meth c C H locs ls hR hlo hL
  subst hp
  obtain ⟨hx, hb, -, -, -, hown, hname, -, hW, -, -, hG⟩ := id C
  obtain ⟨cell, h1, h2, h3, h4, h5⟩ := hR.2.2.2 _ _ hw
  refine W.zast hx hb h1 (State.isArrayOf_alike hW.alike h2) h3 (by rw [h4]; exact hin) rfl rfl hd fun H' e1 e2 e3 => ?_
  have hn : narrow .boolean (.int x) = .int x := by rcases hx01 with rfl | rfl <;> rfl
  rw [hn] at e1
  refine kk p e s m args below meth c C H' _ ls (hR.set hG.1 hw e2 e3 ⟨_, e1, m_isarr h2, h3, m_slotn.trans h4, fun q hq => ?_⟩) (fun q hq => ?_) hL
  · rw [m_slot (by omega)]
    by_cases hqj : q = j.toNatClampNeg
    · rw [if_pos hqj]; subst hqj; simp [upd]
    · rw [if_neg hqj, h5 q hq]; simp [upd, hqj]
  · rcases List.mem_append.mp hq with h | h
    · exact hlo q h
    · rw [List.mem_singleton.mp h]
      simp only [m_a]
      omega
theorem m_last (pc' : Nat) {i n : Nat} {f : Nat → Int64} {j : Int32} {x : Int64} (hd : decode M.2.1 pc = .ok (.lastore, 1)) (hp : pc + 1 = pc') (hw : w[i + 1]? = some (mJ n f)) (hin : vp_in j n)
    (kk : m_J G M R Q nc ns pc' L st (w.set (i + 1) (mJ n (vp_updL f j.toNatClampNeg x)))) : m_J G M R Q nc ns pc L (.long x :: .int j :: .ref (i + 1) :: st) w := by
  intro p e s m args below meth c C H locs ls hR hlo hL
  subst hp
  obtain ⟨hx, hb, -, -, -, hown, hname, -, hW, -, -, hG⟩ := id C
  obtain ⟨cell, h1, h2, h3, h4, h5⟩ := hR.2.2.2 _ _ hw
  refine W.last hx hb h1 (State.isArrayOf_alike hW.alike h2) h3 (by rw [h4]; exact hin) rfl rfl hd fun H' e1 e2 e3 => ?_
  refine kk p e s m args below meth c C H' _ ls (hR.set hG.1 hw e2 e3 ⟨_, e1, m_isarr h2, h3, m_slotn.trans h4, fun q hq => ?_⟩) (fun q hq => ?_) hL
  · rw [m_slot (by omega)]
    by_cases hqj : q = j.toNatClampNeg
    · rw [if_pos hqj]; subst hqj; simp [vp_updL]
    · rw [if_neg hqj, h5 q hq]; simp [vp_updL, hqj]
  · rcases List.mem_append.mp hq with h | h
    · exact hlo q h
    · rw [List.mem_singleton.mp h]
      simp only [m_a]
      omega
end MH
end
section
section MM
variable {G : mG} {M : mM} {R : Room} {Q : Option (Option Value) → List mC → Prop} {nc ns pc : Nat} {L : List (Option Value)} {st : List Value} {w : List mC}
theorem m_lvf (ls : Array Slot) {nL : Nat} (h : m_lv G ls nL L) : ls.size = nL := h.1
/-- the ends -/
theorem m_iret {x : Int32} (hd : decode M.2.1 pc = .ok (.ireturn, 1)) (hr : M.2.2.2.1 = some .int ∨ (M.2.2.2.1 = some .boolean ∧ (x = 0 ∨ x = 1))) (hn : nc ≤ R.cells ∧ ns ≤ R.slots) (hq : Q (some (some (.int x))) w) : m_J G M R Q nc ns pc L [.int x] w := by
  intro p e s m args below meth c C H locs ls hR hlo hL T hT X
  obtain ⟨hx, hb, hml, hrt, hlocks, hown, hname, -, hW, -, -, hG⟩ := id C
  obtain ⟨fs, hret, hrun, hended, hW', hframe⟩ := X.leave (v := some (.int x)) (hlocks := hlocks) (fun h => by rw [hrt] at h; rcases hr with hr | ⟨hr, -⟩ <;> rw [hr] at h <;> cases h)
  have hmeth' : T.vm.method? m = some meth := X.method'
  refine ⟨T.setFrames fs, ?_, .returned (some (.int x)), hrun, hended, some (some (.int x)), w, hq, rfl, by rw [show (T.setFrames fs).heap = H from hT]; exact hR, hW', locs, hframe.mono hn.1 hn.2, hlo⟩
  rcases hr with hr | ⟨hr, hx01⟩
  · have hrt2 := hrt.trans hr
    show Steps p.tables e below (T.setTop (F0 m pc ls [.int x])) _
    jvm_step X.here [X.here.top, hx, hb, hd, hmeth', hrt2, narrow]
    (try refine ⟨rfl, ?_⟩); (try refine ⟨rfl, ?_⟩)
    first | (intro acts; rw [hret _ acts rfl rfl rfl]) | rw [hret _ _ rfl rfl rfl]
    exact Steps.refl _
  · have hrt2 := hrt.trans hr
    have hnw : narrow .boolean (.int x) = .int x := by rcases hx01 with rfl | rfl <;> rfl
    show Steps p.tables e below (T.setTop (F0 m pc ls [.int x])) _
    jvm_step X.here [X.here.top, hx, hb, hd, hmeth', hrt2, hnw]
    (try refine ⟨rfl, ?_⟩); (try refine ⟨rfl, ?_⟩)
    first | (intro acts; rw [hret _ acts rfl rfl rfl]) | rw [hret _ _ rfl rfl rfl]
    exact Steps.refl _
theorem m_vret (hd : decode M.2.1 pc = .ok (.return_, 1)) (hr : M.2.2.2.1 = none) (hn : nc ≤ R.cells ∧ ns ≤ R.slots) (hq : Q (some none) w) : m_J G M R Q nc ns pc L [] w := by
  intro p e s m args below meth c C H locs ls hR hlo hL T hT X
  obtain ⟨hx, hb, hml, hrt, hlocks, hown, hname, -, hW, -, -, hG⟩ := id C
  have hrt2 := hrt.trans hr
  obtain ⟨fs, hret, hrun, hended, hW', hframe⟩ := X.leave (v := none) (hlocks := hlocks) (fun _ => rfl)
  have hmeth' : T.vm.method? m = some meth := X.method'
  refine ⟨T.setFrames fs, ?_, .returned none, hrun, hended, some none, w, hq, rfl, by rw [show (T.setFrames fs).heap = H from hT]; exact hR, hW', locs, hframe.mono hn.1 hn.2, hlo⟩
  show Steps p.tables e below (T.setTop (F0 m pc ls [])) _
  jvm_step X.here [X.here.top, hx, hb, hd, hmeth', hrt2]
  (try refine ⟨rfl, ?_⟩); (try refine ⟨rfl, ?_⟩)
  first | (intro acts; rw [hret _ acts rfl rfl rfl]) | rw [hret _ _ rfl rfl rfl]
  exact Steps.refl _
/-- new -/
theorem m_new (pc' : Nat) {idx ci N : Nat} {C0 : String} {T0 : u_T} {fs : List Value} (ty : Nat → FieldType) (hc : mCl[ci]? = some (C0, T0, N)) (hty : ∀ k, k < N → parseFieldDescriptor (T0 k).2.2.1 = some (ty k)) (hin : ∀ x ∈ u_ws C0 T0 N, x ∈ lw_tbl) (h1 : Cond.classLink M.1.cls idx C0 ∈ lw_tbl) (h2 : Cond.instantiable C0 N ∈ lw_tbl) (h3 : Cond.initialized C0 ∈ lw_tbl)
    (hfs : ∀ j, j < N → defaultValue (ty j) = vp_V fs j) (hrf : ∀ v ∈ fs, ∀ i, v ≠ .ref i) (hd : decode M.2.1 pc = .ok (.new idx, 3)) (hp : pc + 3 = pc') (hn : nc + 1 ≤ R.cells ∧ ns + N ≤ R.slots)
    (kk : m_J G M R Q (nc + 1) (ns + N) pc' L (.ref w.length :: st) (w ++ [mO ci fs])) : m_J G M R Q nc ns pc L st w := by
  intro p e s m args below meth c C H locs ls hR hlo hL
  subst hp
  obtain ⟨hx, hb, hml, hrt, hlocks, hown, hname, -, hW, -, -, hG⟩ := id C
  have hts : ∀ x ∈ u_ws C0 T0 N, x.before args s = true := fun x hx => m_word hG hW (hin x hx) (m_gu _ _ _ x hx) _
  have hKn := (m_K hG hW).1 ci _ hc
  have hmap : fs.map (m_v G) = fs := by
    conv => rhs; rw [← List.map_id fs]
    refine List.map_congr_left fun v hv => ?_
    have := hrf v hv
    cases v <;> first | rfl | exact absurd rfl (this _)
  refine W.newcK hx hb hown (m_word hG hW h1 rfl _) (m_word hG hW h2 rfl _) (m_word hG hW h3 rfl _) rfl hd hn.1 hn.2 hKn.2.1 (m_at hR).symm fun H1 kC hkC e1 z1 o1 => ?_
  have hz := m_at hR
  exact kk p e s m args below meth c C H1 locs ls (hR.push hG.1 (by rw [z1, hz]) (fun q hq => o1 q (by omega)) ⟨_, hc, by rw [hmap]; exact (u_born ty hts (fun _ h => h) hKn hkC e1 hty).to hfs⟩) hlo hL
theorem m_newa (pc' : Nat) {at' : ArrayType} {ty : FieldType} {n : Int32} {N : Nat} {a0 : mC} (harr : Cond.arrayClass ty ∈ lw_tbl) (hty : newarray.typeOf at' = ty) (ha : ((ty = .int ∨ ty = .boolean) ∧ a0 = .inl (ty, N, fun _ => 0)) ∨ (ty = .long ∧ a0 = mJ N (fun _ => 0)))
    (hd : decode M.2.1 pc = .ok (.newarray at', 2)) (hp : pc + 2 = pc') (hn0 : n = nI N) (hN : N < 67108864) (hn : nc + 1 ≤ R.cells ∧ ns + N ≤ R.slots)
    (kk : m_J G M R Q (nc + 1) (ns + N) pc' L (.ref w.length :: st) (w ++ [a0])) : m_J G M R Q nc ns pc L (.int n :: st) w := by
  intro p e s m args below meth c C H locs ls hR hlo hL
  subst hp
  obtain ⟨hx, hb, hml, hrt, hlocks, hown, hname, -, hW, -, -, hG⟩ := id C
  have hz := m_at hR
  have hbytes : N * componentBytes (newarray.typeOf at') ≤ 536870912 := by
    have : componentBytes (newarray.typeOf at') ≤ 8 := by cases at' <;> decide
    exact Nat.le_trans (Nat.mul_le_mul_left N this) (by omega)
  refine va_newaK hx hb (by rw [hty]; exact m_word hG hW harr rfl _) rfl hd rfl (by rw [hn0]; exact nI_pos (by omega)) (by rw [hn0]; exact nI_clamp (by omega)) hbytes hn.1 hn.2 (m_at hR).symm fun H1 cA e1 z1 o1 hA _ => ?_
  have hA0 : G.2.1.isArrayOf (arrV cA N (fun _ => defaultValue (newarray.typeOf at'))) (newarray.typeOf at') := State.isArrayOf_alike hW.alike.symm (hA _ _)
  have hslots : ∀ j : Nat, j < N → (arrV cA N (fun _ => defaultValue (newarray.typeOf at'))).slots[j]? = some (defaultValue (newarray.typeOf at')) := fun j hj => by simp [arrV, hj]
  rw [hty] at e1 hA0 hslots
  refine kk p e s m args below meth c C H1 locs ls (hR.push hG.1 (by rw [z1, hz]) (fun q hq => o1 q (by omega)) ?_) hlo hL
  rcases ha with ⟨hi, rfl⟩ | ⟨rfl, rfl⟩
  · refine ⟨_, e1, hA0, fun h => (by cases h), arrV_size _ _ _, fun j hj => ?_⟩
    rw [hslots j hj]
    rcases hi with rfl | rfl <;> rfl
  · exact ⟨_, e1, hA0, fun h => (by cases h), arrV_size _ _ _, fun j hj => by rw [hslots j hj]; rfl⟩
theorem m_objInit (pc' : Nat) {i idx : Nat} (h1 : Cond.methodLink M.1.cls idx objectInit ∈ lw_tbl) (h2 : Cond.instanceMethod objectInit ∈ lw_tbl) (h3 : Cond.code objectInit ⟨#[0xb1]⟩ 1 none ∈ lw_tbl) (hd : decode M.2.1 pc = .ok (.invokespecial idx, 3)) (hp : pc + 3 = pc') (hr : 1 ≤ R.frames ∧ (st.map fun v => v.category).sum + 12 ≤ R.locals)
    (kk : m_J G M R Q nc ns pc' L st w) : m_J G M R Q nc ns pc L (.ref i :: st) w := by
  intro p e s m args below meth c C H locs ls hR hlo hL
  subst hp
  obtain ⟨hx, hb, hml, hrt, hlocks, hown, hname, -, hW, -, -, hG⟩ := id C
  have hm : ((st.map (m_v G)).map fun v => v.category) = st.map fun v => v.category := by
    rw [List.map_map]
    exact List.map_congr_left fun v _ => m_cat G v
  refine W.objInit hx hb hown (m_word hG hW h1 rfl _) (m_word hG hW h2 rfl _) (m_word hG hW h3 rfl _) rfl (by rw [hml]; exact hL.1) rfl hd hr.1 ?_ (kk p e s m args below meth c C H locs ls hR hlo hL)
  rw [hm]
  show 2 * 0 + _ + 12 ≤ _
  omega
theorem m_ldc (pc' : Nat) {idx : Nat} {v : Int32} (h1 : Cond.constant M.1.cls idx v ∈ lw_tbl) (hd : decode M.2.1 pc = .ok (.ldc idx, 2)) (hp : pc + 2 = pc') (kk : m_J G M R Q nc ns pc' L (.int v :: st) w) : m_J G M R Q nc ns pc L st w := by
  intro p e s m args below meth c C H locs ls hR hlo hL
  subst hp
  obtain ⟨hx, hb, hml, hrt, hlocks, hown, hname, -, hW, -, -, hG⟩ := id C
  exact lv_ldc hx hb hown (m_word hG hW h1 rfl _) hd (kk p e s m args below meth c C H locs ls hR hlo hL)
/-! the entry -/
theorem m_codespec {M : mM} {U : State} {mk : MethodId} {a : Array Value} (hn : U.methodNamed? M.1 = some mk) (h : (m_cw M).before a U = true) :
    ∃ (meth : Method) (c : Code), U.vm.method? mk = some meth ∧ meth.code = some c ∧ c.code = M.2.1 ∧ c.maxLocals = M.2.2.1 ∧ meth.sig.returnType = M.2.2.2.1 ∧ meth.locks = false ∧ c.exceptionTable.toList = tableOf M.2.2.2.2 ∧ parseMethodDescriptor M.1.desc = some meth.sig := by
  obtain ⟨x, b, nl, rt, hs⟩ := M
  cases hs with
  | nil =>
    obtain ⟨meth, c, h1, h2, h3, h4, h5, h6, h7, h8⟩ := Cond.code_spec hn (show (Cond.code x b nl rt).holds a U none U [] = true from h)
    refine ⟨meth, c, h1, h2, h3, h4, h5, h6, ?_, h8⟩
    have : c.exceptionTable = #[] := by simpa using h7
    rw [this]; rfl
  | cons q r =>
    obtain ⟨m', meth, c, h0, h1, h2, h3, h4, h5, h6, h7, h8⟩ := Cond.codeWith_spec (show (Cond.codeWith x b nl rt (q :: r)).holds a U none U [] = true from h)
    cases hn.symm.trans h0
    exact ⟨meth, c, h1, h2, h3, h4, h6, h7, by rw [← h5]; exact (table_eq _).symm, h8⟩
theorem m_args (vs : List Value) (hc : ∀ v ∈ vs, v.category = 1) : ∀ (o i : Nat) (v : Value), vs[i]? = some v → (o + i, v) ∈ lv_args o vs := by
  induction vs with
  | nil => intro o i v h; simp at h
  | cons x xs ih =>
    intro o i v h
    have hx : ¬ x.category = 2 := by
      have := hc x List.mem_cons_self
      omega
    cases i with
    | zero =>
      rw [List.getElem?_cons_zero] at h
      cases h
      exact List.mem_cons_self
    | succ i =>
      rw [List.getElem?_cons_succ] at h
      have := ih (fun v hv => hc v (List.mem_cons_of_mem _ hv)) (o + 1) i v h
      simp only [lv_args, hx, if_false]
      refine List.mem_cons_of_mem _ ?_
      rw [show o + (i + 1) = o + 1 + i by omega]
      exact this
theorem m_sll (vs : List Value) (hc : ∀ v ∈ vs, v.category = 1) : (lg_sl vs).length = vs.length := by
  induction vs with
  | nil => rfl
  | cons x xs ih =>
    have hx : ¬ x.category = 2 := by
      have := hc x List.mem_cons_self
      omega
    have := ih (fun v hv => hc v (List.mem_cons_of_mem _ hv))
    simp only [lg_sl, List.flatMap_cons, hx, if_false, List.length_append] at this ⊢
    simp [this]
    omega
theorem m_enter {av : List Value} (hM : plainName M.1.cls = true) (hG : m_G G) (hc : ∀ v ∈ av, v.category = 1) (hl : av.length ≤ M.2.2.1) (hL : L = av.map some ++ List.replicate (M.2.2.1 - av.length) none)
    (body : m_J G M R Q 0 0 0 L [] w) : m_Ct G M R av w Q := by
  refine MetFree.of_bodyS (code := M.2.1) (maxLocals := M.2.2.1) (ret := M.2.2.2.1) hM ?_ ?_
  · intro args s m h hn
    obtain ⟨meth, c, h1, h2, h3, h4, h5, h6, -, -⟩ := m_codespec hn (atoms_spec (ws := [m_cw M]) h _ List.mem_cons_self)
    exact ⟨meth, c, h1, h2, h3, h4, h5, h6⟩
  · intro p e s m args below meth c s₁ B hml hP _
    obtain ⟨rfl, hW, hR⟩ := hP
    have hpre := atoms_spec (ws := [m_cw M]) B.pre _ List.mem_cons_self
    obtain ⟨meth', c', h1, h2, h3, h4, h5, h6, h7, h8⟩ := m_codespec B.named hpre
    cases B.method.symm.trans h1
    have X₀ := Stand.of_body B
    cases X₀.code.symm.trans h2
    have hh0 : s₁.heap = s.heap := by rw [B.state]; rfl
    have hcx : m_Cx G M p s m meth c := by
      refine ⟨B.exec, h3, h4, h5, h6, findClass_of_methodNamed B.named, (name_of_methodNamed B.named B.method).1, h7, hW, ?_, hR.lt, hG⟩
      intro q cell hq hcell
      obtain ⟨g0, g1, g2, g3⟩ := hR
      have hlt : q < s.heap.size := (Array.getElem?_eq_some_iff.mp hcell).1
      obtain ⟨i, hi⟩ : ∃ i, q = G.2.1.heap.size + i := ⟨q - G.2.1.heap.size, by omega⟩
      have hiw : i + 1 < w.length := by omega
      have hok := g3 (i + 1) _ (List.getElem?_eq_getElem hiw)
      have hqa : m_a G (i + 1) = q := by simp only [m_a]; omega
      generalize w[i + 1] = cc at hok
      obtain ⟨ty, n, f⟩ | ⟨n, f⟩ | ⟨ci, fs⟩ | u := cc
      · obtain ⟨x, x1, x2, x3, -⟩ := hok
        rw [hqa] at x1
        cases hcell.symm.trans x1
        have := x2.1
        cases hv : cell.vm <;> first | rfl | exact absurd hv (this _)
      · obtain ⟨x, x1, x2, x3, -⟩ := hok
        rw [hqa] at x1
        cases hcell.symm.trans x1
        have := x2.1
        cases hv : cell.vm <;> first | rfl | exact absurd hv (this _)
      · obtain ⟨r, -, x, x1, x2, x3, -⟩ := hok
        rw [hqa] at x1
        cases hcell.symm.trans x1
        rw [x3]; rfl
      · obtain ⟨x, x1, x2⟩ := hok
        rw [hqa] at x1
        cases hcell.symm.trans x1
        rw [x2]; rfl
    have hc' : ∀ v ∈ av.map (m_v G), v.category = 1 := by
      intro v hv
      obtain ⟨u, hu, rfl⟩ := List.mem_map.mp hv
      rw [m_cat]
      exact hc u hu
    have hle : (lg_sl (av.map (m_v G))).length ≤ M.2.2.1 := by rw [m_sll _ hc', List.length_map]; exact hl
    have hlv := lv_entry (av.map (m_v G)) (n := M.2.2.1) hle
    have hlv' : m_lv G ((lg_sl (av.map (m_v G)) ++ List.replicate (M.2.2.1 - (lg_sl (av.map (m_v G))).length) Slot.unset).toArray) M.2.2.1 L := by
      refine ⟨hlv.1, hlv.2.1, ?_, fun i v hi => ?_⟩
      · rw [hL]; simp; omega
      · rw [hL] at hi
        have hlt : i < av.length := by
          rcases Nat.lt_or_ge i av.length with h | h
          · exact h
          · rw [List.getElem?_append_right (by simpa using h)] at hi
            have := List.eq_of_mem_replicate (List.mem_of_getElem? hi)
            cases this
        rw [List.getElem?_append_left (by simpa using hlt), List.getElem?_map] at hi
        have hiv : av[i]? = some v := by
          cases hh : av[i]? with
          | none => rw [hh] at hi; cases hi
          | some x => rw [hh] at hi; simp at hi; rw [hi]
        refine ⟨hc v (List.mem_of_getElem? hiv), ?_⟩
        have := m_args _ hc' 0 i (m_v G v) (by rw [List.getElem?_map, hiv]; rfl)
        rw [Nat.zero_add] at this
        exact hlv.2.2 _ this
    obtain ⟨t, a1, o, b1, b2, b3⟩ := body p e s m _ below meth c hcx s.heap [] _ hR (fun q h => by cases h) hlv' s₁ hh0 X₀
    rw [lg_entry_eq]
    exact ⟨t, o, a1, b1, b2, b3⟩
end MM
end
section
/-! calls: the callee by its contract, whether it answers or throws -/
section MCa
variable {G : mG} {M M' : mM} {R R' : Room} {Q Q' : Option (Option Value) → List mC → Prop} {nc ns pc : Nat} {L : List (Option Value)} {st : List Value} {w : List mC}
/-- the exception's object -/
def m_xc (G : mG) (x : Nat) (H : Heap) : Prop := ∃ cell : Cell, H[x]? = some cell ∧ G.2.1.vm.findClass RJx00060 = some cell.cls ∧ cell.vm = .none
theorem m_inv {p : Program} {e : Env} {s : State} {m : MethodId} {args : Array Value} {below : List Frame} {meth : Method} {c : Code} {U : State} {locs : List Loc} {av : List Value} {a : Array Value}
    (X : Stand p G.1 e R s m args below meth c U locs nc ns) {g : JFrame} (hg : g.method = m) (hsize : g.locals.size = c.maxLocals) {ig : Instr} {len : Nat} (hdg : decode c.code g.pc = .ok (ig, len)) {mk : MethodId} (hn : U.methodNamed? M'.1 = some mk) (hM : m_Ct G M' R' av w Q') (ha : a = (av.map (m_v G)).toArray)
    (hfr0 : R'.frames + 1 ≤ R.frames) (hlo0 : 2 * g.monitorRoom + (g.stack.map fun v => v.category).sum + (M'.2.2.1 + 11) + R'.locals ≤ R.locals) (hce : nc + R'.cells ≤ R.cells) (hsl : ns + R'.slots ≤ R.slots)
    (hcw : (m_cw M').before a U = true) (hini : (Cond.initialized M'.1.cls).before a U = true) (hW : G.2.1.WarmedH U.vm) (hR : m_R G w U.heap) :
    ∃ (r : Option (Option Value)) (w' : List mC) (T' : State) (Lc : List Loc), Q' r w' ∧ m_R G w' T'.heap ∧ Stand p G.1 e R s m args below meth c T' (locs ++ Lc) (nc + R'.cells) (ns + R'.slots) ∧ (∀ q ∈ Lc, G.2.1.heap.size ≤ q.base) ∧
      (match r with
        | some v => Steps p.tables e below (doInvoke e (U.setTop g) [] mk a).1 (T'.setTop { g with pc := g.pc + len, stack := (v.map (m_v G)).toList ++ g.stack })
        | none => ∃ x : Nat, m_xc G x T'.heap ∧ Steps p.tables e below (doInvoke e (U.setTop g) [] mk a).1 ((T'.setTop g).pushFrame (.throwing x))) := by
  obtain ⟨methY, cY, hmY, hcY, -, hlY, -⟩ := m_codespec hn hcw
  obtain ⟨kY, hkY, -⟩ := className_of_methodNamed hn
  have hinitY : kY.init = .initialized := Cond.initialized_spec (findClass_of_methodNamed hn) hkY hini
  have h : At U g.method c below := by rw [hg]; exact X.here
  have happ : (headSpec [m_cw M'] R').appliesLoose M'.1 e.platform (U.calling g mk a) = true :=
    Spec.appliesLoose_calling (g := g) h hdg hn hkY hinitY
      (X.room_calling (g := g) (R' := R') hsize hmY hcY hfr0 (by rw [hlY]; exact hlo0) hce hsl) (atoms_intro (ws := [m_cw M']) fun x hx => by rw [List.mem_singleton.mp hx]; exact hcw)
  obtain ⟨mid, hmid⟩ := h.above
  have hfr : (U.setTop g).frames = (.java g :: mid) ++ below := by rw [State.frames_setTop' g h.top, hmid]; rfl
  obtain ⟨o, s₂, hsteps, -, hend, hq⟩ := Steps.callFree hM p X.admits X.cas X.clock (acts := []) (m := mk) (args := a) hfr happ ⟨ha, hW, hR⟩ trivial
  rw [State.frames_setTop' g h.top] at hend
  obtain ⟨r, w', hQ, hoc, hR2, hW₂, Lc, hsm, hLc⟩ := hq
  have hW' : U.WarmedH s₂.vm := hW₂
  obtain ⟨e2, q2, q3, q4, q5, q6⟩ := id hsm
  have e3 : s₂ = ({ (U.calling g mk a).setFrames s₂.frames with heap := s₂.heap, slotsUsed := s₂.slotsUsed } : State).setVm s₂.vm := by
    have : s₂ = ({ s₂ with vm := (U.calling g mk a).vm } : State).setVm s₂.vm := rfl
    rw [show ({ s₂ with vm := (U.calling g mk a).vm } : State) = _ from e2] at this
    exact this
  obtain ⟨g₀, hg0⟩ := Option.isSome_iff_exists.mp h.top
  obtain ⟨fr, hr⟩ := State.topJava?_eq_some.mp hg0
  have hr' : (({ U with heap := s₂.heap, slotsUsed := s₂.slotsUsed } : State).setVm s₂.vm).frames = .java g₀ :: fr := hr
  have hsame : U.sameButNew ({ U with heap := s₂.heap, slotsUsed := s₂.slotsUsed } : State) Lc R'.cells R'.slots := by
    refine ⟨?_, q2, q3, q4, q5, q6⟩
    obtain ⟨t, ht, -⟩ := State.frames_cons hr
    show ({ U with heap := s₂.heap, slotsUsed := s₂.slotsUsed } : State) = { U.setFrames U.frames with heap := s₂.heap, slotsUsed := s₂.slotsUsed }
    rw [State.setFrames_self ht]
  subst hg
  refine ⟨r, w', ({ U with heap := s₂.heap, slotsUsed := s₂.slotsUsed } : State).setVm s₂.vm, Lc, hQ, hR2,
    ⟨X.admits, X.cas, X.clock, X.frames, X.room, X.hears, X.method, X.code, (X.here.setHeapUsed s₂.heap s₂.slotsUsed).setVm hW'.alike, X.tail, State.WarmedH.trans X.warmed hW', X.limits, X.bytes, X.same.trans (hsame.setVm s.vm)⟩, hLc, ?_⟩
  cases r with
  | some v =>
    have ho : o = .returned (v.map (m_v G)) := hoc
    subst ho
    obtain ⟨c₂, i₂, len₂, hc₂, hd₂, hf₂⟩ := hend
    have hcc : c₂ = c := by
      have h1 : s₂.code? g.method = U.code? g.method := by
        rw [State.code?_eq, State.code?_eq, hW'.alike.method?]
      exact Option.some.inj (hc₂.symm.trans (h1.trans h.code))
    subst hcc
    have hlen : len₂ = len := by rw [hdg] at hd₂; cases hd₂; rfl
    subst hlen
    have hs₂ : s₂ = (({ U with heap := s₂.heap, slotsUsed := s₂.slotsUsed } : State).setVm s₂.vm).setTop { g with pc := g.pc + len₂, stack := (v.map (m_v G)).toList ++ g.stack } := by
      refine e3.trans ?_
      rw [hf₂, State.calling_eq h.top, State.setFrames_setFrames, State.setTop_of_frames _ hr', hr]
      rfl
    show Steps p.tables e below _ ((({ U with heap := s₂.heap, slotsUsed := s₂.slotsUsed } : State).setVm s₂.vm).setTop _)
    rw [← hs₂]
    exact hsteps
  | none =>
    obtain ⟨x, cell, ho, x1, x2, x3⟩ := hoc
    subst ho
    have hf₂ : s₂.frames = .throwing x :: .java g :: U.frames.tail := hend
    have hs₂ : s₂ = ((({ U with heap := s₂.heap, slotsUsed := s₂.slotsUsed } : State).setVm s₂.vm).setTop g).pushFrame (.throwing x) := by
      refine e3.trans ?_
      rw [hf₂, State.calling_eq h.top, State.setFrames_setFrames, State.pushFrame, State.frames_setTop _ hr', State.setTop_of_frames _ hr', State.setFrames_setFrames, hr]
      rfl
    refine ⟨x, ⟨cell, x1, x2, x3⟩, ?_⟩
    show Steps p.tables e below _ (((({ U with heap := s₂.heap, slotsUsed := s₂.slotsUsed } : State).setVm s₂.vm).setTop g).pushFrame (.throwing x))
    rw [← hs₂]
    exact hsteps
/-- an exception comes to this frame, at pc -/
def m_T (G : mG) (M : mM) (R : Room) (Q : Option (Option Value) → List mC → Prop) (nc ns pc : Nat) (L : List (Option Value)) (w : List mC) : Prop :=
  ∀ (p : Program) (e : Env) (s : State) (m : MethodId) (args : Array Value) (below : List Frame) (meth : Method) (c : Code), m_Cx G M p s m meth c → ∀ (T : State) (locs : List Loc) (ls : Array Slot) (x : Nat) (stk : List Value), m_R G w T.heap → (∀ q ∈ locs, G.2.1.heap.size ≤ q.base) → m_lv G ls M.2.2.1 L → m_xc G x T.heap → Stand p G.1 e R s m args below meth c T locs nc ns →
    ∃ t, Steps p.tables e below ((T.setTop (F0 m pc ls stk)).pushFrame (.throwing x)) t ∧ m_E G R Q args s below t
theorem m_T_out (hh : M.2.2.2.2 = []) (hn : nc ≤ R.cells ∧ ns ≤ R.slots) (hq : Q none w) : m_T G M R Q nc ns pc L w := by
  intro p e s m args below meth c C T locs ls x stk hR hlo hL hX X
  obtain ⟨hx, hb, hml, hrt, hlocks, hown, hname, htab, hW, -, -, hG⟩ := id C
  obtain ⟨h1, h2, h3, h4, h5⟩ := X.leaveThrown x (g := F0 m pc ls stk) rfl rfl rfl (fun y hy => by rw [htab, hh] at hy; cases hy) hlocks
  obtain ⟨cell, x1, x2, x3⟩ := hX
  exact ⟨_, h1, .threw x, h2, h3, none, w, hq, ⟨x, cell, rfl, x1, x2, x3⟩, hR, h4, locs, h5.mono hn.1 hn.2, hlo⟩
/-- the search finds the one handler, whose class may still be to be linked -/
theorem m_search {e : Env} {s : State} {f : JFrame} {a : Nat} {meth : Method} {code : Code} {x : ExceptionTableEntry} {c : ClassId} {cell : Cell} (hm : s.vm.method? f.method = some meth) (hc : meth.code = some code) (ht : code.exceptionTable.toList = [x]) (hx : covers x f.pc = true) (h0 : x.catchType ≠ 0)
    (hl : s.vm.ClassLinks e.platform f.method.cls x.catchType c) (hcell : s.heap[a]? = some cell) (hobj : ∀ k, cell.vm ≠ .statics k) (hk : ∃ k, s.vm.classes[cell.cls]? = some k) (hcl : ∃ k, s.vm.classes[c]? = some k) (hfit : s.vm.assignable cell.cls c = true) :
    ∀ (P : Handler → Pre) (E : CtlPost) (d : Bool) (acts : List Action), wp (findHandler f a) P E e d acts s ↔ P (.found x.handlerPc) d acts (s.setVm (s.vm.noted f.method.cls x.catchType (.cls c))) := by
  intro P E d acts
  rw [W.findHandler_eq hm hc, ht]
  simp only [covers] at hx
  have hg := resolveClass_links e.toSetting hl
  obtain ⟨h1, h2⟩ := hg.op (op := VmOp.resolveClass f.method.cls x.catchType) rfl
  have hal : s.vm.Alike (s.vm.noted f.method.cls x.catchType (.cls c)) := (Vm.Alike.refl s.vm).noted _ _ _
  obtain ⟨k1, hk1⟩ := hk
  obtain ⟨k2, hk2⟩ := hcl
  obtain ⟨k1', hk1', -⟩ := hal.2.2 _ _ hk1
  obtain ⟨k2', hk2', -⟩ := hal.2.2 _ _ hk2
  have hfit2 : (s.vm.noted f.method.cls x.catchType (.cls c)).assignable cell.cls c = true := by rw [hal.assignable]; exact hfit
  simp [findHandler.go, hx, h0, h1, h2, hcell, hobj, hk1', hk2', hfit2, VmOp.dirties, VmOp.acts]
theorem m_catchStep {tb : Tables} {e : Env} {s target : State} {g : JFrame} {c : Code} {below : List Frame} {a pc : Nat} {vm2 : Vm} (h : At s g.method c below)
    (hfind : ∀ (P : Handler → Pre) (E : CtlPost) (d : Bool) (acts : List Action), wp (findHandler g a) P E e d acts ((s.setTop g).pushFrame (.throwing a)) ↔ P (.found pc) d acts (((s.setTop g).pushFrame (.throwing a)).setVm vm2))
    (hrest : Steps tb e below ((s.setVm vm2).setTop { g with pc := pc, stack := [.ref a] }) target) : Steps tb e below ((s.setTop g).pushFrame (.throwing a)) target := by
  obtain ⟨hgo, hw⟩ := h.throwing a
  refine Steps.head hgo hw ?_
  have key : ∀ r : List Frame, (stepThrowing e ((s.setTop g).pushFrame (.throwing a)) a (.java g :: r)).Is ((((s.setTop g).pushFrame (.throwing a)).setVm vm2).setFrames (.java { g with pc := pc, stack := [.ref a] } :: r)) [] := by
    intro r
    simp only [stepThrowing, searchFrame, vmDo]
    generalize hr : Sem.go _ e false [] ((s.setTop g).pushFrame (.throwing a)) = res
    obtain ⟨as, rfl, ha⟩ := Sem.eq_ok_of hr (a := Handler.found pc) (s' := ((s.setTop g).pushFrame (.throwing a)).setVm vm2) (acts' := []) (by simp [hfind _ _ _ _])
    exact ⟨rfl, ha⟩
  rw [stepThread_throwing (frames_entered h.top _), (key _).1]
  obtain ⟨g₀, hg⟩ := Option.isSome_iff_exists.mp h.top
  obtain ⟨r, hr⟩ := State.topJava?_eq_some.mp hg
  have hr2 : (s.setVm vm2).frames = .java g₀ :: r := hr
  rw [State.setTop_of_frames _ hr2] at hrest
  have hcomm : ∀ (u : State) (F G2 : List Frame), ((u.setFrames F).setVm vm2).setFrames G2 = (u.setVm vm2).setFrames G2 := fun u F G2 => by
    rw [show (u.setFrames F).setVm vm2 = (u.setVm vm2).setFrames F from rfl, State.setFrames_setFrames]
  rw [hr, List.tail_cons, State.pushFrame, hcomm, State.setTop_of_frames _ hr, hcomm]
  exact hrest
/-- caught: the handler's first instruction lays the object away -/
theorem m_T_catch {hs he hp ct : Nat} {z : Nat} {ig : Instr} {len : Nat} (hh : M.2.2.2.2 = [(hs, he, hp, ct)]) (hcov : hs ≤ pc ∧ pc < he) (hct : ct ≠ 0) (h1 : Cond.classLink M.1.cls ct RJx00060 ∈ lw_tbl) (h2 : Cond.castable RJx00060 RJx00060 ∈ lw_tbl)
    (hd : decode M.2.1 hp = .ok (ig, len)) (hig : (ig = .astore z ∧ len = 2) ∨ (∃ f : Fin 4, ig = .astore_n f ∧ (f : Nat) = z ∧ len = 1)) (hz : z < M.2.2.1)
    (kk : m_J G M R Q nc ns (hp + len) (L.set z none) [] w) : m_T G M R Q nc ns pc L w := by
  intro p e s m args below meth c C T locs ls x stk hR hlo hL hX X
  obtain ⟨hx, hb, hml, hrt, hlocks, hown, hname, htab, hW, -, -, hG⟩ := id C
  rw [hh] at htab
  obtain ⟨cell, x1, x2, x3⟩ := hX
  have hpl : e.platform.magicAccessors = ({} : Platform).magicAccessors := by rw [X.admits.platform]
  obtain ⟨cT, hcT, hcl⟩ := Cond.classLink_spec (args := args) (first := s) (o := none) (idx := []) hown (m_word hG hW h1 rfl args) e.platform hpl
  obtain ⟨dk, _, _, kt, hdk, _, _, _, _, hkt, _, hopen⟩ := hcl.here
  have hcl₀ := X.warmed.classLinks hcl
  have hW' : s.WarmedH (T.vm.noted m.cls ct (.cls cT)) := X.warmed.noted hdk hopen (State.rightAt_cls hcl)
  have hal := X.warmed.alike
  have hfc : s.vm.findClass RJx00060 = some cell.cls := by rw [hW.alike.findClass]; exact x2
  obtain ⟨c3, c4, hc3, hc4, hasg⟩ := Cond.castable_spec (args := #[]) (first := G.2.1) (o := none) (s := G.2.1) (idx := []) (hG.2.1 _ h2)
  cases hc3.symm.trans x2
  cases hc4.symm.trans x2
  cases hcT.symm.trans hfc
  have hfit2 : T.vm.assignable cell.cls cell.cls = true := by rw [hal.assignable, hW.alike.assignable]; exact hasg
  obtain ⟨kt2, hkt2, -⟩ := hal.2.2 _ _ hkt
  have X2 := X.noted hW'
  have key : W p G.1 e R s m args below meth c T.heap locs nc ns (m_E G R Q args s below) (F0 m hp ls [.ref x]) := by
    rcases hig with ⟨rfl, rfl⟩ | ⟨f, rfl, rfl, rfl⟩
    · exact lv_astore hx hb hd hL.has hz rfl (fun ls' h' => kk p e s m args below meth c C T.heap locs ls' hR hlo (hL.dropped h'))
    · exact lv_astore_n hx hb hd rfl hL.has hz rfl (fun ls' h' => kk p e s m args below meth c C T.heap locs ls' hR hlo (hL.dropped h'))
  obtain ⟨t, a1, b1⟩ := key (T.setVm (T.vm.noted m.cls ct (.cls cell.cls))) rfl X2
  refine ⟨t, ?_, b1⟩
  refine m_catchStep (g := F0 m pc ls stk) X.here (pc := hp) (m_search (f := F0 m pc ls stk) (x := ⟨hs, he, hp, ct⟩) (meth := meth) (code := c) (c := cell.cls) (cell := cell) ?_ X.code (htab.trans rfl) ?_ hct ?_ ?_ (fun k h => by rw [x3] at h; cases h) ⟨kt2, hkt2⟩ ⟨kt2, hkt2⟩ ?_) a1
  · rw [Stand.throwing_vm]; exact X.method'
  · simp [covers, hcov]
  · rw [Stand.throwing_vm]; exact hcl₀
  · rw [Stand.throwing_heap]; exact x1
  · rw [Stand.throwing_vm]; exact hfit2
end MCa
end
section
/-! the throw of the one exception -/
theorem m_tcast {U S : State} {a b : Array Value} {x y : String} (hal : S.vm.Alike U.vm) (h : (Cond.castable x y).before a S = true) : (Cond.castable x y).before b U = true := by
  simp only [Cond.before, Cond.holds, Cond.value] at h ⊢
  simp only [hal.findClass, hal.assignable]
  exact h
theorem m_tdecl {U S : State} {a b : Array Value} {x : MethodName} (hal : S.vm.Alike U.vm) (h : (Cond.declares x).before a S = true) : (Cond.declares x).before b U = true := by
  simp only [Cond.before, Cond.holds, Cond.value] at h ⊢
  have e1 : U.methodNamed? x = S.methodNamed? x := State.methodNamed?_setVm (s := S) hal x
  have e2 : U.vm.method? = S.vm.method? := funext hal.method?
  rw [e1, e2]
  exact h
theorem m_found {U S : State} (hal : S.vm.Alike U.vm) {cls name desc : String} {c i : Nat} {k : Class} {f : Field} (hf : S.fieldFound? cls name desc = some (c, k, i, f)) : ∃ k' : Class, U.fieldFound? cls name desc = some (c, k', i, f) ∧ k'.statics = k.statics ∧ k'.staticTypes = k.staticTypes := by
  obtain ⟨k', h1, h2⟩ := State.fieldFound?_setVm (s := S) hal hf
  exact ⟨k', h1, by rw [h2], by rw [h2]⟩
theorem m_tlay {U S : State} {a b : Array Value} {x y z : String} (hal : S.vm.Alike U.vm) (hq : ∀ q : Nat, q < S.heap.size → U.heap[q]? = S.heap[q]?) (h : (Cond.laysStatic x y z).before a S = true) : (Cond.laysStatic x y z).before b U = true := by
  simp only [Cond.before, Cond.holds, Cond.value] at h ⊢
  rw [hal.findClass]
  cases hc : S.vm.findClass x with
  | none => simp [hc] at h
  | some c =>
    cases hf : S.fieldFound? x y z with
    | none => simp [hc, hf] at h
    | some r =>
      obtain ⟨c', k, i, f⟩ := r
      obtain ⟨k', e1, e2, e3⟩ := m_found hal hf
      rw [hc, hf] at h
      rw [e1]
      simp only at h ⊢
      rw [e2, e3]
      cases hs : k.statics with
      | none => simp [hs] at h
      | some q =>
        rw [hs] at h
        cases hcell : S.heap[q]? with
        | none => simp [hcell] at h
        | some cell =>
          have hlt : q < S.heap.size := (Array.getElem?_eq_some_iff.mp hcell).1
          simp only [Option.bind_some, hcell] at h
          simp only [Option.bind_some, hq q hlt, hcell]
          exact h
theorem m_tref {U S : State} {a b : Array Value} {x y z : String} (hal : S.vm.Alike U.vm) (hq : ∀ q : Nat, q < S.heap.size → U.heap[q]? = S.heap[q]?) (h : (Cond.isRef (.static x y z)).before a S = true) : (Cond.isRef (.static x y z)).before b U = true := by
  have ev : (Term.static x y z).eval b U none [] U = (Term.static x y z).eval a S none [] S := by
    simp only [Cond.before, Cond.holds, Cond.value] at h
    cases hf : S.fieldFound? x y z with
    | none => simp [Term.eval, State.fieldNamed?, hf] at h
    | some r =>
      obtain ⟨c', k, i, f⟩ := r
      obtain ⟨k', e1, e2, e3⟩ := m_found hal hf
      cases hev : (Term.static x y z).eval a S none [] S with
      | none => simp [hev] at h
      | some v =>
        obtain ⟨h1, q, cell, h2, h3, h4, h5⟩ := Term.static_spec hf hev
        have hlt : q < S.heap.size := (Array.getElem?_eq_some_iff.mp h3).1
        rw [← hev]
        simp [Term.eval, State.fieldNamed?, hf, e1, h1, e2, h2, hq q hlt, h3]
  simp only [Cond.before, Cond.holds, Cond.value] at h ⊢
  rw [ev]
  exact h
def m_kind : Cond → Bool
  | .declares _ => true
  | .castable .. => true
  | .laysStatic .. => true
  | x => goodWord x
def m_names : List String := ["java/lang/IndexOutOfBoundsException", "java/lang/RuntimeException", "java/lang/Exception"]
set_option maxRecDepth 100000 in
theorem m_ownall : (Bundle.ownAtoms "GridShapes" 174 RJx00060 m_names).all (fun x => (decide (x ∈ lw_tbl) && m_kind x) || (decide (x = m_uns) || decide (x = m_sup))) = true := by decide +kernel
theorem m_own {G : mG} {U : State} (hG : m_G G) (hW : G.2.1.WarmedH U.vm) (hq : ∀ q : Nat, q < G.2.1.heap.size → U.heap[q]? = G.2.1.heap[q]?) (b : Array Value) : ∀ x ∈ Bundle.ownAtoms "GridShapes" 174 RJx00060 m_names, x.before b U = true := by
  intro x hx
  have h := List.all_eq_true.mp m_ownall x hx
  simp only [Bool.or_eq_true, Bool.and_eq_true, decide_eq_true_eq] at h
  rcases h with ⟨h1, h2⟩ | rfl | rfl
  · have h3 := hG.2.1 x h1
    unfold m_kind at h2
    split at h2
    · exact m_tdecl hW.alike h3
    · exact m_tcast hW.alike h3
    · exact m_tlay hW.alike hq h3
    · exact m_word hG hW h1 h2 b
  · exact m_tref hW.alike hq hG.2.2.2.2.1
  · exact m_tref hW.alike hq hG.2.2.2.2.2.1
/-- the walk so far is forgotten: the method as if it began here -/
theorem m_rebase {p : Program} {l : Launch} {e : Env} {R R0 : Room} {s : State} {m : MethodId} {args : Array Value} {below : List Frame} {meth : Method} {c : Code} {T : State} {locs : List Loc} {n k : Nat} (X : Stand p l e R s m args below meth c T locs n k)
    (h1 : R0.frames = R.frames) (h2 : R0.locals = R.locals) (h3 : n + R0.cells ≤ R.cells) (h4 : k + R0.slots ≤ R.slots) : Stand p l e R0 (T.setFrames (.invoking m args :: below)) m args below meth c T [] 0 0 := by
  obtain ⟨g₀, hfr⟩ := X.frames_eq
  have hcur : T.cur < T.threads.size := State.cur_lt_of_frames hfr
  have hF : (T.setFrames (.invoking m args :: below)).frames = .invoking m args :: below := State.frames_setFrames _ hcur
  have hal := X.warmed.alike
  have hvm : (T.setFrames (.invoking m args :: below)).vm = T.vm := rfl
  have hmeth : (T.setFrames (.invoking m args :: below)).vm.method? m = some meth := X.method'
  refine ⟨X.admits, X.cas, X.clock, hF, ?_, ?_, hmeth, X.code, X.here, X.tail, State.WarmedH.refl _, by rw [State.stackLimits_setFrames], by rw [State.stackBytes_setFrames], ?_⟩
  · have h := X.room
    have hbook := X.book
    simp only [State.hasRoom, Bool.and_eq_true, decide_eq_true_eq] at h
    rw [State.localsInUse_invoking X.frames X.method X.code, X.frames] at h
    have hhs := X.heapSize
    have hus := X.used
    simp only [State.hasRoom, Bool.and_eq_true, decide_eq_true_eq]
    rw [State.localsInUse_invoking hF hmeth X.code, hF, State.stackLimits_setFrames, State.stackBytes_setFrames, X.limits, X.bytes, h1, h2]
    refine ⟨⟨⟨h.1.1.1, ?_⟩, ?_⟩, hbook⟩
    · have := h.1.1.2
      show T.heap.size + R0.cells ≤ _
      omega
    · have := h.1.2
      show T.slotsUsed + R0.slots ≤ _
      omega
  · have hh := X.hears
    rcases below with _ | ⟨y, r⟩
    · simp only [State.hears, hmeth, X.method] at hh ⊢
      exact hh
    · cases y <;> first | exact hh | (simp only [State.hears, State.code?_eq, hvm, hal.method?] at hh ⊢; exact hh)
  · obtain ⟨t, ht, -⟩ := State.frames_cons hF
    have h := (State.sameButNew.refl (T.setFrames (.invoking m args :: below)) ht).setFrames T.frames (State.cur_lt_of_frames hF)
    have e1 : (T.setFrames (.invoking m args :: below)).setFrames T.frames = T := by
      rw [State.setFrames_setFrames]
      obtain ⟨t2, ht2, -⟩ := State.frames_cons hfr
      exact State.setFrames_self ht2
    rw [e1] at h
    exact h
end
section
section MIn
variable {G : mG} {M M' : mM} {R R' : Room} {Q Q' : Option (Option Value) → List mC → Prop} {nc ns pc : Nat} {L : List (Option Value)} {st : List Value} {w w' : List mC}
theorem m_vis {v : Value} (h : ∃ i, v = .ref i) : v.isRef = true := by obtain ⟨i, rfl⟩ := h; rfl
set_option maxHeartbeats 1000000 in
/-- new X("no such place"), thrown: the object is one more cell, of which nothing is told -/
theorem m_throwNew (hM : M.1.cls = "GridShapes") (hh : M.2.2.2.2 = []) (d0 : decode M.2.1 pc = .ok (.new 170, 3)) (d3 : decode M.2.1 (pc + 3) = .ok (.dup, 1)) (d4 : decode M.2.1 (pc + 3 + 1) = .ok (.ldc 172, 2)) (d6 : decode M.2.1 (pc + 3 + 1 + 2) = .ok (.invokespecial 174, 3)) (d9 : decode M.2.1 (pc + 3 + 1 + 2 + 3) = .ok (.athrow, 1))
    (h1 : Cond.classLink "GridShapes" 170 RJx00060 ∈ lw_tbl) (h2 : Cond.instantiable RJx00060 6 ∈ lw_tbl) (h3 : Cond.initialized RJx00060 ∈ lw_tbl) (hfr : 7 ≤ R.frames) (hlc : (st.map fun v => v.category).sum + 96 ≤ R.locals) (hn : nc + 1 ≤ R.cells ∧ ns + 6 ≤ R.slots) (hq : Q none (w ++ [mU])) : m_J G M R Q nc ns pc L st w := by
  intro p e s m args below meth c C H locs ls hR hlo hL T hT X
  obtain ⟨hx, hb, hml, hrt, hlocks, hown, hname, htab, hW, -, -, hG⟩ := id C
  rw [hM] at hown
  obtain ⟨am, ham⟩ := hG.2.2.2.2.2.2
  have X' := m_rebase (R0 := { frames := R.frames, locals := R.locals, cells := R.cells - nc, slots := R.slots - ns }) X rfl rfl (by show nc + (R.cells - nc) ≤ _; omega) (by show ns + (R.slots - ns) ≤ _; omega)
  have hWT : G.2.1.WarmedH T.vm := State.WarmedH.trans hW X.warmed
  generalize hs' : T.setFrames (.invoking m args :: below) = s' at X'
  have hvm : s'.vm = T.vm := by rw [← hs']; rfl
  have hhp : s'.heap = H := by rw [← hs', ← hT]; rfl
  have hW' : G.2.1.WarmedH s'.vm := by rw [hvm]; exact hWT
  have hown' : s'.vm.findClass "GridShapes" = some m.cls := by rw [hvm, X.warmed.alike.findClass]; exact hown
  obtain ⟨cX, kX, hfX, hkX, -⟩ := Cond.instantiable_spec (args := args) (first := s') (o := none) (s := s') (idx := []) (m_word hG hW' h2 rfl args)
  have hsum : ((st.map (m_v G)).map fun v => v.category).sum = (st.map fun v => v.category).sum := by
    rw [List.map_map]
    exact congrArg List.sum (List.map_congr_left fun v _ => m_cat G v)
  have key : W p G.1 e { frames := R.frames, locals := R.locals, cells := R.cells - nc, slots := R.slots - ns } s' m args below meth c H [] 0 0 (fun t => t.status = .running ∧ Ended t below (.threw H.size) ∧ s'.WarmedH t.vm ∧ s'.sameButNew ({ t with vm := s'.vm } : State) [] 1 6 ∧ ∃ ce : Cell, t.heap[H.size]? = some ce ∧ s'.vm.findClass RJx00060 = some ce.cls ∧ ce.vm = .none) (F0 m pc ls (st.map (m_v G))) := by
    refine W.newcK hx hb hown' (m_word hG hW' h1 rfl _) (m_word hG hW' h2 rfl _) (m_word hG hW' h3 rfl _) rfl d0 (show 0 + 1 ≤ R.cells - nc by omega) (show 0 + 6 ≤ R.slots - ns by omega) hfX rfl fun H1 kC hkC e1 z1 o1 => ?_
    cases hkX.symm.trans hkC
    refine lv_dup hx hb d3 rfl ?_
    refine va_ldcS hx hb hown' (vk_R.warm hW' ham) d4 ?_
    intro T2 hT2 X2
    have htr : e.platform.stackTraces = false := by rw [X.admits.platform]; exact hG.2.2.2.1
    obtain ⟨U, u1, u2, u3, u4, u5, ce, u6, u7⟩ := X2.ctorThrowS hx htr (own := "GridShapes") (cls := RJx00060) (names := m_names) (ic := 174) hown' (by decide) (by decide) (m_own hG hW' (fun q hq => by rw [hhp]; exact hR.2.2.1 q hq) args) (fun x hx => by cases hx) (a := H.size) hfX hkX (by rw [hT2]; exact e1) (by rw [hhp]; exact Nat.le_refl _) (msg := .ref am) rfl (g := F0 m (pc + 3 + 1 + 2) ls (.ref am :: .ref H.size :: .ref H.size :: st.map (m_v G))) rfl (by rw [hml]; exact hL.1) rfl rfl (rest := st.map (m_v G)) rfl (by rw [hb]; exact d6) (by rw [hb]; exact d9) (fun x hx => by rw [htab, hh] at hx; cases hx) (show 3 + 3 < R.frames by omega)
      (by
        rw [List.map_cons, List.sum_cons, hsum]
        show 2 * 0 + (1 + _) + (13 * (3 + 1) + 42) ≤ R.locals
        omega) hlocks
    exact ⟨U, u1, u2, u3, u4, u5, ce, u6, u7.cls, u7.vm⟩
  obtain ⟨t, a1, b1, b2, b3, b4, ce, b5, b6, b7⟩ := key T hT X'
  have hsm := b4
  obtain ⟨q1, q2, q3, q4, q5, q6⟩ := b4
  have q2' : H.size ≤ t.heap.size := by rw [← hhp]; exact q2
  have q3' : t.heap.size ≤ H.size + 1 := by rw [← hhp]; exact q3
  have hlt : H.size < t.heap.size := (Array.getElem?_eq_some_iff.mp b5).1
  have hsame : ∀ q : Nat, q < H.size → t.heap[q]? = H[q]? := by
    intro q hq
    have hg : s'.heap[q]? = some H[q] := by rw [hhp]; exact Array.getElem?_eq_getElem hq
    obtain ⟨c', g1, g2, g3, g4⟩ := q6 q _ hg
    have hsl : c'.slots = H[q].slots := Array.ext_getElem? fun i => g4 i (by simp)
    rw [hsl] at g2
    have g1' : t.heap[q]? = some c' := g1
    rw [g1', g2]
    exact (Array.getElem?_eq_getElem hq).symm
  refine ⟨t, a1, .threw H.size, b1, b2, none, w ++ [mU], hq, ⟨H.size, ce, rfl, b5, ?_, b7⟩, hR.push hG.1 (by omega) hsame ⟨ce, by rw [m_at hR]; exact b5, b7⟩, ?_, locs, ?_, hlo⟩
  · rw [← hW'.alike.findClass]; exact b6
  · rw [hvm] at *
    exact State.WarmedH.trans X.warmed (by
      have h9 : s'.WarmedH t.vm := b3
      rw [← hs'] at h9
      exact h9)
  · have h5 : T.sameButNew ({ t with vm := T.vm } : State) [] 1 6 := by
      rw [← hs'] at hsm
      obtain ⟨r1, r2, r3, r4, r5, r6⟩ := hsm
      refine ⟨?_, r2, r3, r4, r5, r6⟩
      rw [State.setFrames_setFrames] at r1
      exact r1
    have h6 := X.same.trans (h5.setVm s.vm)
    rw [List.append_nil] at h6
    exact h6.mono hn.1 hn.2
/-! the four ways to call; the answer told -/
/-- what every call asks of the room -/
def m_rm (R R' : Room) (M' : mM) (nc ns : Nat) (st : List Value) : Prop := R'.frames + 1 ≤ R.frames ∧ (st.map fun v => v.category).sum + (M'.2.2.1 + 11) + R'.locals ≤ R.locals ∧ nc + R'.cells ≤ R.cells ∧ ns + R'.slots ≤ R.slots
/-- the words of a callee: its code stands in the tables, its class is initialised -/
def m_cl (M' : mM) (n : Nat) : Prop := m_cw M' ∈ lw_tbl ∧ Cond.initialized M'.1.cls ∈ lw_tbl ∧ (M'.1.cls ≠ "java/lang/invoke/MethodHandle" ∧ M'.1.cls ≠ "java/lang/invoke/VarHandle") ∧ (parseMethodDescriptor M'.1.desc).map (fun d => d.parameters.length) = some n
theorem m_gcw (M' : mM) : goodWord (m_cw M') = true := by
  unfold m_cw
  split <;> rfl
theorem m_cats {st : List Value} : ((st.map (m_v G)).map fun v => v.category).sum = (st.map fun v => v.category).sum := by
  rw [List.map_map]
  exact congrArg List.sum (List.map_congr_left fun v _ => m_cat G v)
/-- from the linked call on -/
theorem m_go {p : Program} {e : Env} {s : State} {m : MethodId} {args : Array Value} {below : List Frame} {meth : Method} {c : Code} {T : State} {locs : List Loc} {ls : Array Slot} {av : List Value} {vm₁ : Vm} {mk : MethodId} {ig : Instr} {g0 : JFrame} {n : Nat}
    (C : m_Cx G M p s m meth c) (hcl : m_cl M' n) (X₁ : Stand p G.1 e R s m args below meth c (T.setVm vm₁) locs nc ns) (hR : m_R G w T.heap) (hlo : ∀ q ∈ locs, G.2.1.heap.size ≤ q.base) (hL : m_lv G ls M.2.2.1 L) (hn : s.methodNamed? M'.1 = some mk) (hdg : decode c.code pc = .ok (ig, 3)) (hrm : m_rm R R' M' nc ns st) (hM : m_Ct G M' R' av w Q')
    (hstep : ∀ target, (∀ acts, Steps p.tables e below (doInvoke e ((T.setVm vm₁).setTop (F0 m pc ls (st.map (m_v G)))) acts mk (av.map (m_v G)).toArray).1 target) → Steps p.tables e below (T.setTop g0) target)
    (kk : ∀ (v : Option Value) (w' : List mC), Q' (some v) w' → m_J G M R Q (nc + R'.cells) (ns + R'.slots) (pc + 3) L (v.toList ++ st) w')
    (kt : ∀ w' : List mC, Q' none w' → m_T G M R Q (nc + R'.cells) (ns + R'.slots) pc L w') : ∃ t, Steps p.tables e below (T.setTop g0) t ∧ m_E G R Q args s below t := by
  obtain ⟨hx, hb, hml, hrt, hlocks, hown, hname, htab, hW, -, -, hG⟩ := id C
  have hW1 : G.2.1.WarmedH (T.setVm vm₁).vm := State.WarmedH.trans hW X₁.warmed
  have hn1 : (T.setVm vm₁).methodNamed? M'.1 = some mk := by
    rw [← hn]
    exact State.methodNamed?_setVm (s := s) X₁.warmed.alike M'.1
  obtain ⟨r, w', T', Lc, hQ, hR2, X2, hLc, hst⟩ := m_inv (M' := M') (R' := R') (Q' := Q') X₁ (g := F0 m pc ls (st.map (m_v G))) rfl (by rw [hml]; exact hL.1) hdg hn1 hM rfl hrm.1 (by
    rw [m_cats]
    show 2 * 0 + _ + _ + _ ≤ _
    have := hrm.2.1
    omega) hrm.2.2.1 hrm.2.2.2 (m_word hG hW1 hcl.1 (m_gcw M') _) (m_word hG hW1 hcl.2.1 rfl _) hW1 hR
  have hlo2 : ∀ q ∈ locs ++ Lc, G.2.1.heap.size ≤ q.base := fun q hq => (List.mem_append.mp hq).elim (hlo q) (hLc q)
  cases r with
  | some v =>
    obtain ⟨t, a1, b1⟩ := kk v w' hQ p e s m args below meth c C T'.heap (locs ++ Lc) ls hR2 hlo2 hL T' rfl X2
    refine ⟨t, hstep t fun acts => ?_, b1⟩
    rw [doInvoke_state]
    refine Steps.trans hst ?_
    have he : (v.map (m_v G)).toList ++ st.map (m_v G) = (v.toList ++ st).map (m_v G) := by cases v <;> rfl
    rw [← he] at a1
    exact a1
  | none =>
    obtain ⟨x, hxc, hst2⟩ := hst
    obtain ⟨t, a1, b1⟩ := kt w' hQ p e s m args below meth c C T' (locs ++ Lc) ls x (st.map (m_v G)) hR2 hlo2 hL hxc X2
    refine ⟨t, hstep t fun acts => ?_, b1⟩
    rw [doInvoke_state]
    exact Steps.trans hst2 a1
theorem m_len1 {M' : mM} {n : Nat} (h : m_cl M' n) {sig : MethodDescriptor} (hs : parseMethodDescriptor M'.1.desc = some sig) : n = sig.parameters.length := by
  have := h.2.2.2
  rw [hs] at this
  exact (Option.some.inj this).symm
/-- invokestatic -/
theorem m_invS {idx n : Nat} {av : List Value} (hk : Cond.methodLink M.1.cls idx M'.1 ∈ lw_tbl) (hs : Cond.static M'.1 ∈ lw_tbl) (hcl : m_cl M' n) (hd : decode M.2.1 pc = .ok (.invokestatic idx, 3)) (hn : av.length = n) (hrm : m_rm R R' M' nc ns st) (hM : m_Ct G M' R' av w Q')
    (kk : ∀ (v : Option Value) (w' : List mC), Q' (some v) w' → m_J G M R Q (nc + R'.cells) (ns + R'.slots) (pc + 3) L (v.toList ++ st) w')
    (kt : ∀ w' : List mC, Q' none w' → m_T G M R Q (nc + R'.cells) (ns + R'.slots) pc L w') : m_J G M R Q nc ns pc L (av.reverse ++ st) w := by
  intro p e s m args below meth c C H locs ls hR hlo hL T hT X
  obtain ⟨hx, hb, hml, hrt, hlocks, hown, hname, htab, hW, -, -, hG⟩ := id C
  have hcode := m_word hG hW hcl.1 (m_gcw M') args
  obtain ⟨mk, hnamed⟩ : ∃ mk, s.methodNamed? M'.1 = some mk := by
    have h9 := m_word hG hW hs rfl args
    simp only [Cond.before, Cond.holds, Cond.value] at h9
    cases hq : s.methodNamed? M'.1 with
    | none => simp [hq] at h9
    | some mk => exact ⟨mk, rfl⟩
  obtain ⟨methM, cM, hmethM, -, -, -, -, -, -, hsigM⟩ := m_codespec hnamed hcode
  have hstatic : methM.isStatic = true := Cond.static_spec hnamed hmethM (m_word hG hW hs rfl args)
  obtain ⟨kP, hkP, -⟩ := className_of_methodNamed hnamed
  have hinitP : kP.init = .initialized := Cond.initialized_spec (findClass_of_methodNamed hnamed) hkP (m_word hG hW hcl.2.1 rfl args)
  obtain ⟨vm₁, X₁, hstep₁⟩ := X.invokestatic hx hown (m_word hG hW hk rfl args) hnamed hmethM hstatic hkP hinitP hcl.2.2.1 (g := F0 m pc ls ((av.reverse ++ st).map (m_v G))) rfl (argsL := av.map (m_v G)) (rest := st.map (m_v G)) (by rw [List.length_map, hn]; exact m_len1 hcl hsigM) (by simp) (by rw [hb]; exact hd)
  exact m_go C hcl X₁ (by rw [hT]; exact hR) hlo hL hnamed (by rw [hb]; exact hd) hrm hM hstep₁ kk kt
theorem m_invSN {idx n : Nat} {host : String} {av : List Value} (hk : Cond.methodLinkNest M.1.cls idx M'.1 host ∈ lw_tbl) (hs : Cond.static M'.1 ∈ lw_tbl) (hcl : m_cl M' n) (hd : decode M.2.1 pc = .ok (.invokestatic idx, 3)) (hn : av.length = n) (hrm : m_rm R R' M' nc ns st) (hM : m_Ct G M' R' av w Q')
    (kk : ∀ (v : Option Value) (w' : List mC), Q' (some v) w' → m_J G M R Q (nc + R'.cells) (ns + R'.slots) (pc + 3) L (v.toList ++ st) w')
    (kt : ∀ w' : List mC, Q' none w' → m_T G M R Q (nc + R'.cells) (ns + R'.slots) pc L w') : m_J G M R Q nc ns pc L (av.reverse ++ st) w := by
  intro p e s m args below meth c C H locs ls hR hlo hL T hT X
  obtain ⟨hx, hb, hml, hrt, hlocks, hown, hname, htab, hW, -, -, hG⟩ := id C
  have hcode := m_word hG hW hcl.1 (m_gcw M') args
  obtain ⟨mk, hnamed⟩ : ∃ mk, s.methodNamed? M'.1 = some mk := by
    have h9 := m_word hG hW hs rfl args
    simp only [Cond.before, Cond.holds, Cond.value] at h9
    cases hq : s.methodNamed? M'.1 with
    | none => simp [hq] at h9
    | some mk => exact ⟨mk, rfl⟩
  obtain ⟨methM, cM, hmethM, -, -, -, -, -, -, hsigM⟩ := m_codespec hnamed hcode
  have hstatic : methM.isStatic = true := Cond.static_spec hnamed hmethM (m_word hG hW hs rfl args)
  obtain ⟨kP, hkP, -⟩ := className_of_methodNamed hnamed
  have hinitP : kP.init = .initialized := Cond.initialized_spec (findClass_of_methodNamed hnamed) hkP (m_word hG hW hcl.2.1 rfl args)
  have hlk : (Cond.methodLinkNest M.1.cls idx M'.1 host).before args s = true := va_Nw.use rfl (va_Nw.warmM hW (va_Nw.of rfl (hG.2.1 _ hk)))
  obtain ⟨vm₁, X₁, hstep₁⟩ := X.invokestaticNest hx hown hlk hnamed hmethM hstatic hkP hinitP hcl.2.2.1 (g := F0 m pc ls ((av.reverse ++ st).map (m_v G))) rfl (argsL := av.map (m_v G)) (rest := st.map (m_v G)) (by rw [List.length_map, hn]; exact m_len1 hcl hsigM) (by simp) (by rw [hb]; exact hd)
  exact m_go C hcl X₁ (by rw [hT]; exact hR) hlo hL hnamed (by rw [hb]; exact hd) hrm hM hstep₁ kk kt
/-- invokevirtual on an object of the callee's own class -/
theorem m_invV {idx n i ci N : Nat} {T0 : u_T} {fs av : List Value} (hk : Cond.methodLink M.1.cls idx M'.1 ∈ lw_tbl) (hi : Cond.instanceMethod M'.1 ∈ lw_tbl) (hse : Cond.selects M'.1.cls M'.1 M'.1 ∈ lw_tbl) (hcl : m_cl M' n) (hd : decode M.2.1 pc = .ok (.invokevirtual idx, 3)) (hn : av.length = n) (hc : mCl[ci]? = some (M'.1.cls, T0, N)) (hw : w[i]? = some (mO ci fs)) (hrm : m_rm R R' M' nc ns st) (hM : m_Ct G M' R' (.ref i :: av) w Q')
    (kk : ∀ (v : Option Value) (w' : List mC), Q' (some v) w' → m_J G M R Q (nc + R'.cells) (ns + R'.slots) (pc + 3) L (v.toList ++ st) w')
    (kt : ∀ w' : List mC, Q' none w' → m_T G M R Q (nc + R'.cells) (ns + R'.slots) pc L w') : m_J G M R Q nc ns pc L (av.reverse ++ .ref i :: st) w := by
  intro p e s m args below meth c C H locs ls hR hlo hL T hT X
  obtain ⟨hx, hb, hml, hrt, hlocks, hown, hname, htab, hW, -, -, hG⟩ := id C
  have hcode := m_word hG hW hcl.1 (m_gcw M') args
  obtain ⟨mk, methM, hnamed, hmethM, hstM, habM⟩ := Cond.instanceMethod_spec (m_word hG hW hi rfl args)
  obtain ⟨methM', cM, hmethM', -, -, -, -, -, -, hsigM⟩ := m_codespec hnamed hcode
  cases hmethM.symm.trans hmethM'
  obtain ⟨c2, r2, m2, q1, q2, q3, q4, kP, hkP, hkPi⟩ := Cond.selects_spec (m_word hG hW hse rfl args)
  obtain ⟨r, hr, cell, g1, g2, g3, -⟩ := hR.2.2.2 _ _ hw
  have hcls : s.vm.findClass M'.1.cls = some cell.cls := by rw [g2]; exact ((m_K hG hW).1 ci _ hc).2.1
  cases hcls.symm.trans q1
  cases (State.methodFound?_of_named hnamed hcl.2.2.1).symm.trans q2
  cases hnamed.symm.trans q3
  have hselP : selectMethod e.platform s.vm cell.cls mk = .method mk := by rw [Launch.admits_selectMethod X.admits]; exact q4
  obtain ⟨vm₁, X₁, hstep₁⟩ := X.invokevirtual hx hown (m_word hG hW hk rfl args) hnamed hmethM hstM hkP hkPi hcl.2.2.1 (a := m_a G i) (cell := cell) (by rw [hT]; exact g1)
    (fun z h => by rw [g3] at h; cases h) hselP hmethM habM hkP hkPi (g := F0 m pc ls ((av.reverse ++ .ref i :: st).map (m_v G))) rfl (argsL := av.map (m_v G)) (rest := st.map (m_v G)) (by rw [List.length_map, hn]; exact m_len1 hcl hsigM) (by simp [m_v]) (by rw [hb]; exact hd)
  exact m_go (av := .ref i :: av) C hcl X₁ (by rw [hT]; exact hR) hlo hL hnamed (by rw [hb]; exact hd) hrm hM hstep₁ kk kt
/-- invokespecial of a constructor -/
theorem m_invI {idx n i : Nat} {av : List Value} (hk : Cond.methodLink M.1.cls idx M'.1 ∈ lw_tbl) (hi : Cond.instanceMethod M'.1 ∈ lw_tbl) (hin : M'.1.name = "<init>" ∧ M'.2.2.2 = (none, [])) (hcl : m_cl M' n) (hd : decode M.2.1 pc = .ok (.invokespecial idx, 3)) (hn : av.length = n) (hrm : m_rm R R' M' nc ns st) (hM : m_Ct G M' R' (.ref i :: av) w Q')
    (kk : ∀ (v : Option Value) (w' : List mC), Q' (some v) w' → m_J G M R Q (nc + R'.cells) (ns + R'.slots) (pc + 3) L (v.toList ++ st) w')
    (kt : ∀ w' : List mC, Q' none w' → m_T G M R Q (nc + R'.cells) (ns + R'.slots) pc L w') : m_J G M R Q nc ns pc L (av.reverse ++ .ref i :: st) w := by
  intro p e s m args below meth c C H locs ls hR hlo hL T hT X
  obtain ⟨hx, hb, hml, hrt, hlocks, hown, hname, htab, hW, -, -, hG⟩ := id C
  have hpl : e.platform.magicAccessors = ({} : Platform).magicAccessors := by rw [X.admits.platform]
  have hcode := m_word hG hW hcl.1 (m_gcw M') args
  have hcode' : (Cond.code M'.1 M'.2.1 M'.2.2.1 none).before args s = true := by
    obtain ⟨x, b, nl, rt, hs⟩ := M'
    obtain ⟨-, h9⟩ := hin
    simp only [Prod.mk.injEq] at h9
    obtain ⟨rfl, rfl⟩ := h9
    exact hcode
  obtain ⟨mk, methM, cM, kP, vm₁, hnamed, hmethM, hcodeM, -, hlocalsM, -, hkP, -, hW₁, hstep₁⟩ := Steps.initColdArgs (e := e) X.here hx X.warmed hpl hown hin.1 hcl.2.2.1 (m_word hG hW hk rfl args) (m_word hG hW hi rfl args) hcode' (f := F0 m pc ls ((av.reverse ++ .ref i :: st).map (m_v G))) rfl (a := m_a G i) (argsL := av.map (m_v G)) (rest := st.map (m_v G)) (fun sig h => by rw [List.length_map, hn]; exact m_len1 hcl h) (by simp [m_v]) (by rw [hb]; exact hd)
  exact m_go (av := .ref i :: av) C hcl (X.noted hW₁) (by rw [hT]; exact hR) hlo hL hnamed (by rw [hb]; exact hd) hrm hM hstep₁ kk kt
end MIn
end
section
theorem inX0 : ∀ x ∈ u_ws RX0 TX0 3, x ∈ lw_tbl := by decide +kernel
theorem ntX0 : Cond.instantiable RX0 3 ∈ lw_tbl := by decide +kernel
theorem ndX0 : Cond.initialized RX0 ∈ lw_tbl := by decide +kernel
theorem inX1 : ∀ x ∈ u_ws RX1 TX1 6, x ∈ lw_tbl := by decide +kernel
theorem ntX1 : Cond.instantiable RX1 6 ∈ lw_tbl := by decide +kernel
theorem ndX1 : Cond.initialized RX1 ∈ lw_tbl := by decide +kernel
theorem inX2 : ∀ x ∈ u_ws RX2 TX2 4, x ∈ lw_tbl := by decide +kernel
theorem ntX2 : Cond.instantiable RX2 4 ∈ lw_tbl := by decide +kernel
theorem ndX2 : Cond.initialized RX2 ∈ lw_tbl := by decide +kernel
theorem inX3 : ∀ x ∈ u_ws RX3 TX3 2, x ∈ lw_tbl := by decide +kernel
theorem ntX3 : Cond.instantiable RX3 2 ∈ lw_tbl := by decide +kernel
theorem ndX3 : Cond.initialized RX3 ∈ lw_tbl := by decide +kernel
theorem inX4 : ∀ x ∈ u_ws RX4 TX4 1, x ∈ lw_tbl := by decide +kernel
theorem ntX4 : Cond.instantiable RX4 1 ∈ lw_tbl := by decide +kernel
theorem ndX4 : Cond.initialized RX4 ∈ lw_tbl := by decide +kernel
theorem inX5 : ∀ x ∈ u_ws RX5 TX5 2, x ∈ lw_tbl := by decide +kernel
theorem ntX5 : Cond.instantiable RX5 2 ∈ lw_tbl := by decide +kernel
theorem ndX5 : Cond.initialized RX5 ∈ lw_tbl := by decide +kernel
theorem inX6 : ∀ x ∈ u_ws RX6 TX6 3, x ∈ lw_tbl := by decide +kernel
theorem ntX6 : Cond.instantiable RX6 3 ∈ lw_tbl := by decide +kernel
theorem ndX6 : Cond.initialized RX6 ∈ lw_tbl := by decide +kernel
theorem inX7 : ∀ x ∈ u_ws RX7 TX7 9, x ∈ lw_tbl := by decide +kernel
theorem ntX7 : Cond.instantiable RX7 9 ∈ lw_tbl := by decide +kernel
theorem ndX7 : Cond.initialized RX7 ∈ lw_tbl := by decide +kernel
theorem inX8 : ∀ x ∈ u_ws RX8 TX8 16, x ∈ lw_tbl := by decide +kernel
theorem ntX8 : Cond.instantiable RX8 16 ∈ lw_tbl := by decide +kernel
theorem ndX8 : Cond.initialized RX8 ∈ lw_tbl := by decide +kernel
abbrev MX0_init : mM := (yX0_init, cX0_init, 2, none, [])
theorem clX0_init : m_cl MX0_init 1 := ⟨by decide +kernel, by decide +kernel, ⟨by decide +kernel, by decide +kernel⟩, by decide +kernel⟩
abbrev MX0_firstFault : mM := (yX0_firstFault, cX0_firstFault, 3, (some .int), [])
theorem clX0_firstFault : m_cl MX0_firstFault 1 := ⟨by decide +kernel, by decide +kernel, ⟨by decide +kernel, by decide +kernel⟩, by decide +kernel⟩
abbrev MX0_copyTo : mM := (yX0_copyTo, cX0_copyTo, 3, none, [])
theorem clX0_copyTo : m_cl MX0_copyTo 1 := ⟨by decide +kernel, by decide +kernel, ⟨by decide +kernel, by decide +kernel⟩, by decide +kernel⟩
abbrev MX0_takes : mM := (yX0_takes, cX0_takes, 4, (some .boolean), [])
theorem clX0_takes : m_cl MX0_takes 2 := ⟨by decide +kernel, by decide +kernel, ⟨by decide +kernel, by decide +kernel⟩, by decide +kernel⟩
abbrev MX0_beginsNumber : mM := (yX0_beginsNumber, cX0_beginsNumber, 2, (some .boolean), [])
theorem clX0_beginsNumber : m_cl MX0_beginsNumber 1 := ⟨by decide +kernel, by decide +kernel, ⟨by decide +kernel, by decide +kernel⟩, by decide +kernel⟩
abbrev MX0_endsNumber : mM := (yX0_endsNumber, cX0_endsNumber, 3, (some .boolean), [])
theorem clX0_endsNumber : m_cl MX0_endsNumber 1 := ⟨by decide +kernel, by decide +kernel, ⟨by decide +kernel, by decide +kernel⟩, by decide +kernel⟩
abbrev MX0_leavesEmpty : mM := (yX0_leavesEmpty, cX0_leavesEmpty, 3, (some .boolean), [])
theorem clX0_leavesEmpty : m_cl MX0_leavesEmpty 1 := ⟨by decide +kernel, by decide +kernel, ⟨by decide +kernel, by decide +kernel⟩, by decide +kernel⟩
abbrev MX1_init : mM := (yX1_init, cX1_init, 6, none, [])
theorem clX1_init : m_cl MX1_init 3 := ⟨by decide +kernel, by decide +kernel, ⟨by decide +kernel, by decide +kernel⟩, by decide +kernel⟩
abbrev MX1_has : mM := (yX1_has, cX1_has, 2, (some .boolean), [])
theorem clX1_has : m_cl MX1_has 1 := ⟨by decide +kernel, by decide +kernel, ⟨by decide +kernel, by decide +kernel⟩, by decide +kernel⟩
abbrev MX1_columnOf : mM := (yX1_columnOf, cX1_columnOf, 2, (some .int), [])
theorem clX1_columnOf : m_cl MX1_columnOf 1 := ⟨by decide +kernel, by decide +kernel, ⟨by decide +kernel, by decide +kernel⟩, by decide +kernel⟩
abbrev MX1_rowOf : mM := (yX1_rowOf, cX1_rowOf, 2, (some .int), [])
theorem clX1_rowOf : m_cl MX1_rowOf 1 := ⟨by decide +kernel, by decide +kernel, ⟨by decide +kernel, by decide +kernel⟩, by decide +kernel⟩
abbrev MX1_placeAt : mM := (yX1_placeAt, cX1_placeAt, 4, (some .int), [])
theorem clX1_placeAt : m_cl MX1_placeAt 2 := ⟨by decide +kernel, by decide +kernel, ⟨by decide +kernel, by decide +kernel⟩, by decide +kernel⟩
abbrev MX1_slots : mM := (yX1_slots, cX1_slots, 1, (some .int), [])
theorem clX1_slots : m_cl MX1_slots 0 := ⟨by decide +kernel, by decide +kernel, ⟨by decide +kernel, by decide +kernel⟩, by decide +kernel⟩
abbrev MX1_directions : mM := (yX1_directions, cX1_directions, 1, (some .int), [])
theorem clX1_directions : m_cl MX1_directions 0 := ⟨by decide +kernel, by decide +kernel, ⟨by decide +kernel, by decide +kernel⟩, by decide +kernel⟩
abbrev MX1_firstBeside : mM := (yX1_firstBeside, cX1_firstBeside, 5, (some .int), [])
theorem clX1_firstBeside : m_cl MX1_firstBeside 2 := ⟨by decide +kernel, by decide +kernel, ⟨by decide +kernel, by decide +kernel⟩, by decide +kernel⟩
abbrev MX1_besideInSquares : mM := (yX1_besideInSquares, cX1_besideInSquares, 4, (some .int), [])
theorem clX1_besideInSquares : m_cl MX1_besideInSquares 3 := ⟨by decide +kernel, by decide +kernel, ⟨by decide +kernel, by decide +kernel⟩, by decide +kernel⟩
abbrev MX1_besideInHexes : mM := (yX1_besideInHexes, cX1_besideInHexes, 6, (some .int), [])
theorem clX1_besideInHexes : m_cl MX1_besideInHexes 3 := ⟨by decide +kernel, by decide +kernel, ⟨by decide +kernel, by decide +kernel⟩, by decide +kernel⟩
abbrev MX1_besideInTriangles : mM := (yX1_besideInTriangles, cX1_besideInTriangles, 5, (some .int), [])
theorem clX1_besideInTriangles : m_cl MX1_besideInTriangles 3 := ⟨by decide +kernel, by decide +kernel, ⟨by decide +kernel, by decide +kernel⟩, by decide +kernel⟩
abbrev MX1_besideInRings : mM := (yX1_besideInRings, cX1_besideInRings, 4, (some .int), [])
theorem clX1_besideInRings : m_cl MX1_besideInRings 3 := ⟨by decide +kernel, by decide +kernel, ⟨by decide +kernel, by decide +kernel⟩, by decide +kernel⟩
abbrev MX2_init : mM := (yX2_init, cX2_init, 4, none, [])
theorem clX2_init : m_cl MX2_init 1 := ⟨by decide +kernel, by decide +kernel, ⟨by decide +kernel, by decide +kernel⟩, by decide +kernel⟩
abbrev MX2_has : mM := (yX2_has, cX2_has, 3, (some .boolean), [])
theorem clX2_has : m_cl MX2_has 2 := ⟨by decide +kernel, by decide +kernel, ⟨by decide +kernel, by decide +kernel⟩, by decide +kernel⟩
abbrev MX2_besideAt : mM := (yX2_besideAt, cX2_besideAt, 3, (some .int), [])
theorem clX2_besideAt : m_cl MX2_besideAt 2 := ⟨by decide +kernel, by decide +kernel, ⟨by decide +kernel, by decide +kernel⟩, by decide +kernel⟩
abbrev MX2_walledAt : mM := (yX2_walledAt, cX2_walledAt, 3, (some .boolean), [])
theorem clX2_walledAt : m_cl MX2_walledAt 2 := ⟨by decide +kernel, by decide +kernel, ⟨by decide +kernel, by decide +kernel⟩, by decide +kernel⟩
abbrev MX2_openAt : mM := (yX2_openAt, cX2_openAt, 3, (some .int), [])
theorem clX2_openAt : m_cl MX2_openAt 2 := ⟨by decide +kernel, by decide +kernel, ⟨by decide +kernel, by decide +kernel⟩, by decide +kernel⟩
abbrev MX2_slotOf : mM := (yX2_slotOf, cX2_slotOf, 4, (some .int), [])
theorem clX2_slotOf : m_cl MX2_slotOf 2 := ⟨by decide +kernel, by decide +kernel, ⟨by decide +kernel, by decide +kernel⟩, by decide +kernel⟩
abbrev MX2_leastBeyond : mM := (yX2_leastBeyond, cX2_leastBeyond, 6, (some .int), [])
theorem clX2_leastBeyond : m_cl MX2_leastBeyond 2 := ⟨by decide +kernel, by decide +kernel, ⟨by decide +kernel, by decide +kernel⟩, by decide +kernel⟩
abbrev MX2_tie : mM := (yX2_tie, cX2_tie, 3, none, [])
theorem clX2_tie : m_cl MX2_tie 2 := ⟨by decide +kernel, by decide +kernel, ⟨by decide +kernel, by decide +kernel⟩, by decide +kernel⟩
abbrev MX2_setWall : mM := (yX2_setWall, cX2_setWall, 4, none, [])
theorem clX2_setWall : m_cl MX2_setWall 3 := ⟨by decide +kernel, by decide +kernel, ⟨by decide +kernel, by decide +kernel⟩, by decide +kernel⟩
abbrev MX3_init : mM := (yX3_init, cX3_init, 2, none, [])
theorem clX3_init : m_cl MX3_init 1 := ⟨by decide +kernel, by decide +kernel, ⟨by decide +kernel, by decide +kernel⟩, by decide +kernel⟩
abbrev MX3_length : mM := (yX3_length, cX3_length, 1, (some .int), [])
theorem clX3_length : m_cl MX3_length 0 := ⟨by decide +kernel, by decide +kernel, ⟨by decide +kernel, by decide +kernel⟩, by decide +kernel⟩
abbrev MX3_at : mM := (yX3_at, cX3_at, 2, (some .int), [])
theorem clX3_at : m_cl MX3_at 1 := ⟨by decide +kernel, by decide +kernel, ⟨by decide +kernel, by decide +kernel⟩, by decide +kernel⟩
abbrev MX3_put : mM := (yX3_put, cX3_put, 2, (some .boolean), [])
theorem clX3_put : m_cl MX3_put 1 := ⟨by decide +kernel, by decide +kernel, ⟨by decide +kernel, by decide +kernel⟩, by decide +kernel⟩
abbrev MX3_clear : mM := (yX3_clear, cX3_clear, 1, none, [])
theorem clX3_clear : m_cl MX3_clear 0 := ⟨by decide +kernel, by decide +kernel, ⟨by decide +kernel, by decide +kernel⟩, by decide +kernel⟩
abbrev MX4_init : mM := (yX4_init, cX4_init, 2, none, [])
theorem clX4_init : m_cl MX4_init 1 := ⟨by decide +kernel, by decide +kernel, ⟨by decide +kernel, by decide +kernel⟩, by decide +kernel⟩
abbrev MX4_spell : mM := (yX4_spell, cX4_spell, 4, none, [])
theorem clX4_spell : m_cl MX4_spell 1 := ⟨by decide +kernel, by decide +kernel, ⟨by decide +kernel, by decide +kernel⟩, by decide +kernel⟩
abbrev MX4_spellEmpty : mM := (yX4_spellEmpty, cX4_spellEmpty, 3, none, [])
theorem clX4_spellEmpty : m_cl MX4_spellEmpty 1 := ⟨by decide +kernel, by decide +kernel, ⟨by decide +kernel, by decide +kernel⟩, by decide +kernel⟩
abbrev MX4_spellNumber : mM := (yX4_spellNumber, cX4_spellNumber, 2, none, [])
theorem clX4_spellNumber : m_cl MX4_spellNumber 1 := ⟨by decide +kernel, by decide +kernel, ⟨by decide +kernel, by decide +kernel⟩, by decide +kernel⟩
abbrev MX5_init : mM := (yX5_init, cX5_init, 2, none, [])
theorem clX5_init : m_cl MX5_init 1 := ⟨by decide +kernel, by decide +kernel, ⟨by decide +kernel, by decide +kernel⟩, by decide +kernel⟩
abbrev MX5_has : mM := (yX5_has, cX5_has, 2, (some .boolean), [])
theorem clX5_has : m_cl MX5_has 1 := ⟨by decide +kernel, by decide +kernel, ⟨by decide +kernel, by decide +kernel⟩, by decide +kernel⟩
abbrev MX5_placeAfter : mM := (yX5_placeAfter, cX5_placeAfter, 10, (some .int), [])
theorem clX5_placeAfter : m_cl MX5_placeAfter 2 := ⟨by decide +kernel, by decide +kernel, ⟨by decide +kernel, by decide +kernel⟩, by decide +kernel⟩
abbrev MX5_columnAround : mM := (yX5_columnAround, cX5_columnAround, 5, (some .int), [])
theorem clX5_columnAround : m_cl MX5_columnAround 2 := ⟨by decide +kernel, by decide +kernel, ⟨by decide +kernel, by decide +kernel⟩, by decide +kernel⟩
abbrev MX6_init : mM := (yX6_init, cX6_init, 3, none, [])
theorem clX6_init : m_cl MX6_init 2 := ⟨by decide +kernel, by decide +kernel, ⟨by decide +kernel, by decide +kernel⟩, by decide +kernel⟩
abbrev MX6_admitAll : mM := (yX6_admitAll, cX6_admitAll, 2, none, [])
theorem clX6_admitAll : m_cl MX6_admitAll 0 := ⟨by decide +kernel, by decide +kernel, ⟨by decide +kernel, by decide +kernel⟩, by decide +kernel⟩
abbrev MX6_admitArea : mM := (yX6_admitArea, cX6_admitArea, 4, none, [])
theorem clX6_admitArea : m_cl MX6_admitArea 2 := ⟨by decide +kernel, by decide +kernel, ⟨by decide +kernel, by decide +kernel⟩, by decide +kernel⟩
abbrev MX6_refuse : mM := (yX6_refuse, cX6_refuse, 2, none, [])
theorem clX6_refuse : m_cl MX6_refuse 1 := ⟨by decide +kernel, by decide +kernel, ⟨by decide +kernel, by decide +kernel⟩, by decide +kernel⟩
abbrev MX6_stepsTo : mM := (yX6_stepsTo, cX6_stepsTo, 2, (some .int), [])
theorem clX6_stepsTo : m_cl MX6_stepsTo 1 := ⟨by decide +kernel, by decide +kernel, ⟨by decide +kernel, by decide +kernel⟩, by decide +kernel⟩
abbrev MX6_countParts : mM := (yX6_countParts, cX6_countParts, 3, (some .int), [])
theorem clX6_countParts : m_cl MX6_countParts 0 := ⟨by decide +kernel, by decide +kernel, ⟨by decide +kernel, by decide +kernel⟩, by decide +kernel⟩
abbrev MX6_spreadFrom : mM := (yX6_spreadFrom, cX6_spreadFrom, 5, none, [])
theorem clX6_spreadFrom : m_cl MX6_spreadFrom 1 := ⟨by decide +kernel, by decide +kernel, ⟨by decide +kernel, by decide +kernel⟩, by decide +kernel⟩
abbrev MX6_reach : mM := (yX6_reach, cX6_reach, 3, none, [])
theorem clX6_reach : m_cl MX6_reach 2 := ⟨by decide +kernel, by decide +kernel, ⟨by decide +kernel, by decide +kernel⟩, by decide +kernel⟩
abbrev MX7_init : mM := (yX7_init, cX7_init, 4, none, [])
theorem clX7_init : m_cl MX7_init 3 := ⟨by decide +kernel, by decide +kernel, ⟨by decide +kernel, by decide +kernel⟩, by decide +kernel⟩
abbrev MX7_join : mM := (yX7_join, cX7_join, 3, (some .boolean), [])
theorem clX7_join : m_cl MX7_join 2 := ⟨by decide +kernel, by decide +kernel, ⟨by decide +kernel, by decide +kernel⟩, by decide +kernel⟩
abbrev MX7_places : mM := (yX7_places, cX7_places, 1, (some .int), [])
theorem clX7_places : m_cl MX7_places 0 := ⟨by decide +kernel, by decide +kernel, ⟨by decide +kernel, by decide +kernel⟩, by decide +kernel⟩
abbrev MX7_degree : mM := (yX7_degree, cX7_degree, 6, (some .int), [])
theorem clX7_degree : m_cl MX7_degree 2 := ⟨by decide +kernel, by decide +kernel, ⟨by decide +kernel, by decide +kernel⟩, by decide +kernel⟩
abbrev MX7_neighbour : mM := (yX7_neighbour, cX7_neighbour, 6, (some .int), [])
theorem clX7_neighbour : m_cl MX7_neighbour 2 := ⟨by decide +kernel, by decide +kernel, ⟨by decide +kernel, by decide +kernel⟩, by decide +kernel⟩
abbrev MX7_wall : mM := (yX7_wall, cX7_wall, 5, (some .boolean), [])
theorem clX7_wall : m_cl MX7_wall 3 := ⟨by decide +kernel, by decide +kernel, ⟨by decide +kernel, by decide +kernel⟩, by decide +kernel⟩
abbrev MX7_pairs : mM := (yX7_pairs, cX7_pairs, 6, (some .int), [])
theorem clX7_pairs : m_cl MX7_pairs 1 := ⟨by decide +kernel, by decide +kernel, ⟨by decide +kernel, by decide +kernel⟩, by decide +kernel⟩
abbrev MX7_pair : mM := (yX7_pair, cX7_pair, 7, (some .int), [])
theorem clX7_pair : m_cl MX7_pair 2 := ⟨by decide +kernel, by decide +kernel, ⟨by decide +kernel, by decide +kernel⟩, by decide +kernel⟩
abbrev MX7_seen : mM := (yX7_seen, cX7_seen, 6, (some .int), [])
theorem clX7_seen : m_cl MX7_seen 3 := ⟨by decide +kernel, by decide +kernel, ⟨by decide +kernel, by decide +kernel⟩, by decide +kernel⟩
abbrev MX7_far : mM := (yX7_far, cX7_far, 3, (some .int), [])
theorem clX7_far : m_cl MX7_far 2 := ⟨by decide +kernel, by decide +kernel, ⟨by decide +kernel, by decide +kernel⟩, by decide +kernel⟩
abbrev MX7_parts : mM := (yX7_parts, cX7_parts, 2, (some .int), [])
theorem clX7_parts : m_cl MX7_parts 1 := ⟨by decide +kernel, by decide +kernel, ⟨by decide +kernel, by decide +kernel⟩, by decide +kernel⟩
abbrev MX7_without : mM := (yX7_without, cX7_without, 2, (some .int), [])
theorem clX7_without : m_cl MX7_without 1 := ⟨by decide +kernel, by decide +kernel, ⟨by decide +kernel, by decide +kernel⟩, by decide +kernel⟩
abbrev MX7_area : mM := (yX7_area, cX7_area, 3, (some .boolean), [])
theorem clX7_area : m_cl MX7_area 2 := ⟨by decide +kernel, by decide +kernel, ⟨by decide +kernel, by decide +kernel⟩, by decide +kernel⟩
abbrev MX7_size : mM := (yX7_size, cX7_size, 4, (some .int), [])
theorem clX7_size : m_cl MX7_size 1 := ⟨by decide +kernel, by decide +kernel, ⟨by decide +kernel, by decide +kernel⟩, by decide +kernel⟩
abbrev MX7_mark : mM := (yX7_mark, cX7_mark, 3, (some .boolean), [])
theorem clX7_mark : m_cl MX7_mark 2 := ⟨by decide +kernel, by decide +kernel, ⟨by decide +kernel, by decide +kernel⟩, by decide +kernel⟩
abbrev MX7_image : mM := (yX7_image, cX7_image, 3, (some .int), [])
theorem clX7_image : m_cl MX7_image 2 := ⟨by decide +kernel, by decide +kernel, ⟨by decide +kernel, by decide +kernel⟩, by decide +kernel⟩
abbrev MX7_keeps : mM := (yX7_keeps, cX7_keeps, 2, (some .boolean), [])
theorem clX7_keeps : m_cl MX7_keeps 1 := ⟨by decide +kernel, by decide +kernel, ⟨by decide +kernel, by decide +kernel⟩, by decide +kernel⟩
abbrev MX7_keeping : mM := (yX7_keeping, cX7_keeping, 3, (some .int), [])
theorem clX7_keeping : m_cl MX7_keeping 0 := ⟨by decide +kernel, by decide +kernel, ⟨by decide +kernel, by decide +kernel⟩, by decide +kernel⟩
abbrev MX7_text : mM := (yX7_text, cX7_text, 2, (some .int), [])
theorem clX7_text : m_cl MX7_text 1 := ⟨by decide +kernel, by decide +kernel, ⟨by decide +kernel, by decide +kernel⟩, by decide +kernel⟩
abbrev MX7_unit : mM := (yX7_unit, cX7_unit, 2, (some .boolean), [])
theorem clX7_unit : m_cl MX7_unit 1 := ⟨by decide +kernel, by decide +kernel, ⟨by decide +kernel, by decide +kernel⟩, by decide +kernel⟩
abbrev MX7_read : mM := (yX7_read, cX7_read, 2, (some .int), [])
theorem clX7_read : m_cl MX7_read 0 := ⟨by decide +kernel, by decide +kernel, ⟨by decide +kernel, by decide +kernel⟩, by decide +kernel⟩
abbrev MX7_demandPlace : mM := (yX7_demandPlace, cX7_demandPlace, 2, none, [])
theorem clX7_demandPlace : m_cl MX7_demandPlace 1 := ⟨by decide +kernel, by decide +kernel, ⟨by decide +kernel, by decide +kernel⟩, by decide +kernel⟩
abbrev MX7_keepsAllPlaces : mM := (yX7_keepsAllPlaces, cX7_keepsAllPlaces, 4, (some .boolean), [])
theorem clX7_keepsAllPlaces : m_cl MX7_keepsAllPlaces 1 := ⟨by decide +kernel, by decide +kernel, ⟨by decide +kernel, by decide +kernel⟩, by decide +kernel⟩
abbrev MX7_keepsBeside : mM := (yX7_keepsBeside, cX7_keepsBeside, 7, (some .boolean), [])
theorem clX7_keepsBeside : m_cl MX7_keepsBeside 3 := ⟨by decide +kernel, by decide +kernel, ⟨by decide +kernel, by decide +kernel⟩, by decide +kernel⟩
abbrev MX7_within : mM := (yX7_within, cX7_within, 3, (some .int), [])
theorem clX7_within : m_cl MX7_within 3 := ⟨by decide +kernel, by decide +kernel, ⟨by decide +kernel, by decide +kernel⟩, by decide +kernel⟩
abbrev MX7_isDigit : mM := (yX7_isDigit, cX7_isDigit, 1, (some .boolean), [])
theorem clX7_isDigit : m_cl MX7_isDigit 1 := ⟨by decide +kernel, by decide +kernel, ⟨by decide +kernel, by decide +kernel⟩, by decide +kernel⟩
abbrev MX8_init : mM := (yX8_init, cX8_init, 7, none, [])
theorem clX8_init : m_cl MX8_init 3 := ⟨by decide +kernel, by decide +kernel, ⟨by decide +kernel, by decide +kernel⟩, by decide +kernel⟩
abbrev MX8_thrown : mM := (yX8_thrown, cX8_thrown, 1, (some .int), [])
theorem clX8_thrown : m_cl MX8_thrown 0 := ⟨by decide +kernel, by decide +kernel, ⟨by decide +kernel, by decide +kernel⟩, by decide +kernel⟩
abbrev MX8_fails : mM := (yX8_fails, cX8_fails, 2, (some .boolean), [])
theorem clX8_fails : m_cl MX8_fails 1 := ⟨by decide +kernel, by decide +kernel, ⟨by decide +kernel, by decide +kernel⟩, by decide +kernel⟩
abbrev MX8_held : mM := (yX8_held, cX8_held, 3, (some .int), [])
theorem clX8_held : m_cl MX8_held 3 := ⟨by decide +kernel, by decide +kernel, ⟨by decide +kernel, by decide +kernel⟩, by decide +kernel⟩
abbrev MX8_all : mM := (yX8_all, cX8_all, 1, (some .int), [])
theorem clX8_all : m_cl MX8_all 0 := ⟨by decide +kernel, by decide +kernel, ⟨by decide +kernel, by decide +kernel⟩, by decide +kernel⟩
abbrev MX8_isPlace : mM := (yX8_isPlace, cX8_isPlace, 2, (some .boolean), [])
theorem clX8_isPlace : m_cl MX8_isPlace 1 := ⟨by decide +kernel, by decide +kernel, ⟨by decide +kernel, by decide +kernel⟩, by decide +kernel⟩
abbrev MX8_at : mM := (yX8_at, cX8_at, 3, (some .int), [])
theorem clX8_at : m_cl MX8_at 2 := ⟨by decide +kernel, by decide +kernel, ⟨by decide +kernel, by decide +kernel⟩, by decide +kernel⟩
abbrev MX8_step : mM := (yX8_step, cX8_step, 5, (some .int), [])
theorem clX8_step : m_cl MX8_step 2 := ⟨by decide +kernel, by decide +kernel, ⟨by decide +kernel, by decide +kernel⟩, by decide +kernel⟩
abbrev MX8_hex : mM := (yX8_hex, cX8_hex, 5, (some .int), [])
theorem clX8_hex : m_cl MX8_hex 3 := ⟨by decide +kernel, by decide +kernel, ⟨by decide +kernel, by decide +kernel⟩, by decide +kernel⟩
abbrev MX8_ring : mM := (yX8_ring, cX8_ring, 4, (some .int), [])
theorem clX8_ring : m_cl MX8_ring 3 := ⟨by decide +kernel, by decide +kernel, ⟨by decide +kernel, by decide +kernel⟩, by decide +kernel⟩
abbrev MX8_join : mM := (yX8_join, cX8_join, 3, (some .boolean), [])
theorem clX8_join : m_cl MX8_join 2 := ⟨by decide +kernel, by decide +kernel, ⟨by decide +kernel, by decide +kernel⟩, by decide +kernel⟩
abbrev MX8_places : mM := (yX8_places, cX8_places, 1, (some .int), [])
theorem clX8_places : m_cl MX8_places 0 := ⟨by decide +kernel, by decide +kernel, ⟨by decide +kernel, by decide +kernel⟩, by decide +kernel⟩
abbrev MX8_isNext : mM := (yX8_isNext, cX8_isNext, 3, (some .boolean), [])
theorem clX8_isNext : m_cl MX8_isNext 2 := ⟨by decide +kernel, by decide +kernel, ⟨by decide +kernel, by decide +kernel⟩, by decide +kernel⟩
abbrev MX8_degree : mM := (yX8_degree, cX8_degree, 5, (some .int), [])
theorem clX8_degree : m_cl MX8_degree 2 := ⟨by decide +kernel, by decide +kernel, ⟨by decide +kernel, by decide +kernel⟩, by decide +kernel⟩
abbrev MX8_neighbour : mM := (yX8_neighbour, cX8_neighbour, 6, (some .int), [])
theorem clX8_neighbour : m_cl MX8_neighbour 2 := ⟨by decide +kernel, by decide +kernel, ⟨by decide +kernel, by decide +kernel⟩, by decide +kernel⟩
abbrev MX8_wall : mM := (yX8_wall, cX8_wall, 4, (some .boolean), [])
theorem clX8_wall : m_cl MX8_wall 3 := ⟨by decide +kernel, by decide +kernel, ⟨by decide +kernel, by decide +kernel⟩, by decide +kernel⟩
abbrev MX8_pairs : mM := (yX8_pairs, cX8_pairs, 5, (some .int), [])
theorem clX8_pairs : m_cl MX8_pairs 1 := ⟨by decide +kernel, by decide +kernel, ⟨by decide +kernel, by decide +kernel⟩, by decide +kernel⟩
abbrev MX8_pair : mM := (yX8_pair, cX8_pair, 6, (some .int), [])
theorem clX8_pair : m_cl MX8_pair 2 := ⟨by decide +kernel, by decide +kernel, ⟨by decide +kernel, by decide +kernel⟩, by decide +kernel⟩
abbrev MX8_directions : mM := (yX8_directions, cX8_directions, 1, (some .int), [])
theorem clX8_directions : m_cl MX8_directions 0 := ⟨by decide +kernel, by decide +kernel, ⟨by decide +kernel, by decide +kernel⟩, by decide +kernel⟩
abbrev MX8_seen : mM := (yX8_seen, cX8_seen, 7, (some .int), [])
theorem clX8_seen : m_cl MX8_seen 3 := ⟨by decide +kernel, by decide +kernel, ⟨by decide +kernel, by decide +kernel⟩, by decide +kernel⟩
abbrev MX8_spread : mM := (yX8_spread, cX8_spread, 6, none, [])
theorem clX8_spread : m_cl MX8_spread 1 := ⟨by decide +kernel, by decide +kernel, ⟨by decide +kernel, by decide +kernel⟩, by decide +kernel⟩
abbrev MX8_noneOut : mM := (yX8_noneOut, cX8_noneOut, 2, none, [])
theorem clX8_noneOut : m_cl MX8_noneOut 0 := ⟨by decide +kernel, by decide +kernel, ⟨by decide +kernel, by decide +kernel⟩, by decide +kernel⟩
abbrev MX8_far : mM := (yX8_far, cX8_far, 3, (some .int), [])
theorem clX8_far : m_cl MX8_far 2 := ⟨by decide +kernel, by decide +kernel, ⟨by decide +kernel, by decide +kernel⟩, by decide +kernel⟩
abbrev MX8_count : mM := (yX8_count, cX8_count, 4, (some .int), [])
theorem clX8_count : m_cl MX8_count 0 := ⟨by decide +kernel, by decide +kernel, ⟨by decide +kernel, by decide +kernel⟩, by decide +kernel⟩
abbrev MX8_parts : mM := (yX8_parts, cX8_parts, 3, (some .int), [])
theorem clX8_parts : m_cl MX8_parts 1 := ⟨by decide +kernel, by decide +kernel, ⟨by decide +kernel, by decide +kernel⟩, by decide +kernel⟩
abbrev MX8_without : mM := (yX8_without, cX8_without, 2, (some .int), [])
theorem clX8_without : m_cl MX8_without 1 := ⟨by decide +kernel, by decide +kernel, ⟨by decide +kernel, by decide +kernel⟩, by decide +kernel⟩
abbrev MX8_area : mM := (yX8_area, cX8_area, 3, (some .boolean), [])
theorem clX8_area : m_cl MX8_area 2 := ⟨by decide +kernel, by decide +kernel, ⟨by decide +kernel, by decide +kernel⟩, by decide +kernel⟩
abbrev MX8_size : mM := (yX8_size, cX8_size, 4, (some .int), [])
theorem clX8_size : m_cl MX8_size 1 := ⟨by decide +kernel, by decide +kernel, ⟨by decide +kernel, by decide +kernel⟩, by decide +kernel⟩
abbrev MX8_mark : mM := (yX8_mark, cX8_mark, 3, (some .boolean), [])
theorem clX8_mark : m_cl MX8_mark 2 := ⟨by decide +kernel, by decide +kernel, ⟨by decide +kernel, by decide +kernel⟩, by decide +kernel⟩
abbrev MX8_isTurn : mM := (yX8_isTurn, cX8_isTurn, 3, (some .boolean), [])
theorem clX8_isTurn : m_cl MX8_isTurn 1 := ⟨by decide +kernel, by decide +kernel, ⟨by decide +kernel, by decide +kernel⟩, by decide +kernel⟩
abbrev MX8_turned : mM := (yX8_turned, cX8_turned, 9, (some .int), [])
theorem clX8_turned : m_cl MX8_turned 2 := ⟨by decide +kernel, by decide +kernel, ⟨by decide +kernel, by decide +kernel⟩, by decide +kernel⟩
abbrev MX8_image : mM := (yX8_image, cX8_image, 3, (some .int), [])
theorem clX8_image : m_cl MX8_image 2 := ⟨by decide +kernel, by decide +kernel, ⟨by decide +kernel, by decide +kernel⟩, by decide +kernel⟩
abbrev MX8_isKept : mM := (yX8_isKept, cX8_isKept, 6, (some .boolean), [])
theorem clX8_isKept : m_cl MX8_isKept 1 := ⟨by decide +kernel, by decide +kernel, ⟨by decide +kernel, by decide +kernel⟩, by decide +kernel⟩
abbrev MX8_keeps : mM := (yX8_keeps, cX8_keeps, 2, (some .boolean), [])
theorem clX8_keeps : m_cl MX8_keeps 1 := ⟨by decide +kernel, by decide +kernel, ⟨by decide +kernel, by decide +kernel⟩, by decide +kernel⟩
abbrev MX8_keeping : mM := (yX8_keeping, cX8_keeping, 3, (some .int), [])
theorem clX8_keeping : m_cl MX8_keeping 0 := ⟨by decide +kernel, by decide +kernel, ⟨by decide +kernel, by decide +kernel⟩, by decide +kernel⟩
abbrev MX8_say : mM := (yX8_say, cX8_say, 2, none, [])
theorem clX8_say : m_cl MX8_say 1 := ⟨by decide +kernel, by decide +kernel, ⟨by decide +kernel, by decide +kernel⟩, by decide +kernel⟩
abbrev MX8_text : mM := (yX8_text, cX8_text, 5, (some .int), [])
theorem clX8_text : m_cl MX8_text 1 := ⟨by decide +kernel, by decide +kernel, ⟨by decide +kernel, by decide +kernel⟩, by decide +kernel⟩
abbrev MX8_unit : mM := (yX8_unit, cX8_unit, 2, (some .boolean), [])
theorem clX8_unit : m_cl MX8_unit 1 := ⟨by decide +kernel, by decide +kernel, ⟨by decide +kernel, by decide +kernel⟩, by decide +kernel⟩
abbrev MX8_isDigit : mM := (yX8_isDigit, cX8_isDigit, 2, (some .boolean), [])
theorem clX8_isDigit : m_cl MX8_isDigit 1 := ⟨by decide +kernel, by decide +kernel, ⟨by decide +kernel, by decide +kernel⟩, by decide +kernel⟩
abbrev MX8_read : mM := (yX8_read, cX8_read, 7, (some .int), [])
theorem clX8_read : m_cl MX8_read 0 := ⟨by decide +kernel, by decide +kernel, ⟨by decide +kernel, by decide +kernel⟩, by decide +kernel⟩
abbrev ML_cell : mM := (yL_cell, cL_cell, 2, (some .int), [])
theorem clL_cell : m_cl ML_cell 2 := ⟨by decide +kernel, by decide +kernel, ⟨by decide +kernel, by decide +kernel⟩, by decide +kernel⟩
abbrev ML_join : mM := (yL_join, cL_join, 5, (some .int), [(0, 17, 20, 13)])
theorem clL_join : m_cl ML_join 4 := ⟨by decide +kernel, by decide +kernel, ⟨by decide +kernel, by decide +kernel⟩, by decide +kernel⟩
abbrev ML_degree : mM := (yL_degree, cL_degree, 5, (some .int), [(0, 10, 13, 13)])
theorem clL_degree : m_cl ML_degree 4 := ⟨by decide +kernel, by decide +kernel, ⟨by decide +kernel, by decide +kernel⟩, by decide +kernel⟩
abbrev ML_neighbour : mM := (yL_neighbour, cL_neighbour, 5, (some .int), [(0, 10, 13, 13)])
theorem clL_neighbour : m_cl ML_neighbour 4 := ⟨by decide +kernel, by decide +kernel, ⟨by decide +kernel, by decide +kernel⟩, by decide +kernel⟩
abbrev ML_wall : mM := (yL_wall, cL_wall, 6, (some .int), [(0, 19, 22, 13)])
theorem clL_wall : m_cl ML_wall 5 := ⟨by decide +kernel, by decide +kernel, ⟨by decide +kernel, by decide +kernel⟩, by decide +kernel⟩
abbrev ML_seen : mM := (yL_seen, cL_seen, 6, (some .int), [(0, 12, 15, 13)])
theorem clL_seen : m_cl ML_seen 5 := ⟨by decide +kernel, by decide +kernel, ⟨by decide +kernel, by decide +kernel⟩, by decide +kernel⟩
abbrev ML_far : mM := (yL_far, cL_far, 5, (some .int), [(0, 10, 13, 13)])
theorem clL_far : m_cl ML_far 4 := ⟨by decide +kernel, by decide +kernel, ⟨by decide +kernel, by decide +kernel⟩, by decide +kernel⟩
abbrev ML_without : mM := (yL_without, cL_without, 4, (some .int), [(0, 9, 12, 13)])
theorem clL_without : m_cl ML_without 3 := ⟨by decide +kernel, by decide +kernel, ⟨by decide +kernel, by decide +kernel⟩, by decide +kernel⟩
abbrev ML_area : mM := (yL_area, cL_area, 5, (some .int), [(0, 17, 20, 13)])
theorem clL_area : m_cl ML_area 4 := ⟨by decide +kernel, by decide +kernel, ⟨by decide +kernel, by decide +kernel⟩, by decide +kernel⟩
abbrev ML_mark : mM := (yL_mark, cL_mark, 5, (some .int), [(0, 17, 20, 13)])
theorem clL_mark : m_cl ML_mark 4 := ⟨by decide +kernel, by decide +kernel, ⟨by decide +kernel, by decide +kernel⟩, by decide +kernel⟩
abbrev ML_image : mM := (yL_image, cL_image, 5, (some .int), [(0, 10, 13, 13)])
theorem clL_image : m_cl ML_image 4 := ⟨by decide +kernel, by decide +kernel, ⟨by decide +kernel, by decide +kernel⟩, by decide +kernel⟩
theorem kX7_1 : Cond.methodLink RX7 1 objectInit ∈ lw_tbl := by decide +kernel
theorem knX7_7 : Cond.classLink RX7 7 RX1 ∈ lw_tbl := by decide +kernel
theorem kX7_9 : Cond.methodLink RX7 9 yX1_init ∈ lw_tbl := by decide +kernel
theorem imX1_init : Cond.instanceMethod yX1_init ∈ lw_tbl := by decide +kernel
theorem foX7_12 : m_fo RX7 12 7 0 := ⟨_, _, _, rfl, by decide, by decide +kernel, inX7⟩
theorem knX7_18 : Cond.classLink RX7 18 RX2 ∈ lw_tbl := by decide +kernel
theorem kX7_20 : Cond.methodLink RX7 20 yX2_init ∈ lw_tbl := by decide +kernel
theorem imX2_init : Cond.instanceMethod yX2_init ∈ lw_tbl := by decide +kernel
theorem foX7_23 : m_fo RX7 23 7 1 := ⟨_, _, _, rfl, by decide, by decide +kernel, inX7⟩
theorem knX7_27 : Cond.classLink RX7 27 RX5 ∈ lw_tbl := by decide +kernel
theorem kX7_29 : Cond.methodLink RX7 29 yX5_init ∈ lw_tbl := by decide +kernel
theorem imX5_init : Cond.instanceMethod yX5_init ∈ lw_tbl := by decide +kernel
theorem foX7_30 : m_fo RX7 30 7 2 := ⟨_, _, _, rfl, by decide, by decide +kernel, inX7⟩
theorem knX7_34 : Cond.classLink RX7 34 RX6 ∈ lw_tbl := by decide +kernel
theorem kX7_36 : Cond.methodLink RX7 36 yX6_init ∈ lw_tbl := by decide +kernel
theorem imX6_init : Cond.instanceMethod yX6_init ∈ lw_tbl := by decide +kernel
theorem foX7_39 : m_fo RX7 39 7 3 := ⟨_, _, _, rfl, by decide, by decide +kernel, inX7⟩
theorem knX7_43 : Cond.classLink RX7 43 RX4 ∈ lw_tbl := by decide +kernel
theorem kX7_45 : Cond.methodLink RX7 45 yX4_init ∈ lw_tbl := by decide +kernel
theorem imX4_init : Cond.instanceMethod yX4_init ∈ lw_tbl := by decide +kernel
theorem foX7_46 : m_fo RX7 46 7 4 := ⟨_, _, _, rfl, by decide, by decide +kernel, inX7⟩
theorem knX7_50 : Cond.classLink RX7 50 RX0 ∈ lw_tbl := by decide +kernel
theorem kX7_52 : Cond.methodLink RX7 52 yX0_init ∈ lw_tbl := by decide +kernel
theorem imX0_init : Cond.instanceMethod yX0_init ∈ lw_tbl := by decide +kernel
theorem foX7_53 : m_fo RX7 53 7 5 := ⟨_, _, _, rfl, by decide, by decide +kernel, inX7⟩
theorem knX7_57 : Cond.classLink RX7 57 RX3 ∈ lw_tbl := by decide +kernel
theorem kX7_59 : Cond.methodLink RX7 59 yX3_init ∈ lw_tbl := by decide +kernel
theorem imX3_init : Cond.instanceMethod yX3_init ∈ lw_tbl := by decide +kernel
theorem foX7_62 : m_fo RX7 62 7 6 := ⟨_, _, _, rfl, by decide, by decide +kernel, inX7⟩
theorem foX7_66 : m_fo RX7 66 1 3 := ⟨_, _, _, rfl, by decide, by decide +kernel, inX1⟩
theorem foX7_70 : m_fo RX7 70 7 7 := ⟨_, _, _, rfl, by decide, by decide +kernel, inX7⟩
theorem foX7_74 : m_fo RX7 74 7 8 := ⟨_, _, _, rfl, by decide, by decide +kernel, inX7⟩
theorem kX7_77 : Cond.methodLink RX7 77 yX7_demandPlace ∈ lw_tbl := by decide +kernel
theorem imX7_demandPlace : Cond.instanceMethod yX7_demandPlace ∈ lw_tbl := by decide +kernel
theorem seX7_demandPlace : Cond.selects RX7 yX7_demandPlace yX7_demandPlace ∈ lw_tbl := by decide +kernel
theorem foX7_80 : m_fo RX7 80 1 0 := ⟨_, _, _, rfl, by decide, by decide +kernel, inX1⟩
theorem kX7_83 : Cond.methodLink RX7 83 yX2_slotOf ∈ lw_tbl := by decide +kernel
theorem imX2_slotOf : Cond.instanceMethod yX2_slotOf ∈ lw_tbl := by decide +kernel
theorem seX2_slotOf : Cond.selects RX2 yX2_slotOf yX2_slotOf ∈ lw_tbl := by decide +kernel
theorem kX7_87 : Cond.methodLink RX7 87 yX2_tie ∈ lw_tbl := by decide +kernel
theorem imX2_tie : Cond.instanceMethod yX2_tie ∈ lw_tbl := by decide +kernel
theorem seX2_tie : Cond.selects RX2 yX2_tie yX2_tie ∈ lw_tbl := by decide +kernel
theorem foX7_91 : m_fo RX7 91 2 0 := ⟨_, _, _, rfl, by decide, by decide +kernel, inX2⟩
theorem kX7_94 : Cond.methodLink RX7 94 yX2_openAt ∈ lw_tbl := by decide +kernel
theorem imX2_openAt : Cond.instanceMethod yX2_openAt ∈ lw_tbl := by decide +kernel
theorem seX2_openAt : Cond.selects RX2 yX2_openAt yX2_openAt ∈ lw_tbl := by decide +kernel
theorem kX7_97 : Cond.methodLink RX7 97 yX2_besideAt ∈ lw_tbl := by decide +kernel
theorem imX2_besideAt : Cond.instanceMethod yX2_besideAt ∈ lw_tbl := by decide +kernel
theorem seX2_besideAt : Cond.selects RX2 yX2_besideAt yX2_besideAt ∈ lw_tbl := by decide +kernel
theorem kX7_100 : Cond.methodLink RX7 100 yX2_walledAt ∈ lw_tbl := by decide +kernel
theorem imX2_walledAt : Cond.instanceMethod yX2_walledAt ∈ lw_tbl := by decide +kernel
theorem seX2_walledAt : Cond.selects RX2 yX2_walledAt yX2_walledAt ∈ lw_tbl := by decide +kernel
theorem kX7_104 : Cond.methodLink RX7 104 yX2_setWall ∈ lw_tbl := by decide +kernel
theorem imX2_setWall : Cond.instanceMethod yX2_setWall ∈ lw_tbl := by decide +kernel
theorem seX2_setWall : Cond.selects RX2 yX2_setWall yX2_setWall ∈ lw_tbl := by decide +kernel
theorem kX7_108 : Cond.methodLink RX7 108 yX2_leastBeyond ∈ lw_tbl := by decide +kernel
theorem imX2_leastBeyond : Cond.instanceMethod yX2_leastBeyond ∈ lw_tbl := by decide +kernel
theorem seX2_leastBeyond : Cond.selects RX2 yX2_leastBeyond yX2_leastBeyond ∈ lw_tbl := by decide +kernel
theorem kX7_111 : Cond.methodLink RX7 111 yX1_directions ∈ lw_tbl := by decide +kernel
theorem imX1_directions : Cond.instanceMethod yX1_directions ∈ lw_tbl := by decide +kernel
theorem seX1_directions : Cond.selects RX1 yX1_directions yX1_directions ∈ lw_tbl := by decide +kernel
theorem kX7_115 : Cond.methodLink RX7 115 yX6_admitAll ∈ lw_tbl := by decide +kernel
theorem imX6_admitAll : Cond.instanceMethod yX6_admitAll ∈ lw_tbl := by decide +kernel
theorem seX6_admitAll : Cond.selects RX6 yX6_admitAll yX6_admitAll ∈ lw_tbl := by decide +kernel
theorem kX7_118 : Cond.methodLink RX7 118 yX6_spreadFrom ∈ lw_tbl := by decide +kernel
theorem imX6_spreadFrom : Cond.instanceMethod yX6_spreadFrom ∈ lw_tbl := by decide +kernel
theorem seX6_spreadFrom : Cond.selects RX6 yX6_spreadFrom yX6_spreadFrom ∈ lw_tbl := by decide +kernel
theorem kX7_121 : Cond.methodLink RX7 121 yX6_stepsTo ∈ lw_tbl := by decide +kernel
theorem imX6_stepsTo : Cond.instanceMethod yX6_stepsTo ∈ lw_tbl := by decide +kernel
theorem seX6_stepsTo : Cond.selects RX6 yX6_stepsTo yX6_stepsTo ∈ lw_tbl := by decide +kernel
theorem kX7_125 : Cond.methodLink RX7 125 yX6_admitArea ∈ lw_tbl := by decide +kernel
theorem imX6_admitArea : Cond.instanceMethod yX6_admitArea ∈ lw_tbl := by decide +kernel
theorem seX6_admitArea : Cond.selects RX6 yX6_admitArea yX6_admitArea ∈ lw_tbl := by decide +kernel
theorem kX7_129 : Cond.methodLink RX7 129 yX6_countParts ∈ lw_tbl := by decide +kernel
theorem imX6_countParts : Cond.instanceMethod yX6_countParts ∈ lw_tbl := by decide +kernel
theorem seX6_countParts : Cond.selects RX6 yX6_countParts yX6_countParts ∈ lw_tbl := by decide +kernel
theorem kX7_132 : Cond.methodLink RX7 132 yX6_refuse ∈ lw_tbl := by decide +kernel
theorem imX6_refuse : Cond.instanceMethod yX6_refuse ∈ lw_tbl := by decide +kernel
theorem seX6_refuse : Cond.selects RX6 yX6_refuse yX6_refuse ∈ lw_tbl := by decide +kernel
theorem kX7_135 : Cond.methodLink RX7 135 yX5_has ∈ lw_tbl := by decide +kernel
theorem imX5_has : Cond.instanceMethod yX5_has ∈ lw_tbl := by decide +kernel
theorem seX5_has : Cond.selects RX5 yX5_has yX5_has ∈ lw_tbl := by decide +kernel
theorem kX7_139 : Cond.methodLink RX7 139 yX5_placeAfter ∈ lw_tbl := by decide +kernel
theorem imX5_placeAfter : Cond.instanceMethod yX5_placeAfter ∈ lw_tbl := by decide +kernel
theorem seX5_placeAfter : Cond.selects RX5 yX5_placeAfter yX5_placeAfter ∈ lw_tbl := by decide +kernel
theorem kX7_142 : Cond.methodLink RX7 142 yX7_keepsAllPlaces ∈ lw_tbl := by decide +kernel
theorem imX7_keepsAllPlaces : Cond.instanceMethod yX7_keepsAllPlaces ∈ lw_tbl := by decide +kernel
theorem seX7_keepsAllPlaces : Cond.selects RX7 yX7_keepsAllPlaces yX7_keepsAllPlaces ∈ lw_tbl := by decide +kernel
theorem foX7_145 : m_fo RX7 145 5 0 := ⟨_, _, _, rfl, by decide, by decide +kernel, inX5⟩
theorem kX7_146 : Cond.methodLink RX7 146 yX4_spell ∈ lw_tbl := by decide +kernel
theorem imX4_spell : Cond.instanceMethod yX4_spell ∈ lw_tbl := by decide +kernel
theorem seX4_spell : Cond.selects RX4 yX4_spell yX4_spell ∈ lw_tbl := by decide +kernel
theorem foX7_150 : m_fo RX7 150 4 0 := ⟨_, _, _, rfl, by decide, by decide +kernel, inX4⟩
theorem kX7_153 : Cond.methodLink RX7 153 yX3_at ∈ lw_tbl := by decide +kernel
theorem imX3_at : Cond.instanceMethod yX3_at ∈ lw_tbl := by decide +kernel
theorem seX3_at : Cond.selects RX3 yX3_at yX3_at ∈ lw_tbl := by decide +kernel
theorem kX7_156 : Cond.methodLink RX7 156 yX3_put ∈ lw_tbl := by decide +kernel
theorem imX3_put : Cond.instanceMethod yX3_put ∈ lw_tbl := by decide +kernel
theorem seX3_put : Cond.selects RX3 yX3_put yX3_put ∈ lw_tbl := by decide +kernel
theorem kX7_159 : Cond.methodLink RX7 159 yX0_firstFault ∈ lw_tbl := by decide +kernel
theorem imX0_firstFault : Cond.instanceMethod yX0_firstFault ∈ lw_tbl := by decide +kernel
theorem seX0_firstFault : Cond.selects RX0 yX0_firstFault yX0_firstFault ∈ lw_tbl := by decide +kernel
theorem kX7_163 : Cond.methodLink RX7 163 yX3_clear ∈ lw_tbl := by decide +kernel
theorem imX3_clear : Cond.instanceMethod yX3_clear ∈ lw_tbl := by decide +kernel
theorem seX3_clear : Cond.selects RX3 yX3_clear yX3_clear ∈ lw_tbl := by decide +kernel
theorem kX7_166 : Cond.methodLink RX7 166 yX0_copyTo ∈ lw_tbl := by decide +kernel
theorem imX0_copyTo : Cond.instanceMethod yX0_copyTo ∈ lw_tbl := by decide +kernel
theorem seX0_copyTo : Cond.selects RX0 yX0_copyTo yX0_copyTo ∈ lw_tbl := by decide +kernel
theorem kX7_169 : Cond.methodLink RX7 169 yX1_has ∈ lw_tbl := by decide +kernel
theorem imX1_has : Cond.instanceMethod yX1_has ∈ lw_tbl := by decide +kernel
theorem seX1_has : Cond.selects RX1 yX1_has yX1_has ∈ lw_tbl := by decide +kernel
theorem kX7_177 : Cond.methodLink RX7 177 yX7_keepsBeside ∈ lw_tbl := by decide +kernel
theorem imX7_keepsBeside : Cond.instanceMethod yX7_keepsBeside ∈ lw_tbl := by decide +kernel
theorem seX7_keepsBeside : Cond.selects RX7 yX7_keepsBeside yX7_keepsBeside ∈ lw_tbl := by decide +kernel
theorem kX8_1 : Cond.methodLink RX8 1 objectInit ∈ lw_tbl := by decide +kernel
theorem foX8_8 : m_fo RX8 8 8 4 := ⟨_, _, _, rfl, by decide, by decide +kernel, inX8⟩
theorem foX8_14 : m_fo RX8 14 8 5 := ⟨_, _, _, rfl, by decide, by decide +kernel, inX8⟩
theorem foX8_17 : m_fo RX8 17 8 6 := ⟨_, _, _, rfl, by decide, by decide +kernel, inX8⟩
theorem foX8_21 : m_fo RX8 21 8 7 := ⟨_, _, _, rfl, by decide, by decide +kernel, inX8⟩
theorem foX8_24 : m_fo RX8 24 8 8 := ⟨_, _, _, rfl, by decide, by decide +kernel, inX8⟩
theorem foX8_27 : m_fo RX8 27 8 9 := ⟨_, _, _, rfl, by decide, by decide +kernel, inX8⟩
theorem foX8_30 : m_fo RX8 30 8 11 := ⟨_, _, _, rfl, by decide, by decide +kernel, inX8⟩
theorem foX8_33 : m_fo RX8 33 8 12 := ⟨_, _, _, rfl, by decide, by decide +kernel, inX8⟩
theorem kX8_36 : Cond.methodLink RX8 36 yX8_held ∈ lw_tbl := by decide +kernel
theorem stX8_held : Cond.static yX8_held ∈ lw_tbl := by decide +kernel
theorem foX8_40 : m_fo RX8 40 8 1 := ⟨_, _, _, rfl, by decide, by decide +kernel, inX8⟩
theorem foX8_44 : m_fo RX8 44 8 2 := ⟨_, _, _, rfl, by decide, by decide +kernel, inX8⟩
theorem foX8_47 : m_fo RX8 47 8 3 := ⟨_, _, _, rfl, by decide, by decide +kernel, inX8⟩
theorem kX8_50 : Cond.methodLink RX8 50 yX8_all ∈ lw_tbl := by decide +kernel
theorem imX8_all : Cond.instanceMethod yX8_all ∈ lw_tbl := by decide +kernel
theorem seX8_all : Cond.selects RX8 yX8_all yX8_all ∈ lw_tbl := by decide +kernel
theorem kX8_54 : Cond.methodLink RX8 54 yX8_step ∈ lw_tbl := by decide +kernel
theorem imX8_step : Cond.instanceMethod yX8_step ∈ lw_tbl := by decide +kernel
theorem seX8_step : Cond.selects RX8 yX8_step yX8_step ∈ lw_tbl := by decide +kernel
theorem foX8_58 : m_fo RX8 58 8 0 := ⟨_, _, _, rfl, by decide, by decide +kernel, inX8⟩
theorem kX8_61 : Cond.methodLink RX8 61 yX8_at ∈ lw_tbl := by decide +kernel
theorem imX8_at : Cond.instanceMethod yX8_at ∈ lw_tbl := by decide +kernel
theorem seX8_at : Cond.selects RX8 yX8_at yX8_at ∈ lw_tbl := by decide +kernel
theorem kX8_64 : Cond.methodLink RX8 64 yX8_hex ∈ lw_tbl := by decide +kernel
theorem imX8_hex : Cond.instanceMethod yX8_hex ∈ lw_tbl := by decide +kernel
theorem seX8_hex : Cond.selects RX8 yX8_hex yX8_hex ∈ lw_tbl := by decide +kernel
theorem kX8_67 : Cond.methodLink RX8 67 yX8_ring ∈ lw_tbl := by decide +kernel
theorem imX8_ring : Cond.instanceMethod yX8_ring ∈ lw_tbl := by decide +kernel
theorem seX8_ring : Cond.selects RX8 yX8_ring yX8_ring ∈ lw_tbl := by decide +kernel
theorem kX8_70 : Cond.methodLink RX8 70 yX8_isPlace ∈ lw_tbl := by decide +kernel
theorem imX8_isPlace : Cond.instanceMethod yX8_isPlace ∈ lw_tbl := by decide +kernel
theorem seX8_isPlace : Cond.selects RX8 yX8_isPlace yX8_isPlace ∈ lw_tbl := by decide +kernel
theorem kX8_74 : Cond.methodLink RX8 74 yX8_fails ∈ lw_tbl := by decide +kernel
theorem imX8_fails : Cond.instanceMethod yX8_fails ∈ lw_tbl := by decide +kernel
theorem seX8_fails : Cond.selects RX8 yX8_fails yX8_fails ∈ lw_tbl := by decide +kernel
theorem kX8_78 : Cond.methodLink RX8 78 yX8_isNext ∈ lw_tbl := by decide +kernel
theorem imX8_isNext : Cond.instanceMethod yX8_isNext ∈ lw_tbl := by decide +kernel
theorem seX8_isNext : Cond.selects RX8 yX8_isNext yX8_isNext ∈ lw_tbl := by decide +kernel
theorem kX8_82 : Cond.methodLink RX8 82 yX8_directions ∈ lw_tbl := by decide +kernel
theorem imX8_directions : Cond.instanceMethod yX8_directions ∈ lw_tbl := by decide +kernel
theorem seX8_directions : Cond.selects RX8 yX8_directions yX8_directions ∈ lw_tbl := by decide +kernel
theorem kX8_85 : Cond.methodLink RX8 85 yX8_noneOut ∈ lw_tbl := by decide +kernel
theorem imX8_noneOut : Cond.instanceMethod yX8_noneOut ∈ lw_tbl := by decide +kernel
theorem seX8_noneOut : Cond.selects RX8 yX8_noneOut yX8_noneOut ∈ lw_tbl := by decide +kernel
theorem kX8_88 : Cond.methodLink RX8 88 yX8_spread ∈ lw_tbl := by decide +kernel
theorem imX8_spread : Cond.instanceMethod yX8_spread ∈ lw_tbl := by decide +kernel
theorem seX8_spread : Cond.selects RX8 yX8_spread yX8_spread ∈ lw_tbl := by decide +kernel
theorem kX8_92 : Cond.methodLink RX8 92 yX8_count ∈ lw_tbl := by decide +kernel
theorem imX8_count : Cond.instanceMethod yX8_count ∈ lw_tbl := by decide +kernel
theorem seX8_count : Cond.selects RX8 yX8_count yX8_count ∈ lw_tbl := by decide +kernel
theorem kX8_95 : Cond.methodLink RX8 95 yX8_isTurn ∈ lw_tbl := by decide +kernel
theorem imX8_isTurn : Cond.instanceMethod yX8_isTurn ∈ lw_tbl := by decide +kernel
theorem seX8_isTurn : Cond.selects RX8 yX8_isTurn yX8_isTurn ∈ lw_tbl := by decide +kernel
theorem kX8_98 : Cond.methodLink RX8 98 yX8_turned ∈ lw_tbl := by decide +kernel
theorem imX8_turned : Cond.instanceMethod yX8_turned ∈ lw_tbl := by decide +kernel
theorem seX8_turned : Cond.selects RX8 yX8_turned yX8_turned ∈ lw_tbl := by decide +kernel
theorem kX8_101 : Cond.methodLink RX8 101 yX8_isKept ∈ lw_tbl := by decide +kernel
theorem imX8_isKept : Cond.instanceMethod yX8_isKept ∈ lw_tbl := by decide +kernel
theorem seX8_isKept : Cond.selects RX8 yX8_isKept yX8_isKept ∈ lw_tbl := by decide +kernel
theorem foX8_104 : m_fo RX8 104 8 13 := ⟨_, _, _, rfl, by decide, by decide +kernel, inX8⟩
theorem foX8_107 : m_fo RX8 107 8 14 := ⟨_, _, _, rfl, by decide, by decide +kernel, inX8⟩
theorem foX8_110 : m_fo RX8 110 8 15 := ⟨_, _, _, rfl, by decide, by decide +kernel, inX8⟩
theorem kX8_113 : Cond.methodLink RX8 113 yX8_say ∈ lw_tbl := by decide +kernel
theorem imX8_say : Cond.instanceMethod yX8_say ∈ lw_tbl := by decide +kernel
theorem seX8_say : Cond.selects RX8 yX8_say yX8_say ∈ lw_tbl := by decide +kernel
theorem foX8_116 : m_fo RX8 116 8 10 := ⟨_, _, _, rfl, by decide, by decide +kernel, inX8⟩
theorem kX8_119 : Cond.methodLink RX8 119 yX8_isDigit ∈ lw_tbl := by decide +kernel
theorem imX8_isDigit : Cond.instanceMethod yX8_isDigit ∈ lw_tbl := by decide +kernel
theorem seX8_isDigit : Cond.selects RX8 yX8_isDigit yX8_isDigit ∈ lw_tbl := by decide +kernel
theorem kX0_3 : Cond.methodLink RX0 3 objectInit ∈ lw_tbl := by decide +kernel
theorem foX0_9 : m_fo RX0 9 1 3 := ⟨_, _, _, rfl, by decide, by decide +kernel, inX1⟩
theorem foX0_15 : m_fo RX0 15 0 0 := ⟨_, _, _, rfl, by decide, by decide +kernel, inX0⟩
theorem foX0_21 : m_fo RX0 21 0 1 := ⟨_, _, _, rfl, by decide, by decide +kernel, inX0⟩
theorem foX0_24 : m_fo RX0 24 0 2 := ⟨_, _, _, rfl, by decide, by decide +kernel, inX0⟩
theorem kX0_27 : Cond.methodLink RX0 27 yX3_length ∈ lw_tbl := by decide +kernel
theorem imX3_length : Cond.instanceMethod yX3_length ∈ lw_tbl := by decide +kernel
theorem seX3_length : Cond.selects RX3 yX3_length yX3_length ∈ lw_tbl := by decide +kernel
theorem kX0_33 : Cond.methodLink RX0 33 yX3_at ∈ lw_tbl := by decide +kernel
theorem kX0_37 : Cond.methodLink RX0 37 yX0_takes ∈ lw_tbl := by decide +kernel
theorem imX0_takes : Cond.instanceMethod yX0_takes ∈ lw_tbl := by decide +kernel
theorem seX0_takes : Cond.selects RX0 yX0_takes yX0_takes ∈ lw_tbl := by decide +kernel
theorem kX0_41 : Cond.methodLinkNest RX0 41 yX7_isDigit "GridShapes" ∈ lw_tbl := by decide +kernel
theorem stX7_isDigit : Cond.static yX7_isDigit ∈ lw_tbl := by decide +kernel
theorem kX0_45 : Cond.methodLink RX0 45 yX0_beginsNumber ∈ lw_tbl := by decide +kernel
theorem imX0_beginsNumber : Cond.instanceMethod yX0_beginsNumber ∈ lw_tbl := by decide +kernel
theorem seX0_beginsNumber : Cond.selects RX0 yX0_beginsNumber yX0_beginsNumber ∈ lw_tbl := by decide +kernel
theorem kX0_48 : Cond.methodLink RX0 48 yX0_endsNumber ∈ lw_tbl := by decide +kernel
theorem imX0_endsNumber : Cond.instanceMethod yX0_endsNumber ∈ lw_tbl := by decide +kernel
theorem seX0_endsNumber : Cond.selects RX0 yX0_endsNumber yX0_endsNumber ∈ lw_tbl := by decide +kernel
theorem kX0_51 : Cond.methodLink RX0 51 yX0_leavesEmpty ∈ lw_tbl := by decide +kernel
theorem imX0_leavesEmpty : Cond.instanceMethod yX0_leavesEmpty ∈ lw_tbl := by decide +kernel
theorem seX0_leavesEmpty : Cond.selects RX0 yX0_leavesEmpty yX0_leavesEmpty ∈ lw_tbl := by decide +kernel
theorem kX1_3 : Cond.methodLink RX1 3 objectInit ∈ lw_tbl := by decide +kernel
theorem kX1_9 : Cond.methodLinkNest RX1 9 yX7_within "GridShapes" ∈ lw_tbl := by decide +kernel
theorem stX7_within : Cond.static yX7_within ∈ lw_tbl := by decide +kernel
theorem foX1_13 : m_fo RX1 13 1 0 := ⟨_, _, _, rfl, by decide, by decide +kernel, inX1⟩
theorem foX1_19 : m_fo RX1 19 1 1 := ⟨_, _, _, rfl, by decide, by decide +kernel, inX1⟩
theorem foX1_22 : m_fo RX1 22 1 2 := ⟨_, _, _, rfl, by decide, by decide +kernel, inX1⟩
theorem foX1_25 : m_fo RX1 25 1 3 := ⟨_, _, _, rfl, by decide, by decide +kernel, inX1⟩
theorem foX1_28 : m_fo RX1 28 1 4 := ⟨_, _, _, rfl, by decide, by decide +kernel, inX1⟩
theorem foX1_32 : m_fo RX1 32 1 5 := ⟨_, _, _, rfl, by decide, by decide +kernel, inX1⟩
theorem kX1_35 : Cond.methodLink RX1 35 yX1_has ∈ lw_tbl := by decide +kernel
theorem kX1_39 : Cond.methodLink RX1 39 yX1_columnOf ∈ lw_tbl := by decide +kernel
theorem imX1_columnOf : Cond.instanceMethod yX1_columnOf ∈ lw_tbl := by decide +kernel
theorem seX1_columnOf : Cond.selects RX1 yX1_columnOf yX1_columnOf ∈ lw_tbl := by decide +kernel
theorem kX1_43 : Cond.methodLink RX1 43 yX1_rowOf ∈ lw_tbl := by decide +kernel
theorem imX1_rowOf : Cond.instanceMethod yX1_rowOf ∈ lw_tbl := by decide +kernel
theorem seX1_rowOf : Cond.selects RX1 yX1_rowOf yX1_rowOf ∈ lw_tbl := by decide +kernel
theorem kX1_46 : Cond.methodLink RX1 46 yX1_besideInSquares ∈ lw_tbl := by decide +kernel
theorem imX1_besideInSquares : Cond.instanceMethod yX1_besideInSquares ∈ lw_tbl := by decide +kernel
theorem seX1_besideInSquares : Cond.selects RX1 yX1_besideInSquares yX1_besideInSquares ∈ lw_tbl := by decide +kernel
theorem kX1_49 : Cond.methodLink RX1 49 yX1_besideInHexes ∈ lw_tbl := by decide +kernel
theorem imX1_besideInHexes : Cond.instanceMethod yX1_besideInHexes ∈ lw_tbl := by decide +kernel
theorem seX1_besideInHexes : Cond.selects RX1 yX1_besideInHexes yX1_besideInHexes ∈ lw_tbl := by decide +kernel
theorem kX1_52 : Cond.methodLink RX1 52 yX1_besideInTriangles ∈ lw_tbl := by decide +kernel
theorem imX1_besideInTriangles : Cond.instanceMethod yX1_besideInTriangles ∈ lw_tbl := by decide +kernel
theorem seX1_besideInTriangles : Cond.selects RX1 yX1_besideInTriangles yX1_besideInTriangles ∈ lw_tbl := by decide +kernel
theorem kX1_55 : Cond.methodLink RX1 55 yX1_besideInRings ∈ lw_tbl := by decide +kernel
theorem imX1_besideInRings : Cond.instanceMethod yX1_besideInRings ∈ lw_tbl := by decide +kernel
theorem seX1_besideInRings : Cond.selects RX1 yX1_besideInRings yX1_besideInRings ∈ lw_tbl := by decide +kernel
theorem kX1_58 : Cond.methodLink RX1 58 yX1_placeAt ∈ lw_tbl := by decide +kernel
theorem imX1_placeAt : Cond.instanceMethod yX1_placeAt ∈ lw_tbl := by decide +kernel
theorem seX1_placeAt : Cond.selects RX1 yX1_placeAt yX1_placeAt ∈ lw_tbl := by decide +kernel
theorem kX2_3 : Cond.methodLink RX2 3 objectInit ∈ lw_tbl := by decide +kernel
theorem foX2_9 : m_fo RX2 9 1 3 := ⟨_, _, _, rfl, by decide, by decide +kernel, inX1⟩
theorem foX2_15 : m_fo RX2 15 2 1 := ⟨_, _, _, rfl, by decide, by decide +kernel, inX2⟩
theorem kX2_18 : Cond.methodLink RX2 18 yX1_slots ∈ lw_tbl := by decide +kernel
theorem imX1_slots : Cond.instanceMethod yX1_slots ∈ lw_tbl := by decide +kernel
theorem seX1_slots : Cond.selects RX1 yX1_slots yX1_slots ∈ lw_tbl := by decide +kernel
theorem foX2_22 : m_fo RX2 22 2 0 := ⟨_, _, _, rfl, by decide, by decide +kernel, inX2⟩
theorem foX2_24 : m_fo RX2 24 2 2 := ⟨_, _, _, rfl, by decide, by decide +kernel, inX2⟩
theorem foX2_28 : m_fo RX2 28 2 3 := ⟨_, _, _, rfl, by decide, by decide +kernel, inX2⟩
theorem kX2_32 : Cond.methodLink RX2 32 yX1_firstBeside ∈ lw_tbl := by decide +kernel
theorem imX1_firstBeside : Cond.instanceMethod yX1_firstBeside ∈ lw_tbl := by decide +kernel
theorem seX1_firstBeside : Cond.selects RX1 yX1_firstBeside yX1_firstBeside ∈ lw_tbl := by decide +kernel
theorem kX2_36 : Cond.methodLink RX2 36 yX2_has ∈ lw_tbl := by decide +kernel
theorem imX2_has : Cond.instanceMethod yX2_has ∈ lw_tbl := by decide +kernel
theorem seX2_has : Cond.selects RX2 yX2_has yX2_has ∈ lw_tbl := by decide +kernel
theorem kX2_40 : Cond.methodLink RX2 40 yX2_walledAt ∈ lw_tbl := by decide +kernel
theorem kX2_43 : Cond.methodLink RX2 43 yX2_besideAt ∈ lw_tbl := by decide +kernel
theorem kX3_3 : Cond.methodLink RX3 3 objectInit ∈ lw_tbl := by decide +kernel
theorem foX3_9 : m_fo RX3 9 3 0 := ⟨_, _, _, rfl, by decide, by decide +kernel, inX3⟩
theorem foX3_15 : m_fo RX3 15 3 1 := ⟨_, _, _, rfl, by decide, by decide +kernel, inX3⟩
theorem kX4_3 : Cond.methodLink RX4 3 objectInit ∈ lw_tbl := by decide +kernel
theorem knX4_9 : Cond.classLink RX4 9 RX3 ∈ lw_tbl := by decide +kernel
theorem foX4_11 : m_fo RX4 11 1 3 := ⟨_, _, _, rfl, by decide, by decide +kernel, inX1⟩
theorem kX4_17 : Cond.methodLink RX4 17 yX3_init ∈ lw_tbl := by decide +kernel
theorem foX4_20 : m_fo RX4 20 4 0 := ⟨_, _, _, rfl, by decide, by decide +kernel, inX4⟩
theorem kX4_26 : Cond.methodLink RX4 26 yX3_clear ∈ lw_tbl := by decide +kernel
theorem kX4_29 : Cond.methodLink RX4 29 yX3_put ∈ lw_tbl := by decide +kernel
theorem kX4_33 : Cond.methodLink RX4 33 yX4_spellEmpty ∈ lw_tbl := by decide +kernel
theorem imX4_spellEmpty : Cond.instanceMethod yX4_spellEmpty ∈ lw_tbl := by decide +kernel
theorem seX4_spellEmpty : Cond.selects RX4 yX4_spellEmpty yX4_spellEmpty ∈ lw_tbl := by decide +kernel
theorem kX4_36 : Cond.methodLink RX4 36 yX4_spellNumber ∈ lw_tbl := by decide +kernel
theorem imX4_spellNumber : Cond.instanceMethod yX4_spellNumber ∈ lw_tbl := by decide +kernel
theorem seX4_spellNumber : Cond.selects RX4 yX4_spellNumber yX4_spellNumber ∈ lw_tbl := by decide +kernel
theorem kX5_3 : Cond.methodLink RX5 3 objectInit ∈ lw_tbl := by decide +kernel
theorem foX5_9 : m_fo RX5 9 5 1 := ⟨_, _, _, rfl, by decide, by decide +kernel, inX5⟩
theorem foX5_15 : m_fo RX5 15 1 0 := ⟨_, _, _, rfl, by decide, by decide +kernel, inX1⟩
theorem foX5_21 : m_fo RX5 21 5 0 := ⟨_, _, _, rfl, by decide, by decide +kernel, inX5⟩
theorem foX5_24 : m_fo RX5 24 1 1 := ⟨_, _, _, rfl, by decide, by decide +kernel, inX1⟩
theorem foX5_27 : m_fo RX5 27 1 2 := ⟨_, _, _, rfl, by decide, by decide +kernel, inX1⟩
theorem kX5_30 : Cond.methodLink RX5 30 yX1_columnOf ∈ lw_tbl := by decide +kernel
theorem kX5_34 : Cond.methodLink RX5 34 yX1_rowOf ∈ lw_tbl := by decide +kernel
theorem kX5_37 : Cond.methodLink RX5 37 yX5_columnAround ∈ lw_tbl := by decide +kernel
theorem imX5_columnAround : Cond.instanceMethod yX5_columnAround ∈ lw_tbl := by decide +kernel
theorem seX5_columnAround : Cond.selects RX5 yX5_columnAround yX5_columnAround ∈ lw_tbl := by decide +kernel
theorem kX5_41 : Cond.methodLink RX5 41 yX1_placeAt ∈ lw_tbl := by decide +kernel
theorem kX6_1 : Cond.methodLink RX6 1 objectInit ∈ lw_tbl := by decide +kernel
theorem foX6_7 : m_fo RX6 7 6 0 := ⟨_, _, _, rfl, by decide, by decide +kernel, inX6⟩
theorem foX6_13 : m_fo RX6 13 1 3 := ⟨_, _, _, rfl, by decide, by decide +kernel, inX1⟩
theorem foX6_19 : m_fo RX6 19 6 1 := ⟨_, _, _, rfl, by decide, by decide +kernel, inX6⟩
theorem knX6_23 : Cond.classLink RX6 23 RX3 ∈ lw_tbl := by decide +kernel
theorem kX6_25 : Cond.methodLink RX6 25 yX3_init ∈ lw_tbl := by decide +kernel
theorem foX6_28 : m_fo RX6 28 6 2 := ⟨_, _, _, rfl, by decide, by decide +kernel, inX6⟩
theorem kX6_32 : Cond.methodLink RX6 32 yX6_spreadFrom ∈ lw_tbl := by decide +kernel
theorem kX6_35 : Cond.methodLink RX6 35 yX3_clear ∈ lw_tbl := by decide +kernel
theorem kX6_38 : Cond.methodLink RX6 38 yX6_reach ∈ lw_tbl := by decide +kernel
theorem imX6_reach : Cond.instanceMethod yX6_reach ∈ lw_tbl := by decide +kernel
theorem seX6_reach : Cond.selects RX6 yX6_reach yX6_reach ∈ lw_tbl := by decide +kernel
theorem kX6_42 : Cond.methodLink RX6 42 yX3_length ∈ lw_tbl := by decide +kernel
theorem kX6_46 : Cond.methodLink RX6 46 yX3_at ∈ lw_tbl := by decide +kernel
theorem foX6_50 : m_fo RX6 50 2 0 := ⟨_, _, _, rfl, by decide, by decide +kernel, inX2⟩
theorem kX6_55 : Cond.methodLink RX6 55 yX2_openAt ∈ lw_tbl := by decide +kernel
theorem kX6_59 : Cond.methodLink RX6 59 yX6_stepsTo ∈ lw_tbl := by decide +kernel
theorem kX6_62 : Cond.methodLink RX6 62 yX3_put ∈ lw_tbl := by decide +kernel
theorem kL_7 : Cond.methodLink RL 7 yX7_join ∈ lw_tbl := by decide +kernel
theorem imX7_join : Cond.instanceMethod yX7_join ∈ lw_tbl := by decide +kernel
theorem seX7_join : Cond.selects RX7 yX7_join yX7_join ∈ lw_tbl := by decide +kernel
theorem kL_15 : Cond.methodLink RL 15 yX7_degree ∈ lw_tbl := by decide +kernel
theorem imX7_degree : Cond.instanceMethod yX7_degree ∈ lw_tbl := by decide +kernel
theorem seX7_degree : Cond.selects RX7 yX7_degree yX7_degree ∈ lw_tbl := by decide +kernel
theorem kL_19 : Cond.methodLink RL 19 yX7_neighbour ∈ lw_tbl := by decide +kernel
theorem imX7_neighbour : Cond.instanceMethod yX7_neighbour ∈ lw_tbl := by decide +kernel
theorem seX7_neighbour : Cond.selects RX7 yX7_neighbour yX7_neighbour ∈ lw_tbl := by decide +kernel
theorem kL_23 : Cond.methodLink RL 23 yX7_wall ∈ lw_tbl := by decide +kernel
theorem imX7_wall : Cond.instanceMethod yX7_wall ∈ lw_tbl := by decide +kernel
theorem seX7_wall : Cond.selects RX7 yX7_wall yX7_wall ∈ lw_tbl := by decide +kernel
theorem kL_27 : Cond.methodLink RL 27 yX7_seen ∈ lw_tbl := by decide +kernel
theorem imX7_seen : Cond.instanceMethod yX7_seen ∈ lw_tbl := by decide +kernel
theorem seX7_seen : Cond.selects RX7 yX7_seen yX7_seen ∈ lw_tbl := by decide +kernel
theorem kL_31 : Cond.methodLink RL 31 yX7_far ∈ lw_tbl := by decide +kernel
theorem imX7_far : Cond.instanceMethod yX7_far ∈ lw_tbl := by decide +kernel
theorem seX7_far : Cond.selects RX7 yX7_far yX7_far ∈ lw_tbl := by decide +kernel
theorem kL_34 : Cond.methodLink RL 34 yX7_without ∈ lw_tbl := by decide +kernel
theorem imX7_without : Cond.instanceMethod yX7_without ∈ lw_tbl := by decide +kernel
theorem seX7_without : Cond.selects RX7 yX7_without yX7_without ∈ lw_tbl := by decide +kernel
theorem kL_38 : Cond.methodLink RL 38 yX7_area ∈ lw_tbl := by decide +kernel
theorem imX7_area : Cond.instanceMethod yX7_area ∈ lw_tbl := by decide +kernel
theorem seX7_area : Cond.selects RX7 yX7_area yX7_area ∈ lw_tbl := by decide +kernel
theorem kL_41 : Cond.methodLink RL 41 yX7_mark ∈ lw_tbl := by decide +kernel
theorem imX7_mark : Cond.instanceMethod yX7_mark ∈ lw_tbl := by decide +kernel
theorem seX7_mark : Cond.selects RX7 yX7_mark yX7_mark ∈ lw_tbl := by decide +kernel
theorem kL_44 : Cond.methodLink RL 44 yX7_image ∈ lw_tbl := by decide +kernel
theorem imX7_image : Cond.instanceMethod yX7_image ∈ lw_tbl := by decide +kernel
theorem seX7_image : Cond.selects RX7 yX7_image yX7_image ∈ lw_tbl := by decide +kernel
theorem knL_8 : Cond.classLink RL 8 RX7 ∈ lw_tbl := by decide +kernel
theorem kL_47 : Cond.methodLink RL 47 yL_cell ∈ lw_tbl := by decide +kernel
theorem stL_cell : Cond.static yL_cell ∈ lw_tbl := by decide +kernel
theorem kL_53 : Cond.methodLink RL 53 yX7_init ∈ lw_tbl := by decide +kernel
theorem imX7_init : Cond.instanceMethod yX7_init ∈ lw_tbl := by decide +kernel
theorem knL_56 : Cond.classLink RL 56 RX8 ∈ lw_tbl := by decide +kernel
theorem kL_58 : Cond.methodLink RL 58 yX8_init ∈ lw_tbl := by decide +kernel
theorem imX8_init : Cond.instanceMethod yX8_init ∈ lw_tbl := by decide +kernel
theorem kL_59 : Cond.methodLink RL 59 yL_join ∈ lw_tbl := by decide +kernel
theorem stL_join : Cond.static yL_join ∈ lw_tbl := by decide +kernel
theorem kL_62 : Cond.methodLink RL 62 yX8_join ∈ lw_tbl := by decide +kernel
theorem imX8_join : Cond.instanceMethod yX8_join ∈ lw_tbl := by decide +kernel
theorem seX8_join : Cond.selects RX8 yX8_join yX8_join ∈ lw_tbl := by decide +kernel
theorem kL_63 : Cond.methodLink RL 63 yX8_thrown ∈ lw_tbl := by decide +kernel
theorem imX8_thrown : Cond.instanceMethod yX8_thrown ∈ lw_tbl := by decide +kernel
theorem seX8_thrown : Cond.selects RX8 yX8_thrown yX8_thrown ∈ lw_tbl := by decide +kernel
theorem kL_67 : Cond.methodLink RL 67 yX7_places ∈ lw_tbl := by decide +kernel
theorem imX7_places : Cond.instanceMethod yX7_places ∈ lw_tbl := by decide +kernel
theorem seX7_places : Cond.selects RX7 yX7_places yX7_places ∈ lw_tbl := by decide +kernel
theorem kL_70 : Cond.methodLink RL 70 yX8_places ∈ lw_tbl := by decide +kernel
theorem imX8_places : Cond.instanceMethod yX8_places ∈ lw_tbl := by decide +kernel
theorem seX8_places : Cond.selects RX8 yX8_places yX8_places ∈ lw_tbl := by decide +kernel
theorem kL_71 : Cond.methodLink RL 71 yL_degree ∈ lw_tbl := by decide +kernel
theorem stL_degree : Cond.static yL_degree ∈ lw_tbl := by decide +kernel
theorem kL_74 : Cond.methodLink RL 74 yX8_degree ∈ lw_tbl := by decide +kernel
theorem imX8_degree : Cond.instanceMethod yX8_degree ∈ lw_tbl := by decide +kernel
theorem seX8_degree : Cond.selects RX8 yX8_degree yX8_degree ∈ lw_tbl := by decide +kernel
theorem kL_75 : Cond.methodLink RL 75 yL_neighbour ∈ lw_tbl := by decide +kernel
theorem stL_neighbour : Cond.static yL_neighbour ∈ lw_tbl := by decide +kernel
theorem kL_77 : Cond.methodLink RL 77 yX8_neighbour ∈ lw_tbl := by decide +kernel
theorem imX8_neighbour : Cond.instanceMethod yX8_neighbour ∈ lw_tbl := by decide +kernel
theorem seX8_neighbour : Cond.selects RX8 yX8_neighbour yX8_neighbour ∈ lw_tbl := by decide +kernel
theorem kL_78 : Cond.methodLink RL 78 yL_wall ∈ lw_tbl := by decide +kernel
theorem stL_wall : Cond.static yL_wall ∈ lw_tbl := by decide +kernel
theorem kL_81 : Cond.methodLink RL 81 yX8_wall ∈ lw_tbl := by decide +kernel
theorem imX8_wall : Cond.instanceMethod yX8_wall ∈ lw_tbl := by decide +kernel
theorem seX8_wall : Cond.selects RX8 yX8_wall yX8_wall ∈ lw_tbl := by decide +kernel
theorem kL_82 : Cond.methodLink RL 82 yX7_pairs ∈ lw_tbl := by decide +kernel
theorem imX7_pairs : Cond.instanceMethod yX7_pairs ∈ lw_tbl := by decide +kernel
theorem seX7_pairs : Cond.selects RX7 yX7_pairs yX7_pairs ∈ lw_tbl := by decide +kernel
theorem kL_86 : Cond.methodLink RL 86 yX8_pairs ∈ lw_tbl := by decide +kernel
theorem imX8_pairs : Cond.instanceMethod yX8_pairs ∈ lw_tbl := by decide +kernel
theorem seX8_pairs : Cond.selects RX8 yX8_pairs yX8_pairs ∈ lw_tbl := by decide +kernel
theorem kL_87 : Cond.methodLink RL 87 yX7_pair ∈ lw_tbl := by decide +kernel
theorem imX7_pair : Cond.instanceMethod yX7_pair ∈ lw_tbl := by decide +kernel
theorem seX7_pair : Cond.selects RX7 yX7_pair yX7_pair ∈ lw_tbl := by decide +kernel
theorem kL_90 : Cond.methodLink RL 90 yX8_pair ∈ lw_tbl := by decide +kernel
theorem imX8_pair : Cond.instanceMethod yX8_pair ∈ lw_tbl := by decide +kernel
theorem seX8_pair : Cond.selects RX8 yX8_pair yX8_pair ∈ lw_tbl := by decide +kernel
theorem kL_91 : Cond.methodLink RL 91 yL_seen ∈ lw_tbl := by decide +kernel
theorem stL_seen : Cond.static yL_seen ∈ lw_tbl := by decide +kernel
theorem kL_94 : Cond.methodLink RL 94 yX8_seen ∈ lw_tbl := by decide +kernel
theorem imX8_seen : Cond.instanceMethod yX8_seen ∈ lw_tbl := by decide +kernel
theorem seX8_seen : Cond.selects RX8 yX8_seen yX8_seen ∈ lw_tbl := by decide +kernel
theorem kL_95 : Cond.methodLink RL 95 yL_far ∈ lw_tbl := by decide +kernel
theorem stL_far : Cond.static yL_far ∈ lw_tbl := by decide +kernel
theorem kL_97 : Cond.methodLink RL 97 yX8_far ∈ lw_tbl := by decide +kernel
theorem imX8_far : Cond.instanceMethod yX8_far ∈ lw_tbl := by decide +kernel
theorem seX8_far : Cond.selects RX8 yX8_far yX8_far ∈ lw_tbl := by decide +kernel
theorem kL_98 : Cond.methodLink RL 98 yX7_parts ∈ lw_tbl := by decide +kernel
theorem imX7_parts : Cond.instanceMethod yX7_parts ∈ lw_tbl := by decide +kernel
theorem seX7_parts : Cond.selects RX7 yX7_parts yX7_parts ∈ lw_tbl := by decide +kernel
theorem kL_101 : Cond.methodLink RL 101 yX8_parts ∈ lw_tbl := by decide +kernel
theorem imX8_parts : Cond.instanceMethod yX8_parts ∈ lw_tbl := by decide +kernel
theorem seX8_parts : Cond.selects RX8 yX8_parts yX8_parts ∈ lw_tbl := by decide +kernel
theorem kL_102 : Cond.methodLink RL 102 yL_without ∈ lw_tbl := by decide +kernel
theorem stL_without : Cond.static yL_without ∈ lw_tbl := by decide +kernel
theorem kL_105 : Cond.methodLink RL 105 yX8_without ∈ lw_tbl := by decide +kernel
theorem imX8_without : Cond.instanceMethod yX8_without ∈ lw_tbl := by decide +kernel
theorem seX8_without : Cond.selects RX8 yX8_without yX8_without ∈ lw_tbl := by decide +kernel
theorem kL_106 : Cond.methodLink RL 106 yL_area ∈ lw_tbl := by decide +kernel
theorem stL_area : Cond.static yL_area ∈ lw_tbl := by decide +kernel
theorem kL_108 : Cond.methodLink RL 108 yX8_area ∈ lw_tbl := by decide +kernel
theorem imX8_area : Cond.instanceMethod yX8_area ∈ lw_tbl := by decide +kernel
theorem seX8_area : Cond.selects RX8 yX8_area yX8_area ∈ lw_tbl := by decide +kernel
theorem kL_109 : Cond.methodLink RL 109 yX7_size ∈ lw_tbl := by decide +kernel
theorem imX7_size : Cond.instanceMethod yX7_size ∈ lw_tbl := by decide +kernel
theorem seX7_size : Cond.selects RX7 yX7_size yX7_size ∈ lw_tbl := by decide +kernel
theorem kL_112 : Cond.methodLink RL 112 yX8_size ∈ lw_tbl := by decide +kernel
theorem imX8_size : Cond.instanceMethod yX8_size ∈ lw_tbl := by decide +kernel
theorem seX8_size : Cond.selects RX8 yX8_size yX8_size ∈ lw_tbl := by decide +kernel
theorem kL_113 : Cond.methodLink RL 113 yL_mark ∈ lw_tbl := by decide +kernel
theorem stL_mark : Cond.static yL_mark ∈ lw_tbl := by decide +kernel
theorem kL_115 : Cond.methodLink RL 115 yX8_mark ∈ lw_tbl := by decide +kernel
theorem imX8_mark : Cond.instanceMethod yX8_mark ∈ lw_tbl := by decide +kernel
theorem seX8_mark : Cond.selects RX8 yX8_mark yX8_mark ∈ lw_tbl := by decide +kernel
theorem kL_116 : Cond.methodLink RL 116 yL_image ∈ lw_tbl := by decide +kernel
theorem stL_image : Cond.static yL_image ∈ lw_tbl := by decide +kernel
theorem kL_118 : Cond.methodLink RL 118 yX8_image ∈ lw_tbl := by decide +kernel
theorem imX8_image : Cond.instanceMethod yX8_image ∈ lw_tbl := by decide +kernel
theorem seX8_image : Cond.selects RX8 yX8_image yX8_image ∈ lw_tbl := by decide +kernel
theorem kL_119 : Cond.methodLink RL 119 yX7_keeps ∈ lw_tbl := by decide +kernel
theorem imX7_keeps : Cond.instanceMethod yX7_keeps ∈ lw_tbl := by decide +kernel
theorem seX7_keeps : Cond.selects RX7 yX7_keeps yX7_keeps ∈ lw_tbl := by decide +kernel
theorem kL_123 : Cond.methodLink RL 123 yX8_keeps ∈ lw_tbl := by decide +kernel
theorem imX8_keeps : Cond.instanceMethod yX8_keeps ∈ lw_tbl := by decide +kernel
theorem seX8_keeps : Cond.selects RX8 yX8_keeps yX8_keeps ∈ lw_tbl := by decide +kernel
theorem kL_124 : Cond.methodLink RL 124 yX7_keeping ∈ lw_tbl := by decide +kernel
theorem imX7_keeping : Cond.instanceMethod yX7_keeping ∈ lw_tbl := by decide +kernel
theorem seX7_keeping : Cond.selects RX7 yX7_keeping yX7_keeping ∈ lw_tbl := by decide +kernel
theorem kL_127 : Cond.methodLink RL 127 yX8_keeping ∈ lw_tbl := by decide +kernel
theorem imX8_keeping : Cond.instanceMethod yX8_keeping ∈ lw_tbl := by decide +kernel
theorem seX8_keeping : Cond.selects RX8 yX8_keeping yX8_keeping ∈ lw_tbl := by decide +kernel
theorem kL_128 : Cond.methodLink RL 128 yX7_text ∈ lw_tbl := by decide +kernel
theorem imX7_text : Cond.instanceMethod yX7_text ∈ lw_tbl := by decide +kernel
theorem seX7_text : Cond.selects RX7 yX7_text yX7_text ∈ lw_tbl := by decide +kernel
theorem kL_131 : Cond.methodLink RL 131 yX8_text ∈ lw_tbl := by decide +kernel
theorem imX8_text : Cond.instanceMethod yX8_text ∈ lw_tbl := by decide +kernel
theorem seX8_text : Cond.selects RX8 yX8_text yX8_text ∈ lw_tbl := by decide +kernel
theorem kL_132 : Cond.methodLink RL 132 yX7_unit ∈ lw_tbl := by decide +kernel
theorem imX7_unit : Cond.instanceMethod yX7_unit ∈ lw_tbl := by decide +kernel
theorem seX7_unit : Cond.selects RX7 yX7_unit yX7_unit ∈ lw_tbl := by decide +kernel
theorem kL_135 : Cond.methodLink RL 135 yX8_unit ∈ lw_tbl := by decide +kernel
theorem imX8_unit : Cond.instanceMethod yX8_unit ∈ lw_tbl := by decide +kernel
theorem seX8_unit : Cond.selects RX8 yX8_unit yX8_unit ∈ lw_tbl := by decide +kernel
theorem kL_136 : Cond.methodLink RL 136 yX7_read ∈ lw_tbl := by decide +kernel
theorem imX7_read : Cond.instanceMethod yX7_read ∈ lw_tbl := by decide +kernel
theorem seX7_read : Cond.selects RX7 yX7_read yX7_read ∈ lw_tbl := by decide +kernel
theorem kL_139 : Cond.methodLink RL 139 yX8_read ∈ lw_tbl := by decide +kernel
theorem imX8_read : Cond.instanceMethod yX8_read ∈ lw_tbl := by decide +kernel
theorem seX8_read : Cond.selects RX8 yX8_read yX8_read ∈ lw_tbl := by decide +kernel
theorem oi1 : Cond.instanceMethod objectInit ∈ lw_tbl := by decide +kernel
theorem oi2 : Cond.code objectInit ⟨#[0xb1]⟩ 1 none ∈ lw_tbl := by decide +kernel
theorem ar_int : Cond.arrayClass .int ∈ lw_tbl := by decide +kernel
theorem ar_boolean : Cond.arrayClass .boolean ∈ lw_tbl := by decide +kernel
theorem ar_long : Cond.arrayClass .long ∈ lw_tbl := by decide +kernel
theorem kc65536 : Cond.constant RX8 7 65536 ∈ lw_tbl := by decide +kernel
theorem kx170 : Cond.classLink "GridShapes" 170 RJx00060 ∈ lw_tbl := by decide +kernel
theorem kx13 : Cond.classLink RL 13 RJx00060 ∈ lw_tbl := by decide +kernel
theorem kxi : Cond.instantiable RJx00060 6 ∈ lw_tbl := by decide +kernel
theorem kxd : Cond.initialized RJx00060 ∈ lw_tbl := by decide +kernel
theorem kxc : Cond.castable RJx00060 RJx00060 ∈ lw_tbl := by decide +kernel
/-- the room of a method whose calls nest d deep -/
def m_r (d c k : Nat) : Room := { frames := d, cells := c, slots := k, locals := 36 * d }
theorem m_rmI {a b c k c' k' nc ns : Nat} {M' : mM} {st : List Value} (h1 : b + 1 ≤ a) (h2 : (st.map fun v => v.category).sum + M'.2.2.1 + 11 ≤ 36) (h3 : nc + c' ≤ c) (h4 : ns + k' ≤ k) : m_rm (m_r a c k) (m_r b c' k') M' nc ns st := by
  refine ⟨h1, ?_, h3, h4⟩
  show _ + _ + 36 * b ≤ 36 * a
  omega
/-- a contract whose end is told outright -/
abbrev m_Cv (G : mG) (M : mM) (R : Room) (av : List Value) (w : List mC) (v : Option Value) (w' : List mC) : Prop := m_Ct G M R av w (fun r x => r = some v ∧ x = w')
abbrev m_Cx0 (G : mG) (M : mM) (R : Room) (av : List Value) (w w' : List mC) : Prop := m_Ct G M R av w (fun r x => r = none ∧ x = w')
section MFa
variable {G : mG} {M M' : mM} {R R' : Room} {Q : Option (Option Value) → List mC → Prop} {nc ns pc : Nat} {L : List (Option Value)} {st : List Value} {w w' : List mC}
theorem m_cS (pc' : Nat) {idx n : Nat} {v : Option Value} (av : List Value) (hk : Cond.methodLink M.1.cls idx M'.1 ∈ lw_tbl) (hs : Cond.static M'.1 ∈ lw_tbl) (hcl : m_cl M' n) (hd : decode M.2.1 pc = .ok (.invokestatic idx, 3)) (hp : pc + 3 = pc') (hn : av.length = n) (hrm : m_rm R R' M' nc ns st) (hM : m_Cv G M' R' av w v w')
    (kk : m_J G M R Q (nc + R'.cells) (ns + R'.slots) pc' L (v.toList ++ st) w') : m_J G M R Q nc ns pc L (av.reverse ++ st) w := by
  subst hp
  exact m_invS hk hs hcl hd hn hrm hM (fun v2 w2 h => by obtain ⟨h1, rfl⟩ := h; cases h1; exact kk) (fun w2 h => by cases h.1)
theorem m_cSN (pc' : Nat) {idx n : Nat} {host : String} {v : Option Value} (av : List Value) (hk : Cond.methodLinkNest M.1.cls idx M'.1 host ∈ lw_tbl) (hs : Cond.static M'.1 ∈ lw_tbl) (hcl : m_cl M' n) (hd : decode M.2.1 pc = .ok (.invokestatic idx, 3)) (hp : pc + 3 = pc') (hn : av.length = n) (hrm : m_rm R R' M' nc ns st) (hM : m_Cv G M' R' av w v w')
    (kk : m_J G M R Q (nc + R'.cells) (ns + R'.slots) pc' L (v.toList ++ st) w') : m_J G M R Q nc ns pc L (av.reverse ++ st) w := by
  subst hp
  exact m_invSN hk hs hcl hd hn hrm hM (fun v2 w2 h => by obtain ⟨h1, rfl⟩ := h; cases h1; exact kk) (fun w2 h => by cases h.1)
theorem m_cV (pc' : Nat) {idx n i ci N : Nat} {T0 : u_T} {fs : List Value} {v : Option Value} (av : List Value) (hk : Cond.methodLink M.1.cls idx M'.1 ∈ lw_tbl) (hi : Cond.instanceMethod M'.1 ∈ lw_tbl) (hse : Cond.selects M'.1.cls M'.1 M'.1 ∈ lw_tbl) (hcl : m_cl M' n) (hd : decode M.2.1 pc = .ok (.invokevirtual idx, 3)) (hp : pc + 3 = pc') (hn : av.length = n) (hc : mCl[ci]? = some (M'.1.cls, T0, N)) (hw : w[i]? = some (mO ci fs)) (hrm : m_rm R R' M' nc ns st) (hM : m_Cv G M' R' (.ref i :: av) w v w')
    (kk : m_J G M R Q (nc + R'.cells) (ns + R'.slots) pc' L (v.toList ++ st) w') : m_J G M R Q nc ns pc L (av.reverse ++ .ref i :: st) w := by
  subst hp
  exact m_invV hk hi hse hcl hd hn hc hw hrm hM (fun v2 w2 h => by obtain ⟨h1, rfl⟩ := h; cases h1; exact kk) (fun w2 h => by cases h.1)
theorem m_cI (pc' : Nat) {idx n i : Nat} {v : Option Value} (av : List Value) (hk : Cond.methodLink M.1.cls idx M'.1 ∈ lw_tbl) (hi : Cond.instanceMethod M'.1 ∈ lw_tbl) (hin : M'.1.name = "<init>" ∧ M'.2.2.2 = (none, [])) (hcl : m_cl M' n) (hd : decode M.2.1 pc = .ok (.invokespecial idx, 3)) (hp : pc + 3 = pc') (hn : av.length = n) (hrm : m_rm R R' M' nc ns st) (hM : m_Cv G M' R' (.ref i :: av) w v w')
    (kk : m_J G M R Q (nc + R'.cells) (ns + R'.slots) pc' L (v.toList ++ st) w') : m_J G M R Q nc ns pc L (av.reverse ++ .ref i :: st) w := by
  subst hp
  exact m_invI hk hi hin hcl hd hn hrm hM (fun v2 w2 h => by obtain ⟨h1, rfl⟩ := h; cases h1; exact kk) (fun w2 h => by cases h.1)
/-- a callee that throws, in a method without handlers -/
theorem m_cVx {idx n i ci N : Nat} {T0 : u_T} {fs : List Value} (av : List Value) (hk : Cond.methodLink M.1.cls idx M'.1 ∈ lw_tbl) (hi : Cond.instanceMethod M'.1 ∈ lw_tbl) (hse : Cond.selects M'.1.cls M'.1 M'.1 ∈ lw_tbl) (hcl : m_cl M' n) (hd : decode M.2.1 pc = .ok (.invokevirtual idx, 3)) (hn : av.length = n) (hc : mCl[ci]? = some (M'.1.cls, T0, N)) (hw : w[i]? = some (mO ci fs)) (hrm : m_rm R R' M' nc ns st) (hM : m_Cx0 G M' R' (.ref i :: av) w w')
    (kt : m_T G M R Q (nc + R'.cells) (ns + R'.slots) pc L w') : m_J G M R Q nc ns pc L (av.reverse ++ .ref i :: st) w :=
  m_invV hk hi hse hcl hd hn hc hw hrm hM (fun v2 w2 h => by cases h.1) (fun w2 h => by obtain ⟨-, rfl⟩ := h; exact kt)
theorem m_Cv.le {d d2 c k : Nat} {av : List Value} {v : Option Value} (h : m_Cv G M (m_r d c k) av w v w') (e : d = d2) : m_Cv G M (m_r d2 c k) av w v w' := e ▸ h
end MFa
end
section
/-! the machine over whole numbers: every int on the stack is iI z -/
def iI (z : Int) : Int32 := Int32.ofInt z
def bi (b : Bool) : Int32 := if b then 1 else 0
abbrev vI (z : Int) : Value := .int (iI z)
abbrev vB (b : Bool) : Value := .int (bi b)
def iR (z : Int) : Prop := -2147483648 ≤ z ∧ z < 2147483648
theorem iI_toInt {z : Int} (h : iR z) : (iI z).toInt = z := by
  unfold iI
  rw [Int32.toInt_ofInt]
  obtain ⟨h1, h2⟩ := h
  have : z.bmod (2 ^ 32) = z := by
    rw [Int.bmod_eq_of_le] <;> omega
  exact this
theorem iI_of (x : Int32) : x = iI x.toInt := by unfold iI; rw [Int32.ofInt_toInt]
theorem iR_toInt (x : Int32) : iR x.toInt := ⟨Int32.le_toInt x, Int32.toInt_lt x⟩
theorem iI_add (a b : Int) : iI a + iI b = iI (a + b) := (Int32.ofInt_add a b).symm
theorem iI_sub (a b : Int) : iI a - iI b = iI (a - b) := (Int32.ofInt_sub a b).symm
theorem iI_mul (a b : Int) : iI a * iI b = iI (a * b) := (Int32.ofInt_mul a b).symm
theorem iI_nI (n : Nat) : iI n = nI n := by unfold iI nI; exact Int32.ofInt_eq_ofNat
theorem iI_lt {a b : Int} (ha : iR a) (hb : iR b) : iI a < iI b ↔ a < b := by rw [Int32.lt_iff_toInt_lt, iI_toInt ha, iI_toInt hb]
theorem iI_le {a b : Int} (ha : iR a) (hb : iR b) : iI a ≤ iI b ↔ a ≤ b := by rw [Int32.le_iff_toInt_le, iI_toInt ha, iI_toInt hb]
theorem iI_eq {a b : Int} (ha : iR a) (hb : iR b) : iI a = iI b ↔ a = b := by
  constructor
  · intro h
    have := congrArg Int32.toInt h
    rwa [iI_toInt ha, iI_toInt hb] at this
  · rintro rfl; rfl
theorem iI_0 : iI 0 = 0 := by decide
theorem iI_1 : iI 1 = 1 := by decide
theorem iR0 : iR 0 := by constructor <;> omega
theorem bi_t : bi true = iI 1 := by decide
theorem bi_f : bi false = iI 0 := by decide
theorem bi_01 (b : Bool) : bi b = 0 ∨ bi b = 1 := by cases b <;> decide
theorem bi_eq0 {b : Bool} : bi b = 0 ↔ b = false := by cases b <;> decide
theorem bi_inj {a b : Bool} : bi a = bi b ↔ a = b := by cases a <;> cases b <;> decide
theorem iI_clamp {z : Int} {n : Nat} (h0 : 0 ≤ z) (h1 : z < n) (hn : n < 2147483648) : (iI z).toNatClampNeg = z.toNat := by
  show (iI z).toInt.toNat = z.toNat
  rw [iI_toInt ⟨by omega, by omega⟩]
theorem iI_in {z : Int} {n : Nat} (h0 : 0 ≤ z) (h1 : z < n) (hn : n < 2147483648) : vp_in (iI z) n := by
  rw [vp_in_iff, iI_toInt ⟨by omega, by omega⟩]
  exact ⟨h0, h1⟩
/-- an int array with these numbers, a boolean array with these truths -/
abbrev cI (n : Nat) (f : Nat → Int) : mC := mI n (fun j => iI (f j))
abbrev cZ (n : Nat) (f : Nat → Bool) : mC := mZ n (fun j => bi (f j))
def up {α : Type} (f : Nat → α) (k : Nat) (x : α) : Nat → α := fun j => if j = k then x else f j
theorem up_I (f : Nat → Int) (k : Nat) (x : Int) : upd (fun j => iI (f j)) k (iI x) = fun j => iI (up f k x j) := by
  funext j
  unfold up
  by_cases h : j = k
  · subst h; simp [upd]
  · simp [upd, h]
theorem up_Z (f : Nat → Bool) (k : Nat) (x : Bool) : upd (fun j => bi (f j)) k (bi x) = fun j => bi (up f k x j) := by
  funext j
  unfold up
  by_cases h : j = k
  · subst h; simp [upd]
  · simp [upd, h]
theorem up_s {α : Type} (f : Nat → α) (k : Nat) (x : α) : up f k x k = x := if_pos rfl
theorem up_n {α : Type} (f : Nat → α) {k j : Nat} (x : α) (h : j ≠ k) : up f k x j = f j := if_neg h
theorem m_c1 {av : List Value} (h : av.all (fun v => v.category == 1) = true) : ∀ v ∈ av, v.category = 1 := fun v hv => by simpa using List.all_eq_true.mp h v hv
section IJ
variable {G : mG} {M : mM} {R : Room} {Q : Option (Option Value) → List mC → Prop} {nc ns pc : Nat} {L : List (Option Value)} {st : List Value} {w : List mC}
theorem i_const (pc' : Nat) {z : Int} (hd : decode M.2.1 pc = .ok (.iconst z, 1)) (hp : pc + 1 = pc') (k : m_J G M R Q nc ns pc' L (vI z :: st) w) : m_J G M R Q nc ns pc L st w := m_iconst pc' hd hp rfl k
theorem i_bipush (pc' : Nat) (v : Int) {z : Int} (hd : decode M.2.1 pc = .ok (.bipush z, 2)) (hp : pc + 2 = pc') (hv : (Int8.ofInt z).toInt32 = iI v) (k : m_J G M R Q nc ns pc' L (vI v :: st) w) : m_J G M R Q nc ns pc L st w := m_bipush pc' hd hp hv k
theorem i_sipush (pc' : Nat) (v : Int) {z : Int} (hd : decode M.2.1 pc = .ok (.sipush z, 3)) (hp : pc + 3 = pc') (hv : (Int16.ofInt z).toInt32 = iI v) (k : m_J G M R Q nc ns pc' L (vI v :: st) w) : m_J G M R Q nc ns pc L st w := m_sipush pc' hd hp hv k
theorem i_inc (pc' : Nat) {i : Nat} {z x : Int} (hd : decode M.2.1 pc = .ok (.iinc i z, 3)) (hp : pc + 3 = pc') (hl : L[i]? = some (some (vI x))) (hi : i < M.2.2.1) (k : m_J G M R Q nc ns pc' (L.set i (some (vI (x + z)))) st w) : m_J G M R Q nc ns pc L st w := m_iinc pc' hd hp hl (iI_add x z) hi k
theorem i_len (pc' : Nat) {i n : Nat} {ty : FieldType} {f : Nat → Int32} (hd : decode M.2.1 pc = .ok (.arraylength, 1)) (hp : pc + 1 = pc') (hw : w[i]? = some (.inl (ty, n, f))) (k : m_J G M R Q nc ns pc' L (vI n :: st) w) : m_J G M R Q nc ns pc L (.ref i :: st) w := m_len (Or.inl ⟨_, _, rfl⟩) pc' hd hp hw (by rw [← iI_nI]; exact k)
theorem i_ald (pc' : Nat) {i n : Nat} {f : Nat → Int} {z : Int} (hd : decode M.2.1 pc = .ok (.iaload, 1)) (hp : pc + 1 = pc') (hw : w[i]? = some (cI n f)) (hz : 0 ≤ z ∧ z < n ∧ n < 2147483648) (k : m_J G M R Q nc ns pc' L (vI (f z.toNat) :: st) w) : m_J G M R Q nc ns pc L (vI z :: .ref i :: st) w := m_iald pc' hd hp hw (iI_in hz.1 hz.2.1 hz.2.2) (by rw [iI_clamp hz.1 hz.2.1 hz.2.2]; exact k)
theorem i_zald (pc' : Nat) {i n : Nat} {f : Nat → Bool} {z : Int} (hd : decode M.2.1 pc = .ok (.baload, 1)) (hp : pc + 1 = pc') (hw : w[i]? = some (cZ n f)) (hz : 0 ≤ z ∧ z < n ∧ n < 2147483648) (k : m_J G M R Q nc ns pc' L (vB (f z.toNat) :: st) w) : m_J G M R Q nc ns pc L (vI z :: .ref i :: st) w := m_zald pc' hd hp hw (iI_in hz.1 hz.2.1 hz.2.2) (by rw [iI_clamp hz.1 hz.2.1 hz.2.2]; exact k)
theorem i_ast (pc' : Nat) {i n : Nat} {f : Nat → Int} {z x : Int} (hd : decode M.2.1 pc = .ok (.iastore, 1)) (hp : pc + 1 = pc') (hw : w[i + 1]? = some (cI n f)) (hz : 0 ≤ z ∧ z < n ∧ n < 2147483648) (k : m_J G M R Q nc ns pc' L st (w.set (i + 1) (cI n (up f z.toNat x)))) : m_J G M R Q nc ns pc L (vI x :: vI z :: .ref (i + 1) :: st) w := m_iast pc' hd hp hw (iI_in hz.1 hz.2.1 hz.2.2) (by rw [iI_clamp hz.1 hz.2.1 hz.2.2, up_I]; exact k)
theorem i_zast (pc' : Nat) {i n : Nat} {f : Nat → Bool} {z : Int} {x : Bool} (hd : decode M.2.1 pc = .ok (.bastore, 1)) (hp : pc + 1 = pc') (hw : w[i + 1]? = some (cZ n f)) (hz : 0 ≤ z ∧ z < n ∧ n < 2147483648) (k : m_J G M R Q nc ns pc' L st (w.set (i + 1) (cZ n (up f z.toNat x)))) : m_J G M R Q nc ns pc L (vB x :: vI z :: .ref (i + 1) :: st) w := m_zast pc' hd hp hw (iI_in hz.1 hz.2.1 hz.2.2) (bi_01 x) (by rw [iI_clamp hz.1 hz.2.1 hz.2.2, up_Z]; exact k)
/-- a 0 or 1 as a truth -/
theorem i_asB (b : Bool) {v : Value} (hv : v = vB b) (k : m_J G M R Q nc ns pc L (vB b :: st) w) : m_J G M R Q nc ns pc L (v :: st) w := hv ▸ k
theorem i_asI (z : Int) {v : Value} (hv : v = vI z) (k : m_J G M R Q nc ns pc L (vI z :: st) w) : m_J G M R Q nc ns pc L (v :: st) w := hv ▸ k
theorem i_tableIn (tgt : Nat) {dflt lo hi : Int} {offs : Array Int} {len : Nat} {z off : Int} (hz : iR z) (hd : decode M.2.1 pc = .ok (.tableswitch dflt lo hi offs, len)) (h1 : ¬ z < lo) (h2 : ¬ hi < z) (ho : offs[(z - lo).toNat]? = some off) (ht : (pc : Int) + off = (tgt : Int))
    (k : m_J G M R Q nc ns tgt L st w) : m_J G M R Q nc ns pc L (vI z :: st) w := m_tableIn tgt hd (by rw [iI_toInt hz]; exact h1) (by rw [iI_toInt hz]; exact h2) (by rw [iI_toInt hz]; exact ho) ht k
theorem i_tableOut (tgt : Nat) {dflt lo hi : Int} {offs : Array Int} {len : Nat} {z : Int} (hz : iR z) (hd : decode M.2.1 pc = .ok (.tableswitch dflt lo hi offs, len)) (h : z < lo ∨ hi < z) (ht : (pc : Int) + dflt = (tgt : Int))
    (k : m_J G M R Q nc ns tgt L st w) : m_J G M R Q nc ns pc L (vI z :: st) w := m_tableOut tgt hd (by rw [iI_toInt hz]; exact h) ht k
theorem i_and (pc' : Nat) (j : Nat) {x y : Int} (hd : decode M.2.1 pc = .ok (.iand, 1)) (hp : pc + 1 = pc') (hx : 0 ≤ x ∧ x < 2147483648) (hy : (iI y).toBitVec.toNat = 2 ^ j - 1) (k : m_J G M R Q nc ns pc' L (vI (x % ((2 ^ j : Nat) : Int)) :: st) w) : m_J G M R Q nc ns pc L (vI y :: vI x :: st) w := by
  refine m_iand pc' hd hp ?_
  have e : iI x &&& iI y = iI (x % ((2 ^ j : Nat) : Int)) := by
    obtain ⟨n, hn⟩ := Int.eq_ofNat_of_zero_le hx.1
    subst hn
    rw [iI_nI, pk_andN (by omega) j hy, ← iI_nI]
    rfl
  rw [e]
  exact k
theorem i_shr1 (pc' : Nat) {x : Int} (hd : decode M.2.1 pc = .ok (.ishr, 1)) (hp : pc + 1 = pc') (hx : 0 ≤ x ∧ x < 2147483648) (k : m_J G M R Q nc ns pc' L (vI (x / 2) :: st) w) : m_J G M R Q nc ns pc L (vI 1 :: vI x :: st) w := by
  refine m_ishr pc' hd hp ?_
  have e : iI x >>> (iI 1 &&& 31) = iI (x / 2) := by
    obtain ⟨n, hn⟩ := Int.eq_ofNat_of_zero_le hx.1
    subst hn
    rw [iI_nI, pk_shrN (by omega) (iI 1 &&& 31) 1 (by decide), ← iI_nI]
    rfl
  rw [e]
  exact k
theorem i_div (pc' : Nat) {x y : Int} (hd : decode M.2.1 pc = .ok (.idiv, 1)) (hp : pc + 1 = pc') (hx : 0 ≤ x ∧ x < 2147483648 ∧ 0 < y ∧ y < 2147483648) (k : m_J G M R Q nc ns pc' L (vI (x / y) :: st) w) : m_J G M R Q nc ns pc L (vI y :: vI x :: st) w := by
  obtain ⟨a, ha⟩ := Int.eq_ofNat_of_zero_le hx.1
  obtain ⟨b, hb⟩ := Int.eq_ofNat_of_zero_le (show 0 ≤ y by omega)
  subst ha; subst hb
  refine m_idiv pc' hd hp ?_ ?_
  · rw [iI_nI]; exact nI_ne0 (by omega) (by omega)
  · rw [iI_nI, iI_nI, pk_div (by omega) (by omega) (by omega), ← iI_nI]
    exact k
theorem i_rem (pc' : Nat) {x y : Int} (hd : decode M.2.1 pc = .ok (.irem, 1)) (hp : pc + 1 = pc') (hx : 0 ≤ x ∧ x < 2147483648 ∧ 0 < y ∧ y < 2147483648) (k : m_J G M R Q nc ns pc' L (vI (x % y) :: st) w) : m_J G M R Q nc ns pc L (vI y :: vI x :: st) w := by
  obtain ⟨a, ha⟩ := Int.eq_ofNat_of_zero_le hx.1
  obtain ⟨b, hb⟩ := Int.eq_ofNat_of_zero_le (show 0 ≤ y by omega)
  subst ha; subst hb
  refine m_irem pc' hd hp ?_ ?_
  · rw [iI_nI]; exact nI_ne0 (by omega) (by omega)
  · rw [iI_nI, iI_nI, pk_rem (by omega) (by omega) (by omega), ← iI_nI]
    exact k
theorem i_ret {z : Int} (t : Int) (hd : decode M.2.1 pc = .ok (.ireturn, 1)) (hr : M.2.2.2.1 = some .int) (hn : nc ≤ R.cells ∧ ns ≤ R.slots) (e : z = t) (hq : Q (some (some (vI t))) w) : m_J G M R Q nc ns pc L [vI z] w := by
  subst e
  exact m_iret hd (Or.inl hr) hn hq
theorem i_retB {v : Value} (b : Bool) (hd : decode M.2.1 pc = .ok (.ireturn, 1)) (hr : M.2.2.2.1 = some .boolean) (hn : nc ≤ R.cells ∧ ns ≤ R.slots) (e : v = vB b) (hq : Q (some (some (vB b))) w) : m_J G M R Q nc ns pc L [v] w := by
  subst e
  exact m_iret hd (Or.inr ⟨hr, bi_01 b⟩) hn hq
theorem i_eq1 {b : Bool} (h : b = true) : vI 1 = vB b := by subst h; rfl
theorem i_eq0 {b : Bool} (h : b = false) : vI 0 = vB b := by subst h; rfl
theorem i_add (pc' : Nat) {x y : Int} (hd : decode M.2.1 pc = .ok (.iadd, 1)) (hp : pc + 1 = pc') (k : m_J G M R Q nc ns pc' L (vI (x + y) :: st) w) : m_J G M R Q nc ns pc L (vI y :: vI x :: st) w := m_iadd pc' hd hp (by rw [iI_add]; exact k)
theorem i_sub (pc' : Nat) {x y : Int} (hd : decode M.2.1 pc = .ok (.isub, 1)) (hp : pc + 1 = pc') (k : m_J G M R Q nc ns pc' L (vI (x - y) :: st) w) : m_J G M R Q nc ns pc L (vI y :: vI x :: st) w := m_isub pc' hd hp (by rw [iI_sub]; exact k)
theorem i_mul (pc' : Nat) {x y : Int} (hd : decode M.2.1 pc = .ok (.imul, 1)) (hp : pc + 1 = pc') (k : m_J G M R Q nc ns pc' L (vI (x * y) :: st) w) : m_J G M R Q nc ns pc L (vI y :: vI x :: st) w := m_imul pc' hd hp (by rw [iI_mul]; exact k)
theorem i_icmp_eq (pc' tgt : Nat) {x y off : Int} (hx : iR x) (hy : iR y) (hd : decode M.2.1 pc = .ok (.if_icmp .eq off, 3)) (hp : pc + 3 = pc') (ht : (pc : Int) + off = (tgt : Int))
    (kt : x = y → m_J G M R Q nc ns tgt L st w) (kf : x ≠ y → m_J G M R Q nc ns pc' L st w) : m_J G M R Q nc ns pc L (vI y :: vI x :: st) w :=
  m_icmp_eq pc' tgt hd hp ht (fun h => kt ((iI_eq hx hy).mp h)) (fun h => kf (fun e => h ((iI_eq hx hy).mpr e)))
theorem i_if_eq (pc' tgt : Nat) {x off : Int} (hx : iR x) (hd : decode M.2.1 pc = .ok (.ifCond .eq off, 3)) (hp : pc + 3 = pc') (ht : (pc : Int) + off = (tgt : Int))
    (kt : x = 0 → m_J G M R Q nc ns tgt L st w) (kf : x ≠ 0 → m_J G M R Q nc ns pc' L st w) : m_J G M R Q nc ns pc L (vI x :: st) w :=
  m_if_eq pc' tgt hd hp ht (fun h => kt ((iI_eq hx iR0).mp h)) (fun h => kf (fun e => h ((iI_eq hx iR0).mpr e)))
theorem i_icmp_ne (pc' tgt : Nat) {x y off : Int} (hx : iR x) (hy : iR y) (hd : decode M.2.1 pc = .ok (.if_icmp .ne off, 3)) (hp : pc + 3 = pc') (ht : (pc : Int) + off = (tgt : Int))
    (kt : x ≠ y → m_J G M R Q nc ns tgt L st w) (kf : x = y → m_J G M R Q nc ns pc' L st w) : m_J G M R Q nc ns pc L (vI y :: vI x :: st) w :=
  m_icmp_ne pc' tgt hd hp ht (fun h => kt (fun e => h ((iI_eq hx hy).mpr e))) (fun h => kf ((iI_eq hx hy).mp h))
theorem i_if_ne (pc' tgt : Nat) {x off : Int} (hx : iR x) (hd : decode M.2.1 pc = .ok (.ifCond .ne off, 3)) (hp : pc + 3 = pc') (ht : (pc : Int) + off = (tgt : Int))
    (kt : x ≠ 0 → m_J G M R Q nc ns tgt L st w) (kf : x = 0 → m_J G M R Q nc ns pc' L st w) : m_J G M R Q nc ns pc L (vI x :: st) w :=
  m_if_ne pc' tgt hd hp ht (fun h => kt (fun e => h ((iI_eq hx iR0).mpr e))) (fun h => kf ((iI_eq hx iR0).mp h))
theorem i_icmp_lt (pc' tgt : Nat) {x y off : Int} (hx : iR x) (hy : iR y) (hd : decode M.2.1 pc = .ok (.if_icmp .lt off, 3)) (hp : pc + 3 = pc') (ht : (pc : Int) + off = (tgt : Int))
    (kt : x < y → m_J G M R Q nc ns tgt L st w) (kf : y ≤ x → m_J G M R Q nc ns pc' L st w) : m_J G M R Q nc ns pc L (vI y :: vI x :: st) w :=
  m_icmp_lt pc' tgt hd hp ht (fun h => kt ((iI_lt hx hy).mp h)) (fun h => kf (Int.not_lt.mp (fun e => h ((iI_lt hx hy).mpr e))))
theorem i_if_lt (pc' tgt : Nat) {x off : Int} (hx : iR x) (hd : decode M.2.1 pc = .ok (.ifCond .lt off, 3)) (hp : pc + 3 = pc') (ht : (pc : Int) + off = (tgt : Int))
    (kt : x < 0 → m_J G M R Q nc ns tgt L st w) (kf : 0 ≤ x → m_J G M R Q nc ns pc' L st w) : m_J G M R Q nc ns pc L (vI x :: st) w :=
  m_if_lt pc' tgt hd hp ht (fun h => kt ((iI_lt hx iR0).mp h)) (fun h => kf (Int.not_lt.mp (fun e => h ((iI_lt hx iR0).mpr e))))
theorem i_icmp_ge (pc' tgt : Nat) {x y off : Int} (hx : iR x) (hy : iR y) (hd : decode M.2.1 pc = .ok (.if_icmp .ge off, 3)) (hp : pc + 3 = pc') (ht : (pc : Int) + off = (tgt : Int))
    (kt : y ≤ x → m_J G M R Q nc ns tgt L st w) (kf : x < y → m_J G M R Q nc ns pc' L st w) : m_J G M R Q nc ns pc L (vI y :: vI x :: st) w :=
  m_icmp_ge pc' tgt hd hp ht (fun h => kt ((iI_le hy hx).mp h)) (fun h => kf (Int.not_le.mp (fun e => h ((iI_le hy hx).mpr e))))
theorem i_if_ge (pc' tgt : Nat) {x off : Int} (hx : iR x) (hd : decode M.2.1 pc = .ok (.ifCond .ge off, 3)) (hp : pc + 3 = pc') (ht : (pc : Int) + off = (tgt : Int))
    (kt : 0 ≤ x → m_J G M R Q nc ns tgt L st w) (kf : x < 0 → m_J G M R Q nc ns pc' L st w) : m_J G M R Q nc ns pc L (vI x :: st) w :=
  m_if_ge pc' tgt hd hp ht (fun h => kt ((iI_le iR0 hx).mp h)) (fun h => kf (Int.not_le.mp (fun e => h ((iI_le iR0 hx).mpr e))))
theorem i_icmp_gt (pc' tgt : Nat) {x y off : Int} (hx : iR x) (hy : iR y) (hd : decode M.2.1 pc = .ok (.if_icmp .gt off, 3)) (hp : pc + 3 = pc') (ht : (pc : Int) + off = (tgt : Int))
    (kt : y < x → m_J G M R Q nc ns tgt L st w) (kf : x ≤ y → m_J G M R Q nc ns pc' L st w) : m_J G M R Q nc ns pc L (vI y :: vI x :: st) w :=
  m_icmp_gt pc' tgt hd hp ht (fun h => kt ((iI_lt hy hx).mp h)) (fun h => kf (Int.not_lt.mp (fun e => h ((iI_lt hy hx).mpr e))))
theorem i_if_gt (pc' tgt : Nat) {x off : Int} (hx : iR x) (hd : decode M.2.1 pc = .ok (.ifCond .gt off, 3)) (hp : pc + 3 = pc') (ht : (pc : Int) + off = (tgt : Int))
    (kt : 0 < x → m_J G M R Q nc ns tgt L st w) (kf : x ≤ 0 → m_J G M R Q nc ns pc' L st w) : m_J G M R Q nc ns pc L (vI x :: st) w :=
  m_if_gt pc' tgt hd hp ht (fun h => kt ((iI_lt iR0 hx).mp h)) (fun h => kf (Int.not_lt.mp (fun e => h ((iI_lt iR0 hx).mpr e))))
theorem i_icmp_le (pc' tgt : Nat) {x y off : Int} (hx : iR x) (hy : iR y) (hd : decode M.2.1 pc = .ok (.if_icmp .le off, 3)) (hp : pc + 3 = pc') (ht : (pc : Int) + off = (tgt : Int))
    (kt : x ≤ y → m_J G M R Q nc ns tgt L st w) (kf : y < x → m_J G M R Q nc ns pc' L st w) : m_J G M R Q nc ns pc L (vI y :: vI x :: st) w :=
  m_icmp_le pc' tgt hd hp ht (fun h => kt ((iI_le hx hy).mp h)) (fun h => kf (Int.not_le.mp (fun e => h ((iI_le hx hy).mpr e))))
theorem i_if_le (pc' tgt : Nat) {x off : Int} (hx : iR x) (hd : decode M.2.1 pc = .ok (.ifCond .le off, 3)) (hp : pc + 3 = pc') (ht : (pc : Int) + off = (tgt : Int))
    (kt : x ≤ 0 → m_J G M R Q nc ns tgt L st w) (kf : 0 < x → m_J G M R Q nc ns pc' L st w) : m_J G M R Q nc ns pc L (vI x :: st) w :=
  m_if_le pc' tgt hd hp ht (fun h => kt ((iI_le hx iR0).mp h)) (fun h => kf (Int.not_le.mp (fun e => h ((iI_le hx iR0).mpr e))))
theorem b_if_eq (pc' tgt : Nat) {b : Bool} {off : Int} (hd : decode M.2.1 pc = .ok (.ifCond .eq off, 3)) (hp : pc + 3 = pc') (ht : (pc : Int) + off = (tgt : Int))
    (kt : b = false → m_J G M R Q nc ns tgt L st w) (kf : b = true → m_J G M R Q nc ns pc' L st w) : m_J G M R Q nc ns pc L (vB b :: st) w :=
  m_if_eq pc' tgt hd hp ht (fun h => kt (bi_eq0.mp h)) (fun h => kf (by cases b with | true => rfl | false => exact absurd rfl h))
theorem b_if_ne (pc' tgt : Nat) {b : Bool} {off : Int} (hd : decode M.2.1 pc = .ok (.ifCond .ne off, 3)) (hp : pc + 3 = pc') (ht : (pc : Int) + off = (tgt : Int))
    (kt : b = true → m_J G M R Q nc ns tgt L st w) (kf : b = false → m_J G M R Q nc ns pc' L st w) : m_J G M R Q nc ns pc L (vB b :: st) w :=
  m_if_ne pc' tgt hd hp ht (fun h => kt (by cases b with | true => rfl | false => exact absurd rfl h)) (fun h => kf (bi_eq0.mp h))
theorem b_icmp_eq (pc' tgt : Nat) {a b : Bool} {off : Int} (hd : decode M.2.1 pc = .ok (.if_icmp .eq off, 3)) (hp : pc + 3 = pc') (ht : (pc : Int) + off = (tgt : Int))
    (kt : a = b → m_J G M R Q nc ns tgt L st w) (kf : a ≠ b → m_J G M R Q nc ns pc' L st w) : m_J G M R Q nc ns pc L (vB b :: vB a :: st) w :=
  m_icmp_eq pc' tgt hd hp ht (fun h => kt (bi_inj.mp h)) (fun h => kf (fun e => h (bi_inj.mpr e)))
theorem b_icmp_ne (pc' tgt : Nat) {a b : Bool} {off : Int} (hd : decode M.2.1 pc = .ok (.if_icmp .ne off, 3)) (hp : pc + 3 = pc') (ht : (pc : Int) + off = (tgt : Int))
    (kt : a ≠ b → m_J G M R Q nc ns tgt L st w) (kf : a = b → m_J G M R Q nc ns pc' L st w) : m_J G M R Q nc ns pc L (vB b :: vB a :: st) w :=
  m_icmp_ne pc' tgt hd hp ht (fun h => kt (fun e => h (bi_inj.mpr e))) (fun h => kf (bi_inj.mp h))
end IJ
end
section
/-! Row and Frame -/
section RF
variable {G : mG} {w : List mC}
/-- place z of n -/
def inB (z : Int) (n : Int) : Bool := decide (0 ≤ z) && decide (z < n)
theorem inB_t {z n : Int} : inB z n = true ↔ 0 ≤ z ∧ z < n := by unfold inB; simp
theorem inB_f {z n : Int} : inB z n = false ↔ ¬ (0 ≤ z ∧ z < n) := by rw [← inB_t]; cases inB z n <;> simp
theorem inB_1 {z n : Int} (h : 0 ≤ z ∧ z < n) : inB z n = true := inB_t.mpr h
theorem inB_0 {z n : Int} (h : ¬ (0 ≤ z ∧ z < n)) : inB z n = false := inB_f.mpr h
/-- a row of numbers: its object at i, its cells at c -/
abbrev oRow (c : Nat) (f : Int) : mC := mO 3 [.ref c, vI f]

set_option maxHeartbeats 4000000 in
set_option maxRecDepth 100000 in
theorem c_X3_length (hG : m_G G) (d : Nat) {i c : Nat} {f : Int} (h1 : w[i]? = some (oRow c f)) : m_Cv G MX3_length (m_r d 0 0) [.ref i] w (some (vI f)) w := by
  refine m_enter (L := [some (.ref i)]) (by decide) hG (m_c1 rfl) (Nat.le_of_ble_eq_true rfl) rfl ?_
  refine m_aload_n 1 dX3_length_0 rfl rfl ?_
  refine m_getf 4 foX3_15 dX3_length_1 rfl (by first | rfl | assumption) (by rfl) ?_
  refine i_ret _ dX3_length_4 rfl ⟨Nat.le_refl _, Nat.le_refl _⟩ ?_ ⟨rfl, rfl⟩
  rfl
/-- what a row holds at z, -1 where nothing stands -/
def rAt (n : Nat) (f : Int) (g : Nat → Int) (z : Int) : Int := if 0 ≤ z ∧ z < f ∧ z < n then g z.toNat else -1
set_option maxHeartbeats 4000000 in
set_option maxRecDepth 100000 in
theorem c_X3_at (hG : m_G G) (d : Nat) {i c n : Nat} {f z : Int} {g : Nat → Int} (h1 : w[i]? = some (oRow c f)) (h2 : w[c]? = some (cI n g)) (hf : iR f) (hz : iR z) (hn : n < 2147483648) : m_Cv G MX3_at (m_r d 0 0) [.ref i, vI z] w (some (vI (rAt n f g z))) w := by
  obtain ⟨hf1, hf2⟩ := hf
  obtain ⟨hz1, hz2⟩ := hz
  refine m_enter (L := [some (.ref i), some (vI z)]) (by decide) hG (m_c1 rfl) (Nat.le_of_ble_eq_true rfl) rfl ?_
  refine m_iload_n 1 dX3_at_0 rfl rfl ?_
  refine i_if_lt 4 30 ⟨by omega, by omega⟩ dX3_at_1 rfl (by decide) (fun q1 => ?_) (fun q1 => ?_)
  · refine i_const 31 dX3_at_30 rfl ?_
    refine i_ret _ dX3_at_31 rfl ⟨Nat.le_refl _, Nat.le_refl _⟩ ?_ ⟨rfl, rfl⟩
    unfold rAt; split
    · first | rfl | omega
    · first | rfl | omega
  · refine m_iload_n 5 dX3_at_4 rfl rfl ?_
    refine m_aload_n 6 dX3_at_5 rfl rfl ?_
    refine m_getf 9 foX3_15 dX3_at_6 rfl (by first | rfl | assumption) (by rfl) ?_
    refine i_icmp_ge 12 30 ⟨by omega, by omega⟩ ⟨by omega, by omega⟩ dX3_at_9 rfl (by decide) (fun q9 => ?_) (fun q9 => ?_)
    · refine i_const 31 dX3_at_30 rfl ?_
      refine i_ret _ dX3_at_31 rfl ⟨Nat.le_refl _, Nat.le_refl _⟩ ?_ ⟨rfl, rfl⟩
      unfold rAt; split
      · first | rfl | omega
      · first | rfl | omega
    · refine m_iload_n 13 dX3_at_12 rfl rfl ?_
      refine m_aload_n 14 dX3_at_13 rfl rfl ?_
      refine m_getf 17 foX3_9 dX3_at_14 rfl (by first | rfl | assumption) (by rfl) ?_
      refine i_len 18 dX3_at_17 rfl (by first | rfl | assumption) ?_
      refine i_icmp_ge 21 30 ⟨by omega, by omega⟩ ⟨by omega, by omega⟩ dX3_at_18 rfl (by decide) (fun q18 => ?_) (fun q18 => ?_)
      · refine i_const 31 dX3_at_30 rfl ?_
        refine i_ret _ dX3_at_31 rfl ⟨Nat.le_refl _, Nat.le_refl _⟩ ?_ ⟨rfl, rfl⟩
        unfold rAt; split
        · first | rfl | omega
        · first | rfl | omega
      · refine m_aload_n 22 dX3_at_21 rfl rfl ?_
        refine m_getf 25 foX3_9 dX3_at_22 rfl (by first | rfl | assumption) (by rfl) ?_
        refine m_iload_n 26 dX3_at_25 rfl rfl ?_
        refine i_ald 27 dX3_at_26 rfl (by first | rfl | assumption) ⟨by omega, by omega, by omega⟩ ?_
        refine m_goto 31 dX3_at_27 (by decide) ?_
        refine i_ret _ dX3_at_31 rfl ⟨Nat.le_refl _, Nat.le_refl _⟩ ?_ ⟨rfl, rfl⟩
        unfold rAt; split
        · first | rfl | omega
        · first | rfl | omega
set_option maxHeartbeats 4000000 in
set_option maxRecDepth 100000 in
theorem c_X3_clear (hG : m_G G) (d : Nat) {i c : Nat} {f : Int} (h1 : w[i + 1]? = some (oRow c f)) : m_Cv G MX3_clear (m_r d 0 0) [.ref (i + 1)] w none (w.set (i + 1) (oRow c 0)) := by
  refine m_enter (L := [some (.ref (i + 1))]) (by decide) hG (m_c1 rfl) (Nat.le_of_ble_eq_true rfl) rfl ?_
  refine m_aload_n 1 dX3_clear_0 rfl rfl ?_
  refine i_const 2 dX3_clear_1 rfl ?_
  refine m_putf 5 tyX3 rfl tyX3_ok nmX3 (Or.inl rfl) foX3_15 dX3_clear_2 rfl (by first | rfl | assumption) (Nat.le_of_ble_eq_true rfl) (Or.inl ⟨rfl, _, rfl⟩) ?_
  refine m_vret dX3_clear_5 rfl ⟨Nat.le_refl _, Nat.le_refl _⟩ ?_
  exact ⟨rfl, rfl⟩
set_option maxHeartbeats 4000000 in
set_option maxRecDepth 100000 in
theorem c_X3_put (hG : m_G G) (d : Nat) {i c n : Nat} {f z : Int} {g : Nat → Int} (h1 : w[i + 1]? = some (oRow (c + 1) f)) (h2 : w[c + 1]? = some (cI n g)) (hic : i ≠ c) (hf : 0 ≤ f ∧ f < n) (hn : n < 2147483647) : m_Cv G MX3_put (m_r d 0 0) [.ref (i + 1), vI z] w (some (vB true)) ((w.set (c + 1) (cI n (up g f.toNat z))).set (i + 1) (oRow (c + 1) (f + 1))) := by
  have h3 : (w.set (c + 1) (cI n (up g f.toNat z)))[i + 1]? = some (oRow (c + 1) f) := by rw [List.getElem?_set_ne (by omega)]; exact h1
  refine m_enter (L := [some (.ref (i + 1)), some (vI z)]) (by decide) hG (m_c1 rfl) (Nat.le_of_ble_eq_true rfl) rfl ?_
  refine m_aload_n 1 dX3_put_0 rfl rfl ?_
  refine m_getf 4 foX3_15 dX3_put_1 rfl (by first | rfl | assumption) (by rfl) ?_
  refine i_if_lt 7 19 ⟨by omega, by omega⟩ dX3_put_4 rfl (by decide) (fun h => absurd h (by omega)) (fun _ => ?_)
  refine m_aload_n 8 dX3_put_7 rfl rfl ?_
  refine m_getf 11 foX3_15 dX3_put_8 rfl (by first | rfl | assumption) (by rfl) ?_
  refine m_aload_n 12 dX3_put_11 rfl rfl ?_
  refine m_getf 15 foX3_9 dX3_put_12 rfl (by first | rfl | assumption) (by rfl) ?_
  refine i_len 16 dX3_put_15 rfl (by first | rfl | assumption) ?_
  refine i_icmp_lt 19 21 ⟨by omega, by omega⟩ ⟨by omega, by omega⟩ dX3_put_16 rfl (by decide) (fun _ => ?_) (fun h => absurd h (by omega))
  refine m_aload_n 22 dX3_put_21 rfl rfl ?_
  refine m_getf 25 foX3_9 dX3_put_22 rfl (by first | rfl | assumption) (by rfl) ?_
  refine m_aload_n 26 dX3_put_25 rfl rfl ?_
  refine m_getf 29 foX3_15 dX3_put_26 rfl (by first | rfl | assumption) (by rfl) ?_
  refine m_iload_n 30 dX3_put_29 rfl rfl ?_
  refine i_ast 31 dX3_put_30 rfl (by first | rfl | assumption) ⟨by omega, by omega, by omega⟩ ?_
  refine m_aload_n 32 dX3_put_31 rfl rfl ?_
  refine m_dup 33 dX3_put_32 rfl rfl ?_
  refine m_getf 36 foX3_15 dX3_put_33 rfl (by first | rfl | assumption) (by rfl) ?_
  refine i_const 37 dX3_put_36 rfl ?_
  refine i_add 38 dX3_put_37 rfl ?_
  refine m_putf 41 tyX3 rfl tyX3_ok nmX3 (Or.inl rfl) foX3_15 dX3_put_38 rfl (by first | rfl | assumption) (Nat.le_of_ble_eq_true rfl) (Or.inl ⟨rfl, _, rfl⟩) ?_
  refine i_const 42 dX3_put_41 rfl ?_
  refine i_retB _ dX3_put_42 rfl ⟨Nat.le_refl _, Nat.le_refl _⟩ ?_ ⟨rfl, rfl⟩
  refine i_eq1 ?_
  rfl
set_option maxHeartbeats 4000000 in
set_option maxRecDepth 100000 in
theorem c_X3_putF (hG : m_G G) (d : Nat) {i c n : Nat} {f z : Int} {g : Nat → Int} (h1 : w[i]? = some (oRow c f)) (h2 : w[c]? = some (cI n g)) (hf : (n : Int) ≤ f) (hr : iR f) (hn : n < 2147483647) : m_Cv G MX3_put (m_r d 0 0) [.ref i, vI z] w (some (vB false)) w := by
  obtain ⟨hr1, hr2⟩ := hr
  refine m_enter (L := [some (.ref i), some (vI z)]) (by decide) hG (m_c1 rfl) (Nat.le_of_ble_eq_true rfl) rfl ?_
  refine m_aload_n 1 dX3_put_0 rfl rfl ?_
  refine m_getf 4 foX3_15 dX3_put_1 rfl (by first | rfl | assumption) (by rfl) ?_
  refine i_if_lt 7 19 ⟨by omega, by omega⟩ dX3_put_4 rfl (by decide) (fun h => absurd h (by omega)) (fun _ => ?_)
  refine m_aload_n 8 dX3_put_7 rfl rfl ?_
  refine m_getf 11 foX3_15 dX3_put_8 rfl (by first | rfl | assumption) (by rfl) ?_
  refine m_aload_n 12 dX3_put_11 rfl rfl ?_
  refine m_getf 15 foX3_9 dX3_put_12 rfl (by first | rfl | assumption) (by rfl) ?_
  refine i_len 16 dX3_put_15 rfl (by first | rfl | assumption) ?_
  refine i_icmp_lt 19 21 ⟨by omega, by omega⟩ ⟨by omega, by omega⟩ dX3_put_16 rfl (by decide) (fun h => absurd h (by omega)) (fun _ => ?_)
  refine i_const 20 dX3_put_19 rfl ?_
  refine i_retB _ dX3_put_20 rfl ⟨Nat.le_refl _, Nat.le_refl _⟩ ?_ ⟨rfl, rfl⟩
  refine i_eq0 ?_
  rfl
end RF
end
section
/-! Frame: where places lie -/
section FR
variable {G : mG} {w : List mC}
def plA (W H x y : Int) : Int := if 0 ≤ x ∧ x < W ∧ 0 ≤ y ∧ y < H then W * y + x else -1
def sqS (W H x y s : Int) : Int := if s = 0 then plA W H x (y - 1) else if s = 1 then plA W H (x + 1) y else if s = 2 then plA W H x (y + 1) else if s = 3 then plA W H (x - 1) y else -1
def hxS (W H x y s : Int) : Int := if s = 0 then plA W H (x + y % 2) (y - 1) else if s = 1 then plA W H (x + 1) y else if s = 2 then plA W H (x + y % 2) (y + 1) else if s = 3 then plA W H (x + y % 2 - 1) (y + 1) else if s = 4 then plA W H (x - 1) y else if s = 5 then plA W H (x + y % 2 - 1) (y - 1) else -1
def trS (W H x y s : Int) : Int := if s = 0 then plA W H (x - 1) y else if s = 1 then plA W H (x + 1) y else if s = 2 then plA W H x (if (x + y) % 2 = 0 then y + 1 else y - 1) else -1
def rgS (W H x y s : Int) : Int := if s = 0 then plA W H x (y - 1) else if s = 1 then (if W < 2 then -1 else plA W H (if x = W - 1 then 0 else x + 1) y) else if s = 2 then plA W H x (y + 1) else if s = 3 then (if W < 3 then -1 else plA W H (if x = 0 then W - 1 else x - 1) y) else -1
/-- the place that lies beside (x, y) in direction s, -1 where none does -/
def stp (k W H x y s : Int) : Int := if k = 0 then sqS W H x y s else if k = 1 then hxS W H x y s else if k = 2 then trS W H x y s else if k = 3 then rgS W H x y s else -1
abbrev oFrame (k W H n : Int) : mC := mO 1 [vI k, vI W, vI H, vI n, .ref 3, .ref 4]
/-- the frame's own numbers -/
def fOK (k W H : Int) (n : Nat) : Prop := 0 ≤ k ∧ k ≤ 4 ∧ 1 ≤ W ∧ W ≤ 16 ∧ 1 ≤ H ∧ H ≤ 16 ∧ (n : Int) = W * H ∧ (k = 4 → H = 1)
theorem fOK.n {k W H : Int} {n : Nat} (h : fOK k W H n) : 1 ≤ n ∧ n ≤ 256 := by
  obtain ⟨-, -, h1, h2, h3, h4, h5, -⟩ := h
  have a : W * H ≤ 16 * 16 := Int.mul_le_mul h2 h4 (by omega) (by omega)
  have b : 1 * 1 ≤ W * H := Int.mul_le_mul h1 h3 (by omega) (by omega)
  omega

set_option maxHeartbeats 4000000 in
set_option maxRecDepth 100000 in
theorem c_X1_has (hG : m_G G) (d : Nat) {k W H z : Int} {n : Nat} (h2 : w[2]? = some (oFrame k W H n)) (hF : fOK k W H n) (hz : iR z) : m_Cv G MX1_has (m_r d 0 0) [.ref 2, vI z] w (some (vB (inB z n))) w := by
  have hnb := hF.n
  obtain ⟨hk0, hk4, hW1, hW2, hH1, hH2, hn, hg4⟩ := hF
  obtain ⟨hz1, hz2⟩ := hz
  refine m_enter (L := [some (.ref 2), some (vI z)]) (by decide) hG (m_c1 rfl) (Nat.le_of_ble_eq_true rfl) rfl ?_
  refine m_iload_n 1 dX1_has_0 rfl rfl ?_
  refine i_if_lt 4 16 ⟨by omega, by omega⟩ dX1_has_1 rfl (by decide) (fun q1 => ?_) (fun q1 => ?_)
  · refine i_const 17 dX1_has_16 rfl ?_
    refine i_retB _ dX1_has_17 rfl ⟨Nat.le_refl _, Nat.le_refl _⟩ ?_ ⟨rfl, rfl⟩
    refine i_eq0 ?_
    exact inB_0 (by omega)
  · refine m_iload_n 5 dX1_has_4 rfl rfl ?_
    refine m_aload_n 6 dX1_has_5 rfl rfl ?_
    refine m_getf 9 foX1_25 dX1_has_6 rfl (by first | rfl | assumption) (by rfl) ?_
    refine i_icmp_ge 12 16 ⟨by omega, by omega⟩ ⟨by omega, by omega⟩ dX1_has_9 rfl (by decide) (fun q9 => ?_) (fun q9 => ?_)
    · refine i_const 17 dX1_has_16 rfl ?_
      refine i_retB _ dX1_has_17 rfl ⟨Nat.le_refl _, Nat.le_refl _⟩ ?_ ⟨rfl, rfl⟩
      refine i_eq0 ?_
      exact inB_0 (by omega)
    · refine i_const 13 dX1_has_12 rfl ?_
      refine m_goto 17 dX1_has_13 (by decide) ?_
      refine i_retB _ dX1_has_17 rfl ⟨Nat.le_refl _, Nat.le_refl _⟩ ?_ ⟨rfl, rfl⟩
      refine i_eq1 ?_
      exact inB_1 (by omega)
set_option maxHeartbeats 4000000 in
set_option maxRecDepth 100000 in
theorem c_X1_columnOf (hG : m_G G) (d : Nat) {k W H z : Int} {n : Nat} {col : Nat → Int} (h2 : w[2]? = some (oFrame k W H n)) (hF : fOK k W H n) (h3 : w[3]? = some (cI n col)) (hz : 0 ≤ z ∧ z < n) : m_Cv G MX1_columnOf (m_r (d + 1) 0 0) [.ref 2, vI z] w (some (vI (col z.toNat))) w := by
  have hFF := hF
  have hnb := hF.n
  obtain ⟨hk0, hk4, hW1, hW2, hH1, hH2, hn, hg4⟩ := hF
  refine m_enter (L := [some (.ref 2), some (vI z)]) (by decide) hG (m_c1 rfl) (Nat.le_of_ble_eq_true rfl) rfl ?_
  refine m_aload_n 1 dX1_columnOf_0 rfl rfl ?_
  refine m_iload_n 2 dX1_columnOf_1 rfl rfl ?_
  refine m_cV (M' := MX1_has) 5 [_] kX1_35 imX1_has seX1_has clX1_has dX1_columnOf_2 rfl rfl rfl (by first | rfl | assumption) (m_rmI (by omega) (Nat.le_of_ble_eq_true rfl) (Nat.le_refl _) (Nat.le_refl _)) (c_X1_has hG d h2 hFF ⟨by omega, by omega⟩) ?_
  refine b_if_eq 8 17 dX1_columnOf_5 rfl (by decide) (fun h => absurd h (by rw [inB_1 hz]; decide)) (fun _ => ?_)
  refine m_aload_n 9 dX1_columnOf_8 rfl rfl ?_
  refine m_getf 12 foX1_28 dX1_columnOf_9 rfl (by first | rfl | assumption) (by rfl) ?_
  refine m_iload_n 13 dX1_columnOf_12 rfl rfl ?_
  refine i_ald 14 dX1_columnOf_13 rfl (by first | rfl | assumption) ⟨by omega, by omega, by omega⟩ ?_
  refine m_goto 18 dX1_columnOf_14 (by decide) ?_
  refine i_ret _ dX1_columnOf_18 rfl ⟨Nat.le_refl _, Nat.le_refl _⟩ ?_ ⟨rfl, rfl⟩
  rfl
set_option maxHeartbeats 4000000 in
set_option maxRecDepth 100000 in
theorem c_X1_columnOfN (hG : m_G G) (d : Nat) {k W H z : Int} {n : Nat} (h2 : w[2]? = some (oFrame k W H n)) (hF : fOK k W H n) (hz : ¬ (0 ≤ z ∧ z < n)) (hr : iR z) : m_Cv G MX1_columnOf (m_r (d + 1) 0 0) [.ref 2, vI z] w (some (vI (-1))) w := by
  refine m_enter (L := [some (.ref 2), some (vI z)]) (by decide) hG (m_c1 rfl) (Nat.le_of_ble_eq_true rfl) rfl ?_
  refine m_aload_n 1 dX1_columnOf_0 rfl rfl ?_
  refine m_iload_n 2 dX1_columnOf_1 rfl rfl ?_
  refine m_cV (M' := MX1_has) 5 [_] kX1_35 imX1_has seX1_has clX1_has dX1_columnOf_2 rfl rfl rfl (by first | rfl | assumption) (m_rmI (by omega) (Nat.le_of_ble_eq_true rfl) (Nat.le_refl _) (Nat.le_refl _)) (c_X1_has hG d h2 hF hr) ?_
  refine b_if_eq 8 17 dX1_columnOf_5 rfl (by decide) (fun _ => ?_) (fun h => absurd h (by rw [inB_0 hz]; decide))
  refine i_const 18 dX1_columnOf_17 rfl ?_
  refine i_ret _ dX1_columnOf_18 rfl ⟨Nat.le_refl _, Nat.le_refl _⟩ ?_ ⟨rfl, rfl⟩
  rfl
set_option maxHeartbeats 4000000 in
set_option maxRecDepth 100000 in
theorem c_X1_rowOf (hG : m_G G) (d : Nat) {k W H z : Int} {n : Nat} {row : Nat → Int} (h2 : w[2]? = some (oFrame k W H n)) (hF : fOK k W H n) (h3 : w[4]? = some (cI n row)) (hz : 0 ≤ z ∧ z < n) : m_Cv G MX1_rowOf (m_r (d + 1) 0 0) [.ref 2, vI z] w (some (vI (row z.toNat))) w := by
  have hFF := hF
  have hnb := hF.n
  obtain ⟨hk0, hk4, hW1, hW2, hH1, hH2, hn, hg4⟩ := hF
  refine m_enter (L := [some (.ref 2), some (vI z)]) (by decide) hG (m_c1 rfl) (Nat.le_of_ble_eq_true rfl) rfl ?_
  refine m_aload_n 1 dX1_rowOf_0 rfl rfl ?_
  refine m_iload_n 2 dX1_rowOf_1 rfl rfl ?_
  refine m_cV (M' := MX1_has) 5 [_] kX1_35 imX1_has seX1_has clX1_has dX1_rowOf_2 rfl rfl rfl (by first | rfl | assumption) (m_rmI (by omega) (Nat.le_of_ble_eq_true rfl) (Nat.le_refl _) (Nat.le_refl _)) (c_X1_has hG d h2 hFF ⟨by omega, by omega⟩) ?_
  refine b_if_eq 8 17 dX1_rowOf_5 rfl (by decide) (fun h => absurd h (by rw [inB_1 hz]; decide)) (fun _ => ?_)
  refine m_aload_n 9 dX1_rowOf_8 rfl rfl ?_
  refine m_getf 12 foX1_32 dX1_rowOf_9 rfl (by first | rfl | assumption) (by rfl) ?_
  refine m_iload_n 13 dX1_rowOf_12 rfl rfl ?_
  refine i_ald 14 dX1_rowOf_13 rfl (by first | rfl | assumption) ⟨by omega, by omega, by omega⟩ ?_
  refine m_goto 18 dX1_rowOf_14 (by decide) ?_
  refine i_ret _ dX1_rowOf_18 rfl ⟨Nat.le_refl _, Nat.le_refl _⟩ ?_ ⟨rfl, rfl⟩
  rfl
set_option maxHeartbeats 4000000 in
set_option maxRecDepth 100000 in
theorem c_X1_rowOfN (hG : m_G G) (d : Nat) {k W H z : Int} {n : Nat} (h2 : w[2]? = some (oFrame k W H n)) (hF : fOK k W H n) (hz : ¬ (0 ≤ z ∧ z < n)) (hr : iR z) : m_Cv G MX1_rowOf (m_r (d + 1) 0 0) [.ref 2, vI z] w (some (vI (-1))) w := by
  refine m_enter (L := [some (.ref 2), some (vI z)]) (by decide) hG (m_c1 rfl) (Nat.le_of_ble_eq_true rfl) rfl ?_
  refine m_aload_n 1 dX1_rowOf_0 rfl rfl ?_
  refine m_iload_n 2 dX1_rowOf_1 rfl rfl ?_
  refine m_cV (M' := MX1_has) 5 [_] kX1_35 imX1_has seX1_has clX1_has dX1_rowOf_2 rfl rfl rfl (by first | rfl | assumption) (m_rmI (by omega) (Nat.le_of_ble_eq_true rfl) (Nat.le_refl _) (Nat.le_refl _)) (c_X1_has hG d h2 hF hr) ?_
  refine b_if_eq 8 17 dX1_rowOf_5 rfl (by decide) (fun _ => ?_) (fun h => absurd h (by rw [inB_0 hz]; decide))
  refine i_const 18 dX1_rowOf_17 rfl ?_
  refine i_ret _ dX1_rowOf_18 rfl ⟨Nat.le_refl _, Nat.le_refl _⟩ ?_ ⟨rfl, rfl⟩
  rfl
set_option maxHeartbeats 4000000 in
set_option maxRecDepth 100000 in
theorem c_X1_placeAt (hG : m_G G) (d : Nat) {k W H x y : Int} {n : Nat} (h2 : w[2]? = some (oFrame k W H n)) (hF : fOK k W H n) (hx : iR x) (hy : iR y) : m_Cv G MX1_placeAt (m_r d 0 0) [.ref 2, vI x, vI y] w (some (vI (plA W H x y))) w := by
  have hnb := hF.n
  obtain ⟨hk0, hk4, hW1, hW2, hH1, hH2, hn, hg4⟩ := hF
  obtain ⟨hx1, hx2⟩ := hx
  obtain ⟨hy1, hy2⟩ := hy
  refine m_enter (L := [some (.ref 2), some (vI x), some (vI y), none]) (by decide) hG (m_c1 rfl) (Nat.le_of_ble_eq_true rfl) rfl ?_
  refine m_iload_n 1 dX1_placeAt_0 rfl rfl ?_
  refine i_if_lt 4 28 ⟨by omega, by omega⟩ dX1_placeAt_1 rfl (by decide) (fun q1 => ?_) (fun q1 => ?_)
  · refine i_const 29 dX1_placeAt_28 rfl ?_
    refine m_istore_n 30 dX1_placeAt_29 rfl (by decide) ?_
    refine m_iload_n 31 dX1_placeAt_30 rfl rfl ?_
    refine i_if_eq 34 45 ⟨by omega, by omega⟩ dX1_placeAt_31 rfl (by decide) (fun _ => ?_) (fun h => absurd h (by decide))
    refine i_const 46 dX1_placeAt_45 rfl ?_
    refine i_ret _ dX1_placeAt_46 rfl ⟨Nat.le_refl _, Nat.le_refl _⟩ ?_ ⟨rfl, rfl⟩
    unfold plA; split
    · first | rfl | omega
    · first | rfl | omega
  · refine m_iload_n 5 dX1_placeAt_4 rfl rfl ?_
    refine m_aload_n 6 dX1_placeAt_5 rfl rfl ?_
    refine m_getf 9 foX1_19 dX1_placeAt_6 rfl (by first | rfl | assumption) (by rfl) ?_
    refine i_icmp_ge 12 28 ⟨by omega, by omega⟩ ⟨by omega, by omega⟩ dX1_placeAt_9 rfl (by decide) (fun q9 => ?_) (fun q9 => ?_)
    · refine i_const 29 dX1_placeAt_28 rfl ?_
      refine m_istore_n 30 dX1_placeAt_29 rfl (by decide) ?_
      refine m_iload_n 31 dX1_placeAt_30 rfl rfl ?_
      refine i_if_eq 34 45 ⟨by omega, by omega⟩ dX1_placeAt_31 rfl (by decide) (fun _ => ?_) (fun h => absurd h (by decide))
      refine i_const 46 dX1_placeAt_45 rfl ?_
      refine i_ret _ dX1_placeAt_46 rfl ⟨Nat.le_refl _, Nat.le_refl _⟩ ?_ ⟨rfl, rfl⟩
      unfold plA; split
      · first | rfl | omega
      · first | rfl | omega
    · refine m_iload_n 13 dX1_placeAt_12 rfl rfl ?_
      refine i_if_lt 16 28 ⟨by omega, by omega⟩ dX1_placeAt_13 rfl (by decide) (fun q13 => ?_) (fun q13 => ?_)
      · refine i_const 29 dX1_placeAt_28 rfl ?_
        refine m_istore_n 30 dX1_placeAt_29 rfl (by decide) ?_
        refine m_iload_n 31 dX1_placeAt_30 rfl rfl ?_
        refine i_if_eq 34 45 ⟨by omega, by omega⟩ dX1_placeAt_31 rfl (by decide) (fun _ => ?_) (fun h => absurd h (by decide))
        refine i_const 46 dX1_placeAt_45 rfl ?_
        refine i_ret _ dX1_placeAt_46 rfl ⟨Nat.le_refl _, Nat.le_refl _⟩ ?_ ⟨rfl, rfl⟩
        unfold plA; split
        · first | rfl | omega
        · first | rfl | omega
      · refine m_iload_n 17 dX1_placeAt_16 rfl rfl ?_
        refine m_aload_n 18 dX1_placeAt_17 rfl rfl ?_
        refine m_getf 21 foX1_22 dX1_placeAt_18 rfl (by first | rfl | assumption) (by rfl) ?_
        refine i_icmp_ge 24 28 ⟨by omega, by omega⟩ ⟨by omega, by omega⟩ dX1_placeAt_21 rfl (by decide) (fun q21 => ?_) (fun q21 => ?_)
        · refine i_const 29 dX1_placeAt_28 rfl ?_
          refine m_istore_n 30 dX1_placeAt_29 rfl (by decide) ?_
          refine m_iload_n 31 dX1_placeAt_30 rfl rfl ?_
          refine i_if_eq 34 45 ⟨by omega, by omega⟩ dX1_placeAt_31 rfl (by decide) (fun _ => ?_) (fun h => absurd h (by decide))
          refine i_const 46 dX1_placeAt_45 rfl ?_
          refine i_ret _ dX1_placeAt_46 rfl ⟨Nat.le_refl _, Nat.le_refl _⟩ ?_ ⟨rfl, rfl⟩
          unfold plA; split
          · first | rfl | omega
          · first | rfl | omega
        · refine i_const 25 dX1_placeAt_24 rfl ?_
          refine m_goto 29 dX1_placeAt_25 (by decide) ?_
          refine m_istore_n 30 dX1_placeAt_29 rfl (by decide) ?_
          refine m_iload_n 31 dX1_placeAt_30 rfl rfl ?_
          refine i_if_eq 34 45 ⟨by omega, by omega⟩ dX1_placeAt_31 rfl (by decide) (fun h => absurd h (by decide)) (fun _ => ?_)
          refine m_aload_n 35 dX1_placeAt_34 rfl rfl ?_
          refine m_getf 38 foX1_19 dX1_placeAt_35 rfl (by first | rfl | assumption) (by rfl) ?_
          refine m_iload_n 39 dX1_placeAt_38 rfl rfl ?_
          refine i_mul 40 dX1_placeAt_39 rfl ?_
          refine m_iload_n 41 dX1_placeAt_40 rfl rfl ?_
          refine i_add 42 dX1_placeAt_41 rfl ?_
          refine m_goto 46 dX1_placeAt_42 (by decide) ?_
          refine i_ret _ dX1_placeAt_46 rfl ⟨Nat.le_refl _, Nat.le_refl _⟩ ?_ ⟨rfl, rfl⟩
          unfold plA; split
          · first | rfl | omega
          · first | rfl | omega
/-- how many slots, how many directions -/
def slN (k : Int) (n : Nat) : Nat := if k = 1 then 6 else if k = 2 then 3 else if k = 4 then n else 4
def dirN (k : Int) : Int := if k = 1 then 6 else if k = 2 then 2 else if k = 4 then 0 else 4
set_option maxHeartbeats 4000000 in
set_option maxRecDepth 100000 in
theorem c_X1_slots (hG : m_G G) (d : Nat) {k W H : Int} {n : Nat} (h2 : w[2]? = some (oFrame k W H n)) (hF : fOK k W H n) : m_Cv G MX1_slots (m_r d 0 0) [.ref 2] w (some (vI (slN k n))) w := by
  have hnb := hF.n
  obtain ⟨hk0, hk4, hW1, hW2, hH1, hH2, hn, hg4⟩ := hF
  refine m_enter (L := [some (.ref 2)]) (by decide) hG (m_c1 rfl) (Nat.le_of_ble_eq_true rfl) rfl ?_
  rcases (by omega : k = 0 ∨ k = 1 ∨ k = 2 ∨ k = 3 ∨ k = 4) with rfl | rfl | rfl | rfl | rfl
  · refine m_aload_n 1 dX1_slots_0 rfl rfl ?_
    refine m_getf 4 foX1_13 dX1_slots_1 rfl (by first | rfl | assumption) (by rfl) ?_
    refine i_tableOut 46 ⟨by omega, by omega⟩ dX1_slots_4 (by decide) (by decide) ?_
    refine i_const 47 dX1_slots_46 rfl ?_
    refine i_ret _ dX1_slots_47 rfl ⟨Nat.le_refl _, Nat.le_refl _⟩ ?_ ⟨rfl, rfl⟩
    rfl
  · refine m_aload_n 1 dX1_slots_0 rfl rfl ?_
    refine m_getf 4 foX1_13 dX1_slots_1 rfl (by first | rfl | assumption) (by rfl) ?_
    refine i_tableIn 36 ⟨by omega, by omega⟩ dX1_slots_4 (by decide) (by decide) rfl (by decide) ?_
    refine i_bipush 38 6 dX1_slots_36 rfl (by decide) ?_
    refine i_ret _ dX1_slots_38 rfl ⟨Nat.le_refl _, Nat.le_refl _⟩ ?_ ⟨rfl, rfl⟩
    rfl
  · refine m_aload_n 1 dX1_slots_0 rfl rfl ?_
    refine m_getf 4 foX1_13 dX1_slots_1 rfl (by first | rfl | assumption) (by rfl) ?_
    refine i_tableIn 39 ⟨by omega, by omega⟩ dX1_slots_4 (by decide) (by decide) rfl (by decide) ?_
    refine i_const 40 dX1_slots_39 rfl ?_
    refine i_ret _ dX1_slots_40 rfl ⟨Nat.le_refl _, Nat.le_refl _⟩ ?_ ⟨rfl, rfl⟩
    rfl
  · refine m_aload_n 1 dX1_slots_0 rfl rfl ?_
    refine m_getf 4 foX1_13 dX1_slots_1 rfl (by first | rfl | assumption) (by rfl) ?_
    refine i_tableIn 46 ⟨by omega, by omega⟩ dX1_slots_4 (by decide) (by decide) rfl (by decide) ?_
    refine i_const 47 dX1_slots_46 rfl ?_
    refine i_ret _ dX1_slots_47 rfl ⟨Nat.le_refl _, Nat.le_refl _⟩ ?_ ⟨rfl, rfl⟩
    rfl
  · refine m_aload_n 1 dX1_slots_0 rfl rfl ?_
    refine m_getf 4 foX1_13 dX1_slots_1 rfl (by first | rfl | assumption) (by rfl) ?_
    refine i_tableIn 41 ⟨by omega, by omega⟩ dX1_slots_4 (by decide) (by decide) rfl (by decide) ?_
    refine m_aload_n 42 dX1_slots_41 rfl rfl ?_
    refine m_getf 45 foX1_25 dX1_slots_42 rfl (by first | rfl | assumption) (by rfl) ?_
    refine i_ret _ dX1_slots_45 rfl ⟨Nat.le_refl _, Nat.le_refl _⟩ ?_ ⟨rfl, rfl⟩
    rfl
set_option maxHeartbeats 4000000 in
set_option maxRecDepth 100000 in
theorem c_X1_directions (hG : m_G G) (d : Nat) {k W H : Int} {n : Nat} (h2 : w[2]? = some (oFrame k W H n)) (hF : fOK k W H n) : m_Cv G MX1_directions (m_r d 0 0) [.ref 2] w (some (vI (dirN k))) w := by
  have hnb := hF.n
  obtain ⟨hk0, hk4, hW1, hW2, hH1, hH2, hn, hg4⟩ := hF
  refine m_enter (L := [some (.ref 2)]) (by decide) hG (m_c1 rfl) (Nat.le_of_ble_eq_true rfl) rfl ?_
  rcases (by omega : k = 0 ∨ k = 1 ∨ k = 2 ∨ k = 3 ∨ k = 4) with rfl | rfl | rfl | rfl | rfl
  · refine m_aload_n 1 dX1_directions_0 rfl rfl ?_
    refine m_getf 4 foX1_13 dX1_directions_1 rfl (by first | rfl | assumption) (by rfl) ?_
    refine i_tableOut 43 ⟨by omega, by omega⟩ dX1_directions_4 (by decide) (by decide) ?_
    refine i_const 44 dX1_directions_43 rfl ?_
    refine i_ret _ dX1_directions_44 rfl ⟨Nat.le_refl _, Nat.le_refl _⟩ ?_ ⟨rfl, rfl⟩
    rfl
  · refine m_aload_n 1 dX1_directions_0 rfl rfl ?_
    refine m_getf 4 foX1_13 dX1_directions_1 rfl (by first | rfl | assumption) (by rfl) ?_
    refine i_tableIn 36 ⟨by omega, by omega⟩ dX1_directions_4 (by decide) (by decide) rfl (by decide) ?_
    refine i_bipush 38 6 dX1_directions_36 rfl (by decide) ?_
    refine i_ret _ dX1_directions_38 rfl ⟨Nat.le_refl _, Nat.le_refl _⟩ ?_ ⟨rfl, rfl⟩
    rfl
  · refine m_aload_n 1 dX1_directions_0 rfl rfl ?_
    refine m_getf 4 foX1_13 dX1_directions_1 rfl (by first | rfl | assumption) (by rfl) ?_
    refine i_tableIn 39 ⟨by omega, by omega⟩ dX1_directions_4 (by decide) (by decide) rfl (by decide) ?_
    refine i_const 40 dX1_directions_39 rfl ?_
    refine i_ret _ dX1_directions_40 rfl ⟨Nat.le_refl _, Nat.le_refl _⟩ ?_ ⟨rfl, rfl⟩
    rfl
  · refine m_aload_n 1 dX1_directions_0 rfl rfl ?_
    refine m_getf 4 foX1_13 dX1_directions_1 rfl (by first | rfl | assumption) (by rfl) ?_
    refine i_tableIn 43 ⟨by omega, by omega⟩ dX1_directions_4 (by decide) (by decide) rfl (by decide) ?_
    refine i_const 44 dX1_directions_43 rfl ?_
    refine i_ret _ dX1_directions_44 rfl ⟨Nat.le_refl _, Nat.le_refl _⟩ ?_ ⟨rfl, rfl⟩
    rfl
  · refine m_aload_n 1 dX1_directions_0 rfl rfl ?_
    refine m_getf 4 foX1_13 dX1_directions_1 rfl (by first | rfl | assumption) (by rfl) ?_
    refine i_tableIn 41 ⟨by omega, by omega⟩ dX1_directions_4 (by decide) (by decide) rfl (by decide) ?_
    refine i_const 42 dX1_directions_41 rfl ?_
    refine i_ret _ dX1_directions_42 rfl ⟨Nat.le_refl _, Nat.le_refl _⟩ ?_ ⟨rfl, rfl⟩
    rfl
set_option maxHeartbeats 4000000 in
set_option maxRecDepth 100000 in
theorem c_X1_besideInSquares (hG : m_G G) (d : Nat) {k W H x y s : Int} {n : Nat} (h2 : w[2]? = some (oFrame k W H n)) (hF : fOK k W H n) (hxy : 0 ≤ x ∧ x < W ∧ 0 ≤ y ∧ y < H) (hs : 0 ≤ s ∧ s < 256) : m_Cv G MX1_besideInSquares (m_r (d + 1) 0 0) [.ref 2, vI x, vI y, vI s] w (some (vI (sqS W H x y s))) w := by
  have hFF := hF
  have hnb := hF.n
  obtain ⟨hk0, hk4, hW1, hW2, hH1, hH2, hn, hg4⟩ := hF
  refine m_enter (L := [some (.ref 2), some (vI x), some (vI y), some (vI s)]) (by decide) hG (m_c1 rfl) (Nat.le_of_ble_eq_true rfl) rfl ?_
  rcases (by omega : s = 0 ∨ s = 1 ∨ s = 2 ∨ s = 3 ∨ 3 < s) with rfl | rfl | rfl | rfl | hso
  · refine m_iload_n 1 dX1_besideInSquares_0 rfl rfl ?_
    refine i_tableIn 32 ⟨by omega, by omega⟩ dX1_besideInSquares_1 (by decide) (by decide) rfl (by decide) ?_
    refine m_aload_n 33 dX1_besideInSquares_32 rfl rfl ?_
    refine m_iload_n 34 dX1_besideInSquares_33 rfl rfl ?_
    refine m_iload_n 35 dX1_besideInSquares_34 rfl rfl ?_
    refine i_const 36 dX1_besideInSquares_35 rfl ?_
    refine i_sub 37 dX1_besideInSquares_36 rfl ?_
    refine m_cV (M' := MX1_placeAt) 40 [_, _] kX1_58 imX1_placeAt seX1_placeAt clX1_placeAt dX1_besideInSquares_37 rfl rfl rfl (by first | rfl | assumption) (m_rmI (by omega) (Nat.le_of_ble_eq_true rfl) (Nat.le_refl _) (Nat.le_refl _)) (c_X1_placeAt hG d h2 hFF ⟨by omega, by omega⟩ ⟨by omega, by omega⟩) ?_
    refine i_ret _ dX1_besideInSquares_40 rfl ⟨Nat.le_refl _, Nat.le_refl _⟩ ?_ ⟨rfl, rfl⟩
    unfold sqS; rw [if_pos rfl]
    try (first | rfl | (congr 1 <;> omega) | ((repeat' split) <;> first | rfl | omega | (congr 1 <;> omega)))
  · refine m_iload_n 1 dX1_besideInSquares_0 rfl rfl ?_
    refine i_tableIn 41 ⟨by omega, by omega⟩ dX1_besideInSquares_1 (by decide) (by decide) rfl (by decide) ?_
    refine m_aload_n 42 dX1_besideInSquares_41 rfl rfl ?_
    refine m_iload_n 43 dX1_besideInSquares_42 rfl rfl ?_
    refine i_const 44 dX1_besideInSquares_43 rfl ?_
    refine i_add 45 dX1_besideInSquares_44 rfl ?_
    refine m_iload_n 46 dX1_besideInSquares_45 rfl rfl ?_
    refine m_cV (M' := MX1_placeAt) 49 [_, _] kX1_58 imX1_placeAt seX1_placeAt clX1_placeAt dX1_besideInSquares_46 rfl rfl rfl (by first | rfl | assumption) (m_rmI (by omega) (Nat.le_of_ble_eq_true rfl) (Nat.le_refl _) (Nat.le_refl _)) (c_X1_placeAt hG d h2 hFF ⟨by omega, by omega⟩ ⟨by omega, by omega⟩) ?_
    refine i_ret _ dX1_besideInSquares_49 rfl ⟨Nat.le_refl _, Nat.le_refl _⟩ ?_ ⟨rfl, rfl⟩
    unfold sqS; rw [if_neg (by decide), if_pos rfl]
    try (first | rfl | (congr 1 <;> omega) | ((repeat' split) <;> first | rfl | omega | (congr 1 <;> omega)))
  · refine m_iload_n 1 dX1_besideInSquares_0 rfl rfl ?_
    refine i_tableIn 50 ⟨by omega, by omega⟩ dX1_besideInSquares_1 (by decide) (by decide) rfl (by decide) ?_
    refine m_aload_n 51 dX1_besideInSquares_50 rfl rfl ?_
    refine m_iload_n 52 dX1_besideInSquares_51 rfl rfl ?_
    refine m_iload_n 53 dX1_besideInSquares_52 rfl rfl ?_
    refine i_const 54 dX1_besideInSquares_53 rfl ?_
    refine i_add 55 dX1_besideInSquares_54 rfl ?_
    refine m_cV (M' := MX1_placeAt) 58 [_, _] kX1_58 imX1_placeAt seX1_placeAt clX1_placeAt dX1_besideInSquares_55 rfl rfl rfl (by first | rfl | assumption) (m_rmI (by omega) (Nat.le_of_ble_eq_true rfl) (Nat.le_refl _) (Nat.le_refl _)) (c_X1_placeAt hG d h2 hFF ⟨by omega, by omega⟩ ⟨by omega, by omega⟩) ?_
    refine i_ret _ dX1_besideInSquares_58 rfl ⟨Nat.le_refl _, Nat.le_refl _⟩ ?_ ⟨rfl, rfl⟩
    unfold sqS; rw [if_neg (by decide), if_neg (by decide), if_pos rfl]
    try (first | rfl | (congr 1 <;> omega) | ((repeat' split) <;> first | rfl | omega | (congr 1 <;> omega)))
  · refine m_iload_n 1 dX1_besideInSquares_0 rfl rfl ?_
    refine i_tableIn 59 ⟨by omega, by omega⟩ dX1_besideInSquares_1 (by decide) (by decide) rfl (by decide) ?_
    refine m_aload_n 60 dX1_besideInSquares_59 rfl rfl ?_
    refine m_iload_n 61 dX1_besideInSquares_60 rfl rfl ?_
    refine i_const 62 dX1_besideInSquares_61 rfl ?_
    refine i_sub 63 dX1_besideInSquares_62 rfl ?_
    refine m_iload_n 64 dX1_besideInSquares_63 rfl rfl ?_
    refine m_cV (M' := MX1_placeAt) 67 [_, _] kX1_58 imX1_placeAt seX1_placeAt clX1_placeAt dX1_besideInSquares_64 rfl rfl rfl (by first | rfl | assumption) (m_rmI (by omega) (Nat.le_of_ble_eq_true rfl) (Nat.le_refl _) (Nat.le_refl _)) (c_X1_placeAt hG d h2 hFF ⟨by omega, by omega⟩ ⟨by omega, by omega⟩) ?_
    refine i_ret _ dX1_besideInSquares_67 rfl ⟨Nat.le_refl _, Nat.le_refl _⟩ ?_ ⟨rfl, rfl⟩
    unfold sqS; rw [if_neg (by decide), if_neg (by decide), if_neg (by decide), if_pos rfl]
    try (first | rfl | (congr 1 <;> omega) | ((repeat' split) <;> first | rfl | omega | (congr 1 <;> omega)))
  · refine m_iload_n 1 dX1_besideInSquares_0 rfl rfl ?_
    refine i_tableOut 68 ⟨by omega, by omega⟩ dX1_besideInSquares_1 (by omega) (by decide) ?_
    refine i_const 69 dX1_besideInSquares_68 rfl ?_
    refine i_ret _ dX1_besideInSquares_69 rfl ⟨Nat.le_refl _, Nat.le_refl _⟩ ?_ ⟨rfl, rfl⟩
    unfold sqS; rw [if_neg (by omega), if_neg (by omega), if_neg (by omega), if_neg (by omega)]
set_option maxHeartbeats 4000000 in
set_option maxRecDepth 100000 in
theorem c_X1_besideInHexes (hG : m_G G) (d : Nat) {k W H x y s : Int} {n : Nat} (h2 : w[2]? = some (oFrame k W H n)) (hF : fOK k W H n) (hxy : 0 ≤ x ∧ x < W ∧ 0 ≤ y ∧ y < H) (hs : 0 ≤ s ∧ s < 256) : m_Cv G MX1_besideInHexes (m_r (d + 1) 0 0) [.ref 2, vI x, vI y, vI s] w (some (vI (hxS W H x y s))) w := by
  have hFF := hF
  have hnb := hF.n
  obtain ⟨hk0, hk4, hW1, hW2, hH1, hH2, hn, hg4⟩ := hF
  refine m_enter (L := [some (.ref 2), some (vI x), some (vI y), some (vI s), none, none]) (by decide) hG (m_c1 rfl) (Nat.le_of_ble_eq_true rfl) rfl ?_
  rcases (by omega : s = 0 ∨ s = 1 ∨ s = 2 ∨ s = 3 ∨ s = 4 ∨ s = 5 ∨ 5 < s) with rfl | rfl | rfl | rfl | rfl | rfl | hso
  · refine m_iload_n 1 dX1_besideInHexes_0 rfl rfl ?_
    refine i_const 2 dX1_besideInHexes_1 rfl ?_
    refine i_and 3 1 dX1_besideInHexes_2 rfl ⟨by omega, by omega⟩ (by decide) ?_
    refine i_if_ne 6 10 ⟨by omega, by omega⟩ dX1_besideInHexes_3 rfl (by decide) (fun q3 => ?_) (fun q3 => ?_)
    · refine m_iload_n 11 dX1_besideInHexes_10 rfl rfl ?_
      refine i_const 12 dX1_besideInHexes_11 rfl ?_
      refine i_add 13 dX1_besideInHexes_12 rfl ?_
      refine m_istore 15 dX1_besideInHexes_13 rfl (by decide) ?_
      refine m_iload 17 dX1_besideInHexes_15 rfl rfl ?_
      refine i_const 18 dX1_besideInHexes_17 rfl ?_
      refine i_sub 19 dX1_besideInHexes_18 rfl ?_
      refine m_istore 21 dX1_besideInHexes_19 rfl (by decide) ?_
      refine m_iload_n 22 dX1_besideInHexes_21 rfl rfl ?_
      refine i_tableIn 60 ⟨by omega, by omega⟩ dX1_besideInHexes_22 (by decide) (by decide) rfl (by decide) ?_
      refine m_aload_n 61 dX1_besideInHexes_60 rfl rfl ?_
      refine m_iload 63 dX1_besideInHexes_61 rfl rfl ?_
      refine m_iload_n 64 dX1_besideInHexes_63 rfl rfl ?_
      refine i_const 65 dX1_besideInHexes_64 rfl ?_
      refine i_sub 66 dX1_besideInHexes_65 rfl ?_
      refine m_cV (M' := MX1_placeAt) 69 [_, _] kX1_58 imX1_placeAt seX1_placeAt clX1_placeAt dX1_besideInHexes_66 rfl rfl rfl (by first | rfl | assumption) (m_rmI (by omega) (Nat.le_of_ble_eq_true rfl) (Nat.le_refl _) (Nat.le_refl _)) (c_X1_placeAt hG d h2 hFF ⟨by omega, by omega⟩ ⟨by omega, by omega⟩) ?_
      refine i_ret _ dX1_besideInHexes_69 rfl ⟨Nat.le_refl _, Nat.le_refl _⟩ ?_ ⟨rfl, rfl⟩
      unfold hxS; rw [if_pos rfl]
      try (first | rfl | (congr 1 <;> omega) | ((repeat' split) <;> first | rfl | omega | (congr 1 <;> omega)))
    · refine m_iload_n 7 dX1_besideInHexes_6 rfl rfl ?_
      refine m_goto 13 dX1_besideInHexes_7 (by decide) ?_
      refine m_istore 15 dX1_besideInHexes_13 rfl (by decide) ?_
      refine m_iload 17 dX1_besideInHexes_15 rfl rfl ?_
      refine i_const 18 dX1_besideInHexes_17 rfl ?_
      refine i_sub 19 dX1_besideInHexes_18 rfl ?_
      refine m_istore 21 dX1_besideInHexes_19 rfl (by decide) ?_
      refine m_iload_n 22 dX1_besideInHexes_21 rfl rfl ?_
      refine i_tableIn 60 ⟨by omega, by omega⟩ dX1_besideInHexes_22 (by decide) (by decide) rfl (by decide) ?_
      refine m_aload_n 61 dX1_besideInHexes_60 rfl rfl ?_
      refine m_iload 63 dX1_besideInHexes_61 rfl rfl ?_
      refine m_iload_n 64 dX1_besideInHexes_63 rfl rfl ?_
      refine i_const 65 dX1_besideInHexes_64 rfl ?_
      refine i_sub 66 dX1_besideInHexes_65 rfl ?_
      refine m_cV (M' := MX1_placeAt) 69 [_, _] kX1_58 imX1_placeAt seX1_placeAt clX1_placeAt dX1_besideInHexes_66 rfl rfl rfl (by first | rfl | assumption) (m_rmI (by omega) (Nat.le_of_ble_eq_true rfl) (Nat.le_refl _) (Nat.le_refl _)) (c_X1_placeAt hG d h2 hFF ⟨by omega, by omega⟩ ⟨by omega, by omega⟩) ?_
      refine i_ret _ dX1_besideInHexes_69 rfl ⟨Nat.le_refl _, Nat.le_refl _⟩ ?_ ⟨rfl, rfl⟩
      unfold hxS; rw [if_pos rfl]
      try (first | rfl | (congr 1 <;> omega) | ((repeat' split) <;> first | rfl | omega | (congr 1 <;> omega)))
  · refine m_iload_n 1 dX1_besideInHexes_0 rfl rfl ?_
    refine i_const 2 dX1_besideInHexes_1 rfl ?_
    refine i_and 3 1 dX1_besideInHexes_2 rfl ⟨by omega, by omega⟩ (by decide) ?_
    refine i_if_ne 6 10 ⟨by omega, by omega⟩ dX1_besideInHexes_3 rfl (by decide) (fun q3 => ?_) (fun q3 => ?_)
    · refine m_iload_n 11 dX1_besideInHexes_10 rfl rfl ?_
      refine i_const 12 dX1_besideInHexes_11 rfl ?_
      refine i_add 13 dX1_besideInHexes_12 rfl ?_
      refine m_istore 15 dX1_besideInHexes_13 rfl (by decide) ?_
      refine m_iload 17 dX1_besideInHexes_15 rfl rfl ?_
      refine i_const 18 dX1_besideInHexes_17 rfl ?_
      refine i_sub 19 dX1_besideInHexes_18 rfl ?_
      refine m_istore 21 dX1_besideInHexes_19 rfl (by decide) ?_
      refine m_iload_n 22 dX1_besideInHexes_21 rfl rfl ?_
      refine i_tableIn 70 ⟨by omega, by omega⟩ dX1_besideInHexes_22 (by decide) (by decide) rfl (by decide) ?_
      refine m_aload_n 71 dX1_besideInHexes_70 rfl rfl ?_
      refine m_iload_n 72 dX1_besideInHexes_71 rfl rfl ?_
      refine i_const 73 dX1_besideInHexes_72 rfl ?_
      refine i_add 74 dX1_besideInHexes_73 rfl ?_
      refine m_iload_n 75 dX1_besideInHexes_74 rfl rfl ?_
      refine m_cV (M' := MX1_placeAt) 78 [_, _] kX1_58 imX1_placeAt seX1_placeAt clX1_placeAt dX1_besideInHexes_75 rfl rfl rfl (by first | rfl | assumption) (m_rmI (by omega) (Nat.le_of_ble_eq_true rfl) (Nat.le_refl _) (Nat.le_refl _)) (c_X1_placeAt hG d h2 hFF ⟨by omega, by omega⟩ ⟨by omega, by omega⟩) ?_
      refine i_ret _ dX1_besideInHexes_78 rfl ⟨Nat.le_refl _, Nat.le_refl _⟩ ?_ ⟨rfl, rfl⟩
      unfold hxS; rw [if_neg (by decide), if_pos rfl]
      try (first | rfl | (congr 1 <;> omega) | ((repeat' split) <;> first | rfl | omega | (congr 1 <;> omega)))
    · refine m_iload_n 7 dX1_besideInHexes_6 rfl rfl ?_
      refine m_goto 13 dX1_besideInHexes_7 (by decide) ?_
      refine m_istore 15 dX1_besideInHexes_13 rfl (by decide) ?_
      refine m_iload 17 dX1_besideInHexes_15 rfl rfl ?_
      refine i_const 18 dX1_besideInHexes_17 rfl ?_
      refine i_sub 19 dX1_besideInHexes_18 rfl ?_
      refine m_istore 21 dX1_besideInHexes_19 rfl (by decide) ?_
      refine m_iload_n 22 dX1_besideInHexes_21 rfl rfl ?_
      refine i_tableIn 70 ⟨by omega, by omega⟩ dX1_besideInHexes_22 (by decide) (by decide) rfl (by decide) ?_
      refine m_aload_n 71 dX1_besideInHexes_70 rfl rfl ?_
      refine m_iload_n 72 dX1_besideInHexes_71 rfl rfl ?_
      refine i_const 73 dX1_besideInHexes_72 rfl ?_
      refine i_add 74 dX1_besideInHexes_73 rfl ?_
      refine m_iload_n 75 dX1_besideInHexes_74 rfl rfl ?_
      refine m_cV (M' := MX1_placeAt) 78 [_, _] kX1_58 imX1_placeAt seX1_placeAt clX1_placeAt dX1_besideInHexes_75 rfl rfl rfl (by first | rfl | assumption) (m_rmI (by omega) (Nat.le_of_ble_eq_true rfl) (Nat.le_refl _) (Nat.le_refl _)) (c_X1_placeAt hG d h2 hFF ⟨by omega, by omega⟩ ⟨by omega, by omega⟩) ?_
      refine i_ret _ dX1_besideInHexes_78 rfl ⟨Nat.le_refl _, Nat.le_refl _⟩ ?_ ⟨rfl, rfl⟩
      unfold hxS; rw [if_neg (by decide), if_pos rfl]
      try (first | rfl | (congr 1 <;> omega) | ((repeat' split) <;> first | rfl | omega | (congr 1 <;> omega)))
  · refine m_iload_n 1 dX1_besideInHexes_0 rfl rfl ?_
    refine i_const 2 dX1_besideInHexes_1 rfl ?_
    refine i_and 3 1 dX1_besideInHexes_2 rfl ⟨by omega, by omega⟩ (by decide) ?_
    refine i_if_ne 6 10 ⟨by omega, by omega⟩ dX1_besideInHexes_3 rfl (by decide) (fun q3 => ?_) (fun q3 => ?_)
    · refine m_iload_n 11 dX1_besideInHexes_10 rfl rfl ?_
      refine i_const 12 dX1_besideInHexes_11 rfl ?_
      refine i_add 13 dX1_besideInHexes_12 rfl ?_
      refine m_istore 15 dX1_besideInHexes_13 rfl (by decide) ?_
      refine m_iload 17 dX1_besideInHexes_15 rfl rfl ?_
      refine i_const 18 dX1_besideInHexes_17 rfl ?_
      refine i_sub 19 dX1_besideInHexes_18 rfl ?_
      refine m_istore 21 dX1_besideInHexes_19 rfl (by decide) ?_
      refine m_iload_n 22 dX1_besideInHexes_21 rfl rfl ?_
      refine i_tableIn 79 ⟨by omega, by omega⟩ dX1_besideInHexes_22 (by decide) (by decide) rfl (by decide) ?_
      refine m_aload_n 80 dX1_besideInHexes_79 rfl rfl ?_
      refine m_iload 82 dX1_besideInHexes_80 rfl rfl ?_
      refine m_iload_n 83 dX1_besideInHexes_82 rfl rfl ?_
      refine i_const 84 dX1_besideInHexes_83 rfl ?_
      refine i_add 85 dX1_besideInHexes_84 rfl ?_
      refine m_cV (M' := MX1_placeAt) 88 [_, _] kX1_58 imX1_placeAt seX1_placeAt clX1_placeAt dX1_besideInHexes_85 rfl rfl rfl (by first | rfl | assumption) (m_rmI (by omega) (Nat.le_of_ble_eq_true rfl) (Nat.le_refl _) (Nat.le_refl _)) (c_X1_placeAt hG d h2 hFF ⟨by omega, by omega⟩ ⟨by omega, by omega⟩) ?_
      refine i_ret _ dX1_besideInHexes_88 rfl ⟨Nat.le_refl _, Nat.le_refl _⟩ ?_ ⟨rfl, rfl⟩
      unfold hxS; rw [if_neg (by decide), if_neg (by decide), if_pos rfl]
      try (first | rfl | (congr 1 <;> omega) | ((repeat' split) <;> first | rfl | omega | (congr 1 <;> omega)))
    · refine m_iload_n 7 dX1_besideInHexes_6 rfl rfl ?_
      refine m_goto 13 dX1_besideInHexes_7 (by decide) ?_
      refine m_istore 15 dX1_besideInHexes_13 rfl (by decide) ?_
      refine m_iload 17 dX1_besideInHexes_15 rfl rfl ?_
      refine i_const 18 dX1_besideInHexes_17 rfl ?_
      refine i_sub 19 dX1_besideInHexes_18 rfl ?_
      refine m_istore 21 dX1_besideInHexes_19 rfl (by decide) ?_
      refine m_iload_n 22 dX1_besideInHexes_21 rfl rfl ?_
      refine i_tableIn 79 ⟨by omega, by omega⟩ dX1_besideInHexes_22 (by decide) (by decide) rfl (by decide) ?_
      refine m_aload_n 80 dX1_besideInHexes_79 rfl rfl ?_
      refine m_iload 82 dX1_besideInHexes_80 rfl rfl ?_
      refine m_iload_n 83 dX1_besideInHexes_82 rfl rfl ?_
      refine i_const 84 dX1_besideInHexes_83 rfl ?_
      refine i_add 85 dX1_besideInHexes_84 rfl ?_
      refine m_cV (M' := MX1_placeAt) 88 [_, _] kX1_58 imX1_placeAt seX1_placeAt clX1_placeAt dX1_besideInHexes_85 rfl rfl rfl (by first | rfl | assumption) (m_rmI (by omega) (Nat.le_of_ble_eq_true rfl) (Nat.le_refl _) (Nat.le_refl _)) (c_X1_placeAt hG d h2 hFF ⟨by omega, by omega⟩ ⟨by omega, by omega⟩) ?_
      refine i_ret _ dX1_besideInHexes_88 rfl ⟨Nat.le_refl _, Nat.le_refl _⟩ ?_ ⟨rfl, rfl⟩
      unfold hxS; rw [if_neg (by decide), if_neg (by decide), if_pos rfl]
      try (first | rfl | (congr 1 <;> omega) | ((repeat' split) <;> first | rfl | omega | (congr 1 <;> omega)))
  · refine m_iload_n 1 dX1_besideInHexes_0 rfl rfl ?_
    refine i_const 2 dX1_besideInHexes_1 rfl ?_
    refine i_and 3 1 dX1_besideInHexes_2 rfl ⟨by omega, by omega⟩ (by decide) ?_
    refine i_if_ne 6 10 ⟨by omega, by omega⟩ dX1_besideInHexes_3 rfl (by decide) (fun q3 => ?_) (fun q3 => ?_)
    · refine m_iload_n 11 dX1_besideInHexes_10 rfl rfl ?_
      refine i_const 12 dX1_besideInHexes_11 rfl ?_
      refine i_add 13 dX1_besideInHexes_12 rfl ?_
      refine m_istore 15 dX1_besideInHexes_13 rfl (by decide) ?_
      refine m_iload 17 dX1_besideInHexes_15 rfl rfl ?_
      refine i_const 18 dX1_besideInHexes_17 rfl ?_
      refine i_sub 19 dX1_besideInHexes_18 rfl ?_
      refine m_istore 21 dX1_besideInHexes_19 rfl (by decide) ?_
      refine m_iload_n 22 dX1_besideInHexes_21 rfl rfl ?_
      refine i_tableIn 89 ⟨by omega, by omega⟩ dX1_besideInHexes_22 (by decide) (by decide) rfl (by decide) ?_
      refine m_aload_n 90 dX1_besideInHexes_89 rfl rfl ?_
      refine m_iload 92 dX1_besideInHexes_90 rfl rfl ?_
      refine m_iload_n 93 dX1_besideInHexes_92 rfl rfl ?_
      refine i_const 94 dX1_besideInHexes_93 rfl ?_
      refine i_add 95 dX1_besideInHexes_94 rfl ?_
      refine m_cV (M' := MX1_placeAt) 98 [_, _] kX1_58 imX1_placeAt seX1_placeAt clX1_placeAt dX1_besideInHexes_95 rfl rfl rfl (by first | rfl | assumption) (m_rmI (by omega) (Nat.le_of_ble_eq_true rfl) (Nat.le_refl _) (Nat.le_refl _)) (c_X1_placeAt hG d h2 hFF ⟨by omega, by omega⟩ ⟨by omega, by omega⟩) ?_
      refine i_ret _ dX1_besideInHexes_98 rfl ⟨Nat.le_refl _, Nat.le_refl _⟩ ?_ ⟨rfl, rfl⟩
      unfold hxS; rw [if_neg (by decide), if_neg (by decide), if_neg (by decide), if_pos rfl]
      try (first | rfl | (congr 1 <;> omega) | ((repeat' split) <;> first | rfl | omega | (congr 1 <;> omega)))
    · refine m_iload_n 7 dX1_besideInHexes_6 rfl rfl ?_
      refine m_goto 13 dX1_besideInHexes_7 (by decide) ?_
      refine m_istore 15 dX1_besideInHexes_13 rfl (by decide) ?_
      refine m_iload 17 dX1_besideInHexes_15 rfl rfl ?_
      refine i_const 18 dX1_besideInHexes_17 rfl ?_
      refine i_sub 19 dX1_besideInHexes_18 rfl ?_
      refine m_istore 21 dX1_besideInHexes_19 rfl (by decide) ?_
      refine m_iload_n 22 dX1_besideInHexes_21 rfl rfl ?_
      refine i_tableIn 89 ⟨by omega, by omega⟩ dX1_besideInHexes_22 (by decide) (by decide) rfl (by decide) ?_
      refine m_aload_n 90 dX1_besideInHexes_89 rfl rfl ?_
      refine m_iload 92 dX1_besideInHexes_90 rfl rfl ?_
      refine m_iload_n 93 dX1_besideInHexes_92 rfl rfl ?_
      refine i_const 94 dX1_besideInHexes_93 rfl ?_
      refine i_add 95 dX1_besideInHexes_94 rfl ?_
      refine m_cV (M' := MX1_placeAt) 98 [_, _] kX1_58 imX1_placeAt seX1_placeAt clX1_placeAt dX1_besideInHexes_95 rfl rfl rfl (by first | rfl | assumption) (m_rmI (by omega) (Nat.le_of_ble_eq_true rfl) (Nat.le_refl _) (Nat.le_refl _)) (c_X1_placeAt hG d h2 hFF ⟨by omega, by omega⟩ ⟨by omega, by omega⟩) ?_
      refine i_ret _ dX1_besideInHexes_98 rfl ⟨Nat.le_refl _, Nat.le_refl _⟩ ?_ ⟨rfl, rfl⟩
      unfold hxS; rw [if_neg (by decide), if_neg (by decide), if_neg (by decide), if_pos rfl]
      try (first | rfl | (congr 1 <;> omega) | ((repeat' split) <;> first | rfl | omega | (congr 1 <;> omega)))
  · refine m_iload_n 1 dX1_besideInHexes_0 rfl rfl ?_
    refine i_const 2 dX1_besideInHexes_1 rfl ?_
    refine i_and 3 1 dX1_besideInHexes_2 rfl ⟨by omega, by omega⟩ (by decide) ?_
    refine i_if_ne 6 10 ⟨by omega, by omega⟩ dX1_besideInHexes_3 rfl (by decide) (fun q3 => ?_) (fun q3 => ?_)
    · refine m_iload_n 11 dX1_besideInHexes_10 rfl rfl ?_
      refine i_const 12 dX1_besideInHexes_11 rfl ?_
      refine i_add 13 dX1_besideInHexes_12 rfl ?_
      refine m_istore 15 dX1_besideInHexes_13 rfl (by decide) ?_
      refine m_iload 17 dX1_besideInHexes_15 rfl rfl ?_
      refine i_const 18 dX1_besideInHexes_17 rfl ?_
      refine i_sub 19 dX1_besideInHexes_18 rfl ?_
      refine m_istore 21 dX1_besideInHexes_19 rfl (by decide) ?_
      refine m_iload_n 22 dX1_besideInHexes_21 rfl rfl ?_
      refine i_tableIn 99 ⟨by omega, by omega⟩ dX1_besideInHexes_22 (by decide) (by decide) rfl (by decide) ?_
      refine m_aload_n 100 dX1_besideInHexes_99 rfl rfl ?_
      refine m_iload_n 101 dX1_besideInHexes_100 rfl rfl ?_
      refine i_const 102 dX1_besideInHexes_101 rfl ?_
      refine i_sub 103 dX1_besideInHexes_102 rfl ?_
      refine m_iload_n 104 dX1_besideInHexes_103 rfl rfl ?_
      refine m_cV (M' := MX1_placeAt) 107 [_, _] kX1_58 imX1_placeAt seX1_placeAt clX1_placeAt dX1_besideInHexes_104 rfl rfl rfl (by first | rfl | assumption) (m_rmI (by omega) (Nat.le_of_ble_eq_true rfl) (Nat.le_refl _) (Nat.le_refl _)) (c_X1_placeAt hG d h2 hFF ⟨by omega, by omega⟩ ⟨by omega, by omega⟩) ?_
      refine i_ret _ dX1_besideInHexes_107 rfl ⟨Nat.le_refl _, Nat.le_refl _⟩ ?_ ⟨rfl, rfl⟩
      unfold hxS; rw [if_neg (by decide), if_neg (by decide), if_neg (by decide), if_neg (by decide), if_pos rfl]
      try (first | rfl | (congr 1 <;> omega) | ((repeat' split) <;> first | rfl | omega | (congr 1 <;> omega)))
    · refine m_iload_n 7 dX1_besideInHexes_6 rfl rfl ?_
      refine m_goto 13 dX1_besideInHexes_7 (by decide) ?_
      refine m_istore 15 dX1_besideInHexes_13 rfl (by decide) ?_
      refine m_iload 17 dX1_besideInHexes_15 rfl rfl ?_
      refine i_const 18 dX1_besideInHexes_17 rfl ?_
      refine i_sub 19 dX1_besideInHexes_18 rfl ?_
      refine m_istore 21 dX1_besideInHexes_19 rfl (by decide) ?_
      refine m_iload_n 22 dX1_besideInHexes_21 rfl rfl ?_
      refine i_tableIn 99 ⟨by omega, by omega⟩ dX1_besideInHexes_22 (by decide) (by decide) rfl (by decide) ?_
      refine m_aload_n 100 dX1_besideInHexes_99 rfl rfl ?_
      refine m_iload_n 101 dX1_besideInHexes_100 rfl rfl ?_
      refine i_const 102 dX1_besideInHexes_101 rfl ?_
      refine i_sub 103 dX1_besideInHexes_102 rfl ?_
      refine m_iload_n 104 dX1_besideInHexes_103 rfl rfl ?_
      refine m_cV (M' := MX1_placeAt) 107 [_, _] kX1_58 imX1_placeAt seX1_placeAt clX1_placeAt dX1_besideInHexes_104 rfl rfl rfl (by first | rfl | assumption) (m_rmI (by omega) (Nat.le_of_ble_eq_true rfl) (Nat.le_refl _) (Nat.le_refl _)) (c_X1_placeAt hG d h2 hFF ⟨by omega, by omega⟩ ⟨by omega, by omega⟩) ?_
      refine i_ret _ dX1_besideInHexes_107 rfl ⟨Nat.le_refl _, Nat.le_refl _⟩ ?_ ⟨rfl, rfl⟩
      unfold hxS; rw [if_neg (by decide), if_neg (by decide), if_neg (by decide), if_neg (by decide), if_pos rfl]
      try (first | rfl | (congr 1 <;> omega) | ((repeat' split) <;> first | rfl | omega | (congr 1 <;> omega)))
  · refine m_iload_n 1 dX1_besideInHexes_0 rfl rfl ?_
    refine i_const 2 dX1_besideInHexes_1 rfl ?_
    refine i_and 3 1 dX1_besideInHexes_2 rfl ⟨by omega, by omega⟩ (by decide) ?_
    refine i_if_ne 6 10 ⟨by omega, by omega⟩ dX1_besideInHexes_3 rfl (by decide) (fun q3 => ?_) (fun q3 => ?_)
    · refine m_iload_n 11 dX1_besideInHexes_10 rfl rfl ?_
      refine i_const 12 dX1_besideInHexes_11 rfl ?_
      refine i_add 13 dX1_besideInHexes_12 rfl ?_
      refine m_istore 15 dX1_besideInHexes_13 rfl (by decide) ?_
      refine m_iload 17 dX1_besideInHexes_15 rfl rfl ?_
      refine i_const 18 dX1_besideInHexes_17 rfl ?_
      refine i_sub 19 dX1_besideInHexes_18 rfl ?_
      refine m_istore 21 dX1_besideInHexes_19 rfl (by decide) ?_
      refine m_iload_n 22 dX1_besideInHexes_21 rfl rfl ?_
      refine i_tableIn 108 ⟨by omega, by omega⟩ dX1_besideInHexes_22 (by decide) (by decide) rfl (by decide) ?_
      refine m_aload_n 109 dX1_besideInHexes_108 rfl rfl ?_
      refine m_iload 111 dX1_besideInHexes_109 rfl rfl ?_
      refine m_iload_n 112 dX1_besideInHexes_111 rfl rfl ?_
      refine i_const 113 dX1_besideInHexes_112 rfl ?_
      refine i_sub 114 dX1_besideInHexes_113 rfl ?_
      refine m_cV (M' := MX1_placeAt) 117 [_, _] kX1_58 imX1_placeAt seX1_placeAt clX1_placeAt dX1_besideInHexes_114 rfl rfl rfl (by first | rfl | assumption) (m_rmI (by omega) (Nat.le_of_ble_eq_true rfl) (Nat.le_refl _) (Nat.le_refl _)) (c_X1_placeAt hG d h2 hFF ⟨by omega, by omega⟩ ⟨by omega, by omega⟩) ?_
      refine i_ret _ dX1_besideInHexes_117 rfl ⟨Nat.le_refl _, Nat.le_refl _⟩ ?_ ⟨rfl, rfl⟩
      unfold hxS; rw [if_neg (by decide), if_neg (by decide), if_neg (by decide), if_neg (by decide), if_neg (by decide), if_pos rfl]
      try (first | rfl | (congr 1 <;> omega) | ((repeat' split) <;> first | rfl | omega | (congr 1 <;> omega)))
    · refine m_iload_n 7 dX1_besideInHexes_6 rfl rfl ?_
      refine m_goto 13 dX1_besideInHexes_7 (by decide) ?_
      refine m_istore 15 dX1_besideInHexes_13 rfl (by decide) ?_
      refine m_iload 17 dX1_besideInHexes_15 rfl rfl ?_
      refine i_const 18 dX1_besideInHexes_17 rfl ?_
      refine i_sub 19 dX1_besideInHexes_18 rfl ?_
      refine m_istore 21 dX1_besideInHexes_19 rfl (by decide) ?_
      refine m_iload_n 22 dX1_besideInHexes_21 rfl rfl ?_
      refine i_tableIn 108 ⟨by omega, by omega⟩ dX1_besideInHexes_22 (by decide) (by decide) rfl (by decide) ?_
      refine m_aload_n 109 dX1_besideInHexes_108 rfl rfl ?_
      refine m_iload 111 dX1_besideInHexes_109 rfl rfl ?_
      refine m_iload_n 112 dX1_besideInHexes_111 rfl rfl ?_
      refine i_const 113 dX1_besideInHexes_112 rfl ?_
      refine i_sub 114 dX1_besideInHexes_113 rfl ?_
      refine m_cV (M' := MX1_placeAt) 117 [_, _] kX1_58 imX1_placeAt seX1_placeAt clX1_placeAt dX1_besideInHexes_114 rfl rfl rfl (by first | rfl | assumption) (m_rmI (by omega) (Nat.le_of_ble_eq_true rfl) (Nat.le_refl _) (Nat.le_refl _)) (c_X1_placeAt hG d h2 hFF ⟨by omega, by omega⟩ ⟨by omega, by omega⟩) ?_
      refine i_ret _ dX1_besideInHexes_117 rfl ⟨Nat.le_refl _, Nat.le_refl _⟩ ?_ ⟨rfl, rfl⟩
      unfold hxS; rw [if_neg (by decide), if_neg (by decide), if_neg (by decide), if_neg (by decide), if_neg (by decide), if_pos rfl]
      try (first | rfl | (congr 1 <;> omega) | ((repeat' split) <;> first | rfl | omega | (congr 1 <;> omega)))
  · refine m_iload_n 1 dX1_besideInHexes_0 rfl rfl ?_
    refine i_const 2 dX1_besideInHexes_1 rfl ?_
    refine i_and 3 1 dX1_besideInHexes_2 rfl ⟨by omega, by omega⟩ (by decide) ?_
    refine i_if_ne 6 10 ⟨by omega, by omega⟩ dX1_besideInHexes_3 rfl (by decide) (fun q3 => ?_) (fun q3 => ?_)
    · refine m_iload_n 11 dX1_besideInHexes_10 rfl rfl ?_
      refine i_const 12 dX1_besideInHexes_11 rfl ?_
      refine i_add 13 dX1_besideInHexes_12 rfl ?_
      refine m_istore 15 dX1_besideInHexes_13 rfl (by decide) ?_
      refine m_iload 17 dX1_besideInHexes_15 rfl rfl ?_
      refine i_const 18 dX1_besideInHexes_17 rfl ?_
      refine i_sub 19 dX1_besideInHexes_18 rfl ?_
      refine m_istore 21 dX1_besideInHexes_19 rfl (by decide) ?_
      refine m_iload_n 22 dX1_besideInHexes_21 rfl rfl ?_
      refine i_tableOut 118 ⟨by omega, by omega⟩ dX1_besideInHexes_22 (by omega) (by decide) ?_
      refine i_const 119 dX1_besideInHexes_118 rfl ?_
      refine i_ret _ dX1_besideInHexes_119 rfl ⟨Nat.le_refl _, Nat.le_refl _⟩ ?_ ⟨rfl, rfl⟩
      unfold hxS; rw [if_neg (by omega), if_neg (by omega), if_neg (by omega), if_neg (by omega), if_neg (by omega), if_neg (by omega)]
    · refine m_iload_n 7 dX1_besideInHexes_6 rfl rfl ?_
      refine m_goto 13 dX1_besideInHexes_7 (by decide) ?_
      refine m_istore 15 dX1_besideInHexes_13 rfl (by decide) ?_
      refine m_iload 17 dX1_besideInHexes_15 rfl rfl ?_
      refine i_const 18 dX1_besideInHexes_17 rfl ?_
      refine i_sub 19 dX1_besideInHexes_18 rfl ?_
      refine m_istore 21 dX1_besideInHexes_19 rfl (by decide) ?_
      refine m_iload_n 22 dX1_besideInHexes_21 rfl rfl ?_
      refine i_tableOut 118 ⟨by omega, by omega⟩ dX1_besideInHexes_22 (by omega) (by decide) ?_
      refine i_const 119 dX1_besideInHexes_118 rfl ?_
      refine i_ret _ dX1_besideInHexes_119 rfl ⟨Nat.le_refl _, Nat.le_refl _⟩ ?_ ⟨rfl, rfl⟩
      unfold hxS; rw [if_neg (by omega), if_neg (by omega), if_neg (by omega), if_neg (by omega), if_neg (by omega), if_neg (by omega)]
set_option maxHeartbeats 4000000 in
set_option maxRecDepth 100000 in
theorem c_X1_besideInTriangles (hG : m_G G) (d : Nat) {k W H x y s : Int} {n : Nat} (h2 : w[2]? = some (oFrame k W H n)) (hF : fOK k W H n) (hxy : 0 ≤ x ∧ x < W ∧ 0 ≤ y ∧ y < H) (hs : 0 ≤ s ∧ s < 256) : m_Cv G MX1_besideInTriangles (m_r (d + 1) 0 0) [.ref 2, vI x, vI y, vI s] w (some (vI (trS W H x y s))) w := by
  have hFF := hF
  have hnb := hF.n
  obtain ⟨hk0, hk4, hW1, hW2, hH1, hH2, hn, hg4⟩ := hF
  refine m_enter (L := [some (.ref 2), some (vI x), some (vI y), some (vI s), none]) (by decide) hG (m_c1 rfl) (Nat.le_of_ble_eq_true rfl) rfl ?_
  rcases (by omega : s = 0 ∨ s = 1 ∨ s = 2 ∨ 2 < s) with rfl | rfl | rfl | hso
  · refine m_iload_n 1 dX1_besideInTriangles_0 rfl rfl ?_
    refine m_iload_n 2 dX1_besideInTriangles_1 rfl rfl ?_
    refine i_add 3 dX1_besideInTriangles_2 rfl ?_
    refine i_const 4 dX1_besideInTriangles_3 rfl ?_
    refine i_and 5 1 dX1_besideInTriangles_4 rfl ⟨by omega, by omega⟩ (by decide) ?_
    refine i_if_ne 8 12 ⟨by omega, by omega⟩ dX1_besideInTriangles_5 rfl (by decide) (fun q5 => ?_) (fun q5 => ?_)
    · refine i_const 13 dX1_besideInTriangles_12 rfl ?_
      refine m_istore 15 dX1_besideInTriangles_13 rfl (by decide) ?_
      refine m_iload_n 16 dX1_besideInTriangles_15 rfl rfl ?_
      refine i_tableIn 44 ⟨by omega, by omega⟩ dX1_besideInTriangles_16 (by decide) (by decide) rfl (by decide) ?_
      refine m_aload_n 45 dX1_besideInTriangles_44 rfl rfl ?_
      refine m_iload_n 46 dX1_besideInTriangles_45 rfl rfl ?_
      refine i_const 47 dX1_besideInTriangles_46 rfl ?_
      refine i_sub 48 dX1_besideInTriangles_47 rfl ?_
      refine m_iload_n 49 dX1_besideInTriangles_48 rfl rfl ?_
      refine m_cV (M' := MX1_placeAt) 52 [_, _] kX1_58 imX1_placeAt seX1_placeAt clX1_placeAt dX1_besideInTriangles_49 rfl rfl rfl (by first | rfl | assumption) (m_rmI (by omega) (Nat.le_of_ble_eq_true rfl) (Nat.le_refl _) (Nat.le_refl _)) (c_X1_placeAt hG d h2 hFF ⟨by omega, by omega⟩ ⟨by omega, by omega⟩) ?_
      refine i_ret _ dX1_besideInTriangles_52 rfl ⟨Nat.le_refl _, Nat.le_refl _⟩ ?_ ⟨rfl, rfl⟩
      unfold trS; rw [if_pos rfl]
      try (first | rfl | (congr 1 <;> omega) | ((repeat' split) <;> first | rfl | omega | (congr 1 <;> omega)))
    · refine i_const 9 dX1_besideInTriangles_8 rfl ?_
      refine m_goto 13 dX1_besideInTriangles_9 (by decide) ?_
      refine m_istore 15 dX1_besideInTriangles_13 rfl (by decide) ?_
      refine m_iload_n 16 dX1_besideInTriangles_15 rfl rfl ?_
      refine i_tableIn 44 ⟨by omega, by omega⟩ dX1_besideInTriangles_16 (by decide) (by decide) rfl (by decide) ?_
      refine m_aload_n 45 dX1_besideInTriangles_44 rfl rfl ?_
      refine m_iload_n 46 dX1_besideInTriangles_45 rfl rfl ?_
      refine i_const 47 dX1_besideInTriangles_46 rfl ?_
      refine i_sub 48 dX1_besideInTriangles_47 rfl ?_
      refine m_iload_n 49 dX1_besideInTriangles_48 rfl rfl ?_
      refine m_cV (M' := MX1_placeAt) 52 [_, _] kX1_58 imX1_placeAt seX1_placeAt clX1_placeAt dX1_besideInTriangles_49 rfl rfl rfl (by first | rfl | assumption) (m_rmI (by omega) (Nat.le_of_ble_eq_true rfl) (Nat.le_refl _) (Nat.le_refl _)) (c_X1_placeAt hG d h2 hFF ⟨by omega, by omega⟩ ⟨by omega, by omega⟩) ?_
      refine i_ret _ dX1_besideInTriangles_52 rfl ⟨Nat.le_refl _, Nat.le_refl _⟩ ?_ ⟨rfl, rfl⟩
      unfold trS; rw [if_pos rfl]
      try (first | rfl | (congr 1 <;> omega) | ((repeat' split) <;> first | rfl | omega | (congr 1 <;> omega)))
  · refine m_iload_n 1 dX1_besideInTriangles_0 rfl rfl ?_
    refine m_iload_n 2 dX1_besideInTriangles_1 rfl rfl ?_
    refine i_add 3 dX1_besideInTriangles_2 rfl ?_
    refine i_const 4 dX1_besideInTriangles_3 rfl ?_
    refine i_and 5 1 dX1_besideInTriangles_4 rfl ⟨by omega, by omega⟩ (by decide) ?_
    refine i_if_ne 8 12 ⟨by omega, by omega⟩ dX1_besideInTriangles_5 rfl (by decide) (fun q5 => ?_) (fun q5 => ?_)
    · refine i_const 13 dX1_besideInTriangles_12 rfl ?_
      refine m_istore 15 dX1_besideInTriangles_13 rfl (by decide) ?_
      refine m_iload_n 16 dX1_besideInTriangles_15 rfl rfl ?_
      refine i_tableIn 53 ⟨by omega, by omega⟩ dX1_besideInTriangles_16 (by decide) (by decide) rfl (by decide) ?_
      refine m_aload_n 54 dX1_besideInTriangles_53 rfl rfl ?_
      refine m_iload_n 55 dX1_besideInTriangles_54 rfl rfl ?_
      refine i_const 56 dX1_besideInTriangles_55 rfl ?_
      refine i_add 57 dX1_besideInTriangles_56 rfl ?_
      refine m_iload_n 58 dX1_besideInTriangles_57 rfl rfl ?_
      refine m_cV (M' := MX1_placeAt) 61 [_, _] kX1_58 imX1_placeAt seX1_placeAt clX1_placeAt dX1_besideInTriangles_58 rfl rfl rfl (by first | rfl | assumption) (m_rmI (by omega) (Nat.le_of_ble_eq_true rfl) (Nat.le_refl _) (Nat.le_refl _)) (c_X1_placeAt hG d h2 hFF ⟨by omega, by omega⟩ ⟨by omega, by omega⟩) ?_
      refine i_ret _ dX1_besideInTriangles_61 rfl ⟨Nat.le_refl _, Nat.le_refl _⟩ ?_ ⟨rfl, rfl⟩
      unfold trS; rw [if_neg (by decide), if_pos rfl]
      try (first | rfl | (congr 1 <;> omega) | ((repeat' split) <;> first | rfl | omega | (congr 1 <;> omega)))
    · refine i_const 9 dX1_besideInTriangles_8 rfl ?_
      refine m_goto 13 dX1_besideInTriangles_9 (by decide) ?_
      refine m_istore 15 dX1_besideInTriangles_13 rfl (by decide) ?_
      refine m_iload_n 16 dX1_besideInTriangles_15 rfl rfl ?_
      refine i_tableIn 53 ⟨by omega, by omega⟩ dX1_besideInTriangles_16 (by decide) (by decide) rfl (by decide) ?_
      refine m_aload_n 54 dX1_besideInTriangles_53 rfl rfl ?_
      refine m_iload_n 55 dX1_besideInTriangles_54 rfl rfl ?_
      refine i_const 56 dX1_besideInTriangles_55 rfl ?_
      refine i_add 57 dX1_besideInTriangles_56 rfl ?_
      refine m_iload_n 58 dX1_besideInTriangles_57 rfl rfl ?_
      refine m_cV (M' := MX1_placeAt) 61 [_, _] kX1_58 imX1_placeAt seX1_placeAt clX1_placeAt dX1_besideInTriangles_58 rfl rfl rfl (by first | rfl | assumption) (m_rmI (by omega) (Nat.le_of_ble_eq_true rfl) (Nat.le_refl _) (Nat.le_refl _)) (c_X1_placeAt hG d h2 hFF ⟨by omega, by omega⟩ ⟨by omega, by omega⟩) ?_
      refine i_ret _ dX1_besideInTriangles_61 rfl ⟨Nat.le_refl _, Nat.le_refl _⟩ ?_ ⟨rfl, rfl⟩
      unfold trS; rw [if_neg (by decide), if_pos rfl]
      try (first | rfl | (congr 1 <;> omega) | ((repeat' split) <;> first | rfl | omega | (congr 1 <;> omega)))
  · refine m_iload_n 1 dX1_besideInTriangles_0 rfl rfl ?_
    refine m_iload_n 2 dX1_besideInTriangles_1 rfl rfl ?_
    refine i_add 3 dX1_besideInTriangles_2 rfl ?_
    refine i_const 4 dX1_besideInTriangles_3 rfl ?_
    refine i_and 5 1 dX1_besideInTriangles_4 rfl ⟨by omega, by omega⟩ (by decide) ?_
    refine i_if_ne 8 12 ⟨by omega, by omega⟩ dX1_besideInTriangles_5 rfl (by decide) (fun q5 => ?_) (fun q5 => ?_)
    · refine i_const 13 dX1_besideInTriangles_12 rfl ?_
      refine m_istore 15 dX1_besideInTriangles_13 rfl (by decide) ?_
      refine m_iload_n 16 dX1_besideInTriangles_15 rfl rfl ?_
      refine i_tableIn 62 ⟨by omega, by omega⟩ dX1_besideInTriangles_16 (by decide) (by decide) rfl (by decide) ?_
      refine m_aload_n 63 dX1_besideInTriangles_62 rfl rfl ?_
      refine m_iload_n 64 dX1_besideInTriangles_63 rfl rfl ?_
      refine m_iload 66 dX1_besideInTriangles_64 rfl rfl ?_
      refine i_if_eq 69 75 ⟨by omega, by omega⟩ dX1_besideInTriangles_66 rfl (by decide) (fun _ => ?_) (fun h => absurd h (by decide))
      refine m_iload_n 76 dX1_besideInTriangles_75 rfl rfl ?_
      refine i_const 77 dX1_besideInTriangles_76 rfl ?_
      refine i_sub 78 dX1_besideInTriangles_77 rfl ?_
      refine m_cV (M' := MX1_placeAt) 81 [_, _] kX1_58 imX1_placeAt seX1_placeAt clX1_placeAt dX1_besideInTriangles_78 rfl rfl rfl (by first | rfl | assumption) (m_rmI (by omega) (Nat.le_of_ble_eq_true rfl) (Nat.le_refl _) (Nat.le_refl _)) (c_X1_placeAt hG d h2 hFF ⟨by omega, by omega⟩ ⟨by omega, by omega⟩) ?_
      refine i_ret _ dX1_besideInTriangles_81 rfl ⟨Nat.le_refl _, Nat.le_refl _⟩ ?_ ⟨rfl, rfl⟩
      unfold trS; rw [if_neg (by decide), if_neg (by decide), if_pos rfl]
      try (first | rfl | (congr 1 <;> omega) | ((repeat' split) <;> first | rfl | omega | (congr 1 <;> omega)))
    · refine i_const 9 dX1_besideInTriangles_8 rfl ?_
      refine m_goto 13 dX1_besideInTriangles_9 (by decide) ?_
      refine m_istore 15 dX1_besideInTriangles_13 rfl (by decide) ?_
      refine m_iload_n 16 dX1_besideInTriangles_15 rfl rfl ?_
      refine i_tableIn 62 ⟨by omega, by omega⟩ dX1_besideInTriangles_16 (by decide) (by decide) rfl (by decide) ?_
      refine m_aload_n 63 dX1_besideInTriangles_62 rfl rfl ?_
      refine m_iload_n 64 dX1_besideInTriangles_63 rfl rfl ?_
      refine m_iload 66 dX1_besideInTriangles_64 rfl rfl ?_
      refine i_if_eq 69 75 ⟨by omega, by omega⟩ dX1_besideInTriangles_66 rfl (by decide) (fun h => absurd h (by decide)) (fun _ => ?_)
      refine m_iload_n 70 dX1_besideInTriangles_69 rfl rfl ?_
      refine i_const 71 dX1_besideInTriangles_70 rfl ?_
      refine i_add 72 dX1_besideInTriangles_71 rfl ?_
      refine m_goto 78 dX1_besideInTriangles_72 (by decide) ?_
      refine m_cV (M' := MX1_placeAt) 81 [_, _] kX1_58 imX1_placeAt seX1_placeAt clX1_placeAt dX1_besideInTriangles_78 rfl rfl rfl (by first | rfl | assumption) (m_rmI (by omega) (Nat.le_of_ble_eq_true rfl) (Nat.le_refl _) (Nat.le_refl _)) (c_X1_placeAt hG d h2 hFF ⟨by omega, by omega⟩ ⟨by omega, by omega⟩) ?_
      refine i_ret _ dX1_besideInTriangles_81 rfl ⟨Nat.le_refl _, Nat.le_refl _⟩ ?_ ⟨rfl, rfl⟩
      unfold trS; rw [if_neg (by decide), if_neg (by decide), if_pos rfl]
      try (first | rfl | (congr 1 <;> omega) | ((repeat' split) <;> first | rfl | omega | (congr 1 <;> omega)))
  · refine m_iload_n 1 dX1_besideInTriangles_0 rfl rfl ?_
    refine m_iload_n 2 dX1_besideInTriangles_1 rfl rfl ?_
    refine i_add 3 dX1_besideInTriangles_2 rfl ?_
    refine i_const 4 dX1_besideInTriangles_3 rfl ?_
    refine i_and 5 1 dX1_besideInTriangles_4 rfl ⟨by omega, by omega⟩ (by decide) ?_
    refine i_if_ne 8 12 ⟨by omega, by omega⟩ dX1_besideInTriangles_5 rfl (by decide) (fun q5 => ?_) (fun q5 => ?_)
    · refine i_const 13 dX1_besideInTriangles_12 rfl ?_
      refine m_istore 15 dX1_besideInTriangles_13 rfl (by decide) ?_
      refine m_iload_n 16 dX1_besideInTriangles_15 rfl rfl ?_
      refine i_tableOut 82 ⟨by omega, by omega⟩ dX1_besideInTriangles_16 (by omega) (by decide) ?_
      refine i_const 83 dX1_besideInTriangles_82 rfl ?_
      refine i_ret _ dX1_besideInTriangles_83 rfl ⟨Nat.le_refl _, Nat.le_refl _⟩ ?_ ⟨rfl, rfl⟩
      unfold trS; rw [if_neg (by omega), if_neg (by omega), if_neg (by omega)]
    · refine i_const 9 dX1_besideInTriangles_8 rfl ?_
      refine m_goto 13 dX1_besideInTriangles_9 (by decide) ?_
      refine m_istore 15 dX1_besideInTriangles_13 rfl (by decide) ?_
      refine m_iload_n 16 dX1_besideInTriangles_15 rfl rfl ?_
      refine i_tableOut 82 ⟨by omega, by omega⟩ dX1_besideInTriangles_16 (by omega) (by decide) ?_
      refine i_const 83 dX1_besideInTriangles_82 rfl ?_
      refine i_ret _ dX1_besideInTriangles_83 rfl ⟨Nat.le_refl _, Nat.le_refl _⟩ ?_ ⟨rfl, rfl⟩
      unfold trS; rw [if_neg (by omega), if_neg (by omega), if_neg (by omega)]
set_option maxHeartbeats 4000000 in
set_option maxRecDepth 100000 in
theorem c_X1_besideInRings (hG : m_G G) (d : Nat) {k W H x y s : Int} {n : Nat} (h2 : w[2]? = some (oFrame k W H n)) (hF : fOK k W H n) (hxy : 0 ≤ x ∧ x < W ∧ 0 ≤ y ∧ y < H) (hs : 0 ≤ s ∧ s < 256) : m_Cv G MX1_besideInRings (m_r (d + 1) 0 0) [.ref 2, vI x, vI y, vI s] w (some (vI (rgS W H x y s))) w := by
  have hFF := hF
  have hnb := hF.n
  obtain ⟨hk0, hk4, hW1, hW2, hH1, hH2, hn, hg4⟩ := hF
  refine m_enter (L := [some (.ref 2), some (vI x), some (vI y), some (vI s)]) (by decide) hG (m_c1 rfl) (Nat.le_of_ble_eq_true rfl) rfl ?_
  rcases (by omega : s = 0 ∨ s = 1 ∨ s = 2 ∨ s = 3 ∨ 3 < s) with rfl | rfl | rfl | rfl | hso
  · refine m_iload_n 1 dX1_besideInRings_0 rfl rfl ?_
    refine i_tableIn 32 ⟨by omega, by omega⟩ dX1_besideInRings_1 (by decide) (by decide) rfl (by decide) ?_
    refine m_aload_n 33 dX1_besideInRings_32 rfl rfl ?_
    refine m_iload_n 34 dX1_besideInRings_33 rfl rfl ?_
    refine m_iload_n 35 dX1_besideInRings_34 rfl rfl ?_
    refine i_const 36 dX1_besideInRings_35 rfl ?_
    refine i_sub 37 dX1_besideInRings_36 rfl ?_
    refine m_cV (M' := MX1_placeAt) 40 [_, _] kX1_58 imX1_placeAt seX1_placeAt clX1_placeAt dX1_besideInRings_37 rfl rfl rfl (by first | rfl | assumption) (m_rmI (by omega) (Nat.le_of_ble_eq_true rfl) (Nat.le_refl _) (Nat.le_refl _)) (c_X1_placeAt hG d h2 hFF ⟨by omega, by omega⟩ ⟨by omega, by omega⟩) ?_
    refine i_ret _ dX1_besideInRings_40 rfl ⟨Nat.le_refl _, Nat.le_refl _⟩ ?_ ⟨rfl, rfl⟩
    unfold rgS; rw [if_pos rfl]
    try (first | rfl | (congr 1 <;> omega) | ((repeat' split) <;> first | rfl | omega | (congr 1 <;> omega)))
  · refine m_iload_n 1 dX1_besideInRings_0 rfl rfl ?_
    refine i_tableIn 41 ⟨by omega, by omega⟩ dX1_besideInRings_1 (by decide) (by decide) rfl (by decide) ?_
    refine m_aload_n 42 dX1_besideInRings_41 rfl rfl ?_
    refine m_getf 45 foX1_19 dX1_besideInRings_42 rfl (by first | rfl | assumption) (by rfl) ?_
    refine i_const 46 dX1_besideInRings_45 rfl ?_
    refine i_icmp_ge 49 53 ⟨by omega, by omega⟩ ⟨by omega, by omega⟩ dX1_besideInRings_46 rfl (by decide) (fun q46 => ?_) (fun q46 => ?_)
    · refine m_aload_n 54 dX1_besideInRings_53 rfl rfl ?_
      refine m_iload_n 55 dX1_besideInRings_54 rfl rfl ?_
      refine m_aload_n 56 dX1_besideInRings_55 rfl rfl ?_
      refine m_getf 59 foX1_19 dX1_besideInRings_56 rfl (by first | rfl | assumption) (by rfl) ?_
      refine i_const 60 dX1_besideInRings_59 rfl ?_
      refine i_sub 61 dX1_besideInRings_60 rfl ?_
      refine i_icmp_ne 64 68 ⟨by omega, by omega⟩ ⟨by omega, by omega⟩ dX1_besideInRings_61 rfl (by decide) (fun q61 => ?_) (fun q61 => ?_)
      · refine m_iload_n 69 dX1_besideInRings_68 rfl rfl ?_
        refine i_const 70 dX1_besideInRings_69 rfl ?_
        refine i_add 71 dX1_besideInRings_70 rfl ?_
        refine m_iload_n 72 dX1_besideInRings_71 rfl rfl ?_
        refine m_cV (M' := MX1_placeAt) 75 [_, _] kX1_58 imX1_placeAt seX1_placeAt clX1_placeAt dX1_besideInRings_72 rfl rfl rfl (by first | rfl | assumption) (m_rmI (by omega) (Nat.le_of_ble_eq_true rfl) (Nat.le_refl _) (Nat.le_refl _)) (c_X1_placeAt hG d h2 hFF ⟨by omega, by omega⟩ ⟨by omega, by omega⟩) ?_
        refine i_ret _ dX1_besideInRings_75 rfl ⟨Nat.le_refl _, Nat.le_refl _⟩ ?_ ⟨rfl, rfl⟩
        unfold rgS; rw [if_neg (by decide), if_pos rfl]
        try (first | rfl | (congr 1 <;> omega) | ((repeat' split) <;> first | rfl | omega | (congr 1 <;> omega)))
      · refine i_const 65 dX1_besideInRings_64 rfl ?_
        refine m_goto 71 dX1_besideInRings_65 (by decide) ?_
        refine m_iload_n 72 dX1_besideInRings_71 rfl rfl ?_
        refine m_cV (M' := MX1_placeAt) 75 [_, _] kX1_58 imX1_placeAt seX1_placeAt clX1_placeAt dX1_besideInRings_72 rfl rfl rfl (by first | rfl | assumption) (m_rmI (by omega) (Nat.le_of_ble_eq_true rfl) (Nat.le_refl _) (Nat.le_refl _)) (c_X1_placeAt hG d h2 hFF ⟨by omega, by omega⟩ ⟨by omega, by omega⟩) ?_
        refine i_ret _ dX1_besideInRings_75 rfl ⟨Nat.le_refl _, Nat.le_refl _⟩ ?_ ⟨rfl, rfl⟩
        unfold rgS; rw [if_neg (by decide), if_pos rfl]
        try (first | rfl | (congr 1 <;> omega) | ((repeat' split) <;> first | rfl | omega | (congr 1 <;> omega)))
    · refine i_const 50 dX1_besideInRings_49 rfl ?_
      refine m_goto 75 dX1_besideInRings_50 (by decide) ?_
      refine i_ret _ dX1_besideInRings_75 rfl ⟨Nat.le_refl _, Nat.le_refl _⟩ ?_ ⟨rfl, rfl⟩
      unfold rgS; rw [if_neg (by decide), if_pos rfl]
      try (first | rfl | (congr 1 <;> omega) | ((repeat' split) <;> first | rfl | omega | (congr 1 <;> omega)))
  · refine m_iload_n 1 dX1_besideInRings_0 rfl rfl ?_
    refine i_tableIn 76 ⟨by omega, by omega⟩ dX1_besideInRings_1 (by decide) (by decide) rfl (by decide) ?_
    refine m_aload_n 77 dX1_besideInRings_76 rfl rfl ?_
    refine m_iload_n 78 dX1_besideInRings_77 rfl rfl ?_
    refine m_iload_n 79 dX1_besideInRings_78 rfl rfl ?_
    refine i_const 80 dX1_besideInRings_79 rfl ?_
    refine i_add 81 dX1_besideInRings_80 rfl ?_
    refine m_cV (M' := MX1_placeAt) 84 [_, _] kX1_58 imX1_placeAt seX1_placeAt clX1_placeAt dX1_besideInRings_81 rfl rfl rfl (by first | rfl | assumption) (m_rmI (by omega) (Nat.le_of_ble_eq_true rfl) (Nat.le_refl _) (Nat.le_refl _)) (c_X1_placeAt hG d h2 hFF ⟨by omega, by omega⟩ ⟨by omega, by omega⟩) ?_
    refine i_ret _ dX1_besideInRings_84 rfl ⟨Nat.le_refl _, Nat.le_refl _⟩ ?_ ⟨rfl, rfl⟩
    unfold rgS; rw [if_neg (by decide), if_neg (by decide), if_pos rfl]
    try (first | rfl | (congr 1 <;> omega) | ((repeat' split) <;> first | rfl | omega | (congr 1 <;> omega)))
  · refine m_iload_n 1 dX1_besideInRings_0 rfl rfl ?_
    refine i_tableIn 85 ⟨by omega, by omega⟩ dX1_besideInRings_1 (by decide) (by decide) rfl (by decide) ?_
    refine m_aload_n 86 dX1_besideInRings_85 rfl rfl ?_
    refine m_getf 89 foX1_19 dX1_besideInRings_86 rfl (by first | rfl | assumption) (by rfl) ?_
    refine i_const 90 dX1_besideInRings_89 rfl ?_
    refine i_icmp_ge 93 97 ⟨by omega, by omega⟩ ⟨by omega, by omega⟩ dX1_besideInRings_90 rfl (by decide) (fun q90 => ?_) (fun q90 => ?_)
    · refine m_aload_n 98 dX1_besideInRings_97 rfl rfl ?_
      refine m_iload_n 99 dX1_besideInRings_98 rfl rfl ?_
      refine i_if_ne 102 111 ⟨by omega, by omega⟩ dX1_besideInRings_99 rfl (by decide) (fun q99 => ?_) (fun q99 => ?_)
      · refine m_iload_n 112 dX1_besideInRings_111 rfl rfl ?_
        refine i_const 113 dX1_besideInRings_112 rfl ?_
        refine i_sub 114 dX1_besideInRings_113 rfl ?_
        refine m_iload_n 115 dX1_besideInRings_114 rfl rfl ?_
        refine m_cV (M' := MX1_placeAt) 118 [_, _] kX1_58 imX1_placeAt seX1_placeAt clX1_placeAt dX1_besideInRings_115 rfl rfl rfl (by first | rfl | assumption) (m_rmI (by omega) (Nat.le_of_ble_eq_true rfl) (Nat.le_refl _) (Nat.le_refl _)) (c_X1_placeAt hG d h2 hFF ⟨by omega, by omega⟩ ⟨by omega, by omega⟩) ?_
        refine i_ret _ dX1_besideInRings_118 rfl ⟨Nat.le_refl _, Nat.le_refl _⟩ ?_ ⟨rfl, rfl⟩
        unfold rgS; rw [if_neg (by decide), if_neg (by decide), if_neg (by decide), if_pos rfl]
        try (first | rfl | (congr 1 <;> omega) | ((repeat' split) <;> first | rfl | omega | (congr 1 <;> omega)))
      · refine m_aload_n 103 dX1_besideInRings_102 rfl rfl ?_
        refine m_getf 106 foX1_19 dX1_besideInRings_103 rfl (by first | rfl | assumption) (by rfl) ?_
        refine i_const 107 dX1_besideInRings_106 rfl ?_
        refine i_sub 108 dX1_besideInRings_107 rfl ?_
        refine m_goto 114 dX1_besideInRings_108 (by decide) ?_
        refine m_iload_n 115 dX1_besideInRings_114 rfl rfl ?_
        refine m_cV (M' := MX1_placeAt) 118 [_, _] kX1_58 imX1_placeAt seX1_placeAt clX1_placeAt dX1_besideInRings_115 rfl rfl rfl (by first | rfl | assumption) (m_rmI (by omega) (Nat.le_of_ble_eq_true rfl) (Nat.le_refl _) (Nat.le_refl _)) (c_X1_placeAt hG d h2 hFF ⟨by omega, by omega⟩ ⟨by omega, by omega⟩) ?_
        refine i_ret _ dX1_besideInRings_118 rfl ⟨Nat.le_refl _, Nat.le_refl _⟩ ?_ ⟨rfl, rfl⟩
        unfold rgS; rw [if_neg (by decide), if_neg (by decide), if_neg (by decide), if_pos rfl]
        try (first | rfl | (congr 1 <;> omega) | ((repeat' split) <;> first | rfl | omega | (congr 1 <;> omega)))
    · refine i_const 94 dX1_besideInRings_93 rfl ?_
      refine m_goto 118 dX1_besideInRings_94 (by decide) ?_
      refine i_ret _ dX1_besideInRings_118 rfl ⟨Nat.le_refl _, Nat.le_refl _⟩ ?_ ⟨rfl, rfl⟩
      unfold rgS; rw [if_neg (by decide), if_neg (by decide), if_neg (by decide), if_pos rfl]
      try (first | rfl | (congr 1 <;> omega) | ((repeat' split) <;> first | rfl | omega | (congr 1 <;> omega)))
  · refine m_iload_n 1 dX1_besideInRings_0 rfl rfl ?_
    refine i_tableOut 119 ⟨by omega, by omega⟩ dX1_besideInRings_1 (by omega) (by decide) ?_
    refine i_const 120 dX1_besideInRings_119 rfl ?_
    refine i_ret _ dX1_besideInRings_120 rfl ⟨Nat.le_refl _, Nat.le_refl _⟩ ?_ ⟨rfl, rfl⟩
    unfold rgS; rw [if_neg (by omega), if_neg (by omega), if_neg (by omega), if_neg (by omega)]
set_option maxHeartbeats 4000000 in
set_option maxRecDepth 100000 in
theorem c_X1_firstBeside (hG : m_G G) (d : Nat) {k W H z s : Int} {n : Nat} {col row : Nat → Int} (h2 : w[2]? = some (oFrame k W H n)) (hF : fOK k W H n) (h3 : w[3]? = some (cI n col)) (h4 : w[4]? = some (cI n row)) (hz : 0 ≤ z ∧ z < n) (hxy : 0 ≤ col z.toNat ∧ col z.toNat < W ∧ 0 ≤ row z.toNat ∧ row z.toNat < H) (hs : 0 ≤ s ∧ s < 256) : m_Cv G MX1_firstBeside (m_r (d + 2) 0 0) [.ref 2, vI z, vI s] w (some (vI (stp k W H (col z.toNat) (row z.toNat) s))) w := by
  have hFF := hF
  have hnb := hF.n
  obtain ⟨hk0, hk4, hW1, hW2, hH1, hH2, hn, hg4⟩ := hF
  refine m_enter (L := [some (.ref 2), some (vI z), some (vI s), none, none]) (by decide) hG (m_c1 rfl) (Nat.le_of_ble_eq_true rfl) rfl ?_
  rcases (by omega : k = 0 ∨ k = 1 ∨ k = 2 ∨ k = 3 ∨ k = 4) with rfl | rfl | rfl | rfl | rfl
  · refine m_aload_n 1 dX1_firstBeside_0 rfl rfl ?_
    refine m_iload_n 2 dX1_firstBeside_1 rfl rfl ?_
    refine m_cV (M' := MX1_columnOf) 5 [_] kX1_39 imX1_columnOf seX1_columnOf clX1_columnOf dX1_firstBeside_2 rfl rfl rfl (by first | rfl | assumption) (m_rmI (by omega) (Nat.le_of_ble_eq_true rfl) (Nat.le_refl _) (Nat.le_refl _)) (c_X1_columnOf hG d h2 hFF h3 hz) ?_
    refine m_istore_n 6 dX1_firstBeside_5 rfl (by decide) ?_
    refine m_aload_n 7 dX1_firstBeside_6 rfl rfl ?_
    refine m_iload_n 8 dX1_firstBeside_7 rfl rfl ?_
    refine m_cV (M' := MX1_rowOf) 11 [_] kX1_43 imX1_rowOf seX1_rowOf clX1_rowOf dX1_firstBeside_8 rfl rfl rfl (by first | rfl | assumption) (m_rmI (by omega) (Nat.le_of_ble_eq_true rfl) (Nat.le_refl _) (Nat.le_refl _)) (c_X1_rowOf hG d h2 hFF h4 hz) ?_
    refine m_istore 13 dX1_firstBeside_11 rfl (by decide) ?_
    refine m_aload_n 14 dX1_firstBeside_13 rfl rfl ?_
    refine m_getf 17 foX1_13 dX1_firstBeside_14 rfl (by first | rfl | assumption) (by rfl) ?_
    refine i_tableIn 48 ⟨by omega, by omega⟩ dX1_firstBeside_17 (by decide) (by decide) rfl (by decide) ?_
    refine m_aload_n 49 dX1_firstBeside_48 rfl rfl ?_
    refine m_iload_n 50 dX1_firstBeside_49 rfl rfl ?_
    refine m_iload 52 dX1_firstBeside_50 rfl rfl ?_
    refine m_iload_n 53 dX1_firstBeside_52 rfl rfl ?_
    refine m_cV (M' := MX1_besideInSquares) 56 [_, _, _] kX1_46 imX1_besideInSquares seX1_besideInSquares clX1_besideInSquares dX1_firstBeside_53 rfl rfl rfl (by first | rfl | assumption) (m_rmI (by omega) (Nat.le_of_ble_eq_true rfl) (Nat.le_refl _) (Nat.le_refl _)) (c_X1_besideInSquares hG d h2 hFF hxy hs) ?_
    refine i_ret _ dX1_firstBeside_56 rfl ⟨Nat.le_refl _, Nat.le_refl _⟩ ?_ ⟨rfl, rfl⟩
    rfl
  · refine m_aload_n 1 dX1_firstBeside_0 rfl rfl ?_
    refine m_iload_n 2 dX1_firstBeside_1 rfl rfl ?_
    refine m_cV (M' := MX1_columnOf) 5 [_] kX1_39 imX1_columnOf seX1_columnOf clX1_columnOf dX1_firstBeside_2 rfl rfl rfl (by first | rfl | assumption) (m_rmI (by omega) (Nat.le_of_ble_eq_true rfl) (Nat.le_refl _) (Nat.le_refl _)) (c_X1_columnOf hG d h2 hFF h3 hz) ?_
    refine m_istore_n 6 dX1_firstBeside_5 rfl (by decide) ?_
    refine m_aload_n 7 dX1_firstBeside_6 rfl rfl ?_
    refine m_iload_n 8 dX1_firstBeside_7 rfl rfl ?_
    refine m_cV (M' := MX1_rowOf) 11 [_] kX1_43 imX1_rowOf seX1_rowOf clX1_rowOf dX1_firstBeside_8 rfl rfl rfl (by first | rfl | assumption) (m_rmI (by omega) (Nat.le_of_ble_eq_true rfl) (Nat.le_refl _) (Nat.le_refl _)) (c_X1_rowOf hG d h2 hFF h4 hz) ?_
    refine m_istore 13 dX1_firstBeside_11 rfl (by decide) ?_
    refine m_aload_n 14 dX1_firstBeside_13 rfl rfl ?_
    refine m_getf 17 foX1_13 dX1_firstBeside_14 rfl (by first | rfl | assumption) (by rfl) ?_
    refine i_tableIn 57 ⟨by omega, by omega⟩ dX1_firstBeside_17 (by decide) (by decide) rfl (by decide) ?_
    refine m_aload_n 58 dX1_firstBeside_57 rfl rfl ?_
    refine m_iload_n 59 dX1_firstBeside_58 rfl rfl ?_
    refine m_iload 61 dX1_firstBeside_59 rfl rfl ?_
    refine m_iload_n 62 dX1_firstBeside_61 rfl rfl ?_
    refine m_cV (M' := MX1_besideInHexes) 65 [_, _, _] kX1_49 imX1_besideInHexes seX1_besideInHexes clX1_besideInHexes dX1_firstBeside_62 rfl rfl rfl (by first | rfl | assumption) (m_rmI (by omega) (Nat.le_of_ble_eq_true rfl) (Nat.le_refl _) (Nat.le_refl _)) (c_X1_besideInHexes hG d h2 hFF hxy hs) ?_
    refine i_ret _ dX1_firstBeside_65 rfl ⟨Nat.le_refl _, Nat.le_refl _⟩ ?_ ⟨rfl, rfl⟩
    rfl
  · refine m_aload_n 1 dX1_firstBeside_0 rfl rfl ?_
    refine m_iload_n 2 dX1_firstBeside_1 rfl rfl ?_
    refine m_cV (M' := MX1_columnOf) 5 [_] kX1_39 imX1_columnOf seX1_columnOf clX1_columnOf dX1_firstBeside_2 rfl rfl rfl (by first | rfl | assumption) (m_rmI (by omega) (Nat.le_of_ble_eq_true rfl) (Nat.le_refl _) (Nat.le_refl _)) (c_X1_columnOf hG d h2 hFF h3 hz) ?_
    refine m_istore_n 6 dX1_firstBeside_5 rfl (by decide) ?_
    refine m_aload_n 7 dX1_firstBeside_6 rfl rfl ?_
    refine m_iload_n 8 dX1_firstBeside_7 rfl rfl ?_
    refine m_cV (M' := MX1_rowOf) 11 [_] kX1_43 imX1_rowOf seX1_rowOf clX1_rowOf dX1_firstBeside_8 rfl rfl rfl (by first | rfl | assumption) (m_rmI (by omega) (Nat.le_of_ble_eq_true rfl) (Nat.le_refl _) (Nat.le_refl _)) (c_X1_rowOf hG d h2 hFF h4 hz) ?_
    refine m_istore 13 dX1_firstBeside_11 rfl (by decide) ?_
    refine m_aload_n 14 dX1_firstBeside_13 rfl rfl ?_
    refine m_getf 17 foX1_13 dX1_firstBeside_14 rfl (by first | rfl | assumption) (by rfl) ?_
    refine i_tableIn 66 ⟨by omega, by omega⟩ dX1_firstBeside_17 (by decide) (by decide) rfl (by decide) ?_
    refine m_aload_n 67 dX1_firstBeside_66 rfl rfl ?_
    refine m_iload_n 68 dX1_firstBeside_67 rfl rfl ?_
    refine m_iload 70 dX1_firstBeside_68 rfl rfl ?_
    refine m_iload_n 71 dX1_firstBeside_70 rfl rfl ?_
    refine m_cV (M' := MX1_besideInTriangles) 74 [_, _, _] kX1_52 imX1_besideInTriangles seX1_besideInTriangles clX1_besideInTriangles dX1_firstBeside_71 rfl rfl rfl (by first | rfl | assumption) (m_rmI (by omega) (Nat.le_of_ble_eq_true rfl) (Nat.le_refl _) (Nat.le_refl _)) (c_X1_besideInTriangles hG d h2 hFF hxy hs) ?_
    refine i_ret _ dX1_firstBeside_74 rfl ⟨Nat.le_refl _, Nat.le_refl _⟩ ?_ ⟨rfl, rfl⟩
    rfl
  · refine m_aload_n 1 dX1_firstBeside_0 rfl rfl ?_
    refine m_iload_n 2 dX1_firstBeside_1 rfl rfl ?_
    refine m_cV (M' := MX1_columnOf) 5 [_] kX1_39 imX1_columnOf seX1_columnOf clX1_columnOf dX1_firstBeside_2 rfl rfl rfl (by first | rfl | assumption) (m_rmI (by omega) (Nat.le_of_ble_eq_true rfl) (Nat.le_refl _) (Nat.le_refl _)) (c_X1_columnOf hG d h2 hFF h3 hz) ?_
    refine m_istore_n 6 dX1_firstBeside_5 rfl (by decide) ?_
    refine m_aload_n 7 dX1_firstBeside_6 rfl rfl ?_
    refine m_iload_n 8 dX1_firstBeside_7 rfl rfl ?_
    refine m_cV (M' := MX1_rowOf) 11 [_] kX1_43 imX1_rowOf seX1_rowOf clX1_rowOf dX1_firstBeside_8 rfl rfl rfl (by first | rfl | assumption) (m_rmI (by omega) (Nat.le_of_ble_eq_true rfl) (Nat.le_refl _) (Nat.le_refl _)) (c_X1_rowOf hG d h2 hFF h4 hz) ?_
    refine m_istore 13 dX1_firstBeside_11 rfl (by decide) ?_
    refine m_aload_n 14 dX1_firstBeside_13 rfl rfl ?_
    refine m_getf 17 foX1_13 dX1_firstBeside_14 rfl (by first | rfl | assumption) (by rfl) ?_
    refine i_tableIn 75 ⟨by omega, by omega⟩ dX1_firstBeside_17 (by decide) (by decide) rfl (by decide) ?_
    refine m_aload_n 76 dX1_firstBeside_75 rfl rfl ?_
    refine m_iload_n 77 dX1_firstBeside_76 rfl rfl ?_
    refine m_iload 79 dX1_firstBeside_77 rfl rfl ?_
    refine m_iload_n 80 dX1_firstBeside_79 rfl rfl ?_
    refine m_cV (M' := MX1_besideInRings) 83 [_, _, _] kX1_55 imX1_besideInRings seX1_besideInRings clX1_besideInRings dX1_firstBeside_80 rfl rfl rfl (by first | rfl | assumption) (m_rmI (by omega) (Nat.le_of_ble_eq_true rfl) (Nat.le_refl _) (Nat.le_refl _)) (c_X1_besideInRings hG d h2 hFF hxy hs) ?_
    refine i_ret _ dX1_firstBeside_83 rfl ⟨Nat.le_refl _, Nat.le_refl _⟩ ?_ ⟨rfl, rfl⟩
    rfl
  · refine m_aload_n 1 dX1_firstBeside_0 rfl rfl ?_
    refine m_iload_n 2 dX1_firstBeside_1 rfl rfl ?_
    refine m_cV (M' := MX1_columnOf) 5 [_] kX1_39 imX1_columnOf seX1_columnOf clX1_columnOf dX1_firstBeside_2 rfl rfl rfl (by first | rfl | assumption) (m_rmI (by omega) (Nat.le_of_ble_eq_true rfl) (Nat.le_refl _) (Nat.le_refl _)) (c_X1_columnOf hG d h2 hFF h3 hz) ?_
    refine m_istore_n 6 dX1_firstBeside_5 rfl (by decide) ?_
    refine m_aload_n 7 dX1_firstBeside_6 rfl rfl ?_
    refine m_iload_n 8 dX1_firstBeside_7 rfl rfl ?_
    refine m_cV (M' := MX1_rowOf) 11 [_] kX1_43 imX1_rowOf seX1_rowOf clX1_rowOf dX1_firstBeside_8 rfl rfl rfl (by first | rfl | assumption) (m_rmI (by omega) (Nat.le_of_ble_eq_true rfl) (Nat.le_refl _) (Nat.le_refl _)) (c_X1_rowOf hG d h2 hFF h4 hz) ?_
    refine m_istore 13 dX1_firstBeside_11 rfl (by decide) ?_
    refine m_aload_n 14 dX1_firstBeside_13 rfl rfl ?_
    refine m_getf 17 foX1_13 dX1_firstBeside_14 rfl (by first | rfl | assumption) (by rfl) ?_
    refine i_tableOut 84 ⟨by omega, by omega⟩ dX1_firstBeside_17 (by decide) (by decide) ?_
    refine i_const 85 dX1_firstBeside_84 rfl ?_
    refine i_ret _ dX1_firstBeside_85 rfl ⟨Nat.le_refl _, Nat.le_refl _⟩ ?_ ⟨rfl, rfl⟩
    rfl
end FR
end
section
/-! Net: who lies beside whom, and the walls -/
section NT
variable {G : mG} {w : List mC}
abbrev oNet (n sl : Nat) : mC := mO 2 [vI sl, vI n, .ref 6, .ref 7]
def nOK (n sl m : Nat) : Prop := 1 ≤ n ∧ n ≤ 256 ∧ 1 ≤ sl ∧ sl ≤ 256 ∧ (m : Int) = (n : Int) * sl ∧ m ≤ 65536
theorem nIx {n sl m : Nat} (h : nOK n sl m) {p s : Int} (hp : 0 ≤ p ∧ p < n) (hs : 0 ≤ s ∧ s < sl) : 0 ≤ p * sl + s ∧ p * sl + s < m := by
  obtain ⟨h1, h2, h3, h4, h5, h6⟩ := h
  have a : (p + 1) * (sl : Int) ≤ (n : Int) * sl := Int.mul_le_mul_of_nonneg_right (by omega) (by omega)
  have b : 0 ≤ p * (sl : Int) := Int.mul_nonneg hp.1 (by omega)
  rw [Int.add_mul, Int.one_mul] at a
  omega
/-- the slot's content -/
def bAt (sl : Nat) (f : Nat → Int) (p s : Int) : Int := f (p * sl + s).toNat
def wAt (sl : Nat) (f : Nat → Bool) (p s : Int) : Bool := f (p * sl + s).toNat
def oAt (sl : Nat) (f : Nat → Int) (g : Nat → Bool) (p s : Int) : Int := if wAt sl g p s then -1 else bAt sl f p s
/-- the first i from i on, of so many, with P; -1 where there is none -/
def fndF (P : Int → Bool) : Nat → Int → Int
  | 0, _ => -1
  | k + 1, i => if P i then i else fndF P k (i + 1)

set_option maxHeartbeats 4000000 in
set_option maxRecDepth 100000 in
theorem c_X2_has (hG : m_G G) (d : Nat) {p s : Int} {n sl m : Nat} (h5 : w[5]? = some (oNet n sl)) (hN : nOK n sl m) (hp : iR p) (hs : iR s) : m_Cv G MX2_has (m_r d 0 0) [.ref 5, vI p, vI s] w (some (vB (inB p n && inB s sl))) w := by
  have hNN := hN
  obtain ⟨hn1, hn2, hl1, hl2, hm, hm2⟩ := hN
  obtain ⟨hp1, hp2⟩ := hp
  obtain ⟨hs1, hs2⟩ := hs
  refine m_enter (L := [some (.ref 5), some (vI p), some (vI s)]) (by decide) hG (m_c1 rfl) (Nat.le_of_ble_eq_true rfl) rfl ?_
  refine m_iload_n 1 dX2_has_0 rfl rfl ?_
  refine i_if_lt 4 28 ⟨by omega, by omega⟩ dX2_has_1 rfl (by decide) (fun q1 => ?_) (fun q1 => ?_)
  · refine i_const 29 dX2_has_28 rfl ?_
    refine i_retB _ dX2_has_29 rfl ⟨Nat.le_refl _, Nat.le_refl _⟩ ?_ ⟨rfl, rfl⟩
    refine i_eq0 ?_
    first | (rw [inB_0 (by omega)]; rfl) | (rw [Bool.and_comm, inB_0 (by omega)]; rfl)
  · refine m_iload_n 5 dX2_has_4 rfl rfl ?_
    refine m_aload_n 6 dX2_has_5 rfl rfl ?_
    refine m_getf 9 foX2_15 dX2_has_6 rfl (by first | rfl | assumption) (by rfl) ?_
    refine i_icmp_ge 12 28 ⟨by omega, by omega⟩ ⟨by omega, by omega⟩ dX2_has_9 rfl (by decide) (fun q9 => ?_) (fun q9 => ?_)
    · refine i_const 29 dX2_has_28 rfl ?_
      refine i_retB _ dX2_has_29 rfl ⟨Nat.le_refl _, Nat.le_refl _⟩ ?_ ⟨rfl, rfl⟩
      refine i_eq0 ?_
      first | (rw [inB_0 (by omega)]; rfl) | (rw [Bool.and_comm, inB_0 (by omega)]; rfl)
    · refine m_iload_n 13 dX2_has_12 rfl rfl ?_
      refine i_if_lt 16 28 ⟨by omega, by omega⟩ dX2_has_13 rfl (by decide) (fun q13 => ?_) (fun q13 => ?_)
      · refine i_const 29 dX2_has_28 rfl ?_
        refine i_retB _ dX2_has_29 rfl ⟨Nat.le_refl _, Nat.le_refl _⟩ ?_ ⟨rfl, rfl⟩
        refine i_eq0 ?_
        first | (rw [inB_0 (by omega)]; rfl) | (rw [Bool.and_comm, inB_0 (by omega)]; rfl)
      · refine m_iload_n 17 dX2_has_16 rfl rfl ?_
        refine m_aload_n 18 dX2_has_17 rfl rfl ?_
        refine m_getf 21 foX2_22 dX2_has_18 rfl (by first | rfl | assumption) (by rfl) ?_
        refine i_icmp_ge 24 28 ⟨by omega, by omega⟩ ⟨by omega, by omega⟩ dX2_has_21 rfl (by decide) (fun q21 => ?_) (fun q21 => ?_)
        · refine i_const 29 dX2_has_28 rfl ?_
          refine i_retB _ dX2_has_29 rfl ⟨Nat.le_refl _, Nat.le_refl _⟩ ?_ ⟨rfl, rfl⟩
          refine i_eq0 ?_
          first | (rw [inB_0 (by omega)]; rfl) | (rw [Bool.and_comm, inB_0 (by omega)]; rfl)
        · refine i_const 25 dX2_has_24 rfl ?_
          refine m_goto 29 dX2_has_25 (by decide) ?_
          refine i_retB _ dX2_has_29 rfl ⟨Nat.le_refl _, Nat.le_refl _⟩ ?_ ⟨rfl, rfl⟩
          refine i_eq1 ?_
          rw [inB_1 (by omega), inB_1 (by omega)]; rfl
set_option maxHeartbeats 4000000 in
set_option maxRecDepth 100000 in
theorem c_X2_besideAt (hG : m_G G) (d : Nat) {p s : Int} {n sl m : Nat} {f : Nat → Int} (h5 : w[5]? = some (oNet n sl)) (hN : nOK n sl m) (h6 : w[6]? = some (cI m f)) (hp : 0 ≤ p ∧ p < n) (hs : 0 ≤ s ∧ s < sl) : m_Cv G MX2_besideAt (m_r (d + 1) 0 0) [.ref 5, vI p, vI s] w (some (vI (bAt sl f p s))) w := by
  have hNN := hN
  obtain ⟨hn1, hn2, hl1, hl2, hm, hm2⟩ := hN
  have hix := nIx hNN hp hs
  refine m_enter (L := [some (.ref 5), some (vI p), some (vI s)]) (by decide) hG (m_c1 rfl) (Nat.le_of_ble_eq_true rfl) rfl ?_
  refine m_aload_n 1 dX2_besideAt_0 rfl rfl ?_
  refine m_iload_n 2 dX2_besideAt_1 rfl rfl ?_
  refine m_iload_n 3 dX2_besideAt_2 rfl rfl ?_
  refine m_cV (M' := MX2_has) 6 [_, _] kX2_36 imX2_has seX2_has clX2_has dX2_besideAt_3 rfl rfl rfl (by first | rfl | assumption) (m_rmI (by omega) (Nat.le_of_ble_eq_true rfl) (Nat.le_refl _) (Nat.le_refl _)) (c_X2_has hG d h5 hNN ⟨by omega, by omega⟩ ⟨by omega, by omega⟩) ?_
  refine b_if_eq 9 25 dX2_besideAt_6 rfl (by decide) (fun h => absurd h (by rw [inB_1 hp, inB_1 hs]; decide)) (fun _ => ?_)
  refine m_aload_n 10 dX2_besideAt_9 rfl rfl ?_
  refine m_getf 13 foX2_24 dX2_besideAt_10 rfl (by first | rfl | assumption) (by rfl) ?_
  refine m_iload_n 14 dX2_besideAt_13 rfl rfl ?_
  refine m_aload_n 15 dX2_besideAt_14 rfl rfl ?_
  refine m_getf 18 foX2_22 dX2_besideAt_15 rfl (by first | rfl | assumption) (by rfl) ?_
  refine i_mul 19 dX2_besideAt_18 rfl ?_
  refine m_iload_n 20 dX2_besideAt_19 rfl rfl ?_
  refine i_add 21 dX2_besideAt_20 rfl ?_
  refine i_ald 22 dX2_besideAt_21 rfl (by first | rfl | assumption) ⟨by omega, by omega, by omega⟩ ?_
  refine m_goto 26 dX2_besideAt_22 (by decide) ?_
  refine i_ret _ dX2_besideAt_26 rfl ⟨Nat.le_refl _, Nat.le_refl _⟩ ?_ ⟨rfl, rfl⟩
  rfl
set_option maxHeartbeats 4000000 in
set_option maxRecDepth 100000 in
theorem c_X2_walledAt (hG : m_G G) (d : Nat) {p s : Int} {n sl m : Nat} {g : Nat → Bool} (h5 : w[5]? = some (oNet n sl)) (hN : nOK n sl m) (h7 : w[7]? = some (cZ m g)) (hp : 0 ≤ p ∧ p < n) (hs : 0 ≤ s ∧ s < sl) : m_Cv G MX2_walledAt (m_r (d + 1) 0 0) [.ref 5, vI p, vI s] w (some (vB (wAt sl g p s))) w := by
  have hNN := hN
  obtain ⟨hn1, hn2, hl1, hl2, hm, hm2⟩ := hN
  have hix := nIx hNN hp hs
  refine m_enter (L := [some (.ref 5), some (vI p), some (vI s)]) (by decide) hG (m_c1 rfl) (Nat.le_of_ble_eq_true rfl) rfl ?_
  refine m_aload_n 1 dX2_walledAt_0 rfl rfl ?_
  refine m_iload_n 2 dX2_walledAt_1 rfl rfl ?_
  refine m_iload_n 3 dX2_walledAt_2 rfl rfl ?_
  refine m_cV (M' := MX2_has) 6 [_, _] kX2_36 imX2_has seX2_has clX2_has dX2_walledAt_3 rfl rfl rfl (by first | rfl | assumption) (m_rmI (by omega) (Nat.le_of_ble_eq_true rfl) (Nat.le_refl _) (Nat.le_refl _)) (c_X2_has hG d h5 hNN ⟨by omega, by omega⟩ ⟨by omega, by omega⟩) ?_
  refine b_if_eq 9 29 dX2_walledAt_6 rfl (by decide) (fun h => absurd h (by rw [inB_1 hp, inB_1 hs]; decide)) (fun _ => ?_)
  refine m_aload_n 10 dX2_walledAt_9 rfl rfl ?_
  refine m_getf 13 foX2_28 dX2_walledAt_10 rfl (by first | rfl | assumption) (by rfl) ?_
  refine m_iload_n 14 dX2_walledAt_13 rfl rfl ?_
  refine m_aload_n 15 dX2_walledAt_14 rfl rfl ?_
  refine m_getf 18 foX2_22 dX2_walledAt_15 rfl (by first | rfl | assumption) (by rfl) ?_
  refine i_mul 19 dX2_walledAt_18 rfl ?_
  refine m_iload_n 20 dX2_walledAt_19 rfl rfl ?_
  refine i_add 21 dX2_walledAt_20 rfl ?_
  refine i_zald 22 dX2_walledAt_21 rfl (by first | rfl | assumption) ⟨by omega, by omega, by omega⟩ ?_
  refine b_if_eq 25 29 dX2_walledAt_22 rfl (by decide) (fun q22 => ?_) (fun q22 => ?_)
  · refine i_const 30 dX2_walledAt_29 rfl ?_
    refine i_retB _ dX2_walledAt_30 rfl ⟨Nat.le_refl _, Nat.le_refl _⟩ ?_ ⟨rfl, rfl⟩
    refine i_eq0 ?_
    assumption
  · refine i_const 26 dX2_walledAt_25 rfl ?_
    refine m_goto 30 dX2_walledAt_26 (by decide) ?_
    refine i_retB _ dX2_walledAt_30 rfl ⟨Nat.le_refl _, Nat.le_refl _⟩ ?_ ⟨rfl, rfl⟩
    refine i_eq1 ?_
    assumption
set_option maxHeartbeats 4000000 in
set_option maxRecDepth 100000 in
theorem c_X2_openAt (hG : m_G G) (d : Nat) {p s : Int} {n sl m : Nat} {f : Nat → Int} {g : Nat → Bool} (h5 : w[5]? = some (oNet n sl)) (hN : nOK n sl m) (h6 : w[6]? = some (cI m f)) (h7 : w[7]? = some (cZ m g)) (hp : 0 ≤ p ∧ p < n) (hs : 0 ≤ s ∧ s < sl) : m_Cv G MX2_openAt (m_r (d + 2) 0 0) [.ref 5, vI p, vI s] w (some (vI (oAt sl f g p s))) w := by
  refine m_enter (L := [some (.ref 5), some (vI p), some (vI s)]) (by decide) hG (m_c1 rfl) (Nat.le_of_ble_eq_true rfl) rfl ?_
  refine m_aload_n 1 dX2_openAt_0 rfl rfl ?_
  refine m_iload_n 2 dX2_openAt_1 rfl rfl ?_
  refine m_iload_n 3 dX2_openAt_2 rfl rfl ?_
  refine m_cV (M' := MX2_walledAt) 6 [_, _] kX2_40 imX2_walledAt seX2_walledAt clX2_walledAt dX2_openAt_3 rfl rfl rfl (by first | rfl | assumption) (m_rmI (by omega) (Nat.le_of_ble_eq_true rfl) (Nat.le_refl _) (Nat.le_refl _)) (c_X2_walledAt hG d h5 hN h7 hp hs) ?_
  refine b_if_eq 9 13 dX2_openAt_6 rfl (by decide) (fun q6 => ?_) (fun q6 => ?_)
  · refine m_aload_n 14 dX2_openAt_13 rfl rfl ?_
    refine m_iload_n 15 dX2_openAt_14 rfl rfl ?_
    refine m_iload_n 16 dX2_openAt_15 rfl rfl ?_
    refine m_cV (M' := MX2_besideAt) 19 [_, _] kX2_43 imX2_besideAt seX2_besideAt clX2_besideAt dX2_openAt_16 rfl rfl rfl (by first | rfl | assumption) (m_rmI (by omega) (Nat.le_of_ble_eq_true rfl) (Nat.le_refl _) (Nat.le_refl _)) (c_X2_besideAt hG d h5 hN h6 hp hs) ?_
    refine i_ret _ dX2_openAt_19 rfl ⟨Nat.le_refl _, Nat.le_refl _⟩ ?_ ⟨rfl, rfl⟩
    unfold oAt; split <;> first | rfl | simp_all
  · refine i_const 10 dX2_openAt_9 rfl ?_
    refine m_goto 19 dX2_openAt_10 (by decide) ?_
    refine i_ret _ dX2_openAt_19 rfl ⟨Nat.le_refl _, Nat.le_refl _⟩ ?_ ⟨rfl, rfl⟩
    unfold oAt; split <;> first | rfl | simp_all
set_option maxHeartbeats 4000000 in
set_option maxRecDepth 100000 in
theorem l_X2_slotOf (hG : m_G G) (d : Nat) {p o t : Int} {n sl m : Nat} {f : Nat → Int} (h5 : w[5]? = some (oNet n sl)) (hN : nOK n sl m) (h6 : w[6]? = some (cI m f)) (hp : 0 ≤ p ∧ p < n) (ho : iR o) (hf : ∀ s : Int, 0 ≤ s → s < sl → iR (bAt sl f p s)) :
    ∀ (k : Nat) (i : Int), 0 ≤ i → i + k = sl → fndF (fun s => bAt sl f p s == o) k i = t → m_J G MX2_slotOf (m_r (d + 2) 0 0) (fun r x => r = some (some (vI t)) ∧ x = w) 0 0 7 [some (.ref 5), some (vI p), some (vI o), some (vI i)] [] w := by
  have hNN := hN
  obtain ⟨hn1, hn2, hl1, hl2, hm, hm2⟩ := hN
  obtain ⟨ho1, ho2⟩ := ho
  intro k
  induction k with
  | zero =>
    intro i hi0 hik ht
    refine m_iload_n 8 dX2_slotOf_7 rfl rfl ?_
    refine m_aload_n 9 dX2_slotOf_8 rfl rfl ?_
    refine m_getf 12 foX2_22 dX2_slotOf_9 rfl (by first | rfl | assumption) (by rfl) ?_
    refine i_icmp_ge 15 33 ⟨by omega, by omega⟩ ⟨by omega, by omega⟩ dX2_slotOf_12 rfl (by decide) (fun _ => ?_) (fun h => absurd h (by omega))
    refine i_const 34 dX2_slotOf_33 rfl ?_
    refine i_ret _ dX2_slotOf_34 rfl ⟨Nat.le_refl _, Nat.le_refl _⟩ ?_ ⟨rfl, rfl⟩
    exact ht
  | succ k ih =>
    intro i hi0 hik ht
    have hs : 0 ≤ i ∧ i < (sl : Int) := by omega
    obtain ⟨hb1, hb2⟩ := hf i hs.1 hs.2
    unfold fndF at ht
    refine m_iload_n 8 dX2_slotOf_7 rfl rfl ?_
    refine m_aload_n 9 dX2_slotOf_8 rfl rfl ?_
    refine m_getf 12 foX2_22 dX2_slotOf_9 rfl (by first | rfl | assumption) (by rfl) ?_
    refine i_icmp_ge 15 33 ⟨by omega, by omega⟩ ⟨by omega, by omega⟩ dX2_slotOf_12 rfl (by decide) (fun h => absurd h (by omega)) (fun _ => ?_)
    refine m_aload_n 16 dX2_slotOf_15 rfl rfl ?_
    refine m_iload_n 17 dX2_slotOf_16 rfl rfl ?_
    refine m_iload_n 18 dX2_slotOf_17 rfl rfl ?_
    refine m_cV (M' := MX2_besideAt) 21 [_, _] kX2_43 imX2_besideAt seX2_besideAt clX2_besideAt dX2_slotOf_18 rfl rfl rfl (by first | rfl | assumption) (m_rmI (by omega) (Nat.le_of_ble_eq_true rfl) (Nat.le_refl _) (Nat.le_refl _)) (c_X2_besideAt hG d h5 hNN h6 hp hs) ?_
    refine m_iload_n 22 dX2_slotOf_21 rfl rfl ?_
    refine i_icmp_ne 25 27 ⟨by omega, by omega⟩ ⟨by omega, by omega⟩ dX2_slotOf_22 rfl (by decide) (fun q22 => ?_) (fun q22 => ?_)
    · refine i_inc 30 dX2_slotOf_27 rfl rfl (by decide) ?_
      refine m_goto 7 dX2_slotOf_30 (by decide) ?_
      exact ih (i + 1) (by omega) (by omega) (by rw [if_neg (by simpa using q22)] at ht; exact ht)
    · refine m_iload_n 26 dX2_slotOf_25 rfl rfl ?_
      refine i_ret _ dX2_slotOf_26 rfl ⟨Nat.le_refl _, Nat.le_refl _⟩ ?_ ⟨rfl, rfl⟩
      rw [if_pos (by simpa using q22)] at ht; exact ht
/-- the slot of o beside p -/
def sOf (sl : Nat) (f : Nat → Int) (p o : Int) : Int := if o = -1 then -1 else fndF (fun s => bAt sl f p s == o) sl 0
set_option maxHeartbeats 4000000 in
set_option maxRecDepth 100000 in
theorem c_X2_slotOf (hG : m_G G) (d : Nat) {p o : Int} {n sl m : Nat} {f : Nat → Int} (h5 : w[5]? = some (oNet n sl)) (hN : nOK n sl m) (h6 : w[6]? = some (cI m f)) (hp : 0 ≤ p ∧ p < n) (ho : iR o) (hf : ∀ s : Int, 0 ≤ s → s < sl → iR (bAt sl f p s)) : m_Cv G MX2_slotOf (m_r (d + 2) 0 0) [.ref 5, vI p, vI o] w (some (vI (sOf sl f p o))) w := by
  have hoo := ho
  obtain ⟨ho1, ho2⟩ := ho
  refine m_enter (L := [some (.ref 5), some (vI p), some (vI o), none]) (by decide) hG (m_c1 rfl) (Nat.le_of_ble_eq_true rfl) rfl ?_
  refine m_iload_n 1 dX2_slotOf_0 rfl rfl ?_
  refine i_const 2 dX2_slotOf_1 rfl ?_
  refine i_icmp_eq 5 33 ⟨by omega, by omega⟩ ⟨by omega, by omega⟩ dX2_slotOf_2 rfl (by decide) (fun q2 => ?_) (fun q2 => ?_)
  · refine i_const 34 dX2_slotOf_33 rfl ?_
    refine i_ret _ dX2_slotOf_34 rfl ⟨Nat.le_refl _, Nat.le_refl _⟩ ?_ ⟨rfl, rfl⟩
    unfold sOf; rw [if_pos q2]
  · refine i_const 6 dX2_slotOf_5 rfl ?_
    refine m_istore_n 7 dX2_slotOf_6 rfl (by decide) ?_
    exact l_X2_slotOf hG d h5 hN h6 hp hoo hf sl 0 (by omega) (by omega) (by unfold sOf; rw [if_neg q2])
/-- the least number above b in the slots from i on, against what was found -/
def lbF (f : Int → Int) (b : Int) : Nat → Int → Int → Int
  | 0, _, l => l
  | k + 1, i, l => lbF f b k (i + 1) (if b < f i ∧ (l = -1 ∨ f i < l) then f i else l)
set_option maxHeartbeats 4000000 in
set_option maxRecDepth 100000 in
theorem l_X2_leastBeyond (hG : m_G G) (d : Nat) {p b t : Int} {n sl m : Nat} {f : Nat → Int} (h5 : w[5]? = some (oNet n sl)) (hN : nOK n sl m) (h6 : w[6]? = some (cI m f)) (hp : 0 ≤ p ∧ p < n) (hb : iR b) (hf : ∀ s : Int, 0 ≤ s → s < sl → iR (bAt sl f p s)) :
    ∀ (k : Nat) (i l : Int) (x5 : Option Value), 0 ≤ i → i + k = sl → iR l → lbF (bAt sl f p) b k i l = t → m_J G MX2_leastBeyond (m_r (d + 2) 0 0) (fun r x => r = some (some (vI t)) ∧ x = w) 0 0 5 [some (.ref 5), some (vI p), some (vI b), some (vI l), some (vI i), x5] [] w := by
  have hNN := hN
  obtain ⟨hn1, hn2, hl1, hl2, hm, hm2⟩ := hN
  obtain ⟨hb1, hb2⟩ := hb
  intro k
  induction k with
  | zero =>
    intro i l x5 hi0 hik hl ht
    refine m_iload 7 dX2_leastBeyond_5 rfl rfl ?_
    refine m_aload_n 8 dX2_leastBeyond_7 rfl rfl ?_
    refine m_getf 11 foX2_22 dX2_leastBeyond_8 rfl (by first | rfl | assumption) (by rfl) ?_
    refine i_icmp_ge 14 49 ⟨by omega, by omega⟩ ⟨by omega, by omega⟩ dX2_leastBeyond_11 rfl (by decide) (fun _ => ?_) (fun h => absurd h (by omega))
    refine m_iload_n 50 dX2_leastBeyond_49 rfl rfl ?_
    refine i_ret _ dX2_leastBeyond_50 rfl ⟨Nat.le_refl _, Nat.le_refl _⟩ ?_ ⟨rfl, rfl⟩
    exact ht
  | succ k ih =>
    intro i l x5 hi0 hik hl ht
    have hs : 0 ≤ i ∧ i < (sl : Int) := by omega
    have hfi := hf i hs.1 hs.2
    have hll := hl
    obtain ⟨hc1, hc2⟩ := hf i hs.1 hs.2
    obtain ⟨hl3, hl4⟩ := hl
    unfold lbF at ht
    refine m_iload 7 dX2_leastBeyond_5 rfl rfl ?_
    refine m_aload_n 8 dX2_leastBeyond_7 rfl rfl ?_
    refine m_getf 11 foX2_22 dX2_leastBeyond_8 rfl (by first | rfl | assumption) (by rfl) ?_
    refine i_icmp_ge 14 49 ⟨by omega, by omega⟩ ⟨by omega, by omega⟩ dX2_leastBeyond_11 rfl (by decide) (fun h => absurd h (by omega)) (fun _ => ?_)
    refine m_aload_n 15 dX2_leastBeyond_14 rfl rfl ?_
    refine m_iload_n 16 dX2_leastBeyond_15 rfl rfl ?_
    refine m_iload 18 dX2_leastBeyond_16 rfl rfl ?_
    refine m_cV (M' := MX2_besideAt) 21 [_, _] kX2_43 imX2_besideAt seX2_besideAt clX2_besideAt dX2_leastBeyond_18 rfl rfl rfl (by first | rfl | assumption) (m_rmI (by omega) (Nat.le_of_ble_eq_true rfl) (Nat.le_refl _) (Nat.le_refl _)) (c_X2_besideAt hG d h5 hNN h6 hp hs) ?_
    refine m_istore 23 dX2_leastBeyond_21 rfl (by decide) ?_
    refine m_iload 25 dX2_leastBeyond_23 rfl rfl ?_
    refine m_iload_n 26 dX2_leastBeyond_25 rfl rfl ?_
    refine i_icmp_le 29 43 ⟨by omega, by omega⟩ ⟨by omega, by omega⟩ dX2_leastBeyond_26 rfl (by decide) (fun q26 => ?_) (fun q26 => ?_)
    · refine i_inc 46 dX2_leastBeyond_43 rfl rfl (by decide) ?_
      refine m_goto 5 dX2_leastBeyond_46 (by decide) ?_
      first | exact ih _ _ _ (by omega) (by omega) hll (by rw [if_neg (by omega)] at ht; exact ht) | exact ih _ _ _ (by omega) (by omega) hfi (by rw [if_pos (by omega)] at ht; exact ht)
    · refine m_iload_n 30 dX2_leastBeyond_29 rfl rfl ?_
      refine i_const 31 dX2_leastBeyond_30 rfl ?_
      refine i_icmp_eq 34 40 ⟨by omega, by omega⟩ ⟨by omega, by omega⟩ dX2_leastBeyond_31 rfl (by decide) (fun q31 => ?_) (fun q31 => ?_)
      · refine m_iload 42 dX2_leastBeyond_40 rfl rfl ?_
        refine m_istore_n 43 dX2_leastBeyond_42 rfl (by decide) ?_
        refine i_inc 46 dX2_leastBeyond_43 rfl rfl (by decide) ?_
        refine m_goto 5 dX2_leastBeyond_46 (by decide) ?_
        first | exact ih _ _ _ (by omega) (by omega) hll (by rw [if_neg (by omega)] at ht; exact ht) | exact ih _ _ _ (by omega) (by omega) hfi (by rw [if_pos (by omega)] at ht; exact ht)
      · refine m_iload 36 dX2_leastBeyond_34 rfl rfl ?_
        refine m_iload_n 37 dX2_leastBeyond_36 rfl rfl ?_
        refine i_icmp_ge 40 43 ⟨by omega, by omega⟩ ⟨by omega, by omega⟩ dX2_leastBeyond_37 rfl (by decide) (fun q37 => ?_) (fun q37 => ?_)
        · refine i_inc 46 dX2_leastBeyond_43 rfl rfl (by decide) ?_
          refine m_goto 5 dX2_leastBeyond_46 (by decide) ?_
          first | exact ih _ _ _ (by omega) (by omega) hll (by rw [if_neg (by omega)] at ht; exact ht) | exact ih _ _ _ (by omega) (by omega) hfi (by rw [if_pos (by omega)] at ht; exact ht)
        · refine m_iload 42 dX2_leastBeyond_40 rfl rfl ?_
          refine m_istore_n 43 dX2_leastBeyond_42 rfl (by decide) ?_
          refine i_inc 46 dX2_leastBeyond_43 rfl rfl (by decide) ?_
          refine m_goto 5 dX2_leastBeyond_46 (by decide) ?_
          first | exact ih _ _ _ (by omega) (by omega) hll (by rw [if_neg (by omega)] at ht; exact ht) | exact ih _ _ _ (by omega) (by omega) hfi (by rw [if_pos (by omega)] at ht; exact ht)
/-- the least neighbour of p above b -/
def lbN (sl : Nat) (f : Nat → Int) (p b : Int) : Int := lbF (bAt sl f p) b sl 0 (-1)
set_option maxHeartbeats 4000000 in
set_option maxRecDepth 100000 in
theorem c_X2_leastBeyond (hG : m_G G) (d : Nat) {p b : Int} {n sl m : Nat} {f : Nat → Int} (h5 : w[5]? = some (oNet n sl)) (hN : nOK n sl m) (h6 : w[6]? = some (cI m f)) (hp : 0 ≤ p ∧ p < n) (hb : iR b) (hf : ∀ s : Int, 0 ≤ s → s < sl → iR (bAt sl f p s)) : m_Cv G MX2_leastBeyond (m_r (d + 2) 0 0) [.ref 5, vI p, vI b] w (some (vI (lbN sl f p b))) w := by
  refine m_enter (L := [some (.ref 5), some (vI p), some (vI b), none, none, none]) (by decide) hG (m_c1 rfl) (Nat.le_of_ble_eq_true rfl) rfl ?_
  refine i_const 1 dX2_leastBeyond_0 rfl ?_
  refine m_istore_n 2 dX2_leastBeyond_1 rfl (by decide) ?_
  refine i_const 3 dX2_leastBeyond_2 rfl ?_
  refine m_istore 5 dX2_leastBeyond_3 rfl (by decide) ?_
  exact l_X2_leastBeyond hG d h5 hN h6 hp hb hf sl 0 (-1) _ (by omega) (by omega) ⟨by omega, by omega⟩ rfl
set_option maxHeartbeats 4000000 in
set_option maxRecDepth 100000 in
theorem c_X2_tie (hG : m_G G) (d : Nat) {a b : Int} {n sl m : Nat} {f : Nat → Int} (h5 : w[5]? = some (oNet n sl)) (hN : nOK n sl m) (h6 : w[6]? = some (cI m f)) (ha : 0 ≤ a ∧ a < n ∧ a < sl) (hb : 0 ≤ b ∧ b < n ∧ b < sl) : m_Cv G MX2_tie (m_r (d + 1) 0 0) [.ref 5, vI a, vI b] w none (w.set 6 (cI m (up (up f (a * sl + b).toNat b) (b * sl + a).toNat a))) := by
  have hNN := hN
  obtain ⟨hn1, hn2, hl1, hl2, hm, hm2⟩ := hN
  have hi1 := nIx hNN (p := a) (s := b) (by omega) (by omega)
  have hi2 := nIx hNN (p := b) (s := a) (by omega) (by omega)
  have h5' : (w.set 6 (cI m (up f (a * sl + b).toNat b)))[5]? = some (oNet n sl) := by rw [List.getElem?_set_ne (by decide)]; exact h5
  have h6' : (w.set 6 (cI m (up f (a * sl + b).toNat b)))[6]? = some (cI m (up f (a * sl + b).toNat b)) := List.getElem?_set_self (List.getElem?_eq_some_iff.mp h6).1
  refine m_enter (L := [some (.ref 5), some (vI a), some (vI b)]) (by decide) hG (m_c1 rfl) (Nat.le_of_ble_eq_true rfl) rfl ?_
  refine m_aload_n 1 dX2_tie_0 rfl rfl ?_
  refine m_iload_n 2 dX2_tie_1 rfl rfl ?_
  refine m_iload_n 3 dX2_tie_2 rfl rfl ?_
  refine m_cV (M' := MX2_has) 6 [_, _] kX2_36 imX2_has seX2_has clX2_has dX2_tie_3 rfl rfl rfl (by first | rfl | assumption) (m_rmI (by omega) (Nat.le_of_ble_eq_true rfl) (Nat.le_refl _) (Nat.le_refl _)) (c_X2_has hG d h5 hNN ⟨by omega, by omega⟩ ⟨by omega, by omega⟩) ?_
  refine b_if_eq 9 46 dX2_tie_6 rfl (by decide) (fun h => absurd h (by rw [inB_1 (by omega), inB_1 (by omega)]; decide)) (fun _ => ?_)
  refine m_aload_n 10 dX2_tie_9 rfl rfl ?_
  refine m_iload_n 11 dX2_tie_10 rfl rfl ?_
  refine m_iload_n 12 dX2_tie_11 rfl rfl ?_
  refine m_cV (M' := MX2_has) 15 [_, _] kX2_36 imX2_has seX2_has clX2_has dX2_tie_12 rfl rfl rfl (by first | rfl | assumption) (m_rmI (by omega) (Nat.le_of_ble_eq_true rfl) (Nat.le_refl _) (Nat.le_refl _)) (c_X2_has hG d h5 hNN ⟨by omega, by omega⟩ ⟨by omega, by omega⟩) ?_
  refine b_if_eq 18 46 dX2_tie_15 rfl (by decide) (fun h => absurd h (by rw [inB_1 (by omega), inB_1 (by omega)]; decide)) (fun _ => ?_)
  refine m_aload_n 19 dX2_tie_18 rfl rfl ?_
  refine m_getf 22 foX2_24 dX2_tie_19 rfl (by first | rfl | assumption) (by rfl) ?_
  refine m_iload_n 23 dX2_tie_22 rfl rfl ?_
  refine m_aload_n 24 dX2_tie_23 rfl rfl ?_
  refine m_getf 27 foX2_22 dX2_tie_24 rfl (by first | rfl | assumption) (by rfl) ?_
  refine i_mul 28 dX2_tie_27 rfl ?_
  refine m_iload_n 29 dX2_tie_28 rfl rfl ?_
  refine i_add 30 dX2_tie_29 rfl ?_
  refine m_iload_n 31 dX2_tie_30 rfl rfl ?_
  refine i_ast 32 dX2_tie_31 rfl (by first | rfl | assumption) ⟨by omega, by omega, by omega⟩ ?_
  refine m_aload_n 33 dX2_tie_32 rfl rfl ?_
  refine m_getf 36 foX2_24 dX2_tie_33 rfl (by first | rfl | assumption) (by rfl) ?_
  refine m_iload_n 37 dX2_tie_36 rfl rfl ?_
  refine m_aload_n 38 dX2_tie_37 rfl rfl ?_
  refine m_getf 41 foX2_22 dX2_tie_38 rfl (by first | rfl | assumption) (by rfl) ?_
  refine i_mul 42 dX2_tie_41 rfl ?_
  refine m_iload_n 43 dX2_tie_42 rfl rfl ?_
  refine i_add 44 dX2_tie_43 rfl ?_
  refine m_iload_n 45 dX2_tie_44 rfl rfl ?_
  refine i_ast 46 dX2_tie_45 rfl (by first | rfl | assumption) ⟨by omega, by omega, by omega⟩ ?_
  refine m_vret dX2_tie_46 rfl ⟨Nat.le_refl _, Nat.le_refl _⟩ ?_
  exact ⟨rfl, List.set_set _⟩
set_option maxHeartbeats 4000000 in
set_option maxRecDepth 100000 in
theorem c_X2_setWall (hG : m_G G) (d : Nat) {p s : Int} {b : Bool} {n sl m : Nat} {g : Nat → Bool} (h5 : w[5]? = some (oNet n sl)) (hN : nOK n sl m) (h7 : w[7]? = some (cZ m g)) (hp : 0 ≤ p ∧ p < n) (hs : 0 ≤ s ∧ s < sl) : m_Cv G MX2_setWall (m_r (d + 1) 0 0) [.ref 5, vI p, vI s, vB b] w none (w.set 7 (cZ m (up g (p * sl + s).toNat b))) := by
  have hNN := hN
  obtain ⟨hn1, hn2, hl1, hl2, hm, hm2⟩ := hN
  have hix := nIx hNN hp hs
  refine m_enter (L := [some (.ref 5), some (vI p), some (vI s), some (vB b)]) (by decide) hG (m_c1 rfl) (Nat.le_of_ble_eq_true rfl) rfl ?_
  refine m_aload_n 1 dX2_setWall_0 rfl rfl ?_
  refine m_iload_n 2 dX2_setWall_1 rfl rfl ?_
  refine m_iload_n 3 dX2_setWall_2 rfl rfl ?_
  refine m_cV (M' := MX2_has) 6 [_, _] kX2_36 imX2_has seX2_has clX2_has dX2_setWall_3 rfl rfl rfl (by first | rfl | assumption) (m_rmI (by omega) (Nat.le_of_ble_eq_true rfl) (Nat.le_refl _) (Nat.le_refl _)) (c_X2_has hG d h5 hNN ⟨by omega, by omega⟩ ⟨by omega, by omega⟩) ?_
  refine b_if_eq 9 23 dX2_setWall_6 rfl (by decide) (fun h => absurd h (by rw [inB_1 hp, inB_1 hs]; decide)) (fun _ => ?_)
  refine m_aload_n 10 dX2_setWall_9 rfl rfl ?_
  refine m_getf 13 foX2_28 dX2_setWall_10 rfl (by first | rfl | assumption) (by rfl) ?_
  refine m_iload_n 14 dX2_setWall_13 rfl rfl ?_
  refine m_aload_n 15 dX2_setWall_14 rfl rfl ?_
  refine m_getf 18 foX2_22 dX2_setWall_15 rfl (by first | rfl | assumption) (by rfl) ?_
  refine i_mul 19 dX2_setWall_18 rfl ?_
  refine m_iload_n 20 dX2_setWall_19 rfl rfl ?_
  refine i_add 21 dX2_setWall_20 rfl ?_
  refine m_iload_n 22 dX2_setWall_21 rfl rfl ?_
  refine i_zast 23 dX2_setWall_22 rfl (by first | rfl | assumption) ⟨by omega, by omega, by omega⟩ ?_
  refine m_vret dX2_setWall_23 rfl ⟨Nat.le_refl _, Nat.le_refl _⟩ ?_
  exact ⟨rfl, rfl⟩
end NT
end
section
/-! Turns -/
section TU
variable {G : mG} {w : List mC}
theorem i_andP {G : mG} {M : mM} {R : Room} {Q : Option (Option Value) → List mC → Prop} {nc ns pc : Nat} {L : List (Option Value)} {st : List Value} {w : List mC} (pc' : Nat) {x m : Int} (hd : decode M.2.1 pc = .ok (.iand, 1)) (hp : pc + 1 = pc') (hm : m = 2 ∨ m = 4) (hx : 0 ≤ x ∧ x < 8) (k : m_J G M R Q nc ns pc' L (vI (x / m % 2 * m) :: st) w) : m_J G M R Q nc ns pc L (vI m :: vI x :: st) w := by
  refine m_iand pc' hd hp ?_
  have e : iI x &&& iI m = iI (x / m % 2 * m) := by
    rcases (by omega : x = 0 ∨ x = 1 ∨ x = 2 ∨ x = 3 ∨ x = 4 ∨ x = 5 ∨ x = 6 ∨ x = 7) with rfl | rfl | rfl | rfl | rfl | rfl | rfl | rfl <;> rcases hm with rfl | rfl <;> decide
  rw [e]
  exact k
abbrev oTurns (c : Int) : mC := mO 5 [vI c, .ref 2]
/-- how many turns there are -/
def tuN (k W H : Int) : Int := if k = 4 then 1 else if k = 3 then 2 * W else if W = H then 8 else 4
/-- the column around the ring -/
def rgC (W t x : Int) : Int := if t % 2 = 0 then (if x + t / 2 < W then x + t / 2 else x + t / 2 - W) else (if t / 2 - x < 0 then t / 2 - x + W else t / 2 - x)
/-- where turn t puts (x, y) -/
def trn (k W H t x y : Int) : Int := if k = 3 then plA W H (rgC W t x) y else plA W H (if t % 2 = 1 then W - 1 - (if t < 4 then x else y) else (if t < 4 then x else y)) (if 1 < t % 4 then H - 1 - (if t < 4 then y else x) else (if t < 4 then y else x))

set_option maxHeartbeats 4000000 in
set_option maxRecDepth 100000 in
theorem c_X5_has (hG : m_G G) (d : Nat) {c z : Int} (h8 : w[8]? = some (oTurns c)) (hc : iR c) (hz : iR z) : m_Cv G MX5_has (m_r d 0 0) [.ref 8, vI z] w (some (vB (inB z c))) w := by
  obtain ⟨hz1, hz2⟩ := hz
  obtain ⟨hc1, hc2⟩ := hc
  refine m_enter (L := [some (.ref 8), some (vI z)]) (by decide) hG (m_c1 rfl) (Nat.le_of_ble_eq_true rfl) rfl ?_
  refine m_iload_n 1 dX5_has_0 rfl rfl ?_
  refine i_if_lt 4 16 ⟨by omega, by omega⟩ dX5_has_1 rfl (by decide) (fun q1 => ?_) (fun q1 => ?_)
  · refine i_const 17 dX5_has_16 rfl ?_
    refine i_retB _ dX5_has_17 rfl ⟨Nat.le_refl _, Nat.le_refl _⟩ ?_ ⟨rfl, rfl⟩
    refine i_eq0 ?_
    exact inB_0 (by omega)
  · refine m_iload_n 5 dX5_has_4 rfl rfl ?_
    refine m_aload_n 6 dX5_has_5 rfl rfl ?_
    refine m_getf 9 foX5_21 dX5_has_6 rfl (by first | rfl | assumption) (by rfl) ?_
    refine i_icmp_ge 12 16 ⟨by omega, by omega⟩ ⟨by omega, by omega⟩ dX5_has_9 rfl (by decide) (fun q9 => ?_) (fun q9 => ?_)
    · refine i_const 17 dX5_has_16 rfl ?_
      refine i_retB _ dX5_has_17 rfl ⟨Nat.le_refl _, Nat.le_refl _⟩ ?_ ⟨rfl, rfl⟩
      refine i_eq0 ?_
      exact inB_0 (by omega)
    · refine i_const 13 dX5_has_12 rfl ?_
      refine m_goto 17 dX5_has_13 (by decide) ?_
      refine i_retB _ dX5_has_17 rfl ⟨Nat.le_refl _, Nat.le_refl _⟩ ?_ ⟨rfl, rfl⟩
      refine i_eq1 ?_
      exact inB_1 (by omega)
set_option maxHeartbeats 4000000 in
set_option maxRecDepth 100000 in
theorem c_X5_columnAround (hG : m_G G) (d : Nat) {k W H t x c : Int} {n : Nat} (h8 : w[8]? = some (oTurns c)) (h2 : w[2]? = some (oFrame k W H n)) (hF : fOK k W H n) (ht : 0 ≤ t ∧ t < 2 * W) (hx : 0 ≤ x ∧ x < W) : m_Cv G MX5_columnAround (m_r d 0 0) [.ref 8, vI t, vI x] w (some (vI (rgC W t x))) w := by
  have hFF := hF
  have hnb := hF.n
  obtain ⟨hk0, hk4, hW1, hW2, hH1, hH2, hn, hg4⟩ := hF
  refine m_enter (L := [some (.ref 8), some (vI t), some (vI x), none, none]) (by decide) hG (m_c1 rfl) (Nat.le_of_ble_eq_true rfl) rfl ?_
  refine m_iload_n 1 dX5_columnAround_0 rfl rfl ?_
  refine i_const 2 dX5_columnAround_1 rfl ?_
  refine i_shr1 3 dX5_columnAround_2 rfl ⟨by omega, by omega⟩ ?_
  refine m_istore_n 4 dX5_columnAround_3 rfl (by decide) ?_
  refine m_iload_n 5 dX5_columnAround_4 rfl rfl ?_
  refine i_const 6 dX5_columnAround_5 rfl ?_
  refine i_and 7 1 dX5_columnAround_6 rfl ⟨by omega, by omega⟩ (by decide) ?_
  refine i_if_ne 10 43 ⟨by omega, by omega⟩ dX5_columnAround_7 rfl (by decide) (fun q7 => ?_) (fun q7 => ?_)
  · refine m_iload_n 44 dX5_columnAround_43 rfl rfl ?_
    refine m_iload_n 45 dX5_columnAround_44 rfl rfl ?_
    refine i_sub 46 dX5_columnAround_45 rfl ?_
    refine m_istore 48 dX5_columnAround_46 rfl (by decide) ?_
    refine m_iload 50 dX5_columnAround_48 rfl rfl ?_
    refine i_if_ge 53 66 ⟨by omega, by omega⟩ dX5_columnAround_50 rfl (by decide) (fun q50 => ?_) (fun q50 => ?_)
    · refine m_iload 68 dX5_columnAround_66 rfl rfl ?_
      refine i_ret _ dX5_columnAround_68 rfl ⟨Nat.le_refl _, Nat.le_refl _⟩ ?_ ⟨rfl, rfl⟩
      unfold rgC; (repeat' split) <;> omega
    · refine m_iload 55 dX5_columnAround_53 rfl rfl ?_
      refine m_aload_n 56 dX5_columnAround_55 rfl rfl ?_
      refine m_getf 59 foX5_9 dX5_columnAround_56 rfl (by first | rfl | assumption) (by rfl) ?_
      refine m_getf 62 foX5_24 dX5_columnAround_59 rfl (by first | rfl | assumption) (by rfl) ?_
      refine i_add 63 dX5_columnAround_62 rfl ?_
      refine m_goto 68 dX5_columnAround_63 (by decide) ?_
      refine i_ret _ dX5_columnAround_68 rfl ⟨Nat.le_refl _, Nat.le_refl _⟩ ?_ ⟨rfl, rfl⟩
      unfold rgC; (repeat' split) <;> omega
  · refine m_iload_n 11 dX5_columnAround_10 rfl rfl ?_
    refine m_iload_n 12 dX5_columnAround_11 rfl rfl ?_
    refine i_add 13 dX5_columnAround_12 rfl ?_
    refine m_istore 15 dX5_columnAround_13 rfl (by decide) ?_
    refine m_iload 17 dX5_columnAround_15 rfl rfl ?_
    refine m_aload_n 18 dX5_columnAround_17 rfl rfl ?_
    refine m_getf 21 foX5_9 dX5_columnAround_18 rfl (by first | rfl | assumption) (by rfl) ?_
    refine m_getf 24 foX5_24 dX5_columnAround_21 rfl (by first | rfl | assumption) (by rfl) ?_
    refine i_icmp_lt 27 40 ⟨by omega, by omega⟩ ⟨by omega, by omega⟩ dX5_columnAround_24 rfl (by decide) (fun q24 => ?_) (fun q24 => ?_)
    · refine m_iload 42 dX5_columnAround_40 rfl rfl ?_
      refine i_ret _ dX5_columnAround_42 rfl ⟨Nat.le_refl _, Nat.le_refl _⟩ ?_ ⟨rfl, rfl⟩
      unfold rgC; (repeat' split) <;> omega
    · refine m_iload 29 dX5_columnAround_27 rfl rfl ?_
      refine m_aload_n 30 dX5_columnAround_29 rfl rfl ?_
      refine m_getf 33 foX5_9 dX5_columnAround_30 rfl (by first | rfl | assumption) (by rfl) ?_
      refine m_getf 36 foX5_24 dX5_columnAround_33 rfl (by first | rfl | assumption) (by rfl) ?_
      refine i_sub 37 dX5_columnAround_36 rfl ?_
      refine m_goto 42 dX5_columnAround_37 (by decide) ?_
      refine i_ret _ dX5_columnAround_42 rfl ⟨Nat.le_refl _, Nat.le_refl _⟩ ?_ ⟨rfl, rfl⟩
      unfold rgC; (repeat' split) <;> omega
set_option maxHeartbeats 4000000 in
set_option maxRecDepth 100000 in
theorem c_X5_placeAfter (hG : m_G G) (d : Nat) {k W H t z c : Int} {n : Nat} {col row : Nat → Int} (h8 : w[8]? = some (oTurns c)) (h2 : w[2]? = some (oFrame k W H n)) (hF : fOK k W H n) (h3 : w[3]? = some (cI n col)) (h4 : w[4]? = some (cI n row)) (hz : 0 ≤ z ∧ z < n) (hxy : 0 ≤ col z.toNat ∧ col z.toNat < W ∧ 0 ≤ row z.toNat ∧ row z.toNat < H) (ht : 0 ≤ t ∧ (k = 3 → t < 2 * W) ∧ (k ≠ 3 → t < 8)) : m_Cv G MX5_placeAfter (m_r (d + 2) 0 0) [.ref 8, vI t, vI z] w (some (vI (trn k W H t (col z.toNat) (row z.toNat)))) w := by
  have hFF := hF
  have hnb := hF.n
  obtain ⟨hk0, hk4, hW1, hW2, hH1, hH2, hn, hg4⟩ := hF
  refine m_enter (L := [some (.ref 8), some (vI t), some (vI z), none, none, none, none, none, none, none]) (by decide) hG (m_c1 rfl) (Nat.le_of_ble_eq_true rfl) rfl ?_
  refine m_aload_n 1 dX5_placeAfter_0 rfl rfl ?_
  refine m_getf 4 foX5_9 dX5_placeAfter_1 rfl (by first | rfl | assumption) (by rfl) ?_
  refine m_iload_n 5 dX5_placeAfter_4 rfl rfl ?_
  refine m_cV (M' := MX1_columnOf) 8 [_] kX5_30 imX1_columnOf seX1_columnOf clX1_columnOf dX5_placeAfter_5 rfl rfl rfl (by first | rfl | assumption) (m_rmI (by omega) (Nat.le_of_ble_eq_true rfl) (Nat.le_refl _) (Nat.le_refl _)) (c_X1_columnOf hG d h2 hFF h3 hz) ?_
  refine m_istore_n 9 dX5_placeAfter_8 rfl (by decide) ?_
  refine m_aload_n 10 dX5_placeAfter_9 rfl rfl ?_
  refine m_getf 13 foX5_9 dX5_placeAfter_10 rfl (by first | rfl | assumption) (by rfl) ?_
  refine m_iload_n 14 dX5_placeAfter_13 rfl rfl ?_
  refine m_cV (M' := MX1_rowOf) 17 [_] kX5_34 imX1_rowOf seX1_rowOf clX1_rowOf dX5_placeAfter_14 rfl rfl rfl (by first | rfl | assumption) (m_rmI (by omega) (Nat.le_of_ble_eq_true rfl) (Nat.le_refl _) (Nat.le_refl _)) (c_X1_rowOf hG d h2 hFF h4 hz) ?_
  refine m_istore 19 dX5_placeAfter_17 rfl (by decide) ?_
  refine m_aload_n 20 dX5_placeAfter_19 rfl rfl ?_
  refine m_getf 23 foX5_9 dX5_placeAfter_20 rfl (by first | rfl | assumption) (by rfl) ?_
  refine m_getf 26 foX5_15 dX5_placeAfter_23 rfl (by first | rfl | assumption) (by rfl) ?_
  refine i_const 27 dX5_placeAfter_26 rfl ?_
  refine i_icmp_ne 30 46 ⟨by omega, by omega⟩ ⟨by omega, by omega⟩ dX5_placeAfter_27 rfl (by decide) (fun q27 => ?_) (fun q27 => ?_)
  · have ht3 := ht.2.2 q27
    refine m_iload_n 47 dX5_placeAfter_46 rfl rfl ?_
    refine i_const 48 dX5_placeAfter_47 rfl ?_
    refine i_andP 49 dX5_placeAfter_48 rfl (by omega) ⟨by omega, by omega⟩ ?_
    refine i_if_eq 52 56 ⟨by omega, by omega⟩ dX5_placeAfter_49 rfl (by decide) (fun q49 => ?_) (fun q49 => ?_)
    · refine i_const 57 dX5_placeAfter_56 rfl ?_
      refine m_istore 59 dX5_placeAfter_57 rfl (by decide) ?_
      refine m_iload 61 dX5_placeAfter_59 rfl rfl ?_
      refine i_if_eq 64 69 ⟨by omega, by omega⟩ dX5_placeAfter_61 rfl (by decide) (fun _ => ?_) (fun h => absurd h (by decide))
      refine m_iload_n 70 dX5_placeAfter_69 rfl rfl ?_
      refine m_istore 72 dX5_placeAfter_70 rfl (by decide) ?_
      refine m_iload 74 dX5_placeAfter_72 rfl rfl ?_
      refine i_if_eq 77 81 ⟨by omega, by omega⟩ dX5_placeAfter_74 rfl (by decide) (fun _ => ?_) (fun h => absurd h (by decide))
      refine m_iload 83 dX5_placeAfter_81 rfl rfl ?_
      refine m_istore 85 dX5_placeAfter_83 rfl (by decide) ?_
      refine m_iload_n 86 dX5_placeAfter_85 rfl rfl ?_
      refine i_const 87 dX5_placeAfter_86 rfl ?_
      refine i_and 88 1 dX5_placeAfter_87 rfl ⟨by omega, by omega⟩ (by decide) ?_
      refine i_if_eq 91 106 ⟨by omega, by omega⟩ dX5_placeAfter_88 rfl (by decide) (fun q88 => ?_) (fun q88 => ?_)
      · refine m_iload 108 dX5_placeAfter_106 rfl rfl ?_
        refine m_istore 110 dX5_placeAfter_108 rfl (by decide) ?_
        refine m_iload_n 111 dX5_placeAfter_110 rfl rfl ?_
        refine i_const 112 dX5_placeAfter_111 rfl ?_
        refine i_andP 113 dX5_placeAfter_112 rfl (by omega) ⟨by omega, by omega⟩ ?_
        refine i_if_eq 116 131 ⟨by omega, by omega⟩ dX5_placeAfter_113 rfl (by decide) (fun q113 => ?_) (fun q113 => ?_)
        · refine m_iload 133 dX5_placeAfter_131 rfl rfl ?_
          refine m_istore 135 dX5_placeAfter_133 rfl (by decide) ?_
          refine m_aload_n 136 dX5_placeAfter_135 rfl rfl ?_
          refine m_getf 139 foX5_9 dX5_placeAfter_136 rfl (by first | rfl | assumption) (by rfl) ?_
          refine m_iload 141 dX5_placeAfter_139 rfl rfl ?_
          refine m_iload 143 dX5_placeAfter_141 rfl rfl ?_
          refine m_cV (M' := MX1_placeAt) 146 [_, _] kX5_41 imX1_placeAt seX1_placeAt clX1_placeAt dX5_placeAfter_143 rfl rfl rfl (by first | rfl | assumption) (m_rmI (by omega) (Nat.le_of_ble_eq_true rfl) (Nat.le_refl _) (Nat.le_refl _)) (c_X1_placeAt hG d h2 hFF ⟨by omega, by omega⟩ ⟨by omega, by omega⟩) ?_
          refine i_ret _ dX5_placeAfter_146 rfl ⟨Nat.le_refl _, Nat.le_refl _⟩ ?_ ⟨rfl, rfl⟩
          unfold trn; first | (rw [if_pos q27]) | (rw [if_neg q27]; congr 1 <;> (repeat' split) <;> omega)
        · refine m_aload_n 117 dX5_placeAfter_116 rfl rfl ?_
          refine m_getf 120 foX5_9 dX5_placeAfter_117 rfl (by first | rfl | assumption) (by rfl) ?_
          refine m_getf 123 foX5_27 dX5_placeAfter_120 rfl (by first | rfl | assumption) (by rfl) ?_
          refine i_const 124 dX5_placeAfter_123 rfl ?_
          refine i_sub 125 dX5_placeAfter_124 rfl ?_
          refine m_iload 127 dX5_placeAfter_125 rfl rfl ?_
          refine i_sub 128 dX5_placeAfter_127 rfl ?_
          refine m_goto 133 dX5_placeAfter_128 (by decide) ?_
          refine m_istore 135 dX5_placeAfter_133 rfl (by decide) ?_
          refine m_aload_n 136 dX5_placeAfter_135 rfl rfl ?_
          refine m_getf 139 foX5_9 dX5_placeAfter_136 rfl (by first | rfl | assumption) (by rfl) ?_
          refine m_iload 141 dX5_placeAfter_139 rfl rfl ?_
          refine m_iload 143 dX5_placeAfter_141 rfl rfl ?_
          refine m_cV (M' := MX1_placeAt) 146 [_, _] kX5_41 imX1_placeAt seX1_placeAt clX1_placeAt dX5_placeAfter_143 rfl rfl rfl (by first | rfl | assumption) (m_rmI (by omega) (Nat.le_of_ble_eq_true rfl) (Nat.le_refl _) (Nat.le_refl _)) (c_X1_placeAt hG d h2 hFF ⟨by omega, by omega⟩ ⟨by omega, by omega⟩) ?_
          refine i_ret _ dX5_placeAfter_146 rfl ⟨Nat.le_refl _, Nat.le_refl _⟩ ?_ ⟨rfl, rfl⟩
          unfold trn; first | (rw [if_pos q27]) | (rw [if_neg q27]; congr 1 <;> (repeat' split) <;> omega)
      · refine m_aload_n 92 dX5_placeAfter_91 rfl rfl ?_
        refine m_getf 95 foX5_9 dX5_placeAfter_92 rfl (by first | rfl | assumption) (by rfl) ?_
        refine m_getf 98 foX5_24 dX5_placeAfter_95 rfl (by first | rfl | assumption) (by rfl) ?_
        refine i_const 99 dX5_placeAfter_98 rfl ?_
        refine i_sub 100 dX5_placeAfter_99 rfl ?_
        refine m_iload 102 dX5_placeAfter_100 rfl rfl ?_
        refine i_sub 103 dX5_placeAfter_102 rfl ?_
        refine m_goto 108 dX5_placeAfter_103 (by decide) ?_
        refine m_istore 110 dX5_placeAfter_108 rfl (by decide) ?_
        refine m_iload_n 111 dX5_placeAfter_110 rfl rfl ?_
        refine i_const 112 dX5_placeAfter_111 rfl ?_
        refine i_andP 113 dX5_placeAfter_112 rfl (by omega) ⟨by omega, by omega⟩ ?_
        refine i_if_eq 116 131 ⟨by omega, by omega⟩ dX5_placeAfter_113 rfl (by decide) (fun q113 => ?_) (fun q113 => ?_)
        · refine m_iload 133 dX5_placeAfter_131 rfl rfl ?_
          refine m_istore 135 dX5_placeAfter_133 rfl (by decide) ?_
          refine m_aload_n 136 dX5_placeAfter_135 rfl rfl ?_
          refine m_getf 139 foX5_9 dX5_placeAfter_136 rfl (by first | rfl | assumption) (by rfl) ?_
          refine m_iload 141 dX5_placeAfter_139 rfl rfl ?_
          refine m_iload 143 dX5_placeAfter_141 rfl rfl ?_
          refine m_cV (M' := MX1_placeAt) 146 [_, _] kX5_41 imX1_placeAt seX1_placeAt clX1_placeAt dX5_placeAfter_143 rfl rfl rfl (by first | rfl | assumption) (m_rmI (by omega) (Nat.le_of_ble_eq_true rfl) (Nat.le_refl _) (Nat.le_refl _)) (c_X1_placeAt hG d h2 hFF ⟨by omega, by omega⟩ ⟨by omega, by omega⟩) ?_
          refine i_ret _ dX5_placeAfter_146 rfl ⟨Nat.le_refl _, Nat.le_refl _⟩ ?_ ⟨rfl, rfl⟩
          unfold trn; first | (rw [if_pos q27]) | (rw [if_neg q27]; congr 1 <;> (repeat' split) <;> omega)
        · refine m_aload_n 117 dX5_placeAfter_116 rfl rfl ?_
          refine m_getf 120 foX5_9 dX5_placeAfter_117 rfl (by first | rfl | assumption) (by rfl) ?_
          refine m_getf 123 foX5_27 dX5_placeAfter_120 rfl (by first | rfl | assumption) (by rfl) ?_
          refine i_const 124 dX5_placeAfter_123 rfl ?_
          refine i_sub 125 dX5_placeAfter_124 rfl ?_
          refine m_iload 127 dX5_placeAfter_125 rfl rfl ?_
          refine i_sub 128 dX5_placeAfter_127 rfl ?_
          refine m_goto 133 dX5_placeAfter_128 (by decide) ?_
          refine m_istore 135 dX5_placeAfter_133 rfl (by decide) ?_
          refine m_aload_n 136 dX5_placeAfter_135 rfl rfl ?_
          refine m_getf 139 foX5_9 dX5_placeAfter_136 rfl (by first | rfl | assumption) (by rfl) ?_
          refine m_iload 141 dX5_placeAfter_139 rfl rfl ?_
          refine m_iload 143 dX5_placeAfter_141 rfl rfl ?_
          refine m_cV (M' := MX1_placeAt) 146 [_, _] kX5_41 imX1_placeAt seX1_placeAt clX1_placeAt dX5_placeAfter_143 rfl rfl rfl (by first | rfl | assumption) (m_rmI (by omega) (Nat.le_of_ble_eq_true rfl) (Nat.le_refl _) (Nat.le_refl _)) (c_X1_placeAt hG d h2 hFF ⟨by omega, by omega⟩ ⟨by omega, by omega⟩) ?_
          refine i_ret _ dX5_placeAfter_146 rfl ⟨Nat.le_refl _, Nat.le_refl _⟩ ?_ ⟨rfl, rfl⟩
          unfold trn; first | (rw [if_pos q27]) | (rw [if_neg q27]; congr 1 <;> (repeat' split) <;> omega)
    · refine i_const 53 dX5_placeAfter_52 rfl ?_
      refine m_goto 57 dX5_placeAfter_53 (by decide) ?_
      refine m_istore 59 dX5_placeAfter_57 rfl (by decide) ?_
      refine m_iload 61 dX5_placeAfter_59 rfl rfl ?_
      refine i_if_eq 64 69 ⟨by omega, by omega⟩ dX5_placeAfter_61 rfl (by decide) (fun h => absurd h (by decide)) (fun _ => ?_)
      refine m_iload 66 dX5_placeAfter_64 rfl rfl ?_
      refine m_goto 70 dX5_placeAfter_66 (by decide) ?_
      refine m_istore 72 dX5_placeAfter_70 rfl (by decide) ?_
      refine m_iload 74 dX5_placeAfter_72 rfl rfl ?_
      refine i_if_eq 77 81 ⟨by omega, by omega⟩ dX5_placeAfter_74 rfl (by decide) (fun h => absurd h (by decide)) (fun _ => ?_)
      refine m_iload_n 78 dX5_placeAfter_77 rfl rfl ?_
      refine m_goto 83 dX5_placeAfter_78 (by decide) ?_
      refine m_istore 85 dX5_placeAfter_83 rfl (by decide) ?_
      refine m_iload_n 86 dX5_placeAfter_85 rfl rfl ?_
      refine i_const 87 dX5_placeAfter_86 rfl ?_
      refine i_and 88 1 dX5_placeAfter_87 rfl ⟨by omega, by omega⟩ (by decide) ?_
      refine i_if_eq 91 106 ⟨by omega, by omega⟩ dX5_placeAfter_88 rfl (by decide) (fun q88 => ?_) (fun q88 => ?_)
      · refine m_iload 108 dX5_placeAfter_106 rfl rfl ?_
        refine m_istore 110 dX5_placeAfter_108 rfl (by decide) ?_
        refine m_iload_n 111 dX5_placeAfter_110 rfl rfl ?_
        refine i_const 112 dX5_placeAfter_111 rfl ?_
        refine i_andP 113 dX5_placeAfter_112 rfl (by omega) ⟨by omega, by omega⟩ ?_
        refine i_if_eq 116 131 ⟨by omega, by omega⟩ dX5_placeAfter_113 rfl (by decide) (fun q113 => ?_) (fun q113 => ?_)
        · refine m_iload 133 dX5_placeAfter_131 rfl rfl ?_
          refine m_istore 135 dX5_placeAfter_133 rfl (by decide) ?_
          refine m_aload_n 136 dX5_placeAfter_135 rfl rfl ?_
          refine m_getf 139 foX5_9 dX5_placeAfter_136 rfl (by first | rfl | assumption) (by rfl) ?_
          refine m_iload 141 dX5_placeAfter_139 rfl rfl ?_
          refine m_iload 143 dX5_placeAfter_141 rfl rfl ?_
          refine m_cV (M' := MX1_placeAt) 146 [_, _] kX5_41 imX1_placeAt seX1_placeAt clX1_placeAt dX5_placeAfter_143 rfl rfl rfl (by first | rfl | assumption) (m_rmI (by omega) (Nat.le_of_ble_eq_true rfl) (Nat.le_refl _) (Nat.le_refl _)) (c_X1_placeAt hG d h2 hFF ⟨by omega, by omega⟩ ⟨by omega, by omega⟩) ?_
          refine i_ret _ dX5_placeAfter_146 rfl ⟨Nat.le_refl _, Nat.le_refl _⟩ ?_ ⟨rfl, rfl⟩
          unfold trn; first | (rw [if_pos q27]) | (rw [if_neg q27]; congr 1 <;> (repeat' split) <;> omega)
        · refine m_aload_n 117 dX5_placeAfter_116 rfl rfl ?_
          refine m_getf 120 foX5_9 dX5_placeAfter_117 rfl (by first | rfl | assumption) (by rfl) ?_
          refine m_getf 123 foX5_27 dX5_placeAfter_120 rfl (by first | rfl | assumption) (by rfl) ?_
          refine i_const 124 dX5_placeAfter_123 rfl ?_
          refine i_sub 125 dX5_placeAfter_124 rfl ?_
          refine m_iload 127 dX5_placeAfter_125 rfl rfl ?_
          refine i_sub 128 dX5_placeAfter_127 rfl ?_
          refine m_goto 133 dX5_placeAfter_128 (by decide) ?_
          refine m_istore 135 dX5_placeAfter_133 rfl (by decide) ?_
          refine m_aload_n 136 dX5_placeAfter_135 rfl rfl ?_
          refine m_getf 139 foX5_9 dX5_placeAfter_136 rfl (by first | rfl | assumption) (by rfl) ?_
          refine m_iload 141 dX5_placeAfter_139 rfl rfl ?_
          refine m_iload 143 dX5_placeAfter_141 rfl rfl ?_
          refine m_cV (M' := MX1_placeAt) 146 [_, _] kX5_41 imX1_placeAt seX1_placeAt clX1_placeAt dX5_placeAfter_143 rfl rfl rfl (by first | rfl | assumption) (m_rmI (by omega) (Nat.le_of_ble_eq_true rfl) (Nat.le_refl _) (Nat.le_refl _)) (c_X1_placeAt hG d h2 hFF ⟨by omega, by omega⟩ ⟨by omega, by omega⟩) ?_
          refine i_ret _ dX5_placeAfter_146 rfl ⟨Nat.le_refl _, Nat.le_refl _⟩ ?_ ⟨rfl, rfl⟩
          unfold trn; first | (rw [if_pos q27]) | (rw [if_neg q27]; congr 1 <;> (repeat' split) <;> omega)
      · refine m_aload_n 92 dX5_placeAfter_91 rfl rfl ?_
        refine m_getf 95 foX5_9 dX5_placeAfter_92 rfl (by first | rfl | assumption) (by rfl) ?_
        refine m_getf 98 foX5_24 dX5_placeAfter_95 rfl (by first | rfl | assumption) (by rfl) ?_
        refine i_const 99 dX5_placeAfter_98 rfl ?_
        refine i_sub 100 dX5_placeAfter_99 rfl ?_
        refine m_iload 102 dX5_placeAfter_100 rfl rfl ?_
        refine i_sub 103 dX5_placeAfter_102 rfl ?_
        refine m_goto 108 dX5_placeAfter_103 (by decide) ?_
        refine m_istore 110 dX5_placeAfter_108 rfl (by decide) ?_
        refine m_iload_n 111 dX5_placeAfter_110 rfl rfl ?_
        refine i_const 112 dX5_placeAfter_111 rfl ?_
        refine i_andP 113 dX5_placeAfter_112 rfl (by omega) ⟨by omega, by omega⟩ ?_
        refine i_if_eq 116 131 ⟨by omega, by omega⟩ dX5_placeAfter_113 rfl (by decide) (fun q113 => ?_) (fun q113 => ?_)
        · refine m_iload 133 dX5_placeAfter_131 rfl rfl ?_
          refine m_istore 135 dX5_placeAfter_133 rfl (by decide) ?_
          refine m_aload_n 136 dX5_placeAfter_135 rfl rfl ?_
          refine m_getf 139 foX5_9 dX5_placeAfter_136 rfl (by first | rfl | assumption) (by rfl) ?_
          refine m_iload 141 dX5_placeAfter_139 rfl rfl ?_
          refine m_iload 143 dX5_placeAfter_141 rfl rfl ?_
          refine m_cV (M' := MX1_placeAt) 146 [_, _] kX5_41 imX1_placeAt seX1_placeAt clX1_placeAt dX5_placeAfter_143 rfl rfl rfl (by first | rfl | assumption) (m_rmI (by omega) (Nat.le_of_ble_eq_true rfl) (Nat.le_refl _) (Nat.le_refl _)) (c_X1_placeAt hG d h2 hFF ⟨by omega, by omega⟩ ⟨by omega, by omega⟩) ?_
          refine i_ret _ dX5_placeAfter_146 rfl ⟨Nat.le_refl _, Nat.le_refl _⟩ ?_ ⟨rfl, rfl⟩
          unfold trn; first | (rw [if_pos q27]) | (rw [if_neg q27]; congr 1 <;> (repeat' split) <;> omega)
        · refine m_aload_n 117 dX5_placeAfter_116 rfl rfl ?_
          refine m_getf 120 foX5_9 dX5_placeAfter_117 rfl (by first | rfl | assumption) (by rfl) ?_
          refine m_getf 123 foX5_27 dX5_placeAfter_120 rfl (by first | rfl | assumption) (by rfl) ?_
          refine i_const 124 dX5_placeAfter_123 rfl ?_
          refine i_sub 125 dX5_placeAfter_124 rfl ?_
          refine m_iload 127 dX5_placeAfter_125 rfl rfl ?_
          refine i_sub 128 dX5_placeAfter_127 rfl ?_
          refine m_goto 133 dX5_placeAfter_128 (by decide) ?_
          refine m_istore 135 dX5_placeAfter_133 rfl (by decide) ?_
          refine m_aload_n 136 dX5_placeAfter_135 rfl rfl ?_
          refine m_getf 139 foX5_9 dX5_placeAfter_136 rfl (by first | rfl | assumption) (by rfl) ?_
          refine m_iload 141 dX5_placeAfter_139 rfl rfl ?_
          refine m_iload 143 dX5_placeAfter_141 rfl rfl ?_
          refine m_cV (M' := MX1_placeAt) 146 [_, _] kX5_41 imX1_placeAt seX1_placeAt clX1_placeAt dX5_placeAfter_143 rfl rfl rfl (by first | rfl | assumption) (m_rmI (by omega) (Nat.le_of_ble_eq_true rfl) (Nat.le_refl _) (Nat.le_refl _)) (c_X1_placeAt hG d h2 hFF ⟨by omega, by omega⟩ ⟨by omega, by omega⟩) ?_
          refine i_ret _ dX5_placeAfter_146 rfl ⟨Nat.le_refl _, Nat.le_refl _⟩ ?_ ⟨rfl, rfl⟩
          unfold trn; first | (rw [if_pos q27]) | (rw [if_neg q27]; congr 1 <;> (repeat' split) <;> omega)
  · have ht2 := ht.2.1 q27
    have hrc : iR (rgC W t (col z.toNat)) := by unfold rgC; constructor <;> (repeat' split) <;> omega
    refine m_aload_n 31 dX5_placeAfter_30 rfl rfl ?_
    refine m_getf 34 foX5_9 dX5_placeAfter_31 rfl (by first | rfl | assumption) (by rfl) ?_
    refine m_aload_n 35 dX5_placeAfter_34 rfl rfl ?_
    refine m_iload_n 36 dX5_placeAfter_35 rfl rfl ?_
    refine m_iload_n 37 dX5_placeAfter_36 rfl rfl ?_
    refine m_cV (M' := MX5_columnAround) 40 [_, _] kX5_37 imX5_columnAround seX5_columnAround clX5_columnAround dX5_placeAfter_37 rfl rfl rfl (by first | rfl | assumption) (m_rmI (by omega) (Nat.le_of_ble_eq_true rfl) (Nat.le_refl _) (Nat.le_refl _)) (c_X5_columnAround hG (d + 1) h8 h2 hFF ⟨by omega, ht.2.1 q27⟩ ⟨by omega, by omega⟩) ?_
    refine m_iload 42 dX5_placeAfter_40 rfl rfl ?_
    refine m_cV (M' := MX1_placeAt) 45 [_, _] kX5_41 imX1_placeAt seX1_placeAt clX1_placeAt dX5_placeAfter_42 rfl rfl rfl (by first | rfl | assumption) (m_rmI (by omega) (Nat.le_of_ble_eq_true rfl) (Nat.le_refl _) (Nat.le_refl _)) (c_X1_placeAt hG d h2 hFF hrc ⟨by omega, by omega⟩) ?_
    refine i_ret _ dX5_placeAfter_45 rfl ⟨Nat.le_refl _, Nat.le_refl _⟩ ?_ ⟨rfl, rfl⟩
    unfold trn; first | (rw [if_pos q27]) | (rw [if_neg q27]; congr 1 <;> (repeat' split) <;> omega)
end TU
end
section
/-! Walk: the simple ones -/
section WK
variable {G : mG} {w : List mC}
theorem set_get {w : List mC} {i : Nat} {c : mC} (h : w[i]? = some c) : w.set i c = w := by
  apply List.ext_getElem?
  intro j
  by_cases hj : j = i
  · subst hj
    rw [List.getElem?_set_self (List.getElem?_eq_some_iff.mp h).1, h]
  · rw [List.getElem?_set_ne (Ne.symm hj)]
abbrev oWalk : mC := mO 6 [.ref 5, .ref 10, .ref 11]
/-- the walk's three cells -/
def wW (w : List mC) (a b c : mC) : List mC := ((w.set 10 a).set 11 b).set 12 c
theorem wW_10 (w : List mC) (a b c a' : mC) : (wW w a b c).set 10 a' = wW w a' b c := by
  unfold wW
  rw [List.set_comm _ _ (by decide : (12 : Nat) ≠ 10), List.set_comm _ _ (by decide : (11 : Nat) ≠ 10), List.set_set]
theorem wW_11 (w : List mC) (a b c b' : mC) : (wW w a b c).set 11 b' = wW w a b' c := by
  unfold wW
  rw [List.set_comm _ _ (by decide : (12 : Nat) ≠ 11), List.set_set]
theorem wW_12 (w : List mC) (a b c c' : mC) : (wW w a b c).set 12 c' = wW w a b c' := by
  unfold wW
  rw [List.set_set]
theorem wW_n {w : List mC} {a b c : mC} {i : Nat} (h1 : i ≠ 10) (h2 : i ≠ 11) (h3 : i ≠ 12) : (wW w a b c)[i]? = w[i]? := by
  unfold wW
  rw [List.getElem?_set_ne (Ne.symm h3), List.getElem?_set_ne (Ne.symm h2), List.getElem?_set_ne (Ne.symm h1)]
theorem wW_a {w : List mC} {a b c : mC} (h : 12 < w.length) : (wW w a b c)[10]? = some a := by
  unfold wW
  rw [List.getElem?_set_ne (by decide), List.getElem?_set_ne (by decide), List.getElem?_set_self (by omega)]
theorem wW_b {w : List mC} {a b c : mC} (h : 12 < w.length) : (wW w a b c)[11]? = some b := by
  unfold wW
  rw [List.getElem?_set_ne (by decide), List.getElem?_set_self (by simp; omega)]
theorem wW_c {w : List mC} {a b c : mC} (h : 12 < w.length) : (wW w a b c)[12]? = some c := by
  unfold wW
  rw [List.getElem?_set_self (by simp; omega)]
/-- the first i numbers by g, the rest as they were -/
def fill {α : Type} (i : Nat) (g f : Nat → α) : Nat → α := fun j => if j < i then g j else f j
theorem fill_0 {α : Type} (g f : Nat → α) : fill 0 g f = f := by funext j; simp [fill]
theorem fill_s {α : Type} (i : Nat) (g f : Nat → α) : up (fill i g f) i (g i) = fill (i + 1) g f := by
  funext j
  unfold up fill
  by_cases h : j = i
  · subst h; simp
  · rw [if_neg h]
    by_cases h2 : j < i
    · rw [if_pos h2, if_pos (by omega)]
    · rw [if_neg h2, if_neg (by omega)]

set_option maxHeartbeats 4000000 in
set_option maxRecDepth 100000 in
theorem l_X6_admitAll (hG : m_G G) (d : Nat) {n : Nat} {f : Nat → Int} (hn : n < 100000) (hw : 10 < w.length) (h9 : w[9]? = some oWalk) : ∀ (k i : Nat), i + k = n →
    m_J G MX6_admitAll (m_r d 0 0) (fun r x => r = some none ∧ x = w.set 10 (cI n (fill n (fun _ => -1) f))) 0 0 2 [some (.ref 9), some (vI i)] [] (w.set 10 (cI n (fill i (fun _ => -1) f))) := by
  intro k
  induction k with
  | zero =>
    intro i hi
    have hin : i = n := by omega
    subst hin
    have e9 : (w.set 10 (cI i (fill i (fun _ => -1) f)))[9]? = some oWalk := by rw [List.getElem?_set_ne (by decide)]; exact h9
    have e10 : (w.set 10 (cI i (fill i (fun _ => -1) f)))[10]? = some (cI i (fill i (fun _ => -1) f)) := List.getElem?_set_self hw
    refine m_iload_n 3 dX6_admitAll_2 rfl rfl ?_
    refine m_aload_n 4 dX6_admitAll_3 rfl rfl ?_
    refine m_getf 7 foX6_19 dX6_admitAll_4 rfl (by first | rfl | assumption) (by rfl) ?_
    refine i_len 8 dX6_admitAll_7 rfl (by first | rfl | assumption) ?_
    refine i_icmp_ge 11 24 ⟨by omega, by omega⟩ ⟨by omega, by omega⟩ dX6_admitAll_8 rfl (by decide) (fun _ => ?_) (fun h => absurd h (by omega))
    refine m_vret dX6_admitAll_24 rfl ⟨Nat.le_refl _, Nat.le_refl _⟩ ?_
    exact ⟨rfl, rfl⟩
  | succ k ih =>
    intro i hi
    have e9 : (w.set 10 (cI n (fill i (fun _ => -1) f)))[9]? = some oWalk := by rw [List.getElem?_set_ne (by decide)]; exact h9
    have e10 : (w.set 10 (cI n (fill i (fun _ => -1) f)))[10]? = some (cI n (fill i (fun _ => -1) f)) := List.getElem?_set_self hw
    refine m_iload_n 3 dX6_admitAll_2 rfl rfl ?_
    refine m_aload_n 4 dX6_admitAll_3 rfl rfl ?_
    refine m_getf 7 foX6_19 dX6_admitAll_4 rfl (by first | rfl | assumption) (by rfl) ?_
    refine i_len 8 dX6_admitAll_7 rfl (by first | rfl | assumption) ?_
    refine i_icmp_ge 11 24 ⟨by omega, by omega⟩ ⟨by omega, by omega⟩ dX6_admitAll_8 rfl (by decide) (fun h => absurd h (by omega)) (fun _ => ?_)
    refine m_aload_n 12 dX6_admitAll_11 rfl rfl ?_
    refine m_getf 15 foX6_19 dX6_admitAll_12 rfl (by first | rfl | assumption) (by rfl) ?_
    refine m_iload_n 16 dX6_admitAll_15 rfl rfl ?_
    refine i_const 17 dX6_admitAll_16 rfl ?_
    refine i_ast 18 dX6_admitAll_17 rfl (by first | rfl | assumption) ⟨by omega, by omega, by omega⟩ ?_
    refine i_inc 21 dX6_admitAll_18 rfl rfl (by decide) ?_
    refine m_goto 2 dX6_admitAll_21 (by decide) ?_
    have e := ih (i + 1) (by omega)
    rw [← fill_s] at e
    rw [List.set_set]
    exact e
set_option maxHeartbeats 4000000 in
set_option maxRecDepth 100000 in
theorem c_X6_admitAll (hG : m_G G) (d : Nat) {n : Nat} {f : Nat → Int} (hn : n < 100000) (h9 : w[9]? = some oWalk) (h10 : w[10]? = some (cI n f)) : m_Cv G MX6_admitAll (m_r d 0 0) [.ref 9] w none (w.set 10 (cI n (fill n (fun _ => -1) f))) := by
  refine m_enter (L := [some (.ref 9), none]) (by decide) hG (m_c1 rfl) (Nat.le_of_ble_eq_true rfl) rfl ?_
  refine i_const 1 dX6_admitAll_0 rfl ?_
  refine m_istore_n 2 dX6_admitAll_1 rfl (by decide) ?_
  have e := l_X6_admitAll hG d (f := f) hn (List.getElem?_eq_some_iff.mp h10).1 h9 n 0 (by omega)
  rw [fill_0] at e
  rw [show w.set 10 (cI n f) = w from set_get h10] at e
  exact e
set_option maxHeartbeats 4000000 in
set_option maxRecDepth 100000 in
theorem l_X6_admitArea (hG : m_G G) (d : Nat) {n : Nat} {a : Int} {f g : Nat → Int} (hn : n < 100000) (ha : iR a) (hg : ∀ j, j < n → iR (g j)) (hw : 10 < w.length) (h9 : w[9]? = some oWalk) (h21 : w[21]? = some (cI n g)) : ∀ (k i : Nat), i + k = n →
    m_J G MX6_admitArea (m_r d 0 0) (fun r x => r = some none ∧ x = w.set 10 (cI n (fill n (fun j => if g j = a then -1 else -2) f))) 0 0 2 [some (.ref 9), some (.ref 21), some (vI a), some (vI i)] [] (w.set 10 (cI n (fill i (fun j => if g j = a then -1 else -2) f))) := by
  obtain ⟨ha1, ha2⟩ := ha
  intro k
  induction k with
  | zero =>
    intro i hi
    have hin : i = n := by omega
    subst hin
    have e9 : (w.set 10 (cI i (fill i (fun j => if g j = a then -1 else -2) f)))[9]? = some oWalk := by rw [List.getElem?_set_ne (by decide)]; exact h9
    have e10 : (w.set 10 (cI i (fill i (fun j => if g j = a then -1 else -2) f)))[10]? = some (cI i (fill i (fun j => if g j = a then -1 else -2) f)) := List.getElem?_set_self hw
    refine m_iload_n 3 dX6_admitArea_2 rfl rfl ?_
    refine m_aload_n 4 dX6_admitArea_3 rfl rfl ?_
    refine m_getf 7 foX6_19 dX6_admitArea_4 rfl (by first | rfl | assumption) (by rfl) ?_
    refine i_len 8 dX6_admitArea_7 rfl (by first | rfl | assumption) ?_
    refine i_icmp_ge 11 42 ⟨by omega, by omega⟩ ⟨by omega, by omega⟩ dX6_admitArea_8 rfl (by decide) (fun _ => ?_) (fun h => absurd h (by omega))
    refine m_vret dX6_admitArea_42 rfl ⟨Nat.le_refl _, Nat.le_refl _⟩ ?_
    exact ⟨rfl, rfl⟩
  | succ k ih =>
    intro i hi
    obtain ⟨hg1, hg2⟩ := hg i (by omega)
    have hti : ((i : Int)).toNat = i := by omega
    have e9 : (w.set 10 (cI n (fill i (fun j => if g j = a then -1 else -2) f)))[9]? = some oWalk := by rw [List.getElem?_set_ne (by decide)]; exact h9
    have e10 : (w.set 10 (cI n (fill i (fun j => if g j = a then -1 else -2) f)))[10]? = some (cI n (fill i (fun j => if g j = a then -1 else -2) f)) := List.getElem?_set_self hw
    have e21 : (w.set 10 (cI n (fill i (fun j => if g j = a then -1 else -2) f)))[21]? = some (cI n g) := by rw [List.getElem?_set_ne (by decide)]; exact h21
    refine m_iload_n 3 dX6_admitArea_2 rfl rfl ?_
    refine m_aload_n 4 dX6_admitArea_3 rfl rfl ?_
    refine m_getf 7 foX6_19 dX6_admitArea_4 rfl (by first | rfl | assumption) (by rfl) ?_
    refine i_len 8 dX6_admitArea_7 rfl (by first | rfl | assumption) ?_
    refine i_icmp_ge 11 42 ⟨by omega, by omega⟩ ⟨by omega, by omega⟩ dX6_admitArea_8 rfl (by decide) (fun h => absurd h (by omega)) (fun _ => ?_)
    refine m_iload_n 12 dX6_admitArea_11 rfl rfl ?_
    refine m_aload_n 13 dX6_admitArea_12 rfl rfl ?_
    refine i_len 14 dX6_admitArea_13 rfl (by first | rfl | assumption) ?_
    refine i_icmp_ge 17 42 ⟨by omega, by omega⟩ ⟨by omega, by omega⟩ dX6_admitArea_14 rfl (by decide) (fun h => absurd h (by omega)) (fun _ => ?_)
    refine m_aload_n 18 dX6_admitArea_17 rfl rfl ?_
    refine m_getf 21 foX6_19 dX6_admitArea_18 rfl (by first | rfl | assumption) (by rfl) ?_
    refine m_iload_n 22 dX6_admitArea_21 rfl rfl ?_
    refine m_aload_n 23 dX6_admitArea_22 rfl rfl ?_
    refine m_iload_n 24 dX6_admitArea_23 rfl rfl ?_
    refine i_ald 25 dX6_admitArea_24 rfl (by first | rfl | assumption) ⟨by omega, by omega, by omega⟩ ?_
    refine m_iload_n 26 dX6_admitArea_25 rfl rfl ?_
    rw [hti]
    refine i_icmp_ne 29 33 ⟨by omega, by omega⟩ ⟨by omega, by omega⟩ dX6_admitArea_26 rfl (by decide) (fun q26 => ?_) (fun q26 => ?_)
    · refine i_bipush 35 (-2) dX6_admitArea_33 rfl (by decide) ?_
      refine i_ast 36 dX6_admitArea_35 rfl (by first | rfl | assumption) ⟨by omega, by omega, by omega⟩ ?_
      refine i_inc 39 dX6_admitArea_36 rfl rfl (by decide) ?_
      refine m_goto 2 dX6_admitArea_39 (by decide) ?_
      have e := ih (i + 1) (by omega)
      rw [← fill_s] at e
      rw [List.set_set, hti]
      first | (rw [if_pos q26] at e; exact e) | (rw [if_neg q26] at e; exact e)
    · refine i_const 30 dX6_admitArea_29 rfl ?_
      refine m_goto 35 dX6_admitArea_30 (by decide) ?_
      refine i_ast 36 dX6_admitArea_35 rfl (by first | rfl | assumption) ⟨by omega, by omega, by omega⟩ ?_
      refine i_inc 39 dX6_admitArea_36 rfl rfl (by decide) ?_
      refine m_goto 2 dX6_admitArea_39 (by decide) ?_
      have e := ih (i + 1) (by omega)
      rw [← fill_s] at e
      rw [List.set_set, hti]
      first | (rw [if_pos q26] at e; exact e) | (rw [if_neg q26] at e; exact e)
set_option maxHeartbeats 4000000 in
set_option maxRecDepth 100000 in
theorem c_X6_admitArea (hG : m_G G) (d : Nat) {n : Nat} {a : Int} {f g : Nat → Int} (hn : n < 100000) (ha : iR a) (hg : ∀ j, j < n → iR (g j)) (h9 : w[9]? = some oWalk) (h10 : w[10]? = some (cI n f)) (h21 : w[21]? = some (cI n g)) : m_Cv G MX6_admitArea (m_r d 0 0) [.ref 9, .ref 21, vI a] w none (w.set 10 (cI n (fill n (fun j => if g j = a then -1 else -2) f))) := by
  refine m_enter (L := [some (.ref 9), some (.ref 21), some (vI a), none]) (by decide) hG (m_c1 rfl) (Nat.le_of_ble_eq_true rfl) rfl ?_
  refine i_const 1 dX6_admitArea_0 rfl ?_
  refine m_istore_n 2 dX6_admitArea_1 rfl (by decide) ?_
  have e := l_X6_admitArea hG d (f := f) hn ha hg (List.getElem?_eq_some_iff.mp h10).1 h9 h21 n 0 (by omega)
  rw [fill_0] at e
  rw [show w.set 10 (cI n f) = w from set_get h10] at e
  exact e
set_option maxHeartbeats 4000000 in
set_option maxRecDepth 100000 in
theorem c_X6_refuse (hG : m_G G) (d : Nat) {n : Nat} {z : Int} {f : Nat → Int} (hn : n < 100000) (hz : 0 ≤ z ∧ z < n) (h9 : w[9]? = some oWalk) (h10 : w[10]? = some (cI n f)) : m_Cv G MX6_refuse (m_r d 0 0) [.ref 9, vI z] w none (w.set 10 (cI n (up f z.toNat (-2)))) := by
  refine m_enter (L := [some (.ref 9), some (vI z)]) (by decide) hG (m_c1 rfl) (Nat.le_of_ble_eq_true rfl) rfl ?_
  refine m_iload_n 1 dX6_refuse_0 rfl rfl ?_
  refine i_if_lt 4 21 ⟨by omega, by omega⟩ dX6_refuse_1 rfl (by decide) (fun h => absurd h (by omega)) (fun _ => ?_)
  refine m_iload_n 5 dX6_refuse_4 rfl rfl ?_
  refine m_aload_n 6 dX6_refuse_5 rfl rfl ?_
  refine m_getf 9 foX6_19 dX6_refuse_6 rfl (by first | rfl | assumption) (by rfl) ?_
  refine i_len 10 dX6_refuse_9 rfl (by first | rfl | assumption) ?_
  refine i_icmp_ge 13 21 ⟨by omega, by omega⟩ ⟨by omega, by omega⟩ dX6_refuse_10 rfl (by decide) (fun h => absurd h (by omega)) (fun _ => ?_)
  refine m_aload_n 14 dX6_refuse_13 rfl rfl ?_
  refine m_getf 17 foX6_19 dX6_refuse_14 rfl (by first | rfl | assumption) (by rfl) ?_
  refine m_iload_n 18 dX6_refuse_17 rfl rfl ?_
  refine i_bipush 20 (-2) dX6_refuse_18 rfl (by decide) ?_
  refine i_ast 21 dX6_refuse_20 rfl (by first | rfl | assumption) ⟨by omega, by omega, by omega⟩ ?_
  refine m_vret dX6_refuse_21 rfl ⟨Nat.le_refl _, Nat.le_refl _⟩ ?_
  exact ⟨rfl, rfl⟩
set_option maxHeartbeats 4000000 in
set_option maxRecDepth 100000 in
theorem c_X6_stepsTo (hG : m_G G) (d : Nat) {n : Nat} {z : Int} {f : Nat → Int} (hn : n < 100000) (hz : 0 ≤ z ∧ z < n) (h9 : w[9]? = some oWalk) (h10 : w[10]? = some (cI n f)) : m_Cv G MX6_stepsTo (m_r d 0 0) [.ref 9, vI z] w (some (vI (f z.toNat))) w := by
  refine m_enter (L := [some (.ref 9), some (vI z)]) (by decide) hG (m_c1 rfl) (Nat.le_of_ble_eq_true rfl) rfl ?_
  refine m_iload_n 1 dX6_stepsTo_0 rfl rfl ?_
  refine i_if_lt 4 22 ⟨by omega, by omega⟩ dX6_stepsTo_1 rfl (by decide) (fun h => absurd h (by omega)) (fun _ => ?_)
  refine m_iload_n 5 dX6_stepsTo_4 rfl rfl ?_
  refine m_aload_n 6 dX6_stepsTo_5 rfl rfl ?_
  refine m_getf 9 foX6_19 dX6_stepsTo_6 rfl (by first | rfl | assumption) (by rfl) ?_
  refine i_len 10 dX6_stepsTo_9 rfl (by first | rfl | assumption) ?_
  refine i_icmp_ge 13 22 ⟨by omega, by omega⟩ ⟨by omega, by omega⟩ dX6_stepsTo_10 rfl (by decide) (fun h => absurd h (by omega)) (fun _ => ?_)
  refine m_aload_n 14 dX6_stepsTo_13 rfl rfl ?_
  refine m_getf 17 foX6_19 dX6_stepsTo_14 rfl (by first | rfl | assumption) (by rfl) ?_
  refine m_iload_n 18 dX6_stepsTo_17 rfl rfl ?_
  refine i_ald 19 dX6_stepsTo_18 rfl (by first | rfl | assumption) ⟨by omega, by omega, by omega⟩ ?_
  refine m_goto 24 dX6_stepsTo_19 (by decide) ?_
  refine i_ret _ dX6_stepsTo_24 rfl ⟨Nat.le_refl _, Nat.le_refl _⟩ ?_ ⟨rfl, rfl⟩
  rfl
set_option maxHeartbeats 4000000 in
set_option maxRecDepth 100000 in
theorem c_X6_reachN (hG : m_G G) (d : Nat) {n : Nat} {z s : Int} {f : Nat → Int} (hn : n < 100000) (hz : -1 ≤ z ∧ z < n) (hf : 0 ≤ z → iR (f z.toNat) ∧ f z.toNat ≠ -1) (h9 : w[9]? = some oWalk) (h10 : w[10]? = some (cI n f)) : m_Cv G MX6_reach (m_r (d + 1) 0 0) [.ref 9, vI z, vI s] w none w := by
  refine m_enter (L := [some (.ref 9), some (vI z), some (vI s)]) (by decide) hG (m_c1 rfl) (Nat.le_of_ble_eq_true rfl) rfl ?_
  refine m_iload_n 1 dX6_reach_0 rfl rfl ?_
  refine i_if_lt 4 39 ⟨by omega, by omega⟩ dX6_reach_1 rfl (by decide) (fun q1 => ?_) (fun q1 => ?_)
  · refine m_vret dX6_reach_39 rfl ⟨Nat.le_refl _, Nat.le_refl _⟩ ?_
    exact ⟨rfl, rfl⟩
  · obtain ⟨⟨hf1, hf2⟩, hf3⟩ := hf q1
    refine m_iload_n 5 dX6_reach_4 rfl rfl ?_
    refine m_aload_n 6 dX6_reach_5 rfl rfl ?_
    refine m_getf 9 foX6_19 dX6_reach_6 rfl (by first | rfl | assumption) (by rfl) ?_
    refine i_len 10 dX6_reach_9 rfl (by first | rfl | assumption) ?_
    refine i_icmp_ge 13 39 ⟨by omega, by omega⟩ ⟨by omega, by omega⟩ dX6_reach_10 rfl (by decide) (fun h => absurd h (by omega)) (fun _ => ?_)
    refine m_aload_n 14 dX6_reach_13 rfl rfl ?_
    refine m_getf 17 foX6_19 dX6_reach_14 rfl (by first | rfl | assumption) (by rfl) ?_
    refine m_iload_n 18 dX6_reach_17 rfl rfl ?_
    refine i_ald 19 dX6_reach_18 rfl (by first | rfl | assumption) ⟨by omega, by omega, by omega⟩ ?_
    refine i_const 20 dX6_reach_19 rfl ?_
    refine i_icmp_ne 23 39 ⟨by omega, by omega⟩ ⟨by omega, by omega⟩ dX6_reach_20 rfl (by decide) (fun _ => ?_) (fun h => absurd h hf3)
    refine m_vret dX6_reach_39 rfl ⟨Nat.le_refl _, Nat.le_refl _⟩ ?_
    exact ⟨rfl, rfl⟩
set_option maxHeartbeats 4000000 in
set_option maxRecDepth 100000 in
theorem c_X6_reachY (hG : m_G G) (d : Nat) {n : Nat} {z s l : Int} {f g : Nat → Int} (hn : n < 100000) (hz : 0 ≤ z ∧ z < n) (hf : f z.toNat = -1) (hl : 0 ≤ l ∧ l < n) (hw : 12 < w.length) (h9 : w[9]? = some oWalk) : m_Cv G MX6_reach (m_r (d + 1) 0 0) [.ref 9, vI z, vI s] (wW w (cI n f) (oRow 12 l) (cI n g)) none (wW w (cI n (up f z.toNat s)) (oRow 12 (l + 1)) (cI n (up g l.toNat z))) := by
  have a9 : (wW w (cI n f) (oRow 12 l) (cI n g))[9]? = some oWalk := by rw [wW_n (by decide) (by decide) (by decide)]; exact h9
  have a10 : (wW w (cI n f) (oRow 12 l) (cI n g))[10]? = some (cI n f) := wW_a hw
  have b9 : (wW w (cI n (up f z.toNat s)) (oRow 12 l) (cI n g))[9]? = some oWalk := by rw [wW_n (by decide) (by decide) (by decide)]; exact h9
  have b11 : (wW w (cI n (up f z.toNat s)) (oRow 12 l) (cI n g))[11]? = some (oRow 12 l) := wW_b hw
  have b12 : (wW w (cI n (up f z.toNat s)) (oRow 12 l) (cI n g))[12]? = some (cI n g) := wW_c hw
  refine m_enter (L := [some (.ref 9), some (vI z), some (vI s)]) (by decide) hG (m_c1 rfl) (Nat.le_of_ble_eq_true rfl) rfl ?_
  refine m_iload_n 1 dX6_reach_0 rfl rfl ?_
  refine i_if_lt 4 39 ⟨by first | omega | (rw [hf]; omega), by first | omega | (rw [hf]; omega)⟩ dX6_reach_1 rfl (by decide) (fun h => absurd h (by omega)) (fun _ => ?_)
  refine m_iload_n 5 dX6_reach_4 rfl rfl ?_
  refine m_aload_n 6 dX6_reach_5 rfl rfl ?_
  refine m_getf 9 foX6_19 dX6_reach_6 rfl (by first | rfl | assumption) (by rfl) ?_
  refine i_len 10 dX6_reach_9 rfl (by first | rfl | assumption) ?_
  refine i_icmp_ge 13 39 ⟨by first | omega | (rw [hf]; omega), by first | omega | (rw [hf]; omega)⟩ ⟨by first | omega | (rw [hf]; omega), by first | omega | (rw [hf]; omega)⟩ dX6_reach_10 rfl (by decide) (fun h => absurd h (by omega)) (fun _ => ?_)
  refine m_aload_n 14 dX6_reach_13 rfl rfl ?_
  refine m_getf 17 foX6_19 dX6_reach_14 rfl (by first | rfl | assumption) (by rfl) ?_
  refine m_iload_n 18 dX6_reach_17 rfl rfl ?_
  refine i_ald 19 dX6_reach_18 rfl (by first | rfl | assumption) ⟨by omega, by omega, by omega⟩ ?_
  refine i_const 20 dX6_reach_19 rfl ?_
  refine i_icmp_ne 23 39 ⟨by first | omega | (rw [hf]; omega), by first | omega | (rw [hf]; omega)⟩ ⟨by first | omega | (rw [hf]; omega), by first | omega | (rw [hf]; omega)⟩ dX6_reach_20 rfl (by decide) (fun h => absurd h (by rw [hf]; decide)) (fun _ => ?_)
  refine m_aload_n 24 dX6_reach_23 rfl rfl ?_
  refine m_getf 27 foX6_19 dX6_reach_24 rfl (by first | rfl | assumption) (by rfl) ?_
  refine m_iload_n 28 dX6_reach_27 rfl rfl ?_
  refine m_iload_n 29 dX6_reach_28 rfl rfl ?_
  refine i_ast 30 dX6_reach_29 rfl (by first | rfl | assumption) ⟨by omega, by omega, by omega⟩ ?_
  rw [wW_10]
  refine m_aload_n 31 dX6_reach_30 rfl rfl ?_
  refine m_getf 34 foX6_28 dX6_reach_31 rfl (by first | rfl | assumption) (by rfl) ?_
  refine m_iload_n 35 dX6_reach_34 rfl rfl ?_
  refine m_cV (M' := MX3_put) 38 [_] kX6_62 imX3_put seX3_put clX3_put dX6_reach_35 rfl rfl rfl (by first | rfl | assumption) (m_rmI (by omega) (Nat.le_of_ble_eq_true rfl) (Nat.le_refl _) (Nat.le_refl _)) (c_X3_put (i := 10) (c := 11) hG d b11 b12 (by decide) hl (by omega)) ?_
  refine m_pop 39 dX6_reach_38 rfl rfl ?_
  refine m_vret dX6_reach_39 rfl ⟨Nat.le_refl _, Nat.le_refl _⟩ ?_
  exact ⟨rfl, by rw [wW_12, wW_11]⟩
end WK
end
section
/-! GridShapes: what asks the net -/
section GX
variable {G : mG} {w : List mC}
abbrev oGrid : mC := mO 7 [.ref 2, .ref 5, .ref 8, .ref 9, .ref 13, .ref 16, .ref 18, .ref 20, .ref 21]
/-- the class's unchanging cells and its net -/
def cX (w : List mC) (k W H : Int) (n sl m : Nat) (col row bes : Nat → Int) (wal : Nat → Bool) : Prop :=
  w[1]? = some oGrid ∧ w[2]? = some (oFrame k W H n) ∧ w[3]? = some (cI n col) ∧ w[4]? = some (cI n row) ∧ w[5]? = some (oNet n sl) ∧ w[6]? = some (cI m bes) ∧ w[7]? = some (cZ m wal) ∧ w[8]? = some (oTurns (tuN k W H)) ∧ fOK k W H n ∧ nOK n sl m ∧ sl = slN k n ∧ (∀ j : Nat, j < n → col j = (j : Int) % W ∧ row j = (j : Int) / W) ∧ ∀ j : Nat, j < m → -1 ≤ bes j ∧ bes j < n
theorem cX.bes {w : List mC} {k W H : Int} {n sl m : Nat} {col row bes : Nat → Int} {wal : Nat → Bool} (h : cX w k W H n sl m col row bes wal) {p : Int} (hp : 0 ≤ p ∧ p < n) : ∀ s : Int, 0 ≤ s → s < sl → -1 ≤ bAt sl bes p s ∧ bAt sl bes p s < n := by
  obtain ⟨-, -, -, -, -, -, -, -, -, hN, -, -, hb⟩ := h
  intro s h1 h2
  have := nIx hN hp ⟨h1, h2⟩
  exact hb _ (by omega)
theorem cX.besR {w : List mC} {k W H : Int} {n sl m : Nat} {col row bes : Nat → Int} {wal : Nat → Bool} (h : cX w k W H n sl m col row bes wal) {p : Int} (hp : 0 ≤ p ∧ p < n) : ∀ s : Int, 0 ≤ s → s < sl → iR (bAt sl bes p s) := by
  intro s h1 h2
  have a := h.bes hp s h1 h2
  obtain ⟨-, -, -, -, -, -, -, -, -, ⟨hn1, hn2, -⟩, -⟩ := h
  exact ⟨by omega, by omega⟩
theorem cX.oat {w : List mC} {k W H : Int} {n sl m : Nat} {col row bes : Nat → Int} {wal : Nat → Bool} (h : cX w k W H n sl m col row bes wal) {p : Int} (hp : 0 ≤ p ∧ p < n) {s : Int} (h1 : 0 ≤ s) (h2 : s < sl) : -1 ≤ oAt sl bes wal p s ∧ oAt sl bes wal p s < n := by
  have a := h.bes hp s h1 h2
  obtain ⟨-, -, -, -, -, -, -, -, -, ⟨hn1, hn2, -⟩, -⟩ := h
  unfold oAt
  split <;> omega
/-- how many i from i on, of so many, with P -/
def cntF (P : Int → Bool) : Nat → Int → Int
  | 0, _ => 0
  | k + 1, i => (if P i then 1 else 0) + cntF P k (i + 1)
theorem cntF_le (P : Int → Bool) : ∀ (k : Nat) (i : Int), 0 ≤ cntF P k i ∧ cntF P k i ≤ k
  | 0, i => by simp [cntF]
  | k + 1, i => by
    have := cntF_le P k (i + 1)
    unfold cntF
    split <;> omega
/-- the c-th number that isn't -1, counting from f on -/
def nthF (g : Int → Int) (c : Int) : Nat → Int → Int → Int
  | 0, _, _ => -1
  | k + 1, i, f => if g i = -1 then nthF g c k (i + 1) f else if f = c then g i else nthF g c k (i + 1) (f + 1)

set_option maxHeartbeats 4000000 in
set_option maxRecDepth 100000 in
theorem c_X7_demandPlace (hG : m_G G) (d : Nat) {k W H : Int} {n sl m : Nat} {col row bes : Nat → Int} {wal : Nat → Bool} (hX : cX w k W H n sl m col row bes wal) {z : Int} (hz : 0 ≤ z ∧ z < n) : m_Cv G MX7_demandPlace (m_r (d + 1) 0 0) [.ref 1, vI z] w none w := by
  have hXX := hX
  obtain ⟨h1, h2, h3, h4, h5, h6, h7, h8, hF, hN, hsl, hcr, hbs⟩ := hX
  have hFF := hF
  have hNN := hN
  have hnb := hF.n
  obtain ⟨hk0, hk4, hW1, hW2, hH1, hH2, hn, hg4⟩ := hF
  obtain ⟨hn1, hn2, hl1, hl2, hm, hm2⟩ := hN
  refine m_enter (L := [some (.ref 1), some (vI z)]) (by decide) hG (m_c1 rfl) (Nat.le_of_ble_eq_true rfl) rfl ?_
  refine m_aload_n 1 dX7_demandPlace_0 rfl rfl ?_
  refine m_getf 4 foX7_12 dX7_demandPlace_1 rfl (by first | rfl | assumption) (by rfl) ?_
  refine m_iload_n 5 dX7_demandPlace_4 rfl rfl ?_
  refine m_cV (M' := MX1_has) 8 [_] kX7_169 imX1_has seX1_has clX1_has dX7_demandPlace_5 rfl rfl rfl (by first | rfl | assumption) (m_rmI (by omega) (Nat.le_of_ble_eq_true rfl) (Nat.le_refl _) (Nat.le_refl _)) (c_X1_has hG d h2 hFF ⟨by omega, by omega⟩) ?_
  refine b_if_ne 11 21 dX7_demandPlace_8 rfl (by decide) (fun _ => ?_) (fun h => absurd h (by rw [inB_1 hz]; decide))
  refine m_vret dX7_demandPlace_21 rfl ⟨Nat.le_refl _, Nat.le_refl _⟩ ?_
  exact ⟨rfl, rfl⟩
set_option maxHeartbeats 4000000 in
set_option maxRecDepth 100000 in
theorem c_X7_demandPlaceX (hG : m_G G) (d : Nat) {k W H : Int} {n sl m : Nat} {col row bes : Nat → Int} {wal : Nat → Bool} (hX : cX w k W H n sl m col row bes wal) {z : Int} (hz : ¬ (0 ≤ z ∧ z < n)) (hr : iR z) : m_Cx0 G MX7_demandPlace (m_r (d + 7) 1 6) [.ref 1, vI z] w (w ++ [mU]) := by
  have hXX := hX
  obtain ⟨h1, h2, h3, h4, h5, h6, h7, h8, hF, hN, hsl, hcr, hbs⟩ := hX
  have hFF := hF
  have hNN := hN
  have hnb := hF.n
  obtain ⟨hk0, hk4, hW1, hW2, hH1, hH2, hn, hg4⟩ := hF
  obtain ⟨hn1, hn2, hl1, hl2, hm, hm2⟩ := hN
  refine m_enter (L := [some (.ref 1), some (vI z)]) (by decide) hG (m_c1 rfl) (Nat.le_of_ble_eq_true rfl) rfl ?_
  refine m_aload_n 1 dX7_demandPlace_0 rfl rfl ?_
  refine m_getf 4 foX7_12 dX7_demandPlace_1 rfl (by first | rfl | assumption) (by rfl) ?_
  refine m_iload_n 5 dX7_demandPlace_4 rfl rfl ?_
  refine m_cV (M' := MX1_has) 8 [_] kX7_169 imX1_has seX1_has clX1_has dX7_demandPlace_5 rfl rfl rfl (by first | rfl | assumption) (m_rmI (by omega) (Nat.le_of_ble_eq_true rfl) (Nat.zero_le _) (Nat.zero_le _)) (c_X1_has hG (d + 6) h2 hFF hr) ?_
  refine b_if_ne 11 21 dX7_demandPlace_8 rfl (by decide) (fun h => absurd h (by rw [inB_0 hz]; decide)) (fun _ => ?_)
  exact m_throwNew rfl rfl dX7_demandPlace_11 dX7_demandPlace_14 dX7_demandPlace_15 dX7_demandPlace_17 dX7_demandPlace_20 kx170 kxi kxd (show 7 ≤ d + 7 by omega) (show 0 + 96 ≤ 36 * (d + 7) by omega) ⟨Nat.le_refl _, Nat.le_refl _⟩ ⟨rfl, rfl⟩
set_option maxHeartbeats 4000000 in
set_option maxRecDepth 100000 in
theorem c_X7_places (hG : m_G G) (d : Nat) {k W H : Int} {n sl m : Nat} {col row bes : Nat → Int} {wal : Nat → Bool} (hX : cX w k W H n sl m col row bes wal) : m_Cv G MX7_places (m_r d 0 0) [.ref 1] w (some (vI n)) w := by
  have hXX := hX
  obtain ⟨h1, h2, h3, h4, h5, h6, h7, h8, hF, hN, hsl, hcr, hbs⟩ := hX
  have hFF := hF
  have hNN := hN
  have hnb := hF.n
  obtain ⟨hk0, hk4, hW1, hW2, hH1, hH2, hn, hg4⟩ := hF
  obtain ⟨hn1, hn2, hl1, hl2, hm, hm2⟩ := hN
  refine m_enter (L := [some (.ref 1)]) (by decide) hG (m_c1 rfl) (Nat.le_of_ble_eq_true rfl) rfl ?_
  refine m_aload_n 1 dX7_places_0 rfl rfl ?_
  refine m_getf 4 foX7_12 dX7_places_1 rfl (by first | rfl | assumption) (by rfl) ?_
  refine m_getf 7 foX7_66 dX7_places_4 rfl (by first | rfl | assumption) (by rfl) ?_
  refine i_ret _ dX7_places_7 rfl ⟨Nat.le_refl _, Nat.le_refl _⟩ ?_ ⟨rfl, rfl⟩
  rfl
set_option maxHeartbeats 4000000 in
set_option maxRecDepth 100000 in
theorem l_X7_degree (hG : m_G G) (d : Nat) {k W H : Int} {n sl m : Nat} {col row bes : Nat → Int} {wal : Nat → Bool} (hX : cX w k W H n sl m col row bes wal) {p t : Int} {nx : Bool} (hp : 0 ≤ p ∧ p < n) :
    ∀ (j : Nat) (i f : Int) (x5 : Option Value), 0 ≤ i → i + j = sl → f + cntF (fun s => (if nx then oAt sl bes wal p s else bAt sl bes p s) != -1) j i = t → m_J G MX7_degree (m_r (d + 3) 0 0) (fun r x => r = some (some (vI t)) ∧ x = w) 0 0 10 [some (.ref 1), some (vI p), some (vB nx), some (vI f), some (vI i), x5] [] w := by
  have hXX := hX
  obtain ⟨h1, h2, h3, h4, h5, h6, h7, h8, hF, hN, hsl, hcr, hbs⟩ := hX
  have hFF := hF
  have hNN := hN
  have hnb := hF.n
  obtain ⟨hk0, hk4, hW1, hW2, hH1, hH2, hn, hg4⟩ := hF
  obtain ⟨hn1, hn2, hl1, hl2, hm, hm2⟩ := hN
  intro j
  induction j with
  | zero =>
    intro i f x5 hi0 hij ht
    refine m_iload 12 dX7_degree_10 rfl rfl ?_
    refine m_aload_n 13 dX7_degree_12 rfl rfl ?_
    refine m_getf 16 foX7_23 dX7_degree_13 rfl (by first | rfl | assumption) (by rfl) ?_
    refine m_getf 19 foX7_91 dX7_degree_16 rfl (by first | rfl | assumption) (by rfl) ?_
    refine i_icmp_ge 22 66 ⟨by omega, by omega⟩ ⟨by omega, by omega⟩ dX7_degree_19 rfl (by decide) (fun _ => ?_) (fun h => absurd h (by omega))
    refine m_iload_n 67 dX7_degree_66 rfl rfl ?_
    refine i_ret _ dX7_degree_67 rfl ⟨Nat.le_refl _, Nat.le_refl _⟩ ?_ ⟨rfl, rfl⟩
    simp only [cntF] at ht; omega
  | succ j ih =>
    intro i f x5 hi0 hij ht
    have hs : 0 ≤ i ∧ i < (sl : Int) := by omega
    have hb := hXX.bes hp i hs.1 hs.2
    have ho := hXX.oat hp hs.1 hs.2
    unfold cntF at ht
    refine m_iload 12 dX7_degree_10 rfl rfl ?_
    refine m_aload_n 13 dX7_degree_12 rfl rfl ?_
    refine m_getf 16 foX7_23 dX7_degree_13 rfl (by first | rfl | assumption) (by rfl) ?_
    refine m_getf 19 foX7_91 dX7_degree_16 rfl (by first | rfl | assumption) (by rfl) ?_
    refine i_icmp_ge 22 66 ⟨by omega, by omega⟩ ⟨by omega, by omega⟩ dX7_degree_19 rfl (by decide) (fun h => absurd h (by omega)) (fun _ => ?_)
    refine m_iload_n 23 dX7_degree_22 rfl rfl ?_
    refine b_if_eq 26 39 dX7_degree_23 rfl (by decide) (fun q23 => ?_) (fun q23 => ?_)
    · refine m_aload_n 40 dX7_degree_39 rfl rfl ?_
      refine m_getf 43 foX7_23 dX7_degree_40 rfl (by first | rfl | assumption) (by rfl) ?_
      refine m_iload_n 44 dX7_degree_43 rfl rfl ?_
      refine m_iload 46 dX7_degree_44 rfl rfl ?_
      refine m_cV (M' := MX2_besideAt) 49 [_, _] kX7_97 imX2_besideAt seX2_besideAt clX2_besideAt dX7_degree_46 rfl rfl rfl (by first | rfl | assumption) (m_rmI (by omega) (Nat.le_of_ble_eq_true rfl) (Nat.le_refl _) (Nat.le_refl _)) (c_X2_besideAt hG (d + 1) h5 hNN h6 hp hs) ?_
      refine m_istore 51 dX7_degree_49 rfl (by decide) ?_
      refine m_iload 53 dX7_degree_51 rfl rfl ?_
      refine i_const 54 dX7_degree_53 rfl ?_
      refine i_icmp_eq 57 60 ⟨by omega, by omega⟩ ⟨by omega, by omega⟩ dX7_degree_54 rfl (by decide) (fun q54 => ?_) (fun q54 => ?_)
      · refine i_inc 63 dX7_degree_60 rfl rfl (by decide) ?_
        refine m_goto 10 dX7_degree_63 (by decide) ?_
        subst q23
        first
          | (refine ih _ _ _ (by omega) (by omega) ?_; rw [if_neg (by simpa using q54)] at ht; omega)
          | (refine ih _ _ _ (by omega) (by omega) ?_; rw [if_pos (by simpa using q54)] at ht; omega)
      · refine i_inc 60 dX7_degree_57 rfl rfl (by decide) ?_
        refine i_inc 63 dX7_degree_60 rfl rfl (by decide) ?_
        refine m_goto 10 dX7_degree_63 (by decide) ?_
        subst q23
        first
          | (refine ih _ _ _ (by omega) (by omega) ?_; rw [if_neg (by simpa using q54)] at ht; omega)
          | (refine ih _ _ _ (by omega) (by omega) ?_; rw [if_pos (by simpa using q54)] at ht; omega)
    · refine m_aload_n 27 dX7_degree_26 rfl rfl ?_
      refine m_getf 30 foX7_23 dX7_degree_27 rfl (by first | rfl | assumption) (by rfl) ?_
      refine m_iload_n 31 dX7_degree_30 rfl rfl ?_
      refine m_iload 33 dX7_degree_31 rfl rfl ?_
      refine m_cV (M' := MX2_openAt) 36 [_, _] kX7_94 imX2_openAt seX2_openAt clX2_openAt dX7_degree_33 rfl rfl rfl (by first | rfl | assumption) (m_rmI (by omega) (Nat.le_of_ble_eq_true rfl) (Nat.le_refl _) (Nat.le_refl _)) (c_X2_openAt hG d h5 hNN h6 h7 hp hs) ?_
      refine m_goto 49 dX7_degree_36 (by decide) ?_
      refine m_istore 51 dX7_degree_49 rfl (by decide) ?_
      refine m_iload 53 dX7_degree_51 rfl rfl ?_
      refine i_const 54 dX7_degree_53 rfl ?_
      refine i_icmp_eq 57 60 ⟨by omega, by omega⟩ ⟨by omega, by omega⟩ dX7_degree_54 rfl (by decide) (fun q54 => ?_) (fun q54 => ?_)
      · refine i_inc 63 dX7_degree_60 rfl rfl (by decide) ?_
        refine m_goto 10 dX7_degree_63 (by decide) ?_
        subst q23
        first
          | (refine ih _ _ _ (by omega) (by omega) ?_; rw [if_neg (by simpa using q54)] at ht; omega)
          | (refine ih _ _ _ (by omega) (by omega) ?_; rw [if_pos (by simpa using q54)] at ht; omega)
      · refine i_inc 60 dX7_degree_57 rfl rfl (by decide) ?_
        refine i_inc 63 dX7_degree_60 rfl rfl (by decide) ?_
        refine m_goto 10 dX7_degree_63 (by decide) ?_
        subst q23
        first
          | (refine ih _ _ _ (by omega) (by omega) ?_; rw [if_neg (by simpa using q54)] at ht; omega)
          | (refine ih _ _ _ (by omega) (by omega) ?_; rw [if_pos (by simpa using q54)] at ht; omega)
set_option maxHeartbeats 4000000 in
set_option maxRecDepth 100000 in
theorem c_X7_degree (hG : m_G G) (d : Nat) {k W H : Int} {n sl m : Nat} {col row bes : Nat → Int} {wal : Nat → Bool} (hX : cX w k W H n sl m col row bes wal) {p : Int} {nx : Bool} (hp : 0 ≤ p ∧ p < n) : m_Cv G MX7_degree (m_r (d + 3) 0 0) [.ref 1, vI p, vB nx] w (some (vI (cntF (fun s => (if nx then oAt sl bes wal p s else bAt sl bes p s) != -1) sl 0))) w := by
  have hXX := hX
  obtain ⟨h1, h2, h3, h4, h5, h6, h7, h8, hF, hN, hsl, hcr, hbs⟩ := hX
  have hFF := hF
  have hNN := hN
  have hnb := hF.n
  obtain ⟨hk0, hk4, hW1, hW2, hH1, hH2, hn, hg4⟩ := hF
  obtain ⟨hn1, hn2, hl1, hl2, hm, hm2⟩ := hN
  refine m_enter (L := [some (.ref 1), some (vI p), some (vB nx), none, none, none]) (by decide) hG (m_c1 rfl) (Nat.le_of_ble_eq_true rfl) rfl ?_
  refine m_aload_n 1 dX7_degree_0 rfl rfl ?_
  refine m_iload_n 2 dX7_degree_1 rfl rfl ?_
  refine m_cV (M' := MX7_demandPlace) 5 [_] kX7_77 imX7_demandPlace seX7_demandPlace clX7_demandPlace dX7_degree_2 rfl rfl rfl (by first | rfl | assumption) (m_rmI (by omega) (Nat.le_of_ble_eq_true rfl) (Nat.le_refl _) (Nat.le_refl _)) (c_X7_demandPlace hG (d + 1) hXX ⟨by omega, by omega⟩) ?_
  refine i_const 6 dX7_degree_5 rfl ?_
  refine m_istore_n 7 dX7_degree_6 rfl (by decide) ?_
  refine i_const 8 dX7_degree_7 rfl ?_
  refine m_istore 10 dX7_degree_8 rfl (by decide) ?_
  exact l_X7_degree hG d hXX hp sl 0 0 _ (by omega) (by omega) (by omega)
set_option maxHeartbeats 4000000 in
set_option maxRecDepth 100000 in
theorem l_X7_neighbour (hG : m_G G) (d : Nat) {k W H : Int} {n sl m : Nat} {col row bes : Nat → Int} {wal : Nat → Bool} (hX : cX w k W H n sl m col row bes wal) {p c t : Int} (hp : 0 ≤ p ∧ p < n) (hc : iR c) :
    ∀ (j : Nat) (i f : Int) (x5 : Option Value), 0 ≤ i → i + j = sl → 0 ≤ f → f ≤ i → nthF (bAt sl bes p) c j i f = t → m_J G MX7_neighbour (m_r (d + 3) 0 0) (fun r x => r = some (some (vI t)) ∧ x = w) 0 0 10 [some (.ref 1), some (vI p), some (vI c), some (vI f), some (vI i), x5] [] w := by
  have hXX := hX
  obtain ⟨h1, h2, h3, h4, h5, h6, h7, h8, hF, hN, hsl, hcr, hbs⟩ := hX
  have hFF := hF
  have hNN := hN
  have hnb := hF.n
  obtain ⟨hk0, hk4, hW1, hW2, hH1, hH2, hn, hg4⟩ := hF
  obtain ⟨hn1, hn2, hl1, hl2, hm, hm2⟩ := hN
  obtain ⟨hc1, hc2⟩ := hc
  intro j
  induction j with
  | zero =>
    intro i f x5 hi0 hij hf0 hf1 ht
    refine m_iload 12 dX7_neighbour_10 rfl rfl ?_
    refine m_aload_n 13 dX7_neighbour_12 rfl rfl ?_
    refine m_getf 16 foX7_23 dX7_neighbour_13 rfl (by first | rfl | assumption) (by rfl) ?_
    refine m_getf 19 foX7_91 dX7_neighbour_16 rfl (by first | rfl | assumption) (by rfl) ?_
    refine i_icmp_ge 22 57 ⟨by omega, by omega⟩ ⟨by omega, by omega⟩ dX7_neighbour_19 rfl (by decide) (fun _ => ?_) (fun h => absurd h (by omega))
    refine i_const 58 dX7_neighbour_57 rfl ?_
    refine i_ret _ dX7_neighbour_58 rfl ⟨Nat.le_refl _, Nat.le_refl _⟩ ?_ ⟨rfl, rfl⟩
    exact ht
  | succ j ih =>
    intro i f x5 hi0 hij hf0 hf1 ht
    have hs : 0 ≤ i ∧ i < (sl : Int) := by omega
    have hb := hXX.bes hp i hs.1 hs.2
    unfold nthF at ht
    refine m_iload 12 dX7_neighbour_10 rfl rfl ?_
    refine m_aload_n 13 dX7_neighbour_12 rfl rfl ?_
    refine m_getf 16 foX7_23 dX7_neighbour_13 rfl (by first | rfl | assumption) (by rfl) ?_
    refine m_getf 19 foX7_91 dX7_neighbour_16 rfl (by first | rfl | assumption) (by rfl) ?_
    refine i_icmp_ge 22 57 ⟨by omega, by omega⟩ ⟨by omega, by omega⟩ dX7_neighbour_19 rfl (by decide) (fun h => absurd h (by omega)) (fun _ => ?_)
    refine m_aload_n 23 dX7_neighbour_22 rfl rfl ?_
    refine m_getf 26 foX7_23 dX7_neighbour_23 rfl (by first | rfl | assumption) (by rfl) ?_
    refine m_iload_n 27 dX7_neighbour_26 rfl rfl ?_
    refine m_iload 29 dX7_neighbour_27 rfl rfl ?_
    refine m_cV (M' := MX2_besideAt) 32 [_, _] kX7_97 imX2_besideAt seX2_besideAt clX2_besideAt dX7_neighbour_29 rfl rfl rfl (by first | rfl | assumption) (m_rmI (by omega) (Nat.le_of_ble_eq_true rfl) (Nat.le_refl _) (Nat.le_refl _)) (c_X2_besideAt hG (d + 1) h5 hNN h6 hp hs) ?_
    refine m_istore 34 dX7_neighbour_32 rfl (by decide) ?_
    refine m_iload 36 dX7_neighbour_34 rfl rfl ?_
    refine i_const 37 dX7_neighbour_36 rfl ?_
    refine i_icmp_eq 40 51 ⟨by omega, by omega⟩ ⟨by omega, by omega⟩ dX7_neighbour_37 rfl (by decide) (fun q37 => ?_) (fun q37 => ?_)
    · refine i_inc 54 dX7_neighbour_51 rfl rfl (by decide) ?_
      refine m_goto 10 dX7_neighbour_54 (by decide) ?_
      first
        | (rw [if_pos q37] at ht; exact ih _ _ _ (by omega) (by omega) (by omega) (by omega) ht)
        | (rw [if_neg q37, if_neg q42] at ht; exact ih _ _ _ (by omega) (by omega) (by omega) (by omega) ht)
    · refine m_iload_n 41 dX7_neighbour_40 rfl rfl ?_
      refine m_iload_n 42 dX7_neighbour_41 rfl rfl ?_
      refine i_icmp_ne 45 48 ⟨by omega, by omega⟩ ⟨by omega, by omega⟩ dX7_neighbour_42 rfl (by decide) (fun q42 => ?_) (fun q42 => ?_)
      · refine i_inc 51 dX7_neighbour_48 rfl rfl (by decide) ?_
        refine i_inc 54 dX7_neighbour_51 rfl rfl (by decide) ?_
        refine m_goto 10 dX7_neighbour_54 (by decide) ?_
        first
          | (rw [if_pos q37] at ht; exact ih _ _ _ (by omega) (by omega) (by omega) (by omega) ht)
          | (rw [if_neg q37, if_neg q42] at ht; exact ih _ _ _ (by omega) (by omega) (by omega) (by omega) ht)
      · refine m_iload 47 dX7_neighbour_45 rfl rfl ?_
        refine i_ret _ dX7_neighbour_47 rfl ⟨Nat.le_refl _, Nat.le_refl _⟩ ?_ ⟨rfl, rfl⟩
        rw [if_neg q37, if_pos q42] at ht; exact ht
set_option maxHeartbeats 4000000 in
set_option maxRecDepth 100000 in
theorem c_X7_neighbour (hG : m_G G) (d : Nat) {k W H : Int} {n sl m : Nat} {col row bes : Nat → Int} {wal : Nat → Bool} (hX : cX w k W H n sl m col row bes wal) {p c : Int} (hp : 0 ≤ p ∧ p < n) (hc : iR c) : m_Cv G MX7_neighbour (m_r (d + 3) 0 0) [.ref 1, vI p, vI c] w (some (vI (nthF (bAt sl bes p) c sl 0 0))) w := by
  have hXX := hX
  obtain ⟨h1, h2, h3, h4, h5, h6, h7, h8, hF, hN, hsl, hcr, hbs⟩ := hX
  have hFF := hF
  have hNN := hN
  have hnb := hF.n
  obtain ⟨hk0, hk4, hW1, hW2, hH1, hH2, hn, hg4⟩ := hF
  obtain ⟨hn1, hn2, hl1, hl2, hm, hm2⟩ := hN
  refine m_enter (L := [some (.ref 1), some (vI p), some (vI c), none, none, none]) (by decide) hG (m_c1 rfl) (Nat.le_of_ble_eq_true rfl) rfl ?_
  refine m_aload_n 1 dX7_neighbour_0 rfl rfl ?_
  refine m_iload_n 2 dX7_neighbour_1 rfl rfl ?_
  refine m_cV (M' := MX7_demandPlace) 5 [_] kX7_77 imX7_demandPlace seX7_demandPlace clX7_demandPlace dX7_neighbour_2 rfl rfl rfl (by first | rfl | assumption) (m_rmI (by omega) (Nat.le_of_ble_eq_true rfl) (Nat.le_refl _) (Nat.le_refl _)) (c_X7_demandPlace hG (d + 1) hXX ⟨by omega, by omega⟩) ?_
  refine i_const 6 dX7_neighbour_5 rfl ?_
  refine m_istore_n 7 dX7_neighbour_6 rfl (by decide) ?_
  refine i_const 8 dX7_neighbour_7 rfl ?_
  refine m_istore 10 dX7_neighbour_8 rfl (by decide) ?_
  exact l_X7_neighbour hG d hXX hp hc sl 0 0 _ (by omega) (by omega) (by omega) (by omega) rfl
theorem fndF_r (P : Int → Bool) : ∀ (k : Nat) (i : Int), fndF P k i = -1 ∨ (i ≤ fndF P k i ∧ fndF P k i < i + k ∧ P (fndF P k i) = true)
  | 0, i => by simp [fndF]
  | k + 1, i => by
    have := fndF_r P k (i + 1)
    unfold fndF
    by_cases h : P i = true
    · rw [if_pos h]; exact Or.inr ⟨by omega, by omega, h⟩
    · rw [if_neg h]
      rcases this with h1 | ⟨h1, h2, h3⟩
      · exact Or.inl h1
      · exact Or.inr ⟨by omega, by omega, h3⟩
theorem sOf_r (sl : Nat) (f : Nat → Int) (p o : Int) : sOf sl f p o = -1 ∨ (0 ≤ sOf sl f p o ∧ sOf sl f p o < sl ∧ bAt sl f p (sOf sl f p o) = o) := by
  unfold sOf
  split
  · exact Or.inl rfl
  · have := fndF_r (fun s => bAt sl f p s == o) sl 0
    rcases this with h | ⟨h1, h2, h3⟩
    · exact Or.inl h
    · exact Or.inr ⟨h1, by omega, by simpa using h3⟩
set_option maxHeartbeats 4000000 in
set_option maxRecDepth 100000 in
theorem c_X7_joinN (hG : m_G G) (d : Nat) {k W H : Int} {n sl m : Nat} {col row bes : Nat → Int} {wal : Nat → Bool} (hX : cX w k W H n sl m col row bes wal) {a b : Int} (ha : 0 ≤ a ∧ a < n) (hb : 0 ≤ b ∧ b < n) (hno : k ≠ 4 ∨ a = b ∨ sOf sl bes a b ≠ -1) : m_Cv G MX7_join (m_r (d + 3) 0 0) [.ref 1, vI a, vI b] w (some (vB false)) w := by
  have hXX := hX
  obtain ⟨h1, h2, h3, h4, h5, h6, h7, h8, hF, hN, hsl, hcr, hbs⟩ := hX
  have hFF := hF
  have hNN := hN
  have hnb := hF.n
  obtain ⟨hk0, hk4, hW1, hW2, hH1, hH2, hn, hg4⟩ := hF
  obtain ⟨hn1, hn2, hl1, hl2, hm, hm2⟩ := hN
  have hso := sOf_r sl bes a b
  refine m_enter (L := [some (.ref 1), some (vI a), some (vI b)]) (by decide) hG (m_c1 rfl) (Nat.le_of_ble_eq_true rfl) rfl ?_
  refine m_aload_n 1 dX7_join_0 rfl rfl ?_
  refine m_iload_n 2 dX7_join_1 rfl rfl ?_
  refine m_cV (M' := MX7_demandPlace) 5 [_] kX7_77 imX7_demandPlace seX7_demandPlace clX7_demandPlace dX7_join_2 rfl rfl rfl (by first | rfl | assumption) (m_rmI (by omega) (Nat.le_of_ble_eq_true rfl) (Nat.le_refl _) (Nat.le_refl _)) (c_X7_demandPlace hG (d + 1) hXX ⟨by omega, by omega⟩) ?_
  refine m_aload_n 6 dX7_join_5 rfl rfl ?_
  refine m_iload_n 7 dX7_join_6 rfl rfl ?_
  refine m_cV (M' := MX7_demandPlace) 10 [_] kX7_77 imX7_demandPlace seX7_demandPlace clX7_demandPlace dX7_join_7 rfl rfl rfl (by first | rfl | assumption) (m_rmI (by omega) (Nat.le_of_ble_eq_true rfl) (Nat.le_refl _) (Nat.le_refl _)) (c_X7_demandPlace hG (d + 1) hXX ⟨by omega, by omega⟩) ?_
  refine m_aload_n 11 dX7_join_10 rfl rfl ?_
  refine m_getf 14 foX7_12 dX7_join_11 rfl (by first | rfl | assumption) (by rfl) ?_
  refine m_getf 17 foX7_80 dX7_join_14 rfl (by first | rfl | assumption) (by rfl) ?_
  refine i_const 18 dX7_join_17 rfl ?_
  refine i_icmp_ne 21 39 ⟨by omega, by omega⟩ ⟨by omega, by omega⟩ dX7_join_18 rfl (by decide) (fun q18 => ?_) (fun q18 => ?_)
  · refine i_const 40 dX7_join_39 rfl ?_
    refine i_retB _ dX7_join_40 rfl ⟨Nat.le_refl _, Nat.le_refl _⟩ ?_ ⟨rfl, rfl⟩
    refine i_eq0 ?_
    rfl
  · refine m_iload_n 22 dX7_join_21 rfl rfl ?_
    refine m_iload_n 23 dX7_join_22 rfl rfl ?_
    refine i_icmp_eq 26 39 ⟨by omega, by omega⟩ ⟨by omega, by omega⟩ dX7_join_23 rfl (by decide) (fun q23 => ?_) (fun q23 => ?_)
    · refine i_const 40 dX7_join_39 rfl ?_
      refine i_retB _ dX7_join_40 rfl ⟨Nat.le_refl _, Nat.le_refl _⟩ ?_ ⟨rfl, rfl⟩
      refine i_eq0 ?_
      rfl
    · refine m_aload_n 27 dX7_join_26 rfl rfl ?_
      refine m_getf 30 foX7_23 dX7_join_27 rfl (by first | rfl | assumption) (by rfl) ?_
      refine m_iload_n 31 dX7_join_30 rfl rfl ?_
      refine m_iload_n 32 dX7_join_31 rfl rfl ?_
      refine m_cV (M' := MX2_slotOf) 35 [_, _] kX7_83 imX2_slotOf seX2_slotOf clX2_slotOf dX7_join_32 rfl rfl rfl (by first | rfl | assumption) (m_rmI (by omega) (Nat.le_of_ble_eq_true rfl) (Nat.le_refl _) (Nat.le_refl _)) (c_X2_slotOf hG (d) h5 hNN h6 ⟨by omega, by omega⟩ ⟨by omega, by omega⟩ (hXX.besR ⟨by omega, by omega⟩)) ?_
      refine i_const 36 dX7_join_35 rfl ?_
      refine i_icmp_eq 39 41 ⟨by omega, by omega⟩ ⟨by omega, by omega⟩ dX7_join_36 rfl (by decide) (fun q36 => ?_) (fun q36 => ?_)
      · exact absurd hno (by omega)
      · refine i_const 40 dX7_join_39 rfl ?_
        refine i_retB _ dX7_join_40 rfl ⟨Nat.le_refl _, Nat.le_refl _⟩ ?_ ⟨rfl, rfl⟩
        refine i_eq0 ?_
        rfl
set_option maxHeartbeats 4000000 in
set_option maxRecDepth 100000 in
theorem c_X7_joinY (hG : m_G G) (d : Nat) {k W H : Int} {n sl m : Nat} {col row bes : Nat → Int} {wal : Nat → Bool} (hX : cX w k W H n sl m col row bes wal) {a b : Int} (ha : 0 ≤ a ∧ a < n) (hb : 0 ≤ b ∧ b < n) (hk : k = 4) (hab : a ≠ b) (hs : sOf sl bes a b = -1) : m_Cv G MX7_join (m_r (d + 3) 0 0) [.ref 1, vI a, vI b] w (some (vB true)) (w.set 6 (cI m (up (up bes (a * sl + b).toNat b) (b * sl + a).toNat a))) := by
  have hXX := hX
  obtain ⟨h1, h2, h3, h4, h5, h6, h7, h8, hF, hN, hsl, hcr, hbs⟩ := hX
  have hFF := hF
  have hNN := hN
  have hnb := hF.n
  obtain ⟨hk0, hk4, hW1, hW2, hH1, hH2, hn, hg4⟩ := hF
  obtain ⟨hn1, hn2, hl1, hl2, hm, hm2⟩ := hN
  have hsn : sl = n := by rw [hsl]; unfold slN; subst hk; rfl
  refine m_enter (L := [some (.ref 1), some (vI a), some (vI b)]) (by decide) hG (m_c1 rfl) (Nat.le_of_ble_eq_true rfl) rfl ?_
  refine m_aload_n 1 dX7_join_0 rfl rfl ?_
  refine m_iload_n 2 dX7_join_1 rfl rfl ?_
  refine m_cV (M' := MX7_demandPlace) 5 [_] kX7_77 imX7_demandPlace seX7_demandPlace clX7_demandPlace dX7_join_2 rfl rfl rfl (by first | rfl | assumption) (m_rmI (by omega) (Nat.le_of_ble_eq_true rfl) (Nat.le_refl _) (Nat.le_refl _)) (c_X7_demandPlace hG (d + 1) hXX ⟨by omega, by omega⟩) ?_
  refine m_aload_n 6 dX7_join_5 rfl rfl ?_
  refine m_iload_n 7 dX7_join_6 rfl rfl ?_
  refine m_cV (M' := MX7_demandPlace) 10 [_] kX7_77 imX7_demandPlace seX7_demandPlace clX7_demandPlace dX7_join_7 rfl rfl rfl (by first | rfl | assumption) (m_rmI (by omega) (Nat.le_of_ble_eq_true rfl) (Nat.le_refl _) (Nat.le_refl _)) (c_X7_demandPlace hG (d + 1) hXX ⟨by omega, by omega⟩) ?_
  refine m_aload_n 11 dX7_join_10 rfl rfl ?_
  refine m_getf 14 foX7_12 dX7_join_11 rfl (by first | rfl | assumption) (by rfl) ?_
  refine m_getf 17 foX7_80 dX7_join_14 rfl (by first | rfl | assumption) (by rfl) ?_
  refine i_const 18 dX7_join_17 rfl ?_
  refine i_icmp_ne 21 39 ⟨by omega, by omega⟩ ⟨by omega, by omega⟩ dX7_join_18 rfl (by decide) (fun h => absurd h (by omega)) (fun _ => ?_)
  refine m_iload_n 22 dX7_join_21 rfl rfl ?_
  refine m_iload_n 23 dX7_join_22 rfl rfl ?_
  refine i_icmp_eq 26 39 ⟨by omega, by omega⟩ ⟨by omega, by omega⟩ dX7_join_23 rfl (by decide) (fun h => absurd h (by omega)) (fun _ => ?_)
  refine m_aload_n 27 dX7_join_26 rfl rfl ?_
  refine m_getf 30 foX7_23 dX7_join_27 rfl (by first | rfl | assumption) (by rfl) ?_
  refine m_iload_n 31 dX7_join_30 rfl rfl ?_
  refine m_iload_n 32 dX7_join_31 rfl rfl ?_
  refine m_cV (M' := MX2_slotOf) 35 [_, _] kX7_83 imX2_slotOf seX2_slotOf clX2_slotOf dX7_join_32 rfl rfl rfl (by first | rfl | assumption) (m_rmI (by omega) (Nat.le_of_ble_eq_true rfl) (Nat.le_refl _) (Nat.le_refl _)) (c_X2_slotOf hG d h5 hNN h6 ⟨by omega, by omega⟩ ⟨by omega, by omega⟩ (hXX.besR ⟨by omega, by omega⟩)) ?_
  refine i_const 36 dX7_join_35 rfl ?_
  refine i_icmp_eq 39 41 ⟨by omega, by omega⟩ ⟨by omega, by omega⟩ dX7_join_36 rfl (by decide) (fun _ => ?_) (fun h => absurd h (by omega))
  refine m_aload_n 42 dX7_join_41 rfl rfl ?_
  refine m_getf 45 foX7_23 dX7_join_42 rfl (by first | rfl | assumption) (by rfl) ?_
  refine m_iload_n 46 dX7_join_45 rfl rfl ?_
  refine m_iload_n 47 dX7_join_46 rfl rfl ?_
  refine m_cV (M' := MX2_tie) 50 [_, _] kX7_87 imX2_tie seX2_tie clX2_tie dX7_join_47 rfl rfl rfl (by first | rfl | assumption) (m_rmI (by omega) (Nat.le_of_ble_eq_true rfl) (Nat.le_refl _) (Nat.le_refl _)) (c_X2_tie hG (d + 1) h5 hNN h6 ⟨by omega, by omega, by omega⟩ ⟨by omega, by omega, by omega⟩) ?_
  refine i_const 51 dX7_join_50 rfl ?_
  refine i_retB _ dX7_join_51 rfl ⟨Nat.le_refl _, Nat.le_refl _⟩ ?_ ⟨rfl, rfl⟩
  refine i_eq1 ?_
  rfl
set_option maxHeartbeats 4000000 in
set_option maxRecDepth 100000 in
theorem c_X7_wallN (hG : m_G G) (d : Nat) {k W H : Int} {n sl m : Nat} {col row bes : Nat → Int} {wal : Nat → Bool} (hX : cX w k W H n sl m col row bes wal) {a b : Int} {on : Bool} (ha : 0 ≤ a ∧ a < n) (hb : 0 ≤ b ∧ b < n) (hno : sOf sl bes a b = -1 ∨ wAt sl wal a (sOf sl bes a b) = on) : m_Cv G MX7_wall (m_r (d + 3) 0 0) [.ref 1, vI a, vI b, vB on] w (some (vB false)) w := by
  have hXX := hX
  obtain ⟨h1, h2, h3, h4, h5, h6, h7, h8, hF, hN, hsl, hcr, hbs⟩ := hX
  have hFF := hF
  have hNN := hN
  have hnb := hF.n
  obtain ⟨hk0, hk4, hW1, hW2, hH1, hH2, hn, hg4⟩ := hF
  obtain ⟨hn1, hn2, hl1, hl2, hm, hm2⟩ := hN
  have hso := sOf_r sl bes a b
  refine m_enter (L := [some (.ref 1), some (vI a), some (vI b), some (vB on), none]) (by decide) hG (m_c1 rfl) (Nat.le_of_ble_eq_true rfl) rfl ?_
  refine m_aload_n 1 dX7_wall_0 rfl rfl ?_
  refine m_iload_n 2 dX7_wall_1 rfl rfl ?_
  refine m_cV (M' := MX7_demandPlace) 5 [_] kX7_77 imX7_demandPlace seX7_demandPlace clX7_demandPlace dX7_wall_2 rfl rfl rfl (by first | rfl | assumption) (m_rmI (by omega) (Nat.le_of_ble_eq_true rfl) (Nat.le_refl _) (Nat.le_refl _)) (c_X7_demandPlace hG (d + 1) hXX ⟨by omega, by omega⟩) ?_
  refine m_aload_n 6 dX7_wall_5 rfl rfl ?_
  refine m_iload_n 7 dX7_wall_6 rfl rfl ?_
  refine m_cV (M' := MX7_demandPlace) 10 [_] kX7_77 imX7_demandPlace seX7_demandPlace clX7_demandPlace dX7_wall_7 rfl rfl rfl (by first | rfl | assumption) (m_rmI (by omega) (Nat.le_of_ble_eq_true rfl) (Nat.le_refl _) (Nat.le_refl _)) (c_X7_demandPlace hG (d + 1) hXX ⟨by omega, by omega⟩) ?_
  refine m_aload_n 11 dX7_wall_10 rfl rfl ?_
  refine m_getf 14 foX7_23 dX7_wall_11 rfl (by first | rfl | assumption) (by rfl) ?_
  refine m_iload_n 15 dX7_wall_14 rfl rfl ?_
  refine m_iload_n 16 dX7_wall_15 rfl rfl ?_
  refine m_cV (M' := MX2_slotOf) 19 [_, _] kX7_83 imX2_slotOf seX2_slotOf clX2_slotOf dX7_wall_16 rfl rfl rfl (by first | rfl | assumption) (m_rmI (by omega) (Nat.le_of_ble_eq_true rfl) (Nat.le_refl _) (Nat.le_refl _)) (c_X2_slotOf hG d h5 hNN h6 ⟨by omega, by omega⟩ ⟨by omega, by omega⟩ (hXX.besR ⟨by omega, by omega⟩)) ?_
  refine m_istore 21 dX7_wall_19 rfl (by decide) ?_
  refine m_iload 23 dX7_wall_21 rfl rfl ?_
  refine i_const 24 dX7_wall_23 rfl ?_
  refine i_icmp_eq 27 41 ⟨by omega, by omega⟩ ⟨by omega, by omega⟩ dX7_wall_24 rfl (by decide) (fun q24 => ?_) (fun q24 => ?_)
  · refine i_const 42 dX7_wall_41 rfl ?_
    refine i_retB _ dX7_wall_42 rfl ⟨Nat.le_refl _, Nat.le_refl _⟩ ?_ ⟨rfl, rfl⟩
    refine i_eq0 ?_
    rfl
  · refine m_aload_n 28 dX7_wall_27 rfl rfl ?_
    refine m_getf 31 foX7_23 dX7_wall_28 rfl (by first | rfl | assumption) (by rfl) ?_
    refine m_iload_n 32 dX7_wall_31 rfl rfl ?_
    refine m_iload 34 dX7_wall_32 rfl rfl ?_
    refine m_cV (M' := MX2_walledAt) 37 [_, _] kX7_100 imX2_walledAt seX2_walledAt clX2_walledAt dX7_wall_34 rfl rfl rfl (by first | rfl | assumption) (m_rmI (by omega) (Nat.le_of_ble_eq_true rfl) (Nat.le_refl _) (Nat.le_refl _)) (c_X2_walledAt hG (d + 1) h5 hNN h7 ha ⟨by omega, by omega⟩) ?_
    refine m_iload_n 38 dX7_wall_37 rfl rfl ?_
    refine b_icmp_ne 41 43 dX7_wall_38 rfl (by decide) (fun q38 => ?_) (fun q38 => ?_)
    · exact hno.elim (fun h => absurd h q24) (fun h => absurd h q38)
    · refine i_const 42 dX7_wall_41 rfl ?_
      refine i_retB _ dX7_wall_42 rfl ⟨Nat.le_refl _, Nat.le_refl _⟩ ?_ ⟨rfl, rfl⟩
      refine i_eq0 ?_
      rfl
set_option maxHeartbeats 4000000 in
set_option maxRecDepth 100000 in
theorem c_X7_wallY (hG : m_G G) (d : Nat) {k W H : Int} {n sl m : Nat} {col row bes : Nat → Int} {wal : Nat → Bool} (hX : cX w k W H n sl m col row bes wal) {a b : Int} {on : Bool} (ha : 0 ≤ a ∧ a < n) (hb : 0 ≤ b ∧ b < n) (hs1 : 0 ≤ sOf sl bes a b ∧ sOf sl bes a b < sl) (hs2 : 0 ≤ sOf sl bes b a ∧ sOf sl bes b a < sl) (hwl : wAt sl wal a (sOf sl bes a b) ≠ on) : m_Cv G MX7_wall (m_r (d + 3) 0 0) [.ref 1, vI a, vI b, vB on] w (some (vB true)) (w.set 7 (cZ m (up (up wal (a * sl + sOf sl bes a b).toNat on) (b * sl + sOf sl bes b a).toNat on))) := by
  have hXX := hX
  obtain ⟨h1, h2, h3, h4, h5, h6, h7, h8, hF, hN, hsl, hcr, hbs⟩ := hX
  have hFF := hF
  have hNN := hN
  have hnb := hF.n
  obtain ⟨hk0, hk4, hW1, hW2, hH1, hH2, hn, hg4⟩ := hF
  obtain ⟨hn1, hn2, hl1, hl2, hm, hm2⟩ := hN
  have a1 : (w.set 7 (cZ m (up wal (a * sl + sOf sl bes a b).toNat on)))[1]? = some oGrid := by rw [List.getElem?_set_ne (by decide)]; exact h1
  have a5 : (w.set 7 (cZ m (up wal (a * sl + sOf sl bes a b).toNat on)))[5]? = some (oNet n sl) := by rw [List.getElem?_set_ne (by decide)]; exact h5
  have a6 : (w.set 7 (cZ m (up wal (a * sl + sOf sl bes a b).toNat on)))[6]? = some (cI m bes) := by rw [List.getElem?_set_ne (by decide)]; exact h6
  have a7 : (w.set 7 (cZ m (up wal (a * sl + sOf sl bes a b).toNat on)))[7]? = some (cZ m (up wal (a * sl + sOf sl bes a b).toNat on)) := List.getElem?_set_self (List.getElem?_eq_some_iff.mp h7).1
  refine m_enter (L := [some (.ref 1), some (vI a), some (vI b), some (vB on), none]) (by decide) hG (m_c1 rfl) (Nat.le_of_ble_eq_true rfl) rfl ?_
  refine m_aload_n 1 dX7_wall_0 rfl rfl ?_
  refine m_iload_n 2 dX7_wall_1 rfl rfl ?_
  refine m_cV (M' := MX7_demandPlace) 5 [_] kX7_77 imX7_demandPlace seX7_demandPlace clX7_demandPlace dX7_wall_2 rfl rfl rfl (by first | rfl | assumption) (m_rmI (by omega) (Nat.le_of_ble_eq_true rfl) (Nat.le_refl _) (Nat.le_refl _)) (c_X7_demandPlace hG (d + 1) hXX ⟨by omega, by omega⟩) ?_
  refine m_aload_n 6 dX7_wall_5 rfl rfl ?_
  refine m_iload_n 7 dX7_wall_6 rfl rfl ?_
  refine m_cV (M' := MX7_demandPlace) 10 [_] kX7_77 imX7_demandPlace seX7_demandPlace clX7_demandPlace dX7_wall_7 rfl rfl rfl (by first | rfl | assumption) (m_rmI (by omega) (Nat.le_of_ble_eq_true rfl) (Nat.le_refl _) (Nat.le_refl _)) (c_X7_demandPlace hG (d + 1) hXX ⟨by omega, by omega⟩) ?_
  refine m_aload_n 11 dX7_wall_10 rfl rfl ?_
  refine m_getf 14 foX7_23 dX7_wall_11 rfl (by first | rfl | assumption) (by rfl) ?_
  refine m_iload_n 15 dX7_wall_14 rfl rfl ?_
  refine m_iload_n 16 dX7_wall_15 rfl rfl ?_
  refine m_cV (M' := MX2_slotOf) 19 [_, _] kX7_83 imX2_slotOf seX2_slotOf clX2_slotOf dX7_wall_16 rfl rfl rfl (by first | rfl | assumption) (m_rmI (by omega) (Nat.le_of_ble_eq_true rfl) (Nat.le_refl _) (Nat.le_refl _)) (c_X2_slotOf hG d h5 hNN h6 ⟨by omega, by omega⟩ ⟨by omega, by omega⟩ (hXX.besR ⟨by omega, by omega⟩)) ?_
  refine m_istore 21 dX7_wall_19 rfl (by decide) ?_
  refine m_iload 23 dX7_wall_21 rfl rfl ?_
  refine i_const 24 dX7_wall_23 rfl ?_
  refine i_icmp_eq 27 41 ⟨by omega, by omega⟩ ⟨by omega, by omega⟩ dX7_wall_24 rfl (by decide) (fun h => absurd h (by omega)) (fun _ => ?_)
  refine m_aload_n 28 dX7_wall_27 rfl rfl ?_
  refine m_getf 31 foX7_23 dX7_wall_28 rfl (by first | rfl | assumption) (by rfl) ?_
  refine m_iload_n 32 dX7_wall_31 rfl rfl ?_
  refine m_iload 34 dX7_wall_32 rfl rfl ?_
  refine m_cV (M' := MX2_walledAt) 37 [_, _] kX7_100 imX2_walledAt seX2_walledAt clX2_walledAt dX7_wall_34 rfl rfl rfl (by first | rfl | assumption) (m_rmI (by omega) (Nat.le_of_ble_eq_true rfl) (Nat.le_refl _) (Nat.le_refl _)) (c_X2_walledAt hG (d + 1) h5 hNN h7 ha hs1) ?_
  refine m_iload_n 38 dX7_wall_37 rfl rfl ?_
  refine b_icmp_ne 41 43 dX7_wall_38 rfl (by decide) (fun _ => ?_) (fun h => absurd h hwl)
  refine m_aload_n 44 dX7_wall_43 rfl rfl ?_
  refine m_getf 47 foX7_23 dX7_wall_44 rfl (by first | rfl | assumption) (by rfl) ?_
  refine m_iload_n 48 dX7_wall_47 rfl rfl ?_
  refine m_iload 50 dX7_wall_48 rfl rfl ?_
  refine m_iload_n 51 dX7_wall_50 rfl rfl ?_
  refine m_cV (M' := MX2_setWall) 54 [_, _, _] kX7_104 imX2_setWall seX2_setWall clX2_setWall dX7_wall_51 rfl rfl rfl (by first | rfl | assumption) (m_rmI (by omega) (Nat.le_of_ble_eq_true rfl) (Nat.le_refl _) (Nat.le_refl _)) (c_X2_setWall hG (d + 1) h5 hNN h7 ha hs1) ?_
  refine m_aload_n 55 dX7_wall_54 rfl rfl ?_
  refine m_getf 58 foX7_23 dX7_wall_55 rfl (by first | rfl | assumption) (by rfl) ?_
  refine m_iload_n 59 dX7_wall_58 rfl rfl ?_
  refine m_aload_n 60 dX7_wall_59 rfl rfl ?_
  refine m_getf 63 foX7_23 dX7_wall_60 rfl (by first | rfl | assumption) (by rfl) ?_
  refine m_iload_n 64 dX7_wall_63 rfl rfl ?_
  refine m_iload_n 65 dX7_wall_64 rfl rfl ?_
  refine m_cV (M' := MX2_slotOf) 68 [_, _] kX7_83 imX2_slotOf seX2_slotOf clX2_slotOf dX7_wall_65 rfl rfl rfl (by first | rfl | assumption) (m_rmI (by omega) (Nat.le_of_ble_eq_true rfl) (Nat.le_refl _) (Nat.le_refl _)) (c_X2_slotOf hG d a5 hNN a6 hb ⟨by omega, by omega⟩ (hXX.besR hb)) ?_
  refine m_iload_n 69 dX7_wall_68 rfl rfl ?_
  refine m_cV (M' := MX2_setWall) 72 [_, _, _] kX7_104 imX2_setWall seX2_setWall clX2_setWall dX7_wall_69 rfl rfl rfl (by first | rfl | assumption) (m_rmI (by omega) (Nat.le_of_ble_eq_true rfl) (Nat.le_refl _) (Nat.le_refl _)) (c_X2_setWall hG (d + 1) a5 hNN a7 hb hs2) ?_
  refine i_const 73 dX7_wall_72 rfl ?_
  refine i_retB _ dX7_wall_73 rfl ⟨Nat.le_refl _, Nat.le_refl _⟩ ?_ ⟨rfl, List.set_set _⟩
  refine i_eq1 ?_
  rfl
end GX
end
section
/-! GridShapes: areas, marks, images, pairs, what is seen; and the calls that throw -/
section GY
variable {G : mG} {w : List mC}
theorem cX.xy {k W H : Int} {n sl m : Nat} {col row bes : Nat → Int} {wal : Nat → Bool} (h : cX w k W H n sl m col row bes wal) {z : Int} (hz : 0 ≤ z ∧ z < n) : 0 ≤ col z.toNat ∧ col z.toNat < W ∧ 0 ≤ row z.toNat ∧ row z.toNat < H := by
  obtain ⟨-, -, -, -, -, -, -, -, ⟨-, -, hW1, -, hH1, -, hn, -⟩, -, -, hcr, -⟩ := h
  obtain ⟨h1, h2⟩ := hcr z.toNat (by omega)
  rw [h1, h2, Int.toNat_of_nonneg hz.1]
  refine ⟨Int.emod_nonneg _ (by omega), Int.emod_lt_of_pos _ (by omega), Int.ediv_nonneg hz.1 (by omega), Int.ediv_lt_of_lt_mul (by omega) ?_⟩
  rw [Int.mul_comm]
  omega

set_option maxHeartbeats 4000000 in
set_option maxRecDepth 100000 in
theorem c_X7_areaY (hG : m_G G) (d : Nat) {k W H : Int} {n sl m : Nat} {col row bes : Nat → Int} {wal : Nat → Bool} (hX : cX w k W H n sl m col row bes wal) {p a : Int} {ar : Nat → Int} (h21 : w[21]? = some (cI n ar)) (hp : 0 ≤ p ∧ p < n) (ha : 0 ≤ a ∧ a < n) : m_Cv G MX7_area (m_r (d + 3) 0 0) [.ref 1, vI p, vI a] w (some (vB true)) (w.set 21 (cI n (up ar p.toNat a))) := by
  have hXX := hX
  obtain ⟨h1, h2, h3, h4, h5, h6, h7, h8, hF, hN, hsl, hcr, hbs⟩ := hX
  have hFF := hF
  have hNN := hN
  have hnb := hF.n
  obtain ⟨hk0, hk4, hW1, hW2, hH1, hH2, hn, hg4⟩ := hF
  obtain ⟨hn1, hn2, hl1, hl2, hm, hm2⟩ := hN
  refine m_enter (L := [some (.ref 1), some (vI p), some (vI a)]) (by decide) hG (m_c1 rfl) (Nat.le_of_ble_eq_true rfl) rfl ?_
  refine m_aload_n 1 dX7_area_0 rfl rfl ?_
  refine m_iload_n 2 dX7_area_1 rfl rfl ?_
  refine m_cV (M' := MX7_demandPlace) 5 [_] kX7_77 imX7_demandPlace seX7_demandPlace clX7_demandPlace dX7_area_2 rfl rfl rfl (by first | rfl | assumption) (m_rmI (by omega) (Nat.le_of_ble_eq_true rfl) (Nat.le_refl _) (Nat.le_refl _)) (c_X7_demandPlace hG (d + 1) hXX ⟨by omega, by omega⟩) ?_
  refine m_iload_n 6 dX7_area_5 rfl rfl ?_
  refine i_if_lt 9 20 ⟨by omega, by omega⟩ dX7_area_6 rfl (by decide) (fun h => absurd h (by omega)) (fun _ => ?_)
  refine m_iload_n 10 dX7_area_9 rfl rfl ?_
  refine m_aload_n 11 dX7_area_10 rfl rfl ?_
  refine m_getf 14 foX7_12 dX7_area_11 rfl (by first | rfl | assumption) (by rfl) ?_
  refine m_getf 17 foX7_66 dX7_area_14 rfl (by first | rfl | assumption) (by rfl) ?_
  refine i_icmp_lt 20 22 ⟨by omega, by omega⟩ ⟨by omega, by omega⟩ dX7_area_17 rfl (by decide) (fun _ => ?_) (fun h => absurd h (by omega))
  refine m_aload_n 23 dX7_area_22 rfl rfl ?_
  refine m_getf 26 foX7_74 dX7_area_23 rfl (by first | rfl | assumption) (by rfl) ?_
  refine m_iload_n 27 dX7_area_26 rfl rfl ?_
  refine m_iload_n 28 dX7_area_27 rfl rfl ?_
  refine i_ast 29 dX7_area_28 rfl (by first | rfl | assumption) ⟨by omega, by omega, by omega⟩ ?_
  refine i_const 30 dX7_area_29 rfl ?_
  refine i_retB _ dX7_area_30 rfl ⟨Nat.le_refl _, Nat.le_refl _⟩ ?_ ⟨rfl, rfl⟩
  refine i_eq1 ?_
  rfl
set_option maxHeartbeats 4000000 in
set_option maxRecDepth 100000 in
theorem c_X7_areaN (hG : m_G G) (d : Nat) {k W H : Int} {n sl m : Nat} {col row bes : Nat → Int} {wal : Nat → Bool} (hX : cX w k W H n sl m col row bes wal) {p a : Int} (hp : 0 ≤ p ∧ p < n) (ha : ¬ (0 ≤ a ∧ a < n)) (hr : iR a) : m_Cv G MX7_area (m_r (d + 3) 0 0) [.ref 1, vI p, vI a] w (some (vB false)) w := by
  have hXX := hX
  obtain ⟨h1, h2, h3, h4, h5, h6, h7, h8, hF, hN, hsl, hcr, hbs⟩ := hX
  have hFF := hF
  have hNN := hN
  have hnb := hF.n
  obtain ⟨hk0, hk4, hW1, hW2, hH1, hH2, hn, hg4⟩ := hF
  obtain ⟨hn1, hn2, hl1, hl2, hm, hm2⟩ := hN
  obtain ⟨hr1, hr2⟩ := hr
  refine m_enter (L := [some (.ref 1), some (vI p), some (vI a)]) (by decide) hG (m_c1 rfl) (Nat.le_of_ble_eq_true rfl) rfl ?_
  refine m_aload_n 1 dX7_area_0 rfl rfl ?_
  refine m_iload_n 2 dX7_area_1 rfl rfl ?_
  refine m_cV (M' := MX7_demandPlace) 5 [_] kX7_77 imX7_demandPlace seX7_demandPlace clX7_demandPlace dX7_area_2 rfl rfl rfl (by first | rfl | assumption) (m_rmI (by omega) (Nat.le_of_ble_eq_true rfl) (Nat.le_refl _) (Nat.le_refl _)) (c_X7_demandPlace hG (d + 1) hXX ⟨by omega, by omega⟩) ?_
  refine m_iload_n 6 dX7_area_5 rfl rfl ?_
  refine i_if_lt 9 20 ⟨by omega, by omega⟩ dX7_area_6 rfl (by decide) (fun q6 => ?_) (fun q6 => ?_)
  · refine i_const 21 dX7_area_20 rfl ?_
    refine i_retB _ dX7_area_21 rfl ⟨Nat.le_refl _, Nat.le_refl _⟩ ?_ ⟨rfl, rfl⟩
    refine i_eq0 ?_
    rfl
  · refine m_iload_n 10 dX7_area_9 rfl rfl ?_
    refine m_aload_n 11 dX7_area_10 rfl rfl ?_
    refine m_getf 14 foX7_12 dX7_area_11 rfl (by first | rfl | assumption) (by rfl) ?_
    refine m_getf 17 foX7_66 dX7_area_14 rfl (by first | rfl | assumption) (by rfl) ?_
    refine i_icmp_lt 20 22 ⟨by omega, by omega⟩ ⟨by omega, by omega⟩ dX7_area_17 rfl (by decide) (fun q17 => ?_) (fun q17 => ?_)
    · exact absurd ha (by omega)
    · refine i_const 21 dX7_area_20 rfl ?_
      refine i_retB _ dX7_area_21 rfl ⟨Nat.le_refl _, Nat.le_refl _⟩ ?_ ⟨rfl, rfl⟩
      refine i_eq0 ?_
      rfl
set_option maxHeartbeats 4000000 in
set_option maxRecDepth 100000 in
theorem c_X7_markY (hG : m_G G) (d : Nat) {k W H : Int} {n sl m : Nat} {col row bes : Nat → Int} {wal : Nat → Bool} (hX : cX w k W H n sl m col row bes wal) {p a : Int} {mk : Nat → Int} (h20 : w[20]? = some (cI n mk)) (hp : 0 ≤ p ∧ p < n) (ha : 0 ≤ a ∧ a ≤ 99) : m_Cv G MX7_mark (m_r (d + 3) 0 0) [.ref 1, vI p, vI a] w (some (vB true)) (w.set 20 (cI n (up mk p.toNat a))) := by
  have hXX := hX
  obtain ⟨h1, h2, h3, h4, h5, h6, h7, h8, hF, hN, hsl, hcr, hbs⟩ := hX
  have hFF := hF
  have hNN := hN
  have hnb := hF.n
  obtain ⟨hk0, hk4, hW1, hW2, hH1, hH2, hn, hg4⟩ := hF
  obtain ⟨hn1, hn2, hl1, hl2, hm, hm2⟩ := hN
  refine m_enter (L := [some (.ref 1), some (vI p), some (vI a)]) (by decide) hG (m_c1 rfl) (Nat.le_of_ble_eq_true rfl) rfl ?_
  refine m_aload_n 1 dX7_mark_0 rfl rfl ?_
  refine m_iload_n 2 dX7_mark_1 rfl rfl ?_
  refine m_cV (M' := MX7_demandPlace) 5 [_] kX7_77 imX7_demandPlace seX7_demandPlace clX7_demandPlace dX7_mark_2 rfl rfl rfl (by first | rfl | assumption) (m_rmI (by omega) (Nat.le_of_ble_eq_true rfl) (Nat.le_refl _) (Nat.le_refl _)) (c_X7_demandPlace hG (d + 1) hXX ⟨by omega, by omega⟩) ?_
  refine m_iload_n 6 dX7_mark_5 rfl rfl ?_
  refine i_if_lt 9 15 ⟨by omega, by omega⟩ dX7_mark_6 rfl (by decide) (fun h => absurd h (by omega)) (fun _ => ?_)
  refine m_iload_n 10 dX7_mark_9 rfl rfl ?_
  refine i_bipush 12 99 dX7_mark_10 rfl (by decide) ?_
  refine i_icmp_le 15 17 ⟨by omega, by omega⟩ ⟨by omega, by omega⟩ dX7_mark_12 rfl (by decide) (fun _ => ?_) (fun h => absurd h (by omega))
  refine m_aload_n 18 dX7_mark_17 rfl rfl ?_
  refine m_getf 21 foX7_70 dX7_mark_18 rfl (by first | rfl | assumption) (by rfl) ?_
  refine m_iload_n 22 dX7_mark_21 rfl rfl ?_
  refine m_iload_n 23 dX7_mark_22 rfl rfl ?_
  refine i_ast 24 dX7_mark_23 rfl (by first | rfl | assumption) ⟨by omega, by omega, by omega⟩ ?_
  refine i_const 25 dX7_mark_24 rfl ?_
  refine i_retB _ dX7_mark_25 rfl ⟨Nat.le_refl _, Nat.le_refl _⟩ ?_ ⟨rfl, rfl⟩
  refine i_eq1 ?_
  rfl
set_option maxHeartbeats 4000000 in
set_option maxRecDepth 100000 in
theorem c_X7_markN (hG : m_G G) (d : Nat) {k W H : Int} {n sl m : Nat} {col row bes : Nat → Int} {wal : Nat → Bool} (hX : cX w k W H n sl m col row bes wal) {p a : Int} (hp : 0 ≤ p ∧ p < n) (ha : ¬ (0 ≤ a ∧ a ≤ 99)) (hr : iR a) : m_Cv G MX7_mark (m_r (d + 3) 0 0) [.ref 1, vI p, vI a] w (some (vB false)) w := by
  have hXX := hX
  obtain ⟨h1, h2, h3, h4, h5, h6, h7, h8, hF, hN, hsl, hcr, hbs⟩ := hX
  have hFF := hF
  have hNN := hN
  have hnb := hF.n
  obtain ⟨hk0, hk4, hW1, hW2, hH1, hH2, hn, hg4⟩ := hF
  obtain ⟨hn1, hn2, hl1, hl2, hm, hm2⟩ := hN
  obtain ⟨hr1, hr2⟩ := hr
  refine m_enter (L := [some (.ref 1), some (vI p), some (vI a)]) (by decide) hG (m_c1 rfl) (Nat.le_of_ble_eq_true rfl) rfl ?_
  refine m_aload_n 1 dX7_mark_0 rfl rfl ?_
  refine m_iload_n 2 dX7_mark_1 rfl rfl ?_
  refine m_cV (M' := MX7_demandPlace) 5 [_] kX7_77 imX7_demandPlace seX7_demandPlace clX7_demandPlace dX7_mark_2 rfl rfl rfl (by first | rfl | assumption) (m_rmI (by omega) (Nat.le_of_ble_eq_true rfl) (Nat.le_refl _) (Nat.le_refl _)) (c_X7_demandPlace hG (d + 1) hXX ⟨by omega, by omega⟩) ?_
  refine m_iload_n 6 dX7_mark_5 rfl rfl ?_
  refine i_if_lt 9 15 ⟨by omega, by omega⟩ dX7_mark_6 rfl (by decide) (fun q6 => ?_) (fun q6 => ?_)
  · refine i_const 16 dX7_mark_15 rfl ?_
    refine i_retB _ dX7_mark_16 rfl ⟨Nat.le_refl _, Nat.le_refl _⟩ ?_ ⟨rfl, rfl⟩
    refine i_eq0 ?_
    rfl
  · refine m_iload_n 10 dX7_mark_9 rfl rfl ?_
    refine i_bipush 12 99 dX7_mark_10 rfl (by decide) ?_
    refine i_icmp_le 15 17 ⟨by omega, by omega⟩ ⟨by omega, by omega⟩ dX7_mark_12 rfl (by decide) (fun q12 => ?_) (fun q12 => ?_)
    · exact absurd ha (by omega)
    · refine i_const 16 dX7_mark_15 rfl ?_
      refine i_retB _ dX7_mark_16 rfl ⟨Nat.le_refl _, Nat.le_refl _⟩ ?_ ⟨rfl, rfl⟩
      refine i_eq0 ?_
      rfl
set_option maxHeartbeats 4000000 in
set_option maxRecDepth 100000 in
theorem l_X7_size (hG : m_G G) (d : Nat) {k W H : Int} {n sl m : Nat} {col row bes : Nat → Int} {wal : Nat → Bool} (hX : cX w k W H n sl m col row bes wal) {a t : Int} {ar : Nat → Int} (h21 : w[21]? = some (cI n ar)) (hr : iR a) (hA : ∀ j, j < n → iR (ar j)) :
    ∀ (j : Nat) (i f : Int), 0 ≤ i → i + j = n → f + cntF (fun s => ar s.toNat == a) j i = t → m_J G MX7_size (m_r d 0 0) (fun r x => r = some (some (vI t)) ∧ x = w) 0 0 4 [some (.ref 1), some (vI a), some (vI f), some (vI i)] [] w := by
  have hXX := hX
  obtain ⟨h1, h2, h3, h4, h5, h6, h7, h8, hF, hN, hsl, hcr, hbs⟩ := hX
  have hFF := hF
  have hNN := hN
  have hnb := hF.n
  obtain ⟨hk0, hk4, hW1, hW2, hH1, hH2, hn, hg4⟩ := hF
  obtain ⟨hn1, hn2, hl1, hl2, hm, hm2⟩ := hN
  obtain ⟨hr1, hr2⟩ := hr
  intro j
  induction j with
  | zero =>
    intro i f hi0 hij ht
    refine m_iload_n 5 dX7_size_4 rfl rfl ?_
    refine m_aload_n 6 dX7_size_5 rfl rfl ?_
    refine m_getf 9 foX7_74 dX7_size_6 rfl (by first | rfl | assumption) (by rfl) ?_
    refine i_len 10 dX7_size_9 rfl (by first | rfl | assumption) ?_
    refine i_icmp_ge 13 32 ⟨by omega, by omega⟩ ⟨by omega, by omega⟩ dX7_size_10 rfl (by decide) (fun _ => ?_) (fun h => absurd h (by omega))
    refine m_iload_n 33 dX7_size_32 rfl rfl ?_
    refine i_ret _ dX7_size_33 rfl ⟨Nat.le_refl _, Nat.le_refl _⟩ ?_ ⟨rfl, rfl⟩
    simp only [cntF] at ht; omega
  | succ j ih =>
    intro i f hi0 hij ht
    obtain ⟨hA1, hA2⟩ := hA i.toNat (by omega)
    unfold cntF at ht
    refine m_iload_n 5 dX7_size_4 rfl rfl ?_
    refine m_aload_n 6 dX7_size_5 rfl rfl ?_
    refine m_getf 9 foX7_74 dX7_size_6 rfl (by first | rfl | assumption) (by rfl) ?_
    refine i_len 10 dX7_size_9 rfl (by first | rfl | assumption) ?_
    refine i_icmp_ge 13 32 ⟨by omega, by omega⟩ ⟨by omega, by omega⟩ dX7_size_10 rfl (by decide) (fun h => absurd h (by omega)) (fun _ => ?_)
    refine m_aload_n 14 dX7_size_13 rfl rfl ?_
    refine m_getf 17 foX7_74 dX7_size_14 rfl (by first | rfl | assumption) (by rfl) ?_
    refine m_iload_n 18 dX7_size_17 rfl rfl ?_
    refine i_ald 19 dX7_size_18 rfl (by first | rfl | assumption) ⟨by omega, by omega, by omega⟩ ?_
    refine m_iload_n 20 dX7_size_19 rfl rfl ?_
    refine i_icmp_ne 23 26 ⟨by omega, by omega⟩ ⟨by omega, by omega⟩ dX7_size_20 rfl (by decide) (fun q20 => ?_) (fun q20 => ?_)
    · refine i_inc 29 dX7_size_26 rfl rfl (by decide) ?_
      refine m_goto 4 dX7_size_29 (by decide) ?_
      first
        | (refine ih _ _ (by omega) (by omega) ?_; rw [if_neg (by simpa using q20)] at ht; omega)
        | (refine ih _ _ (by omega) (by omega) ?_; rw [if_pos (by simpa using q20)] at ht; omega)
    · refine i_inc 26 dX7_size_23 rfl rfl (by decide) ?_
      refine i_inc 29 dX7_size_26 rfl rfl (by decide) ?_
      refine m_goto 4 dX7_size_29 (by decide) ?_
      first
        | (refine ih _ _ (by omega) (by omega) ?_; rw [if_neg (by simpa using q20)] at ht; omega)
        | (refine ih _ _ (by omega) (by omega) ?_; rw [if_pos (by simpa using q20)] at ht; omega)
set_option maxHeartbeats 4000000 in
set_option maxRecDepth 100000 in
theorem c_X7_size (hG : m_G G) (d : Nat) {k W H : Int} {n sl m : Nat} {col row bes : Nat → Int} {wal : Nat → Bool} (hX : cX w k W H n sl m col row bes wal) {a : Int} {ar : Nat → Int} (h21 : w[21]? = some (cI n ar)) (hr : iR a) (hA : ∀ j, j < n → iR (ar j)) : m_Cv G MX7_size (m_r d 0 0) [.ref 1, vI a] w (some (vI (cntF (fun s => ar s.toNat == a) n 0))) w := by
  refine m_enter (L := [some (.ref 1), some (vI a), none, none]) (by decide) hG (m_c1 rfl) (Nat.le_of_ble_eq_true rfl) rfl ?_
  refine i_const 1 dX7_size_0 rfl ?_
  refine m_istore_n 2 dX7_size_1 rfl (by decide) ?_
  refine i_const 3 dX7_size_2 rfl ?_
  refine m_istore_n 4 dX7_size_3 rfl (by decide) ?_
  exact l_X7_size hG d hX h21 hr hA n 0 0 (by omega) (by omega) (by omega)
theorem tuR {k W H t : Int} (hF : 0 ≤ k ∧ k ≤ 4 ∧ 1 ≤ W ∧ W ≤ 16) (h : 0 ≤ t ∧ t < tuN k W H) : 0 ≤ t ∧ (k = 3 → t < 2 * W) ∧ (k ≠ 3 → t < 8) := by
  unfold tuN at h
  refine ⟨h.1, fun hk => ?_, fun hk => ?_⟩
  · rw [if_neg (by omega), if_pos hk] at h; exact h.2
  · by_cases h4 : k = 4
    · rw [if_pos h4] at h; omega
    · rw [if_neg h4, if_neg hk] at h
      split at h <;> omega
theorem tuB {k W H : Int} (hF : 0 ≤ k ∧ k ≤ 4 ∧ 1 ≤ W ∧ W ≤ 16) : 1 ≤ tuN k W H ∧ tuN k W H ≤ 32 := by
  unfold tuN
  repeat' split
  all_goals omega
set_option maxHeartbeats 4000000 in
set_option maxRecDepth 100000 in
theorem c_X7_image (hG : m_G G) (d : Nat) {k W H : Int} {n sl m : Nat} {col row bes : Nat → Int} {wal : Nat → Bool} (hX : cX w k W H n sl m col row bes wal) {t p : Int} (hp : 0 ≤ p ∧ p < n) (ht : iR t) : m_Cv G MX7_image (m_r (d + 3) 0 0) [.ref 1, vI t, vI p] w (some (vI (if inB t (tuN k W H) then trn k W H t (col p.toNat) (row p.toNat) else -1))) w := by
  have hXX := hX
  obtain ⟨h1, h2, h3, h4, h5, h6, h7, h8, hF, hN, hsl, hcr, hbs⟩ := hX
  have hFF := hF
  have hNN := hN
  have hnb := hF.n
  obtain ⟨hk0, hk4, hW1, hW2, hH1, hH2, hn, hg4⟩ := hF
  obtain ⟨hn1, hn2, hl1, hl2, hm, hm2⟩ := hN
  have htb := tuB (k := k) (W := W) (H := H) ⟨by omega, by omega, by omega, by omega⟩
  refine m_enter (L := [some (.ref 1), some (vI t), some (vI p)]) (by decide) hG (m_c1 rfl) (Nat.le_of_ble_eq_true rfl) rfl ?_
  refine m_aload_n 1 dX7_image_0 rfl rfl ?_
  refine m_iload_n 2 dX7_image_1 rfl rfl ?_
  refine m_cV (M' := MX7_demandPlace) 5 [_] kX7_77 imX7_demandPlace seX7_demandPlace clX7_demandPlace dX7_image_2 rfl rfl rfl (by first | rfl | assumption) (m_rmI (by omega) (Nat.le_of_ble_eq_true rfl) (Nat.le_refl _) (Nat.le_refl _)) (c_X7_demandPlace hG (d + 1) hXX ⟨by omega, by omega⟩) ?_
  refine m_aload_n 6 dX7_image_5 rfl rfl ?_
  refine m_getf 9 foX7_30 dX7_image_6 rfl (by first | rfl | assumption) (by rfl) ?_
  refine m_iload_n 10 dX7_image_9 rfl rfl ?_
  refine m_cV (M' := MX5_has) 13 [_] kX7_135 imX5_has seX5_has clX5_has dX7_image_10 rfl rfl rfl (by first | rfl | assumption) (m_rmI (by omega) (Nat.le_of_ble_eq_true rfl) (Nat.le_refl _) (Nat.le_refl _)) (c_X5_has hG (d + 2) h8 ⟨by omega, by omega⟩ ht) ?_
  refine b_if_eq 16 28 dX7_image_13 rfl (by decide) (fun q13 => ?_) (fun q13 => ?_)
  · refine i_const 29 dX7_image_28 rfl ?_
    refine i_ret _ dX7_image_29 rfl ⟨Nat.le_refl _, Nat.le_refl _⟩ ?_ ⟨rfl, rfl⟩
    first | (rw [if_pos q13]) | (rw [if_neg (by rw [q13]; decide)])
  · refine m_aload_n 17 dX7_image_16 rfl rfl ?_
    refine m_getf 20 foX7_30 dX7_image_17 rfl (by first | rfl | assumption) (by rfl) ?_
    refine m_iload_n 21 dX7_image_20 rfl rfl ?_
    refine m_iload_n 22 dX7_image_21 rfl rfl ?_
    refine m_cV (M' := MX5_placeAfter) 25 [_, _] kX7_139 imX5_placeAfter seX5_placeAfter clX5_placeAfter dX7_image_22 rfl rfl rfl (by first | rfl | assumption) (m_rmI (by omega) (Nat.le_of_ble_eq_true rfl) (Nat.le_refl _) (Nat.le_refl _)) (c_X5_placeAfter hG d h8 h2 hFF h3 h4 hp (hXX.xy hp) (tuR ⟨by omega, by omega, by omega, by omega⟩ (inB_t.mp q13))) ?_
    refine m_goto 29 dX7_image_25 (by decide) ?_
    refine i_ret _ dX7_image_29 rfl ⟨Nat.le_refl _, Nat.le_refl _⟩ ?_ ⟨rfl, rfl⟩
    first | (rw [if_pos q13]) | (rw [if_neg (by rw [q13]; decide)])
def sumF (g : Int → Int) : Nat → Int → Int
  | 0, _ => 0
  | k + 1, i => g i + sumF g k (i + 1)
def prP (sl : Nat) (bes : Nat → Int) (wal : Nat → Bool) (wd : Bool) (p : Int) : Int → Bool := fun s => decide (p < bAt sl bes p s) && (!wd || wAt sl wal p s)
set_option maxHeartbeats 4000000 in
set_option maxRecDepth 100000 in
theorem l_X7_pairsI (hG : m_G G) (d : Nat) {k W H : Int} {n sl m : Nat} {col row bes : Nat → Int} {wal : Nat → Bool} (hX : cX w k W H n sl m col row bes wal) {p t : Int} {wd : Bool} {Q : Option (Option Value) → List mC → Prop} (hp : 0 ≤ p ∧ p < n)
    (kk : ∀ (x4 x5 : Option Value), m_J G MX7_pairs (m_r (d + 2) 0 0) Q 0 0 82 [some (.ref 1), some (vB wd), some (vI t), some (vI p), x4, x5] [] w) :
    ∀ (j : Nat) (i f : Int) (x5 : Option Value), 0 ≤ i → i + j = sl → f + cntF (prP sl bes wal wd p) j i = t → m_J G MX7_pairs (m_r (d + 2) 0 0) Q 0 0 18 [some (.ref 1), some (vB wd), some (vI f), some (vI p), some (vI i), x5] [] w := by
  have hXX := hX
  obtain ⟨h1, h2, h3, h4, h5, h6, h7, h8, hF, hN, hsl, hcr, hbs⟩ := hX
  have hFF := hF
  have hNN := hN
  have hnb := hF.n
  obtain ⟨hk0, hk4, hW1, hW2, hH1, hH2, hn, hg4⟩ := hF
  obtain ⟨hn1, hn2, hl1, hl2, hm, hm2⟩ := hN
  intro j
  induction j with
  | zero =>
    intro i f x5 hi0 hij ht
    have hft : f = t := by simp only [cntF] at ht; omega
    subst hft
    refine m_iload 20 dX7_pairs_18 rfl rfl ?_
    refine m_aload_n 21 dX7_pairs_20 rfl rfl ?_
    refine m_getf 24 foX7_23 dX7_pairs_21 rfl (by first | rfl | assumption) (by rfl) ?_
    refine m_getf 27 foX7_91 dX7_pairs_24 rfl (by first | rfl | assumption) (by rfl) ?_
    refine i_icmp_ge 30 82 ⟨by omega, by omega⟩ ⟨by omega, by omega⟩ dX7_pairs_27 rfl (by decide) (fun _ => ?_) (fun h => absurd h (by omega))
    exact kk _ _
  | succ j ih =>
    intro i f x5 hi0 hij ht
    have hs : 0 ≤ i ∧ i < (sl : Int) := by omega
    have hb := hXX.bes hp i hs.1 hs.2
    unfold cntF at ht
    unfold prP at ht ih
    refine m_iload 20 dX7_pairs_18 rfl rfl ?_
    refine m_aload_n 21 dX7_pairs_20 rfl rfl ?_
    refine m_getf 24 foX7_23 dX7_pairs_21 rfl (by first | rfl | assumption) (by rfl) ?_
    refine m_getf 27 foX7_91 dX7_pairs_24 rfl (by first | rfl | assumption) (by rfl) ?_
    refine i_icmp_ge 30 82 ⟨by omega, by omega⟩ ⟨by omega, by omega⟩ dX7_pairs_27 rfl (by decide) (fun h => absurd h (by omega)) (fun _ => ?_)
    refine m_aload_n 31 dX7_pairs_30 rfl rfl ?_
    refine m_getf 34 foX7_23 dX7_pairs_31 rfl (by first | rfl | assumption) (by rfl) ?_
    refine m_iload_n 35 dX7_pairs_34 rfl rfl ?_
    refine m_iload 37 dX7_pairs_35 rfl rfl ?_
    refine m_cV (M' := MX2_besideAt) 40 [_, _] kX7_97 imX2_besideAt seX2_besideAt clX2_besideAt dX7_pairs_37 rfl rfl rfl (by first | rfl | assumption) (m_rmI (by omega) (Nat.le_of_ble_eq_true rfl) (Nat.le_refl _) (Nat.le_refl _)) (c_X2_besideAt hG d h5 hNN h6 hp hs) ?_
    refine m_iload_n 41 dX7_pairs_40 rfl rfl ?_
    refine i_icmp_le 44 48 ⟨by omega, by omega⟩ ⟨by omega, by omega⟩ dX7_pairs_41 rfl (by decide) (fun q41 => ?_) (fun q41 => ?_)
    · refine i_const 49 dX7_pairs_48 rfl ?_
      refine m_istore 51 dX7_pairs_49 rfl (by decide) ?_
      refine m_iload 53 dX7_pairs_51 rfl rfl ?_
      refine i_if_eq 56 76 ⟨by omega, by omega⟩ dX7_pairs_53 rfl (by decide) (fun _ => ?_) (fun h => absurd h (by decide))
      refine i_inc 79 dX7_pairs_76 rfl rfl (by decide) ?_
      refine m_goto 18 dX7_pairs_79 (by decide) ?_
      refine ih _ _ _ (by omega) (by omega) ?_
      first
        | (rw [if_neg (by simp only [Bool.and_eq_true, decide_eq_true_eq]; omega)] at ht; omega)
        | (rw [if_neg (by simp_all)] at ht; omega)
        | (rw [if_pos (by simp_all)] at ht; omega)
    · refine i_const 45 dX7_pairs_44 rfl ?_
      refine m_goto 49 dX7_pairs_45 (by decide) ?_
      refine m_istore 51 dX7_pairs_49 rfl (by decide) ?_
      refine m_iload 53 dX7_pairs_51 rfl rfl ?_
      refine i_if_eq 56 76 ⟨by omega, by omega⟩ dX7_pairs_53 rfl (by decide) (fun h => absurd h (by decide)) (fun _ => ?_)
      refine m_iload_n 57 dX7_pairs_56 rfl rfl ?_
      refine b_if_eq 60 73 dX7_pairs_57 rfl (by decide) (fun q57 => ?_) (fun q57 => ?_)
      · refine i_inc 76 dX7_pairs_73 rfl rfl (by decide) ?_
        refine i_inc 79 dX7_pairs_76 rfl rfl (by decide) ?_
        refine m_goto 18 dX7_pairs_79 (by decide) ?_
        refine ih _ _ _ (by omega) (by omega) ?_
        first
          | (rw [if_neg (by simp only [Bool.and_eq_true, decide_eq_true_eq]; omega)] at ht; omega)
          | (rw [if_neg (by simp_all)] at ht; omega)
          | (rw [if_pos (by simp_all)] at ht; omega)
      · refine m_aload_n 61 dX7_pairs_60 rfl rfl ?_
        refine m_getf 64 foX7_23 dX7_pairs_61 rfl (by first | rfl | assumption) (by rfl) ?_
        refine m_iload_n 65 dX7_pairs_64 rfl rfl ?_
        refine m_iload 67 dX7_pairs_65 rfl rfl ?_
        refine m_cV (M' := MX2_walledAt) 70 [_, _] kX7_100 imX2_walledAt seX2_walledAt clX2_walledAt dX7_pairs_67 rfl rfl rfl (by first | rfl | assumption) (m_rmI (by omega) (Nat.le_of_ble_eq_true rfl) (Nat.le_refl _) (Nat.le_refl _)) (c_X2_walledAt hG d h5 hNN h7 hp hs) ?_
        refine b_if_eq 73 76 dX7_pairs_70 rfl (by decide) (fun q70 => ?_) (fun q70 => ?_)
        · refine i_inc 79 dX7_pairs_76 rfl rfl (by decide) ?_
          refine m_goto 18 dX7_pairs_79 (by decide) ?_
          refine ih _ _ _ (by omega) (by omega) ?_
          first
            | (rw [if_neg (by simp only [Bool.and_eq_true, decide_eq_true_eq]; omega)] at ht; omega)
            | (rw [if_neg (by simp_all)] at ht; omega)
            | (rw [if_pos (by simp_all)] at ht; omega)
        · refine i_inc 76 dX7_pairs_73 rfl rfl (by decide) ?_
          refine i_inc 79 dX7_pairs_76 rfl rfl (by decide) ?_
          refine m_goto 18 dX7_pairs_79 (by decide) ?_
          refine ih _ _ _ (by omega) (by omega) ?_
          first
            | (rw [if_neg (by simp only [Bool.and_eq_true, decide_eq_true_eq]; omega)] at ht; omega)
            | (rw [if_neg (by simp_all)] at ht; omega)
            | (rw [if_pos (by simp_all)] at ht; omega)
set_option maxHeartbeats 4000000 in
set_option maxRecDepth 100000 in
theorem l_X7_pairs (hG : m_G G) (d : Nat) {k W H : Int} {n sl m : Nat} {col row bes : Nat → Int} {wal : Nat → Bool} (hX : cX w k W H n sl m col row bes wal) {t : Int} {wd : Bool} :
    ∀ (j : Nat) (p f : Int) (x4 x5 : Option Value), 0 ≤ p → p + j = n → f + sumF (fun p => cntF (prP sl bes wal wd p) sl 0) j p = t → m_J G MX7_pairs (m_r (d + 2) 0 0) (fun r x => r = some (some (vI t)) ∧ x = w) 0 0 4 [some (.ref 1), some (vB wd), some (vI f), some (vI p), x4, x5] [] w := by
  have hXX := hX
  obtain ⟨h1, h2, h3, h4, h5, h6, h7, h8, hF, hN, hsl, hcr, hbs⟩ := hX
  have hFF := hF
  have hNN := hN
  have hnb := hF.n
  obtain ⟨hk0, hk4, hW1, hW2, hH1, hH2, hn, hg4⟩ := hF
  obtain ⟨hn1, hn2, hl1, hl2, hm, hm2⟩ := hN
  intro j
  induction j with
  | zero =>
    intro p f x4 x5 hi0 hij ht
    refine m_iload_n 5 dX7_pairs_4 rfl rfl ?_
    refine m_aload_n 6 dX7_pairs_5 rfl rfl ?_
    refine m_getf 9 foX7_12 dX7_pairs_6 rfl (by first | rfl | assumption) (by rfl) ?_
    refine m_getf 12 foX7_66 dX7_pairs_9 rfl (by first | rfl | assumption) (by rfl) ?_
    refine i_icmp_ge 15 88 ⟨by omega, by omega⟩ ⟨by omega, by omega⟩ dX7_pairs_12 rfl (by decide) (fun _ => ?_) (fun h => absurd h (by omega))
    refine m_iload_n 89 dX7_pairs_88 rfl rfl ?_
    refine i_ret _ dX7_pairs_89 rfl ⟨Nat.le_refl _, Nat.le_refl _⟩ ?_ ⟨rfl, rfl⟩
    simp only [sumF] at ht; omega
  | succ j ih =>
    intro p f x4 x5 hi0 hij ht
    unfold sumF at ht
    refine m_iload_n 5 dX7_pairs_4 rfl rfl ?_
    refine m_aload_n 6 dX7_pairs_5 rfl rfl ?_
    refine m_getf 9 foX7_12 dX7_pairs_6 rfl (by first | rfl | assumption) (by rfl) ?_
    refine m_getf 12 foX7_66 dX7_pairs_9 rfl (by first | rfl | assumption) (by rfl) ?_
    refine i_icmp_ge 15 88 ⟨by omega, by omega⟩ ⟨by omega, by omega⟩ dX7_pairs_12 rfl (by decide) (fun h => absurd h (by omega)) (fun _ => ?_)
    refine i_const 16 dX7_pairs_15 rfl ?_
    refine m_istore 18 dX7_pairs_16 rfl (by decide) ?_
    refine l_X7_pairsI hG d hXX ⟨hi0, by omega⟩ (t := f + cntF (prP sl bes wal wd p) sl 0) (fun x4 x5 => ?_) sl 0 f _ (by omega) (by omega) rfl
    refine i_inc 85 dX7_pairs_82 rfl rfl (by decide) ?_
    refine m_goto 4 dX7_pairs_85 (by decide) ?_
    exact ih _ _ _ _ (by omega) (by omega) (by omega)
set_option maxHeartbeats 4000000 in
set_option maxRecDepth 100000 in
theorem c_X7_pairs (hG : m_G G) (d : Nat) {k W H : Int} {n sl m : Nat} {col row bes : Nat → Int} {wal : Nat → Bool} (hX : cX w k W H n sl m col row bes wal) {wd : Bool} : m_Cv G MX7_pairs (m_r (d + 2) 0 0) [.ref 1, vB wd] w (some (vI (sumF (fun p => cntF (prP sl bes wal wd p) sl 0) n 0))) w := by
  refine m_enter (L := [some (.ref 1), some (vB wd), none, none, none, none]) (by decide) hG (m_c1 rfl) (Nat.le_of_ble_eq_true rfl) rfl ?_
  refine i_const 1 dX7_pairs_0 rfl ?_
  refine m_istore_n 2 dX7_pairs_1 rfl (by decide) ?_
  refine i_const 3 dX7_pairs_2 rfl ?_
  refine m_istore_n 4 dX7_pairs_3 rfl (by decide) ?_
  exact l_X7_pairs hG d hX n 0 0 _ _ (by omega) (by omega) (by omega)
theorem lbF_r {f : Int → Int} {b hi : Int} : ∀ (k : Nat) (i l : Int), (∀ s, i ≤ s → s < i + k → f s < hi) → -1 ≤ b → (l = -1 ∨ (b < l ∧ l < hi)) → lbF f b k i l = -1 ∨ (b < lbF f b k i l ∧ lbF f b k i l < hi)
  | 0, i, l, _, _, h => h
  | k + 1, i, l, hf, hb, h => by
    unfold lbF
    refine lbF_r k (i + 1) _ (fun s h1 h2 => hf s (by omega) (by omega)) hb ?_
    have := hf i (by omega) (by omega)
    split <;> omega
/-- the pairs of the lesser place l, from o on: the answer, or how many were passed -/
def prI (lb : Int → Int) (c l : Int) (gr : Bool) : Nat → Int → Int → Int ⊕ Int
  | 0, _, f => .inr f
  | k + 1, o, f => if o = -1 then .inr f else if f = c then .inl (if gr then o else l) else prI lb c l gr k (lb o) (f + 1)
def prO (sl : Nat) (bes : Nat → Int) (c : Int) (gr : Bool) : Nat → Int → Int → Int
  | 0, _, _ => -1
  | k + 1, l, f => match prI (lbN sl bes l) c l gr sl (lbN sl bes l l) f with
    | .inl v => v
    | .inr f2 => prO sl bes c gr k (l + 1) f2
theorem prI_le (lb : Int → Int) (c l : Int) (gr : Bool) : ∀ (k : Nat) (o f f2 : Int), prI lb c l gr k o f = .inr f2 → f ≤ f2 ∧ f2 ≤ f + k
  | 0, o, f, f2, h => by simp only [prI, Sum.inr.injEq] at h; omega
  | k + 1, o, f, f2, h => by
    unfold prI at h
    split at h
    · simp only [Sum.inr.injEq] at h; omega
    · split at h
      · cases h
      · have := prI_le lb c l gr k _ _ f2 h
        omega
set_option maxHeartbeats 4000000 in
set_option maxRecDepth 100000 in
theorem l_X7_pairI (hG : m_G G) (d : Nat) {k W H : Int} {n sl m : Nat} {col row bes : Nat → Int} {wal : Nat → Bool} (hX : cX w k W H n sl m col row bes wal) {l c : Int} {gr : Bool} {Q : Option (Option Value) → List mC → Prop} (hl : 0 ≤ l ∧ l < n) (hc : iR c) {res : Int ⊕ Int}
    (kr : ∀ v : Int, res = .inl v → Q (some (some (vI v))) w) (kk : ∀ (f2 : Int) (x5 x6 : Option Value), res = .inr f2 → m_J G MX7_pair (m_r (d + 3) 0 0) Q 0 0 90 [some (.ref 1), some (vI c), some (vB gr), some (vI f2), some (vI l), x5, x6] [] w) :
    ∀ (j : Nat) (i f o : Int), 0 ≤ i → i + j = sl → (o = -1 ∨ (l < o ∧ o < n)) → 0 ≤ f → f + j ≤ 65536 → prI (lbN sl bes l) c l gr j o f = res → m_J G MX7_pair (m_r (d + 3) 0 0) Q 0 0 33 [some (.ref 1), some (vI c), some (vB gr), some (vI f), some (vI l), some (vI o), some (vI i)] [] w := by
  have hXX := hX
  obtain ⟨h1, h2, h3, h4, h5, h6, h7, h8, hF, hN, hsl, hcr, hbs⟩ := hX
  have hFF := hF
  have hNN := hN
  have hnb := hF.n
  obtain ⟨hk0, hk4, hW1, hW2, hH1, hH2, hn, hg4⟩ := hF
  obtain ⟨hn1, hn2, hl1, hl2, hm, hm2⟩ := hN
  obtain ⟨hc1, hc2⟩ := hc
  intro j
  induction j with
  | zero =>
    intro i f o hi0 hij ho hf0 hf1 ht
    refine m_iload 35 dX7_pair_33 rfl rfl ?_
    refine m_aload_n 36 dX7_pair_35 rfl rfl ?_
    refine m_getf 39 foX7_23 dX7_pair_36 rfl (by first | rfl | assumption) (by rfl) ?_
    refine m_getf 42 foX7_91 dX7_pair_39 rfl (by first | rfl | assumption) (by rfl) ?_
    refine i_icmp_ge 45 90 ⟨by omega, by omega⟩ ⟨by omega, by omega⟩ dX7_pair_42 rfl (by decide) (fun _ => ?_) (fun h => absurd h (by omega))
    exact kk _ _ _ ht.symm
  | succ j ih =>
    intro i f o hi0 hij ho hf0 hf1 ht
    unfold prI at ht
    refine m_iload 35 dX7_pair_33 rfl rfl ?_
    refine m_aload_n 36 dX7_pair_35 rfl rfl ?_
    refine m_getf 39 foX7_23 dX7_pair_36 rfl (by first | rfl | assumption) (by rfl) ?_
    refine m_getf 42 foX7_91 dX7_pair_39 rfl (by first | rfl | assumption) (by rfl) ?_
    refine i_icmp_ge 45 90 ⟨by omega, by omega⟩ ⟨by omega, by omega⟩ dX7_pair_42 rfl (by decide) (fun h => absurd h (by omega)) (fun _ => ?_)
    refine m_iload 47 dX7_pair_45 rfl rfl ?_
    refine i_const 48 dX7_pair_47 rfl ?_
    refine i_icmp_eq 51 90 ⟨by omega, by omega⟩ ⟨by omega, by omega⟩ dX7_pair_48 rfl (by decide) (fun q48 => ?_) (fun q48 => ?_)
    · rw [if_pos q48] at ht; exact kk _ _ _ ht.symm
    · refine m_iload_n 52 dX7_pair_51 rfl rfl ?_
      refine m_iload_n 53 dX7_pair_52 rfl rfl ?_
      refine i_icmp_ne 56 68 ⟨by omega, by omega⟩ ⟨by omega, by omega⟩ dX7_pair_53 rfl (by decide) (fun q53 => ?_) (fun q53 => ?_)
      · refine i_inc 71 dX7_pair_68 rfl rfl (by decide) ?_
        refine m_aload_n 72 dX7_pair_71 rfl rfl ?_
        refine m_getf 75 foX7_23 dX7_pair_72 rfl (by first | rfl | assumption) (by rfl) ?_
        refine m_iload 77 dX7_pair_75 rfl rfl ?_
        refine m_iload 79 dX7_pair_77 rfl rfl ?_
        refine m_cV (M' := MX2_leastBeyond) 82 [_, _] kX7_108 imX2_leastBeyond seX2_leastBeyond clX2_leastBeyond dX7_pair_79 rfl rfl rfl (by first | rfl | assumption) (m_rmI (by omega) (Nat.le_of_ble_eq_true rfl) (Nat.le_refl _) (Nat.le_refl _)) (c_X2_leastBeyond hG d h5 hNN h6 hl ⟨by omega, by omega⟩ (hXX.besR hl)) ?_
        refine m_istore 84 dX7_pair_82 rfl (by decide) ?_
        refine i_inc 87 dX7_pair_84 rfl rfl (by decide) ?_
        refine m_goto 33 dX7_pair_87 (by decide) ?_
        rw [if_neg q48, if_neg q53] at ht
        refine ih _ _ _ (by omega) (by omega) ?_ (by omega) (by omega) ht
        have h9 := lbF_r (f := bAt sl bes l) (b := o) (hi := n) sl 0 (-1) (fun s h1 h2 => (hXX.bes hl s h1 (by omega)).2) (by omega) (Or.inl rfl)
        unfold lbN
        omega
      · refine m_iload_n 57 dX7_pair_56 rfl rfl ?_
        refine b_if_eq 60 65 dX7_pair_57 rfl (by decide) (fun q57 => ?_) (fun q57 => ?_)
        · refine m_iload 67 dX7_pair_65 rfl rfl ?_
          rw [if_neg q48, if_pos q53] at ht
          refine i_ret _ dX7_pair_67 rfl ⟨Nat.le_refl _, Nat.le_refl _⟩ ?_ (kr _ ht.symm)
          simp [q57]
        · refine m_iload 62 dX7_pair_60 rfl rfl ?_
          refine m_goto 67 dX7_pair_62 (by decide) ?_
          rw [if_neg q48, if_pos q53] at ht
          refine i_ret _ dX7_pair_67 rfl ⟨Nat.le_refl _, Nat.le_refl _⟩ ?_ (kr _ ht.symm)
          simp [q57]
set_option maxHeartbeats 4000000 in
set_option maxRecDepth 100000 in
theorem l_X7_pair (hG : m_G G) (d : Nat) {k W H : Int} {n sl m : Nat} {col row bes : Nat → Int} {wal : Nat → Bool} (hX : cX w k W H n sl m col row bes wal) {c t : Int} {gr : Bool} (hc : iR c) :
    ∀ (j : Nat) (l f : Int) (x5 x6 : Option Value), 0 ≤ l → l + j = n → 0 ≤ f → f ≤ l * 256 → prO sl bes c gr j l f = t → m_J G MX7_pair (m_r (d + 3) 0 0) (fun r x => r = some (some (vI t)) ∧ x = w) 0 0 5 [some (.ref 1), some (vI c), some (vB gr), some (vI f), some (vI l), x5, x6] [] w := by
  have hXX := hX
  obtain ⟨h1, h2, h3, h4, h5, h6, h7, h8, hF, hN, hsl, hcr, hbs⟩ := hX
  have hFF := hF
  have hNN := hN
  have hnb := hF.n
  obtain ⟨hk0, hk4, hW1, hW2, hH1, hH2, hn, hg4⟩ := hF
  obtain ⟨hn1, hn2, hl1, hl2, hm, hm2⟩ := hN
  intro j
  induction j with
  | zero =>
    intro l f x5 x6 hi0 hij hf0 hf1 ht
    refine m_iload 7 dX7_pair_5 rfl rfl ?_
    refine m_aload_n 8 dX7_pair_7 rfl rfl ?_
    refine m_getf 11 foX7_12 dX7_pair_8 rfl (by first | rfl | assumption) (by rfl) ?_
    refine m_getf 14 foX7_66 dX7_pair_11 rfl (by first | rfl | assumption) (by rfl) ?_
    refine i_icmp_ge 17 96 ⟨by omega, by omega⟩ ⟨by omega, by omega⟩ dX7_pair_14 rfl (by decide) (fun _ => ?_) (fun h => absurd h (by omega))
    refine i_const 97 dX7_pair_96 rfl ?_
    refine i_ret _ dX7_pair_97 rfl ⟨Nat.le_refl _, Nat.le_refl _⟩ ?_ ⟨rfl, rfl⟩
    exact ht
  | succ j ih =>
    intro l f x5 x6 hi0 hij hf0 hf1 ht
    have hl : 0 ≤ l ∧ l < (n : Int) := by omega
    unfold prO at ht
    have h9 := lbF_r (f := bAt sl bes l) (b := l) (hi := n) sl 0 (-1) (fun s h1 h2 => (hXX.bes hl s h1 (by omega)).2) (by omega) (Or.inl rfl)
    refine m_iload 7 dX7_pair_5 rfl rfl ?_
    refine m_aload_n 8 dX7_pair_7 rfl rfl ?_
    refine m_getf 11 foX7_12 dX7_pair_8 rfl (by first | rfl | assumption) (by rfl) ?_
    refine m_getf 14 foX7_66 dX7_pair_11 rfl (by first | rfl | assumption) (by rfl) ?_
    refine i_icmp_ge 17 96 ⟨by omega, by omega⟩ ⟨by omega, by omega⟩ dX7_pair_14 rfl (by decide) (fun h => absurd h (by omega)) (fun _ => ?_)
    refine m_aload_n 18 dX7_pair_17 rfl rfl ?_
    refine m_getf 21 foX7_23 dX7_pair_18 rfl (by first | rfl | assumption) (by rfl) ?_
    refine m_iload 23 dX7_pair_21 rfl rfl ?_
    refine m_iload 25 dX7_pair_23 rfl rfl ?_
    refine m_cV (M' := MX2_leastBeyond) 28 [_, _] kX7_108 imX2_leastBeyond seX2_leastBeyond clX2_leastBeyond dX7_pair_25 rfl rfl rfl (by first | rfl | assumption) (m_rmI (by omega) (Nat.le_of_ble_eq_true rfl) (Nat.le_refl _) (Nat.le_refl _)) (c_X2_leastBeyond hG d h5 hNN h6 hl ⟨by omega, by omega⟩ (hXX.besR hl)) ?_
    refine m_istore 30 dX7_pair_28 rfl (by decide) ?_
    refine i_const 31 dX7_pair_30 rfl ?_
    refine m_istore 33 dX7_pair_31 rfl (by decide) ?_
    refine l_X7_pairI hG d hXX hl hc (res := prI (lbN sl bes l) c l gr sl (lbN sl bes l l) f) (fun v hv => ?_) (fun f2 x5 x6 hv => ?_) sl 0 f _ (by omega) (by omega) (by unfold lbN; omega) (by omega) (by omega) rfl
    · rw [hv] at ht
      exact ⟨by rw [← ht], rfl⟩
    · rw [hv] at ht
      have h8 := prI_le _ _ _ _ _ _ _ _ hv
      refine i_inc 93 dX7_pair_90 rfl rfl (by decide) ?_
      refine m_goto 5 dX7_pair_93 (by decide) ?_
      exact ih _ _ _ _ (by omega) (by omega) (by omega) (by omega) ht
set_option maxHeartbeats 4000000 in
set_option maxRecDepth 100000 in
theorem c_X7_pair (hG : m_G G) (d : Nat) {k W H : Int} {n sl m : Nat} {col row bes : Nat → Int} {wal : Nat → Bool} (hX : cX w k W H n sl m col row bes wal) {c : Int} {gr : Bool} (hc : iR c) : m_Cv G MX7_pair (m_r (d + 3) 0 0) [.ref 1, vI c, vB gr] w (some (vI (prO sl bes c gr n 0 0))) w := by
  refine m_enter (L := [some (.ref 1), some (vI c), some (vB gr), none, none, none, none]) (by decide) hG (m_c1 rfl) (Nat.le_of_ble_eq_true rfl) rfl ?_
  refine i_const 1 dX7_pair_0 rfl ?_
  refine m_istore_n 2 dX7_pair_1 rfl (by decide) ?_
  refine i_const 3 dX7_pair_2 rfl ?_
  refine m_istore 5 dX7_pair_3 rfl (by decide) ?_
  exact l_X7_pair hG d hX hc n 0 0 _ _ (by omega) (by omega) (by omega) (by omega) rfl
def seF (op : Int → Int) (p i : Int) : Nat → Int → Int → Int
  | 0, _, _ => -1
  | k + 1, q, l => if l = -1 then -1 else if l = p then -1 else if q = i then l else seF op p i k (q + 1) (op l)
set_option maxHeartbeats 4000000 in
set_option maxRecDepth 100000 in
theorem l_X7_seen (hG : m_G G) (d : Nat) {k W H : Int} {n sl m : Nat} {col row bes : Nat → Int} {wal : Nat → Bool} (hX : cX w k W H n sl m col row bes wal) {p r i t : Int} (hp : 0 ≤ p ∧ p < n) (hr : 0 ≤ r ∧ r < sl) (hi : iR i) :
    ∀ (j : Nat) (q l : Int), 0 ≤ q → q + j = n → -1 ≤ l ∧ l < n → seF (fun z => oAt sl bes wal z r) p i j q l = t → m_J G MX7_seen (m_r (d + 3) 0 0) (fun r x => r = some (some (vI t)) ∧ x = w) 0 0 36 [some (.ref 1), some (vI p), some (vI r), some (vI i), some (vI l), some (vI q)] [] w := by
  have hXX := hX
  obtain ⟨h1, h2, h3, h4, h5, h6, h7, h8, hF, hN, hsl, hcr, hbs⟩ := hX
  have hFF := hF
  have hNN := hN
  have hnb := hF.n
  obtain ⟨hk0, hk4, hW1, hW2, hH1, hH2, hn, hg4⟩ := hF
  obtain ⟨hn1, hn2, hl1, hl2, hm, hm2⟩ := hN
  obtain ⟨hi1, hi2⟩ := hi
  intro j
  induction j with
  | zero =>
    intro q l hq0 hqj hl ht
    refine m_iload 38 dX7_seen_36 rfl rfl ?_
    refine m_aload_n 39 dX7_seen_38 rfl rfl ?_
    refine m_getf 42 foX7_12 dX7_seen_39 rfl (by first | rfl | assumption) (by rfl) ?_
    refine m_getf 45 foX7_66 dX7_seen_42 rfl (by first | rfl | assumption) (by rfl) ?_
    refine i_icmp_ge 48 87 ⟨by omega, by omega⟩ ⟨by omega, by omega⟩ dX7_seen_45 rfl (by decide) (fun _ => ?_) (fun h => absurd h (by omega))
    refine i_const 88 dX7_seen_87 rfl ?_
    refine i_ret _ dX7_seen_88 rfl ⟨Nat.le_refl _, Nat.le_refl _⟩ ?_ ⟨rfl, rfl⟩
    exact ht
  | succ j ih =>
    intro q l hq0 hqj hl ht
    unfold seF at ht
    refine m_iload 38 dX7_seen_36 rfl rfl ?_
    refine m_aload_n 39 dX7_seen_38 rfl rfl ?_
    refine m_getf 42 foX7_12 dX7_seen_39 rfl (by first | rfl | assumption) (by rfl) ?_
    refine m_getf 45 foX7_66 dX7_seen_42 rfl (by first | rfl | assumption) (by rfl) ?_
    refine i_icmp_ge 48 87 ⟨by omega, by omega⟩ ⟨by omega, by omega⟩ dX7_seen_45 rfl (by decide) (fun h => absurd h (by omega)) (fun _ => ?_)
    refine m_iload 50 dX7_seen_48 rfl rfl ?_
    refine i_const 51 dX7_seen_50 rfl ?_
    refine i_icmp_eq 54 87 ⟨by omega, by omega⟩ ⟨by omega, by omega⟩ dX7_seen_51 rfl (by decide) (fun q51 => ?_) (fun q51 => ?_)
    · refine i_const 88 dX7_seen_87 rfl ?_
      refine i_ret _ dX7_seen_88 rfl ⟨Nat.le_refl _, Nat.le_refl _⟩ ?_ ⟨rfl, rfl⟩
      first | (rw [if_pos q51] at ht; exact ht) | (rw [if_neg q51, if_pos q57] at ht; exact ht) | (rw [if_neg q51, if_neg q57, if_pos q63] at ht; exact ht)
    · refine m_iload 56 dX7_seen_54 rfl rfl ?_
      refine m_iload_n 57 dX7_seen_56 rfl rfl ?_
      refine i_icmp_eq 60 87 ⟨by omega, by omega⟩ ⟨by omega, by omega⟩ dX7_seen_57 rfl (by decide) (fun q57 => ?_) (fun q57 => ?_)
      · refine i_const 88 dX7_seen_87 rfl ?_
        refine i_ret _ dX7_seen_88 rfl ⟨Nat.le_refl _, Nat.le_refl _⟩ ?_ ⟨rfl, rfl⟩
        first | (rw [if_pos q51] at ht; exact ht) | (rw [if_neg q51, if_pos q57] at ht; exact ht) | (rw [if_neg q51, if_neg q57, if_pos q63] at ht; exact ht)
      · refine m_iload 62 dX7_seen_60 rfl rfl ?_
        refine m_iload_n 63 dX7_seen_62 rfl rfl ?_
        refine i_icmp_ne 66 69 ⟨by omega, by omega⟩ ⟨by omega, by omega⟩ dX7_seen_63 rfl (by decide) (fun q63 => ?_) (fun q63 => ?_)
        · refine m_aload_n 70 dX7_seen_69 rfl rfl ?_
          refine m_getf 73 foX7_23 dX7_seen_70 rfl (by first | rfl | assumption) (by rfl) ?_
          refine m_iload 75 dX7_seen_73 rfl rfl ?_
          refine m_iload_n 76 dX7_seen_75 rfl rfl ?_
          refine m_cV (M' := MX2_openAt) 79 [_, _] kX7_94 imX2_openAt seX2_openAt clX2_openAt dX7_seen_76 rfl rfl rfl (by first | rfl | assumption) (m_rmI (by omega) (Nat.le_of_ble_eq_true rfl) (Nat.le_refl _) (Nat.le_refl _)) (c_X2_openAt hG d h5 hNN h6 h7 ⟨by omega, by omega⟩ hr) ?_
          refine m_istore 81 dX7_seen_79 rfl (by decide) ?_
          refine i_inc 84 dX7_seen_81 rfl rfl (by decide) ?_
          refine m_goto 36 dX7_seen_84 (by decide) ?_
          rw [if_neg q51, if_neg q57, if_neg q63] at ht
          exact ih _ _ (by omega) (by omega) (hXX.oat ⟨by omega, by omega⟩ hr.1 hr.2) ht
        · refine m_iload 68 dX7_seen_66 rfl rfl ?_
          refine i_ret _ dX7_seen_68 rfl ⟨Nat.le_refl _, Nat.le_refl _⟩ ?_ ⟨rfl, rfl⟩
          first | (rw [if_pos q51] at ht; exact ht) | (rw [if_neg q51, if_pos q57] at ht; exact ht) | (rw [if_neg q51, if_neg q57, if_pos q63] at ht; exact ht)
theorem dirB {k : Int} {n sl : Nat} (h : sl = slN k n) {r : Int} (hr : 0 ≤ r ∧ r < dirN k) : 0 ≤ r ∧ r < sl := by
  unfold dirN at hr
  unfold slN at h
  split at hr
  · rename_i hk; rw [if_pos hk] at h; omega
  · rename_i hk
    rw [if_neg hk] at h
    split at hr
    · rename_i hk2; rw [if_pos hk2] at h; omega
    · rename_i hk2
      rw [if_neg hk2] at h
      split at hr
      · omega
      · rename_i hk3; rw [if_neg hk3] at h; omega
theorem dirR (k : Int) : 0 ≤ dirN k ∧ dirN k ≤ 6 := by unfold dirN; repeat' split
                                                       all_goals omega
set_option maxHeartbeats 4000000 in
set_option maxRecDepth 100000 in
theorem c_X7_seen (hG : m_G G) (d : Nat) {k W H : Int} {n sl m : Nat} {col row bes : Nat → Int} {wal : Nat → Bool} (hX : cX w k W H n sl m col row bes wal) {p r i : Int} (hp : 0 ≤ p ∧ p < n) (hr : iR r) (hi : iR i) : m_Cv G MX7_seen (m_r (d + 3) 0 0) [.ref 1, vI p, vI r, vI i] w (some (vI (if inB r (dirN k) then seF (fun z => oAt sl bes wal z r) p i n 0 (oAt sl bes wal p r) else -1))) w := by
  have hXX := hX
  obtain ⟨h1, h2, h3, h4, h5, h6, h7, h8, hF, hN, hsl, hcr, hbs⟩ := hX
  have hFF := hF
  have hNN := hN
  have hnb := hF.n
  obtain ⟨hk0, hk4, hW1, hW2, hH1, hH2, hn, hg4⟩ := hF
  obtain ⟨hn1, hn2, hl1, hl2, hm, hm2⟩ := hN
  obtain ⟨hr1, hr2⟩ := hr
  have hdr := dirR k
  refine m_enter (L := [some (.ref 1), some (vI p), some (vI r), some (vI i), none, none]) (by decide) hG (m_c1 rfl) (Nat.le_of_ble_eq_true rfl) rfl ?_
  refine m_aload_n 1 dX7_seen_0 rfl rfl ?_
  refine m_iload_n 2 dX7_seen_1 rfl rfl ?_
  refine m_cV (M' := MX7_demandPlace) 5 [_] kX7_77 imX7_demandPlace seX7_demandPlace clX7_demandPlace dX7_seen_2 rfl rfl rfl (by first | rfl | assumption) (m_rmI (by omega) (Nat.le_of_ble_eq_true rfl) (Nat.le_refl _) (Nat.le_refl _)) (c_X7_demandPlace hG (d + 1) hXX ⟨by omega, by omega⟩) ?_
  refine m_iload_n 6 dX7_seen_5 rfl rfl ?_
  refine i_if_lt 9 20 ⟨by omega, by omega⟩ dX7_seen_6 rfl (by decide) (fun q6 => ?_) (fun q6 => ?_)
  · refine i_const 21 dX7_seen_20 rfl ?_
    refine i_ret _ dX7_seen_21 rfl ⟨Nat.le_refl _, Nat.le_refl _⟩ ?_ ⟨rfl, rfl⟩
    rw [if_neg (by rw [inB_0 (by omega)]; decide)]
  · refine m_iload_n 10 dX7_seen_9 rfl rfl ?_
    refine m_aload_n 11 dX7_seen_10 rfl rfl ?_
    refine m_getf 14 foX7_12 dX7_seen_11 rfl (by first | rfl | assumption) (by rfl) ?_
    refine m_cV (M' := MX1_directions) 17 [] kX7_111 imX1_directions seX1_directions clX1_directions dX7_seen_14 rfl rfl rfl (by first | rfl | assumption) (m_rmI (by omega) (Nat.le_of_ble_eq_true rfl) (Nat.le_refl _) (Nat.le_refl _)) (c_X1_directions hG (d + 2) h2 hFF) ?_
    refine i_icmp_lt 20 22 ⟨by omega, by omega⟩ ⟨by omega, by omega⟩ dX7_seen_17 rfl (by decide) (fun q17 => ?_) (fun q17 => ?_)
    · have hrr : 0 ≤ r ∧ r < dirN k := ⟨by omega, q17⟩
      have hrs := dirB hsl hrr
      refine m_aload_n 23 dX7_seen_22 rfl rfl ?_
      refine m_getf 26 foX7_23 dX7_seen_23 rfl (by first | rfl | assumption) (by rfl) ?_
      refine m_iload_n 27 dX7_seen_26 rfl rfl ?_
      refine m_iload_n 28 dX7_seen_27 rfl rfl ?_
      refine m_cV (M' := MX2_openAt) 31 [_, _] kX7_94 imX2_openAt seX2_openAt clX2_openAt dX7_seen_28 rfl rfl rfl (by first | rfl | assumption) (m_rmI (by omega) (Nat.le_of_ble_eq_true rfl) (Nat.le_refl _) (Nat.le_refl _)) (c_X2_openAt hG d h5 hNN h6 h7 hp hrs) ?_
      refine m_istore 33 dX7_seen_31 rfl (by decide) ?_
      refine i_const 34 dX7_seen_33 rfl ?_
      refine m_istore 36 dX7_seen_34 rfl (by decide) ?_
      rw [if_pos (inB_1 hrr)]
      exact l_X7_seen hG d hXX hp hrs hi n 0 _ (by omega) (by omega) (hXX.oat hp hrs.1 hrs.2) rfl
    · refine i_const 21 dX7_seen_20 rfl ?_
      refine i_ret _ dX7_seen_21 rfl ⟨Nat.le_refl _, Nat.le_refl _⟩ ?_ ⟨rfl, rfl⟩
      rw [if_neg (by rw [inB_0 (by omega)]; decide)]
set_option maxHeartbeats 4000000 in
set_option maxRecDepth 100000 in
theorem c_X7_unitN (hG : m_G G) (d : Nat) {u f : Int} {g : Nat → Int} (h1 : w[1]? = some oGrid) (h18 : w[18]? = some (oRow 19 f)) (h19 : w[19]? = some (cI 1200 g)) (hf : 0 ≤ f ∧ f ≤ 1200) (hu : iR u) (hno : ¬ (0 ≤ u ∧ u ≤ 255 ∧ f < 1200)) : m_Cv G MX7_unit (m_r (d + 1) 0 0) [.ref 1, vI u] w (some (vB false)) w := by
  obtain ⟨hu1, hu2⟩ := hu
  refine m_enter (L := [some (.ref 1), some (vI u)]) (by decide) hG (m_c1 rfl) (Nat.le_of_ble_eq_true rfl) rfl ?_
  refine m_iload_n 1 dX7_unit_0 rfl rfl ?_
  refine i_if_lt 4 26 ⟨by omega, by omega⟩ dX7_unit_1 rfl (by decide) (fun q1 => ?_) (fun q1 => ?_)
  · refine i_const 27 dX7_unit_26 rfl ?_
    refine i_retB _ dX7_unit_27 rfl ⟨Nat.le_refl _, Nat.le_refl _⟩ ?_ ⟨rfl, rfl⟩
    refine i_eq0 ?_
    first | rfl | exact absurd q19 (by decide)
  · refine m_iload_n 5 dX7_unit_4 rfl rfl ?_
    refine i_sipush 8 255 dX7_unit_5 rfl (by decide) ?_
    refine i_icmp_gt 11 26 ⟨by omega, by omega⟩ ⟨by omega, by omega⟩ dX7_unit_8 rfl (by decide) (fun q8 => ?_) (fun q8 => ?_)
    · refine i_const 27 dX7_unit_26 rfl ?_
      refine i_retB _ dX7_unit_27 rfl ⟨Nat.le_refl _, Nat.le_refl _⟩ ?_ ⟨rfl, rfl⟩
      refine i_eq0 ?_
      first | rfl | exact absurd q19 (by decide)
    · refine m_aload_n 12 dX7_unit_11 rfl rfl ?_
      refine m_getf 15 foX7_62 dX7_unit_12 rfl (by first | rfl | assumption) (by rfl) ?_
      refine m_iload_n 16 dX7_unit_15 rfl rfl ?_
      refine m_cV (M' := MX3_put) 19 [_] kX7_156 imX3_put seX3_put clX3_put dX7_unit_16 rfl rfl rfl (by first | rfl | assumption) (m_rmI (by omega) (Nat.le_of_ble_eq_true rfl) (Nat.le_refl _) (Nat.le_refl _)) (c_X3_putF hG d h18 h19 (by omega) ⟨by omega, by omega⟩ (by omega)) ?_
      refine b_if_eq 22 26 dX7_unit_19 rfl (by decide) (fun q19 => ?_) (fun q19 => ?_)
      · refine i_const 27 dX7_unit_26 rfl ?_
        refine i_retB _ dX7_unit_27 rfl ⟨Nat.le_refl _, Nat.le_refl _⟩ ?_ ⟨rfl, rfl⟩
        refine i_eq0 ?_
        first | rfl | exact absurd q19 (by decide)
      · refine i_const 23 dX7_unit_22 rfl ?_
        refine m_goto 27 dX7_unit_23 (by decide) ?_
        refine i_retB _ dX7_unit_27 rfl ⟨Nat.le_refl _, Nat.le_refl _⟩ ?_ ⟨rfl, rfl⟩
        refine i_eq1 ?_
        first | rfl | exact absurd q19 (by decide)
set_option maxHeartbeats 4000000 in
set_option maxRecDepth 100000 in
theorem c_X7_unitY (hG : m_G G) (d : Nat) {u f : Int} {g : Nat → Int} (h1 : w[1]? = some oGrid) (h18 : w[18]? = some (oRow 19 f)) (h19 : w[19]? = some (cI 1200 g)) (hf : 0 ≤ f ∧ f < 1200) (hu : 0 ≤ u ∧ u ≤ 255) : m_Cv G MX7_unit (m_r (d + 1) 0 0) [.ref 1, vI u] w (some (vB true)) ((w.set 19 (cI 1200 (up g f.toNat u))).set 18 (oRow 19 (f + 1))) := by
  refine m_enter (L := [some (.ref 1), some (vI u)]) (by decide) hG (m_c1 rfl) (Nat.le_of_ble_eq_true rfl) rfl ?_
  refine m_iload_n 1 dX7_unit_0 rfl rfl ?_
  refine i_if_lt 4 26 ⟨by omega, by omega⟩ dX7_unit_1 rfl (by decide) (fun h => absurd h (by omega)) (fun _ => ?_)
  refine m_iload_n 5 dX7_unit_4 rfl rfl ?_
  refine i_sipush 8 255 dX7_unit_5 rfl (by decide) ?_
  refine i_icmp_gt 11 26 ⟨by omega, by omega⟩ ⟨by omega, by omega⟩ dX7_unit_8 rfl (by decide) (fun h => absurd h (by omega)) (fun _ => ?_)
  refine m_aload_n 12 dX7_unit_11 rfl rfl ?_
  refine m_getf 15 foX7_62 dX7_unit_12 rfl (by first | rfl | assumption) (by rfl) ?_
  refine m_iload_n 16 dX7_unit_15 rfl rfl ?_
  refine m_cV (M' := MX3_put) 19 [_] kX7_156 imX3_put seX3_put clX3_put dX7_unit_16 rfl rfl rfl (by first | rfl | assumption) (m_rmI (by omega) (Nat.le_of_ble_eq_true rfl) (Nat.le_refl _) (Nat.le_refl _)) (c_X3_put (i := 17) (c := 18) hG d h18 h19 (by decide) (by omega) (by omega)) ?_
  refine b_if_eq 22 26 dX7_unit_19 rfl (by decide) (fun h => absurd h (by decide)) (fun _ => ?_)
  refine i_const 23 dX7_unit_22 rfl ?_
  refine m_goto 27 dX7_unit_23 (by decide) ?_
  refine i_retB _ dX7_unit_27 rfl ⟨Nat.le_refl _, Nat.le_refl _⟩ ?_ ⟨rfl, rfl⟩
  refine i_eq1 ?_
  rfl
set_option maxHeartbeats 4000000 in
set_option maxRecDepth 100000 in
theorem c_X7_joinX (hG : m_G G) (d : Nat) {k W H : Int} {n sl m : Nat} {col row bes : Nat → Int} {wal : Nat → Bool} (hX : cX w k W H n sl m col row bes wal) {a : Int} {b : Int} (hb : ¬ (0 ≤ a ∧ a < n)) (hr : iR a) : m_Cx0 G MX7_join (m_r (d + 8) 1 6) [.ref 1, vI a, vI b] w (w ++ [mU]) := by
  have hXX := hX
  obtain ⟨h1, h2, h3, h4, h5, h6, h7, h8, hF, hN, hsl, hcr, hbs⟩ := hX
  have hFF := hF
  have hNN := hN
  have hnb := hF.n
  obtain ⟨hk0, hk4, hW1, hW2, hH1, hH2, hn, hg4⟩ := hF
  obtain ⟨hn1, hn2, hl1, hl2, hm, hm2⟩ := hN
  refine m_enter (L := [some (.ref 1), some (vI a), some (vI b)]) (by decide) hG (m_c1 rfl) (Nat.le_of_ble_eq_true rfl) rfl ?_
  refine m_aload_n 1 dX7_join_0 rfl rfl ?_
  refine m_iload_n 2 dX7_join_1 rfl rfl ?_
  exact m_cVx (M' := MX7_demandPlace) [_] kX7_77 imX7_demandPlace seX7_demandPlace clX7_demandPlace dX7_join_2 rfl rfl (by first | rfl | assumption) (m_rmI (by omega) (Nat.le_of_ble_eq_true rfl) (Nat.le_refl _) (Nat.le_refl _)) (c_X7_demandPlaceX hG d hXX hb hr) (m_T_out rfl ⟨Nat.le_refl _, Nat.le_refl _⟩ ⟨rfl, rfl⟩)
set_option maxHeartbeats 4000000 in
set_option maxRecDepth 100000 in
theorem c_X7_joinX2 (hG : m_G G) (d : Nat) {k W H : Int} {n sl m : Nat} {col row bes : Nat → Int} {wal : Nat → Bool} (hX : cX w k W H n sl m col row bes wal) {a : Int} {b : Int} (ha : 0 ≤ a ∧ a < n) (hb : ¬ (0 ≤ b ∧ b < n)) (hr : iR b) : m_Cx0 G MX7_join (m_r (d + 8) 1 6) [.ref 1, vI a, vI b] w (w ++ [mU]) := by
  have hXX := hX
  obtain ⟨h1, h2, h3, h4, h5, h6, h7, h8, hF, hN, hsl, hcr, hbs⟩ := hX
  have hFF := hF
  have hNN := hN
  have hnb := hF.n
  obtain ⟨hk0, hk4, hW1, hW2, hH1, hH2, hn, hg4⟩ := hF
  obtain ⟨hn1, hn2, hl1, hl2, hm, hm2⟩ := hN
  refine m_enter (L := [some (.ref 1), some (vI a), some (vI b)]) (by decide) hG (m_c1 rfl) (Nat.le_of_ble_eq_true rfl) rfl ?_
  refine m_aload_n 1 dX7_join_0 rfl rfl ?_
  refine m_iload_n 2 dX7_join_1 rfl rfl ?_
  refine m_cV (M' := MX7_demandPlace) 5 [_] kX7_77 imX7_demandPlace seX7_demandPlace clX7_demandPlace dX7_join_2 rfl rfl rfl (by first | rfl | assumption) (m_rmI (by omega) (Nat.le_of_ble_eq_true rfl) (Nat.zero_le _) (Nat.zero_le _)) (c_X7_demandPlace hG (d + 6) hXX ha) ?_
  refine m_aload_n 6 dX7_join_5 rfl rfl ?_
  refine m_iload_n 7 dX7_join_6 rfl rfl ?_
  exact m_cVx (M' := MX7_demandPlace) [_] kX7_77 imX7_demandPlace seX7_demandPlace clX7_demandPlace dX7_join_7 rfl rfl (by first | rfl | assumption) (m_rmI (by omega) (Nat.le_of_ble_eq_true rfl) (Nat.le_refl _) (Nat.le_refl _)) (c_X7_demandPlaceX hG d hXX hb hr) (m_T_out rfl ⟨Nat.le_refl _, Nat.le_refl _⟩ ⟨rfl, rfl⟩)
set_option maxHeartbeats 4000000 in
set_option maxRecDepth 100000 in
theorem c_X7_degreeX (hG : m_G G) (d : Nat) {k W H : Int} {n sl m : Nat} {col row bes : Nat → Int} {wal : Nat → Bool} (hX : cX w k W H n sl m col row bes wal) {a : Int} {nx : Bool} (hb : ¬ (0 ≤ a ∧ a < n)) (hr : iR a) : m_Cx0 G MX7_degree (m_r (d + 8) 1 6) [.ref 1, vI a, vB nx] w (w ++ [mU]) := by
  have hXX := hX
  obtain ⟨h1, h2, h3, h4, h5, h6, h7, h8, hF, hN, hsl, hcr, hbs⟩ := hX
  have hFF := hF
  have hNN := hN
  have hnb := hF.n
  obtain ⟨hk0, hk4, hW1, hW2, hH1, hH2, hn, hg4⟩ := hF
  obtain ⟨hn1, hn2, hl1, hl2, hm, hm2⟩ := hN
  refine m_enter (L := [some (.ref 1), some (vI a), some (vB nx), none, none, none]) (by decide) hG (m_c1 rfl) (Nat.le_of_ble_eq_true rfl) rfl ?_
  refine m_aload_n 1 dX7_degree_0 rfl rfl ?_
  refine m_iload_n 2 dX7_degree_1 rfl rfl ?_
  exact m_cVx (M' := MX7_demandPlace) [_] kX7_77 imX7_demandPlace seX7_demandPlace clX7_demandPlace dX7_degree_2 rfl rfl (by first | rfl | assumption) (m_rmI (by omega) (Nat.le_of_ble_eq_true rfl) (Nat.le_refl _) (Nat.le_refl _)) (c_X7_demandPlaceX hG d hXX hb hr) (m_T_out rfl ⟨Nat.le_refl _, Nat.le_refl _⟩ ⟨rfl, rfl⟩)
set_option maxHeartbeats 4000000 in
set_option maxRecDepth 100000 in
theorem c_X7_neighbourX (hG : m_G G) (d : Nat) {k W H : Int} {n sl m : Nat} {col row bes : Nat → Int} {wal : Nat → Bool} (hX : cX w k W H n sl m col row bes wal) {a : Int} {b : Int} (hb : ¬ (0 ≤ a ∧ a < n)) (hr : iR a) : m_Cx0 G MX7_neighbour (m_r (d + 8) 1 6) [.ref 1, vI a, vI b] w (w ++ [mU]) := by
  have hXX := hX
  obtain ⟨h1, h2, h3, h4, h5, h6, h7, h8, hF, hN, hsl, hcr, hbs⟩ := hX
  have hFF := hF
  have hNN := hN
  have hnb := hF.n
  obtain ⟨hk0, hk4, hW1, hW2, hH1, hH2, hn, hg4⟩ := hF
  obtain ⟨hn1, hn2, hl1, hl2, hm, hm2⟩ := hN
  refine m_enter (L := [some (.ref 1), some (vI a), some (vI b), none, none, none]) (by decide) hG (m_c1 rfl) (Nat.le_of_ble_eq_true rfl) rfl ?_
  refine m_aload_n 1 dX7_neighbour_0 rfl rfl ?_
  refine m_iload_n 2 dX7_neighbour_1 rfl rfl ?_
  exact m_cVx (M' := MX7_demandPlace) [_] kX7_77 imX7_demandPlace seX7_demandPlace clX7_demandPlace dX7_neighbour_2 rfl rfl (by first | rfl | assumption) (m_rmI (by omega) (Nat.le_of_ble_eq_true rfl) (Nat.le_refl _) (Nat.le_refl _)) (c_X7_demandPlaceX hG d hXX hb hr) (m_T_out rfl ⟨Nat.le_refl _, Nat.le_refl _⟩ ⟨rfl, rfl⟩)
set_option maxHeartbeats 4000000 in
set_option maxRecDepth 100000 in
theorem c_X7_wallX (hG : m_G G) (d : Nat) {k W H : Int} {n sl m : Nat} {col row bes : Nat → Int} {wal : Nat → Bool} (hX : cX w k W H n sl m col row bes wal) {a : Int} {b : Int} {on : Bool} (hb : ¬ (0 ≤ a ∧ a < n)) (hr : iR a) : m_Cx0 G MX7_wall (m_r (d + 8) 1 6) [.ref 1, vI a, vI b, vB on] w (w ++ [mU]) := by
  have hXX := hX
  obtain ⟨h1, h2, h3, h4, h5, h6, h7, h8, hF, hN, hsl, hcr, hbs⟩ := hX
  have hFF := hF
  have hNN := hN
  have hnb := hF.n
  obtain ⟨hk0, hk4, hW1, hW2, hH1, hH2, hn, hg4⟩ := hF
  obtain ⟨hn1, hn2, hl1, hl2, hm, hm2⟩ := hN
  refine m_enter (L := [some (.ref 1), some (vI a), some (vI b), some (vB on), none]) (by decide) hG (m_c1 rfl) (Nat.le_of_ble_eq_true rfl) rfl ?_
  refine m_aload_n 1 dX7_wall_0 rfl rfl ?_
  refine m_iload_n 2 dX7_wall_1 rfl rfl ?_
  exact m_cVx (M' := MX7_demandPlace) [_] kX7_77 imX7_demandPlace seX7_demandPlace clX7_demandPlace dX7_wall_2 rfl rfl (by first | rfl | assumption) (m_rmI (by omega) (Nat.le_of_ble_eq_true rfl) (Nat.le_refl _) (Nat.le_refl _)) (c_X7_demandPlaceX hG d hXX hb hr) (m_T_out rfl ⟨Nat.le_refl _, Nat.le_refl _⟩ ⟨rfl, rfl⟩)
set_option maxHeartbeats 4000000 in
set_option maxRecDepth 100000 in
theorem c_X7_wallX2 (hG : m_G G) (d : Nat) {k W H : Int} {n sl m : Nat} {col row bes : Nat → Int} {wal : Nat → Bool} (hX : cX w k W H n sl m col row bes wal) {a : Int} {b : Int} {on : Bool} (ha : 0 ≤ a ∧ a < n) (hb : ¬ (0 ≤ b ∧ b < n)) (hr : iR b) : m_Cx0 G MX7_wall (m_r (d + 8) 1 6) [.ref 1, vI a, vI b, vB on] w (w ++ [mU]) := by
  have hXX := hX
  obtain ⟨h1, h2, h3, h4, h5, h6, h7, h8, hF, hN, hsl, hcr, hbs⟩ := hX
  have hFF := hF
  have hNN := hN
  have hnb := hF.n
  obtain ⟨hk0, hk4, hW1, hW2, hH1, hH2, hn, hg4⟩ := hF
  obtain ⟨hn1, hn2, hl1, hl2, hm, hm2⟩ := hN
  refine m_enter (L := [some (.ref 1), some (vI a), some (vI b), some (vB on), none]) (by decide) hG (m_c1 rfl) (Nat.le_of_ble_eq_true rfl) rfl ?_
  refine m_aload_n 1 dX7_wall_0 rfl rfl ?_
  refine m_iload_n 2 dX7_wall_1 rfl rfl ?_
  refine m_cV (M' := MX7_demandPlace) 5 [_] kX7_77 imX7_demandPlace seX7_demandPlace clX7_demandPlace dX7_wall_2 rfl rfl rfl (by first | rfl | assumption) (m_rmI (by omega) (Nat.le_of_ble_eq_true rfl) (Nat.zero_le _) (Nat.zero_le _)) (c_X7_demandPlace hG (d + 6) hXX ha) ?_
  refine m_aload_n 6 dX7_wall_5 rfl rfl ?_
  refine m_iload_n 7 dX7_wall_6 rfl rfl ?_
  exact m_cVx (M' := MX7_demandPlace) [_] kX7_77 imX7_demandPlace seX7_demandPlace clX7_demandPlace dX7_wall_7 rfl rfl (by first | rfl | assumption) (m_rmI (by omega) (Nat.le_of_ble_eq_true rfl) (Nat.le_refl _) (Nat.le_refl _)) (c_X7_demandPlaceX hG d hXX hb hr) (m_T_out rfl ⟨Nat.le_refl _, Nat.le_refl _⟩ ⟨rfl, rfl⟩)
set_option maxHeartbeats 4000000 in
set_option maxRecDepth 100000 in
theorem c_X7_seenX (hG : m_G G) (d : Nat) {k W H : Int} {n sl m : Nat} {col row bes : Nat → Int} {wal : Nat → Bool} (hX : cX w k W H n sl m col row bes wal) {a : Int} {b : Int} {i : Int} (hb : ¬ (0 ≤ a ∧ a < n)) (hr : iR a) : m_Cx0 G MX7_seen (m_r (d + 8) 1 6) [.ref 1, vI a, vI b, vI i] w (w ++ [mU]) := by
  have hXX := hX
  obtain ⟨h1, h2, h3, h4, h5, h6, h7, h8, hF, hN, hsl, hcr, hbs⟩ := hX
  have hFF := hF
  have hNN := hN
  have hnb := hF.n
  obtain ⟨hk0, hk4, hW1, hW2, hH1, hH2, hn, hg4⟩ := hF
  obtain ⟨hn1, hn2, hl1, hl2, hm, hm2⟩ := hN
  refine m_enter (L := [some (.ref 1), some (vI a), some (vI b), some (vI i), none, none]) (by decide) hG (m_c1 rfl) (Nat.le_of_ble_eq_true rfl) rfl ?_
  refine m_aload_n 1 dX7_seen_0 rfl rfl ?_
  refine m_iload_n 2 dX7_seen_1 rfl rfl ?_
  exact m_cVx (M' := MX7_demandPlace) [_] kX7_77 imX7_demandPlace seX7_demandPlace clX7_demandPlace dX7_seen_2 rfl rfl (by first | rfl | assumption) (m_rmI (by omega) (Nat.le_of_ble_eq_true rfl) (Nat.le_refl _) (Nat.le_refl _)) (c_X7_demandPlaceX hG d hXX hb hr) (m_T_out rfl ⟨Nat.le_refl _, Nat.le_refl _⟩ ⟨rfl, rfl⟩)
set_option maxHeartbeats 4000000 in
set_option maxRecDepth 100000 in
theorem c_X7_farX (hG : m_G G) (d : Nat) {k W H : Int} {n sl m : Nat} {col row bes : Nat → Int} {wal : Nat → Bool} (hX : cX w k W H n sl m col row bes wal) {a : Int} {b : Int} (hb : ¬ (0 ≤ a ∧ a < n)) (hr : iR a) : m_Cx0 G MX7_far (m_r (d + 8) 1 6) [.ref 1, vI a, vI b] w (w ++ [mU]) := by
  have hXX := hX
  obtain ⟨h1, h2, h3, h4, h5, h6, h7, h8, hF, hN, hsl, hcr, hbs⟩ := hX
  have hFF := hF
  have hNN := hN
  have hnb := hF.n
  obtain ⟨hk0, hk4, hW1, hW2, hH1, hH2, hn, hg4⟩ := hF
  obtain ⟨hn1, hn2, hl1, hl2, hm, hm2⟩ := hN
  refine m_enter (L := [some (.ref 1), some (vI a), some (vI b)]) (by decide) hG (m_c1 rfl) (Nat.le_of_ble_eq_true rfl) rfl ?_
  refine m_aload_n 1 dX7_far_0 rfl rfl ?_
  refine m_iload_n 2 dX7_far_1 rfl rfl ?_
  exact m_cVx (M' := MX7_demandPlace) [_] kX7_77 imX7_demandPlace seX7_demandPlace clX7_demandPlace dX7_far_2 rfl rfl (by first | rfl | assumption) (m_rmI (by omega) (Nat.le_of_ble_eq_true rfl) (Nat.le_refl _) (Nat.le_refl _)) (c_X7_demandPlaceX hG d hXX hb hr) (m_T_out rfl ⟨Nat.le_refl _, Nat.le_refl _⟩ ⟨rfl, rfl⟩)
set_option maxHeartbeats 4000000 in
set_option maxRecDepth 100000 in
theorem c_X7_farX2 (hG : m_G G) (d : Nat) {k W H : Int} {n sl m : Nat} {col row bes : Nat → Int} {wal : Nat → Bool} (hX : cX w k W H n sl m col row bes wal) {a : Int} {b : Int} (ha : 0 ≤ a ∧ a < n) (hb : ¬ (0 ≤ b ∧ b < n)) (hr : iR b) : m_Cx0 G MX7_far (m_r (d + 8) 1 6) [.ref 1, vI a, vI b] w (w ++ [mU]) := by
  have hXX := hX
  obtain ⟨h1, h2, h3, h4, h5, h6, h7, h8, hF, hN, hsl, hcr, hbs⟩ := hX
  have hFF := hF
  have hNN := hN
  have hnb := hF.n
  obtain ⟨hk0, hk4, hW1, hW2, hH1, hH2, hn, hg4⟩ := hF
  obtain ⟨hn1, hn2, hl1, hl2, hm, hm2⟩ := hN
  refine m_enter (L := [some (.ref 1), some (vI a), some (vI b)]) (by decide) hG (m_c1 rfl) (Nat.le_of_ble_eq_true rfl) rfl ?_
  refine m_aload_n 1 dX7_far_0 rfl rfl ?_
  refine m_iload_n 2 dX7_far_1 rfl rfl ?_
  refine m_cV (M' := MX7_demandPlace) 5 [_] kX7_77 imX7_demandPlace seX7_demandPlace clX7_demandPlace dX7_far_2 rfl rfl rfl (by first | rfl | assumption) (m_rmI (by omega) (Nat.le_of_ble_eq_true rfl) (Nat.zero_le _) (Nat.zero_le _)) (c_X7_demandPlace hG (d + 6) hXX ha) ?_
  refine m_aload_n 6 dX7_far_5 rfl rfl ?_
  refine m_iload_n 7 dX7_far_6 rfl rfl ?_
  exact m_cVx (M' := MX7_demandPlace) [_] kX7_77 imX7_demandPlace seX7_demandPlace clX7_demandPlace dX7_far_7 rfl rfl (by first | rfl | assumption) (m_rmI (by omega) (Nat.le_of_ble_eq_true rfl) (Nat.le_refl _) (Nat.le_refl _)) (c_X7_demandPlaceX hG d hXX hb hr) (m_T_out rfl ⟨Nat.le_refl _, Nat.le_refl _⟩ ⟨rfl, rfl⟩)
set_option maxHeartbeats 4000000 in
set_option maxRecDepth 100000 in
theorem c_X7_withoutX (hG : m_G G) (d : Nat) {k W H : Int} {n sl m : Nat} {col row bes : Nat → Int} {wal : Nat → Bool} (hX : cX w k W H n sl m col row bes wal) {a : Int} (hb : ¬ (0 ≤ a ∧ a < n)) (hr : iR a) : m_Cx0 G MX7_without (m_r (d + 8) 1 6) [.ref 1, vI a] w (w ++ [mU]) := by
  have hXX := hX
  obtain ⟨h1, h2, h3, h4, h5, h6, h7, h8, hF, hN, hsl, hcr, hbs⟩ := hX
  have hFF := hF
  have hNN := hN
  have hnb := hF.n
  obtain ⟨hk0, hk4, hW1, hW2, hH1, hH2, hn, hg4⟩ := hF
  obtain ⟨hn1, hn2, hl1, hl2, hm, hm2⟩ := hN
  refine m_enter (L := [some (.ref 1), some (vI a)]) (by decide) hG (m_c1 rfl) (Nat.le_of_ble_eq_true rfl) rfl ?_
  refine m_aload_n 1 dX7_without_0 rfl rfl ?_
  refine m_iload_n 2 dX7_without_1 rfl rfl ?_
  exact m_cVx (M' := MX7_demandPlace) [_] kX7_77 imX7_demandPlace seX7_demandPlace clX7_demandPlace dX7_without_2 rfl rfl (by first | rfl | assumption) (m_rmI (by omega) (Nat.le_of_ble_eq_true rfl) (Nat.le_refl _) (Nat.le_refl _)) (c_X7_demandPlaceX hG d hXX hb hr) (m_T_out rfl ⟨Nat.le_refl _, Nat.le_refl _⟩ ⟨rfl, rfl⟩)
set_option maxHeartbeats 4000000 in
set_option maxRecDepth 100000 in
theorem c_X7_areaX (hG : m_G G) (d : Nat) {k W H : Int} {n sl m : Nat} {col row bes : Nat → Int} {wal : Nat → Bool} (hX : cX w k W H n sl m col row bes wal) {a : Int} {b : Int} (hb : ¬ (0 ≤ a ∧ a < n)) (hr : iR a) : m_Cx0 G MX7_area (m_r (d + 8) 1 6) [.ref 1, vI a, vI b] w (w ++ [mU]) := by
  have hXX := hX
  obtain ⟨h1, h2, h3, h4, h5, h6, h7, h8, hF, hN, hsl, hcr, hbs⟩ := hX
  have hFF := hF
  have hNN := hN
  have hnb := hF.n
  obtain ⟨hk0, hk4, hW1, hW2, hH1, hH2, hn, hg4⟩ := hF
  obtain ⟨hn1, hn2, hl1, hl2, hm, hm2⟩ := hN
  refine m_enter (L := [some (.ref 1), some (vI a), some (vI b)]) (by decide) hG (m_c1 rfl) (Nat.le_of_ble_eq_true rfl) rfl ?_
  refine m_aload_n 1 dX7_area_0 rfl rfl ?_
  refine m_iload_n 2 dX7_area_1 rfl rfl ?_
  exact m_cVx (M' := MX7_demandPlace) [_] kX7_77 imX7_demandPlace seX7_demandPlace clX7_demandPlace dX7_area_2 rfl rfl (by first | rfl | assumption) (m_rmI (by omega) (Nat.le_of_ble_eq_true rfl) (Nat.le_refl _) (Nat.le_refl _)) (c_X7_demandPlaceX hG d hXX hb hr) (m_T_out rfl ⟨Nat.le_refl _, Nat.le_refl _⟩ ⟨rfl, rfl⟩)
set_option maxHeartbeats 4000000 in
set_option maxRecDepth 100000 in
theorem c_X7_markX (hG : m_G G) (d : Nat) {k W H : Int} {n sl m : Nat} {col row bes : Nat → Int} {wal : Nat → Bool} (hX : cX w k W H n sl m col row bes wal) {a : Int} {b : Int} (hb : ¬ (0 ≤ a ∧ a < n)) (hr : iR a) : m_Cx0 G MX7_mark (m_r (d + 8) 1 6) [.ref 1, vI a, vI b] w (w ++ [mU]) := by
  have hXX := hX
  obtain ⟨h1, h2, h3, h4, h5, h6, h7, h8, hF, hN, hsl, hcr, hbs⟩ := hX
  have hFF := hF
  have hNN := hN
  have hnb := hF.n
  obtain ⟨hk0, hk4, hW1, hW2, hH1, hH2, hn, hg4⟩ := hF
  obtain ⟨hn1, hn2, hl1, hl2, hm, hm2⟩ := hN
  refine m_enter (L := [some (.ref 1), some (vI a), some (vI b)]) (by decide) hG (m_c1 rfl) (Nat.le_of_ble_eq_true rfl) rfl ?_
  refine m_aload_n 1 dX7_mark_0 rfl rfl ?_
  refine m_iload_n 2 dX7_mark_1 rfl rfl ?_
  exact m_cVx (M' := MX7_demandPlace) [_] kX7_77 imX7_demandPlace seX7_demandPlace clX7_demandPlace dX7_mark_2 rfl rfl (by first | rfl | assumption) (m_rmI (by omega) (Nat.le_of_ble_eq_true rfl) (Nat.le_refl _) (Nat.le_refl _)) (c_X7_demandPlaceX hG d hXX hb hr) (m_T_out rfl ⟨Nat.le_refl _, Nat.le_refl _⟩ ⟨rfl, rfl⟩)
set_option maxHeartbeats 4000000 in
set_option maxRecDepth 100000 in
theorem c_X7_imageX (hG : m_G G) (d : Nat) {k W H : Int} {n sl m : Nat} {col row bes : Nat → Int} {wal : Nat → Bool} (hX : cX w k W H n sl m col row bes wal) {a : Int} {b : Int} (hb : ¬ (0 ≤ b ∧ b < n)) (hr : iR b) : m_Cx0 G MX7_image (m_r (d + 8) 1 6) [.ref 1, vI a, vI b] w (w ++ [mU]) := by
  have hXX := hX
  obtain ⟨h1, h2, h3, h4, h5, h6, h7, h8, hF, hN, hsl, hcr, hbs⟩ := hX
  have hFF := hF
  have hNN := hN
  have hnb := hF.n
  obtain ⟨hk0, hk4, hW1, hW2, hH1, hH2, hn, hg4⟩ := hF
  obtain ⟨hn1, hn2, hl1, hl2, hm, hm2⟩ := hN
  refine m_enter (L := [some (.ref 1), some (vI a), some (vI b)]) (by decide) hG (m_c1 rfl) (Nat.le_of_ble_eq_true rfl) rfl ?_
  refine m_aload_n 1 dX7_image_0 rfl rfl ?_
  refine m_iload_n 2 dX7_image_1 rfl rfl ?_
  exact m_cVx (M' := MX7_demandPlace) [_] kX7_77 imX7_demandPlace seX7_demandPlace clX7_demandPlace dX7_image_2 rfl rfl (by first | rfl | assumption) (m_rmI (by omega) (Nat.le_of_ble_eq_true rfl) (Nat.le_refl _) (Nat.le_refl _)) (c_X7_demandPlaceX hG d hXX hb hr) (m_T_out rfl ⟨Nat.le_refl _, Nat.le_refl _⟩ ⟨rfl, rfl⟩)
end GY
end
section
/-! GridShapes: turns that keep all -/
section GK
variable {G : mG} {w : List mC}
theorem plA_in {W H x y : Int} (h : 0 ≤ x ∧ x < W ∧ 0 ≤ y ∧ y < H) : plA W H x y = W * y + x := if_pos h
theorem plA_r {W H x y : Int} {n : Nat} (hn : (n : Int) = W * H) (h : 0 ≤ x ∧ x < W ∧ 0 ≤ y ∧ y < H) : 0 ≤ plA W H x y ∧ plA W H x y < n := by
  rw [plA_in h, hn]
  have a : W * (y + 1) ≤ W * H := Int.mul_le_mul_of_nonneg_left (by omega) (by omega)
  have b : 0 ≤ W * y := Int.mul_nonneg (by omega) (by omega)
  rw [Int.mul_add, Int.mul_one] at a
  omega
theorem rgC_r {W t x : Int} (ht : 0 ≤ t ∧ t < 2 * W) (hx : 0 ≤ x ∧ x < W) : 0 ≤ rgC W t x ∧ rgC W t x < W := by
  unfold rgC
  repeat' split
  all_goals omega
theorem trn_r {k W H t x y : Int} {n : Nat} (hF : fOK k W H n) (ht : 0 ≤ t ∧ t < tuN k W H) (h : 0 ≤ x ∧ x < W ∧ 0 ≤ y ∧ y < H) : 0 ≤ trn k W H t x y ∧ trn k W H t x y < n := by
  obtain ⟨hk0, hk4, hW1, hW2, hH1, hH2, hn, hg⟩ := hF
  have htu := tuR (k := k) (W := W) (H := H) (t := t) ⟨by omega, by omega, by omega, by omega⟩ ht
  unfold trn
  by_cases h3 : k = 3
  · rw [if_pos h3]
    have := rgC_r (x := x) ⟨htu.1, htu.2.1 h3⟩ ⟨h.1, h.2.1⟩
    exact plA_r hn ⟨this.1, this.2, h.2.2.1, h.2.2.2⟩
  · rw [if_neg h3]
    have hsq : 4 ≤ t → W = H := by
      intro h4
      have := ht.2
      unfold tuN at this
      rw [if_neg h3] at this
      split at this
      · omega
      · split at this
        · assumption
        · omega
    refine plA_r hn ?_
    by_cases h4 : t < 4
    · rw [if_pos h4, if_pos h4]
      refine ⟨?_, ?_, ?_, ?_⟩ <;> split <;> omega
    · have := hsq (by omega)
      rw [if_neg h4, if_neg h4]
      refine ⟨?_, ?_, ?_, ?_⟩ <;> split <;> omega
def allF (P : Int → Bool) : Nat → Int → Bool
  | 0, _ => true
  | k + 1, i => P i && allF P k (i + 1)
/-- slot s of p is as the turn's image has it -/
def kbP (sl : Nat) (bes : Nat → Int) (wal : Nat → Bool) (T : Int → Int) (p im : Int) : Int → Bool := fun s => bAt sl bes p s == -1 || (sOf sl bes im (T (bAt sl bes p s)) != -1 && wAt sl wal p s == wAt sl wal im (sOf sl bes im (T (bAt sl bes p s))))
def kaP (sl : Nat) (bes mk : Nat → Int) (wal : Nat → Bool) (T : Int → Int) : Int → Bool := fun p => mk p.toNat == mk (T p).toNat && allF (kbP sl bes wal T p (T p)) sl 0
/-- the turn's map -/
def tMap (k W H t : Int) (col row : Nat → Int) : Int → Int := fun z => trn k W H t (col z.toNat) (row z.toNat)
theorem tMap_r {k W H : Int} {n sl m : Nat} {col row bes : Nat → Int} {wal : Nat → Bool} (hX : cX w k W H n sl m col row bes wal) {t z : Int} (ht : 0 ≤ t ∧ t < tuN k W H) (hz : 0 ≤ z ∧ z < n) : 0 ≤ tMap k W H t col row z ∧ tMap k W H t col row z < n := trn_r hX.2.2.2.2.2.2.2.2.1 ht (hX.xy hz)

theorem c_X5_paM (hG : m_G G) (d : Nat) {k W H : Int} {n sl m : Nat} {col row bes : Nat → Int} {wal : Nat → Bool} (hX : cX w k W H n sl m col row bes wal) {t z : Int} (ht : 0 ≤ t ∧ t < tuN k W H) (hz : 0 ≤ z ∧ z < n) : m_Cv G MX5_placeAfter (m_r (d + 2) 0 0) [.ref 8, vI t, vI z] w (some (vI (tMap k W H t col row z))) w := by
  have hXX := hX
  obtain ⟨h1, h2, h3, h4, h5, h6, h7, h8, hF, hN, hsl, hcr, hbs⟩ := hX
  have hFF := hF
  have hNN := hN
  have hnb := hF.n
  obtain ⟨hk0, hk4, hW1, hW2, hH1, hH2, hn, hg4⟩ := hF
  obtain ⟨hn1, hn2, hl1, hl2, hm, hm2⟩ := hN
  exact c_X5_placeAfter hG d h8 h2 hFF h3 h4 hz (hXX.xy hz) (tuR ⟨by omega, by omega, by omega, by omega⟩ ht)
set_option maxHeartbeats 4000000 in
set_option maxRecDepth 100000 in
theorem l_X7_keepsBeside (hG : m_G G) (d : Nat) {k W H : Int} {n sl m : Nat} {col row bes : Nat → Int} {wal : Nat → Bool} (hX : cX w k W H n sl m col row bes wal) {t p im : Int} {b : Bool} (ht : 0 ≤ t ∧ t < tuN k W H) (hp : 0 ≤ p ∧ p < n) (hi : 0 ≤ im ∧ im < n) :
    ∀ (j : Nat) (i : Int) (x5 x6 : Option Value), 0 ≤ i → i + j = sl → allF (kbP sl bes wal (tMap k W H t col row) p im) j i = b → m_J G MX7_keepsBeside (m_r (d + 3) 0 0) (fun r x => r = some (some (vB b)) ∧ x = w) 0 0 3 [some (.ref 1), some (vI t), some (vI p), some (vI im), some (vI i), x5, x6] [] w := by
  have hXX := hX
  obtain ⟨h1, h2, h3, h4, h5, h6, h7, h8, hF, hN, hsl, hcr, hbs⟩ := hX
  have hFF := hF
  have hNN := hN
  have hnb := hF.n
  obtain ⟨hk0, hk4, hW1, hW2, hH1, hH2, hn, hg4⟩ := hF
  obtain ⟨hn1, hn2, hl1, hl2, hm, hm2⟩ := hN
  intro j
  induction j with
  | zero =>
    intro i x5 x6 hi0 hij hb
    refine m_iload 5 dX7_keepsBeside_3 rfl rfl ?_
    refine m_aload_n 6 dX7_keepsBeside_5 rfl rfl ?_
    refine m_getf 9 foX7_23 dX7_keepsBeside_6 rfl (by first | rfl | assumption) (by rfl) ?_
    refine m_getf 12 foX7_91 dX7_keepsBeside_9 rfl (by first | rfl | assumption) (by rfl) ?_
    refine i_icmp_ge 15 90 ⟨by omega, by omega⟩ ⟨by omega, by omega⟩ dX7_keepsBeside_12 rfl (by decide) (fun _ => ?_) (fun h => absurd h (by omega))
    refine i_const 91 dX7_keepsBeside_90 rfl ?_
    refine i_retB _ dX7_keepsBeside_91 rfl ⟨Nat.le_refl _, Nat.le_refl _⟩ ?_ ⟨rfl, rfl⟩
    refine i_eq1 ?_
    exact hb.symm
  | succ j ih =>
    intro i x5 x6 hi0 hij hb
    have hs : 0 ≤ i ∧ i < (sl : Int) := by omega
    have hbr := hXX.bes hp i hs.1 hs.2
    unfold allF at hb
    unfold kbP at hb ih
    have hso := sOf_r sl bes im (tMap k W H t col row (bAt sl bes p i))
    refine m_iload 5 dX7_keepsBeside_3 rfl rfl ?_
    refine m_aload_n 6 dX7_keepsBeside_5 rfl rfl ?_
    refine m_getf 9 foX7_23 dX7_keepsBeside_6 rfl (by first | rfl | assumption) (by rfl) ?_
    refine m_getf 12 foX7_91 dX7_keepsBeside_9 rfl (by first | rfl | assumption) (by rfl) ?_
    refine i_icmp_ge 15 90 ⟨by omega, by omega⟩ ⟨by omega, by omega⟩ dX7_keepsBeside_12 rfl (by decide) (fun h => absurd h (by omega)) (fun _ => ?_)
    refine m_aload_n 16 dX7_keepsBeside_15 rfl rfl ?_
    refine m_getf 19 foX7_23 dX7_keepsBeside_16 rfl (by first | rfl | assumption) (by rfl) ?_
    refine m_iload_n 20 dX7_keepsBeside_19 rfl rfl ?_
    refine m_iload 22 dX7_keepsBeside_20 rfl rfl ?_
    refine m_cV (M' := MX2_besideAt) 25 [_, _] kX7_97 imX2_besideAt seX2_besideAt clX2_besideAt dX7_keepsBeside_22 rfl rfl rfl (by first | rfl | assumption) (m_rmI (by omega) (Nat.le_of_ble_eq_true rfl) (Nat.le_refl _) (Nat.le_refl _)) (c_X2_besideAt hG (d + 1) h5 hNN h6 hp hs) ?_
    refine m_istore 27 dX7_keepsBeside_25 rfl (by decide) ?_
    refine m_iload 29 dX7_keepsBeside_27 rfl rfl ?_
    refine i_const 30 dX7_keepsBeside_29 rfl ?_
    refine i_icmp_eq 33 84 ⟨by omega, by omega⟩ ⟨by omega, by omega⟩ dX7_keepsBeside_30 rfl (by decide) (fun q30 => ?_) (fun q30 => ?_)
    · refine i_inc 87 dX7_keepsBeside_84 rfl rfl (by decide) ?_
      refine m_goto 3 dX7_keepsBeside_87 (by decide) ?_
      refine ih _ _ _ (by omega) (by omega) ?_
      rw [← hb]
      first | (simp [q30]; done) | (simp [q30, q56, q79]; done)
    · have hto := tMap_r hXX ht (z := bAt sl bes p i) ⟨by omega, by omega⟩
      refine m_aload_n 34 dX7_keepsBeside_33 rfl rfl ?_
      refine m_getf 37 foX7_23 dX7_keepsBeside_34 rfl (by first | rfl | assumption) (by rfl) ?_
      refine m_iload_n 38 dX7_keepsBeside_37 rfl rfl ?_
      refine m_aload_n 39 dX7_keepsBeside_38 rfl rfl ?_
      refine m_getf 42 foX7_30 dX7_keepsBeside_39 rfl (by first | rfl | assumption) (by rfl) ?_
      refine m_iload_n 43 dX7_keepsBeside_42 rfl rfl ?_
      refine m_iload 45 dX7_keepsBeside_43 rfl rfl ?_
      refine m_cV (M' := MX5_placeAfter) 48 [_, _] kX7_139 imX5_placeAfter seX5_placeAfter clX5_placeAfter dX7_keepsBeside_45 rfl rfl rfl (by first | rfl | assumption) (m_rmI (by omega) (Nat.le_of_ble_eq_true rfl) (Nat.le_refl _) (Nat.le_refl _)) (c_X5_paM hG d hXX ht ⟨by omega, by omega⟩) ?_
      refine m_cV (M' := MX2_slotOf) 51 [_, _] kX7_83 imX2_slotOf seX2_slotOf clX2_slotOf dX7_keepsBeside_48 rfl rfl rfl (by first | rfl | assumption) (m_rmI (by omega) (Nat.le_of_ble_eq_true rfl) (Nat.le_refl _) (Nat.le_refl _)) (c_X2_slotOf hG d h5 hNN h6 hi ⟨by omega, by omega⟩ (hXX.besR hi)) ?_
      refine m_istore 53 dX7_keepsBeside_51 rfl (by decide) ?_
      refine m_iload 55 dX7_keepsBeside_53 rfl rfl ?_
      refine i_const 56 dX7_keepsBeside_55 rfl ?_
      refine i_icmp_eq 59 82 ⟨by omega, by omega⟩ ⟨by omega, by omega⟩ dX7_keepsBeside_56 rfl (by decide) (fun q56 => ?_) (fun q56 => ?_)
      · refine i_const 83 dX7_keepsBeside_82 rfl ?_
        refine i_retB _ dX7_keepsBeside_83 rfl ⟨Nat.le_refl _, Nat.le_refl _⟩ ?_ ⟨rfl, rfl⟩
        refine i_eq0 ?_
        rw [← hb]
        first | (simp [q30, q56]; done) | (simp [q30, q56, q79]; done)
      · refine m_aload_n 60 dX7_keepsBeside_59 rfl rfl ?_
        refine m_getf 63 foX7_23 dX7_keepsBeside_60 rfl (by first | rfl | assumption) (by rfl) ?_
        refine m_iload_n 64 dX7_keepsBeside_63 rfl rfl ?_
        refine m_iload 66 dX7_keepsBeside_64 rfl rfl ?_
        refine m_cV (M' := MX2_walledAt) 69 [_, _] kX7_100 imX2_walledAt seX2_walledAt clX2_walledAt dX7_keepsBeside_66 rfl rfl rfl (by first | rfl | assumption) (m_rmI (by omega) (Nat.le_of_ble_eq_true rfl) (Nat.le_refl _) (Nat.le_refl _)) (c_X2_walledAt hG (d + 1) h5 hNN h7 hp hs) ?_
        refine m_aload_n 70 dX7_keepsBeside_69 rfl rfl ?_
        refine m_getf 73 foX7_23 dX7_keepsBeside_70 rfl (by first | rfl | assumption) (by rfl) ?_
        refine m_iload_n 74 dX7_keepsBeside_73 rfl rfl ?_
        refine m_iload 76 dX7_keepsBeside_74 rfl rfl ?_
        refine m_cV (M' := MX2_walledAt) 79 [_, _] kX7_100 imX2_walledAt seX2_walledAt clX2_walledAt dX7_keepsBeside_76 rfl rfl rfl (by first | rfl | assumption) (m_rmI (by omega) (Nat.le_of_ble_eq_true rfl) (Nat.le_refl _) (Nat.le_refl _)) (c_X2_walledAt hG (d + 1) h5 hNN h7 hi ⟨by omega, by omega⟩) ?_
        refine b_icmp_eq 82 84 dX7_keepsBeside_79 rfl (by decide) (fun q79 => ?_) (fun q79 => ?_)
        · refine i_inc 87 dX7_keepsBeside_84 rfl rfl (by decide) ?_
          refine m_goto 3 dX7_keepsBeside_87 (by decide) ?_
          refine ih _ _ _ (by omega) (by omega) ?_
          rw [← hb]
          first | (simp [q30]; done) | (simp [q30, q56, q79]; done)
        · refine i_const 83 dX7_keepsBeside_82 rfl ?_
          refine i_retB _ dX7_keepsBeside_83 rfl ⟨Nat.le_refl _, Nat.le_refl _⟩ ?_ ⟨rfl, rfl⟩
          refine i_eq0 ?_
          rw [← hb]
          first | (simp [q30, q56]; done) | (simp [q30, q56, q79]; done)
set_option maxHeartbeats 4000000 in
set_option maxRecDepth 100000 in
theorem c_X7_keepsBeside (hG : m_G G) (d : Nat) {k W H : Int} {n sl m : Nat} {col row bes : Nat → Int} {wal : Nat → Bool} (hX : cX w k W H n sl m col row bes wal) {t p im : Int} (ht : 0 ≤ t ∧ t < tuN k W H) (hp : 0 ≤ p ∧ p < n) (hi : 0 ≤ im ∧ im < n) : m_Cv G MX7_keepsBeside (m_r (d + 3) 0 0) [.ref 1, vI t, vI p, vI im] w (some (vB (allF (kbP sl bes wal (tMap k W H t col row) p im) sl 0))) w := by
  refine m_enter (L := [some (.ref 1), some (vI t), some (vI p), some (vI im), none, none, none]) (by decide) hG (m_c1 rfl) (Nat.le_of_ble_eq_true rfl) rfl ?_
  refine i_const 1 dX7_keepsBeside_0 rfl ?_
  refine m_istore 3 dX7_keepsBeside_1 rfl (by decide) ?_
  exact l_X7_keepsBeside hG d hX ht hp hi sl 0 _ _ (by omega) (by omega) rfl
set_option maxHeartbeats 4000000 in
set_option maxRecDepth 100000 in
theorem l_X7_keepsAllPlaces (hG : m_G G) (d : Nat) {k W H : Int} {n sl m : Nat} {col row bes : Nat → Int} {wal : Nat → Bool} (hX : cX w k W H n sl m col row bes wal) {mk : Nat → Int} (h20 : w[20]? = some (cI n mk)) (hM : ∀ j, j < n → iR (mk j)) {t : Int} {b : Bool} (ht : 0 ≤ t ∧ t < tuN k W H) :
    ∀ (j : Nat) (p : Int) (x3 : Option Value), 0 ≤ p → p + j = n → allF (kaP sl bes mk wal (tMap k W H t col row)) j p = b → m_J G MX7_keepsAllPlaces (m_r (d + 4) 0 0) (fun r x => r = some (some (vB b)) ∧ x = w) 0 0 2 [some (.ref 1), some (vI t), some (vI p), x3] [] w := by
  have hXX := hX
  obtain ⟨h1, h2, h3, h4, h5, h6, h7, h8, hF, hN, hsl, hcr, hbs⟩ := hX
  have hFF := hF
  have hNN := hN
  have hnb := hF.n
  obtain ⟨hk0, hk4, hW1, hW2, hH1, hH2, hn, hg4⟩ := hF
  obtain ⟨hn1, hn2, hl1, hl2, hm, hm2⟩ := hN
  intro j
  induction j with
  | zero =>
    intro p x3 hp0 hpj hb
    refine m_iload_n 3 dX7_keepsAllPlaces_2 rfl rfl ?_
    refine m_aload_n 4 dX7_keepsAllPlaces_3 rfl rfl ?_
    refine m_getf 7 foX7_70 dX7_keepsAllPlaces_4 rfl (by first | rfl | assumption) (by rfl) ?_
    refine i_len 8 dX7_keepsAllPlaces_7 rfl (by first | rfl | assumption) ?_
    refine i_icmp_ge 11 65 ⟨by omega, by omega⟩ ⟨by omega, by omega⟩ dX7_keepsAllPlaces_8 rfl (by decide) (fun _ => ?_) (fun h => absurd h (by omega))
    refine i_const 66 dX7_keepsAllPlaces_65 rfl ?_
    refine i_retB _ dX7_keepsAllPlaces_66 rfl ⟨Nat.le_refl _, Nat.le_refl _⟩ ?_ ⟨rfl, rfl⟩
    refine i_eq1 ?_
    exact hb.symm
  | succ j ih =>
    intro p x3 hp0 hpj hb
    have hp : 0 ≤ p ∧ p < (n : Int) := by omega
    have hto := tMap_r hXX ht hp
    obtain ⟨hM1, hM2⟩ := hM p.toNat (by omega)
    obtain ⟨hM3, hM4⟩ := hM (tMap k W H t col row p).toNat (by omega)
    unfold allF at hb
    unfold kaP at hb ih
    refine m_iload_n 3 dX7_keepsAllPlaces_2 rfl rfl ?_
    refine m_aload_n 4 dX7_keepsAllPlaces_3 rfl rfl ?_
    refine m_getf 7 foX7_70 dX7_keepsAllPlaces_4 rfl (by first | rfl | assumption) (by rfl) ?_
    refine i_len 8 dX7_keepsAllPlaces_7 rfl (by first | rfl | assumption) ?_
    refine i_icmp_ge 11 65 ⟨by omega, by omega⟩ ⟨by omega, by omega⟩ dX7_keepsAllPlaces_8 rfl (by decide) (fun h => absurd h (by omega)) (fun _ => ?_)
    refine m_aload_n 12 dX7_keepsAllPlaces_11 rfl rfl ?_
    refine m_getf 15 foX7_30 dX7_keepsAllPlaces_12 rfl (by first | rfl | assumption) (by rfl) ?_
    refine m_iload_n 16 dX7_keepsAllPlaces_15 rfl rfl ?_
    refine m_iload_n 17 dX7_keepsAllPlaces_16 rfl rfl ?_
    refine m_cV (M' := MX5_placeAfter) 20 [_, _] kX7_139 imX5_placeAfter seX5_placeAfter clX5_placeAfter dX7_keepsAllPlaces_17 rfl rfl rfl (by first | rfl | assumption) (m_rmI (by omega) (Nat.le_of_ble_eq_true rfl) (Nat.le_refl _) (Nat.le_refl _)) (c_X5_paM hG (d + 1) hXX ht hp) ?_
    refine m_istore_n 21 dX7_keepsAllPlaces_20 rfl (by decide) ?_
    refine m_aload_n 22 dX7_keepsAllPlaces_21 rfl rfl ?_
    refine m_getf 25 foX7_12 dX7_keepsAllPlaces_22 rfl (by first | rfl | assumption) (by rfl) ?_
    refine m_iload_n 26 dX7_keepsAllPlaces_25 rfl rfl ?_
    refine m_cV (M' := MX1_has) 29 [_] kX7_169 imX1_has seX1_has clX1_has dX7_keepsAllPlaces_26 rfl rfl rfl (by first | rfl | assumption) (m_rmI (by omega) (Nat.le_of_ble_eq_true rfl) (Nat.le_refl _) (Nat.le_refl _)) (c_X1_has hG (d + 3) h2 hFF ⟨by omega, by omega⟩) ?_
    refine b_if_eq 32 57 dX7_keepsAllPlaces_29 rfl (by decide) (fun h => absurd h (by rw [inB_1 hto]; decide)) (fun _ => ?_)
    refine m_aload_n 33 dX7_keepsAllPlaces_32 rfl rfl ?_
    refine m_getf 36 foX7_70 dX7_keepsAllPlaces_33 rfl (by first | rfl | assumption) (by rfl) ?_
    refine m_iload_n 37 dX7_keepsAllPlaces_36 rfl rfl ?_
    refine i_ald 38 dX7_keepsAllPlaces_37 rfl (by first | rfl | assumption) ⟨by omega, by omega, by omega⟩ ?_
    refine m_aload_n 39 dX7_keepsAllPlaces_38 rfl rfl ?_
    refine m_getf 42 foX7_70 dX7_keepsAllPlaces_39 rfl (by first | rfl | assumption) (by rfl) ?_
    refine m_iload_n 43 dX7_keepsAllPlaces_42 rfl rfl ?_
    refine i_ald 44 dX7_keepsAllPlaces_43 rfl (by first | rfl | assumption) ⟨by omega, by omega, by omega⟩ ?_
    refine i_icmp_ne 47 57 ⟨by omega, by omega⟩ ⟨by omega, by omega⟩ dX7_keepsAllPlaces_44 rfl (by decide) (fun q44 => ?_) (fun q44 => ?_)
    · refine i_const 58 dX7_keepsAllPlaces_57 rfl ?_
      refine i_retB _ dX7_keepsAllPlaces_58 rfl ⟨Nat.le_refl _, Nat.le_refl _⟩ ?_ ⟨rfl, rfl⟩
      refine i_eq0 ?_
      rw [← hb]
      first | (simp [q44]; done) | (simp [q44, q54]; done)
    · refine m_aload_n 48 dX7_keepsAllPlaces_47 rfl rfl ?_
      refine m_iload_n 49 dX7_keepsAllPlaces_48 rfl rfl ?_
      refine m_iload_n 50 dX7_keepsAllPlaces_49 rfl rfl ?_
      refine m_iload_n 51 dX7_keepsAllPlaces_50 rfl rfl ?_
      refine m_cV (M' := MX7_keepsBeside) 54 [_, _, _] kX7_177 imX7_keepsBeside seX7_keepsBeside clX7_keepsBeside dX7_keepsAllPlaces_51 rfl rfl rfl (by first | rfl | assumption) (m_rmI (by omega) (Nat.le_of_ble_eq_true rfl) (Nat.le_refl _) (Nat.le_refl _)) (c_X7_keepsBeside hG d hXX ht hp hto) ?_
      refine b_if_ne 57 59 dX7_keepsAllPlaces_54 rfl (by decide) (fun q54 => ?_) (fun q54 => ?_)
      · refine i_inc 62 dX7_keepsAllPlaces_59 rfl rfl (by decide) ?_
        refine m_goto 2 dX7_keepsAllPlaces_62 (by decide) ?_
        refine ih _ _ (by omega) (by omega) ?_
        rw [← hb]
        simp [q44, q54]
      · refine i_const 58 dX7_keepsAllPlaces_57 rfl ?_
        refine i_retB _ dX7_keepsAllPlaces_58 rfl ⟨Nat.le_refl _, Nat.le_refl _⟩ ?_ ⟨rfl, rfl⟩
        refine i_eq0 ?_
        rw [← hb]
        first | (simp [q44]; done) | (simp [q44, q54]; done)
set_option maxHeartbeats 4000000 in
set_option maxRecDepth 100000 in
theorem c_X7_keepsAllPlaces (hG : m_G G) (d : Nat) {k W H : Int} {n sl m : Nat} {col row bes : Nat → Int} {wal : Nat → Bool} (hX : cX w k W H n sl m col row bes wal) {mk : Nat → Int} (h20 : w[20]? = some (cI n mk)) (hM : ∀ j, j < n → iR (mk j)) {t : Int} (ht : 0 ≤ t ∧ t < tuN k W H) : m_Cv G MX7_keepsAllPlaces (m_r (d + 4) 0 0) [.ref 1, vI t] w (some (vB (allF (kaP sl bes mk wal (tMap k W H t col row)) n 0))) w := by
  refine m_enter (L := [some (.ref 1), some (vI t), none, none]) (by decide) hG (m_c1 rfl) (Nat.le_of_ble_eq_true rfl) rfl ?_
  refine i_const 1 dX7_keepsAllPlaces_0 rfl ?_
  refine m_istore_n 2 dX7_keepsAllPlaces_1 rfl (by decide) ?_
  exact l_X7_keepsAllPlaces hG d hX h20 hM ht n 0 _ (by omega) (by omega) rfl
set_option maxHeartbeats 4000000 in
set_option maxRecDepth 100000 in
theorem c_X7_keeps (hG : m_G G) (d : Nat) {k W H : Int} {n sl m : Nat} {col row bes : Nat → Int} {wal : Nat → Bool} (hX : cX w k W H n sl m col row bes wal) {mk : Nat → Int} (h20 : w[20]? = some (cI n mk)) (hM : ∀ j, j < n → iR (mk j)) {t : Int} (ht : iR t) : m_Cv G MX7_keeps (m_r (d + 5) 0 0) [.ref 1, vI t] w (some (vB (inB t (tuN k W H) && allF (kaP sl bes mk wal (tMap k W H t col row)) n 0))) w := by
  have hXX := hX
  obtain ⟨h1, h2, h3, h4, h5, h6, h7, h8, hF, hN, hsl, hcr, hbs⟩ := hX
  have hFF := hF
  have hNN := hN
  have hnb := hF.n
  obtain ⟨hk0, hk4, hW1, hW2, hH1, hH2, hn, hg4⟩ := hF
  obtain ⟨hn1, hn2, hl1, hl2, hm, hm2⟩ := hN
  have htb := tuB (k := k) (W := W) (H := H) ⟨by omega, by omega, by omega, by omega⟩
  refine m_enter (L := [some (.ref 1), some (vI t)]) (by decide) hG (m_c1 rfl) (Nat.le_of_ble_eq_true rfl) rfl ?_
  refine m_aload_n 1 dX7_keeps_0 rfl rfl ?_
  refine m_getf 4 foX7_30 dX7_keeps_1 rfl (by first | rfl | assumption) (by rfl) ?_
  refine m_iload_n 5 dX7_keeps_4 rfl rfl ?_
  refine m_cV (M' := MX5_has) 8 [_] kX7_135 imX5_has seX5_has clX5_has dX7_keeps_5 rfl rfl rfl (by first | rfl | assumption) (m_rmI (by omega) (Nat.le_of_ble_eq_true rfl) (Nat.le_refl _) (Nat.le_refl _)) (c_X5_has hG (d + 4) h8 ⟨by omega, by omega⟩ ht) ?_
  refine b_if_eq 11 23 dX7_keeps_8 rfl (by decide) (fun q8 => ?_) (fun q8 => ?_)
  · refine i_const 24 dX7_keeps_23 rfl ?_
    refine i_retB _ dX7_keeps_24 rfl ⟨Nat.le_refl _, Nat.le_refl _⟩ ?_ ⟨rfl, rfl⟩
    refine i_eq0 ?_
    simp_all
  · refine m_aload_n 12 dX7_keeps_11 rfl rfl ?_
    refine m_iload_n 13 dX7_keeps_12 rfl rfl ?_
    refine m_cV (M' := MX7_keepsAllPlaces) 16 [_] kX7_142 imX7_keepsAllPlaces seX7_keepsAllPlaces clX7_keepsAllPlaces dX7_keeps_13 rfl rfl rfl (by first | rfl | assumption) (m_rmI (by omega) (Nat.le_of_ble_eq_true rfl) (Nat.le_refl _) (Nat.le_refl _)) (c_X7_keepsAllPlaces hG d hXX h20 hM (inB_t.mp q8)) ?_
    refine b_if_eq 19 23 dX7_keeps_16 rfl (by decide) (fun q16 => ?_) (fun q16 => ?_)
    · refine i_const 24 dX7_keeps_23 rfl ?_
      refine i_retB _ dX7_keeps_24 rfl ⟨Nat.le_refl _, Nat.le_refl _⟩ ?_ ⟨rfl, rfl⟩
      refine i_eq0 ?_
      simp_all
    · refine i_const 20 dX7_keeps_19 rfl ?_
      refine m_goto 24 dX7_keeps_20 (by decide) ?_
      refine i_retB _ dX7_keeps_24 rfl ⟨Nat.le_refl _, Nat.le_refl _⟩ ?_ ⟨rfl, rfl⟩
      refine i_eq1 ?_
      simp_all
set_option maxHeartbeats 4000000 in
set_option maxRecDepth 100000 in
theorem l_X7_keeping (hG : m_G G) (d : Nat) {k W H : Int} {n sl m : Nat} {col row bes : Nat → Int} {wal : Nat → Bool} (hX : cX w k W H n sl m col row bes wal) {mk : Nat → Int} (h20 : w[20]? = some (cI n mk)) (hM : ∀ j, j < n → iR (mk j)) {t : Int} :
    ∀ (j : Nat) (i f : Int), 0 ≤ i → i + j = tuN k W H → f + cntF (fun t => allF (kaP sl bes mk wal (tMap k W H t col row)) n 0) j i = t → m_J G MX7_keeping (m_r (d + 5) 0 0) (fun r x => r = some (some (vI t)) ∧ x = w) 0 0 4 [some (.ref 1), some (vI f), some (vI i)] [] w := by
  have hXX := hX
  obtain ⟨h1, h2, h3, h4, h5, h6, h7, h8, hF, hN, hsl, hcr, hbs⟩ := hX
  have hFF := hF
  have hNN := hN
  have hnb := hF.n
  obtain ⟨hk0, hk4, hW1, hW2, hH1, hH2, hn, hg4⟩ := hF
  obtain ⟨hn1, hn2, hl1, hl2, hm, hm2⟩ := hN
  have htb := tuB (k := k) (W := W) (H := H) ⟨by omega, by omega, by omega, by omega⟩
  intro j
  induction j with
  | zero =>
    intro i f hi0 hij ht
    refine m_iload_n 5 dX7_keeping_4 rfl rfl ?_
    refine m_aload_n 6 dX7_keeping_5 rfl rfl ?_
    refine m_getf 9 foX7_30 dX7_keeping_6 rfl (by first | rfl | assumption) (by rfl) ?_
    refine m_getf 12 foX7_145 dX7_keeping_9 rfl (by first | rfl | assumption) (by rfl) ?_
    refine i_icmp_ge 15 32 ⟨by omega, by omega⟩ ⟨by omega, by omega⟩ dX7_keeping_12 rfl (by decide) (fun _ => ?_) (fun h => absurd h (by omega))
    refine m_iload_n 33 dX7_keeping_32 rfl rfl ?_
    refine i_ret _ dX7_keeping_33 rfl ⟨Nat.le_refl _, Nat.le_refl _⟩ ?_ ⟨rfl, rfl⟩
    simp only [cntF] at ht; omega
  | succ j ih =>
    intro i f hi0 hij ht
    unfold cntF at ht
    refine m_iload_n 5 dX7_keeping_4 rfl rfl ?_
    refine m_aload_n 6 dX7_keeping_5 rfl rfl ?_
    refine m_getf 9 foX7_30 dX7_keeping_6 rfl (by first | rfl | assumption) (by rfl) ?_
    refine m_getf 12 foX7_145 dX7_keeping_9 rfl (by first | rfl | assumption) (by rfl) ?_
    refine i_icmp_ge 15 32 ⟨by omega, by omega⟩ ⟨by omega, by omega⟩ dX7_keeping_12 rfl (by decide) (fun h => absurd h (by omega)) (fun _ => ?_)
    refine m_aload_n 16 dX7_keeping_15 rfl rfl ?_
    refine m_iload_n 17 dX7_keeping_16 rfl rfl ?_
    refine m_cV (M' := MX7_keepsAllPlaces) 20 [_] kX7_142 imX7_keepsAllPlaces seX7_keepsAllPlaces clX7_keepsAllPlaces dX7_keeping_17 rfl rfl rfl (by first | rfl | assumption) (m_rmI (by omega) (Nat.le_of_ble_eq_true rfl) (Nat.le_refl _) (Nat.le_refl _)) (c_X7_keepsAllPlaces hG d hXX h20 hM ⟨by omega, by omega⟩) ?_
    refine b_if_eq 23 26 dX7_keeping_20 rfl (by decide) (fun q20 => ?_) (fun q20 => ?_)
    · refine i_inc 29 dX7_keeping_26 rfl rfl (by decide) ?_
      refine m_goto 4 dX7_keeping_29 (by decide) ?_
      refine ih _ _ (by omega) (by omega) ?_
      first
        | (rw [if_neg (by rw [q20]; decide)] at ht; omega)
        | (rw [if_pos q20] at ht; omega)
    · refine i_inc 26 dX7_keeping_23 rfl rfl (by decide) ?_
      refine i_inc 29 dX7_keeping_26 rfl rfl (by decide) ?_
      refine m_goto 4 dX7_keeping_29 (by decide) ?_
      refine ih _ _ (by omega) (by omega) ?_
      first
        | (rw [if_neg (by rw [q20]; decide)] at ht; omega)
        | (rw [if_pos q20] at ht; omega)
set_option maxHeartbeats 4000000 in
set_option maxRecDepth 100000 in
theorem c_X7_keeping (hG : m_G G) (d : Nat) {k W H : Int} {n sl m : Nat} {col row bes : Nat → Int} {wal : Nat → Bool} (hX : cX w k W H n sl m col row bes wal) {mk : Nat → Int} (h20 : w[20]? = some (cI n mk)) (hM : ∀ j, j < n → iR (mk j)) : m_Cv G MX7_keeping (m_r (d + 5) 0 0) [.ref 1] w (some (vI (cntF (fun t => allF (kaP sl bes mk wal (tMap k W H t col row)) n 0) (tuN k W H).toNat 0))) w := by
  have hXX := hX
  obtain ⟨h1, h2, h3, h4, h5, h6, h7, h8, hF, hN, hsl, hcr, hbs⟩ := hX
  have hFF := hF
  have hNN := hN
  have hnb := hF.n
  obtain ⟨hk0, hk4, hW1, hW2, hH1, hH2, hn, hg4⟩ := hF
  obtain ⟨hn1, hn2, hl1, hl2, hm, hm2⟩ := hN
  have htb := tuB (k := k) (W := W) (H := H) ⟨by omega, by omega, by omega, by omega⟩
  refine m_enter (L := [some (.ref 1), none, none]) (by decide) hG (m_c1 rfl) (Nat.le_of_ble_eq_true rfl) rfl ?_
  refine i_const 1 dX7_keeping_0 rfl ?_
  refine m_istore_n 2 dX7_keeping_1 rfl (by decide) ?_
  refine i_const 3 dX7_keeping_2 rfl ?_
  refine m_istore_n 4 dX7_keeping_3 rfl (by decide) ?_
  exact l_X7_keeping hG d hXX h20 hM (tuN k W H).toNat 0 0 (by omega) (by omega) (by omega)
end GK
end
section
/-! a search in breadth: what it comes to -/
/-- q can be come to from s in m steps -/
def rcN (nx : Nat → Nat → Prop) (A : Nat → Prop) (s : Nat) : Nat → Nat → Prop
  | 0, q => q = s
  | m + 1, q => ∃ p, rcN nx A s m p ∧ nx p q ∧ A q
def adm (n : Nat) (f : Nat → Int) : Nat → Prop := fun q => q < n ∧ f q = -1
/-- f' has, where f has -1, the steps from s; all else is as it was -/
def bfs (nx : Nat → Nat → Prop) (n : Nat) (f f' : Nat → Int) (s : Nat) : Prop :=
  ∀ q, q < n → (f q ≠ -1 → f' q = f q) ∧ (f q = -1 → (∃ m : Nat, f' q = m ∧ rcN nx (adm n f) s m q ∧ ∀ k, rcN nx (adm n f) s k q → m ≤ k) ∨ (f' q = -1 ∧ ∀ k, ¬ rcN nx (adm n f) s k q))
def cN (P : Nat → Bool) : Nat → Nat
  | 0 => 0
  | n + 1 => cN P n + if P n then 1 else 0
theorem cN_le (P : Nat → Bool) : ∀ n, cN P n ≤ n
  | 0 => Nat.le_refl 0
  | n + 1 => by
    have := cN_le P n
    unfold cN
    split <;> omega
theorem cN_lt {P : Nat → Bool} {z : Nat} (hz : P z = false) : ∀ n, z < n → cN P n < n
  | 0, h => absurd h (Nat.not_lt_zero z)
  | n + 1, h => by
    unfold cN
    by_cases hzn : z = n
    · subst hzn
      have := cN_le P z
      rw [hz]
      simp
      omega
    · have := cN_lt hz n (by omega)
      split <;> omega
theorem cN_eq {P P' : Nat → Bool} : ∀ n, (∀ q, q < n → P' q = P q) → cN P' n = cN P n
  | 0, _ => rfl
  | n + 1, h => by
    unfold cN
    rw [cN_eq n (fun q hq => h q (by omega)), h n (by omega)]
theorem cN_up {P P' : Nat → Bool} {z : Nat} (h0 : P z = false) (h1 : P' z = true) (h : ∀ q, q ≠ z → P' q = P q) : ∀ n, z < n → cN P' n = cN P n + 1
  | 0, hz => absurd hz (Nat.not_lt_zero z)
  | n + 1, hz => by
    unfold cN
    by_cases hzn : z = n
    · subst hzn
      rw [cN_eq z (fun q hq => h q (by omega)), h0, h1]
      simp
    · rw [cN_up h0 h1 h n (by omega), h n (Ne.symm hzn)]
      omega
theorem cN_0 {P : Nat → Bool} (h : ∀ q, P q = false) : ∀ n, cN P n = 0
  | 0 => rfl
  | n + 1 => by
    unfold cN
    rw [cN_0 h n, h n]
    rfl
/-- the queue's state: h are done, L were reached -/
def qI (nx : Nat → Nat → Prop) (n : Nat) (f0 : Nat → Int) (s h L : Nat) (f g : Nat → Int) : Prop :=
  1 ≤ L ∧ h ≤ L ∧ (∀ i, i < L → ∃ a : Nat, g i = a ∧ a < n ∧ f0 a = -1 ∧ 0 ≤ f a ∧ rcN nx (adm n f0) s (f a).toNat a) ∧
  (∀ q : Nat, q < n → f q ≠ f0 q → ∃ i, i < L ∧ g i = q) ∧
  (∀ i j, i ≤ j → j < L → f (g i).toNat ≤ f (g j).toNat) ∧
  (∀ i j, h ≤ i → i < L → j < L → f (g j).toNat ≤ f (g i).toNat + 1) ∧
  (∀ i, i < h → ∀ q, nx (g i).toNat q → q < n → f0 q = -1 → 0 ≤ f q ∧ f q ≤ f (g i).toNat + 1) ∧
  L = cN (fun q => f q != f0 q) n ∧ g 0 = s ∧ f s = 0
theorem qI_start {nx : Nat → Nat → Prop} {n s : Nat} {f0 g : Nat → Int} (hs : s < n) (h0 : f0 s = -1) : qI nx n f0 s 0 1 (up f0 s 0) (up g 0 (s : Int)) := by
  have hg : up g 0 (s : Int) 0 = s := up_s _ _ _
  refine ⟨Nat.le_refl 1, Nat.zero_le 1, ?_, ?_, ?_, ?_, ?_, ?_, hg, up_s _ _ _⟩
  · intro i hi
    have : i = 0 := by omega
    subst this
    exact ⟨s, hg, hs, h0, by rw [up_s]; exact Int.le_refl 0, by rw [up_s]; rfl⟩
  · intro q hq hne
    by_cases hqs : q = s
    · subst hqs; exact ⟨0, by omega, hg⟩
    · rw [up_n _ _ hqs] at hne; exact absurd rfl hne
  · intro i j hij hj
    have h1 : i = 0 := by omega
    have h2 : j = 0 := by omega
    subst h1; subst h2
    exact Int.le_refl _
  · intro i j _ hi hj
    have h1 : i = 0 := by omega
    have h2 : j = 0 := by omega
    subst h1; subst h2
    omega
  · intro i hi; omega
  · have := cN_up (P := fun q => f0 q != f0 q) (P' := fun q => up f0 s 0 q != f0 q) (z := s) (by simp) (by simp [up_s, h0]) (fun q hq => by simp [up_n _ _ hq]) n hs
    rw [this, cN_0 (fun q => by simp) n]
/-- where it ends -/
theorem qI_end {nx : Nat → Nat → Prop} {n s L : Nat} {f0 f g : Nat → Int} (hs : s < n) (h : qI nx n f0 s L L f g) : bfs nx n f0 f s := by
  obtain ⟨h1, -, h3, h4, h5, h6, h7, h8, h9, h10⟩ := h
  have key : ∀ (m q : Nat), rcN nx (adm n f0) s m q → 0 ≤ f q ∧ f q ≤ m ∧ ∃ i, i < L ∧ g i = q := by
    intro m
    induction m with
    | zero =>
      intro q hq
      have : q = s := hq
      subst this
      exact ⟨by omega, by omega, 0, by omega, h9⟩
    | succ m ih =>
      rintro q ⟨p, hp, hn, hq1, hq2⟩
      obtain ⟨p1, p2, i, hi, hgi⟩ := ih p hp
      have hgt : (g i).toNat = p := by omega
      obtain ⟨a, b⟩ := h7 i hi q (by rw [hgt]; exact hn) hq1 hq2
      rw [hgt] at b
      exact ⟨a, by omega, h4 q hq1 (by omega)⟩
  intro q hq
  constructor
  · intro hf
    by_cases hne : f q = f0 q
    · exact hne
    · obtain ⟨i, hi, hgi⟩ := h4 q hq hne
      obtain ⟨a, ha, -, ha3, -⟩ := h3 i hi
      have : a = q := by omega
      subst this
      exact absurd ha3 hf
  · intro hf
    by_cases hne : f q = f0 q
    · right
      refine ⟨by omega, fun k hk => ?_⟩
      have := key k q hk
      omega
    · left
      obtain ⟨i, hi, hgi⟩ := h4 q hq hne
      obtain ⟨a, ha, -, -, ha4, ha5⟩ := h3 i hi
      have : a = q := by omega
      subst this
      refine ⟨(f a).toNat, by omega, ha5, fun k hk => ?_⟩
      have := key k a hk
      omega
theorem qI_next {nx : Nat → Nat → Prop} {n s h L : Nat} {f0 f g : Nat → Int} (hq : qI nx n f0 s h L f g) (hh : h < L) (hp : ∀ q, nx (g h).toNat q → q < n → f0 q = -1 → 0 ≤ f q ∧ f q ≤ f (g h).toNat + 1) : qI nx n f0 s (h + 1) L f g := by
  obtain ⟨h1, h2, h3, h4, h5, h6, h7, h8, h9, h10⟩ := hq
  refine ⟨h1, hh, h3, h4, h5, fun i j a b c => h6 i j (by omega) b c, fun i hi => ?_, h8, h9, h10⟩
  by_cases hih : i = h
  · subst hih; exact hp
  · exact h7 i (by omega)
/-- an old one -/
theorem qI_old {nx : Nat → Nat → Prop} {n s h L z : Nat} {f0 f g : Nat → Int} (hq : qI nx n f0 s h L f g) (hh : h < L) (hz : z < n) (hf : f z ≠ -1) (h0 : f0 z = -1) : 0 ≤ f z ∧ f z ≤ f (g h).toNat + 1 := by
  obtain ⟨h1, h2, h3, h4, h5, h6, h7, h8, h9, h10⟩ := hq
  obtain ⟨i, hi, hgi⟩ := h4 z hz (by omega)
  obtain ⟨a, ha, -, -, ha4, -⟩ := h3 i hi
  have : a = z := by omega
  subst this
  have := h6 h i (Nat.le_refl h) hh hi
  rw [show (g i).toNat = a by omega] at this
  exact ⟨ha4, this⟩
theorem qI_f0 {nx : Nat → Nat → Prop} {n s h L z : Nat} {f0 f g : Nat → Int} (hq : qI nx n f0 s h L f g) (hz : z < n) (hf : f z = -1) : f0 z = -1 := by
  obtain ⟨h1, h2, h3, h4, -⟩ := hq
  by_cases hne : f z = f0 z
  · omega
  · obtain ⟨i, hi, hgi⟩ := h4 z hz hne
    obtain ⟨a, ha, -, -, ha4, -⟩ := h3 i hi
    have : a = z := by omega
    subst this
    omega
theorem qI_lt {nx : Nat → Nat → Prop} {n s h L z : Nat} {f0 f g : Nat → Int} (hq : qI nx n f0 s h L f g) (hz : z < n) (hf : f z = -1) : L < n := by
  have h0 := qI_f0 hq hz hf
  obtain ⟨h1, h2, h3, h4, h5, h6, h7, h8, h9, h10⟩ := hq
  rw [h8]
  exact cN_lt (z := z) (by simp [hf, h0]) n hz
theorem qI_le {nx : Nat → Nat → Prop} {n s h L : Nat} {f0 f g : Nat → Int} (hq : qI nx n f0 s h L f g) : L ≤ n := by
  rw [hq.2.2.2.2.2.2.2.1]
  exact cN_le _ n
theorem qI_at {nx : Nat → Nat → Prop} {n s h L i : Nat} {f0 f g : Nat → Int} (hq : qI nx n f0 s h L f g) (hi : i < L) : 0 ≤ g i ∧ g i < n ∧ 0 ≤ f (g i).toNat := by
  obtain ⟨a, ha, h2, -, h4, -⟩ := hq.2.2.1 i hi
  rw [ha]
  exact ⟨by omega, by omega, by simpa using h4⟩
/-- a new one -/
theorem qI_new {nx : Nat → Nat → Prop} {n s h L z : Nat} {f0 f g : Nat → Int} (hq : qI nx n f0 s h L f g) (hh : h < L) (hz : z < n) (hf : f z = -1) (hn : nx (g h).toNat z) : qI nx n f0 s h (L + 1) (up f z (f (g h).toNat + 1)) (up g L (z : Int)) := by
  have h0 := qI_f0 hq hz hf
  obtain ⟨h1, h2, h3, h4, h5, h6, h7, h8, h9, h10⟩ := hq
  have hne : ∀ i, i < L → (g i).toNat ≠ z := by
    intro i hi he
    obtain ⟨a, ha, -, -, ha4, -⟩ := h3 i hi
    have : a = z := by omega
    subst this
    omega
  have hgi : ∀ i, i < L → up g L (z : Int) i = g i := fun i hi => up_n _ _ (by omega)
  have hgL : up g L (z : Int) L = z := up_s _ _ _
  have hfi : ∀ i, i < L → up f z (f (g h).toNat + 1) (g i).toNat = f (g i).toNat := fun i hi => up_n _ _ (hne i hi)
  have hfz : up f z (f (g h).toNat + 1) z = f (g h).toNat + 1 := up_s _ _ _
  obtain ⟨ah, hah, hah2, hah3, hah4, hah5⟩ := h3 h hh
  have hgh : (g h).toNat = ah := by omega
  refine ⟨by omega, by omega, ?_, ?_, ?_, ?_, ?_, ?_, ?_, ?_⟩
  · intro i hi
    by_cases hiL : i = L
    · subst hiL
      refine ⟨z, hgL, hz, h0, by rw [hfz, hgh]; omega, ?_⟩
      rw [hfz, hgh, show (f ah + 1).toNat = (f ah).toNat + 1 by omega]
      exact ⟨ah, hah5, by rw [← hgh]; exact hn, hz, h0⟩
    · have hi' : i < L := by omega
      obtain ⟨a, ha, ha2, ha3, ha4, ha5⟩ := h3 i hi'
      have hfa : up f z (f (g h).toNat + 1) a = f a := by
        have := hfi i hi'
        rwa [show (g i).toNat = a by omega] at this
      exact ⟨a, by rw [hgi i hi']; exact ha, ha2, ha3, by rw [hfa]; exact ha4, by rw [hfa]; exact ha5⟩
  · intro q hqn hqne
    by_cases hqz : q = z
    · subst hqz; exact ⟨L, by omega, hgL⟩
    · rw [up_n _ _ hqz] at hqne
      obtain ⟨i, hi, hgq⟩ := h4 q hqn hqne
      exact ⟨i, by omega, by rw [hgi i hi]; exact hgq⟩
  · intro i j hij hj
    by_cases hjL : j = L
    · subst hjL
      rw [hgL, Int.toNat_natCast, hfz]
      by_cases hiL : i = j
      · subst hiL; rw [hgL, Int.toNat_natCast, hfz]; exact Int.le_refl _
      · rw [hgi i (by omega), hfi i (by omega)]
        exact h6 h i (Nat.le_refl h) hh (by omega)
    · rw [hgi i (by omega), hgi j (by omega), hfi i (by omega), hfi j (by omega)]
      exact h5 i j hij (by omega)
  · intro i j hi hiL hj
    by_cases hi2 : i = L
    · subst hi2
      rw [hgL, Int.toNat_natCast, hfz]
      by_cases hj2 : j = i
      · subst hj2; rw [hgL, Int.toNat_natCast, hfz]; omega
      · rw [hgi j (by omega), hfi j (by omega)]
        have := h6 h j (Nat.le_refl h) hh (by omega)
        omega
    · rw [hgi i (by omega), hfi i (by omega)]
      by_cases hj2 : j = L
      · subst hj2
        rw [hgL, Int.toNat_natCast, hfz]
        have := h5 h i hi (by omega)
        omega
      · rw [hgi j (by omega), hfi j (by omega)]
        exact h6 i j hi (by omega) (by omega)
  · intro i hi q hnq hqn hq0
    rw [hgi i (by omega)] at hnq ⊢
    rw [hfi i (by omega)]
    have := h7 i hi q hnq hqn hq0
    by_cases hqz : q = z
    · subst hqz; omega
    · rw [up_n _ _ hqz]; exact this
  · have := cN_up (P := fun q => f q != f0 q) (P' := fun q => up f z (f (g h).toNat + 1) q != f0 q) (z := z) (by simp [hf, h0]) (bne_iff_ne.mpr (by show up f z (f (g h).toNat + 1) z ≠ f0 z; rw [hfz, h0, hgh]; omega)) (fun q hq => by simp [up_n _ _ hq]) n hz
    rw [this, ← h8]
  · rw [hgi 0 (by omega)]; exact h9
  · have hs : s ≠ z := by
      intro he
      subst he
      omega
    rw [up_n _ _ hs]; exact h10
/-- two searches of one thing come to one end -/
theorem bfs_unique {nx nx' : Nat → Nat → Prop} {n s : Nat} {f f1 f2 : Nat → Int} (hx : ∀ p q, p < n → q < n → (nx p q ↔ nx' p q)) (hs : s < n) (h1 : bfs nx n f f1 s) (h2 : bfs nx' n f f2 s) : ∀ q, q < n → f1 q = f2 q := by
  have key : ∀ (m q : Nat), (rcN nx (adm n f) s m q → q < n) ∧ (rcN nx (adm n f) s m q ↔ rcN nx' (adm n f) s m q) := by
    intro m
    induction m with
    | zero => intro q; exact ⟨fun h => by have : q = s := h; omega, Iff.rfl⟩
    | succ m ih =>
      intro q
      refine ⟨fun ⟨p, _, _, hq, _⟩ => hq, ⟨fun ⟨p, hp, hn, ha⟩ => ?_, fun ⟨p, hp, hn, ha⟩ => ?_⟩⟩
      · exact ⟨p, (ih p).2.mp hp, (hx p q ((ih p).1 hp) ha.1).mp hn, ha⟩
      · have hp' := (ih p).2.mpr hp
        exact ⟨p, hp', (hx p q ((ih p).1 hp') ha.1).mpr hn, ha⟩
  intro q hq
  obtain ⟨a1, a2⟩ := h1 q hq
  obtain ⟨b1, b2⟩ := h2 q hq
  by_cases hf : f q = -1
  · rcases a2 hf with ⟨m, m1, m2, m3⟩ | ⟨m1, m2⟩ <;> rcases b2 hf with ⟨k, k1, k2, k3⟩ | ⟨k1, k2⟩
    · have e1 := m3 k ((key k q).2.mpr k2)
      have e2 := k3 m ((key m q).2.mp m2)
      omega
    · exact absurd ((key m q).2.mp m2) (k2 m)
    · exact absurd ((key k q).2.mpr k2) (m2 k)
    · omega
  · rw [a1 hf, b1 hf]
end
section
/-! Walk: the spreading, the parts; far, parts, without -/
section WS
variable {G : mG} {w : List mC}
theorem m_cVr {G : mG} {M M' : mM} {R R' : Room} {Q Q' : Option (Option Value) → List mC → Prop} {nc ns pc : Nat} {L : List (Option Value)} {st : List Value} {w : List mC} (pc' : Nat) {idx n i ci N : Nat} {T0 : u_T} {fs : List Value} (av : List Value) (hk : Cond.methodLink M.1.cls idx M'.1 ∈ lw_tbl) (hi : Cond.instanceMethod M'.1 ∈ lw_tbl) (hse : Cond.selects M'.1.cls M'.1 M'.1 ∈ lw_tbl) (hcl : m_cl M' n) (hd : decode M.2.1 pc = .ok (.invokevirtual idx, 3)) (hp : pc + 3 = pc') (hn : av.length = n) (hc : mCl[ci]? = some (M'.1.cls, T0, N)) (hw : w[i]? = some (mO ci fs)) (hrm : m_rm R R' M' nc ns st) (hM : m_Ct G M' R' (.ref i :: av) w Q') (ht : ∀ w', ¬ Q' none w')
    (kk : ∀ (v : Option Value) (w' : List mC), Q' (some v) w' → m_J G M R Q (nc + R'.cells) (ns + R'.slots) pc' L (v.toList ++ st) w') : m_J G M R Q nc ns pc L (av.reverse ++ .ref i :: st) w := by
  subst hp
  exact m_invV hk hi hse hcl hd hn hc hw hrm hM kk (fun w2 h => absurd h (ht w2))
/-- q is next to p, by the net -/
def nxC (sl : Nat) (bes : Nat → Int) (wal : Nat → Bool) (p q : Nat) : Prop := ∃ s : Int, 0 ≤ s ∧ s < sl ∧ oAt sl bes wal p s = q
theorem cX.keep {w' : List mC} {k W H : Int} {n sl m : Nat} {col row bes : Nat → Int} {wal : Nat → Bool} (h : cX w k W H n sl m col row bes wal) (hw : ∀ i, i < 9 → w'[i]? = w[i]?) : cX w' k W H n sl m col row bes wal := by
  obtain ⟨h1, h2, h3, h4, h5, h6, h7, h8, h9⟩ := h
  exact ⟨(hw 1 (by decide)).trans h1, (hw 2 (by decide)).trans h2, (hw 3 (by decide)).trans h3, (hw 4 (by decide)).trans h4, (hw 5 (by decide)).trans h5, (hw 6 (by decide)).trans h6, (hw 7 (by decide)).trans h7, (hw 8 (by decide)).trans h8, h9⟩
theorem cX.wW {k W H : Int} {n sl m : Nat} {col row bes : Nat → Int} {wal : Nat → Bool} (h : cX w k W H n sl m col row bes wal) (a b c : mC) : cX (wW w a b c) k W H n sl m col row bes wal := h.keep fun i hi => wW_n (by omega) (by omega) (by omega)
/-- the numbers are small -/
def qB (n L : Nat) (f0 f g : Nat → Int) : Prop := (∀ i, i < L → f (g i).toNat ≤ i) ∧ ∀ q, q < n → -2 ≤ f0 q ∧ f0 q ≤ n
theorem qB_r {nx : Nat → Nat → Prop} {n s h L : Nat} {f0 f g : Nat → Int} (hq : qI nx n f0 s h L f g) (hb : qB n L f0 f g) : ∀ q, q < n → -2 ≤ f q ∧ f q ≤ n := by
  intro q hqn
  by_cases hne : f q = f0 q
  · rw [hne]; exact hb.2 q hqn
  · obtain ⟨i, hi, hgi⟩ := hq.2.2.2.1 q hqn hne
    have a := hb.1 i hi
    have b := qI_at hq hi
    have c := qI_le hq
    rw [show (g i).toNat = q by omega] at a b
    omega
theorem qB_new {nx : Nat → Nat → Prop} {n s h L z : Nat} {f0 f g : Nat → Int} (hq : qI nx n f0 s h L f g) (hb : qB n L f0 f g) (hh : h < L) (hf : f z = -1) : qB n (L + 1) f0 (up f z (f (g h).toNat + 1)) (up g L (z : Int)) := by
  refine ⟨fun i hi => ?_, hb.2⟩
  by_cases hiL : i = L
  · subst hiL
    rw [up_s, Int.toNat_natCast, up_s]
    have := hb.1 h hh
    omega
  · rw [up_n _ _ hiL]
    have hne : (g i).toNat ≠ z := by
      intro he
      have := qI_at hq (show i < L by omega)
      rw [he] at this
      omega
    rw [up_n _ _ hne]
    exact hb.1 i (by omega)

set_option maxHeartbeats 4000000 in
set_option maxRecDepth 100000 in
theorem l_X6_spreadI (hG : m_G G) (d : Nat) {k W H : Int} {n sl m : Nat} {col row bes : Nat → Int} {wal : Nat → Bool} (hX : cX w k W H n sl m col row bes wal) {f0 : Nat → Int} {s : Nat} (hs : s < n) (h9 : w[9]? = some oWalk) (hw : 12 < w.length) {h : Nat} {x1 : Option Value} {Q : Option (Option Value) → List mC → Prop}
    (kk : ∀ (L : Nat) (f g : Nat → Int) (x3 x4 : Option Value), qI (nxC sl bes wal) n f0 s (h + 1) L f g → qB n L f0 f g → m_J G MX6_spreadFrom (m_r (d + 3) 0 0) Q 0 0 15 [some (.ref 9), x1, some (vI ((h : Int) + 1)), x3, x4] [] (wW w (cI n f) (oRow 12 (L : Int)) (cI n g))) :
    ∀ (j : Nat) (c : Int) (L : Nat) (f g : Nat → Int), 0 ≤ c → c + j = sl → qI (nxC sl bes wal) n f0 s h L f g → qB n L f0 f g → h < L → (∀ c' : Int, 0 ≤ c' → c' < c → ∀ q : Nat, oAt sl bes wal (g h) c' = q → q < n → f0 q = -1 → 0 ≤ f q ∧ f q ≤ f (g h).toNat + 1) → m_J G MX6_spreadFrom (m_r (d + 3) 0 0) Q 0 0 47 [some (.ref 9), x1, some (vI h), some (vI (g h)), some (vI c)] [] (wW w (cI n f) (oRow 12 (L : Int)) (cI n g)) := by
  have hXX := hX
  obtain ⟨h1, h2, h3, h4, h5, h6, h7, h8, hF, hN, hsl, hcr, hbs⟩ := hX
  have hFF := hF
  have hNN := hN
  have hnb := hF.n
  obtain ⟨hk0, hk4, hW1, hW2, hH1, hH2, hn, hg4⟩ := hF
  obtain ⟨hn1, hn2, hl1, hl2, hm, hm2⟩ := hN
  intro j
  induction j with
  | zero =>
    intro c L f g hc0 hcj hq hb hhL hpt
    have hat := qI_at hq hhL
    have b9 : (wW w (cI n f) (oRow 12 (L : Int)) (cI n g))[9]? = some oWalk := by rw [wW_n (by decide) (by decide) (by decide)]; exact h9
    have b10 : (wW w (cI n f) (oRow 12 (L : Int)) (cI n g))[10]? = some (cI n f) := wW_a hw
    have b11 : (wW w (cI n f) (oRow 12 (L : Int)) (cI n g))[11]? = some (oRow 12 (L : Int)) := wW_b hw
    have b12 : (wW w (cI n f) (oRow 12 (L : Int)) (cI n g))[12]? = some (cI n g) := wW_c hw
    have bX := hXX.wW (cI n f) (oRow 12 (L : Int)) (cI n g)
    have b5 : (wW w (cI n f) (oRow 12 (L : Int)) (cI n g))[5]? = some (oNet n sl) := bX.2.2.2.2.1
    have b6 : (wW w (cI n f) (oRow 12 (L : Int)) (cI n g))[6]? = some (cI m bes) := bX.2.2.2.2.2.1
    have b7 : (wW w (cI n f) (oRow 12 (L : Int)) (cI n g))[7]? = some (cZ m wal) := bX.2.2.2.2.2.2.1
    refine m_iload 49 dX6_spreadFrom_47 rfl rfl ?_
    refine m_aload_n 50 dX6_spreadFrom_49 rfl rfl ?_
    refine m_getf 53 foX6_7 dX6_spreadFrom_50 rfl (by first | rfl | assumption) (by rfl) ?_
    refine m_getf 56 foX6_50 dX6_spreadFrom_53 rfl (by first | rfl | assumption) (by rfl) ?_
    refine i_icmp_ge 59 86 ⟨by omega, by omega⟩ ⟨by omega, by omega⟩ dX6_spreadFrom_56 rfl (by decide) (fun _ => ?_) (fun h => absurd h (by omega))
    refine i_inc 89 dX6_spreadFrom_86 rfl rfl (by decide) ?_
    refine m_goto 15 dX6_spreadFrom_89 (by decide) ?_
    refine kk _ _ _ _ _ (qI_next hq hhL (fun q hnq hqn hq0 => ?_)) hb
    obtain ⟨c', a1, a2, a3⟩ := hnq
    rw [Int.toNat_of_nonneg hat.1] at a3
    exact hpt c' a1 (by omega) q a3 hqn hq0
  | succ j ih =>
    intro c L f g hc0 hcj hq hb hhL hpt
    have hat := qI_at hq hhL
    have hLn := qI_le hq
    have hrg := qB_r hq hb
    have hs2 : 0 ≤ c ∧ c < (sl : Int) := by omega
    have hor := hXX.oat (p := g h) ⟨hat.1, hat.2.1⟩ hs2.1 hs2.2
    have b9 : (wW w (cI n f) (oRow 12 (L : Int)) (cI n g))[9]? = some oWalk := by rw [wW_n (by decide) (by decide) (by decide)]; exact h9
    have b10 : (wW w (cI n f) (oRow 12 (L : Int)) (cI n g))[10]? = some (cI n f) := wW_a hw
    have b11 : (wW w (cI n f) (oRow 12 (L : Int)) (cI n g))[11]? = some (oRow 12 (L : Int)) := wW_b hw
    have b12 : (wW w (cI n f) (oRow 12 (L : Int)) (cI n g))[12]? = some (cI n g) := wW_c hw
    have bX := hXX.wW (cI n f) (oRow 12 (L : Int)) (cI n g)
    have b5 : (wW w (cI n f) (oRow 12 (L : Int)) (cI n g))[5]? = some (oNet n sl) := bX.2.2.2.2.1
    have b6 : (wW w (cI n f) (oRow 12 (L : Int)) (cI n g))[6]? = some (cI m bes) := bX.2.2.2.2.2.1
    have b7 : (wW w (cI n f) (oRow 12 (L : Int)) (cI n g))[7]? = some (cZ m wal) := bX.2.2.2.2.2.2.1
    refine m_iload 49 dX6_spreadFrom_47 rfl rfl ?_
    refine m_aload_n 50 dX6_spreadFrom_49 rfl rfl ?_
    refine m_getf 53 foX6_7 dX6_spreadFrom_50 rfl (by first | rfl | assumption) (by rfl) ?_
    refine m_getf 56 foX6_50 dX6_spreadFrom_53 rfl (by first | rfl | assumption) (by rfl) ?_
    refine i_icmp_ge 59 86 ⟨by omega, by omega⟩ ⟨by omega, by omega⟩ dX6_spreadFrom_56 rfl (by decide) (fun h => absurd h (by omega)) (fun _ => ?_)
    refine m_aload_n 60 dX6_spreadFrom_59 rfl rfl ?_
    refine m_aload_n 61 dX6_spreadFrom_60 rfl rfl ?_
    refine m_getf 64 foX6_7 dX6_spreadFrom_61 rfl (by first | rfl | assumption) (by rfl) ?_
    refine m_iload_n 65 dX6_spreadFrom_64 rfl rfl ?_
    refine m_iload 67 dX6_spreadFrom_65 rfl rfl ?_
    refine m_cV (M' := MX2_openAt) 70 [_, _] kX6_55 imX2_openAt seX2_openAt clX2_openAt dX6_spreadFrom_67 rfl rfl rfl (by first | rfl | assumption) (m_rmI (by omega) (Nat.le_of_ble_eq_true rfl) (Nat.le_refl _) (Nat.le_refl _)) (c_X2_openAt hG d b5 hNN b6 b7 ⟨hat.1, hat.2.1⟩ hs2) ?_
    refine m_aload_n 71 dX6_spreadFrom_70 rfl rfl ?_
    refine m_iload_n 72 dX6_spreadFrom_71 rfl rfl ?_
    refine m_cV (M' := MX6_stepsTo) 75 [_] kX6_59 imX6_stepsTo seX6_stepsTo clX6_stepsTo dX6_spreadFrom_72 rfl rfl rfl (by first | rfl | assumption) (m_rmI (by omega) (Nat.le_of_ble_eq_true rfl) (Nat.le_refl _) (Nat.le_refl _)) (c_X6_stepsTo hG (d + 2) (by omega) ⟨hat.1, hat.2.1⟩ b9 b10) ?_
    refine i_const 76 dX6_spreadFrom_75 rfl ?_
    refine i_add 77 dX6_spreadFrom_76 rfl ?_
    by_cases hz : 0 ≤ oAt sl bes wal (g h) c ∧ f (oAt sl bes wal (g h) c).toNat = -1
    · have hLt := qI_lt hq (z := (oAt sl bes wal (g h) c).toNat) (by omega) hz.2
      refine m_cV (M' := MX6_reach) 80 [_, _] kX6_38 imX6_reach seX6_reach clX6_reach dX6_spreadFrom_77 rfl rfl rfl (by first | rfl | assumption) (m_rmI (by omega) (Nat.le_of_ble_eq_true rfl) (Nat.le_refl _) (Nat.le_refl _)) (c_X6_reachY hG (d + 1) (by omega) ⟨by omega, by omega⟩ hz.2 ⟨by omega, by omega⟩ hw h9) ?_
      refine i_inc 83 dX6_spreadFrom_80 rfl rfl (by decide) ?_
      refine m_goto 47 dX6_spreadFrom_83 (by decide) ?_
      have e1 : ((L : Int)).toNat = L := Int.toNat_natCast L
      have e2 : (((oAt sl bes wal (g h) c).toNat : Nat) : Int) = oAt sl bes wal (g h) c := Int.toNat_of_nonneg hz.1
      have e3 : ((L + 1 : Nat) : Int) = (L : Int) + 1 := by omega
      have hnx : nxC sl bes wal (g h).toNat (oAt sl bes wal (g h) c).toNat := ⟨c, hs2.1, hs2.2, by rw [e2, Int.toNat_of_nonneg hat.1]⟩
      have n1 := qI_new hq hhL (z := (oAt sl bes wal (g h) c).toNat) (by omega) hz.2 hnx
      have n2 := qB_new hq hb hhL hz.2
      rw [e2] at n1 n2
      have hgh : up g L (oAt sl bes wal (g h) c) h = g h := up_n _ _ (by omega)
      have hfh : up f (oAt sl bes wal (g h) c).toNat (f (g h).toNat + 1) (g h).toNat = f (g h).toNat := by
        refine up_n _ _ (fun he => ?_)
        have := hz.2
        rw [← he] at this
        omega
      have e4 := ih (c + 1) _ _ _ (by omega) (by omega) n1 n2 (by omega) (fun c' hc1 hc2 q hoq hqn hq0 => ?_)
      · rw [hgh] at e4
        rw [e1, ← e3]
        exact e4
      · rw [hgh] at hoq ⊢
        rw [hfh]
        by_cases hcc : c' = c
        · subst hcc
          rw [show q = (oAt sl bes wal (g h) c').toNat by omega, up_s]
          omega
        · have p1 := hpt c' hc1 (by omega) q hoq hqn hq0
          by_cases hqz : q = (oAt sl bes wal (g h) c).toNat
          · rw [hqz] at p1; omega
          · rw [up_n _ _ hqz]; exact p1
    · refine m_cV (M' := MX6_reach) 80 [_, _] kX6_38 imX6_reach seX6_reach clX6_reach dX6_spreadFrom_77 rfl rfl rfl (by first | rfl | assumption) (m_rmI (by omega) (Nat.le_of_ble_eq_true rfl) (Nat.le_refl _) (Nat.le_refl _)) (c_X6_reachN hG (d + 1) (by omega) ⟨by omega, by omega⟩ (fun hz0 => ⟨⟨by have := hrg (oAt sl bes wal (g h) c).toNat (by omega); omega, by have := hrg (oAt sl bes wal (g h) c).toNat (by omega); omega⟩, fun he => hz ⟨hz0, he⟩⟩) b9 b10) ?_
      refine i_inc 83 dX6_spreadFrom_80 rfl rfl (by decide) ?_
      refine m_goto 47 dX6_spreadFrom_83 (by decide) ?_
      refine ih (c + 1) _ _ _ (by omega) (by omega) hq hb hhL (fun c' hc1 hc2 q hoq hqn hq0 => ?_)
      by_cases hcc : c' = c
      · subst hcc
        have e5 : (oAt sl bes wal (g h) c').toNat = q := by omega
        refine qI_old hq hhL hqn (fun he => hz ⟨by omega, by rw [e5]; exact he⟩) hq0
      · exact hpt c' hc1 (by omega) q hoq hqn hq0
set_option maxHeartbeats 4000000 in
set_option maxRecDepth 100000 in
theorem l_X6_spreadO (hG : m_G G) (d : Nat) {k W H : Int} {n sl m : Nat} {col row bes : Nat → Int} {wal : Nat → Bool} (hX : cX w k W H n sl m col row bes wal) {f0 : Nat → Int} {s : Nat} (hs : s < n) (h9 : w[9]? = some oWalk) (hw : 12 < w.length) {x1 : Option Value} {Q : Option (Option Value) → List mC → Prop}
    (kr : ∀ (L : Nat) (f g : Nat → Int), bfs (nxC sl bes wal) n f0 f s → (∀ q, q < n → -2 ≤ f q ∧ f q ≤ n) → Q (some none) (wW w (cI n f) (oRow 12 (L : Int)) (cI n g))) :
    ∀ (j h L : Nat) (f g : Nat → Int) (x3 x4 : Option Value), h + j = n → qI (nxC sl bes wal) n f0 s h L f g → qB n L f0 f g → m_J G MX6_spreadFrom (m_r (d + 3) 0 0) Q 0 0 15 [some (.ref 9), x1, some (vI h), x3, x4] [] (wW w (cI n f) (oRow 12 (L : Int)) (cI n g)) := by
  have hXX := hX
  obtain ⟨h1, h2, h3, h4, h5, h6, h7, h8, hF, hN, hsl, hcr, hbs⟩ := hX
  have hFF := hF
  have hNN := hN
  have hnb := hF.n
  obtain ⟨hk0, hk4, hW1, hW2, hH1, hH2, hn, hg4⟩ := hF
  obtain ⟨hn1, hn2, hl1, hl2, hm, hm2⟩ := hN
  intro j
  induction j with
  | zero =>
    intro h L f g x3 x4 hhj hq hb
    have hLn := qI_le hq
    have hhL := hq.2.1
    have hE : h = L := by omega
    subst hE
    have hrg := qB_r hq hb
    have b9 : (wW w (cI n f) (oRow 12 (h : Int)) (cI n g))[9]? = some oWalk := by rw [wW_n (by decide) (by decide) (by decide)]; exact h9
    have b10 : (wW w (cI n f) (oRow 12 (h : Int)) (cI n g))[10]? = some (cI n f) := wW_a hw
    have b11 : (wW w (cI n f) (oRow 12 (h : Int)) (cI n g))[11]? = some (oRow 12 (h : Int)) := wW_b hw
    have b12 : (wW w (cI n f) (oRow 12 (h : Int)) (cI n g))[12]? = some (cI n g) := wW_c hw
    have bX := hXX.wW (cI n f) (oRow 12 (h : Int)) (cI n g)
    have b5 : (wW w (cI n f) (oRow 12 (h : Int)) (cI n g))[5]? = some (oNet n sl) := bX.2.2.2.2.1
    have b6 : (wW w (cI n f) (oRow 12 (h : Int)) (cI n g))[6]? = some (cI m bes) := bX.2.2.2.2.2.1
    have b7 : (wW w (cI n f) (oRow 12 (h : Int)) (cI n g))[7]? = some (cZ m wal) := bX.2.2.2.2.2.2.1
    refine m_iload_n 16 dX6_spreadFrom_15 rfl rfl ?_
    refine m_aload_n 17 dX6_spreadFrom_16 rfl rfl ?_
    refine m_getf 20 foX6_19 dX6_spreadFrom_17 rfl (by first | rfl | assumption) (by rfl) ?_
    refine i_len 21 dX6_spreadFrom_20 rfl (by first | rfl | assumption) ?_
    refine i_icmp_ge 24 92 ⟨by omega, by omega⟩ ⟨by omega, by omega⟩ dX6_spreadFrom_21 rfl (by decide) (fun _ => ?_) (fun h => absurd h (by omega))
    refine m_vret dX6_spreadFrom_92 rfl ⟨Nat.le_refl _, Nat.le_refl _⟩ ?_
    exact kr _ _ _ (qI_end hs hq) hrg
  | succ j ih =>
    intro h L f g x3 x4 hhj hq hb
    have hLn := qI_le hq
    have hhl := hq.2.1
    have hrg := qB_r hq hb
    have b9 : (wW w (cI n f) (oRow 12 (L : Int)) (cI n g))[9]? = some oWalk := by rw [wW_n (by decide) (by decide) (by decide)]; exact h9
    have b10 : (wW w (cI n f) (oRow 12 (L : Int)) (cI n g))[10]? = some (cI n f) := wW_a hw
    have b11 : (wW w (cI n f) (oRow 12 (L : Int)) (cI n g))[11]? = some (oRow 12 (L : Int)) := wW_b hw
    have b12 : (wW w (cI n f) (oRow 12 (L : Int)) (cI n g))[12]? = some (cI n g) := wW_c hw
    have bX := hXX.wW (cI n f) (oRow 12 (L : Int)) (cI n g)
    have b5 : (wW w (cI n f) (oRow 12 (L : Int)) (cI n g))[5]? = some (oNet n sl) := bX.2.2.2.2.1
    have b6 : (wW w (cI n f) (oRow 12 (L : Int)) (cI n g))[6]? = some (cI m bes) := bX.2.2.2.2.2.1
    have b7 : (wW w (cI n f) (oRow 12 (L : Int)) (cI n g))[7]? = some (cZ m wal) := bX.2.2.2.2.2.2.1
    refine m_iload_n 16 dX6_spreadFrom_15 rfl rfl ?_
    refine m_aload_n 17 dX6_spreadFrom_16 rfl rfl ?_
    refine m_getf 20 foX6_19 dX6_spreadFrom_17 rfl (by first | rfl | assumption) (by rfl) ?_
    refine i_len 21 dX6_spreadFrom_20 rfl (by first | rfl | assumption) ?_
    refine i_icmp_ge 24 92 ⟨by omega, by omega⟩ ⟨by omega, by omega⟩ dX6_spreadFrom_21 rfl (by decide) (fun h => absurd h (by omega)) (fun _ => ?_)
    refine m_iload_n 25 dX6_spreadFrom_24 rfl rfl ?_
    refine m_aload_n 26 dX6_spreadFrom_25 rfl rfl ?_
    refine m_getf 29 foX6_28 dX6_spreadFrom_26 rfl (by first | rfl | assumption) (by rfl) ?_
    refine m_cV (M' := MX3_length) 32 [] kX6_42 imX3_length seX3_length clX3_length dX6_spreadFrom_29 rfl rfl rfl (by first | rfl | assumption) (m_rmI (by omega) (Nat.le_of_ble_eq_true rfl) (Nat.le_refl _) (Nat.le_refl _)) (c_X3_length hG (d + 2) b11) ?_
    refine i_icmp_ge 35 92 ⟨by omega, by omega⟩ ⟨by omega, by omega⟩ dX6_spreadFrom_32 rfl (by decide) (fun q32 => ?_) (fun q32 => ?_)
    · refine m_vret dX6_spreadFrom_92 rfl ⟨Nat.le_refl _, Nat.le_refl _⟩ ?_
      have hE : h = L := by omega
      subst hE
      exact kr _ _ _ (qI_end hs hq) hrg
    · refine m_aload_n 36 dX6_spreadFrom_35 rfl rfl ?_
      refine m_getf 39 foX6_28 dX6_spreadFrom_36 rfl (by first | rfl | assumption) (by rfl) ?_
      refine m_iload_n 40 dX6_spreadFrom_39 rfl rfl ?_
      refine m_cV (M' := MX3_at) 43 [_] kX6_46 imX3_at seX3_at clX3_at dX6_spreadFrom_40 rfl rfl rfl (by first | rfl | assumption) (m_rmI (by omega) (Nat.le_of_ble_eq_true rfl) (Nat.le_refl _) (Nat.le_refl _)) (c_X3_at hG (d + 2) b11 b12 ⟨by omega, by omega⟩ ⟨by omega, by omega⟩ (by omega)) ?_
      have e0 : rAt n (L : Int) g (h : Int) = g h := by
        unfold rAt
        rw [if_pos ⟨by omega, by omega, by omega⟩, Int.toNat_natCast]
      rw [e0]
      refine m_istore_n 44 dX6_spreadFrom_43 rfl (by decide) ?_
      refine i_const 45 dX6_spreadFrom_44 rfl ?_
      refine m_istore 47 dX6_spreadFrom_45 rfl (by decide) ?_
      refine l_X6_spreadI hG d hXX hs h9 hw (fun L f g x3 x4 q1 q2 => ?_) sl 0 L f g (by omega) (by omega) hq hb (by omega) (fun c' a b => by omega)
      exact ih (h + 1) L f g _ _ (by omega) q1 q2
set_option maxHeartbeats 4000000 in
set_option maxRecDepth 100000 in
theorem c_X6_spreadFrom (hG : m_G G) (d : Nat) {k W H : Int} {n sl m : Nat} {col row bes : Nat → Int} {wal : Nat → Bool} (hX : cX w k W H n sl m col row bes wal) {f0 : Nat → Int} {s : Nat} (hs : s < n) (h9 : w[9]? = some oWalk) (hw : 12 < w.length) {l0 : Int} {g0 : Nat → Int} (h10 : w[10]? = some (cI n f0)) (h11 : w[11]? = some (oRow 12 l0)) (h12 : w[12]? = some (cI n g0)) (hf : f0 s = -1) (hr : ∀ q, q < n → -2 ≤ f0 q ∧ f0 q ≤ n) : m_Ct G MX6_spreadFrom (m_r (d + 3) 0 0) [.ref 9, vI (s : Int)] w (fun r x => r = some none ∧ ∃ (L : Nat) (f g : Nat → Int), bfs (nxC sl bes wal) n f0 f s ∧ (∀ q, q < n → -2 ≤ f q ∧ f q ≤ n) ∧ x = (wW w (cI n f) (oRow 12 (L : Int)) (cI n g))) := by
  have hXX := hX
  obtain ⟨h1, h2, h3, h4, h5, h6, h7, h8, hF, hN, hsl, hcr, hbs⟩ := hX
  have hFF := hF
  have hNN := hN
  have hnb := hF.n
  obtain ⟨hk0, hk4, hW1, hW2, hH1, hH2, hn, hg4⟩ := hF
  obtain ⟨hn1, hn2, hl1, hl2, hm, hm2⟩ := hN
  have c0 : w.set 11 (oRow 12 0) = wW w (cI n f0) (oRow 12 0) (cI n g0) := by
    unfold wW
    rw [set_get h10, List.set_comm _ _ (by decide : (11 : Nat) ≠ 12), set_get h12]
  have c9 : (wW w (cI n f0) (oRow 12 0) (cI n g0))[9]? = some oWalk := by rw [wW_n (by decide) (by decide) (by decide)]; exact h9
  have e1 : ((s : Int)).toNat = s := Int.toNat_natCast s
  have hb0 : qB n 1 f0 (up f0 s 0) (up g0 0 (s : Int)) := ⟨fun i hi => by rw [show i = 0 by omega, up_s, Int.toNat_natCast, up_s]; omega, hr⟩
  refine m_enter (L := [some (.ref 9), some (vI (s : Int)), none, none, none]) (by decide) hG (m_c1 rfl) (Nat.le_of_ble_eq_true rfl) rfl ?_
  refine m_aload_n 1 dX6_spreadFrom_0 rfl rfl ?_
  refine m_getf 4 foX6_28 dX6_spreadFrom_1 rfl (by first | rfl | assumption) (by rfl) ?_
  refine m_cV (M' := MX3_clear) 7 [] kX6_35 imX3_clear seX3_clear clX3_clear dX6_spreadFrom_4 rfl rfl rfl (by first | rfl | assumption) (m_rmI (by omega) (Nat.le_of_ble_eq_true rfl) (Nat.le_refl _) (Nat.le_refl _)) (c_X3_clear (i := 10) hG (d + 2) h11) ?_
  rw [c0]
  refine m_aload_n 8 dX6_spreadFrom_7 rfl rfl ?_
  refine m_iload_n 9 dX6_spreadFrom_8 rfl rfl ?_
  refine i_const 10 dX6_spreadFrom_9 rfl ?_
  refine m_cV (M' := MX6_reach) 13 [_, _] kX6_38 imX6_reach seX6_reach clX6_reach dX6_spreadFrom_10 rfl rfl rfl (by first | rfl | assumption) (m_rmI (by omega) (Nat.le_of_ble_eq_true rfl) (Nat.le_refl _) (Nat.le_refl _)) (c_X6_reachY hG (d + 1) (by omega) ⟨by omega, by omega⟩ (by rw [e1]; exact hf) ⟨by omega, by omega⟩ hw h9) ?_
  refine i_const 14 dX6_spreadFrom_13 rfl ?_
  refine m_istore_n 15 dX6_spreadFrom_14 rfl (by decide) ?_
  rw [e1]
  exact l_X6_spreadO hG d hXX hs h9 hw (fun L f g b1 b2 => ⟨rfl, L, f, g, b1, b2, rfl⟩) n 0 1 _ _ _ _ (by omega) (qI_start hs hf) hb0
end WS
end
section
/-! how many parts -/
section PT
variable {G : mG} {w : List mC}
def cpR (nx : Nat → Nat → Prop) (n : Nat) : Nat → Nat → (Nat → Prop) → Int → Prop
  | 0, _, _, c => c = 0
  | k + 1, p, A, c => (A p → ∃ (A' : Nat → Prop) (c' : Int), (∀ q, q < n → (A' q ↔ A q ∧ ∀ k, ¬ rcN nx (fun q => q < n ∧ A q) p k q)) ∧ cpR nx n k (p + 1) A' c' ∧ c = c' + 1) ∧ (¬ A p → cpR nx n k (p + 1) A c)
theorem rcN_congr {nx nx' : Nat → Nat → Prop} {A A' : Nat → Prop} {n s : Nat} (hs : s < n) (hA : ∀ q, A q → q < n) (hAA : ∀ q, A q ↔ A' q) (hx : ∀ p q, p < n → q < n → (nx p q ↔ nx' p q)) : ∀ (m q : Nat), (rcN nx A s m q → q < n) ∧ (rcN nx A s m q ↔ rcN nx' A' s m q) := by
  intro m
  induction m with
  | zero => intro q; exact ⟨fun h => by have : q = s := h; omega, Iff.rfl⟩
  | succ m ih =>
    intro q
    refine ⟨fun ⟨p, _, _, ha⟩ => hA q ha, ⟨fun ⟨p, hp, hn, ha⟩ => ?_, fun ⟨p, hp, hn, ha⟩ => ?_⟩⟩
    · exact ⟨p, (ih p).2.mp hp, (hx p q ((ih p).1 hp) (hA q ha)).mp hn, (hAA q).mp ha⟩
    · have hp' := (ih p).2.mpr hp
      have ha' := (hAA q).mpr ha
      exact ⟨p, hp', (hx p q ((ih p).1 hp') (hA q ha')).mpr hn, ha'⟩
theorem cpR_unique {nx nx' : Nat → Nat → Prop} {n : Nat} (hx : ∀ p q, p < n → q < n → (nx p q ↔ nx' p q)) : ∀ (k p : Nat) (A A' : Nat → Prop) (c c' : Int), p + k = n → (∀ q, q < n → (A q ↔ A' q)) → cpR nx n k p A c → cpR nx' n k p A' c' → c = c' := by
  intro k
  induction k with
  | zero =>
    intro p A A' c c' _ _ h1 h2
    have e1 : c = 0 := h1
    have e2 : c' = 0 := h2
    omega
  | succ k ih =>
    intro p A A' c c' hpk hAA h1 h2
    have hpn : p < n := by omega
    by_cases hp : A p
    · obtain ⟨B, b, hB, hb, rfl⟩ := h1.1 hp
      obtain ⟨B', b', hB', hb', rfl⟩ := h2.1 ((hAA p hpn).mp hp)
      have e := ih (p + 1) B B' b b' (by omega) (fun q hq => ?_) hb hb'
      · rw [e]
      · rw [hB q hq, hB' q hq, hAA q hq]
        have cg := rcN_congr (nx := nx) (nx' := nx') (A := fun q => q < n ∧ A q) (A' := fun q => q < n ∧ A' q) hpn (fun q h => h.1) (fun q => ⟨fun h => ⟨h.1, (hAA q h.1).mp h.2⟩, fun h => ⟨h.1, (hAA q h.1).mpr h.2⟩⟩) hx
        constructor
        · exact fun h => ⟨h.1, fun m hm => h.2 m ((cg m q).2.mpr hm)⟩
        · exact fun h => ⟨h.1, fun m hm => h.2 m ((cg m q).2.mp hm)⟩
    · exact ih (p + 1) A A' c c' (by omega) hAA (h1.2 hp) (h2.2 (fun h => hp ((hAA p hpn).mpr h)))
theorem bfs_free {nx : Nat → Nat → Prop} {n s : Nat} {f f' : Nat → Int} (h : bfs nx n f f' s) : ∀ q, q < n → (f' q = -1 ↔ f q = -1 ∧ ∀ k, ¬ rcN nx (fun q => q < n ∧ f q = -1) s k q) := by
  intro q hq
  obtain ⟨h1, h2⟩ := h q hq
  constructor
  · intro hf
    by_cases h0 : f q = -1
    · rcases h2 h0 with ⟨m, m1, -, -⟩ | ⟨-, m2⟩
      · omega
      · exact ⟨h0, m2⟩
    · rw [h1 h0] at hf; exact absurd hf h0
  · rintro ⟨h0, hk⟩
    rcases h2 h0 with ⟨m, -, m2, -⟩ | ⟨m1, -⟩
    · exact absurd m2 (hk m)
    · exact m1
theorem bfs_from {nx : Nat → Nat → Prop} {n s : Nat} {f f2 f' : Nat → Int} (h : bfs nx n f f' s) (he : ∀ q, q < n → f q = f2 q) : bfs nx n f2 f' s := by
  have e : adm n f = adm n f2 := by
    funext q
    exact propext ⟨fun h => ⟨h.1, by rw [← he q h.1]; exact h.2⟩, fun h => ⟨h.1, by rw [he q h.1]; exact h.2⟩⟩
  intro q hq
  have := h q hq
  rw [e, he q hq] at this
  exact this
theorem cpR_ext {nx : Nat → Nat → Prop} {n : Nat} {A A' : Nat → Prop} (h : ∀ q, q < n → (A q ↔ A' q)) : ∀ (k p : Nat) (c : Int), p + k = n → cpR nx n k p A c → cpR nx n k p A' c
  | 0, _, _, _, hc => hc
  | k + 1, p, c, hpk, hc => by
    have e : (fun q => q < n ∧ A q) = (fun q => q < n ∧ A' q) := by
      funext q
      exact propext ⟨fun x => ⟨x.1, (h q x.1).mp x.2⟩, fun x => ⟨x.1, (h q x.1).mpr x.2⟩⟩
    refine ⟨fun hp => ?_, fun hp => cpR_ext h k (p + 1) c (by omega) (hc.2 (fun hq => hp ((h p (by omega)).mp hq)))⟩
    obtain ⟨B, b, hB, hb, rfl⟩ := hc.1 ((h p (by omega)).mpr hp)
    exact ⟨B, b, fun q hq => by rw [hB q hq, h q hq, e], hb, rfl⟩
theorem cpR_le {nx : Nat → Nat → Prop} {n : Nat} : ∀ (k p : Nat) (A : Nat → Prop) (c : Int), cpR nx n k p A c → 0 ≤ c ∧ c ≤ k
  | 0, _, _, c, h => by have : c = 0 := h; omega
  | k + 1, p, A, c, h => by
    by_cases hp : A p
    · obtain ⟨B, b, -, hb, rfl⟩ := h.1 hp
      have := cpR_le k (p + 1) B b hb
      omega
    · have := cpR_le k (p + 1) A c (h.2 hp)
      omega

theorem wW_wW (w : List mC) (a b c a' b' c' : mC) : wW (wW w a b c) a' b' c' = wW w a' b' c' := by
  show (((wW w a b c).set 10 a').set 11 b').set 12 c' = _
  rw [wW_10, wW_11, wW_12]
set_option maxHeartbeats 4000000 in
set_option maxRecDepth 100000 in
theorem l_X6_countParts (hG : m_G G) (d : Nat) {k W H : Int} {n sl m : Nat} {col row bes : Nat → Int} {wal : Nat → Bool} (hX : cX w k W H n sl m col row bes wal) (h9 : w[9]? = some oWalk) (hw : 12 < w.length) {Q : Option (Option Value) → List mC → Prop} :
    ∀ (j p : Nat) (fd l : Int) (f g : Nat → Int), p + j = n → (∀ q, q < n → -2 ≤ f q ∧ f q ≤ n) → (∀ (c l : Int) (f2 g : Nat → Int), cpR (nxC sl bes wal) n j p (fun q => f q = -1) c → Q (some (some (vI (fd + c)))) (wW w (cI n f2) (oRow 12 l) (cI n g))) → m_J G MX6_countParts (m_r (d + 4) 0 0) Q 0 0 4 [some (.ref 9), some (vI fd), some (vI p)] [] (wW w (cI n f) (oRow 12 l) (cI n g)) := by
  have hXX := hX
  obtain ⟨h1, h2, h3, h4, h5, h6, h7, h8, hF, hN, hsl, hcr, hbs⟩ := hX
  have hFF := hF
  have hNN := hN
  have hnb := hF.n
  obtain ⟨hk0, hk4, hW1, hW2, hH1, hH2, hn, hg4⟩ := hF
  obtain ⟨hn1, hn2, hl1, hl2, hm, hm2⟩ := hN
  intro j
  induction j with
  | zero =>
    intro p fd l f g hpj hr kk
    have k0 := kk 0 l f g rfl
    rw [Int.add_zero] at k0
    have b9 : (wW w (cI n f) (oRow 12 l) (cI n g))[9]? = some oWalk := by rw [wW_n (by decide) (by decide) (by decide)]; exact h9
    have b10 : (wW w (cI n f) (oRow 12 l) (cI n g))[10]? = some (cI n f) := wW_a hw
    have b11 : (wW w (cI n f) (oRow 12 l) (cI n g))[11]? = some (oRow 12 l) := wW_b hw
    have b12 : (wW w (cI n f) (oRow 12 l) (cI n g))[12]? = some (cI n g) := wW_c hw
    have bX := hXX.wW (cI n f) (oRow 12 l) (cI n g)
    have bw : 12 < (wW w (cI n f) (oRow 12 l) (cI n g)).length := by unfold wW; simp; exact hw
    refine m_iload_n 5 dX6_countParts_4 rfl rfl ?_
    refine m_aload_n 6 dX6_countParts_5 rfl rfl ?_
    refine m_getf 9 foX6_19 dX6_countParts_6 rfl (by first | rfl | assumption) (by rfl) ?_
    refine i_len 10 dX6_countParts_9 rfl (by first | rfl | assumption) ?_
    refine i_icmp_ge 13 37 ⟨by omega, by omega⟩ ⟨by omega, by omega⟩ dX6_countParts_10 rfl (by decide) (fun _ => ?_) (fun h => absurd h (by omega))
    refine m_iload_n 38 dX6_countParts_37 rfl rfl ?_
    refine i_ret _ dX6_countParts_38 rfl ⟨Nat.le_refl _, Nat.le_refl _⟩ ?_ k0
    rfl
  | succ j ih =>
    intro p fd l f g hpj hr kk
    have e0 : ((p : Int)).toNat = p := Int.toNat_natCast p
    have hrp := hr p (by omega)
    have b9 : (wW w (cI n f) (oRow 12 l) (cI n g))[9]? = some oWalk := by rw [wW_n (by decide) (by decide) (by decide)]; exact h9
    have b10 : (wW w (cI n f) (oRow 12 l) (cI n g))[10]? = some (cI n f) := wW_a hw
    have b11 : (wW w (cI n f) (oRow 12 l) (cI n g))[11]? = some (oRow 12 l) := wW_b hw
    have b12 : (wW w (cI n f) (oRow 12 l) (cI n g))[12]? = some (cI n g) := wW_c hw
    have bX := hXX.wW (cI n f) (oRow 12 l) (cI n g)
    have bw : 12 < (wW w (cI n f) (oRow 12 l) (cI n g)).length := by unfold wW; simp; exact hw
    refine m_iload_n 5 dX6_countParts_4 rfl rfl ?_
    refine m_aload_n 6 dX6_countParts_5 rfl rfl ?_
    refine m_getf 9 foX6_19 dX6_countParts_6 rfl (by first | rfl | assumption) (by rfl) ?_
    refine i_len 10 dX6_countParts_9 rfl (by first | rfl | assumption) ?_
    refine i_icmp_ge 13 37 ⟨by omega, by omega⟩ ⟨by omega, by omega⟩ dX6_countParts_10 rfl (by decide) (fun h => absurd h (by omega)) (fun _ => ?_)
    refine m_aload_n 14 dX6_countParts_13 rfl rfl ?_
    refine m_getf 17 foX6_19 dX6_countParts_14 rfl (by first | rfl | assumption) (by rfl) ?_
    refine m_iload_n 18 dX6_countParts_17 rfl rfl ?_
    refine i_ald 19 dX6_countParts_18 rfl (by first | rfl | assumption) ⟨by omega, by omega, by omega⟩ ?_
    rw [e0]
    refine i_const 20 dX6_countParts_19 rfl ?_
    refine i_icmp_ne 23 31 ⟨by omega, by omega⟩ ⟨by omega, by omega⟩ dX6_countParts_20 rfl (by decide) (fun q20 => ?_) (fun q20 => ?_)
    · refine i_inc 34 dX6_countParts_31 rfl rfl (by decide) ?_
      refine m_goto 4 dX6_countParts_34 (by decide) ?_
      refine ih (p + 1) _ _ _ _ (by omega) hr (fun c l2 f2 g2 hc => kk c l2 f2 g2 ?_)
      exact ⟨fun hp => absurd hp q20, fun _ => hc⟩
    · refine i_inc 26 dX6_countParts_23 rfl rfl (by decide) ?_
      refine m_aload_n 27 dX6_countParts_26 rfl rfl ?_
      refine m_iload_n 28 dX6_countParts_27 rfl rfl ?_
      refine m_cVr (M' := MX6_spreadFrom) 31 [_] kX6_32 imX6_spreadFrom seX6_spreadFrom clX6_spreadFrom dX6_countParts_28 rfl rfl rfl (by first | rfl | assumption) (m_rmI (by omega) (Nat.le_of_ble_eq_true rfl) (Nat.le_refl _) (Nat.le_refl _)) (c_X6_spreadFrom hG d bX (s := p) (by omega) b9 bw b10 b11 b12 q20 hr) (fun w2 h => by cases h.1) (fun v w2 h => ?_)
      obtain ⟨hv, L2, f2, g2, hbf, hr2, rfl⟩ := h
      cases hv
      rw [wW_wW]
      refine i_inc 34 dX6_countParts_31 rfl rfl (by decide) ?_
      refine m_goto 4 dX6_countParts_34 (by decide) ?_
      refine ih (p + 1) _ _ _ _ (by omega) hr2 (fun c l2 f3 g3 hc => ?_)
      have e5 := kk (c + 1) l2 f3 g3 ⟨fun _ => ⟨_, c, bfs_free hbf, hc, rfl⟩, fun hp => absurd q20 hp⟩
      rw [show fd + 1 + c = fd + (c + 1) by omega]
      exact e5
set_option maxHeartbeats 4000000 in
set_option maxRecDepth 100000 in
theorem c_X6_countParts (hG : m_G G) (d : Nat) {k W H : Int} {n sl m : Nat} {col row bes : Nat → Int} {wal : Nat → Bool} (hX : cX w k W H n sl m col row bes wal) (h9 : w[9]? = some oWalk) (hw : 12 < w.length) {l : Int} {f g : Nat → Int} (h10 : w[10]? = some (cI n f)) (h11 : w[11]? = some (oRow 12 l)) (h12 : w[12]? = some (cI n g)) (hr : ∀ q, q < n → -2 ≤ f q ∧ f q ≤ n) : m_Ct G MX6_countParts (m_r (d + 4) 0 0) [.ref 9] w (fun r x => ∃ (c l : Int) (f2 g2 : Nat → Int), r = some (some (vI c)) ∧ cpR (nxC sl bes wal) n n 0 (fun q => f q = -1) c ∧ x = wW w (cI n f2) (oRow 12 l) (cI n g2)) := by
  have e0 : w = (wW w (cI n f) (oRow 12 l) (cI n g)) := by unfold wW; rw [set_get h10, set_get h11, set_get h12]
  refine m_enter (L := [some (.ref 9), none, none]) (by decide) hG (m_c1 rfl) (Nat.le_of_ble_eq_true rfl) rfl ?_
  refine i_const 1 dX6_countParts_0 rfl ?_
  refine m_istore_n 2 dX6_countParts_1 rfl (by decide) ?_
  refine i_const 3 dX6_countParts_2 rfl ?_
  refine m_istore_n 4 dX6_countParts_3 rfl (by decide) ?_
  have e := l_X6_countParts hG d hX h9 hw (Q := fun r x => ∃ (c l : Int) (f2 g2 : Nat → Int), r = some (some (vI c)) ∧ cpR (nxC sl bes wal) n n 0 (fun q => f q = -1) c ∧ x = wW w (cI n f2) (oRow 12 l) (cI n g2)) n 0 0 l f g (by omega) hr (fun c l2 f2 g2 hc => ⟨c, l2, f2, g2, by rw [Int.zero_add], hc, rfl⟩)
  rw [← e0] at e
  exact e
theorem wW_set10 (w : List mC) (a0 a b c : mC) : wW (w.set 10 a0) a b c = wW w a b c := by
  unfold wW
  rw [List.set_set]
set_option maxHeartbeats 4000000 in
set_option maxRecDepth 100000 in
theorem c_X7_far (hG : m_G G) (d : Nat) {k W H : Int} {n sl m : Nat} {col row bes : Nat → Int} {wal : Nat → Bool} (hX : cX w k W H n sl m col row bes wal) (h9 : w[9]? = some oWalk) (hw : 12 < w.length) {l : Int} {f g : Nat → Int} (h10 : w[10]? = some (cI n f)) (h11 : w[11]? = some (oRow 12 l)) (h12 : w[12]? = some (cI n g)) {a b : Int} (ha : 0 ≤ a ∧ a < n) (hb : 0 ≤ b ∧ b < n) : m_Ct G MX7_far (m_r (d + 5) 0 0) [.ref 1, vI a, vI b] w (fun r x => ∃ (l : Int) (f2 g2 : Nat → Int), bfs (nxC sl bes wal) n (fun _ => -1) f2 a.toNat ∧ r = some (some (vI (f2 b.toNat))) ∧ (-2 ≤ f2 b.toNat ∧ f2 b.toNat ≤ n) ∧ x = wW w (cI n f2) (oRow 12 l) (cI n g2)) := by
  have hXX := hX
  obtain ⟨h1, h2, h3, h4, h5, h6, h7, h8, hF, hN, hsl, hcr, hbs⟩ := hX
  have hFF := hF
  have hNN := hN
  have hnb := hF.n
  obtain ⟨hk0, hk4, hW1, hW2, hH1, hH2, hn, hg4⟩ := hF
  obtain ⟨hn1, hn2, hl1, hl2, hm, hm2⟩ := hN
  have s1 : (w.set 10 (cI n (fill n (fun _ => -1) f)))[1]? = some oGrid := by rw [List.getElem?_set_ne (by decide)]; exact h1
  have s9 : (w.set 10 (cI n (fill n (fun _ => -1) f)))[9]? = some oWalk := by rw [List.getElem?_set_ne (by decide)]; exact h9
  have s10 : (w.set 10 (cI n (fill n (fun _ => -1) f)))[10]? = some (cI n (fill n (fun _ => -1) f)) := List.getElem?_set_self (by omega)
  have s11 : (w.set 10 (cI n (fill n (fun _ => -1) f)))[11]? = some (oRow 12 l) := by rw [List.getElem?_set_ne (by decide)]; exact h11
  have s12 : (w.set 10 (cI n (fill n (fun _ => -1) f)))[12]? = some (cI n g) := by rw [List.getElem?_set_ne (by decide)]; exact h12
  have sX : cX (w.set 10 (cI n (fill n (fun _ => -1) f))) k W H n sl m col row bes wal := hXX.keep fun i hi => List.getElem?_set_ne (by omega)
  have sw : 12 < (w.set 10 (cI n (fill n (fun _ => -1) f))).length := by simpa using hw
  have sf : ∀ q, q < n → fill n (fun _ => -1) f q = -1 := fun q hq => by unfold fill; rw [if_pos hq]
  have e0 : ((a.toNat : Nat) : Int) = a := Int.toNat_of_nonneg ha.1
  refine m_enter (L := [some (.ref 1), some (vI a), some (vI b)]) (by decide) hG (m_c1 rfl) (Nat.le_of_ble_eq_true rfl) rfl ?_
  refine m_aload_n 1 dX7_far_0 rfl rfl ?_
  refine m_iload_n 2 dX7_far_1 rfl rfl ?_
  refine m_cV (M' := MX7_demandPlace) 5 [_] kX7_77 imX7_demandPlace seX7_demandPlace clX7_demandPlace dX7_far_2 rfl rfl rfl (by first | rfl | assumption) (m_rmI (by omega) (Nat.le_of_ble_eq_true rfl) (Nat.le_refl _) (Nat.le_refl _)) (c_X7_demandPlace hG (d + 3) hXX ⟨by omega, by omega⟩) ?_
  refine m_aload_n 6 dX7_far_5 rfl rfl ?_
  refine m_iload_n 7 dX7_far_6 rfl rfl ?_
  refine m_cV (M' := MX7_demandPlace) 10 [_] kX7_77 imX7_demandPlace seX7_demandPlace clX7_demandPlace dX7_far_7 rfl rfl rfl (by first | rfl | assumption) (m_rmI (by omega) (Nat.le_of_ble_eq_true rfl) (Nat.le_refl _) (Nat.le_refl _)) (c_X7_demandPlace hG (d + 3) hXX ⟨by omega, by omega⟩) ?_
  refine m_aload_n 11 dX7_far_10 rfl rfl ?_
  refine m_getf 14 foX7_39 dX7_far_11 rfl (by first | rfl | assumption) (by rfl) ?_
  refine m_cV (M' := MX6_admitAll) 17 [] kX7_115 imX6_admitAll seX6_admitAll clX6_admitAll dX7_far_14 rfl rfl rfl (by first | rfl | assumption) (m_rmI (by omega) (Nat.le_of_ble_eq_true rfl) (Nat.le_refl _) (Nat.le_refl _)) (c_X6_admitAll hG (d + 4) (by omega) h9 h10) ?_
  refine m_aload_n 18 dX7_far_17 rfl rfl ?_
  refine m_getf 21 foX7_39 dX7_far_18 rfl (by first | rfl | assumption) (by rfl) ?_
  refine m_iload_n 22 dX7_far_21 rfl rfl ?_
  have hM := c_X6_spreadFrom hG d sX (s := a.toNat) (by omega) s9 sw s10 s11 s12 (sf _ (by omega)) (fun q hq => by rw [sf q hq]; omega)
  rw [e0] at hM
  refine m_cVr (M' := MX6_spreadFrom) 25 [_] kX7_118 imX6_spreadFrom seX6_spreadFrom clX6_spreadFrom dX7_far_22 rfl rfl rfl (by first | rfl | assumption) (m_rmI (by omega) (Nat.le_of_ble_eq_true rfl) (Nat.le_refl _) (Nat.le_refl _)) hM (fun w2 h => by cases h.1) (fun v w2 h => ?_)
  obtain ⟨hv, L2, f2, g2, hbf, hr2, rfl⟩ := h
  cases hv
  rw [wW_set10]
  have t1 : (wW w (cI n f2) (oRow 12 (L2 : Int)) (cI n g2))[1]? = some oGrid := by rw [wW_n (by decide) (by decide) (by decide)]; exact h1
  have t9 : (wW w (cI n f2) (oRow 12 (L2 : Int)) (cI n g2))[9]? = some oWalk := by rw [wW_n (by decide) (by decide) (by decide)]; exact h9
  have t10 : (wW w (cI n f2) (oRow 12 (L2 : Int)) (cI n g2))[10]? = some (cI n f2) := wW_a hw
  refine m_aload_n 26 dX7_far_25 rfl rfl ?_
  refine m_getf 29 foX7_39 dX7_far_26 rfl (by first | rfl | assumption) (by rfl) ?_
  refine m_iload_n 30 dX7_far_29 rfl rfl ?_
  refine m_cV (M' := MX6_stepsTo) 33 [_] kX7_121 imX6_stepsTo seX6_stepsTo clX6_stepsTo dX7_far_30 rfl rfl rfl (by first | rfl | assumption) (m_rmI (by omega) (Nat.le_of_ble_eq_true rfl) (Nat.le_refl _) (Nat.le_refl _)) (c_X6_stepsTo hG (d + 4) (by omega) hb t9 t10) ?_
  refine i_ret _ dX7_far_33 rfl ⟨Nat.le_refl _, Nat.le_refl _⟩ ?_ ⟨L2, f2, g2, bfs_from hbf sf, rfl, hr2 _ (by omega), rfl⟩
  rfl
set_option maxHeartbeats 4000000 in
set_option maxRecDepth 100000 in
theorem c_X7_partsA (hG : m_G G) (d : Nat) {k W H : Int} {n sl m : Nat} {col row bes : Nat → Int} {wal : Nat → Bool} (hX : cX w k W H n sl m col row bes wal) (h9 : w[9]? = some oWalk) (hw : 12 < w.length) {l : Int} {f g : Nat → Int} (h10 : w[10]? = some (cI n f)) (h11 : w[11]? = some (oRow 12 l)) (h12 : w[12]? = some (cI n g)) {a : Int} (ha : a < 0) (hra : iR a) : m_Ct G MX7_parts (m_r (d + 5) 0 0) [.ref 1, vI a] w (fun r x => ∃ (c l : Int) (f2 g2 : Nat → Int), r = some (some (vI c)) ∧ cpR (nxC sl bes wal) n n 0 (fun _ => True) c ∧ x = wW w (cI n f2) (oRow 12 l) (cI n g2)) := by
  have hXX := hX
  obtain ⟨h1, h2, h3, h4, h5, h6, h7, h8, hF, hN, hsl, hcr, hbs⟩ := hX
  have hFF := hF
  have hNN := hN
  have hnb := hF.n
  obtain ⟨hk0, hk4, hW1, hW2, hH1, hH2, hn, hg4⟩ := hF
  obtain ⟨hn1, hn2, hl1, hl2, hm, hm2⟩ := hN
  have s1 : (w.set 10 (cI n (fill n (fun _ => -1) f)))[1]? = some oGrid := by rw [List.getElem?_set_ne (by decide)]; exact h1
  have s9 : (w.set 10 (cI n (fill n (fun _ => -1) f)))[9]? = some oWalk := by rw [List.getElem?_set_ne (by decide)]; exact h9
  have s10 : (w.set 10 (cI n (fill n (fun _ => -1) f)))[10]? = some (cI n (fill n (fun _ => -1) f)) := List.getElem?_set_self (by omega)
  have s11 : (w.set 10 (cI n (fill n (fun _ => -1) f)))[11]? = some (oRow 12 l) := by rw [List.getElem?_set_ne (by decide)]; exact h11
  have s12 : (w.set 10 (cI n (fill n (fun _ => -1) f)))[12]? = some (cI n g) := by rw [List.getElem?_set_ne (by decide)]; exact h12
  have sX : cX (w.set 10 (cI n (fill n (fun _ => -1) f))) k W H n sl m col row bes wal := hXX.keep fun i hi => List.getElem?_set_ne (by omega)
  have sw : 12 < (w.set 10 (cI n (fill n (fun _ => -1) f))).length := by simpa using hw
  have sf : ∀ q, q < n → fill n (fun _ => -1) f q = -1 := fun q hq => by unfold fill; rw [if_pos hq]
  obtain ⟨hr1, hr2⟩ := hra
  refine m_enter (L := [some (.ref 1), some (vI a)]) (by decide) hG (m_c1 rfl) (Nat.le_of_ble_eq_true rfl) rfl ?_
  refine m_iload_n 1 dX7_parts_0 rfl rfl ?_
  refine i_if_ge 4 14 ⟨by omega, by omega⟩ dX7_parts_1 rfl (by decide) (fun h => absurd h (by omega)) (fun _ => ?_)
  refine m_aload_n 5 dX7_parts_4 rfl rfl ?_
  refine m_getf 8 foX7_39 dX7_parts_5 rfl (by first | rfl | assumption) (by rfl) ?_
  refine m_cV (M' := MX6_admitAll) 11 [] kX7_115 imX6_admitAll seX6_admitAll clX6_admitAll dX7_parts_8 rfl rfl rfl (by first | rfl | assumption) (m_rmI (by omega) (Nat.le_of_ble_eq_true rfl) (Nat.le_refl _) (Nat.le_refl _)) (c_X6_admitAll hG (d + 4) (by omega) h9 h10) ?_
  refine m_goto 26 dX7_parts_11 (by decide) ?_
  refine m_aload_n 27 dX7_parts_26 rfl rfl ?_
  refine m_getf 30 foX7_39 dX7_parts_27 rfl (by first | rfl | assumption) (by rfl) ?_
  refine m_cVr (M' := MX6_countParts) 33 [] kX7_129 imX6_countParts seX6_countParts clX6_countParts dX7_parts_30 rfl rfl rfl (by first | rfl | assumption) (m_rmI (by omega) (Nat.le_of_ble_eq_true rfl) (Nat.le_refl _) (Nat.le_refl _)) (c_X6_countParts hG d sX s9 sw s10 s11 s12 (fun q hq => by rw [sf q hq]; omega)) (fun w2 h => by obtain ⟨c, l, f2, g2, h, -⟩ := h; cases h) (fun v w2 h => ?_)
  obtain ⟨c, l2, f2, g2, hv, hc, rfl⟩ := h
  cases hv
  rw [wW_set10]
  refine i_ret _ dX7_parts_33 rfl ⟨Nat.le_refl _, Nat.le_refl _⟩ ?_ ⟨c, l2, f2, g2, rfl, cpR_ext (fun q hq => ⟨fun _ => trivial, fun _ => sf q hq⟩) n 0 c (by omega) hc, rfl⟩
  rfl
set_option maxHeartbeats 4000000 in
set_option maxRecDepth 100000 in
theorem c_X7_partsB (hG : m_G G) (d : Nat) {k W H : Int} {n sl m : Nat} {col row bes : Nat → Int} {wal : Nat → Bool} (hX : cX w k W H n sl m col row bes wal) (h9 : w[9]? = some oWalk) (hw : 12 < w.length) {l : Int} {f g : Nat → Int} (h10 : w[10]? = some (cI n f)) (h11 : w[11]? = some (oRow 12 l)) (h12 : w[12]? = some (cI n g)) {a : Int} {ar : Nat → Int} (h21 : w[21]? = some (cI n ar)) (hA : ∀ j, j < n → iR (ar j)) (ha : 0 ≤ a) (hra : iR a) : m_Ct G MX7_parts (m_r (d + 5) 0 0) [.ref 1, vI a] w (fun r x => ∃ (c l : Int) (f2 g2 : Nat → Int), r = some (some (vI c)) ∧ cpR (nxC sl bes wal) n n 0 (fun q => ar q = a) c ∧ x = wW w (cI n f2) (oRow 12 l) (cI n g2)) := by
  have hXX := hX
  obtain ⟨h1, h2, h3, h4, h5, h6, h7, h8, hF, hN, hsl, hcr, hbs⟩ := hX
  have hFF := hF
  have hNN := hN
  have hnb := hF.n
  obtain ⟨hk0, hk4, hW1, hW2, hH1, hH2, hn, hg4⟩ := hF
  obtain ⟨hn1, hn2, hl1, hl2, hm, hm2⟩ := hN
  have s1 : (w.set 10 (cI n (fill n (fun j => if ar j = a then -1 else -2) f)))[1]? = some oGrid := by rw [List.getElem?_set_ne (by decide)]; exact h1
  have s9 : (w.set 10 (cI n (fill n (fun j => if ar j = a then -1 else -2) f)))[9]? = some oWalk := by rw [List.getElem?_set_ne (by decide)]; exact h9
  have s10 : (w.set 10 (cI n (fill n (fun j => if ar j = a then -1 else -2) f)))[10]? = some (cI n (fill n (fun j => if ar j = a then -1 else -2) f)) := List.getElem?_set_self (by omega)
  have s11 : (w.set 10 (cI n (fill n (fun j => if ar j = a then -1 else -2) f)))[11]? = some (oRow 12 l) := by rw [List.getElem?_set_ne (by decide)]; exact h11
  have s12 : (w.set 10 (cI n (fill n (fun j => if ar j = a then -1 else -2) f)))[12]? = some (cI n g) := by rw [List.getElem?_set_ne (by decide)]; exact h12
  have sX : cX (w.set 10 (cI n (fill n (fun j => if ar j = a then -1 else -2) f))) k W H n sl m col row bes wal := hXX.keep fun i hi => List.getElem?_set_ne (by omega)
  have sw : 12 < (w.set 10 (cI n (fill n (fun j => if ar j = a then -1 else -2) f))).length := by simpa using hw
  have sf : ∀ q, q < n → fill n (fun j => if ar j = a then -1 else -2) f q = if ar q = a then -1 else -2 := fun q hq => by unfold fill; rw [if_pos hq]
  have hraa := hra
  obtain ⟨hr1, hr2⟩ := hra
  refine m_enter (L := [some (.ref 1), some (vI a)]) (by decide) hG (m_c1 rfl) (Nat.le_of_ble_eq_true rfl) rfl ?_
  refine m_iload_n 1 dX7_parts_0 rfl rfl ?_
  refine i_if_ge 4 14 ⟨by omega, by omega⟩ dX7_parts_1 rfl (by decide) (fun _ => ?_) (fun h => absurd h (by omega))
  refine m_aload_n 15 dX7_parts_14 rfl rfl ?_
  refine m_getf 18 foX7_39 dX7_parts_15 rfl (by first | rfl | assumption) (by rfl) ?_
  refine m_aload_n 19 dX7_parts_18 rfl rfl ?_
  refine m_getf 22 foX7_74 dX7_parts_19 rfl (by first | rfl | assumption) (by rfl) ?_
  refine m_iload_n 23 dX7_parts_22 rfl rfl ?_
  refine m_cV (M' := MX6_admitArea) 26 [_, _] kX7_125 imX6_admitArea seX6_admitArea clX6_admitArea dX7_parts_23 rfl rfl rfl (by first | rfl | assumption) (m_rmI (by omega) (Nat.le_of_ble_eq_true rfl) (Nat.le_refl _) (Nat.le_refl _)) (c_X6_admitArea hG (d + 4) (by omega) hraa hA h9 h10 h21) ?_
  refine m_aload_n 27 dX7_parts_26 rfl rfl ?_
  refine m_getf 30 foX7_39 dX7_parts_27 rfl (by first | rfl | assumption) (by rfl) ?_
  refine m_cVr (M' := MX6_countParts) 33 [] kX7_129 imX6_countParts seX6_countParts clX6_countParts dX7_parts_30 rfl rfl rfl (by first | rfl | assumption) (m_rmI (by omega) (Nat.le_of_ble_eq_true rfl) (Nat.le_refl _) (Nat.le_refl _)) (c_X6_countParts hG d sX s9 sw s10 s11 s12 (fun q hq => by rw [sf q hq]; split <;> omega)) (fun w2 h => by obtain ⟨c, l, f2, g2, h, -⟩ := h; cases h) (fun v w2 h => ?_)
  obtain ⟨c, l2, f2, g2, hv, hc, rfl⟩ := h
  cases hv
  rw [wW_set10]
  refine i_ret _ dX7_parts_33 rfl ⟨Nat.le_refl _, Nat.le_refl _⟩ ?_ ⟨c, l2, f2, g2, rfl, cpR_ext (fun q hq => by rw [sf q hq]; split <;> simp_all) n 0 c (by omega) hc, rfl⟩
  rfl
set_option maxHeartbeats 4000000 in
set_option maxRecDepth 100000 in
theorem c_X7_without (hG : m_G G) (d : Nat) {k W H : Int} {n sl m : Nat} {col row bes : Nat → Int} {wal : Nat → Bool} (hX : cX w k W H n sl m col row bes wal) (h9 : w[9]? = some oWalk) (hw : 12 < w.length) {l : Int} {f g : Nat → Int} (h10 : w[10]? = some (cI n f)) (h11 : w[11]? = some (oRow 12 l)) (h12 : w[12]? = some (cI n g)) {a : Int} (ha : 0 ≤ a ∧ a < n) : m_Ct G MX7_without (m_r (d + 5) 0 0) [.ref 1, vI a] w (fun r x => ∃ (c l : Int) (f2 g2 : Nat → Int), r = some (some (vI c)) ∧ cpR (nxC sl bes wal) n n 0 (fun q => q ≠ a.toNat) c ∧ x = wW w (cI n f2) (oRow 12 l) (cI n g2)) := by
  have hXX := hX
  obtain ⟨h1, h2, h3, h4, h5, h6, h7, h8, hF, hN, hsl, hcr, hbs⟩ := hX
  have hFF := hF
  have hNN := hN
  have hnb := hF.n
  obtain ⟨hk0, hk4, hW1, hW2, hH1, hH2, hn, hg4⟩ := hF
  obtain ⟨hn1, hn2, hl1, hl2, hm, hm2⟩ := hN
  have s1 : (w.set 10 (cI n (fill n (fun _ => -1) f)))[1]? = some oGrid := by rw [List.getElem?_set_ne (by decide)]; exact h1
  have s9 : (w.set 10 (cI n (fill n (fun _ => -1) f)))[9]? = some oWalk := by rw [List.getElem?_set_ne (by decide)]; exact h9
  have s10 : (w.set 10 (cI n (fill n (fun _ => -1) f)))[10]? = some (cI n (fill n (fun _ => -1) f)) := List.getElem?_set_self (by omega)
  have s11 : (w.set 10 (cI n (fill n (fun _ => -1) f)))[11]? = some (oRow 12 l) := by rw [List.getElem?_set_ne (by decide)]; exact h11
  have s12 : (w.set 10 (cI n (fill n (fun _ => -1) f)))[12]? = some (cI n g) := by rw [List.getElem?_set_ne (by decide)]; exact h12
  have sX : cX (w.set 10 (cI n (fill n (fun _ => -1) f))) k W H n sl m col row bes wal := hXX.keep fun i hi => List.getElem?_set_ne (by omega)
  have sw : 12 < (w.set 10 (cI n (fill n (fun _ => -1) f))).length := by simpa using hw
  have sf : ∀ q, q < n → fill n (fun _ => -1) f q = -1 := fun q hq => by unfold fill; rw [if_pos hq]
  have u1 : (w.set 10 (cI n (up (fill n (fun _ => -1) f) a.toNat (-2))))[1]? = some oGrid := by rw [List.getElem?_set_ne (by decide)]; exact h1
  have u9 : (w.set 10 (cI n (up (fill n (fun _ => -1) f) a.toNat (-2))))[9]? = some oWalk := by rw [List.getElem?_set_ne (by decide)]; exact h9
  have u10 : (w.set 10 (cI n (up (fill n (fun _ => -1) f) a.toNat (-2))))[10]? = some (cI n (up (fill n (fun _ => -1) f) a.toNat (-2))) := List.getElem?_set_self (by omega)
  have u11 : (w.set 10 (cI n (up (fill n (fun _ => -1) f) a.toNat (-2))))[11]? = some (oRow 12 l) := by rw [List.getElem?_set_ne (by decide)]; exact h11
  have u12 : (w.set 10 (cI n (up (fill n (fun _ => -1) f) a.toNat (-2))))[12]? = some (cI n g) := by rw [List.getElem?_set_ne (by decide)]; exact h12
  have uX : cX (w.set 10 (cI n (up (fill n (fun _ => -1) f) a.toNat (-2)))) k W H n sl m col row bes wal := hXX.keep fun i hi => List.getElem?_set_ne (by omega)
  have uw : 12 < (w.set 10 (cI n (up (fill n (fun _ => -1) f) a.toNat (-2)))).length := by simpa using hw
  have uf : ∀ q, q < n → up (fill n (fun _ => -1) f) a.toNat (-2) q = if q = a.toNat then -2 else -1 := fun q hq => by
    unfold up
    rw [sf q hq]
  refine m_enter (L := [some (.ref 1), some (vI a)]) (by decide) hG (m_c1 rfl) (Nat.le_of_ble_eq_true rfl) rfl ?_
  refine m_aload_n 1 dX7_without_0 rfl rfl ?_
  refine m_iload_n 2 dX7_without_1 rfl rfl ?_
  refine m_cV (M' := MX7_demandPlace) 5 [_] kX7_77 imX7_demandPlace seX7_demandPlace clX7_demandPlace dX7_without_2 rfl rfl rfl (by first | rfl | assumption) (m_rmI (by omega) (Nat.le_of_ble_eq_true rfl) (Nat.le_refl _) (Nat.le_refl _)) (c_X7_demandPlace hG (d + 3) hXX ⟨by omega, by omega⟩) ?_
  refine m_aload_n 6 dX7_without_5 rfl rfl ?_
  refine m_getf 9 foX7_39 dX7_without_6 rfl (by first | rfl | assumption) (by rfl) ?_
  refine m_cV (M' := MX6_admitAll) 12 [] kX7_115 imX6_admitAll seX6_admitAll clX6_admitAll dX7_without_9 rfl rfl rfl (by first | rfl | assumption) (m_rmI (by omega) (Nat.le_of_ble_eq_true rfl) (Nat.le_refl _) (Nat.le_refl _)) (c_X6_admitAll hG (d + 4) (by omega) h9 h10) ?_
  refine m_aload_n 13 dX7_without_12 rfl rfl ?_
  refine m_getf 16 foX7_39 dX7_without_13 rfl (by first | rfl | assumption) (by rfl) ?_
  refine m_iload_n 17 dX7_without_16 rfl rfl ?_
  refine m_cV (M' := MX6_refuse) 20 [_] kX7_132 imX6_refuse seX6_refuse clX6_refuse dX7_without_17 rfl rfl rfl (by first | rfl | assumption) (m_rmI (by omega) (Nat.le_of_ble_eq_true rfl) (Nat.le_refl _) (Nat.le_refl _)) (c_X6_refuse hG (d + 4) (by omega) ha s9 s10) ?_
  rw [List.set_set]
  refine m_aload_n 21 dX7_without_20 rfl rfl ?_
  refine m_getf 24 foX7_39 dX7_without_21 rfl (by first | rfl | assumption) (by rfl) ?_
  refine m_cVr (M' := MX6_countParts) 27 [] kX7_129 imX6_countParts seX6_countParts clX6_countParts dX7_without_24 rfl rfl rfl (by first | rfl | assumption) (m_rmI (by omega) (Nat.le_of_ble_eq_true rfl) (Nat.le_refl _) (Nat.le_refl _)) (c_X6_countParts hG d uX u9 uw u10 u11 u12 (fun q hq => by rw [uf q hq]; split <;> omega)) (fun w2 h => by obtain ⟨c, l, f2, g2, h, -⟩ := h; cases h) (fun v w2 h => ?_)
  obtain ⟨c, l2, f2, g2, hv, hc, rfl⟩ := h
  cases hv
  rw [wW_set10]
  refine i_ret _ dX7_without_27 rfl ⟨Nat.le_refl _, Nat.le_refl _⟩ ?_ ⟨c, l2, f2, g2, rfl, cpR_ext (fun q hq => by rw [uf q hq]; split <;> simp_all) n 0 c (by omega) hc, rfl⟩
  rfl
end PT
end
section
/-! Scribe: the text -/
section SC
variable {G : mG} {w : List mC}
abbrev oScribe : mC := mO 4 [.ref 14]
def wS (w : List mC) (b c : mC) : List mC := (w.set 14 b).set 15 c
theorem wS_14 (w : List mC) (b c b' : mC) : (wS w b c).set 14 b' = wS w b' c := by
  unfold wS
  rw [List.set_comm _ _ (by decide : (15 : Nat) ≠ 14), List.set_set]
theorem wS_15 (w : List mC) (b c c' : mC) : (wS w b c).set 15 c' = wS w b c' := by
  unfold wS
  rw [List.set_set]
theorem wS_n {w : List mC} {b c : mC} {i : Nat} (h2 : i ≠ 14) (h3 : i ≠ 15) : (wS w b c)[i]? = w[i]? := by
  unfold wS
  rw [List.getElem?_set_ne (Ne.symm h3), List.getElem?_set_ne (Ne.symm h2)]
theorem wS_b {w : List mC} {b c : mC} (h : 15 < w.length) : (wS w b c)[14]? = some b := by
  unfold wS
  rw [List.getElem?_set_ne (by decide), List.getElem?_set_self (by omega)]
theorem wS_c {w : List mC} {b c : mC} (h : 15 < w.length) : (wS w b c)[15]? = some c := by
  unfold wS
  rw [List.getElem?_set_self (by simp; omega)]
/-- the row holds this list -/
def hld (l : List Int) (g : Nat → Int) : Prop := ∀ j, j < l.length → g j = l.getD j 0
theorem hld_nil (g : Nat → Int) : hld [] g := fun j h => by simp at h
theorem hld_put {l : List Int} {g : Nat → Int} (h : hld l g) (z : Int) : hld (l ++ [z]) (up g l.length z) := by
  intro j hj
  by_cases hjl : j = l.length
  · subst hjl
    rw [up_s]
    simp
  · have hlt : j < l.length := by simp at hj; omega
    rw [up_n _ _ hjl, h j hlt]
    simp [List.getD, List.getElem?_append_left hlt]
def emp (e : Nat) : List Int := List.replicate (e / 26) 122 ++ (if e % 26 = 0 then [] else [96 + ((e % 26 : Nat) : Int)])
theorem emp_z {e : Nat} (h : 26 ≤ e) : emp e = 122 :: emp (e - 26) := by
  unfold emp
  rw [show e / 26 = (e - 26) / 26 + 1 by omega, show (e - 26) % 26 = e % 26 by omega, List.replicate_succ]
  rfl
theorem emp_0 : emp 0 = [] := by decide
theorem emp_l {e : Nat} (h : e < 26) (h0 : 0 < e) : emp e = [96 + (e : Int)] := by
  unfold emp
  rw [show e / 26 = 0 by omega, show e % 26 = e by omega, if_neg (by omega)]
  rfl
theorem emp_len (e : Nat) : (emp e).length ≤ e := by
  unfold emp
  split <;> simp <;> omega
def num (m : Int) : List Int := (if 10 ≤ m then [48 + m / 10] else []) ++ [48 + m % 10]
theorem num_len (m : Int) : (num m).length ≤ 2 := by unfold num; split <;> simp
/-- the text from place p on, with e empty ones ahead -/
def txF (mk : Nat → Int) : Nat → Nat → Nat → List Int
  | 0, _, e => emp e
  | j + 1, p, e => if mk p = 0 then txF mk j (p + 1) (e + 1) else (if 0 < p ∧ e = 0 then [32] else []) ++ emp e ++ num (mk p) ++ txF mk j (p + 1) 0

set_option maxHeartbeats 4000000 in
set_option maxRecDepth 100000 in
theorem l_X4_spellEmpty (hG : m_G G) (d : Nat) (h13 : w[13]? = some oScribe) (hw : 15 < w.length) {N : Nat} (hN : N < 100000) {x1 : Option Value} {Q : Option (Option Value) → List mC → Prop} {t : List Int} (kr : ∀ g, hld t g → Q (some none) (wS w (oRow 15 (t.length : Int)) (cI N g))) :
    ∀ (j e : Nat) (l : List Int) (g : Nat → Int), e ≤ j → e < 1000 → hld l g → l.length + e ≤ N → l ++ emp e = t → m_J G MX4_spellEmpty (m_r (d + 1) 0 0) Q 0 0 2 [some (.ref 13), x1, some (vI (e : Int))] [] (wS w (oRow 15 (l.length : Int)) (cI N g)) := by
  intro j
  induction j with
  | zero =>
    intro e l g hej he2 hl hlen ht
    have he0 : e = 0 := by omega
    subst he0
    rw [emp_0, List.append_nil] at ht
    subst ht
    have b13 : (wS w (oRow 15 (l.length : Int)) (cI N g))[13]? = some oScribe := by rw [wS_n (by decide) (by decide)]; exact h13
    have b14 : (wS w (oRow 15 (l.length : Int)) (cI N g))[14]? = some (oRow 15 (l.length : Int)) := wS_b hw
    have b15 : (wS w (oRow 15 (l.length : Int)) (cI N g))[15]? = some (cI N g) := wS_c hw
    have e1 : ((l.length : Int)).toNat = l.length := Int.toNat_natCast _
    refine m_iload_n 3 dX4_spellEmpty_2 rfl rfl ?_
    refine i_bipush 5 26 dX4_spellEmpty_3 rfl (by decide) ?_
    refine i_icmp_lt 8 24 ⟨by omega, by omega⟩ ⟨by omega, by omega⟩ dX4_spellEmpty_5 rfl (by decide) (fun _ => ?_) (fun h => absurd h (by omega))
    refine m_iload_n 25 dX4_spellEmpty_24 rfl rfl ?_
    refine i_if_le 28 40 ⟨by omega, by omega⟩ dX4_spellEmpty_25 rfl (by decide) (fun _ => ?_) (fun h => absurd h (by omega))
    refine m_vret dX4_spellEmpty_40 rfl ⟨Nat.le_refl _, Nat.le_refl _⟩ ?_
    exact kr _ hl
  | succ j ih =>
    intro e l g hej he2 hl hlen ht
    have b13 : (wS w (oRow 15 (l.length : Int)) (cI N g))[13]? = some oScribe := by rw [wS_n (by decide) (by decide)]; exact h13
    have b14 : (wS w (oRow 15 (l.length : Int)) (cI N g))[14]? = some (oRow 15 (l.length : Int)) := wS_b hw
    have b15 : (wS w (oRow 15 (l.length : Int)) (cI N g))[15]? = some (cI N g) := wS_c hw
    have e1 : ((l.length : Int)).toNat = l.length := Int.toNat_natCast _
    refine m_iload_n 3 dX4_spellEmpty_2 rfl rfl ?_
    refine i_bipush 5 26 dX4_spellEmpty_3 rfl (by decide) ?_
    refine i_icmp_lt 8 24 ⟨by omega, by omega⟩ ⟨by omega, by omega⟩ dX4_spellEmpty_5 rfl (by decide) (fun q5 => ?_) (fun q5 => ?_)
    · refine m_iload_n 25 dX4_spellEmpty_24 rfl rfl ?_
      refine i_if_le 28 40 ⟨by omega, by omega⟩ dX4_spellEmpty_25 rfl (by decide) (fun q25 => ?_) (fun q25 => ?_)
      · refine m_vret dX4_spellEmpty_40 rfl ⟨Nat.le_refl _, Nat.le_refl _⟩ ?_
        first
          | (have he0 : e = 0 := by omega
             subst he0
             rw [emp_0, List.append_nil] at ht
             subst ht
             exact kr _ hl)
          | (rw [emp_l (by omega) (by omega)] at ht
             have e9 := kr _ (ht ▸ hld_put hl (96 + (e : Int)))
             rw [← ht] at e9
             rw [wS_15, wS_14, e1, show ((l.length : Int) + 1) = ((l ++ [96 + (e : Int)]).length : Int) by simp]
             exact e9)
      · refine m_aload_n 29 dX4_spellEmpty_28 rfl rfl ?_
        refine m_getf 32 foX4_20 dX4_spellEmpty_29 rfl (by first | rfl | assumption) (by rfl) ?_
        refine i_bipush 34 96 dX4_spellEmpty_32 rfl (by decide) ?_
        refine m_iload_n 35 dX4_spellEmpty_34 rfl rfl ?_
        refine i_add 36 dX4_spellEmpty_35 rfl ?_
        refine m_cV (M' := MX3_put) 39 [_] kX4_29 imX3_put seX3_put clX3_put dX4_spellEmpty_36 rfl rfl rfl (by first | rfl | assumption) (m_rmI (by omega) (Nat.le_of_ble_eq_true rfl) (Nat.le_refl _) (Nat.le_refl _)) (c_X3_put (i := 13) (c := 14) hG d b14 b15 (by decide) ⟨by omega, by omega⟩ (by omega)) ?_
        refine m_pop 40 dX4_spellEmpty_39 rfl rfl ?_
        refine m_vret dX4_spellEmpty_40 rfl ⟨Nat.le_refl _, Nat.le_refl _⟩ ?_
        first
          | (have he0 : e = 0 := by omega
             subst he0
             rw [emp_0, List.append_nil] at ht
             subst ht
             exact kr _ hl)
          | (rw [emp_l (by omega) (by omega)] at ht
             have e9 := kr _ (ht ▸ hld_put hl (96 + (e : Int)))
             rw [← ht] at e9
             rw [wS_15, wS_14, e1, show ((l.length : Int) + 1) = ((l ++ [96 + (e : Int)]).length : Int) by simp]
             exact e9)
    · refine m_aload_n 9 dX4_spellEmpty_8 rfl rfl ?_
      refine m_getf 12 foX4_20 dX4_spellEmpty_9 rfl (by first | rfl | assumption) (by rfl) ?_
      refine i_bipush 14 122 dX4_spellEmpty_12 rfl (by decide) ?_
      refine m_cV (M' := MX3_put) 17 [_] kX4_29 imX3_put seX3_put clX3_put dX4_spellEmpty_14 rfl rfl rfl (by first | rfl | assumption) (m_rmI (by omega) (Nat.le_of_ble_eq_true rfl) (Nat.le_refl _) (Nat.le_refl _)) (c_X3_put (i := 13) (c := 14) hG d b14 b15 (by decide) ⟨by omega, by omega⟩ (by omega)) ?_
      refine m_pop 18 dX4_spellEmpty_17 rfl rfl ?_
      refine i_inc 21 dX4_spellEmpty_18 rfl rfl (by decide) ?_
      refine m_goto 2 dX4_spellEmpty_21 (by decide) ?_
      rw [wS_15, wS_14, e1, show ((l.length : Int) + 1) = ((l ++ [122]).length : Int) by simp]
      rw [show ((e : Int) + -26) = ((e - 26 : Nat) : Int) by omega]
      refine ih (e - 26) _ _ (by omega) (by omega) (hld_put hl 122) (by simp; omega) ?_
      rw [← ht, emp_z (e := e) (by omega)]
      simp
set_option maxHeartbeats 4000000 in
set_option maxRecDepth 100000 in
theorem c_X4_spellEmpty (hG : m_G G) (d : Nat) (h13 : w[13]? = some oScribe) (hw : 15 < w.length) {N : Nat} (hN : N < 100000) {e : Nat} {l : List Int} {g : Nat → Int} (he : e < 1000) (hl : hld l g) (hlen : l.length + e ≤ N) : m_Ct G MX4_spellEmpty (m_r (d + 1) 0 0) [.ref 13, vI (e : Int)] (wS w (oRow 15 (l.length : Int)) (cI N g)) (fun r x => r = some none ∧ ∃ g, hld (l ++ emp e) g ∧ x = wS w (oRow 15 ((l ++ emp e).length : Int)) (cI N g)) := by
  refine m_enter (L := [some (.ref 13), some (vI (e : Int)), none]) (by decide) hG (m_c1 rfl) (Nat.le_of_ble_eq_true rfl) rfl ?_
  refine m_iload_n 1 dX4_spellEmpty_0 rfl rfl ?_
  refine m_istore_n 2 dX4_spellEmpty_1 rfl (by decide) ?_
  exact l_X4_spellEmpty hG d h13 hw hN (t := l ++ emp e) (fun g hg => ⟨rfl, g, hg, rfl⟩) e e l g (Nat.le_refl _) he hl hlen rfl
set_option maxHeartbeats 4000000 in
set_option maxRecDepth 100000 in
theorem c_X4_spellNumber (hG : m_G G) (d : Nat) (h13 : w[13]? = some oScribe) (hw : 15 < w.length) {N : Nat} (hN : N < 100000) {z : Int} {l : List Int} {g : Nat → Int} (hz : 0 ≤ z ∧ z ≤ 99) (hl : hld l g) (hlen : l.length + 2 ≤ N) : m_Ct G MX4_spellNumber (m_r (d + 1) 0 0) [.ref 13, vI z] (wS w (oRow 15 (l.length : Int)) (cI N g)) (fun r x => r = some none ∧ ∃ g, hld (l ++ num z) g ∧ x = wS w (oRow 15 ((l ++ num z).length : Int)) (cI N g)) := by
  have b13 : (wS w (oRow 15 (l.length : Int)) (cI N g))[13]? = some oScribe := by rw [wS_n (by decide) (by decide)]; exact h13
  have b14 : (wS w (oRow 15 (l.length : Int)) (cI N g))[14]? = some (oRow 15 (l.length : Int)) := wS_b hw
  have b15 : (wS w (oRow 15 (l.length : Int)) (cI N g))[15]? = some (cI N g) := wS_c hw
  have e1 : ((l.length : Int)).toNat = l.length := Int.toNat_natCast _
  have c13 : (wS w (oRow 15 ((l ++ [48 + z / 10]).length : Int)) (cI N (up g l.length (48 + z / 10))))[13]? = some oScribe := by rw [wS_n (by decide) (by decide)]; exact h13
  have c14 : (wS w (oRow 15 ((l ++ [48 + z / 10]).length : Int)) (cI N (up g l.length (48 + z / 10))))[14]? = some (oRow 15 ((l ++ [48 + z / 10]).length : Int)) := wS_b hw
  have c15 : (wS w (oRow 15 ((l ++ [48 + z / 10]).length : Int)) (cI N (up g l.length (48 + z / 10))))[15]? = some (cI N (up g l.length (48 + z / 10))) := wS_c hw
  have hll : (l ++ [48 + z / 10]).length = l.length + 1 := by simp
  refine m_enter (L := [some (.ref 13), some (vI z)]) (by decide) hG (m_c1 rfl) (Nat.le_of_ble_eq_true rfl) rfl ?_
  refine m_iload_n 1 dX4_spellNumber_0 rfl rfl ?_
  refine i_bipush 3 10 dX4_spellNumber_1 rfl (by decide) ?_
  refine i_icmp_lt 6 21 ⟨by omega, by omega⟩ ⟨by omega, by omega⟩ dX4_spellNumber_3 rfl (by decide) (fun q3 => ?_) (fun q3 => ?_)
  · refine m_aload_n 22 dX4_spellNumber_21 rfl rfl ?_
    refine m_getf 25 foX4_20 dX4_spellNumber_22 rfl (by first | rfl | assumption) (by rfl) ?_
    refine i_bipush 27 48 dX4_spellNumber_25 rfl (by decide) ?_
    refine m_iload_n 28 dX4_spellNumber_27 rfl rfl ?_
    refine i_bipush 30 10 dX4_spellNumber_28 rfl (by decide) ?_
    refine i_rem 31 dX4_spellNumber_30 rfl ⟨by omega, by omega, by omega, by omega⟩ ?_
    refine i_add 32 dX4_spellNumber_31 rfl ?_
    refine m_cV (M' := MX3_put) 35 [_] kX4_29 imX3_put seX3_put clX3_put dX4_spellNumber_32 rfl rfl rfl (by first | rfl | assumption) (m_rmI (by omega) (Nat.le_of_ble_eq_true rfl) (Nat.le_refl _) (Nat.le_refl _)) (c_X3_put (i := 13) (c := 14) hG d b14 b15 (by decide) ⟨by omega, by omega⟩ (by omega)) ?_
    refine m_pop 36 dX4_spellNumber_35 rfl rfl ?_
    refine m_vret dX4_spellNumber_36 rfl ⟨Nat.le_refl _, Nat.le_refl _⟩ ?_
    refine ⟨rfl, up g l.length (48 + z % 10), ?_, ?_⟩
    · unfold num; rw [if_neg (by omega)]; exact hld_put hl _
    · unfold num; rw [if_neg (by omega)]
      rw [wS_15, wS_14, e1]
      simp
  · refine m_aload_n 7 dX4_spellNumber_6 rfl rfl ?_
    refine m_getf 10 foX4_20 dX4_spellNumber_7 rfl (by first | rfl | assumption) (by rfl) ?_
    refine i_bipush 12 48 dX4_spellNumber_10 rfl (by decide) ?_
    refine m_iload_n 13 dX4_spellNumber_12 rfl rfl ?_
    refine i_bipush 15 10 dX4_spellNumber_13 rfl (by decide) ?_
    refine i_div 16 dX4_spellNumber_15 rfl ⟨by omega, by omega, by omega, by omega⟩ ?_
    refine i_add 17 dX4_spellNumber_16 rfl ?_
    refine m_cV (M' := MX3_put) 20 [_] kX4_29 imX3_put seX3_put clX3_put dX4_spellNumber_17 rfl rfl rfl (by first | rfl | assumption) (m_rmI (by omega) (Nat.le_of_ble_eq_true rfl) (Nat.le_refl _) (Nat.le_refl _)) (c_X3_put (i := 13) (c := 14) hG d b14 b15 (by decide) ⟨by omega, by omega⟩ (by omega)) ?_
    refine m_pop 21 dX4_spellNumber_20 rfl rfl ?_
    rw [wS_15, wS_14, e1, show ((l.length : Int) + 1) = ((l ++ [48 + z / 10]).length : Int) by simp]
    refine m_aload_n 22 dX4_spellNumber_21 rfl rfl ?_
    refine m_getf 25 foX4_20 dX4_spellNumber_22 rfl (by first | rfl | assumption) (by rfl) ?_
    refine i_bipush 27 48 dX4_spellNumber_25 rfl (by decide) ?_
    refine m_iload_n 28 dX4_spellNumber_27 rfl rfl ?_
    refine i_bipush 30 10 dX4_spellNumber_28 rfl (by decide) ?_
    refine i_rem 31 dX4_spellNumber_30 rfl ⟨by omega, by omega, by omega, by omega⟩ ?_
    refine i_add 32 dX4_spellNumber_31 rfl ?_
    refine m_cV (M' := MX3_put) 35 [_] kX4_29 imX3_put seX3_put clX3_put dX4_spellNumber_32 rfl rfl rfl (by first | rfl | assumption) (m_rmI (by omega) (Nat.le_of_ble_eq_true rfl) (Nat.le_refl _) (Nat.le_refl _)) (c_X3_put (i := 13) (c := 14) hG d c14 c15 (by decide) ⟨by omega, by omega⟩ (by omega)) ?_
    refine m_pop 36 dX4_spellNumber_35 rfl rfl ?_
    refine m_vret dX4_spellNumber_36 rfl ⟨Nat.le_refl _, Nat.le_refl _⟩ ?_
    refine ⟨rfl, up (up g l.length (48 + z / 10)) (l ++ [48 + z / 10]).length (48 + z % 10), ?_, ?_⟩
    · unfold num; rw [if_pos (by omega), ← List.append_assoc]; exact hld_put (hld_put hl _) _
    · unfold num; rw [if_pos (by omega), ← List.append_assoc]
      rw [wS_15, wS_14, Int.toNat_natCast, show (((l ++ [48 + z / 10]).length : Int) + 1) = ((l ++ [48 + z / 10] ++ [48 + z % 10]).length : Int) by rw [List.length_append (as := l ++ [48 + z / 10])]; rfl]
set_option maxHeartbeats 4000000 in
set_option maxRecDepth 100000 in
theorem l_X4_spell (hG : m_G G) (d : Nat) (h13 : w[13]? = some oScribe) (hw : 15 < w.length) {N : Nat} (hN : N < 100000) {n : Nat} (hNn : N = 3 * n) (hn : n ≤ 256) {mk : Nat → Int} (h20 : w[20]? = some (cI n mk)) (hM : ∀ j, j < n → 0 ≤ mk j ∧ mk j ≤ 99) {Q : Option (Option Value) → List mC → Prop} {t : List Int} (kr : ∀ g, hld t g → Q (some none) (wS w (oRow 15 (t.length : Int)) (cI N g))) :
    ∀ (j p e : Nat) (l : List Int) (g : Nat → Int), p + j = n → hld l g → e ≤ p ∧ l.length + e ≤ 3 * p → l ++ txF mk j p e = t → m_J G MX4_spell (m_r (d + 2) 0 0) Q 0 0 11 [some (.ref 13), some (.ref 20), some (vI (e : Int)), some (vI (p : Int))] [] (wS w (oRow 15 (l.length : Int)) (cI N g)) := by
  intro j
  induction j with
  | zero =>
    intro p e l g hpj hl hlen ht
    have b13 : (wS w (oRow 15 (l.length : Int)) (cI N g))[13]? = some oScribe := by rw [wS_n (by decide) (by decide)]; exact h13
    have b14 : (wS w (oRow 15 (l.length : Int)) (cI N g))[14]? = some (oRow 15 (l.length : Int)) := wS_b hw
    have b15 : (wS w (oRow 15 (l.length : Int)) (cI N g))[15]? = some (cI N g) := wS_c hw
    have b20 : (wS w (oRow 15 (l.length : Int)) (cI N g))[20]? = some (cI n mk) := by rw [wS_n (by decide) (by decide)]; exact h20
    have e1 : ((l.length : Int)).toNat = l.length := Int.toNat_natCast _
    have e3 : ((p : Int)).toNat = p := Int.toNat_natCast _
    refine m_iload_n 12 dX4_spell_11 rfl rfl ?_
    refine m_aload_n 13 dX4_spell_12 rfl rfl ?_
    refine i_len 14 dX4_spell_13 rfl (by first | rfl | assumption) ?_
    refine i_icmp_ge 17 67 ⟨by omega, by omega⟩ ⟨by omega, by omega⟩ dX4_spell_14 rfl (by decide) (fun _ => ?_) (fun h => absurd h (by omega))
    refine m_aload_n 68 dX4_spell_67 rfl rfl ?_
    refine m_iload_n 69 dX4_spell_68 rfl rfl ?_
    refine m_cVr (M' := MX4_spellEmpty) 72 [_] kX4_33 imX4_spellEmpty seX4_spellEmpty clX4_spellEmpty dX4_spell_69 rfl rfl rfl (by first | rfl | assumption) (m_rmI (by omega) (Nat.le_of_ble_eq_true rfl) (Nat.le_refl _) (Nat.le_refl _)) (c_X4_spellEmpty hG d h13 hw hN (e := e) (l := l) (by omega) hl (by omega)) (fun w2 h => by cases h.1) (fun v w2 h => ?_)
    obtain ⟨hv, g2, hl2, rfl⟩ := h
    cases hv
    refine m_vret dX4_spell_72 rfl ⟨Nat.le_refl _, Nat.le_refl _⟩ ?_
    have e9 := kr g2 (ht ▸ hl2)
    rw [← ht] at e9
    exact e9
  | succ j ih =>
    intro p e l g hpj hl hlen ht
    have hMp := hM p (by omega)
    unfold txF at ht
    have b13 : (wS w (oRow 15 (l.length : Int)) (cI N g))[13]? = some oScribe := by rw [wS_n (by decide) (by decide)]; exact h13
    have b14 : (wS w (oRow 15 (l.length : Int)) (cI N g))[14]? = some (oRow 15 (l.length : Int)) := wS_b hw
    have b15 : (wS w (oRow 15 (l.length : Int)) (cI N g))[15]? = some (cI N g) := wS_c hw
    have b20 : (wS w (oRow 15 (l.length : Int)) (cI N g))[20]? = some (cI n mk) := by rw [wS_n (by decide) (by decide)]; exact h20
    have e1 : ((l.length : Int)).toNat = l.length := Int.toNat_natCast _
    have e3 : ((p : Int)).toNat = p := Int.toNat_natCast _
    refine m_iload_n 12 dX4_spell_11 rfl rfl ?_
    refine m_aload_n 13 dX4_spell_12 rfl rfl ?_
    refine i_len 14 dX4_spell_13 rfl (by first | rfl | assumption) ?_
    refine i_icmp_ge 17 67 ⟨by omega, by omega⟩ ⟨by omega, by omega⟩ dX4_spell_14 rfl (by decide) (fun h => absurd h (by omega)) (fun _ => ?_)
    refine m_aload_n 18 dX4_spell_17 rfl rfl ?_
    refine m_iload_n 19 dX4_spell_18 rfl rfl ?_
    refine i_ald 20 dX4_spell_19 rfl (by first | rfl | assumption) ⟨by omega, by omega, by omega⟩ ?_
    rw [e3]
    refine i_if_ne 23 29 ⟨by omega, by omega⟩ dX4_spell_20 rfl (by decide) (fun q20 => ?_) (fun q20 => ?_)
    · refine m_iload_n 30 dX4_spell_29 rfl rfl ?_
      refine i_if_le 33 47 ⟨by omega, by omega⟩ dX4_spell_30 rfl (by decide) (fun q30 => ?_) (fun q30 => ?_)
      · refine m_aload_n 48 dX4_spell_47 rfl rfl ?_
        refine m_iload_n 49 dX4_spell_48 rfl rfl ?_
        refine m_cVr (M' := MX4_spellEmpty) 52 [_] kX4_33 imX4_spellEmpty seX4_spellEmpty clX4_spellEmpty dX4_spell_49 rfl rfl rfl (by first | rfl | assumption) (m_rmI (by omega) (Nat.le_of_ble_eq_true rfl) (Nat.le_refl _) (Nat.le_refl _)) (c_X4_spellEmpty hG d h13 hw hN (e := e) (l := l) (by omega) hl (by first | omega | (simp; omega))) (fun w2 h => by cases h.1) (fun v w2 h => ?_)
        obtain ⟨hv, g2, hl2, rfl⟩ := h
        cases hv
        have hel := emp_len e
        have d13 : (wS w (oRow 15 (((l) ++ emp e).length : Int)) (cI N g2))[13]? = some oScribe := by rw [wS_n (by decide) (by decide)]; exact h13
        have d14 : (wS w (oRow 15 (((l) ++ emp e).length : Int)) (cI N g2))[14]? = some (oRow 15 (((l) ++ emp e).length : Int)) := wS_b hw
        have d15 : (wS w (oRow 15 (((l) ++ emp e).length : Int)) (cI N g2))[15]? = some (cI N g2) := wS_c hw
        have d20 : (wS w (oRow 15 (((l) ++ emp e).length : Int)) (cI N g2))[20]? = some (cI n mk) := by rw [wS_n (by decide) (by decide)]; exact h20
        refine m_aload_n 53 dX4_spell_52 rfl rfl ?_
        refine m_aload_n 54 dX4_spell_53 rfl rfl ?_
        refine m_iload_n 55 dX4_spell_54 rfl rfl ?_
        refine i_ald 56 dX4_spell_55 rfl (by first | rfl | assumption) ⟨by omega, by omega, by omega⟩ ?_
        rw [e3]
        refine m_cVr (M' := MX4_spellNumber) 59 [_] kX4_36 imX4_spellNumber seX4_spellNumber clX4_spellNumber dX4_spell_56 rfl rfl rfl (by first | rfl | assumption) (m_rmI (by omega) (Nat.le_of_ble_eq_true rfl) (Nat.le_refl _) (Nat.le_refl _)) (c_X4_spellNumber hG d h13 hw hN (l := (l) ++ emp e) (hM p (by omega)) hl2 (by simp; omega)) (fun w2 h => by cases h.1) (fun v w2 h => ?_)
        obtain ⟨hv, g3, hl3, rfl⟩ := h
        cases hv
        have hnl := num_len (mk p)
        refine i_const 60 dX4_spell_59 rfl ?_
        refine m_istore_n 61 dX4_spell_60 rfl (by decide) ?_
        refine i_inc 64 dX4_spell_61 rfl rfl (by decide) ?_
        refine m_goto 11 dX4_spell_64 (by decide) ?_
        refine ih (p + 1) 0 _ _ (by omega) hl3 (by simp; omega) ?_
        rw [← ht, if_neg q20]
        rw [if_neg (by omega)]
        simp
      · refine m_iload_n 34 dX4_spell_33 rfl rfl ?_
        refine i_if_ne 37 47 ⟨by omega, by omega⟩ dX4_spell_34 rfl (by decide) (fun q34 => ?_) (fun q34 => ?_)
        · refine m_aload_n 48 dX4_spell_47 rfl rfl ?_
          refine m_iload_n 49 dX4_spell_48 rfl rfl ?_
          refine m_cVr (M' := MX4_spellEmpty) 52 [_] kX4_33 imX4_spellEmpty seX4_spellEmpty clX4_spellEmpty dX4_spell_49 rfl rfl rfl (by first | rfl | assumption) (m_rmI (by omega) (Nat.le_of_ble_eq_true rfl) (Nat.le_refl _) (Nat.le_refl _)) (c_X4_spellEmpty hG d h13 hw hN (e := e) (l := l) (by omega) hl (by first | omega | (simp; omega))) (fun w2 h => by cases h.1) (fun v w2 h => ?_)
          obtain ⟨hv, g2, hl2, rfl⟩ := h
          cases hv
          have hel := emp_len e
          have d13 : (wS w (oRow 15 (((l) ++ emp e).length : Int)) (cI N g2))[13]? = some oScribe := by rw [wS_n (by decide) (by decide)]; exact h13
          have d14 : (wS w (oRow 15 (((l) ++ emp e).length : Int)) (cI N g2))[14]? = some (oRow 15 (((l) ++ emp e).length : Int)) := wS_b hw
          have d15 : (wS w (oRow 15 (((l) ++ emp e).length : Int)) (cI N g2))[15]? = some (cI N g2) := wS_c hw
          have d20 : (wS w (oRow 15 (((l) ++ emp e).length : Int)) (cI N g2))[20]? = some (cI n mk) := by rw [wS_n (by decide) (by decide)]; exact h20
          refine m_aload_n 53 dX4_spell_52 rfl rfl ?_
          refine m_aload_n 54 dX4_spell_53 rfl rfl ?_
          refine m_iload_n 55 dX4_spell_54 rfl rfl ?_
          refine i_ald 56 dX4_spell_55 rfl (by first | rfl | assumption) ⟨by omega, by omega, by omega⟩ ?_
          rw [e3]
          refine m_cVr (M' := MX4_spellNumber) 59 [_] kX4_36 imX4_spellNumber seX4_spellNumber clX4_spellNumber dX4_spell_56 rfl rfl rfl (by first | rfl | assumption) (m_rmI (by omega) (Nat.le_of_ble_eq_true rfl) (Nat.le_refl _) (Nat.le_refl _)) (c_X4_spellNumber hG d h13 hw hN (l := (l) ++ emp e) (hM p (by omega)) hl2 (by simp; omega)) (fun w2 h => by cases h.1) (fun v w2 h => ?_)
          obtain ⟨hv, g3, hl3, rfl⟩ := h
          cases hv
          have hnl := num_len (mk p)
          refine i_const 60 dX4_spell_59 rfl ?_
          refine m_istore_n 61 dX4_spell_60 rfl (by decide) ?_
          refine i_inc 64 dX4_spell_61 rfl rfl (by decide) ?_
          refine m_goto 11 dX4_spell_64 (by decide) ?_
          refine ih (p + 1) 0 _ _ (by omega) hl3 (by simp; omega) ?_
          rw [← ht, if_neg q20]
          rw [if_neg (by omega)]
          simp
        · refine m_aload_n 38 dX4_spell_37 rfl rfl ?_
          refine m_getf 41 foX4_20 dX4_spell_38 rfl (by first | rfl | assumption) (by rfl) ?_
          refine i_bipush 43 32 dX4_spell_41 rfl (by decide) ?_
          refine m_cV (M' := MX3_put) 46 [_] kX4_29 imX3_put seX3_put clX3_put dX4_spell_43 rfl rfl rfl (by first | rfl | assumption) (m_rmI (by omega) (Nat.le_of_ble_eq_true rfl) (Nat.le_refl _) (Nat.le_refl _)) (c_X3_put (i := 13) (c := 14) hG (d + 1) b14 b15 (by decide) ⟨by omega, by omega⟩ (by omega)) ?_
          refine m_pop 47 dX4_spell_46 rfl rfl ?_
          rw [wS_15, wS_14, e1, show ((l.length : Int) + 1) = ((l ++ [32]).length : Int) by simp]
          have c13 : (wS w (oRow 15 ((l ++ [32]).length : Int)) (cI N (up g l.length 32)))[13]? = some oScribe := by rw [wS_n (by decide) (by decide)]; exact h13
          have c14 : (wS w (oRow 15 ((l ++ [32]).length : Int)) (cI N (up g l.length 32)))[14]? = some (oRow 15 ((l ++ [32]).length : Int)) := wS_b hw
          have c15 : (wS w (oRow 15 ((l ++ [32]).length : Int)) (cI N (up g l.length 32)))[15]? = some (cI N (up g l.length 32)) := wS_c hw
          have c20 : (wS w (oRow 15 ((l ++ [32]).length : Int)) (cI N (up g l.length 32)))[20]? = some (cI n mk) := by rw [wS_n (by decide) (by decide)]; exact h20
          refine m_aload_n 48 dX4_spell_47 rfl rfl ?_
          refine m_iload_n 49 dX4_spell_48 rfl rfl ?_
          refine m_cVr (M' := MX4_spellEmpty) 52 [_] kX4_33 imX4_spellEmpty seX4_spellEmpty clX4_spellEmpty dX4_spell_49 rfl rfl rfl (by first | rfl | assumption) (m_rmI (by omega) (Nat.le_of_ble_eq_true rfl) (Nat.le_refl _) (Nat.le_refl _)) (c_X4_spellEmpty hG d h13 hw hN (e := e) (l := l ++ [32]) (by omega) (hld_put hl 32) (by first | omega | (simp; omega))) (fun w2 h => by cases h.1) (fun v w2 h => ?_)
          obtain ⟨hv, g2, hl2, rfl⟩ := h
          cases hv
          have hel := emp_len e
          have d13 : (wS w (oRow 15 (((l ++ [32]) ++ emp e).length : Int)) (cI N g2))[13]? = some oScribe := by rw [wS_n (by decide) (by decide)]; exact h13
          have d14 : (wS w (oRow 15 (((l ++ [32]) ++ emp e).length : Int)) (cI N g2))[14]? = some (oRow 15 (((l ++ [32]) ++ emp e).length : Int)) := wS_b hw
          have d15 : (wS w (oRow 15 (((l ++ [32]) ++ emp e).length : Int)) (cI N g2))[15]? = some (cI N g2) := wS_c hw
          have d20 : (wS w (oRow 15 (((l ++ [32]) ++ emp e).length : Int)) (cI N g2))[20]? = some (cI n mk) := by rw [wS_n (by decide) (by decide)]; exact h20
          refine m_aload_n 53 dX4_spell_52 rfl rfl ?_
          refine m_aload_n 54 dX4_spell_53 rfl rfl ?_
          refine m_iload_n 55 dX4_spell_54 rfl rfl ?_
          refine i_ald 56 dX4_spell_55 rfl (by first | rfl | assumption) ⟨by omega, by omega, by omega⟩ ?_
          rw [e3]
          refine m_cVr (M' := MX4_spellNumber) 59 [_] kX4_36 imX4_spellNumber seX4_spellNumber clX4_spellNumber dX4_spell_56 rfl rfl rfl (by first | rfl | assumption) (m_rmI (by omega) (Nat.le_of_ble_eq_true rfl) (Nat.le_refl _) (Nat.le_refl _)) (c_X4_spellNumber hG d h13 hw hN (l := (l ++ [32]) ++ emp e) (hM p (by omega)) hl2 (by simp; omega)) (fun w2 h => by cases h.1) (fun v w2 h => ?_)
          obtain ⟨hv, g3, hl3, rfl⟩ := h
          cases hv
          have hnl := num_len (mk p)
          refine i_const 60 dX4_spell_59 rfl ?_
          refine m_istore_n 61 dX4_spell_60 rfl (by decide) ?_
          refine i_inc 64 dX4_spell_61 rfl rfl (by decide) ?_
          refine m_goto 11 dX4_spell_64 (by decide) ?_
          refine ih (p + 1) 0 _ _ (by omega) hl3 (by simp; omega) ?_
          rw [← ht, if_neg q20]
          rw [if_pos ⟨by omega, by omega⟩]
          simp
    · refine i_inc 26 dX4_spell_23 rfl rfl (by decide) ?_
      refine m_goto 61 dX4_spell_26 (by decide) ?_
      refine i_inc 64 dX4_spell_61 rfl rfl (by decide) ?_
      refine m_goto 11 dX4_spell_64 (by decide) ?_
      rw [show ((e : Int) + 1) = ((e + 1 : Nat) : Int) by omega]
      refine ih (p + 1) (e + 1) l g (by omega) hl (by omega) ?_
      rw [← ht, if_pos q20]
set_option maxHeartbeats 4000000 in
set_option maxRecDepth 100000 in
theorem c_X4_spell (hG : m_G G) (d : Nat) (h13 : w[13]? = some oScribe) (hw : 15 < w.length) {N : Nat} (hN : N < 100000) {n : Nat} (hNn : N = 3 * n) (hn : n ≤ 256) {mk : Nat → Int} (h20 : w[20]? = some (cI n mk)) (hM : ∀ j, j < n → 0 ≤ mk j ∧ mk j ≤ 99) {l0 : Int} {g0 : Nat → Int} (h14 : w[14]? = some (oRow 15 l0)) (h15 : w[15]? = some (cI N g0)) : m_Ct G MX4_spell (m_r (d + 2) 0 0) [.ref 13, .ref 20] w (fun r x => r = some none ∧ ∃ g, hld (txF mk n 0 0) g ∧ x = wS w (oRow 15 ((txF mk n 0 0).length : Int)) (cI N g)) := by
  have c0 : w.set 14 (oRow 15 0) = wS w (oRow 15 ((([] : List Int).length : Nat) : Int)) (cI N g0) := by
    unfold wS
    rw [List.set_comm _ _ (by decide : (14 : Nat) ≠ 15), set_get h15]
    rfl
  have c20 : (w.set 14 (oRow 15 0))[20]? = some (cI n mk) := by rw [List.getElem?_set_ne (by decide)]; exact h20
  refine m_enter (L := [some (.ref 13), some (.ref 20), none, none]) (by decide) hG (m_c1 rfl) (Nat.le_of_ble_eq_true rfl) rfl ?_
  refine m_aload_n 1 dX4_spell_0 rfl rfl ?_
  refine m_getf 4 foX4_20 dX4_spell_1 rfl (by first | rfl | assumption) (by rfl) ?_
  refine m_cV (M' := MX3_clear) 7 [] kX4_26 imX3_clear seX3_clear clX3_clear dX4_spell_4 rfl rfl rfl (by first | rfl | assumption) (m_rmI (by omega) (Nat.le_of_ble_eq_true rfl) (Nat.le_refl _) (Nat.le_refl _)) (c_X3_clear (i := 13) hG (d + 1) h14) ?_
  refine i_const 8 dX4_spell_7 rfl ?_
  refine m_istore_n 9 dX4_spell_8 rfl (by decide) ?_
  refine i_const 10 dX4_spell_9 rfl ?_
  refine m_istore_n 11 dX4_spell_10 rfl (by decide) ?_
  rw [c0]
  exact l_X4_spell hG d h13 hw hN hNn hn h20 hM (t := txF mk n 0 0) (fun g hg => ⟨rfl, g, hg, rfl⟩) n 0 0 [] g0 (by omega) (hld_nil g0) ⟨by omega, by simp⟩ rfl
theorem txF_len (mk : Nat → Int) : ∀ (j p e : Nat), (txF mk j p e).length ≤ 3 * j + e
  | 0, p, e => by
    have := emp_len e
    unfold txF
    omega
  | j + 1, p, e => by
    unfold txF
    split
    · have := txF_len mk j (p + 1) (e + 1)
      omega
    · have a := txF_len mk j (p + 1) 0
      have b := emp_len e
      have c := num_len (mk p)
      have d : (if 0 < p ∧ e = 0 then [(32 : Int)] else []).length ≤ 1 := by split <;> simp
      have f : e = 0 ∨ (if 0 < p ∧ e = 0 then [(32 : Int)] else []).length = 0 := by
        by_cases he : e = 0
        · exact Or.inl he
        · right; rw [if_neg (fun h => he h.2)]; rfl
      simp only [List.length_append]
      omega
/-- byte i of a text, -1 where there is none -/
def atL (t : List Int) (i : Int) : Int := if 0 ≤ i ∧ i < t.length then t.getD i.toNat 0 else -1
set_option maxHeartbeats 4000000 in
set_option maxRecDepth 100000 in
theorem c_X7_text (hG : m_G G) (d : Nat) {k W H : Int} {n sl m : Nat} {col row bes : Nat → Int} {wal : Nat → Bool} (hX : cX w k W H n sl m col row bes wal) {mk : Nat → Int} (h20 : w[20]? = some (cI n mk)) (hM : ∀ j, j < n → 0 ≤ mk j ∧ mk j ≤ 99) (h13 : w[13]? = some oScribe) (hw : 15 < w.length) {l0 : Int} {g0 : Nat → Int} (h14 : w[14]? = some (oRow 15 l0)) (h15 : w[15]? = some (cI (3 * n) g0)) {i : Int} (hi : iR i) : m_Ct G MX7_text (m_r (d + 3) 0 0) [.ref 1, vI i] w (fun r x => r = some (some (vI (atL (txF mk n 0 0) i))) ∧ ∃ (l : Int) (g : Nat → Int), x = wS w (oRow 15 l) (cI (3 * n) g)) := by
  have hXX := hX
  obtain ⟨h1, h2, h3, h4, h5, h6, h7, h8, hF, hN, hsl, hcr, hbs⟩ := hX
  have hFF := hF
  have hNN := hN
  have hnb := hF.n
  obtain ⟨hk0, hk4, hW1, hW2, hH1, hH2, hn, hg4⟩ := hF
  obtain ⟨hn1, hn2, hl1, hl2, hm, hm2⟩ := hN
  have htl := txF_len mk n 0 0
  have hii := hi
  obtain ⟨hi1, hi2⟩ := hi
  refine m_enter (L := [some (.ref 1), some (vI i)]) (by decide) hG (m_c1 rfl) (Nat.le_of_ble_eq_true rfl) rfl ?_
  refine m_aload_n 1 dX7_text_0 rfl rfl ?_
  refine m_getf 4 foX7_46 dX7_text_1 rfl (by first | rfl | assumption) (by rfl) ?_
  refine m_aload_n 5 dX7_text_4 rfl rfl ?_
  refine m_getf 8 foX7_70 dX7_text_5 rfl (by first | rfl | assumption) (by rfl) ?_
  refine m_cVr (M' := MX4_spell) 11 [_] kX7_146 imX4_spell seX4_spell clX4_spell dX7_text_8 rfl rfl rfl (by first | rfl | assumption) (m_rmI (by omega) (Nat.le_of_ble_eq_true rfl) (Nat.le_refl _) (Nat.le_refl _)) (c_X4_spell hG d h13 hw (by omega) rfl (by omega) h20 hM h14 h15) (fun w2 h => by cases h.1) (fun v w2 h => ?_)
  obtain ⟨hv, g2, hl2, rfl⟩ := h
  cases hv
  have t1 : (wS w (oRow 15 ((txF mk n 0 0).length : Int)) (cI (3 * n) g2))[1]? = some oGrid := by rw [wS_n (by decide) (by decide)]; exact h1
  have t13 : (wS w (oRow 15 ((txF mk n 0 0).length : Int)) (cI (3 * n) g2))[13]? = some oScribe := by rw [wS_n (by decide) (by decide)]; exact h13
  have t14 : (wS w (oRow 15 ((txF mk n 0 0).length : Int)) (cI (3 * n) g2))[14]? = some (oRow 15 ((txF mk n 0 0).length : Int)) := wS_b hw
  have t15 : (wS w (oRow 15 ((txF mk n 0 0).length : Int)) (cI (3 * n) g2))[15]? = some (cI (3 * n) g2) := wS_c hw
  refine m_aload_n 12 dX7_text_11 rfl rfl ?_
  refine m_getf 15 foX7_46 dX7_text_12 rfl (by first | rfl | assumption) (by rfl) ?_
  refine m_getf 18 foX7_150 dX7_text_15 rfl (by first | rfl | assumption) (by rfl) ?_
  refine m_iload_n 19 dX7_text_18 rfl rfl ?_
  refine m_cV (M' := MX3_at) 22 [_] kX7_153 imX3_at seX3_at clX3_at dX7_text_19 rfl rfl rfl (by first | rfl | assumption) (m_rmI (by omega) (Nat.le_of_ble_eq_true rfl) (Nat.le_refl _) (Nat.le_refl _)) (c_X3_at hG (d + 2) t14 t15 ⟨by omega, by omega⟩ hii (by omega)) ?_
  refine i_ret _ dX7_text_22 rfl ⟨Nat.le_refl _, Nat.le_refl _⟩ ?_ ⟨rfl, _, _, rfl⟩
  unfold rAt atL
  by_cases hc : 0 ≤ i ∧ i < (txF mk n 0 0).length
  · rw [if_pos ⟨hc.1, hc.2, by omega⟩, if_pos hc]
    exact hl2 _ (by omega)
  · rw [if_neg (by omega), if_neg hc]
end SC
end
