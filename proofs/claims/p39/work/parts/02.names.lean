-- ===== PART A: goes FIRST, ahead of the names: the tables' words, and 'selects' of the private methods out of them =====
/-- a private method of a class that the tables say can be made, by its rows of tables_1 -/
def lw_okq (q : MethodName × Nat) : Prop := (q.1.cls ≠ "java/lang/invoke/MethodHandle" ∧ q.1.cls ≠ "java/lang/invoke/VarHandle") ∧ Cond.instantiable q.1.cls q.2 ∈ tables_1 ∧ Cond.privateMethod q.1 ∈ tables_1 ∧ Cond.instanceMethod q.1 ∈ tables_1
theorem lw_p0 : lw_okq (⟨"java/lang/Throwable", "fillInStackTrace", "(I)Ljava/lang/Throwable;"⟩, 6) := ⟨⟨by decide +kernel, by decide +kernel⟩, List.mem_of_getElem? (i := 338) (by decide +kernel), List.mem_of_getElem? (i := 336) (by decide +kernel), List.mem_of_getElem? (i := 337) (by decide +kernel)⟩
theorem lw_p1 : lw_okq (⟨"MacroBench$Expander", "fail", "(II)V"⟩, 11) := ⟨⟨by decide +kernel, by decide +kernel⟩, List.mem_of_getElem? (i := 136) (by decide +kernel), List.mem_of_getElem? (i := 640) (by decide +kernel), List.mem_of_getElem? (i := 641) (by decide +kernel)⟩
theorem lw_p2 : lw_okq (⟨"MacroBench$Expander", "expandLine", "(I)I"⟩, 11) := ⟨⟨by decide +kernel, by decide +kernel⟩, List.mem_of_getElem? (i := 136) (by decide +kernel), List.mem_of_getElem? (i := 646) (by decide +kernel), List.mem_of_getElem? (i := 647) (by decide +kernel)⟩
theorem lw_p3 : lw_okq (⟨"MacroBench$Expander", "leaveMacro", "(I)I"⟩, 11) := ⟨⟨by decide +kernel, by decide +kernel⟩, List.mem_of_getElem? (i := 136) (by decide +kernel), List.mem_of_getElem? (i := 658) (by decide +kernel), List.mem_of_getElem? (i := 659) (by decide +kernel)⟩
theorem lw_p4 : lw_okq (⟨"MacroBench$Expander", "endRound", "(I)I"⟩, 11) := ⟨⟨by decide +kernel, by decide +kernel⟩, List.mem_of_getElem? (i := 136) (by decide +kernel), List.mem_of_getElem? (i := 693) (by decide +kernel), List.mem_of_getElem? (i := 694) (by decide +kernel)⟩
theorem lw_p5 : lw_okq (⟨"MacroBench$Expander", "faultAt", "(II)I"⟩, 11) := ⟨⟨by decide +kernel, by decide +kernel⟩, List.mem_of_getElem? (i := 136) (by decide +kernel), List.mem_of_getElem? (i := 700) (by decide +kernel), List.mem_of_getElem? (i := 701) (by decide +kernel)⟩
theorem lw_p6 : lw_okq (⟨"MacroBench$Expander", "valueOf", "(I)I"⟩, 11) := ⟨⟨by decide +kernel, by decide +kernel⟩, List.mem_of_getElem? (i := 136) (by decide +kernel), List.mem_of_getElem? (i := 711) (by decide +kernel), List.mem_of_getElem? (i := 712) (by decide +kernel)⟩
theorem lw_p7 : lw_okq (⟨"MacroBench$Expander", "argument", "(I)I"⟩, 11) := ⟨⟨by decide +kernel, by decide +kernel⟩, List.mem_of_getElem? (i := 136) (by decide +kernel), List.mem_of_getElem? (i := 718) (by decide +kernel), List.mem_of_getElem? (i := 719) (by decide +kernel)⟩
theorem lw_p8 : lw_okq (⟨"MacroBench$Expander", "scopeOf", "(I)I"⟩, 11) := ⟨⟨by decide +kernel, by decide +kernel⟩, List.mem_of_getElem? (i := 136) (by decide +kernel), List.mem_of_getElem? (i := 729) (by decide +kernel), List.mem_of_getElem? (i := 730) (by decide +kernel)⟩
theorem lw_p9 : lw_okq (⟨"MacroBench$Expander", "enterMacro", "(I)I"⟩, 11) := ⟨⟨by decide +kernel, by decide +kernel⟩, List.mem_of_getElem? (i := 136) (by decide +kernel), List.mem_of_getElem? (i := 741) (by decide +kernel), List.mem_of_getElem? (i := 742) (by decide +kernel)⟩
theorem lw_p10 : lw_okq (⟨"MacroBench$Expander", "pass", "(III)V"⟩, 11) := ⟨⟨by decide +kernel, by decide +kernel⟩, List.mem_of_getElem? (i := 136) (by decide +kernel), List.mem_of_getElem? (i := 745) (by decide +kernel), List.mem_of_getElem? (i := 746) (by decide +kernel)⟩
theorem lw_p11 : lw_okq (⟨"MacroBench$Expander", "beginGroup", "(II)I"⟩, 11) := ⟨⟨by decide +kernel, by decide +kernel⟩, List.mem_of_getElem? (i := 136) (by decide +kernel), List.mem_of_getElem? (i := 757) (by decide +kernel), List.mem_of_getElem? (i := 758) (by decide +kernel)⟩
theorem lw_p12 : lw_okq (⟨"MacroBench$Expander", "addItem", "(II)V"⟩, 11) := ⟨⟨by decide +kernel, by decide +kernel⟩, List.mem_of_getElem? (i := 136) (by decide +kernel), List.mem_of_getElem? (i := 771) (by decide +kernel), List.mem_of_getElem? (i := 772) (by decide +kernel)⟩
theorem lw_p13 : lw_okq (⟨"MacroBench$Expander", "findNames", "()V"⟩, 11) := ⟨⟨by decide +kernel, by decide +kernel⟩, List.mem_of_getElem? (i := 136) (by decide +kernel), List.mem_of_getElem? (i := 791) (by decide +kernel), List.mem_of_getElem? (i := 792) (by decide +kernel)⟩
theorem lw_p14 : lw_okq (⟨"MacroBench$Listing", "findAddresses", "()V"⟩, 8) := ⟨⟨by decide +kernel, by decide +kernel⟩, List.mem_of_getElem? (i := 80) (by decide +kernel), List.mem_of_getElem? (i := 812) (by decide +kernel), List.mem_of_getElem? (i := 813) (by decide +kernel)⟩
theorem lw_p15 : lw_okq (⟨"MacroBench$Listing", "lengthenJumps", "()Z"⟩, 8) := ⟨⟨by decide +kernel, by decide +kernel⟩, List.mem_of_getElem? (i := 80) (by decide +kernel), List.mem_of_getElem? (i := 828) (by decide +kernel), List.mem_of_getElem? (i := 829) (by decide +kernel)⟩
def lw_privs_1 : List (MethodName × Nat) := [(⟨"java/lang/Throwable", "fillInStackTrace", "(I)Ljava/lang/Throwable;"⟩, 6), (⟨"MacroBench$Expander", "fail", "(II)V"⟩, 11), (⟨"MacroBench$Expander", "expandLine", "(I)I"⟩, 11), (⟨"MacroBench$Expander", "leaveMacro", "(I)I"⟩, 11), (⟨"MacroBench$Expander", "endRound", "(I)I"⟩, 11), (⟨"MacroBench$Expander", "faultAt", "(II)I"⟩, 11), (⟨"MacroBench$Expander", "valueOf", "(I)I"⟩, 11), (⟨"MacroBench$Expander", "argument", "(I)I"⟩, 11), (⟨"MacroBench$Expander", "scopeOf", "(I)I"⟩, 11), (⟨"MacroBench$Expander", "enterMacro", "(I)I"⟩, 11), (⟨"MacroBench$Expander", "pass", "(III)V"⟩, 11), (⟨"MacroBench$Expander", "beginGroup", "(II)I"⟩, 11), (⟨"MacroBench$Expander", "addItem", "(II)V"⟩, 11), (⟨"MacroBench$Expander", "findNames", "()V"⟩, 11), (⟨"MacroBench$Listing", "findAddresses", "()V"⟩, 8), (⟨"MacroBench$Listing", "lengthenJumps", "()Z"⟩, 8)]
theorem lw_r1 : ∀ q ∈ lw_privs_1, lw_okq q := List.forall_mem_cons.mpr ⟨lw_p0, List.forall_mem_cons.mpr ⟨lw_p1, List.forall_mem_cons.mpr ⟨lw_p2, List.forall_mem_cons.mpr ⟨lw_p3, List.forall_mem_cons.mpr ⟨lw_p4, List.forall_mem_cons.mpr ⟨lw_p5, List.forall_mem_cons.mpr ⟨lw_p6, List.forall_mem_cons.mpr ⟨lw_p7, List.forall_mem_cons.mpr ⟨lw_p8, List.forall_mem_cons.mpr ⟨lw_p9, List.forall_mem_cons.mpr ⟨lw_p10, List.forall_mem_cons.mpr ⟨lw_p11, List.forall_mem_cons.mpr ⟨lw_p12, List.forall_mem_cons.mpr ⟨lw_p13, List.forall_mem_cons.mpr ⟨lw_p14, List.forall_mem_cons.mpr ⟨lw_p15, fun _ h => absurd h List.not_mem_nil⟩⟩⟩⟩⟩⟩⟩⟩⟩⟩⟩⟩⟩⟩⟩⟩
theorem lw_p16 : lw_okq (⟨"MacroBench$Image", "writeItem", "(LMacroBench$Listing;I)V"⟩, 4) := ⟨⟨by decide +kernel, by decide +kernel⟩, List.mem_of_getElem? (i := 176) (by decide +kernel), List.mem_of_getElem? (i := 856) (by decide +kernel), List.mem_of_getElem? (i := 857) (by decide +kernel)⟩
theorem lw_p17 : lw_okq (⟨"MacroBench$Image", "put", "(I)V"⟩, 4) := ⟨⟨by decide +kernel, by decide +kernel⟩, List.mem_of_getElem? (i := 176) (by decide +kernel), List.mem_of_getElem? (i := 862) (by decide +kernel), List.mem_of_getElem? (i := 863) (by decide +kernel)⟩
theorem lw_p18 : lw_okq (⟨"MacroBench$Image", "putAddress", "(I)V"⟩, 4) := ⟨⟨by decide +kernel, by decide +kernel⟩, List.mem_of_getElem? (i := 176) (by decide +kernel), List.mem_of_getElem? (i := 867) (by decide +kernel), List.mem_of_getElem? (i := 868) (by decide +kernel)⟩
theorem lw_p19 : lw_okq (⟨"MacroBench$Image", "fill", "(I)V"⟩, 4) := ⟨⟨by decide +kernel, by decide +kernel⟩, List.mem_of_getElem? (i := 176) (by decide +kernel), List.mem_of_getElem? (i := 874) (by decide +kernel), List.mem_of_getElem? (i := 875) (by decide +kernel)⟩
theorem lw_p20 : lw_okq (⟨"MacroBench$Source", "isOperand", "(II)Z"⟩, 11) := ⟨⟨by decide +kernel, by decide +kernel⟩, List.mem_of_getElem? (i := 39) (by decide +kernel), List.mem_of_getElem? (i := 903) (by decide +kernel), List.mem_of_getElem? (i := 904) (by decide +kernel)⟩
theorem lw_p21 : lw_okq (⟨"MacroBench$Source", "append", "(IIII)I"⟩, 11) := ⟨⟨by decide +kernel, by decide +kernel⟩, List.mem_of_getElem? (i := 39) (by decide +kernel), List.mem_of_getElem? (i := 911) (by decide +kernel), List.mem_of_getElem? (i := 912) (by decide +kernel)⟩
theorem lw_p22 : lw_okq (⟨"MacroBench$Source", "pair", "(II)V"⟩, 11) := ⟨⟨by decide +kernel, by decide +kernel⟩, List.mem_of_getElem? (i := 39) (by decide +kernel), List.mem_of_getElem? (i := 1050) (by decide +kernel), List.mem_of_getElem? (i := 1051) (by decide +kernel)⟩
theorem lw_p23 : lw_okq (⟨"MacroBench", "requireProgram", "()V"⟩, 6) := ⟨⟨by decide +kernel, by decide +kernel⟩, List.mem_of_getElem? (i := 31) (by decide +kernel), List.mem_of_getElem? (i := 1109) (by decide +kernel), List.mem_of_getElem? (i := 1110) (by decide +kernel)⟩
theorem lw_p24 : lw_okq (⟨"MacroBench", "requireWord", "(I)V"⟩, 6) := ⟨⟨by decide +kernel, by decide +kernel⟩, List.mem_of_getElem? (i := 31) (by decide +kernel), List.mem_of_getElem? (i := 1132) (by decide +kernel), List.mem_of_getElem? (i := 1133) (by decide +kernel)⟩
theorem lw_p25 : lw_okq (⟨"MacroBench$Counter", "countLines", "(IIIII)I"⟩, 5) := ⟨⟨by decide +kernel, by decide +kernel⟩, List.mem_of_getElem? (i := 196) (by decide +kernel), List.mem_of_getElem? (i := 1216) (by decide +kernel), List.mem_of_getElem? (i := 1217) (by decide +kernel)⟩
theorem lw_p26 : lw_okq (⟨"MacroBench$Counter", "countCall", "(IIII)I"⟩, 5) := ⟨⟨by decide +kernel, by decide +kernel⟩, List.mem_of_getElem? (i := 196) (by decide +kernel), List.mem_of_getElem? (i := 1234) (by decide +kernel), List.mem_of_getElem? (i := 1235) (by decide +kernel)⟩
theorem lw_p27 : lw_okq (⟨"MacroBench$Counter", "countMacro", "(III)I"⟩, 5) := ⟨⟨by decide +kernel, by decide +kernel⟩, List.mem_of_getElem? (i := 196) (by decide +kernel), List.mem_of_getElem? (i := 1242) (by decide +kernel), List.mem_of_getElem? (i := 1243) (by decide +kernel)⟩
theorem lw_p28 : lw_okq (⟨"MacroBench$Counter", "recall", "(J)I"⟩, 5) := ⟨⟨by decide +kernel, by decide +kernel⟩, List.mem_of_getElem? (i := 196) (by decide +kernel), List.mem_of_getElem? (i := 1248) (by decide +kernel), List.mem_of_getElem? (i := 1249) (by decide +kernel)⟩
theorem lw_p29 : lw_okq (⟨"MacroBench$Counter", "placeOf", "(J)I"⟩, 5) := ⟨⟨by decide +kernel, by decide +kernel⟩, List.mem_of_getElem? (i := 196) (by decide +kernel), List.mem_of_getElem? (i := 1252) (by decide +kernel), List.mem_of_getElem? (i := 1253) (by decide +kernel)⟩
theorem lw_p30 : lw_okq (⟨"MacroBench$Counter", "remember", "(JI)V"⟩, 5) := ⟨⟨by decide +kernel, by decide +kernel⟩, List.mem_of_getElem? (i := 196) (by decide +kernel), List.mem_of_getElem? (i := 1259) (by decide +kernel), List.mem_of_getElem? (i := 1260) (by decide +kernel)⟩
theorem lw_p31 : lw_okq (⟨"MacroBench", "requireItem", "(I)V"⟩, 6) := ⟨⟨by decide +kernel, by decide +kernel⟩, List.mem_of_getElem? (i := 31) (by decide +kernel), List.mem_of_getElem? (i := 1293) (by decide +kernel), List.mem_of_getElem? (i := 1294) (by decide +kernel)⟩
def lw_privs_2 : List (MethodName × Nat) := [(⟨"MacroBench$Image", "writeItem", "(LMacroBench$Listing;I)V"⟩, 4), (⟨"MacroBench$Image", "put", "(I)V"⟩, 4), (⟨"MacroBench$Image", "putAddress", "(I)V"⟩, 4), (⟨"MacroBench$Image", "fill", "(I)V"⟩, 4), (⟨"MacroBench$Source", "isOperand", "(II)Z"⟩, 11), (⟨"MacroBench$Source", "append", "(IIII)I"⟩, 11), (⟨"MacroBench$Source", "pair", "(II)V"⟩, 11), (⟨"MacroBench", "requireProgram", "()V"⟩, 6), (⟨"MacroBench", "requireWord", "(I)V"⟩, 6), (⟨"MacroBench$Counter", "countLines", "(IIIII)I"⟩, 5), (⟨"MacroBench$Counter", "countCall", "(IIII)I"⟩, 5), (⟨"MacroBench$Counter", "countMacro", "(III)I"⟩, 5), (⟨"MacroBench$Counter", "recall", "(J)I"⟩, 5), (⟨"MacroBench$Counter", "placeOf", "(J)I"⟩, 5), (⟨"MacroBench$Counter", "remember", "(JI)V"⟩, 5), (⟨"MacroBench", "requireItem", "(I)V"⟩, 6)]
theorem lw_r2 : ∀ q ∈ lw_privs_2, lw_okq q := List.forall_mem_cons.mpr ⟨lw_p16, List.forall_mem_cons.mpr ⟨lw_p17, List.forall_mem_cons.mpr ⟨lw_p18, List.forall_mem_cons.mpr ⟨lw_p19, List.forall_mem_cons.mpr ⟨lw_p20, List.forall_mem_cons.mpr ⟨lw_p21, List.forall_mem_cons.mpr ⟨lw_p22, List.forall_mem_cons.mpr ⟨lw_p23, List.forall_mem_cons.mpr ⟨lw_p24, List.forall_mem_cons.mpr ⟨lw_p25, List.forall_mem_cons.mpr ⟨lw_p26, List.forall_mem_cons.mpr ⟨lw_p27, List.forall_mem_cons.mpr ⟨lw_p28, List.forall_mem_cons.mpr ⟨lw_p29, List.forall_mem_cons.mpr ⟨lw_p30, List.forall_mem_cons.mpr ⟨lw_p31, fun _ h => absurd h List.not_mem_nil⟩⟩⟩⟩⟩⟩⟩⟩⟩⟩⟩⟩⟩⟩⟩⟩
def lw_privs : List (MethodName × Nat) := lw_privs_1 ++ (lw_privs_2)
def lw_tbl : List Cond := k2_sels lw_privs ++ tables_1
theorem lw_privs_ok : ∀ q ∈ lw_privs, lw_okq q := by
  show ∀ q ∈ lw_privs_1 ++ (lw_privs_2), lw_okq q
  exact List.forall_mem_append.mpr ⟨lw_r1, lw_r2⟩
/-- the streams that the claim lets the run draw from -/
abbrev lw_cs : List Choice := [Jvm.Choice.named "NaN.bits"]
theorem lw_bits : nanBits ∈ lw_cs := by first | decide | exact List.mem_cons_self | simp [lw_cs, nanBits]
-- ===== end of PART A; then your names; then what follows =====
def RX0 : String := "MacroBench$Counter"
def TX0 : u_T := fun k => match k with
  | 0 => ("MacroBench$Counter", "source", "LMacroBench$Source;", true)
  | 1 => ("MacroBench$Counter", "outerFactors", "[I", true)
  | 2 => ("MacroBench$Counter", "keys", "[J", true)
  | 3 => ("MacroBench$Counter", "counts", "[I", true)
  | _ => ("MacroBench$Counter", "generation", "J", false)
def tyX0 : Nat → FieldType := fun k => match k with
  | 0 => .object "MacroBench$Source"
  | 1 => .array .int
  | 2 => .array .long
  | 3 => .array .int
  | _ => .long
abbrev wsX00 : List Cond := u_ws RX0 TX0 5
theorem nmX0 : ∀ a, a < 5 → ∀ b, b < 5 → a ≠ b → (TX0 a).2.1 ≠ (TX0 b).2.1 := by decide +kernel
theorem tyX0_ok : ∀ k, k < 5 → parseFieldDescriptor (TX0 k).2.2.1 = some (tyX0 k) := by decide +kernel
abbrev cX0_init : ByteArray := prog_2_method_1_code
def yX0_init : MethodName := ⟨RX0, "<init>", "(LMacroBench$Source;)V"⟩
abbrev cX0_forgetMacros : ByteArray := prog_2_method_2_code
def yX0_forgetMacros : MethodName := ⟨RX0, "forgetMacros", "()V"⟩
abbrev cX0_countProgram : ByteArray := prog_2_method_3_code
def yX0_countProgram : MethodName := ⟨RX0, "countProgram", "()I"⟩
abbrev cX0_countMacro : ByteArray := prog_2_method_4_code
def yX0_countMacro : MethodName := ⟨RX0, "countMacro", "(III)I"⟩
abbrev cX0_countLines : ByteArray := prog_2_method_5_code
def yX0_countLines : MethodName := ⟨RX0, "countLines", "(IIIII)I"⟩
abbrev cX0_countCall : ByteArray := prog_2_method_6_code
def yX0_countCall : MethodName := ⟨RX0, "countCall", "(IIII)I"⟩
abbrev cX0_limited : ByteArray := prog_2_method_7_code
def yX0_limited : MethodName := ⟨RX0, "limited", "(J)I"⟩
abbrev cX0_recall : ByteArray := prog_2_method_8_code
def yX0_recall : MethodName := ⟨RX0, "recall", "(J)I"⟩
abbrev cX0_remember : ByteArray := prog_2_method_9_code
def yX0_remember : MethodName := ⟨RX0, "remember", "(JI)V"⟩
abbrev cX0_placeOf : ByteArray := prog_2_method_10_code
def yX0_placeOf : MethodName := ⟨RX0, "placeOf", "(J)I"⟩
def RX1 : String := "MacroBench$Expander"
def TX1 : u_T := fun k => match k with
  | 0 => ("MacroBench$Expander", "source", "LMacroBench$Source;", true)
  | 1 => ("MacroBench$Expander", "listing", "LMacroBench$Listing;", true)
  | 2 => ("MacroBench$Expander", "scopes", "LMacroBench$Scopes;", true)
  | 3 => ("MacroBench$Expander", "roundsLeft", "[I", true)
  | 4 => ("MacroBench$Expander", "callLines", "[I", true)
  | 5 => ("MacroBench$Expander", "arguments", "[I", true)
  | 6 => ("MacroBench$Expander", "argumentScopes", "[I", true)
  | 7 => ("MacroBench$Expander", "depth", "I", false)
  | 8 => ("MacroBench$Expander", "expandedCount", "I", false)
  | 9 => ("MacroBench$Expander", "faultKind", "I", false)
  | _ => ("MacroBench$Expander", "lineOfFault", "I", false)
def tyX1 : Nat → FieldType := fun k => match k with
  | 0 => .object "MacroBench$Source"
  | 1 => .object "MacroBench$Listing"
  | 2 => .object "MacroBench$Scopes"
  | 3 => .array .int
  | 4 => .array .int
  | 5 => .array .int
  | 6 => .array .int
  | 7 => .int
  | 8 => .int
  | 9 => .int
  | _ => .int
abbrev wsX10 : List Cond := u_ws RX1 TX1 11
theorem nmX1 : ∀ a, a < 11 → ∀ b, b < 11 → a ≠ b → (TX1 a).2.1 ≠ (TX1 b).2.1 := by decide +kernel
theorem tyX1_ok : ∀ k, k < 11 → parseFieldDescriptor (TX1 k).2.2.1 = some (tyX1 k) := by decide +kernel
abbrev cX1_init : ByteArray := prog_3_method_1_code
def yX1_init : MethodName := ⟨RX1, "<init>", "(LMacroBench$Source;LMacroBench$Listing;LMacroBench$Scopes;)V"⟩
abbrev cX1_faultKind : ByteArray := prog_3_method_2_code
def yX1_faultKind : MethodName := ⟨RX1, "faultKind", "()I"⟩
abbrev cX1_lineOfFault : ByteArray := prog_3_method_3_code
def yX1_lineOfFault : MethodName := ⟨RX1, "lineOfFault", "()I"⟩
abbrev cX1_expandProgram : ByteArray := prog_3_method_4_code
def yX1_expandProgram : MethodName := ⟨RX1, "expandProgram", "()V"⟩
abbrev cX1_findNames : ByteArray := prog_3_method_5_code
def yX1_findNames : MethodName := ⟨RX1, "findNames", "()V"⟩
abbrev cX1_fail : ByteArray := prog_3_method_6_code
def yX1_fail : MethodName := ⟨RX1, "fail", "(II)V"⟩
abbrev cX1_expandLine : ByteArray := prog_3_method_7_code
def yX1_expandLine : MethodName := ⟨RX1, "expandLine", "(I)I"⟩
abbrev cX1_faultAt : ByteArray := prog_3_method_8_code
def yX1_faultAt : MethodName := ⟨RX1, "faultAt", "(II)I"⟩
abbrev cX1_addItem : ByteArray := prog_3_method_9_code
def yX1_addItem : MethodName := ⟨RX1, "addItem", "(II)V"⟩
abbrev cX1_valueOfItem : ByteArray := prog_3_method_10_code
def yX1_valueOfItem : MethodName := ⟨RX1, "valueOfItem", "(III)I"⟩
abbrev cX1_beginGroup : ByteArray := prog_3_method_11_code
def yX1_beginGroup : MethodName := ⟨RX1, "beginGroup", "(II)I"⟩
abbrev cX1_endRound : ByteArray := prog_3_method_12_code
def yX1_endRound : MethodName := ⟨RX1, "endRound", "(I)I"⟩
abbrev cX1_enterMacro : ByteArray := prog_3_method_13_code
def yX1_enterMacro : MethodName := ⟨RX1, "enterMacro", "(I)I"⟩
abbrev cX1_leaveMacro : ByteArray := prog_3_method_14_code
def yX1_leaveMacro : MethodName := ⟨RX1, "leaveMacro", "(I)I"⟩
abbrev cX1_pass : ByteArray := prog_3_method_15_code
def yX1_pass : MethodName := ⟨RX1, "pass", "(III)V"⟩
abbrev cX1_placeOf : ByteArray := prog_3_method_16_code
def yX1_placeOf : MethodName := ⟨RX1, "placeOf", "(II)I"⟩
abbrev cX1_argument : ByteArray := prog_3_method_17_code
def yX1_argument : MethodName := ⟨RX1, "argument", "(I)I"⟩
abbrev cX1_valueOf : ByteArray := prog_3_method_18_code
def yX1_valueOf : MethodName := ⟨RX1, "valueOf", "(I)I"⟩
abbrev cX1_scopeOf : ByteArray := prog_3_method_19_code
def yX1_scopeOf : MethodName := ⟨RX1, "scopeOf", "(I)I"⟩
def RX2 : String := "MacroBench$Image"
def TX2 : u_T := fun k => match k with
  | 0 => ("MacroBench$Image", "values", "[I", true)
  | 1 => ("MacroBench$Image", "holders", "[Z", true)
  | 2 => ("MacroBench$Image", "wordCount", "I", false)
  | _ => ("MacroBench$Image", "holderCount", "I", false)
def tyX2 : Nat → FieldType := fun k => match k with
  | 0 => .array .int
  | 1 => .array .boolean
  | 2 => .int
  | _ => .int
abbrev wsX20 : List Cond := u_ws RX2 TX2 4
theorem nmX2 : ∀ a, a < 4 → ∀ b, b < 4 → a ≠ b → (TX2 a).2.1 ≠ (TX2 b).2.1 := by decide +kernel
theorem tyX2_ok : ∀ k, k < 4 → parseFieldDescriptor (TX2 k).2.2.1 = some (tyX2 k) := by decide +kernel
abbrev cX2_init : ByteArray := prog_4_method_1_code
def yX2_init : MethodName := ⟨RX2, "<init>", "()V"⟩
abbrev cX2_size : ByteArray := prog_4_method_2_code
def yX2_size : MethodName := ⟨RX2, "size", "()I"⟩
abbrev cX2_sizeOfRelocations : ByteArray := prog_4_method_3_code
def yX2_sizeOfRelocations : MethodName := ⟨RX2, "sizeOfRelocations", "()I"⟩
abbrev cX2_wordOf : ByteArray := prog_4_method_4_code
def yX2_wordOf : MethodName := ⟨RX2, "wordOf", "(I)I"⟩
abbrev cX2_holdsAddress : ByteArray := prog_4_method_5_code
def yX2_holdsAddress : MethodName := ⟨RX2, "holdsAddress", "(I)Z"⟩
abbrev cX2_write : ByteArray := prog_4_method_7_code
def yX2_write : MethodName := ⟨RX2, "write", "(LMacroBench$Listing;)V"⟩
abbrev cX2_writeItem : ByteArray := prog_4_method_8_code
def yX2_writeItem : MethodName := ⟨RX2, "writeItem", "(LMacroBench$Listing;I)V"⟩
abbrev cX2_fill : ByteArray := prog_4_method_9_code
def yX2_fill : MethodName := ⟨RX2, "fill", "(I)V"⟩
abbrev cX2_putAddress : ByteArray := prog_4_method_10_code
def yX2_putAddress : MethodName := ⟨RX2, "putAddress", "(I)V"⟩
abbrev cX2_put : ByteArray := prog_4_method_11_code
def yX2_put : MethodName := ⟨RX2, "put", "(I)V"⟩
def RX3 : String := "MacroBench$Listing"
def TX3 : u_T := fun k => match k with
  | 0 => ("MacroBench$Listing", "lines", "[I", true)
  | 1 => ("MacroBench$Listing", "kinds", "[I", true)
  | 2 => ("MacroBench$Listing", "depths", "[I", true)
  | 3 => ("MacroBench$Listing", "values", "[I", true)
  | 4 => ("MacroBench$Listing", "targets", "[I", true)
  | 5 => ("MacroBench$Listing", "addresses", "[I", true)
  | 6 => ("MacroBench$Listing", "itemCount", "I", false)
  | _ => ("MacroBench$Listing", "passCount", "I", false)
def tyX3 : Nat → FieldType := fun k => match k with
  | 0 => .array .int
  | 1 => .array .int
  | 2 => .array .int
  | 3 => .array .int
  | 4 => .array .int
  | 5 => .array .int
  | 6 => .int
  | _ => .int
abbrev wsX30 : List Cond := u_ws RX3 TX3 8
theorem nmX3 : ∀ a, a < 8 → ∀ b, b < 8 → a ≠ b → (TX3 a).2.1 ≠ (TX3 b).2.1 := by decide +kernel
theorem tyX3_ok : ∀ k, k < 8 → parseFieldDescriptor (TX3 k).2.2.1 = some (tyX3 k) := by decide +kernel
abbrev cX3_init : ByteArray := prog_5_method_1_code
def yX3_init : MethodName := ⟨RX3, "<init>", "()V"⟩
abbrev cX3_size : ByteArray := prog_5_method_2_code
def yX3_size : MethodName := ⟨RX3, "size", "()I"⟩
abbrev cX3_sizeOfPasses : ByteArray := prog_5_method_3_code
def yX3_sizeOfPasses : MethodName := ⟨RX3, "sizeOfPasses", "()I"⟩
abbrev cX3_line : ByteArray := prog_5_method_4_code
def yX3_line : MethodName := ⟨RX3, "line", "(I)I"⟩
abbrev cX3_kind : ByteArray := prog_5_method_5_code
def yX3_kind : MethodName := ⟨RX3, "kind", "(I)I"⟩
abbrev cX3_depth : ByteArray := prog_5_method_6_code
def yX3_depth : MethodName := ⟨RX3, "depth", "(I)I"⟩
abbrev cX3_value : ByteArray := prog_5_method_7_code
def yX3_value : MethodName := ⟨RX3, "value", "(I)I"⟩
abbrev cX3_target : ByteArray := prog_5_method_8_code
def yX3_target : MethodName := ⟨RX3, "target", "(I)I"⟩
abbrev cX3_addressAt : ByteArray := prog_5_method_9_code
def yX3_addressAt : MethodName := ⟨RX3, "addressAt", "(I)I"⟩
abbrev cX3_targetAddress : ByteArray := prog_5_method_10_code
def yX3_targetAddress : MethodName := ⟨RX3, "targetAddress", "(I)I"⟩
abbrev cX3_distance : ByteArray := prog_5_method_11_code
def yX3_distance : MethodName := ⟨RX3, "distance", "(I)I"⟩
abbrev cX3_removeAll : ByteArray := prog_5_method_12_code
def yX3_removeAll : MethodName := ⟨RX3, "removeAll", "()V"⟩
abbrev cX3_isFull : ByteArray := prog_5_method_13_code
def yX3_isFull : MethodName := ⟨RX3, "isFull", "()Z"⟩
abbrev cX3_add : ByteArray := prog_5_method_14_code
def yX3_add : MethodName := ⟨RX3, "add", "(IIII)I"⟩
abbrev cX3_aim : ByteArray := prog_5_method_15_code
def yX3_aim : MethodName := ⟨RX3, "aim", "(II)V"⟩
abbrev cX3_firstWithoutTarget : ByteArray := prog_5_method_16_code
def yX3_firstWithoutTarget : MethodName := ⟨RX3, "firstWithoutTarget", "()I"⟩
abbrev cX3_countKind : ByteArray := prog_5_method_17_code
def yX3_countKind : MethodName := ⟨RX3, "countKind", "(I)I"⟩
abbrev cX3_wordsBefore : ByteArray := prog_5_method_18_code
def yX3_wordsBefore : MethodName := ⟨RX3, "wordsBefore", "(I)I"⟩
abbrev cX3_place : ByteArray := prog_5_method_19_code
def yX3_place : MethodName := ⟨RX3, "place", "()V"⟩
abbrev cX3_wordsTaken : ByteArray := prog_5_method_20_code
def yX3_wordsTaken : MethodName := ⟨RX3, "wordsTaken", "(II)I"⟩
abbrev cX3_wordsToMultiple : ByteArray := prog_5_method_21_code
def yX3_wordsToMultiple : MethodName := ⟨RX3, "wordsToMultiple", "(II)I"⟩
abbrev cX3_findAddresses : ByteArray := prog_5_method_22_code
def yX3_findAddresses : MethodName := ⟨RX3, "findAddresses", "()V"⟩
abbrev cX3_lengthenJumps : ByteArray := prog_5_method_23_code
def yX3_lengthenJumps : MethodName := ⟨RX3, "lengthenJumps", "()Z"⟩
abbrev cX3_isShortDistance : ByteArray := prog_5_method_24_code
def yX3_isShortDistance : MethodName := ⟨RX3, "isShortDistance", "(I)Z"⟩
def RX4 : String := "MacroBench$Scopes"
def TX4 : u_T := fun k => match k with
  | 0 => ("MacroBench$Scopes", "listing", "LMacroBench$Listing;", true)
  | 1 => ("MacroBench$Scopes", "labels", "[I", true)
  | 2 => ("MacroBench$Scopes", "outers", "[I", true)
  | 3 => ("MacroBench$Scopes", "firstItems", "[I", true)
  | 4 => ("MacroBench$Scopes", "homes", "[I", true)
  | _ => ("MacroBench$Scopes", "scopeCount", "I", false)
def tyX4 : Nat → FieldType := fun k => match k with
  | 0 => .object "MacroBench$Listing"
  | 1 => .array .int
  | 2 => .array .int
  | 3 => .array .int
  | 4 => .array .int
  | _ => .int
abbrev wsX40 : List Cond := u_ws RX4 TX4 6
theorem nmX4 : ∀ a, a < 6 → ∀ b, b < 6 → a ≠ b → (TX4 a).2.1 ≠ (TX4 b).2.1 := by decide +kernel
theorem tyX4_ok : ∀ k, k < 6 → parseFieldDescriptor (TX4 k).2.2.1 = some (tyX4 k) := by decide +kernel
abbrev cX4_init : ByteArray := prog_6_method_1_code
def yX4_init : MethodName := ⟨RX4, "<init>", "(LMacroBench$Listing;)V"⟩
abbrev cX4_reset : ByteArray := prog_6_method_2_code
def yX4_reset : MethodName := ⟨RX4, "reset", "()V"⟩
abbrev cX4_current : ByteArray := prog_6_method_3_code
def yX4_current : MethodName := ⟨RX4, "current", "()I"⟩
abbrev cX4_open : ByteArray := prog_6_method_4_code
def yX4_open : MethodName := ⟨RX4, "open", "(I)V"⟩
abbrev cX4_close : ByteArray := prog_6_method_5_code
def yX4_close : MethodName := ⟨RX4, "close", "()V"⟩
abbrev cX4_labelIn : ByteArray := prog_6_method_6_code
def yX4_labelIn : MethodName := ⟨RX4, "labelIn", "(II)I"⟩
abbrev cX4_define : ByteArray := prog_6_method_7_code
def yX4_define : MethodName := ⟨RX4, "define", "(III)V"⟩
abbrev cX4_setHome : ByteArray := prog_6_method_8_code
def yX4_setHome : MethodName := ⟨RX4, "setHome", "(II)V"⟩
def RX5 : String := "MacroBench$Source"
def TX5 : u_T := fun k => match k with
  | 0 => ("MacroBench$Source", "kinds", "[I", true)
  | 1 => ("MacroBench$Source", "firsts", "[I", true)
  | 2 => ("MacroBench$Source", "seconds", "[I", true)
  | 3 => ("MacroBench$Source", "fixeds", "[I", true)
  | 4 => ("MacroBench$Source", "partners", "[I", true)
  | 5 => ("MacroBench$Source", "openGroups", "[I", true)
  | 6 => ("MacroBench$Source", "macroLines", "[I", true)
  | 7 => ("MacroBench$Source", "lineCount", "I", false)
  | 8 => ("MacroBench$Source", "macroCount", "I", false)
  | 9 => ("MacroBench$Source", "openCount", "I", false)
  | _ => ("MacroBench$Source", "inMacro", "Z", false)
def tyX5 : Nat → FieldType := fun k => match k with
  | 0 => .array .int
  | 1 => .array .int
  | 2 => .array .int
  | 3 => .array .int
  | 4 => .array .int
  | 5 => .array .int
  | 6 => .array .int
  | 7 => .int
  | 8 => .int
  | 9 => .int
  | _ => .boolean
abbrev wsX50 : List Cond := u_ws RX5 TX5 11
theorem nmX5 : ∀ a, a < 11 → ∀ b, b < 11 → a ≠ b → (TX5 a).2.1 ≠ (TX5 b).2.1 := by decide +kernel
theorem tyX5_ok : ∀ k, k < 11 → parseFieldDescriptor (TX5 k).2.2.1 = some (tyX5 k) := by decide +kernel
abbrev cX5_init : ByteArray := prog_7_method_1_code
def yX5_init : MethodName := ⟨RX5, "<init>", "()V"⟩
abbrev cX5_size : ByteArray := prog_7_method_2_code
def yX5_size : MethodName := ⟨RX5, "size", "()I"⟩
abbrev cX5_sizeOfMacros : ByteArray := prog_7_method_3_code
def yX5_sizeOfMacros : MethodName := ⟨RX5, "sizeOfMacros", "()I"⟩
abbrev cX5_kind : ByteArray := prog_7_method_4_code
def yX5_kind : MethodName := ⟨RX5, "kind", "(I)I"⟩
abbrev cX5_first : ByteArray := prog_7_method_5_code
def yX5_first : MethodName := ⟨RX5, "first", "(I)I"⟩
abbrev cX5_second : ByteArray := prog_7_method_6_code
def yX5_second : MethodName := ⟨RX5, "second", "(I)I"⟩
abbrev cX5_fixed : ByteArray := prog_7_method_7_code
def yX5_fixed : MethodName := ⟨RX5, "fixed", "(I)I"⟩
abbrev cX5_partner : ByteArray := prog_7_method_8_code
def yX5_partner : MethodName := ⟨RX5, "partner", "(I)I"⟩
abbrev cX5_macroLine : ByteArray := prog_7_method_9_code
def yX5_macroLine : MethodName := ⟨RX5, "macroLine", "(I)I"⟩
abbrev cX5_isEndedMacro : ByteArray := prog_7_method_10_code
def yX5_isEndedMacro : MethodName := ⟨RX5, "isEndedMacro", "(I)Z"⟩
abbrev cX5_unfinishedLine : ByteArray := prog_7_method_11_code
def yX5_unfinishedLine : MethodName := ⟨RX5, "unfinishedLine", "()I"⟩
abbrev cX5_feed : ByteArray := prog_7_method_12_code
def yX5_feed : MethodName := ⟨RX5, "feed", "(IIII)I"⟩
abbrev cX5_endGroup : ByteArray := prog_7_method_13_code
def yX5_endGroup : MethodName := ⟨RX5, "endGroup", "()I"⟩
abbrev cX5_beginMacro : ByteArray := prog_7_method_14_code
def yX5_beginMacro : MethodName := ⟨RX5, "beginMacro", "()I"⟩
abbrev cX5_finishMacro : ByteArray := prog_7_method_15_code
def yX5_finishMacro : MethodName := ⟨RX5, "finishMacro", "()I"⟩
abbrev cX5_removeAll : ByteArray := prog_7_method_16_code
def yX5_removeAll : MethodName := ⟨RX5, "removeAll", "()I"⟩
abbrev cX5_rounds : ByteArray := prog_7_method_17_code
def yX5_rounds : MethodName := ⟨RX5, "rounds", "(III)I"⟩
abbrev cX5_isOperand : ByteArray := prog_7_method_18_code
def yX5_isOperand : MethodName := ⟨RX5, "isOperand", "(II)Z"⟩
abbrev cX5_append : ByteArray := prog_7_method_19_code
def yX5_append : MethodName := ⟨RX5, "append", "(IIII)I"⟩
abbrev cX5_pair : ByteArray := prog_7_method_20_code
def yX5_pair : MethodName := ⟨RX5, "pair", "(II)V"⟩
def RX6 : String := "MacroBench"
def TX6 : u_T := fun k => match k with
  | 0 => ("MacroBench", "source", "LMacroBench$Source;", true)
  | 1 => ("MacroBench", "listing", "LMacroBench$Listing;", true)
  | 2 => ("MacroBench", "scopes", "LMacroBench$Scopes;", true)
  | 3 => ("MacroBench", "expander", "LMacroBench$Expander;", true)
  | 4 => ("MacroBench", "image", "LMacroBench$Image;", true)
  | _ => ("MacroBench", "counter", "LMacroBench$Counter;", true)
def tyX6 : Nat → FieldType := fun k => match k with
  | 0 => .object "MacroBench$Source"
  | 1 => .object "MacroBench$Listing"
  | 2 => .object "MacroBench$Scopes"
  | 3 => .object "MacroBench$Expander"
  | 4 => .object "MacroBench$Image"
  | _ => .object "MacroBench$Counter"
abbrev wsX60 : List Cond := u_ws RX6 TX6 6
theorem nmX6 : ∀ a, a < 6 → ∀ b, b < 6 → a ≠ b → (TX6 a).2.1 ≠ (TX6 b).2.1 := by decide +kernel
theorem tyX6_ok : ∀ k, k < 6 → parseFieldDescriptor (TX6 k).2.2.1 = some (tyX6 k) := by decide +kernel
abbrev cX6_init : ByteArray := prog_1_method_1_code
def yX6_init : MethodName := ⟨RX6, "<init>", "()V"⟩
abbrev cX6_label : ByteArray := prog_1_method_2_code
def yX6_label : MethodName := ⟨RX6, "label", "(I)I"⟩
abbrev cX6_word : ByteArray := prog_1_method_3_code
def yX6_word : MethodName := ⟨RX6, "word", "(I)I"⟩
abbrev cX6_operation : ByteArray := prog_1_method_4_code
def yX6_operation : MethodName := ⟨RX6, "operation", "(II)I"⟩
abbrev cX6_jump : ByteArray := prog_1_method_5_code
def yX6_jump : MethodName := ⟨RX6, "jump", "(I)I"⟩
abbrev cX6_address : ByteArray := prog_1_method_6_code
def yX6_address : MethodName := ⟨RX6, "address", "(I)I"⟩
abbrev cX6_align : ByteArray := prog_1_method_7_code
def yX6_align : MethodName := ⟨RX6, "align", "(I)I"⟩
abbrev cX6_call : ByteArray := prog_1_method_8_code
def yX6_call : MethodName := ⟨RX6, "call", "(III)I"⟩
abbrev cX6_block : ByteArray := prog_1_method_9_code
def yX6_block : MethodName := ⟨RX6, "block", "()I"⟩
abbrev cX6_loop : ByteArray := prog_1_method_10_code
def yX6_loop : MethodName := ⟨RX6, "loop", "(I)I"⟩
abbrev cX6_when : ByteArray := prog_1_method_11_code
def yX6_when : MethodName := ⟨RX6, "when", "(II)I"⟩
abbrev cX6_end : ByteArray := prog_1_method_12_code
def yX6_end : MethodName := ⟨RX6, "end", "()I"⟩
abbrev cX6_macro : ByteArray := prog_1_method_13_code
def yX6_macro : MethodName := ⟨RX6, "macro", "()I"⟩
abbrev cX6_endMacro : ByteArray := prog_1_method_14_code
def yX6_endMacro : MethodName := ⟨RX6, "endMacro", "()I"⟩
abbrev cX6_clear : ByteArray := prog_1_method_15_code
def yX6_clear : MethodName := ⟨RX6, "clear", "()I"⟩
abbrev cX6_lines : ByteArray := prog_1_method_16_code
def yX6_lines : MethodName := ⟨RX6, "lines", "()I"⟩
abbrev cX6_macros : ByteArray := prog_1_method_17_code
def yX6_macros : MethodName := ⟨RX6, "macros", "()I"⟩
abbrev cX6_assemble : ByteArray := prog_1_method_18_code
def yX6_assemble : MethodName := ⟨RX6, "assemble", "()I"⟩
abbrev cX6_fault : ByteArray := prog_1_method_19_code
def yX6_fault : MethodName := ⟨RX6, "fault", "()C"⟩
abbrev cX6_faultLine : ByteArray := prog_1_method_20_code
def yX6_faultLine : MethodName := ⟨RX6, "faultLine", "()I"⟩
abbrev cX6_itemsByCounting : ByteArray := prog_1_method_21_code
def yX6_itemsByCounting : MethodName := ⟨RX6, "itemsByCounting", "()J"⟩
abbrev cX6_words : ByteArray := prog_1_method_22_code
def yX6_words : MethodName := ⟨RX6, "words", "()I"⟩
abbrev cX6_wordAt : ByteArray := prog_1_method_23_code
def yX6_wordAt : MethodName := ⟨RX6, "wordAt", "(I)I"⟩
abbrev cX6_relocations : ByteArray := prog_1_method_24_code
def yX6_relocations : MethodName := ⟨RX6, "relocations", "()I"⟩
abbrev cX6_loadedWord : ByteArray := prog_1_method_25_code
def yX6_loadedWord : MethodName := ⟨RX6, "loadedWord", "(II)I"⟩
abbrev cX6_labelAddress : ByteArray := prog_1_method_26_code
def yX6_labelAddress : MethodName := ⟨RX6, "labelAddress", "(I)I"⟩
abbrev cX6_passes : ByteArray := prog_1_method_27_code
def yX6_passes : MethodName := ⟨RX6, "passes", "()I"⟩
abbrev cX6_longJumps : ByteArray := prog_1_method_28_code
def yX6_longJumps : MethodName := ⟨RX6, "longJumps", "()I"⟩
abbrev cX6_items : ByteArray := prog_1_method_29_code
def yX6_items : MethodName := ⟨RX6, "items", "()I"⟩
abbrev cX6_lineOf : ByteArray := prog_1_method_30_code
def yX6_lineOf : MethodName := ⟨RX6, "lineOf", "(I)I"⟩
abbrev cX6_kindOf : ByteArray := prog_1_method_31_code
def yX6_kindOf : MethodName := ⟨RX6, "kindOf", "(I)C"⟩
abbrev cX6_depthOf : ByteArray := prog_1_method_32_code
def yX6_depthOf : MethodName := ⟨RX6, "depthOf", "(I)I"⟩
abbrev cX6_addressOf : ByteArray := prog_1_method_33_code
def yX6_addressOf : MethodName := ⟨RX6, "addressOf", "(I)I"⟩
abbrev cX6_addressByAdding : ByteArray := prog_1_method_34_code
def yX6_addressByAdding : MethodName := ⟨RX6, "addressByAdding", "(I)I"⟩
abbrev cX6_targetOf : ByteArray := prog_1_method_35_code
def yX6_targetOf : MethodName := ⟨RX6, "targetOf", "(I)I"⟩
abbrev cX6_shortShare : ByteArray := prog_1_method_36_code
def yX6_shortShare : MethodName := ⟨RX6, "shortShare", "()F"⟩
abbrev cX6_requireProgram : ByteArray := prog_1_method_38_code
def yX6_requireProgram : MethodName := ⟨RX6, "requireProgram", "()V"⟩
abbrev cX6_requireWord : ByteArray := prog_1_method_39_code
def yX6_requireWord : MethodName := ⟨RX6, "requireWord", "(I)V"⟩
abbrev cX6_requireItem : ByteArray := prog_1_method_40_code
def yX6_requireItem : MethodName := ⟨RX6, "requireItem", "(I)V"⟩
abbrev cX6_at : ByteArray := prog_1_method_41_code
def yX6_at : MethodName := ⟨RX6, "at", "([II)I"⟩
abbrev cX6_setAt : ByteArray := prog_1_method_42_code
def yX6_setAt : MethodName := ⟨RX6, "setAt", "([III)V"⟩
abbrev cX6_isArgument : ByteArray := prog_1_method_43_code
def yX6_isArgument : MethodName := ⟨RX6, "isArgument", "(I)Z"⟩
abbrev cX6_isReference : ByteArray := prog_1_method_44_code
def yX6_isReference : MethodName := ⟨RX6, "isReference", "(I)Z"⟩
abbrev cX6_beginsGroup : ByteArray := prog_1_method_45_code
def yX6_beginsGroup : MethodName := ⟨RX6, "beginsGroup", "(I)Z"⟩
abbrev cX6_greatestOperand : ByteArray := prog_1_method_46_code
def yX6_greatestOperand : MethodName := ⟨RX6, "greatestOperand", "(I)I"⟩
abbrev cX6_valueOfOperand : ByteArray := prog_1_method_47_code
def yX6_valueOfOperand : MethodName := ⟨RX6, "valueOfOperand", "(III)I"⟩
def RX7 : String := "MacroBenchModel"
def TX7 : u_T := fun k => match k with
  | _ => ("", "", "", false)
def tyX7 : Nat → FieldType := fun k => match k with
  | _ => .int
abbrev wsX70 : List Cond := u_ws RX7 TX7 0
theorem nmX7 : ∀ a, a < 0 → ∀ b, b < 0 → a ≠ b → (TX7 a).2.1 ≠ (TX7 b).2.1 := by decide +kernel
theorem tyX7_ok : ∀ k, k < 0 → parseFieldDescriptor (TX7 k).2.2.1 = some (tyX7 k) := by decide +kernel
def RJx145de : String := "java/io/Serializable"
def TJx145de : u_T := fun k => match k with
  | _ => ("", "", "", false)
def tyJx145de : Nat → FieldType := fun k => match k with
  | _ => .int
theorem nmJx145de : ∀ a, a < 0 → ∀ b, b < 0 → a ≠ b → (TJx145de a).2.1 ≠ (TJx145de b).2.1 := by decide +kernel
theorem tyJx145de_ok : ∀ k, k < 0 → parseFieldDescriptor (TJx145de k).2.2.1 = some (tyJx145de k) := by decide +kernel
def RJ5 : String := "java/lang/AbstractStringBuilder"
def TJ5 : u_T := fun k => match k with
  | _ => ("", "", "", false)
def tyJ5 : Nat → FieldType := fun k => match k with
  | _ => .int
theorem nmJ5 : ∀ a, a < 0 → ∀ b, b < 0 → a ≠ b → (TJ5 a).2.1 ≠ (TJ5 b).2.1 := by decide +kernel
theorem tyJ5_ok : ∀ k, k < 0 → parseFieldDescriptor (TJ5 k).2.2.1 = some (tyJ5 k) := by decide +kernel
abbrev cJ5_init_d00df : ByteArray := prog_11_method_2_code
def yJ5_init_d00df : MethodName := ⟨RJ5, "<init>", "(I)V"⟩
abbrev cJ5_length_8abf5 : ByteArray := prog_11_method_6_code
def yJ5_length_8abf5 : MethodName := ⟨RJ5, "length", "()I"⟩
abbrev cJ5_ensureCapacityInternal_d00df : ByteArray := prog_11_method_9_code
def yJ5_ensureCapacityInternal_d00df : MethodName := ⟨RJ5, "ensureCapacityInternal", "(I)V"⟩
abbrev cJ5_newCapacity_0f7a4 : ByteArray := prog_11_method_10_code
def yJ5_newCapacity_0f7a4 : MethodName := ⟨RJ5, "newCapacity", "(I)I"⟩
abbrev cJ5_inflate_da8c8 : ByteArray := prog_11_method_11_code
def yJ5_inflate_da8c8 : MethodName := ⟨RJ5, "inflate", "()V"⟩
abbrev cJ5_append_cf1ce : ByteArray := prog_11_method_22_code
def yJ5_append_cf1ce : MethodName := ⟨RJ5, "append", "(Ljava/lang/String;)Ljava/lang/AbstractStringBuilder;"⟩
abbrev cJ5_appendNull_278bc : ByteArray := prog_11_method_26_code
def yJ5_appendNull_278bc : MethodName := ⟨RJ5, "appendNull", "()Ljava/lang/AbstractStringBuilder;"⟩
abbrev cJ5_append_c97b9 : ByteArray := prog_11_method_32_code
def yJ5_append_c97b9 : MethodName := ⟨RJ5, "append", "(I)Ljava/lang/AbstractStringBuilder;"⟩
abbrev cJ5_getValue_6d5f1 : ByteArray := prog_11_method_64_code
def yJ5_getValue_6d5f1 : MethodName := ⟨RJ5, "getValue", "()[B"⟩
abbrev cJ5_isLatin1_aae02 : ByteArray := prog_11_method_68_code
def yJ5_isLatin1_aae02 : MethodName := ⟨RJ5, "isLatin1", "()Z"⟩
abbrev cJ5_inflateIfNeededFor_a7421 : ByteArray := prog_11_method_71_code
def yJ5_inflateIfNeededFor_a7421 : MethodName := ⟨RJ5, "inflateIfNeededFor", "(Ljava/lang/String;)V"⟩
abbrev cJ5_putStringAt_47b60 : ByteArray := prog_11_method_73_code
def yJ5_putStringAt_47b60 : MethodName := ⟨RJ5, "putStringAt", "(ILjava/lang/String;)V"⟩
def RJx2cfe8 : String := "java/lang/Appendable"
def TJx2cfe8 : u_T := fun k => match k with
  | _ => ("", "", "", false)
def tyJx2cfe8 : Nat → FieldType := fun k => match k with
  | _ => .int
theorem nmJx2cfe8 : ∀ a, a < 0 → ∀ b, b < 0 → a ≠ b → (TJx2cfe8 a).2.1 ≠ (TJx2cfe8 b).2.1 := by decide +kernel
theorem tyJx2cfe8_ok : ∀ k, k < 0 → parseFieldDescriptor (TJx2cfe8 k).2.2.1 = some (tyJx2cfe8 k) := by decide +kernel
def RJx00060 : String := "java/lang/ArrayIndexOutOfBoundsException"
def TJx00060 : u_T := fun k => match k with
  | 0 => ("java/lang/Throwable", "cause", "Ljava/lang/Throwable;", false)
  | 1 => ("java/lang/Throwable", "stackTrace", "[Ljava/lang/StackTraceElement;", false)
  | 2 => ("java/lang/Throwable", "suppressedExceptions", "Ljava/util/List;", false)
  | 3 => ("java/lang/Throwable", "detailMessage", "Ljava/lang/String;", false)
  | 4 => ("java/lang/Throwable", "backtrace", "Ljava/lang/Object;", false)
  | _ => ("java/lang/Throwable", "depth", "I", false)
def tyJx00060 : Nat → FieldType := fun k => match k with
  | 0 => .object "java/lang/Throwable"
  | 1 => .array (.object "java/lang/StackTraceElement")
  | 2 => .object "java/util/List"
  | 3 => .object "java/lang/String"
  | 4 => .object "java/lang/Object"
  | _ => .int
theorem nmJx00060 : ∀ a, a < 6 → ∀ b, b < 6 → a ≠ b → (TJx00060 a).2.1 ≠ (TJx00060 b).2.1 := by decide +kernel
theorem tyJx00060_ok : ∀ k, k < 6 → parseFieldDescriptor (TJx00060 k).2.2.1 = some (tyJx00060 k) := by decide +kernel
abbrev cJx00060_init_a7421 : ByteArray := prog_14_method_2_code
def yJx00060_init_a7421 : MethodName := ⟨RJx00060, "<init>", "(Ljava/lang/String;)V"⟩
abbrev cJx00060_init_d00df : ByteArray := prog_14_method_3_code
def yJx00060_init_d00df : MethodName := ⟨RJx00060, "<init>", "(I)V"⟩
def RJx9f9b0 : String := "java/lang/CharSequence"
def TJx9f9b0 : u_T := fun k => match k with
  | _ => ("", "", "", false)
def tyJx9f9b0 : Nat → FieldType := fun k => match k with
  | _ => .int
theorem nmJx9f9b0 : ∀ a, a < 0 → ∀ b, b < 0 → a ≠ b → (TJx9f9b0 a).2.1 ≠ (TJx9f9b0 b).2.1 := by decide +kernel
theorem tyJx9f9b0_ok : ∀ k, k < 0 → parseFieldDescriptor (TJx9f9b0 k).2.2.1 = some (tyJx9f9b0 k) := by decide +kernel
def RJx8e188 : String := "java/lang/Cloneable"
def TJx8e188 : u_T := fun k => match k with
  | _ => ("", "", "", false)
def tyJx8e188 : Nat → FieldType := fun k => match k with
  | _ => .int
theorem nmJx8e188 : ∀ a, a < 0 → ∀ b, b < 0 → a ≠ b → (TJx8e188 a).2.1 ≠ (TJx8e188 b).2.1 := by decide +kernel
theorem tyJx8e188_ok : ∀ k, k < 0 → parseFieldDescriptor (TJx8e188 k).2.2.1 = some (tyJx8e188 k) := by decide +kernel
def RJxb160c : String := "java/lang/Comparable"
def TJxb160c : u_T := fun k => match k with
  | _ => ("", "", "", false)
def tyJxb160c : Nat → FieldType := fun k => match k with
  | _ => .int
theorem nmJxb160c : ∀ a, a < 0 → ∀ b, b < 0 → a ≠ b → (TJxb160c a).2.1 ≠ (TJxb160c b).2.1 := by decide +kernel
theorem tyJxb160c_ok : ∀ k, k < 0 → parseFieldDescriptor (TJxb160c k).2.2.1 = some (tyJxb160c k) := by decide +kernel
def RJ6 : String := "java/lang/Integer"
def TJ6 : u_T := fun k => match k with
  | _ => ("", "", "", false)
def tyJ6 : Nat → FieldType := fun k => match k with
  | _ => .int
theorem nmJ6 : ∀ a, a < 0 → ∀ b, b < 0 → a ≠ b → (TJ6 a).2.1 ≠ (TJ6 b).2.1 := by decide +kernel
theorem tyJ6_ok : ∀ k, k < 0 → parseFieldDescriptor (TJ6 k).2.2.1 = some (tyJ6 k) := by decide +kernel
abbrev cJ6_getChars_ba4f3 : ByteArray := prog_22_method_12_code
def yJ6_getChars_ba4f3 : MethodName := ⟨RJ6, "getChars", "(II[B)I"⟩
abbrev cJ6_stringSize_0f7a4 : ByteArray := prog_22_method_13_code
def yJ6_stringSize_0f7a4 : MethodName := ⟨RJ6, "stringSize", "(I)I"⟩
def RJ9 : String := "java/lang/Math"
def TJ9 : u_T := fun k => match k with
  | _ => ("", "", "", false)
def tyJ9 : Nat → FieldType := fun k => match k with
  | _ => .int
theorem nmJ9 : ∀ a, a < 0 → ∀ b, b < 0 → a ≠ b → (TJ9 a).2.1 ≠ (TJ9 b).2.1 := by decide +kernel
theorem tyJ9_ok : ∀ k, k < 0 → parseFieldDescriptor (TJ9 k).2.2.1 = some (tyJ9 k) := by decide +kernel
abbrev cJ9_max_7cf53 : ByteArray := prog_23_method_65_code
def yJ9_max_7cf53 : MethodName := ⟨RJ9, "max", "(II)I"⟩
abbrev cJ9_min_7cf53 : ByteArray := prog_23_method_69_code
def yJ9_min_7cf53 : MethodName := ⟨RJ9, "min", "(II)I"⟩
abbrev cJ9_min_f86c9 : ByteArray := prog_23_method_70_code
def yJ9_min_f86c9 : MethodName := ⟨RJ9, "min", "(JJ)J"⟩
def RJxd2413 : String := "java/lang/Number"
def TJxd2413 : u_T := fun k => match k with
  | _ => ("", "", "", false)
def tyJxd2413 : Nat → FieldType := fun k => match k with
  | _ => .int
theorem nmJxd2413 : ∀ a, a < 0 → ∀ b, b < 0 → a ≠ b → (TJxd2413 a).2.1 ≠ (TJxd2413 b).2.1 := by decide +kernel
theorem tyJxd2413_ok : ∀ k, k < 0 → parseFieldDescriptor (TJxd2413 k).2.2.1 = some (tyJxd2413 k) := by decide +kernel
def RJ0 : String := "java/lang/String"
def TJ0 : u_T := fun k => match k with
  | 0 => ("java/lang/String", "value", "[B", true)
  | 1 => ("java/lang/String", "coder", "B", true)
  | 2 => ("java/lang/String", "hash", "I", false)
  | _ => ("java/lang/String", "hashIsZero", "Z", false)
def tyJ0 : Nat → FieldType := fun k => match k with
  | 0 => .array .byte
  | 1 => .byte
  | 2 => .int
  | _ => .boolean
theorem nmJ0 : ∀ a, a < 4 → ∀ b, b < 4 → a ≠ b → (TJ0 a).2.1 ≠ (TJ0 b).2.1 := by decide +kernel
theorem tyJ0_ok : ∀ k, k < 4 → parseFieldDescriptor (TJ0 k).2.2.1 = some (tyJ0 k) := by decide +kernel
abbrev cJ0_init_81219 : ByteArray := prog_26_method_53_code
def yJ0_init_81219 : MethodName := ⟨RJ0, "<init>", "(Ljava/lang/StringBuilder;)V"⟩
abbrev cJ0_length_8abf5 : ByteArray := prog_26_method_54_code
def yJ0_length_8abf5 : MethodName := ⟨RJ0, "length", "()I"⟩
abbrev cJ0_getBytes_840e7 : ByteArray := prog_26_method_147_code
def yJ0_getBytes_840e7 : MethodName := ⟨RJ0, "getBytes", "([BIB)V"⟩
abbrev cJ0_init_db425 : ByteArray := prog_26_method_150_code
def yJ0_init_db425 : MethodName := ⟨RJ0, "<init>", "(Ljava/lang/AbstractStringBuilder;Ljava/lang/Void;)V"⟩
abbrev cJ0_coder_7d493 : ByteArray := prog_26_method_152_code
def yJ0_coder_7d493 : MethodName := ⟨RJ0, "coder", "()B"⟩
abbrev cJ0_checkBoundsOffCount_cabcc : ByteArray := prog_26_method_157_code
def yJ0_checkBoundsOffCount_cabcc : MethodName := ⟨RJ0, "checkBoundsOffCount", "(III)I"⟩
abbrev cJ0_checkBoundsBeginEnd_23922 : ByteArray := prog_26_method_158_code
def yJ0_checkBoundsBeginEnd_23922 : MethodName := ⟨RJ0, "checkBoundsBeginEnd", "(III)V"⟩
def RJ4 : String := "java/lang/StringBuilder"
def TJ4 : u_T := fun k => match k with
  | 0 => ("java/lang/AbstractStringBuilder", "value", "[B", false)
  | 1 => ("java/lang/AbstractStringBuilder", "coder", "B", false)
  | 2 => ("java/lang/AbstractStringBuilder", "maybeLatin1", "Z", false)
  | _ => ("java/lang/AbstractStringBuilder", "count", "I", false)
def tyJ4 : Nat → FieldType := fun k => match k with
  | 0 => .array .byte
  | 1 => .byte
  | 2 => .boolean
  | _ => .int
theorem nmJ4 : ∀ a, a < 4 → ∀ b, b < 4 → a ≠ b → (TJ4 a).2.1 ≠ (TJ4 b).2.1 := by decide +kernel
theorem tyJ4_ok : ∀ k, k < 4 → parseFieldDescriptor (TJ4 k).2.2.1 = some (tyJ4 k) := by decide +kernel
abbrev cJ4_init_da8c8 : ByteArray := prog_27_method_1_code
def yJ4_init_da8c8 : MethodName := ⟨RJ4, "<init>", "()V"⟩
abbrev cJ4_append_15ec4 : ByteArray := prog_27_method_7_code
def yJ4_append_15ec4 : MethodName := ⟨RJ4, "append", "(Ljava/lang/String;)Ljava/lang/StringBuilder;"⟩
abbrev cJ4_append_bf812 : ByteArray := prog_27_method_15_code
def yJ4_append_bf812 : MethodName := ⟨RJ4, "append", "(I)Ljava/lang/StringBuilder;"⟩
abbrev cJ4_toString_0e30d : ByteArray := prog_27_method_42_code
def yJ4_toString_0e30d : MethodName := ⟨RJ4, "toString", "()Ljava/lang/String;"⟩
abbrev cJ4_length_8abf5 : ByteArray := prog_27_method_93_code
def yJ4_length_8abf5 : MethodName := ⟨RJ4, "length", "()I"⟩
def RJ1 : String := "java/lang/StringLatin1"
def TJ1 : u_T := fun k => match k with
  | _ => ("", "", "", false)
def tyJ1 : Nat → FieldType := fun k => match k with
  | _ => .int
theorem nmJ1 : ∀ a, a < 0 → ∀ b, b < 0 → a ≠ b → (TJ1 a).2.1 ≠ (TJ1 b).2.1 := by decide +kernel
theorem tyJ1_ok : ∀ k, k < 0 → parseFieldDescriptor (TJ1 k).2.2.1 = some (tyJ1 k) := by decide +kernel
abbrev cJ1_inflate_0e8fd : ByteArray := prog_28_method_50_code
def yJ1_inflate_0e8fd : MethodName := ⟨RJ1, "inflate", "([BI[BII)V"⟩
def RJ2 : String := "java/lang/StringUTF16"
def TJ2 : u_T := fun k => match k with
  | _ => ("", "", "", false)
def tyJ2 : Nat → FieldType := fun k => match k with
  | _ => .int
theorem nmJ2 : ∀ a, a < 0 → ∀ b, b < 0 → a ≠ b → (TJ2 a).2.1 ≠ (TJ2 b).2.1 := by decide +kernel
theorem tyJ2_ok : ∀ k, k < 0 → parseFieldDescriptor (TJ2 k).2.2.1 = some (tyJ2 k) := by decide +kernel
abbrev cJ2_newBytesFor_77867 : ByteArray := prog_29_method_2_code
def yJ2_newBytesFor_77867 : MethodName := ⟨RJ2, "newBytesFor", "(I)[B"⟩
abbrev cJ2_newBytesLength_0f7a4 : ByteArray := prog_29_method_3_code
def yJ2_newBytesLength_0f7a4 : MethodName := ⟨RJ2, "newBytesLength", "(I)I"⟩
abbrev cJ2_putChar_b72d1 : ByteArray := prog_29_method_4_code
def yJ2_putChar_b72d1 : MethodName := ⟨RJ2, "putChar", "([BII)V"⟩
abbrev cJ2_getChar_3b067 : ByteArray := prog_29_method_5_code
def yJ2_getChar_3b067 : MethodName := ⟨RJ2, "getChar", "([BI)C"⟩
abbrev cJ2_length_9d52b : ByteArray := prog_29_method_6_code
def yJ2_length_9d52b : MethodName := ⟨RJ2, "length", "([B)I"⟩
abbrev cJ2_coderFromArrayLen_85cad : ByteArray := prog_29_method_15_code
def yJ2_coderFromArrayLen_85cad : MethodName := ⟨RJ2, "coderFromArrayLen", "([BI)B"⟩
abbrev cJ2_compress_39247 : ByteArray := prog_29_method_17_code
def yJ2_compress_39247 : MethodName := ⟨RJ2, "compress", "([BII)[B"⟩
abbrev cJ2_compress_5af95 : ByteArray := prog_29_method_22_code
def yJ2_compress_5af95 : MethodName := ⟨RJ2, "compress", "([BI[BII)I"⟩
abbrev cJ2_getChars_46870 : ByteArray := prog_29_method_77_code
def yJ2_getChars_46870 : MethodName := ⟨RJ2, "getChars", "(III[B)I"⟩
abbrev cJ2_putCharsAt_cd4e5 : ByteArray := prog_29_method_81_code
def yJ2_putCharsAt_cd4e5 : MethodName := ⟨RJ2, "putCharsAt", "([BICCCC)I"⟩
abbrev cJ2_inflate_0e8fd : ByteArray := prog_29_method_86_code
def yJ2_inflate_0e8fd : MethodName := ⟨RJ2, "inflate", "([BI[BII)V"⟩
abbrev cJ2_getChars_ba4f3 : ByteArray := prog_29_method_89_code
def yJ2_getChars_ba4f3 : MethodName := ⟨RJ2, "getChars", "(II[B)I"⟩
abbrev cJ2_checkBoundsBeginEnd_d044e : ByteArray := prog_29_method_93_code
def yJ2_checkBoundsBeginEnd_d044e : MethodName := ⟨RJ2, "checkBoundsBeginEnd", "(II[B)V"⟩
abbrev cJ2_checkBoundsOffCount_d044e : ByteArray := prog_29_method_94_code
def yJ2_checkBoundsOffCount_d044e : MethodName := ⟨RJ2, "checkBoundsOffCount", "(II[B)V"⟩
def RJ10 : String := "java/lang/System"
def TJ10 : u_T := fun k => match k with
  | _ => ("", "", "", false)
def tyJ10 : Nat → FieldType := fun k => match k with
  | _ => .int
theorem nmJ10 : ∀ a, a < 0 → ∀ b, b < 0 → a ≠ b → (TJ10 a).2.1 ≠ (TJ10 b).2.1 := by decide +kernel
theorem tyJ10_ok : ∀ k, k < 0 → parseFieldDescriptor (TJ10 k).2.2.1 = some (tyJ10 k) := by decide +kernel
def RJxfd54e : String := "java/lang/constant/Constable"
def TJxfd54e : u_T := fun k => match k with
  | _ => ("", "", "", false)
def tyJxfd54e : Nat → FieldType := fun k => match k with
  | _ => .int
theorem nmJxfd54e : ∀ a, a < 0 → ∀ b, b < 0 → a ≠ b → (TJxfd54e a).2.1 ≠ (TJxfd54e b).2.1 := by decide +kernel
theorem tyJxfd54e_ok : ∀ k, k < 0 → parseFieldDescriptor (TJxfd54e k).2.2.1 = some (tyJxfd54e k) := by decide +kernel
def RJx3cf43 : String := "java/lang/constant/ConstantDesc"
def TJx3cf43 : u_T := fun k => match k with
  | _ => ("", "", "", false)
def tyJx3cf43 : Nat → FieldType := fun k => match k with
  | _ => .int
theorem nmJx3cf43 : ∀ a, a < 0 → ∀ b, b < 0 → a ≠ b → (TJx3cf43 a).2.1 ≠ (TJx3cf43 b).2.1 := by decide +kernel
theorem tyJx3cf43_ok : ∀ k, k < 0 → parseFieldDescriptor (TJx3cf43 k).2.2.1 = some (tyJx3cf43 k) := by decide +kernel
def RJ7 : String := "java/util/Arrays"
def TJ7 : u_T := fun k => match k with
  | _ => ("", "", "", false)
def tyJ7 : Nat → FieldType := fun k => match k with
  | _ => .int
theorem nmJ7 : ∀ a, a < 0 → ∀ b, b < 0 → a ≠ b → (TJ7 a).2.1 ≠ (TJ7 b).2.1 := by decide +kernel
theorem tyJ7_ok : ∀ k, k < 0 → parseFieldDescriptor (TJ7 k).2.2.1 = some (tyJ7 k) := by decide +kernel
abbrev cJ7_rangeCheck_23922 : ByteArray := prog_35_method_30_code
def yJ7_rangeCheck_23922 : MethodName := ⟨RJ7, "rangeCheck", "(III)V"⟩
abbrev cJ7_fill_fda19 : ByteArray := prog_35_method_104_code
def yJ7_fill_fda19 : MethodName := ⟨RJ7, "fill", "([IIII)V"⟩
abbrev cJ7_copyOf_9075b : ByteArray := prog_35_method_121_code
def yJ7_copyOf_9075b : MethodName := ⟨RJ7, "copyOf", "([BI)[B"⟩
abbrev cJ7_checkLength_df160 : ByteArray := prog_35_method_131_code
def yJ7_checkLength_df160 : MethodName := ⟨RJ7, "checkLength", "(II)V"⟩
abbrev cJ7_copyOfRange_39247 : ByteArray := prog_35_method_132_code
def yJ7_copyOfRange_39247 : MethodName := ⟨RJ7, "copyOfRange", "([BII)[B"⟩
abbrev cJ7_copyOfRangeByte_39247 : ByteArray := prog_35_method_133_code
def yJ7_copyOfRangeByte_39247 : MethodName := ⟨RJ7, "copyOfRangeByte", "([BII)[B"⟩
def RJ8 : String := "jdk/internal/util/ArraysSupport"
def TJ8 : u_T := fun k => match k with
  | _ => ("", "", "", false)
def tyJ8 : Nat → FieldType := fun k => match k with
  | _ => .int
theorem nmJ8 : ∀ a, a < 0 → ∀ b, b < 0 → a ≠ b → (TJ8 a).2.1 ≠ (TJ8 b).2.1 := by decide +kernel
theorem tyJ8_ok : ∀ k, k < 0 → parseFieldDescriptor (TJ8 k).2.2.1 = some (tyJ8 k) := by decide +kernel
abbrev cJ8_newLength_cabcc : ByteArray := prog_37_method_27_code
def yJ8_newLength_cabcc : MethodName := ⟨RJ8, "newLength", "(III)I"⟩
abbrev cJ8_hugeLength_7cf53 : ByteArray := prog_37_method_28_code
def yJ8_hugeLength_7cf53 : MethodName := ⟨RJ8, "hugeLength", "(II)I"⟩
def RJ3 : String := "jdk/internal/util/Preconditions"
def TJ3 : u_T := fun k => match k with
  | _ => ("", "", "", false)
def tyJ3 : Nat → FieldType := fun k => match k with
  | _ => .int
theorem nmJ3 : ∀ a, a < 0 → ∀ b, b < 0 → a ≠ b → (TJ3 a).2.1 ≠ (TJ3 b).2.1 := by decide +kernel
theorem tyJ3_ok : ∀ k, k < 0 → parseFieldDescriptor (TJ3 k).2.2.1 = some (tyJ3 k) := by decide +kernel
abbrev cJ3_checkFromToIndex_8c36e : ByteArray := prog_38_method_12_code
def yJ3_checkFromToIndex_8c36e : MethodName := ⟨RJ3, "checkFromToIndex", "(IIILjava/util/function/BiFunction;)I"⟩
abbrev cJ3_checkFromIndexSize_8c36e : ByteArray := prog_38_method_13_code
def yJ3_checkFromIndexSize_8c36e : MethodName := ⟨RJ3, "checkFromIndexSize", "(IIILjava/util/function/BiFunction;)I"⟩
def RL : String := "MacroBenchLaw"
abbrev cL_cell : ByteArray := method_2_code
def yL_cell : MethodName := ⟨RL, "cell", "([II)I"⟩
abbrev cL_pick : ByteArray := method_3_code
def yL_pick : MethodName := ⟨RL, "pick", "([III)I"⟩
abbrev cL_label : ByteArray := method_4_code
def yL_label : MethodName := ⟨RL, "label", "(LMacroBench;I)I"⟩
abbrev cL_word : ByteArray := method_5_code
def yL_word : MethodName := ⟨RL, "word", "(LMacroBench;I)I"⟩
abbrev cL_operation : ByteArray := method_6_code
def yL_operation : MethodName := ⟨RL, "operation", "(LMacroBench;II)I"⟩
abbrev cL_jump : ByteArray := method_7_code
def yL_jump : MethodName := ⟨RL, "jump", "(LMacroBench;I)I"⟩
abbrev cL_address : ByteArray := method_8_code
def yL_address : MethodName := ⟨RL, "address", "(LMacroBench;I)I"⟩
abbrev cL_align : ByteArray := method_9_code
def yL_align : MethodName := ⟨RL, "align", "(LMacroBench;I)I"⟩
abbrev cL_call : ByteArray := method_10_code
def yL_call : MethodName := ⟨RL, "call", "(LMacroBench;III)I"⟩
abbrev cL_block : ByteArray := method_11_code
def yL_block : MethodName := ⟨RL, "block", "(LMacroBench;)I"⟩
abbrev cL_loop : ByteArray := method_12_code
def yL_loop : MethodName := ⟨RL, "loop", "(LMacroBench;I)I"⟩
abbrev cL_when : ByteArray := method_13_code
def yL_when : MethodName := ⟨RL, "when", "(LMacroBench;II)I"⟩
abbrev cL_end : ByteArray := method_14_code
def yL_end : MethodName := ⟨RL, "end", "(LMacroBench;)I"⟩
abbrev cL_macro : ByteArray := method_15_code
def yL_macro : MethodName := ⟨RL, "macro", "(LMacroBench;)I"⟩
abbrev cL_endMacro : ByteArray := method_16_code
def yL_endMacro : MethodName := ⟨RL, "endMacro", "(LMacroBench;)I"⟩
abbrev cL_fault : ByteArray := method_17_code
def yL_fault : MethodName := ⟨RL, "fault", "(LMacroBench;)I"⟩
abbrev cL_faultLine : ByteArray := method_18_code
def yL_faultLine : MethodName := ⟨RL, "faultLine", "(LMacroBench;)I"⟩
abbrev cL_itemsByCounting : ByteArray := method_19_code
def yL_itemsByCounting : MethodName := ⟨RL, "itemsByCounting", "(LMacroBench;)J"⟩
abbrev cL_words : ByteArray := method_20_code
def yL_words : MethodName := ⟨RL, "words", "(LMacroBench;)I"⟩
abbrev cL_wordAt : ByteArray := method_21_code
def yL_wordAt : MethodName := ⟨RL, "wordAt", "(LMacroBench;I)I"⟩
abbrev cL_relocations : ByteArray := method_22_code
def yL_relocations : MethodName := ⟨RL, "relocations", "(LMacroBench;)I"⟩
abbrev cL_loadedWord : ByteArray := method_23_code
def yL_loadedWord : MethodName := ⟨RL, "loadedWord", "(LMacroBench;II)I"⟩
abbrev cL_labelAddress : ByteArray := method_24_code
def yL_labelAddress : MethodName := ⟨RL, "labelAddress", "(LMacroBench;I)I"⟩
abbrev cL_passes : ByteArray := method_25_code
def yL_passes : MethodName := ⟨RL, "passes", "(LMacroBench;)I"⟩
abbrev cL_longJumps : ByteArray := method_26_code
def yL_longJumps : MethodName := ⟨RL, "longJumps", "(LMacroBench;)I"⟩
abbrev cL_items : ByteArray := method_27_code
def yL_items : MethodName := ⟨RL, "items", "(LMacroBench;)I"⟩
abbrev cL_lineOf : ByteArray := method_28_code
def yL_lineOf : MethodName := ⟨RL, "lineOf", "(LMacroBench;I)I"⟩
abbrev cL_kindOf : ByteArray := method_29_code
def yL_kindOf : MethodName := ⟨RL, "kindOf", "(LMacroBench;I)I"⟩
abbrev cL_depthOf : ByteArray := method_30_code
def yL_depthOf : MethodName := ⟨RL, "depthOf", "(LMacroBench;I)I"⟩
abbrev cL_addressOf : ByteArray := method_31_code
def yL_addressOf : MethodName := ⟨RL, "addressOf", "(LMacroBench;I)I"⟩
abbrev cL_addressByAdding : ByteArray := method_32_code
def yL_addressByAdding : MethodName := ⟨RL, "addressByAdding", "(LMacroBench;I)I"⟩
abbrev cL_targetOf : ByteArray := method_33_code
def yL_targetOf : MethodName := ⟨RL, "targetOf", "(LMacroBench;I)I"⟩
abbrev cL_shortShare : ByteArray := method_34_code
def yL_shortShare : MethodName := ⟨RL, "shortShare", "(LMacroBench;)F"⟩
abbrev cL_law : ByteArray := code
def yL_law : MethodName := ⟨RL, "law", "([I)Z"⟩
abbrev cL_sum : ByteArray := method_36_code
def yL_sum : MethodName := ⟨RL, "sum", "(LMacroBench;)I"⟩
abbrev cL_isFault : ByteArray := method_37_code
def yL_isFault : MethodName := ⟨RL, "isFault", "(LMacroBench;Z)Z"⟩
abbrev cL_isWhole : ByteArray := method_38_code
def yL_isWhole : MethodName := ⟨RL, "isWhole", "(LMacroBench;I)Z"⟩
def jG : List Cond := lw_tbl.filter goodWord
theorem jT1 {w : Cond} (h : w ∈ tables_1_1) : w ∈ lw_tbl := List.mem_append_right _ (show w ∈ tables_1 from List.mem_append_left _ h)
theorem jT2 {w : Cond} (h : w ∈ tables_1_2) : w ∈ lw_tbl := List.mem_append_right _ (show w ∈ tables_1 from List.mem_append_right _ (List.mem_append_left _ h))
theorem jT3 {w : Cond} (h : w ∈ tables_1_3) : w ∈ lw_tbl := List.mem_append_right _ (show w ∈ tables_1 from List.mem_append_right _ (List.mem_append_right _ (List.mem_append_left _ h)))
theorem jT4 {w : Cond} (h : w ∈ tables_1_4) : w ∈ lw_tbl := List.mem_append_right _ (show w ∈ tables_1 from List.mem_append_right _ (List.mem_append_right _ (List.mem_append_right _ (List.mem_append_left _ h))))
theorem jT5 {w : Cond} (h : w ∈ tables_1_5) : w ∈ lw_tbl := List.mem_append_right _ (show w ∈ tables_1 from List.mem_append_right _ (List.mem_append_right _ (List.mem_append_right _ (List.mem_append_right _ (List.mem_append_left _ h)))))
theorem jT6 {w : Cond} (h : w ∈ tables_1_6) : w ∈ lw_tbl := List.mem_append_right _ (show w ∈ tables_1 from List.mem_append_right _ (List.mem_append_right _ (List.mem_append_right _ (List.mem_append_right _ (List.mem_append_right _ h)))))
