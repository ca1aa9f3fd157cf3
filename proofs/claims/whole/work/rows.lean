section
-- ===== PART A: goes FIRST, ahead of the names: the tables' words, and 'selects' of the private methods out of them =====
/-- a private method of a class that the tables say can be made, by its rows of tables_1 -/
def lw_okq (q : MethodName × Nat) : Prop := (q.1.cls ≠ "java/lang/invoke/MethodHandle" ∧ q.1.cls ≠ "java/lang/invoke/VarHandle") ∧ Cond.instantiable q.1.cls q.2 ∈ tables_1 ∧ Cond.privateMethod q.1 ∈ tables_1 ∧ Cond.instanceMethod q.1 ∈ tables_1
theorem lw_p0 : lw_okq (⟨"FoldedNames", "putFromTape", "(IZ)I"⟩, 5) := ⟨⟨by decide +kernel, by decide +kernel⟩, List.mem_of_getElem? (i := 18) (by decide +kernel), List.mem_of_getElem? (i := 232) (by decide +kernel), List.mem_of_getElem? (i := 233) (by decide +kernel)⟩
theorem lw_p1 : lw_okq (⟨"FoldedNames", "directoryAt", "(I)LFoldedNames$Node;"⟩, 5) := ⟨⟨by decide +kernel, by decide +kernel⟩, List.mem_of_getElem? (i := 18) (by decide +kernel), List.mem_of_getElem? (i := 236) (by decide +kernel), List.mem_of_getElem? (i := 237) (by decide +kernel)⟩
theorem lw_p2 : lw_okq (⟨"FoldedNames", "nodeAt", "(I)LFoldedNames$Node;"⟩, 5) := ⟨⟨by decide +kernel, by decide +kernel⟩, List.mem_of_getElem? (i := 18) (by decide +kernel), List.mem_of_getElem? (i := 240) (by decide +kernel), List.mem_of_getElem? (i := 241) (by decide +kernel)⟩
theorem lw_p3 : lw_okq (⟨"FoldedNames", "askForName", "(II)Z"⟩, 5) := ⟨⟨by decide +kernel, by decide +kernel⟩, List.mem_of_getElem? (i := 18) (by decide +kernel), List.mem_of_getElem? (i := 244) (by decide +kernel), List.mem_of_getElem? (i := 245) (by decide +kernel)⟩
theorem lw_p4 : lw_okq (⟨"FoldedNames", "entryAsked", "(LFoldedNames$Node;)I"⟩, 5) := ⟨⟨by decide +kernel, by decide +kernel⟩, List.mem_of_getElem? (i := 18) (by decide +kernel), List.mem_of_getElem? (i := 251) (by decide +kernel), List.mem_of_getElem? (i := 252) (by decide +kernel)⟩
theorem lw_p5 : lw_okq (⟨"FoldedNames", "freeNumber", "()I"⟩, 5) := ⟨⟨by decide +kernel, by decide +kernel⟩, List.mem_of_getElem? (i := 18) (by decide +kernel), List.mem_of_getElem? (i := 265) (by decide +kernel), List.mem_of_getElem? (i := 266) (by decide +kernel)⟩
theorem lw_p6 : lw_okq (⟨"FoldedNames", "attach", "(ILFoldedNames$Node;ILFoldedNames$Node;)V"⟩, 5) := ⟨⟨by decide +kernel, by decide +kernel⟩, List.mem_of_getElem? (i := 18) (by decide +kernel), List.mem_of_getElem? (i := 277) (by decide +kernel), List.mem_of_getElem? (i := 278) (by decide +kernel)⟩
theorem lw_p7 : lw_okq (⟨"FoldedNames", "placeByName", "(LFoldedNames$Node;)I"⟩, 5) := ⟨⟨by decide +kernel, by decide +kernel⟩, List.mem_of_getElem? (i := 18) (by decide +kernel), List.mem_of_getElem? (i := 286) (by decide +kernel), List.mem_of_getElem? (i := 287) (by decide +kernel)⟩
theorem lw_p8 : lw_okq (⟨"FoldedNames", "findFromTape", "(I)I"⟩, 5) := ⟨⟨by decide +kernel, by decide +kernel⟩, List.mem_of_getElem? (i := 18) (by decide +kernel), List.mem_of_getElem? (i := 295) (by decide +kernel), List.mem_of_getElem? (i := 296) (by decide +kernel)⟩
theorem lw_p9 : lw_okq (⟨"FoldedNames", "walkFromTape", "(I)I"⟩, 5) := ⟨⟨by decide +kernel, by decide +kernel⟩, List.mem_of_getElem? (i := 18) (by decide +kernel), List.mem_of_getElem? (i := 303) (by decide +kernel), List.mem_of_getElem? (i := 304) (by decide +kernel)⟩
theorem lw_p10 : lw_okq (⟨"FoldedNames", "stepFrom", "(III)I"⟩, 5) := ⟨⟨by decide +kernel, by decide +kernel⟩, List.mem_of_getElem? (i := 18) (by decide +kernel), List.mem_of_getElem? (i := 307) (by decide +kernel), List.mem_of_getElem? (i := 308) (by decide +kernel)⟩
theorem lw_p11 : lw_okq (⟨"FoldedNames", "moveFromTape", "(II)I"⟩, 5) := ⟨⟨by decide +kernel, by decide +kernel⟩, List.mem_of_getElem? (i := 18) (by decide +kernel), List.mem_of_getElem? (i := 315) (by decide +kernel), List.mem_of_getElem? (i := 316) (by decide +kernel)⟩
theorem lw_p12 : lw_okq (⟨"FoldedNames", "isWithin", "(II)Z"⟩, 5) := ⟨⟨by decide +kernel, by decide +kernel⟩, List.mem_of_getElem? (i := 18) (by decide +kernel), List.mem_of_getElem? (i := 320) (by decide +kernel), List.mem_of_getElem? (i := 321) (by decide +kernel)⟩
theorem lw_p13 : lw_okq (⟨"FoldedNames", "detach", "(II)V"⟩, 5) := ⟨⟨by decide +kernel, by decide +kernel⟩, List.mem_of_getElem? (i := 18) (by decide +kernel), List.mem_of_getElem? (i := 324) (by decide +kernel), List.mem_of_getElem? (i := 325) (by decide +kernel)⟩
theorem lw_p14 : lw_okq (⟨"java/lang/Throwable", "fillInStackTrace", "(I)Ljava/lang/Throwable;"⟩, 6) := ⟨⟨by decide +kernel, by decide +kernel⟩, List.mem_of_getElem? (i := 392) (by decide +kernel), List.mem_of_getElem? (i := 390) (by decide +kernel), List.mem_of_getElem? (i := 391) (by decide +kernel)⟩
theorem lw_p15 : lw_okq (⟨"FoldedNames", "depthOf", "(I)I"⟩, 5) := ⟨⟨by decide +kernel, by decide +kernel⟩, List.mem_of_getElem? (i := 18) (by decide +kernel), List.mem_of_getElem? (i := 430) (by decide +kernel), List.mem_of_getElem? (i := 431) (by decide +kernel)⟩
def lw_privs_1 : List (MethodName × Nat) := [(⟨"FoldedNames", "putFromTape", "(IZ)I"⟩, 5), (⟨"FoldedNames", "directoryAt", "(I)LFoldedNames$Node;"⟩, 5), (⟨"FoldedNames", "nodeAt", "(I)LFoldedNames$Node;"⟩, 5), (⟨"FoldedNames", "askForName", "(II)Z"⟩, 5), (⟨"FoldedNames", "entryAsked", "(LFoldedNames$Node;)I"⟩, 5), (⟨"FoldedNames", "freeNumber", "()I"⟩, 5), (⟨"FoldedNames", "attach", "(ILFoldedNames$Node;ILFoldedNames$Node;)V"⟩, 5), (⟨"FoldedNames", "placeByName", "(LFoldedNames$Node;)I"⟩, 5), (⟨"FoldedNames", "findFromTape", "(I)I"⟩, 5), (⟨"FoldedNames", "walkFromTape", "(I)I"⟩, 5), (⟨"FoldedNames", "stepFrom", "(III)I"⟩, 5), (⟨"FoldedNames", "moveFromTape", "(II)I"⟩, 5), (⟨"FoldedNames", "isWithin", "(II)Z"⟩, 5), (⟨"FoldedNames", "detach", "(II)V"⟩, 5), (⟨"java/lang/Throwable", "fillInStackTrace", "(I)Ljava/lang/Throwable;"⟩, 6), (⟨"FoldedNames", "depthOf", "(I)I"⟩, 5)]
theorem lw_r1 : ∀ q ∈ lw_privs_1, lw_okq q := List.forall_mem_cons.mpr ⟨lw_p0, List.forall_mem_cons.mpr ⟨lw_p1, List.forall_mem_cons.mpr ⟨lw_p2, List.forall_mem_cons.mpr ⟨lw_p3, List.forall_mem_cons.mpr ⟨lw_p4, List.forall_mem_cons.mpr ⟨lw_p5, List.forall_mem_cons.mpr ⟨lw_p6, List.forall_mem_cons.mpr ⟨lw_p7, List.forall_mem_cons.mpr ⟨lw_p8, List.forall_mem_cons.mpr ⟨lw_p9, List.forall_mem_cons.mpr ⟨lw_p10, List.forall_mem_cons.mpr ⟨lw_p11, List.forall_mem_cons.mpr ⟨lw_p12, List.forall_mem_cons.mpr ⟨lw_p13, List.forall_mem_cons.mpr ⟨lw_p14, List.forall_mem_cons.mpr ⟨lw_p15, fun _ h => absurd h List.not_mem_nil⟩⟩⟩⟩⟩⟩⟩⟩⟩⟩⟩⟩⟩⟩⟩⟩
theorem lw_p16 : lw_okq (⟨"FoldedNamesModel", "takeTape", "()V"⟩, 21) := ⟨⟨by decide +kernel, by decide +kernel⟩, List.mem_of_getElem? (i := 442) (by decide +kernel), List.mem_of_getElem? (i := 526) (by decide +kernel), List.mem_of_getElem? (i := 527) (by decide +kernel)⟩
theorem lw_p17 : lw_okq (⟨"FoldedNamesModel", "read", "()I"⟩, 21) := ⟨⟨by decide +kernel, by decide +kernel⟩, List.mem_of_getElem? (i := 442) (by decide +kernel), List.mem_of_getElem? (i := 530) (by decide +kernel), List.mem_of_getElem? (i := 531) (by decide +kernel)⟩
theorem lw_p18 : lw_okq (⟨"FoldedNamesModel", "foldAll", "()V"⟩, 21) := ⟨⟨by decide +kernel, by decide +kernel⟩, List.mem_of_getElem? (i := 442) (by decide +kernel), List.mem_of_getElem? (i := 542) (by decide +kernel), List.mem_of_getElem? (i := 543) (by decide +kernel)⟩
theorem lw_p19 : lw_okq (⟨"FoldedNamesModel", "putPoint", "(I)V"⟩, 21) := ⟨⟨by decide +kernel, by decide +kernel⟩, List.mem_of_getElem? (i := 442) (by decide +kernel), List.mem_of_getElem? (i := 557) (by decide +kernel), List.mem_of_getElem? (i := 558) (by decide +kernel)⟩
theorem lw_p20 : lw_okq (⟨"FoldedNamesModel", "noDirectory", "(I)Z"⟩, 21) := ⟨⟨by decide +kernel, by decide +kernel⟩, List.mem_of_getElem? (i := 442) (by decide +kernel), List.mem_of_getElem? (i := 586) (by decide +kernel), List.mem_of_getElem? (i := 587) (by decide +kernel)⟩
theorem lw_p21 : lw_okq (⟨"FoldedNamesModel", "noNode", "(I)Z"⟩, 21) := ⟨⟨by decide +kernel, by decide +kernel⟩, List.mem_of_getElem? (i := 442) (by decide +kernel), List.mem_of_getElem? (i := 590) (by decide +kernel), List.mem_of_getElem? (i := 591) (by decide +kernel)⟩
theorem lw_p22 : lw_okq (⟨"FoldedNamesModel", "isName", "()Z"⟩, 21) := ⟨⟨by decide +kernel, by decide +kernel⟩, List.mem_of_getElem? (i := 442) (by decide +kernel), List.mem_of_getElem? (i := 594) (by decide +kernel), List.mem_of_getElem? (i := 595) (by decide +kernel)⟩
theorem lw_p23 : lw_okq (⟨"FoldedNamesModel", "entryLike", "(II)I"⟩, 21) := ⟨⟨by decide +kernel, by decide +kernel⟩, List.mem_of_getElem? (i := 442) (by decide +kernel), List.mem_of_getElem? (i := 598) (by decide +kernel), List.mem_of_getElem? (i := 599) (by decide +kernel)⟩
theorem lw_p24 : lw_okq (⟨"FoldedNamesModel", "freeNode", "()I"⟩, 21) := ⟨⟨by decide +kernel, by decide +kernel⟩, List.mem_of_getElem? (i := 442) (by decide +kernel), List.mem_of_getElem? (i := 602) (by decide +kernel), List.mem_of_getElem? (i := 603) (by decide +kernel)⟩
theorem lw_p25 : lw_okq (⟨"FoldedNamesModel", "setName", "(I)V"⟩, 21) := ⟨⟨by decide +kernel, by decide +kernel⟩, List.mem_of_getElem? (i := 442) (by decide +kernel), List.mem_of_getElem? (i := 606) (by decide +kernel), List.mem_of_getElem? (i := 607) (by decide +kernel)⟩
theorem lw_p26 : lw_okq (⟨"FoldedNamesModel", "append", "(II)V"⟩, 21) := ⟨⟨by decide +kernel, by decide +kernel⟩, List.mem_of_getElem? (i := 442) (by decide +kernel), List.mem_of_getElem? (i := 610) (by decide +kernel), List.mem_of_getElem? (i := 611) (by decide +kernel)⟩
theorem lw_p27 : lw_okq (⟨"FoldedNamesModel", "isWithin", "(II)Z"⟩, 21) := ⟨⟨by decide +kernel, by decide +kernel⟩, List.mem_of_getElem? (i := 442) (by decide +kernel), List.mem_of_getElem? (i := 626) (by decide +kernel), List.mem_of_getElem? (i := 627) (by decide +kernel)⟩
theorem lw_p28 : lw_okq (⟨"FoldedNamesModel", "detach", "(I)V"⟩, 21) := ⟨⟨by decide +kernel, by decide +kernel⟩, List.mem_of_getElem? (i := 442) (by decide +kernel), List.mem_of_getElem? (i := 630) (by decide +kernel), List.mem_of_getElem? (i := 631) (by decide +kernel)⟩
theorem lw_p29 : lw_okq (⟨"FoldedNamesModel", "isBefore", "(II)Z"⟩, 21) := ⟨⟨by decide +kernel, by decide +kernel⟩, List.mem_of_getElem? (i := 442) (by decide +kernel), List.mem_of_getElem? (i := 650) (by decide +kernel), List.mem_of_getElem? (i := 651) (by decide +kernel)⟩
def lw_privs_2 : List (MethodName × Nat) := [(⟨"FoldedNamesModel", "takeTape", "()V"⟩, 21), (⟨"FoldedNamesModel", "read", "()I"⟩, 21), (⟨"FoldedNamesModel", "foldAll", "()V"⟩, 21), (⟨"FoldedNamesModel", "putPoint", "(I)V"⟩, 21), (⟨"FoldedNamesModel", "noDirectory", "(I)Z"⟩, 21), (⟨"FoldedNamesModel", "noNode", "(I)Z"⟩, 21), (⟨"FoldedNamesModel", "isName", "()Z"⟩, 21), (⟨"FoldedNamesModel", "entryLike", "(II)I"⟩, 21), (⟨"FoldedNamesModel", "freeNode", "()I"⟩, 21), (⟨"FoldedNamesModel", "setName", "(I)V"⟩, 21), (⟨"FoldedNamesModel", "append", "(II)V"⟩, 21), (⟨"FoldedNamesModel", "isWithin", "(II)Z"⟩, 21), (⟨"FoldedNamesModel", "detach", "(I)V"⟩, 21), (⟨"FoldedNamesModel", "isBefore", "(II)Z"⟩, 21)]
theorem lw_r2 : ∀ q ∈ lw_privs_2, lw_okq q := List.forall_mem_cons.mpr ⟨lw_p16, List.forall_mem_cons.mpr ⟨lw_p17, List.forall_mem_cons.mpr ⟨lw_p18, List.forall_mem_cons.mpr ⟨lw_p19, List.forall_mem_cons.mpr ⟨lw_p20, List.forall_mem_cons.mpr ⟨lw_p21, List.forall_mem_cons.mpr ⟨lw_p22, List.forall_mem_cons.mpr ⟨lw_p23, List.forall_mem_cons.mpr ⟨lw_p24, List.forall_mem_cons.mpr ⟨lw_p25, List.forall_mem_cons.mpr ⟨lw_p26, List.forall_mem_cons.mpr ⟨lw_p27, List.forall_mem_cons.mpr ⟨lw_p28, List.forall_mem_cons.mpr ⟨lw_p29, fun _ h => absurd h List.not_mem_nil⟩⟩⟩⟩⟩⟩⟩⟩⟩⟩⟩⟩⟩⟩
def lw_privs : List (MethodName × Nat) := lw_privs_1 ++ (lw_privs_2)
def lw_tbl : List Cond := k2_sels lw_privs ++ tables_1
theorem lw_privs_ok : ∀ q ∈ lw_privs, lw_okq q := by
  show ∀ q ∈ lw_privs_1 ++ (lw_privs_2), lw_okq q
  exact List.forall_mem_append.mpr ⟨lw_r1, lw_r2⟩
end
section
def RX0 : String := "FoldedNames$Folding"
def TX0 : u_T := fun k => match k with
  | _ => ("", "", "", false)
def tyX0 : Nat → FieldType := fun k => match k with
  | _ => .int
theorem nmX0 : ∀ a, a < 0 → ∀ b, b < 0 → a ≠ b → (TX0 a).2.1 ≠ (TX0 b).2.1 := by decide +kernel
theorem tyX0_ok : ∀ k, k < 0 → parseFieldDescriptor (TX0 k).2.2.1 = some (tyX0 k) := by decide +kernel
abbrev cX0_foldInto : ByteArray := prog_2_method_2_code
def yX0_foldInto : MethodName := ⟨RX0, "foldInto", "(LFoldedNames$Row;LFoldedNames$Row;II)V"⟩
abbrev cX0_addFolded : ByteArray := prog_2_method_3_code
def yX0_addFolded : MethodName := ⟨RX0, "addFolded", "(LFoldedNames$Row;I)V"⟩
abbrev cX0_markStep : ByteArray := prog_2_method_4_code
def yX0_markStep : MethodName := ⟨RX0, "markStep", "(I)I"⟩
abbrev cX0_addInOrder : ByteArray := prog_2_method_5_code
def yX0_addInOrder : MethodName := ⟨RX0, "addInOrder", "(LFoldedNames$Row;I)V"⟩
abbrev cX0_markClass : ByteArray := prog_2_method_6_code
def yX0_markClass : MethodName := ⟨RX0, "markClass", "(I)I"⟩
abbrev cX0_small : ByteArray := prog_2_method_7_code
def yX0_small : MethodName := ⟨RX0, "small", "(I)I"⟩
abbrev cX0_smallLatin : ByteArray := prog_2_method_8_code
def yX0_smallLatin : MethodName := ⟨RX0, "smallLatin", "(I)I"⟩
abbrev cX0_smallLatinExtended : ByteArray := prog_2_method_9_code
def yX0_smallLatinExtended : MethodName := ⟨RX0, "smallLatinExtended", "(I)I"⟩
def RX1 : String := "FoldedNames$Node"
def TX1 : u_T := fun k => match k with
  | 0 => ("FoldedNames$Node", "name", "LFoldedNames$Row;", true)
  | 1 => ("FoldedNames$Node", "foldedName", "LFoldedNames$Row;", true)
  | 2 => ("FoldedNames$Node", "entries", "LFoldedNames$Row;", true)
  | 3 => ("FoldedNames$Node", "entriesByName", "LFoldedNames$Row;", true)
  | 4 => ("FoldedNames$Node", "isThere", "Z", false)
  | 5 => ("FoldedNames$Node", "isDirectory", "Z", false)
  | _ => ("FoldedNames$Node", "parent", "I", false)
def tyX1 : Nat → FieldType := fun k => match k with
  | 0 => .object "FoldedNames$Row"
  | 1 => .object "FoldedNames$Row"
  | 2 => .object "FoldedNames$Row"
  | 3 => .object "FoldedNames$Row"
  | 4 => .boolean
  | 5 => .boolean
  | _ => .int
theorem nmX1 : ∀ a, a < 7 → ∀ b, b < 7 → a ≠ b → (TX1 a).2.1 ≠ (TX1 b).2.1 := by decide +kernel
theorem tyX1_ok : ∀ k, k < 7 → parseFieldDescriptor (TX1 k).2.2.1 = some (tyX1 k) := by decide +kernel
abbrev cX1_init : ByteArray := prog_3_method_1_code
def yX1_init : MethodName := ⟨RX1, "<init>", "()V"⟩
abbrev cX1_begin : ByteArray := prog_3_method_2_code
def yX1_begin : MethodName := ⟨RX1, "begin", "(Z)V"⟩
abbrev cX1_takeName : ByteArray := prog_3_method_3_code
def yX1_takeName : MethodName := ⟨RX1, "takeName", "(LFoldedNames$Row;LFoldedNames$Row;)V"⟩
def RX2 : String := "FoldedNames$Row"
def TX2 : u_T := fun k => match k with
  | 0 => ("FoldedNames$Row", "items", "[I", true)
  | _ => ("FoldedNames$Row", "size", "I", false)
def tyX2 : Nat → FieldType := fun k => match k with
  | 0 => .array .int
  | _ => .int
theorem nmX2 : ∀ a, a < 2 → ∀ b, b < 2 → a ≠ b → (TX2 a).2.1 ≠ (TX2 b).2.1 := by decide +kernel
theorem tyX2_ok : ∀ k, k < 2 → parseFieldDescriptor (TX2 k).2.2.1 = some (tyX2 k) := by decide +kernel
abbrev cX2_init : ByteArray := prog_4_method_1_code
def yX2_init : MethodName := ⟨RX2, "<init>", "(I)V"⟩
abbrev cX2_size : ByteArray := prog_4_method_2_code
def yX2_size : MethodName := ⟨RX2, "size", "()I"⟩
abbrev cX2_at : ByteArray := prog_4_method_3_code
def yX2_at : MethodName := ⟨RX2, "at", "(I)I"⟩
abbrev cX2_clear : ByteArray := prog_4_method_4_code
def yX2_clear : MethodName := ⟨RX2, "clear", "()V"⟩
abbrev cX2_add : ByteArray := prog_4_method_5_code
def yX2_add : MethodName := ⟨RX2, "add", "(I)V"⟩
abbrev cX2_insert : ByteArray := prog_4_method_6_code
def yX2_insert : MethodName := ⟨RX2, "insert", "(II)V"⟩
abbrev cX2_takeOut : ByteArray := prog_4_method_7_code
def yX2_takeOut : MethodName := ⟨RX2, "takeOut", "(I)V"⟩
abbrev cX2_copyFrom : ByteArray := prog_4_method_8_code
def yX2_copyFrom : MethodName := ⟨RX2, "copyFrom", "(LFoldedNames$Row;)V"⟩
abbrev cX2_compareWith : ByteArray := prog_4_method_9_code
def yX2_compareWith : MethodName := ⟨RX2, "compareWith", "(LFoldedNames$Row;)I"⟩
def RX3 : String := "FoldedNames$Text"
def TX3 : u_T := fun k => match k with
  | _ => ("", "", "", false)
def tyX3 : Nat → FieldType := fun k => match k with
  | _ => .int
theorem nmX3 : ∀ a, a < 0 → ∀ b, b < 0 → a ≠ b → (TX3 a).2.1 ≠ (TX3 b).2.1 := by decide +kernel
theorem tyX3_ok : ∀ k, k < 0 → parseFieldDescriptor (TX3 k).2.2.1 = some (tyX3 k) := by decide +kernel
abbrev cX3_wrongPlace : ByteArray := prog_5_method_2_code
def yX3_wrongPlace : MethodName := ⟨RX3, "wrongPlace", "(LFoldedNames$Row;II)I"⟩
abbrev cX3_pointAt : ByteArray := prog_5_method_3_code
def yX3_pointAt : MethodName := ⟨RX3, "pointAt", "(LFoldedNames$Row;II)I"⟩
abbrev cX3_octetsOf : ByteArray := prog_5_method_4_code
def yX3_octetsOf : MethodName := ⟨RX3, "octetsOf", "(I)I"⟩
abbrev cX3_octetsMore : ByteArray := prog_5_method_5_code
def yX3_octetsMore : MethodName := ⟨RX3, "octetsMore", "(I)I"⟩
abbrev cX3_isDots : ByteArray := prog_5_method_6_code
def yX3_isDots : MethodName := ⟨RX3, "isDots", "(LFoldedNames$Row;II)Z"⟩
def RX4 : String := "FoldedNames"
def TX4 : u_T := fun k => match k with
  | 0 => ("FoldedNames", "tape", "LFoldedNames$Row;", true)
  | 1 => ("FoldedNames", "lastFolded", "LFoldedNames$Row;", true)
  | 2 => ("FoldedNames", "asked", "LFoldedNames$Row;", true)
  | 3 => ("FoldedNames", "slots", "[LFoldedNames$Node;", true)
  | _ => ("FoldedNames", "count", "I", false)
def tyX4 : Nat → FieldType := fun k => match k with
  | 0 => .object "FoldedNames$Row"
  | 1 => .object "FoldedNames$Row"
  | 2 => .object "FoldedNames$Row"
  | 3 => .array (.object "FoldedNames$Node")
  | _ => .int
theorem nmX4 : ∀ a, a < 5 → ∀ b, b < 5 → a ≠ b → (TX4 a).2.1 ≠ (TX4 b).2.1 := by decide +kernel
theorem tyX4_ok : ∀ k, k < 5 → parseFieldDescriptor (TX4 k).2.2.1 = some (tyX4 k) := by decide +kernel
abbrev cX4_init : ByteArray := prog_1_method_1_code
def yX4_init : MethodName := ⟨RX4, "<init>", "()V"⟩
abbrev cX4_feed : ByteArray := prog_1_method_2_code
def yX4_feed : MethodName := ⟨RX4, "feed", "(IJ)I"⟩
abbrev cX4_check : ByteArray := prog_1_method_3_code
def yX4_check : MethodName := ⟨RX4, "check", "()I"⟩
abbrev cX4_fold : ByteArray := prog_1_method_4_code
def yX4_fold : MethodName := ⟨RX4, "fold", "()I"⟩
abbrev cX4_folded : ByteArray := prog_1_method_5_code
def yX4_folded : MethodName := ⟨RX4, "folded", "(I)I"⟩
abbrev cX4_put : ByteArray := prog_1_method_6_code
def yX4_put : MethodName := ⟨RX4, "put", "(IZ)I"⟩
abbrev cX4_find : ByteArray := prog_1_method_7_code
def yX4_find : MethodName := ⟨RX4, "find", "(I)I"⟩
abbrev cX4_walk : ByteArray := prog_1_method_8_code
def yX4_walk : MethodName := ⟨RX4, "walk", "(I)I"⟩
abbrev cX4_move : ByteArray := prog_1_method_9_code
def yX4_move : MethodName := ⟨RX4, "move", "(II)I"⟩
abbrev cX4_remove : ByteArray := prog_1_method_10_code
def yX4_remove : MethodName := ⟨RX4, "remove", "(I)I"⟩
abbrev cX4_about : ByteArray := prog_1_method_11_code
def yX4_about : MethodName := ⟨RX4, "about", "(II)I"⟩
abbrev cX4_entry : ByteArray := prog_1_method_12_code
def yX4_entry : MethodName := ⟨RX4, "entry", "(II)I"⟩
abbrev cX4_sorted : ByteArray := prog_1_method_13_code
def yX4_sorted : MethodName := ⟨RX4, "sorted", "(II)I"⟩
abbrev cX4_letter : ByteArray := prog_1_method_14_code
def yX4_letter : MethodName := ⟨RX4, "letter", "(III)I"⟩
abbrev cX4_nodes : ByteArray := prog_1_method_15_code
def yX4_nodes : MethodName := ⟨RX4, "nodes", "()I"⟩
abbrev cX4_putFromTape : ByteArray := prog_1_method_16_code
def yX4_putFromTape : MethodName := ⟨RX4, "putFromTape", "(IZ)I"⟩
abbrev cX4_findFromTape : ByteArray := prog_1_method_17_code
def yX4_findFromTape : MethodName := ⟨RX4, "findFromTape", "(I)I"⟩
abbrev cX4_walkFromTape : ByteArray := prog_1_method_18_code
def yX4_walkFromTape : MethodName := ⟨RX4, "walkFromTape", "(I)I"⟩
abbrev cX4_stepFrom : ByteArray := prog_1_method_19_code
def yX4_stepFrom : MethodName := ⟨RX4, "stepFrom", "(III)I"⟩
abbrev cX4_moveFromTape : ByteArray := prog_1_method_20_code
def yX4_moveFromTape : MethodName := ⟨RX4, "moveFromTape", "(II)I"⟩
abbrev cX4_nodeAt : ByteArray := prog_1_method_21_code
def yX4_nodeAt : MethodName := ⟨RX4, "nodeAt", "(I)LFoldedNames$Node;"⟩
abbrev cX4_directoryAt : ByteArray := prog_1_method_22_code
def yX4_directoryAt : MethodName := ⟨RX4, "directoryAt", "(I)LFoldedNames$Node;"⟩
abbrev cX4_freeNumber : ByteArray := prog_1_method_23_code
def yX4_freeNumber : MethodName := ⟨RX4, "freeNumber", "()I"⟩
abbrev cX4_askForName : ByteArray := prog_1_method_24_code
def yX4_askForName : MethodName := ⟨RX4, "askForName", "(II)Z"⟩
abbrev cX4_entryAsked : ByteArray := prog_1_method_25_code
def yX4_entryAsked : MethodName := ⟨RX4, "entryAsked", "(LFoldedNames$Node;)I"⟩
abbrev cX4_attach : ByteArray := prog_1_method_26_code
def yX4_attach : MethodName := ⟨RX4, "attach", "(ILFoldedNames$Node;ILFoldedNames$Node;)V"⟩
abbrev cX4_placeByName : ByteArray := prog_1_method_27_code
def yX4_placeByName : MethodName := ⟨RX4, "placeByName", "(LFoldedNames$Node;)I"⟩
abbrev cX4_detach : ByteArray := prog_1_method_28_code
def yX4_detach : MethodName := ⟨RX4, "detach", "(II)V"⟩
abbrev cX4_isWithin : ByteArray := prog_1_method_29_code
def yX4_isWithin : MethodName := ⟨RX4, "isWithin", "(II)Z"⟩
abbrev cX4_depthOf : ByteArray := prog_1_method_30_code
def yX4_depthOf : MethodName := ⟨RX4, "depthOf", "(I)I"⟩
def RX5 : String := "FoldedNamesModel"
def TX5 : u_T := fun k => match k with
  | 0 => ("FoldedNamesModel", "tape", "[I", true)
  | 1 => ("FoldedNamesModel", "size", "I", false)
  | 2 => ("FoldedNamesModel", "is", "[Z", true)
  | 3 => ("FoldedNamesModel", "isDirectory", "[Z", true)
  | 4 => ("FoldedNamesModel", "parent", "[I", true)
  | 5 => ("FoldedNamesModel", "name", "[I", true)
  | 6 => ("FoldedNamesModel", "nameSize", "[I", true)
  | 7 => ("FoldedNamesModel", "point", "[I", true)
  | 8 => ("FoldedNamesModel", "points", "[I", true)
  | 9 => ("FoldedNamesModel", "entry", "[I", true)
  | 10 => ("FoldedNamesModel", "entries", "[I", true)
  | 11 => ("FoldedNamesModel", "folded", "[I", true)
  | 12 => ("FoldedNamesModel", "foldedSize", "I", false)
  | 13 => ("FoldedNamesModel", "thrown", "I", false)
  | 14 => ("FoldedNamesModel", "hand", "[I", true)
  | 15 => ("FoldedNamesModel", "handSize", "I", false)
  | 16 => ("FoldedNamesModel", "plain", "[I", true)
  | 17 => ("FoldedNamesModel", "plainSize", "I", false)
  | 18 => ("FoldedNamesModel", "fold", "[I", true)
  | 19 => ("FoldedNamesModel", "foldSize", "I", false)
  | _ => ("FoldedNamesModel", "way", "[I", true)
def tyX5 : Nat → FieldType := fun k => match k with
  | 0 => .array .int
  | 1 => .int
  | 2 => .array .boolean
  | 3 => .array .boolean
  | 4 => .array .int
  | 5 => .array .int
  | 6 => .array .int
  | 7 => .array .int
  | 8 => .array .int
  | 9 => .array .int
  | 10 => .array .int
  | 11 => .array .int
  | 12 => .int
  | 13 => .int
  | 14 => .array .int
  | 15 => .int
  | 16 => .array .int
  | 17 => .int
  | 18 => .array .int
  | 19 => .int
  | _ => .array .int
theorem nmX5 : ∀ a, a < 21 → ∀ b, b < 21 → a ≠ b → (TX5 a).2.1 ≠ (TX5 b).2.1 := by decide +kernel
theorem tyX5_ok : ∀ k, k < 21 → parseFieldDescriptor (TX5 k).2.2.1 = some (tyX5 k) := by decide +kernel
abbrev cX5_init : ByteArray := prog_7_method_1_code
def yX5_init : MethodName := ⟨RX5, "<init>", "()V"⟩
abbrev cX5_thrown : ByteArray := prog_7_method_2_code
def yX5_thrown : MethodName := ⟨RX5, "thrown", "()I"⟩
abbrev cX5_feed : ByteArray := prog_7_method_3_code
def yX5_feed : MethodName := ⟨RX5, "feed", "(IJ)I"⟩
abbrev cX5_takeTape : ByteArray := prog_7_method_4_code
def yX5_takeTape : MethodName := ⟨RX5, "takeTape", "()V"⟩
abbrev cX5_read : ByteArray := prog_7_method_5_code
def yX5_read : MethodName := ⟨RX5, "read", "()I"⟩
abbrev cX5_letters : ByteArray := prog_7_method_6_code
def yX5_letters : MethodName := ⟨RX5, "letters", "(I)J"⟩
abbrev cX5_marks : ByteArray := prog_7_method_7_code
def yX5_marks : MethodName := ⟨RX5, "marks", "(I)J"⟩
abbrev cX5_markOf : ByteArray := prog_7_method_8_code
def yX5_markOf : MethodName := ⟨RX5, "markOf", "(I)I"⟩
abbrev cX5_small : ByteArray := prog_7_method_9_code
def yX5_small : MethodName := ⟨RX5, "small", "(I)I"⟩
abbrev cX5_classOf : ByteArray := prog_7_method_10_code
def yX5_classOf : MethodName := ⟨RX5, "classOf", "(I)I"⟩
abbrev cX5_putPoint : ByteArray := prog_7_method_11_code
def yX5_putPoint : MethodName := ⟨RX5, "putPoint", "(I)V"⟩
abbrev cX5_foldAll : ByteArray := prog_7_method_12_code
def yX5_foldAll : MethodName := ⟨RX5, "foldAll", "()V"⟩
abbrev cX5_check : ByteArray := prog_7_method_13_code
def yX5_check : MethodName := ⟨RX5, "check", "()I"⟩
abbrev cX5_fold : ByteArray := prog_7_method_14_code
def yX5_fold : MethodName := ⟨RX5, "fold", "()I"⟩
abbrev cX5_folded : ByteArray := prog_7_method_15_code
def yX5_folded : MethodName := ⟨RX5, "folded", "(I)I"⟩
abbrev cX5_isName : ByteArray := prog_7_method_16_code
def yX5_isName : MethodName := ⟨RX5, "isName", "()Z"⟩
abbrev cX5_noNode : ByteArray := prog_7_method_17_code
def yX5_noNode : MethodName := ⟨RX5, "noNode", "(I)Z"⟩
abbrev cX5_noDirectory : ByteArray := prog_7_method_18_code
def yX5_noDirectory : MethodName := ⟨RX5, "noDirectory", "(I)Z"⟩
abbrev cX5_entryLike : ByteArray := prog_7_method_19_code
def yX5_entryLike : MethodName := ⟨RX5, "entryLike", "(II)I"⟩
abbrev cX5_setName : ByteArray := prog_7_method_20_code
def yX5_setName : MethodName := ⟨RX5, "setName", "(I)V"⟩
abbrev cX5_append : ByteArray := prog_7_method_21_code
def yX5_append : MethodName := ⟨RX5, "append", "(II)V"⟩
abbrev cX5_detach : ByteArray := prog_7_method_22_code
def yX5_detach : MethodName := ⟨RX5, "detach", "(I)V"⟩
abbrev cX5_freeNode : ByteArray := prog_7_method_23_code
def yX5_freeNode : MethodName := ⟨RX5, "freeNode", "()I"⟩
abbrev cX5_put : ByteArray := prog_7_method_24_code
def yX5_put : MethodName := ⟨RX5, "put", "(IZ)I"⟩
abbrev cX5_find : ByteArray := prog_7_method_25_code
def yX5_find : MethodName := ⟨RX5, "find", "(I)I"⟩
abbrev cX5_walk : ByteArray := prog_7_method_26_code
def yX5_walk : MethodName := ⟨RX5, "walk", "(I)I"⟩
abbrev cX5_isWithin : ByteArray := prog_7_method_27_code
def yX5_isWithin : MethodName := ⟨RX5, "isWithin", "(II)Z"⟩
abbrev cX5_move : ByteArray := prog_7_method_28_code
def yX5_move : MethodName := ⟨RX5, "move", "(II)I"⟩
abbrev cX5_remove : ByteArray := prog_7_method_29_code
def yX5_remove : MethodName := ⟨RX5, "remove", "(I)I"⟩
abbrev cX5_about : ByteArray := prog_7_method_30_code
def yX5_about : MethodName := ⟨RX5, "about", "(II)I"⟩
abbrev cX5_entry : ByteArray := prog_7_method_31_code
def yX5_entry : MethodName := ⟨RX5, "entry", "(II)I"⟩
abbrev cX5_isBefore : ByteArray := prog_7_method_32_code
def yX5_isBefore : MethodName := ⟨RX5, "isBefore", "(II)Z"⟩
abbrev cX5_sorted : ByteArray := prog_7_method_33_code
def yX5_sorted : MethodName := ⟨RX5, "sorted", "(II)I"⟩
abbrev cX5_letter : ByteArray := prog_7_method_34_code
def yX5_letter : MethodName := ⟨RX5, "letter", "(III)I"⟩
abbrev cX5_nodes : ByteArray := prog_7_method_35_code
def yX5_nodes : MethodName := ⟨RX5, "nodes", "()I"⟩
def RJ6 : String := "java/lang/Integer"
def TJ6 : u_T := fun k => match k with
  | _ => ("", "", "", false)
def tyJ6 : Nat → FieldType := fun k => match k with
  | _ => .int
theorem nmJ6 : ∀ a, a < 0 → ∀ b, b < 0 → a ≠ b → (TJ6 a).2.1 ≠ (TJ6 b).2.1 := by decide +kernel
theorem tyJ6_ok : ∀ k, k < 0 → parseFieldDescriptor (TJ6 k).2.2.1 = some (tyJ6 k) := by decide +kernel
abbrev cJ6_compare_7cf53 : ByteArray := prog_10_method_40_code
def yJ6_compare_7cf53 : MethodName := ⟨RJ6, "compare", "(II)I"⟩
def RJ9 : String := "java/lang/Math"
def TJ9 : u_T := fun k => match k with
  | _ => ("", "", "", false)
def tyJ9 : Nat → FieldType := fun k => match k with
  | _ => .int
theorem nmJ9 : ∀ a, a < 0 → ∀ b, b < 0 → a ≠ b → (TJ9 a).2.1 ≠ (TJ9 b).2.1 := by decide +kernel
theorem tyJ9_ok : ∀ k, k < 0 → parseFieldDescriptor (TJ9 k).2.2.1 = some (tyJ9 k) := by decide +kernel
abbrev cJ9_max_7cf53 : ByteArray := prog_11_method_65_code
def yJ9_max_7cf53 : MethodName := ⟨RJ9, "max", "(II)I"⟩
abbrev cJ9_min_7cf53 : ByteArray := prog_11_method_69_code
def yJ9_min_7cf53 : MethodName := ⟨RJ9, "min", "(II)I"⟩
def RJ0 : String := "java/lang/String"
def TJ0 : u_T := fun k => match k with
  | _ => ("", "", "", false)
def tyJ0 : Nat → FieldType := fun k => match k with
  | _ => .int
theorem nmJ0 : ∀ a, a < 0 → ∀ b, b < 0 → a ≠ b → (TJ0 a).2.1 ≠ (TJ0 b).2.1 := by decide +kernel
theorem tyJ0_ok : ∀ k, k < 0 → parseFieldDescriptor (TJ0 k).2.2.1 = some (tyJ0 k) := by decide +kernel
abbrev cJ0_length_8abf5 : ByteArray := prog_13_method_54_code
def yJ0_length_8abf5 : MethodName := ⟨RJ0, "length", "()I"⟩
abbrev cJ0_charAt_5068e : ByteArray := prog_13_method_56_code
def yJ0_charAt_5068e : MethodName := ⟨RJ0, "charAt", "(I)C"⟩
abbrev cJ0_coder_7d493 : ByteArray := prog_13_method_152_code
def yJ0_coder_7d493 : MethodName := ⟨RJ0, "coder", "()B"⟩
abbrev cJ0_isLatin1_aae02 : ByteArray := prog_13_method_154_code
def yJ0_isLatin1_aae02 : MethodName := ⟨RJ0, "isLatin1", "()Z"⟩
abbrev cJ0_checkIndex_df160 : ByteArray := prog_13_method_155_code
def yJ0_checkIndex_df160 : MethodName := ⟨RJ0, "checkIndex", "(II)V"⟩
def RJ1 : String := "java/lang/StringLatin1"
def TJ1 : u_T := fun k => match k with
  | _ => ("", "", "", false)
def tyJ1 : Nat → FieldType := fun k => match k with
  | _ => .int
theorem nmJ1 : ∀ a, a < 0 → ∀ b, b < 0 → a ≠ b → (TJ1 a).2.1 ≠ (TJ1 b).2.1 := by decide +kernel
theorem tyJ1_ok : ∀ k, k < 0 → parseFieldDescriptor (TJ1 k).2.2.1 = some (tyJ1 k) := by decide +kernel
abbrev cJ1_charAt_3b067 : ByteArray := prog_14_method_2_code
def yJ1_charAt_3b067 : MethodName := ⟨RJ1, "charAt", "([BI)C"⟩
def RJ2 : String := "java/lang/StringUTF16"
def TJ2 : u_T := fun k => match k with
  | _ => ("", "", "", false)
def tyJ2 : Nat → FieldType := fun k => match k with
  | _ => .int
theorem nmJ2 : ∀ a, a < 0 → ∀ b, b < 0 → a ≠ b → (TJ2 a).2.1 ≠ (TJ2 b).2.1 := by decide +kernel
theorem tyJ2_ok : ∀ k, k < 0 → parseFieldDescriptor (TJ2 k).2.2.1 = some (tyJ2 k) := by decide +kernel
abbrev cJ2_getChar_3b067 : ByteArray := prog_15_method_5_code
def yJ2_getChar_3b067 : MethodName := ⟨RJ2, "getChar", "([BI)C"⟩
abbrev cJ2_length_9d52b : ByteArray := prog_15_method_6_code
def yJ2_length_9d52b : MethodName := ⟨RJ2, "length", "([B)I"⟩
abbrev cJ2_charAt_3b067 : ByteArray := prog_15_method_83_code
def yJ2_charAt_3b067 : MethodName := ⟨RJ2, "charAt", "([BI)C"⟩
abbrev cJ2_checkIndex_2214a : ByteArray := prog_15_method_91_code
def yJ2_checkIndex_2214a : MethodName := ⟨RJ2, "checkIndex", "(I[B)V"⟩
def RJ3 : String := "jdk/internal/util/Preconditions"
def TJ3 : u_T := fun k => match k with
  | _ => ("", "", "", false)
def tyJ3 : Nat → FieldType := fun k => match k with
  | _ => .int
theorem nmJ3 : ∀ a, a < 0 → ∀ b, b < 0 → a ≠ b → (TJ3 a).2.1 ≠ (TJ3 b).2.1 := by decide +kernel
theorem tyJ3_ok : ∀ k, k < 0 → parseFieldDescriptor (TJ3 k).2.2.1 = some (tyJ3 k) := by decide +kernel
abbrev cJ3_checkIndex_8e157 : ByteArray := prog_17_method_11_code
def yJ3_checkIndex_8e157 : MethodName := ⟨RJ3, "checkIndex", "(IILjava/util/function/BiFunction;)I"⟩
def RL : String := "FoldedNamesLaw"
abbrev cL_feed : ByteArray := method_3_code
def yL_feed : MethodName := ⟨RL, "feed", "(LFoldedNames;IJ[J)I"⟩
abbrev cL_about : ByteArray := method_4_code
def yL_about : MethodName := ⟨RL, "about", "(LFoldedNames;II[J)I"⟩
abbrev cL_letter : ByteArray := method_5_code
def yL_letter : MethodName := ⟨RL, "letter", "(LFoldedNames;III[J)I"⟩
abbrev cL_law : ByteArray := code
def yL_law : MethodName := ⟨RL, "law", "([I)Z"⟩
abbrev vwCl : List vw_C := [(RX1, TX1, 7), (RX2, TX2, 2), (RX4, TX4, 5), (RX5, TX5, 21)]
abbrev wsX00 : List Cond := u_ws RX0 TX0 0
abbrev wsX10 : List Cond := u_ws RX1 TX1 7
abbrev wsX20 : List Cond := u_ws RX2 TX2 2
abbrev wsX30 : List Cond := u_ws RX3 TX3 0
abbrev wsX40 : List Cond := u_ws RX4 TX4 5
abbrev wsX50 : List Cond := u_ws RX5 TX5 21
abbrev wsJ60 : List Cond := u_ws RJ6 TJ6 0
abbrev wsJ90 : List Cond := u_ws RJ9 TJ9 0
abbrev wsJ00 : List Cond := u_ws RJ0 TJ0 0
abbrev wsJ10 : List Cond := u_ws RJ1 TJ1 0
abbrev wsJ20 : List Cond := u_ws RJ2 TJ2 0
abbrev wsJ30 : List Cond := u_ws RJ3 TJ3 0
end
section
theorem dJ0_length_8abf5_0 : decode cJ0_length_8abf5 0 = .ok (.aload_n 0, 1) := by decide +kernel
theorem dJ0_length_8abf5_1 : decode cJ0_length_8abf5 1 = .ok (.getfield 9, 3) := by decide +kernel
theorem dJ0_length_8abf5_4 : decode cJ0_length_8abf5 4 = .ok (.arraylength, 1) := by decide +kernel
theorem dJ0_length_8abf5_5 : decode cJ0_length_8abf5 5 = .ok (.aload_n 0, 1) := by decide +kernel
theorem dJ0_length_8abf5_6 : decode cJ0_length_8abf5 6 = .ok (.invokevirtual 335, 3) := by decide +kernel
theorem dJ0_length_8abf5_9 : decode cJ0_length_8abf5 9 = .ok (.ishr, 1) := by decide +kernel
theorem dJ0_length_8abf5_10 : decode cJ0_length_8abf5 10 = .ok (.ireturn, 1) := by decide +kernel
theorem dJ0_charAt_5068e_0 : decode cJ0_charAt_5068e 0 = .ok (.aload_n 0, 1) := by decide +kernel
theorem dJ0_charAt_5068e_1 : decode cJ0_charAt_5068e 1 = .ok (.invokevirtual 492, 3) := by decide +kernel
theorem dJ0_charAt_5068e_4 : decode cJ0_charAt_5068e 4 = .ok (.ifCond .eq 12, 3) := by decide +kernel
theorem dJ0_charAt_5068e_7 : decode cJ0_charAt_5068e 7 = .ok (.aload_n 0, 1) := by decide +kernel
theorem dJ0_charAt_5068e_8 : decode cJ0_charAt_5068e 8 = .ok (.getfield 9, 3) := by decide +kernel
theorem dJ0_charAt_5068e_11 : decode cJ0_charAt_5068e 11 = .ok (.iload_n 1, 1) := by decide +kernel
theorem dJ0_charAt_5068e_12 : decode cJ0_charAt_5068e 12 = .ok (.invokestatic 495, 3) := by decide +kernel
theorem dJ0_charAt_5068e_15 : decode cJ0_charAt_5068e 15 = .ok (.ireturn, 1) := by decide +kernel
theorem dJ0_charAt_5068e_16 : decode cJ0_charAt_5068e 16 = .ok (.aload_n 0, 1) := by decide +kernel
theorem dJ0_charAt_5068e_17 : decode cJ0_charAt_5068e 17 = .ok (.getfield 9, 3) := by decide +kernel
theorem dJ0_charAt_5068e_20 : decode cJ0_charAt_5068e 20 = .ok (.iload_n 1, 1) := by decide +kernel
theorem dJ0_charAt_5068e_21 : decode cJ0_charAt_5068e 21 = .ok (.invokestatic 498, 3) := by decide +kernel
theorem dJ0_charAt_5068e_24 : decode cJ0_charAt_5068e 24 = .ok (.ireturn, 1) := by decide +kernel
theorem dJ0_coder_7d493_0 : decode cJ0_coder_7d493 0 = .ok (.getstatic 38, 3) := by decide +kernel
theorem dJ0_coder_7d493_3 : decode cJ0_coder_7d493 3 = .ok (.ifCond .eq 10, 3) := by decide +kernel
theorem dJ0_coder_7d493_6 : decode cJ0_coder_7d493 6 = .ok (.aload_n 0, 1) := by decide +kernel
theorem dJ0_coder_7d493_7 : decode cJ0_coder_7d493 7 = .ok (.getfield 15, 3) := by decide +kernel
theorem dJ0_coder_7d493_10 : decode cJ0_coder_7d493 10 = .ok (.goto 4, 3) := by decide +kernel
theorem dJ0_coder_7d493_13 : decode cJ0_coder_7d493 13 = .ok (.iconst 1, 1) := by decide +kernel
theorem dJ0_coder_7d493_14 : decode cJ0_coder_7d493 14 = .ok (.ireturn, 1) := by decide +kernel
theorem dJ0_isLatin1_aae02_0 : decode cJ0_isLatin1_aae02 0 = .ok (.getstatic 38, 3) := by decide +kernel
theorem dJ0_isLatin1_aae02_3 : decode cJ0_isLatin1_aae02 3 = .ok (.ifCond .eq 14, 3) := by decide +kernel
theorem dJ0_isLatin1_aae02_6 : decode cJ0_isLatin1_aae02 6 = .ok (.aload_n 0, 1) := by decide +kernel
theorem dJ0_isLatin1_aae02_7 : decode cJ0_isLatin1_aae02 7 = .ok (.getfield 15, 3) := by decide +kernel
theorem dJ0_isLatin1_aae02_10 : decode cJ0_isLatin1_aae02 10 = .ok (.ifCond .ne 7, 3) := by decide +kernel
theorem dJ0_isLatin1_aae02_13 : decode cJ0_isLatin1_aae02 13 = .ok (.iconst 1, 1) := by decide +kernel
theorem dJ0_isLatin1_aae02_14 : decode cJ0_isLatin1_aae02 14 = .ok (.goto 4, 3) := by decide +kernel
theorem dJ0_isLatin1_aae02_17 : decode cJ0_isLatin1_aae02 17 = .ok (.iconst 0, 1) := by decide +kernel
theorem dJ0_isLatin1_aae02_18 : decode cJ0_isLatin1_aae02 18 = .ok (.ireturn, 1) := by decide +kernel
theorem dJ0_checkIndex_df160_0 : decode cJ0_checkIndex_df160 0 = .ok (.iload_n 0, 1) := by decide +kernel
theorem dJ0_checkIndex_df160_1 : decode cJ0_checkIndex_df160 1 = .ok (.iload_n 1, 1) := by decide +kernel
theorem dJ0_checkIndex_df160_2 : decode cJ0_checkIndex_df160 2 = .ok (.getstatic 1053, 3) := by decide +kernel
theorem dJ0_checkIndex_df160_5 : decode cJ0_checkIndex_df160 5 = .ok (.invokestatic 1059, 3) := by decide +kernel
theorem dJ0_checkIndex_df160_8 : decode cJ0_checkIndex_df160 8 = .ok (.pop, 1) := by decide +kernel
theorem dJ0_checkIndex_df160_9 : decode cJ0_checkIndex_df160 9 = .ok (.return_, 1) := by decide +kernel
theorem dJ1_charAt_3b067_0 : decode cJ1_charAt_3b067 0 = .ok (.iload_n 1, 1) := by decide +kernel
theorem dJ1_charAt_3b067_1 : decode cJ1_charAt_3b067 1 = .ok (.aload_n 0, 1) := by decide +kernel
theorem dJ1_charAt_3b067_2 : decode cJ1_charAt_3b067 2 = .ok (.arraylength, 1) := by decide +kernel
theorem dJ1_charAt_3b067_3 : decode cJ1_charAt_3b067 3 = .ok (.invokestatic 9, 3) := by decide +kernel
theorem dJ1_charAt_3b067_6 : decode cJ1_charAt_3b067 6 = .ok (.aload_n 0, 1) := by decide +kernel
theorem dJ1_charAt_3b067_7 : decode cJ1_charAt_3b067 7 = .ok (.iload_n 1, 1) := by decide +kernel
theorem dJ1_charAt_3b067_8 : decode cJ1_charAt_3b067 8 = .ok (.baload, 1) := by decide +kernel
theorem dJ1_charAt_3b067_9 : decode cJ1_charAt_3b067 9 = .ok (.sipush 255, 3) := by decide +kernel
theorem dJ1_charAt_3b067_12 : decode cJ1_charAt_3b067 12 = .ok (.iand, 1) := by decide +kernel
theorem dJ1_charAt_3b067_13 : decode cJ1_charAt_3b067 13 = .ok (.i2c, 1) := by decide +kernel
theorem dJ1_charAt_3b067_14 : decode cJ1_charAt_3b067 14 = .ok (.ireturn, 1) := by decide +kernel
theorem dJ2_getChar_3b067_0 : decode cJ2_getChar_3b067 0 = .ok (.getstatic 44, 3) := by decide +kernel
theorem dJ2_getChar_3b067_3 : decode cJ2_getChar_3b067 3 = .ok (.ifCond .ne 25, 3) := by decide +kernel
theorem dJ2_getChar_3b067_6 : decode cJ2_getChar_3b067 6 = .ok (.iload_n 1, 1) := by decide +kernel
theorem dJ2_getChar_3b067_7 : decode cJ2_getChar_3b067 7 = .ok (.ifCond .lt 11, 3) := by decide +kernel
theorem dJ2_getChar_3b067_10 : decode cJ2_getChar_3b067 10 = .ok (.iload_n 1, 1) := by decide +kernel
theorem dJ2_getChar_3b067_11 : decode cJ2_getChar_3b067 11 = .ok (.aload_n 0, 1) := by decide +kernel
theorem dJ2_getChar_3b067_12 : decode cJ2_getChar_3b067 12 = .ok (.invokestatic 48, 3) := by decide +kernel
theorem dJ2_getChar_3b067_15 : decode cJ2_getChar_3b067 15 = .ok (.if_icmp .lt 13, 3) := by decide +kernel
theorem dJ2_getChar_3b067_18 : decode cJ2_getChar_3b067 18 = .ok (.new 52, 3) := by decide +kernel
theorem dJ2_getChar_3b067_21 : decode cJ2_getChar_3b067 21 = .ok (.dup, 1) := by decide +kernel
theorem dJ2_getChar_3b067_22 : decode cJ2_getChar_3b067 22 = .ok (.ldc 54, 2) := by decide +kernel
theorem dJ2_getChar_3b067_24 : decode cJ2_getChar_3b067 24 = .ok (.invokespecial 56, 3) := by decide +kernel
theorem dJ2_getChar_3b067_27 : decode cJ2_getChar_3b067 27 = .ok (.athrow, 1) := by decide +kernel
theorem dJ2_getChar_3b067_28 : decode cJ2_getChar_3b067 28 = .ok (.iload_n 1, 1) := by decide +kernel
theorem dJ2_getChar_3b067_29 : decode cJ2_getChar_3b067 29 = .ok (.iconst 1, 1) := by decide +kernel
theorem dJ2_getChar_3b067_30 : decode cJ2_getChar_3b067 30 = .ok (.ishl, 1) := by decide +kernel
theorem dJ2_getChar_3b067_31 : decode cJ2_getChar_3b067 31 = .ok (.istore_n 1, 1) := by decide +kernel
theorem dJ2_getChar_3b067_32 : decode cJ2_getChar_3b067 32 = .ok (.aload_n 0, 1) := by decide +kernel
theorem dJ2_getChar_3b067_33 : decode cJ2_getChar_3b067 33 = .ok (.iload_n 1, 1) := by decide +kernel
theorem dJ2_getChar_3b067_34 : decode cJ2_getChar_3b067 34 = .ok (.iinc 1 1, 3) := by decide +kernel
theorem dJ2_getChar_3b067_37 : decode cJ2_getChar_3b067 37 = .ok (.baload, 1) := by decide +kernel
theorem dJ2_getChar_3b067_38 : decode cJ2_getChar_3b067 38 = .ok (.sipush 255, 3) := by decide +kernel
theorem dJ2_getChar_3b067_41 : decode cJ2_getChar_3b067 41 = .ok (.iand, 1) := by decide +kernel
theorem dJ2_getChar_3b067_42 : decode cJ2_getChar_3b067 42 = .ok (.getstatic 59, 3) := by decide +kernel
theorem dJ2_getChar_3b067_45 : decode cJ2_getChar_3b067 45 = .ok (.ishl, 1) := by decide +kernel
theorem dJ2_getChar_3b067_46 : decode cJ2_getChar_3b067 46 = .ok (.aload_n 0, 1) := by decide +kernel
theorem dJ2_getChar_3b067_47 : decode cJ2_getChar_3b067 47 = .ok (.iload_n 1, 1) := by decide +kernel
theorem dJ2_getChar_3b067_48 : decode cJ2_getChar_3b067 48 = .ok (.baload, 1) := by decide +kernel
theorem dJ2_getChar_3b067_49 : decode cJ2_getChar_3b067 49 = .ok (.sipush 255, 3) := by decide +kernel
theorem dJ2_getChar_3b067_52 : decode cJ2_getChar_3b067 52 = .ok (.iand, 1) := by decide +kernel
theorem dJ2_getChar_3b067_53 : decode cJ2_getChar_3b067 53 = .ok (.getstatic 63, 3) := by decide +kernel
theorem dJ2_getChar_3b067_56 : decode cJ2_getChar_3b067 56 = .ok (.ishl, 1) := by decide +kernel
theorem dJ2_getChar_3b067_57 : decode cJ2_getChar_3b067 57 = .ok (.ior, 1) := by decide +kernel
theorem dJ2_getChar_3b067_58 : decode cJ2_getChar_3b067 58 = .ok (.i2c, 1) := by decide +kernel
theorem dJ2_getChar_3b067_59 : decode cJ2_getChar_3b067 59 = .ok (.ireturn, 1) := by decide +kernel
theorem dJ2_length_9d52b_0 : decode cJ2_length_9d52b 0 = .ok (.aload_n 0, 1) := by decide +kernel
theorem dJ2_length_9d52b_1 : decode cJ2_length_9d52b 1 = .ok (.arraylength, 1) := by decide +kernel
theorem dJ2_length_9d52b_2 : decode cJ2_length_9d52b 2 = .ok (.iconst 1, 1) := by decide +kernel
theorem dJ2_length_9d52b_3 : decode cJ2_length_9d52b 3 = .ok (.ishr, 1) := by decide +kernel
theorem dJ2_length_9d52b_4 : decode cJ2_length_9d52b 4 = .ok (.ireturn, 1) := by decide +kernel
theorem dJ2_charAt_3b067_0 : decode cJ2_charAt_3b067 0 = .ok (.iload_n 1, 1) := by decide +kernel
theorem dJ2_charAt_3b067_1 : decode cJ2_charAt_3b067 1 = .ok (.aload_n 0, 1) := by decide +kernel
theorem dJ2_charAt_3b067_2 : decode cJ2_charAt_3b067 2 = .ok (.invokestatic 67, 3) := by decide +kernel
theorem dJ2_charAt_3b067_5 : decode cJ2_charAt_3b067 5 = .ok (.aload_n 0, 1) := by decide +kernel
theorem dJ2_charAt_3b067_6 : decode cJ2_charAt_3b067 6 = .ok (.iload_n 1, 1) := by decide +kernel
theorem dJ2_charAt_3b067_7 : decode cJ2_charAt_3b067 7 = .ok (.invokestatic 71, 3) := by decide +kernel
theorem dJ2_charAt_3b067_10 : decode cJ2_charAt_3b067 10 = .ok (.ireturn, 1) := by decide +kernel
theorem dJ2_checkIndex_2214a_0 : decode cJ2_checkIndex_2214a 0 = .ok (.iload_n 0, 1) := by decide +kernel
theorem dJ2_checkIndex_2214a_1 : decode cJ2_checkIndex_2214a 1 = .ok (.aload_n 1, 1) := by decide +kernel
theorem dJ2_checkIndex_2214a_2 : decode cJ2_checkIndex_2214a 2 = .ok (.invokestatic 48, 3) := by decide +kernel
theorem dJ2_checkIndex_2214a_5 : decode cJ2_checkIndex_2214a 5 = .ok (.invokestatic 414, 3) := by decide +kernel
theorem dJ2_checkIndex_2214a_8 : decode cJ2_checkIndex_2214a 8 = .ok (.return_, 1) := by decide +kernel
theorem dJ3_checkIndex_8e157_0 : decode cJ3_checkIndex_8e157 0 = .ok (.iload_n 0, 1) := by decide +kernel
theorem dJ3_checkIndex_8e157_1 : decode cJ3_checkIndex_8e157 1 = .ok (.ifCond .lt 8, 3) := by decide +kernel
theorem dJ3_checkIndex_8e157_4 : decode cJ3_checkIndex_8e157 4 = .ok (.iload_n 0, 1) := by decide +kernel
theorem dJ3_checkIndex_8e157_5 : decode cJ3_checkIndex_8e157 5 = .ok (.iload_n 1, 1) := by decide +kernel
theorem dJ3_checkIndex_8e157_6 : decode cJ3_checkIndex_8e157 6 = .ok (.if_icmp .lt 10, 3) := by decide +kernel
theorem dJ3_checkIndex_8e157_9 : decode cJ3_checkIndex_8e157 9 = .ok (.aload_n 2, 1) := by decide +kernel
theorem dJ3_checkIndex_8e157_10 : decode cJ3_checkIndex_8e157 10 = .ok (.iload_n 0, 1) := by decide +kernel
theorem dJ3_checkIndex_8e157_11 : decode cJ3_checkIndex_8e157 11 = .ok (.iload_n 1, 1) := by decide +kernel
theorem dJ3_checkIndex_8e157_12 : decode cJ3_checkIndex_8e157 12 = .ok (.invokestatic 95, 3) := by decide +kernel
theorem dJ3_checkIndex_8e157_15 : decode cJ3_checkIndex_8e157 15 = .ok (.athrow, 1) := by decide +kernel
theorem dJ3_checkIndex_8e157_16 : decode cJ3_checkIndex_8e157 16 = .ok (.iload_n 0, 1) := by decide +kernel
theorem dJ3_checkIndex_8e157_17 : decode cJ3_checkIndex_8e157 17 = .ok (.ireturn, 1) := by decide +kernel
theorem dJ6_compare_7cf53_0 : decode cJ6_compare_7cf53 0 = .ok (.iload_n 0, 1) := by decide +kernel
theorem dJ6_compare_7cf53_1 : decode cJ6_compare_7cf53 1 = .ok (.iload_n 1, 1) := by decide +kernel
theorem dJ6_compare_7cf53_2 : decode cJ6_compare_7cf53 2 = .ok (.if_icmp .ge 7, 3) := by decide +kernel
theorem dJ6_compare_7cf53_5 : decode cJ6_compare_7cf53 5 = .ok (.iconst (-1), 1) := by decide +kernel
theorem dJ6_compare_7cf53_6 : decode cJ6_compare_7cf53 6 = .ok (.goto 13, 3) := by decide +kernel
theorem dJ6_compare_7cf53_9 : decode cJ6_compare_7cf53 9 = .ok (.iload_n 0, 1) := by decide +kernel
theorem dJ6_compare_7cf53_10 : decode cJ6_compare_7cf53 10 = .ok (.iload_n 1, 1) := by decide +kernel
theorem dJ6_compare_7cf53_11 : decode cJ6_compare_7cf53 11 = .ok (.if_icmp .ne 7, 3) := by decide +kernel
theorem dJ6_compare_7cf53_14 : decode cJ6_compare_7cf53 14 = .ok (.iconst 0, 1) := by decide +kernel
theorem dJ6_compare_7cf53_15 : decode cJ6_compare_7cf53 15 = .ok (.goto 4, 3) := by decide +kernel
theorem dJ6_compare_7cf53_18 : decode cJ6_compare_7cf53 18 = .ok (.iconst 1, 1) := by decide +kernel
theorem dJ6_compare_7cf53_19 : decode cJ6_compare_7cf53 19 = .ok (.ireturn, 1) := by decide +kernel
theorem dJ9_max_7cf53_0 : decode cJ9_max_7cf53 0 = .ok (.iload_n 0, 1) := by decide +kernel
theorem dJ9_max_7cf53_1 : decode cJ9_max_7cf53 1 = .ok (.iload_n 1, 1) := by decide +kernel
theorem dJ9_max_7cf53_2 : decode cJ9_max_7cf53 2 = .ok (.if_icmp .lt 7, 3) := by decide +kernel
theorem dJ9_max_7cf53_5 : decode cJ9_max_7cf53 5 = .ok (.iload_n 0, 1) := by decide +kernel
theorem dJ9_max_7cf53_6 : decode cJ9_max_7cf53 6 = .ok (.goto 4, 3) := by decide +kernel
theorem dJ9_max_7cf53_9 : decode cJ9_max_7cf53 9 = .ok (.iload_n 1, 1) := by decide +kernel
theorem dJ9_max_7cf53_10 : decode cJ9_max_7cf53 10 = .ok (.ireturn, 1) := by decide +kernel
theorem dJ9_min_7cf53_0 : decode cJ9_min_7cf53 0 = .ok (.iload_n 0, 1) := by decide +kernel
theorem dJ9_min_7cf53_1 : decode cJ9_min_7cf53 1 = .ok (.iload_n 1, 1) := by decide +kernel
theorem dJ9_min_7cf53_2 : decode cJ9_min_7cf53 2 = .ok (.if_icmp .gt 7, 3) := by decide +kernel
theorem dJ9_min_7cf53_5 : decode cJ9_min_7cf53 5 = .ok (.iload_n 0, 1) := by decide +kernel
theorem dJ9_min_7cf53_6 : decode cJ9_min_7cf53 6 = .ok (.goto 4, 3) := by decide +kernel
theorem dJ9_min_7cf53_9 : decode cJ9_min_7cf53 9 = .ok (.iload_n 1, 1) := by decide +kernel
theorem dJ9_min_7cf53_10 : decode cJ9_min_7cf53 10 = .ok (.ireturn, 1) := by decide +kernel
theorem dX0_foldInto_0 : decode cX0_foldInto 0 = .ok (.aload_n 0, 1) := by decide +kernel
theorem dX0_foldInto_1 : decode cX0_foldInto 1 = .ok (.invokevirtual 9, 3) := by decide +kernel
theorem dX0_foldInto_4 : decode cX0_foldInto 4 = .ok (.iload_n 2, 1) := by decide +kernel
theorem dX0_foldInto_5 : decode cX0_foldInto 5 = .ok (.istore 4, 2) := by decide +kernel
theorem dX0_foldInto_7 : decode cX0_foldInto 7 = .ok (.iload 4, 2) := by decide +kernel
theorem dX0_foldInto_9 : decode cX0_foldInto 9 = .ok (.iload_n 3, 1) := by decide +kernel
theorem dX0_foldInto_10 : decode cX0_foldInto 10 = .ok (.if_icmp .ge 30, 3) := by decide +kernel
theorem dX0_foldInto_13 : decode cX0_foldInto 13 = .ok (.aload_n 1, 1) := by decide +kernel
theorem dX0_foldInto_14 : decode cX0_foldInto 14 = .ok (.iload 4, 2) := by decide +kernel
theorem dX0_foldInto_16 : decode cX0_foldInto 16 = .ok (.iload_n 3, 1) := by decide +kernel
theorem dX0_foldInto_17 : decode cX0_foldInto 17 = .ok (.invokestatic 14, 3) := by decide +kernel
theorem dX0_foldInto_20 : decode cX0_foldInto 20 = .ok (.istore 5, 2) := by decide +kernel
theorem dX0_foldInto_22 : decode cX0_foldInto 22 = .ok (.iload 5, 2) := by decide +kernel
theorem dX0_foldInto_24 : decode cX0_foldInto 24 = .ok (.iconst (-1), 1) := by decide +kernel
theorem dX0_foldInto_25 : decode cX0_foldInto 25 = .ok (.if_icmp .eq 9, 3) := by decide +kernel
theorem dX0_foldInto_28 : decode cX0_foldInto 28 = .ok (.aload_n 0, 1) := by decide +kernel
theorem dX0_foldInto_29 : decode cX0_foldInto 29 = .ok (.iload 5, 2) := by decide +kernel
theorem dX0_foldInto_31 : decode cX0_foldInto 31 = .ok (.invokestatic 20, 3) := by decide +kernel
theorem dX0_foldInto_34 : decode cX0_foldInto 34 = .ok (.iinc 4 1, 3) := by decide +kernel
theorem dX0_foldInto_37 : decode cX0_foldInto 37 = .ok (.goto (-30), 3) := by decide +kernel
theorem dX0_foldInto_40 : decode cX0_foldInto 40 = .ok (.return_, 1) := by decide +kernel
theorem dX0_addFolded_0 : decode cX0_addFolded 0 = .ok (.iload_n 1, 1) := by decide +kernel
theorem dX0_addFolded_1 : decode cX0_addFolded 1 = .ok (.sipush 192, 3) := by decide +kernel
theorem dX0_addFolded_4 : decode cX0_addFolded 4 = .ok (.isub, 1) := by decide +kernel
theorem dX0_addFolded_5 : decode cX0_addFolded 5 = .ok (.istore_n 2, 1) := by decide +kernel
theorem dX0_addFolded_6 : decode cX0_addFolded 6 = .ok (.iload_n 2, 1) := by decide +kernel
theorem dX0_addFolded_7 : decode cX0_addFolded 7 = .ok (.ifCond .lt 27, 3) := by decide +kernel
theorem dX0_addFolded_10 : decode cX0_addFolded 10 = .ok (.iload_n 2, 1) := by decide +kernel
theorem dX0_addFolded_11 : decode cX0_addFolded 11 = .ok (.ldc 26, 2) := by decide +kernel
theorem dX0_addFolded_13 : decode cX0_addFolded 13 = .ok (.invokevirtual 28, 3) := by decide +kernel
theorem dX0_addFolded_16 : decode cX0_addFolded 16 = .ok (.if_icmp .ge 18, 3) := by decide +kernel
theorem dX0_addFolded_19 : decode cX0_addFolded 19 = .ok (.ldc 26, 2) := by decide +kernel
theorem dX0_addFolded_21 : decode cX0_addFolded 21 = .ok (.iload_n 2, 1) := by decide +kernel
theorem dX0_addFolded_22 : decode cX0_addFolded 22 = .ok (.invokevirtual 34, 3) := by decide +kernel
theorem dX0_addFolded_25 : decode cX0_addFolded 25 = .ok (.bipush 95, 2) := by decide +kernel
theorem dX0_addFolded_27 : decode cX0_addFolded 27 = .ok (.if_icmp .eq 7, 3) := by decide +kernel
theorem dX0_addFolded_30 : decode cX0_addFolded 30 = .ok (.iconst 1, 1) := by decide +kernel
theorem dX0_addFolded_31 : decode cX0_addFolded 31 = .ok (.goto 4, 3) := by decide +kernel
theorem dX0_addFolded_34 : decode cX0_addFolded 34 = .ok (.iconst 0, 1) := by decide +kernel
theorem dX0_addFolded_35 : decode cX0_addFolded 35 = .ok (.istore_n 3, 1) := by decide +kernel
theorem dX0_addFolded_36 : decode cX0_addFolded 36 = .ok (.iload_n 3, 1) := by decide +kernel
theorem dX0_addFolded_37 : decode cX0_addFolded 37 = .ok (.ifCond .ne 12, 3) := by decide +kernel
theorem dX0_addFolded_40 : decode cX0_addFolded 40 = .ok (.aload_n 0, 1) := by decide +kernel
theorem dX0_addFolded_41 : decode cX0_addFolded 41 = .ok (.iload_n 1, 1) := by decide +kernel
theorem dX0_addFolded_42 : decode cX0_addFolded 42 = .ok (.invokestatic 38, 3) := by decide +kernel
theorem dX0_addFolded_45 : decode cX0_addFolded 45 = .ok (.invokestatic 42, 3) := by decide +kernel
theorem dX0_addFolded_48 : decode cX0_addFolded 48 = .ok (.return_, 1) := by decide +kernel
theorem dX0_addFolded_49 : decode cX0_addFolded 49 = .ok (.aload_n 0, 1) := by decide +kernel
theorem dX0_addFolded_50 : decode cX0_addFolded 50 = .ok (.ldc 26, 2) := by decide +kernel
theorem dX0_addFolded_52 : decode cX0_addFolded 52 = .ok (.iload_n 2, 1) := by decide +kernel
theorem dX0_addFolded_53 : decode cX0_addFolded 53 = .ok (.invokevirtual 34, 3) := by decide +kernel
theorem dX0_addFolded_56 : decode cX0_addFolded 56 = .ok (.invokestatic 38, 3) := by decide +kernel
theorem dX0_addFolded_59 : decode cX0_addFolded 59 = .ok (.invokestatic 42, 3) := by decide +kernel
theorem dX0_addFolded_62 : decode cX0_addFolded 62 = .ok (.aload_n 0, 1) := by decide +kernel
theorem dX0_addFolded_63 : decode cX0_addFolded 63 = .ok (.sipush 768, 3) := by decide +kernel
theorem dX0_addFolded_66 : decode cX0_addFolded 66 = .ok (.iload_n 2, 1) := by decide +kernel
theorem dX0_addFolded_67 : decode cX0_addFolded 67 = .ok (.invokestatic 45, 3) := by decide +kernel
theorem dX0_addFolded_70 : decode cX0_addFolded 70 = .ok (.iadd, 1) := by decide +kernel
theorem dX0_addFolded_71 : decode cX0_addFolded 71 = .ok (.invokestatic 42, 3) := by decide +kernel
theorem dX0_addFolded_74 : decode cX0_addFolded 74 = .ok (.return_, 1) := by decide +kernel
theorem dX0_markStep_0 : decode cX0_markStep 0 = .ok (.iload_n 0, 1) := by decide +kernel
theorem dX0_markStep_1 : decode cX0_markStep 1 = .ok (.ifCond .lt 12, 3) := by decide +kernel
theorem dX0_markStep_4 : decode cX0_markStep 4 = .ok (.iload_n 0, 1) := by decide +kernel
theorem dX0_markStep_5 : decode cX0_markStep 5 = .ok (.ldc 48, 2) := by decide +kernel
theorem dX0_markStep_7 : decode cX0_markStep 7 = .ok (.invokevirtual 28, 3) := by decide +kernel
theorem dX0_markStep_10 : decode cX0_markStep 10 = .ok (.if_icmp .lt 5, 3) := by decide +kernel
theorem dX0_markStep_13 : decode cX0_markStep 13 = .ok (.iconst 0, 1) := by decide +kernel
theorem dX0_markStep_14 : decode cX0_markStep 14 = .ok (.ireturn, 1) := by decide +kernel
theorem dX0_markStep_15 : decode cX0_markStep 15 = .ok (.ldc 48, 2) := by decide +kernel
theorem dX0_markStep_17 : decode cX0_markStep 17 = .ok (.iload_n 0, 1) := by decide +kernel
theorem dX0_markStep_18 : decode cX0_markStep 18 = .ok (.invokevirtual 34, 3) := by decide +kernel
theorem dX0_markStep_21 : decode cX0_markStep 21 = .ok (.bipush 48, 2) := by decide +kernel
theorem dX0_markStep_23 : decode cX0_markStep 23 = .ok (.isub, 1) := by decide +kernel
theorem dX0_markStep_24 : decode cX0_markStep 24 = .ok (.istore_n 1, 1) := by decide +kernel
theorem dX0_markStep_25 : decode cX0_markStep 25 = .ok (.iload_n 1, 1) := by decide +kernel
theorem dX0_markStep_26 : decode cX0_markStep 26 = .ok (.ifCond .lt 11, 3) := by decide +kernel
theorem dX0_markStep_29 : decode cX0_markStep 29 = .ok (.iload_n 1, 1) := by decide +kernel
theorem dX0_markStep_30 : decode cX0_markStep 30 = .ok (.getstatic 50, 3) := by decide +kernel
theorem dX0_markStep_33 : decode cX0_markStep 33 = .ok (.arraylength, 1) := by decide +kernel
theorem dX0_markStep_34 : decode cX0_markStep 34 = .ok (.if_icmp .lt 7, 3) := by decide +kernel
theorem dX0_markStep_37 : decode cX0_markStep 37 = .ok (.iconst 0, 1) := by decide +kernel
theorem dX0_markStep_38 : decode cX0_markStep 38 = .ok (.goto 8, 3) := by decide +kernel
theorem dX0_markStep_41 : decode cX0_markStep 41 = .ok (.getstatic 50, 3) := by decide +kernel
theorem dX0_markStep_44 : decode cX0_markStep 44 = .ok (.iload_n 1, 1) := by decide +kernel
theorem dX0_markStep_45 : decode cX0_markStep 45 = .ok (.iaload, 1) := by decide +kernel
theorem dX0_markStep_46 : decode cX0_markStep 46 = .ok (.ireturn, 1) := by decide +kernel
theorem dX0_addInOrder_0 : decode cX0_addInOrder 0 = .ok (.iload_n 1, 1) := by decide +kernel
theorem dX0_addInOrder_1 : decode cX0_addInOrder 1 = .ok (.invokestatic 54, 3) := by decide +kernel
theorem dX0_addInOrder_4 : decode cX0_addInOrder 4 = .ok (.istore_n 2, 1) := by decide +kernel
theorem dX0_addInOrder_5 : decode cX0_addInOrder 5 = .ok (.aload_n 0, 1) := by decide +kernel
theorem dX0_addInOrder_6 : decode cX0_addInOrder 6 = .ok (.invokevirtual 57, 3) := by decide +kernel
theorem dX0_addInOrder_9 : decode cX0_addInOrder 9 = .ok (.istore_n 3, 1) := by decide +kernel
theorem dX0_addInOrder_10 : decode cX0_addInOrder 10 = .ok (.iload_n 2, 1) := by decide +kernel
theorem dX0_addInOrder_11 : decode cX0_addInOrder 11 = .ok (.ifCond .le 27, 3) := by decide +kernel
theorem dX0_addInOrder_14 : decode cX0_addInOrder 14 = .ok (.iload_n 3, 1) := by decide +kernel
theorem dX0_addInOrder_15 : decode cX0_addInOrder 15 = .ok (.ifCond .le 23, 3) := by decide +kernel
theorem dX0_addInOrder_18 : decode cX0_addInOrder 18 = .ok (.aload_n 0, 1) := by decide +kernel
theorem dX0_addInOrder_19 : decode cX0_addInOrder 19 = .ok (.iload_n 3, 1) := by decide +kernel
theorem dX0_addInOrder_20 : decode cX0_addInOrder 20 = .ok (.iconst 1, 1) := by decide +kernel
theorem dX0_addInOrder_21 : decode cX0_addInOrder 21 = .ok (.isub, 1) := by decide +kernel
theorem dX0_addInOrder_22 : decode cX0_addInOrder 22 = .ok (.invokevirtual 60, 3) := by decide +kernel
theorem dX0_addInOrder_25 : decode cX0_addInOrder 25 = .ok (.invokestatic 54, 3) := by decide +kernel
theorem dX0_addInOrder_28 : decode cX0_addInOrder 28 = .ok (.iload_n 2, 1) := by decide +kernel
theorem dX0_addInOrder_29 : decode cX0_addInOrder 29 = .ok (.if_icmp .le 9, 3) := by decide +kernel
theorem dX0_addInOrder_32 : decode cX0_addInOrder 32 = .ok (.iinc 3 (-1), 3) := by decide +kernel
theorem dX0_addInOrder_35 : decode cX0_addInOrder 35 = .ok (.goto (-25), 3) := by decide +kernel
theorem dX0_addInOrder_38 : decode cX0_addInOrder 38 = .ok (.aload_n 0, 1) := by decide +kernel
theorem dX0_addInOrder_39 : decode cX0_addInOrder 39 = .ok (.iload_n 3, 1) := by decide +kernel
theorem dX0_addInOrder_40 : decode cX0_addInOrder 40 = .ok (.iload_n 1, 1) := by decide +kernel
theorem dX0_addInOrder_41 : decode cX0_addInOrder 41 = .ok (.invokevirtual 63, 3) := by decide +kernel
theorem dX0_addInOrder_44 : decode cX0_addInOrder 44 = .ok (.return_, 1) := by decide +kernel
theorem dX0_markClass_0 : decode cX0_markClass 0 = .ok (.iload_n 0, 1) := by decide +kernel
theorem dX0_markClass_1 : decode cX0_markClass 1 = .ok (.sipush 768, 3) := by decide +kernel
theorem dX0_markClass_4 : decode cX0_markClass 4 = .ok (.if_icmp .lt 14, 3) := by decide +kernel
theorem dX0_markClass_7 : decode cX0_markClass 7 = .ok (.iload_n 0, 1) := by decide +kernel
theorem dX0_markClass_8 : decode cX0_markClass 8 = .ok (.sipush 783, 3) := by decide +kernel
theorem dX0_markClass_11 : decode cX0_markClass 11 = .ok (.if_icmp .gt 7, 3) := by decide +kernel
theorem dX0_markClass_14 : decode cX0_markClass 14 = .ok (.sipush 230, 3) := by decide +kernel
theorem dX0_markClass_17 : decode cX0_markClass 17 = .ok (.ireturn, 1) := by decide +kernel
theorem dX0_markClass_18 : decode cX0_markClass 18 = .ok (.iload_n 0, 1) := by decide +kernel
theorem dX0_markClass_19 : decode cX0_markClass 19 = .ok (.sipush 803, 3) := by decide +kernel
theorem dX0_markClass_22 : decode cX0_markClass 22 = .ok (.if_icmp .ne 7, 3) := by decide +kernel
theorem dX0_markClass_25 : decode cX0_markClass 25 = .ok (.sipush 220, 3) := by decide +kernel
theorem dX0_markClass_28 : decode cX0_markClass 28 = .ok (.ireturn, 1) := by decide +kernel
theorem dX0_markClass_29 : decode cX0_markClass 29 = .ok (.iload_n 0, 1) := by decide +kernel
theorem dX0_markClass_30 : decode cX0_markClass 30 = .ok (.sipush 807, 3) := by decide +kernel
theorem dX0_markClass_33 : decode cX0_markClass 33 = .ok (.if_icmp .eq 10, 3) := by decide +kernel
theorem dX0_markClass_36 : decode cX0_markClass 36 = .ok (.iload_n 0, 1) := by decide +kernel
theorem dX0_markClass_37 : decode cX0_markClass 37 = .ok (.sipush 808, 3) := by decide +kernel
theorem dX0_markClass_40 : decode cX0_markClass 40 = .ok (.if_icmp .ne 9, 3) := by decide +kernel
theorem dX0_markClass_43 : decode cX0_markClass 43 = .ok (.sipush 202, 3) := by decide +kernel
theorem dX0_markClass_46 : decode cX0_markClass 46 = .ok (.goto 4, 3) := by decide +kernel
theorem dX0_markClass_49 : decode cX0_markClass 49 = .ok (.iconst 0, 1) := by decide +kernel
theorem dX0_markClass_50 : decode cX0_markClass 50 = .ok (.ireturn, 1) := by decide +kernel
theorem dX0_small_0 : decode cX0_small 0 = .ok (.iload_n 0, 1) := by decide +kernel
theorem dX0_small_1 : decode cX0_small 1 = .ok (.sipush 256, 3) := by decide +kernel
theorem dX0_small_4 : decode cX0_small 4 = .ok (.if_icmp .ge 8, 3) := by decide +kernel
theorem dX0_small_7 : decode cX0_small 7 = .ok (.iload_n 0, 1) := by decide +kernel
theorem dX0_small_8 : decode cX0_small 8 = .ok (.invokestatic 67, 3) := by decide +kernel
theorem dX0_small_11 : decode cX0_small 11 = .ok (.ireturn, 1) := by decide +kernel
theorem dX0_small_12 : decode cX0_small 12 = .ok (.iload_n 0, 1) := by decide +kernel
theorem dX0_small_13 : decode cX0_small 13 = .ok (.sipush 384, 3) := by decide +kernel
theorem dX0_small_16 : decode cX0_small 16 = .ok (.if_icmp .ge 8, 3) := by decide +kernel
theorem dX0_small_19 : decode cX0_small 19 = .ok (.iload_n 0, 1) := by decide +kernel
theorem dX0_small_20 : decode cX0_small 20 = .ok (.invokestatic 70, 3) := by decide +kernel
theorem dX0_small_23 : decode cX0_small 23 = .ok (.ireturn, 1) := by decide +kernel
theorem dX0_small_24 : decode cX0_small 24 = .ok (.iload_n 0, 1) := by decide +kernel
theorem dX0_small_25 : decode cX0_small 25 = .ok (.sipush 962, 3) := by decide +kernel
theorem dX0_small_28 : decode cX0_small 28 = .ok (.if_icmp .ne 7, 3) := by decide +kernel
theorem dX0_small_31 : decode cX0_small 31 = .ok (.sipush 963, 3) := by decide +kernel
theorem dX0_small_34 : decode cX0_small 34 = .ok (.ireturn, 1) := by decide +kernel
theorem dX0_small_35 : decode cX0_small 35 = .ok (.iload_n 0, 1) := by decide +kernel
theorem dX0_small_36 : decode cX0_small 36 = .ok (.sipush 913, 3) := by decide +kernel
theorem dX0_small_39 : decode cX0_small 39 = .ok (.if_icmp .lt 21, 3) := by decide +kernel
theorem dX0_small_42 : decode cX0_small 42 = .ok (.iload_n 0, 1) := by decide +kernel
theorem dX0_small_43 : decode cX0_small 43 = .ok (.sipush 939, 3) := by decide +kernel
theorem dX0_small_46 : decode cX0_small 46 = .ok (.if_icmp .gt 14, 3) := by decide +kernel
theorem dX0_small_49 : decode cX0_small 49 = .ok (.iload_n 0, 1) := by decide +kernel
theorem dX0_small_50 : decode cX0_small 50 = .ok (.sipush 930, 3) := by decide +kernel
theorem dX0_small_53 : decode cX0_small 53 = .ok (.if_icmp .eq 7, 3) := by decide +kernel
theorem dX0_small_56 : decode cX0_small 56 = .ok (.iconst 1, 1) := by decide +kernel
theorem dX0_small_57 : decode cX0_small 57 = .ok (.goto 4, 3) := by decide +kernel
theorem dX0_small_60 : decode cX0_small 60 = .ok (.iconst 0, 1) := by decide +kernel
theorem dX0_small_61 : decode cX0_small 61 = .ok (.istore_n 1, 1) := by decide +kernel
theorem dX0_small_62 : decode cX0_small 62 = .ok (.iload_n 0, 1) := by decide +kernel
theorem dX0_small_63 : decode cX0_small 63 = .ok (.sipush 1040, 3) := by decide +kernel
theorem dX0_small_66 : decode cX0_small 66 = .ok (.if_icmp .lt 14, 3) := by decide +kernel
theorem dX0_small_69 : decode cX0_small 69 = .ok (.iload_n 0, 1) := by decide +kernel
theorem dX0_small_70 : decode cX0_small 70 = .ok (.sipush 1071, 3) := by decide +kernel
theorem dX0_small_73 : decode cX0_small 73 = .ok (.if_icmp .gt 7, 3) := by decide +kernel
theorem dX0_small_76 : decode cX0_small 76 = .ok (.iconst 1, 1) := by decide +kernel
theorem dX0_small_77 : decode cX0_small 77 = .ok (.goto 4, 3) := by decide +kernel
theorem dX0_small_80 : decode cX0_small 80 = .ok (.iconst 0, 1) := by decide +kernel
theorem dX0_small_81 : decode cX0_small 81 = .ok (.istore_n 2, 1) := by decide +kernel
theorem dX0_small_82 : decode cX0_small 82 = .ok (.iload_n 1, 1) := by decide +kernel
theorem dX0_small_83 : decode cX0_small 83 = .ok (.ifCond .ne 7, 3) := by decide +kernel
theorem dX0_small_86 : decode cX0_small 86 = .ok (.iload_n 2, 1) := by decide +kernel
theorem dX0_small_87 : decode cX0_small 87 = .ok (.ifCond .eq 8, 3) := by decide +kernel
theorem dX0_small_90 : decode cX0_small 90 = .ok (.iload_n 0, 1) := by decide +kernel
theorem dX0_small_91 : decode cX0_small 91 = .ok (.bipush 32, 2) := by decide +kernel
theorem dX0_small_93 : decode cX0_small 93 = .ok (.iadd, 1) := by decide +kernel
theorem dX0_small_94 : decode cX0_small 94 = .ok (.ireturn, 1) := by decide +kernel
theorem dX0_small_95 : decode cX0_small 95 = .ok (.iload_n 0, 1) := by decide +kernel
theorem dX0_small_96 : decode cX0_small 96 = .ok (.sipush 1024, 3) := by decide +kernel
theorem dX0_small_99 : decode cX0_small 99 = .ok (.if_icmp .lt 17, 3) := by decide +kernel
theorem dX0_small_102 : decode cX0_small 102 = .ok (.iload_n 0, 1) := by decide +kernel
theorem dX0_small_103 : decode cX0_small 103 = .ok (.sipush 1039, 3) := by decide +kernel
theorem dX0_small_106 : decode cX0_small 106 = .ok (.if_icmp .gt 10, 3) := by decide +kernel
theorem dX0_small_109 : decode cX0_small 109 = .ok (.iload_n 0, 1) := by decide +kernel
theorem dX0_small_110 : decode cX0_small 110 = .ok (.bipush 80, 2) := by decide +kernel
theorem dX0_small_112 : decode cX0_small 112 = .ok (.iadd, 1) := by decide +kernel
theorem dX0_small_113 : decode cX0_small 113 = .ok (.goto 4, 3) := by decide +kernel
theorem dX0_small_116 : decode cX0_small 116 = .ok (.iload_n 0, 1) := by decide +kernel
theorem dX0_small_117 : decode cX0_small 117 = .ok (.ireturn, 1) := by decide +kernel
theorem dX0_smallLatin_0 : decode cX0_smallLatin 0 = .ok (.iload_n 0, 1) := by decide +kernel
theorem dX0_smallLatin_1 : decode cX0_smallLatin 1 = .ok (.bipush 65, 2) := by decide +kernel
theorem dX0_smallLatin_3 : decode cX0_smallLatin 3 = .ok (.if_icmp .lt 9, 3) := by decide +kernel
theorem dX0_smallLatin_6 : decode cX0_smallLatin 6 = .ok (.iload_n 0, 1) := by decide +kernel
theorem dX0_smallLatin_7 : decode cX0_smallLatin 7 = .ok (.bipush 90, 2) := by decide +kernel
theorem dX0_smallLatin_9 : decode cX0_smallLatin 9 = .ok (.if_icmp .le 24, 3) := by decide +kernel
theorem dX0_smallLatin_12 : decode cX0_smallLatin 12 = .ok (.iload_n 0, 1) := by decide +kernel
theorem dX0_smallLatin_13 : decode cX0_smallLatin 13 = .ok (.sipush 192, 3) := by decide +kernel
theorem dX0_smallLatin_16 : decode cX0_smallLatin 16 = .ok (.if_icmp .lt 21, 3) := by decide +kernel
theorem dX0_smallLatin_19 : decode cX0_smallLatin 19 = .ok (.iload_n 0, 1) := by decide +kernel
theorem dX0_smallLatin_20 : decode cX0_smallLatin 20 = .ok (.sipush 222, 3) := by decide +kernel
theorem dX0_smallLatin_23 : decode cX0_smallLatin 23 = .ok (.if_icmp .gt 14, 3) := by decide +kernel
theorem dX0_smallLatin_26 : decode cX0_smallLatin 26 = .ok (.iload_n 0, 1) := by decide +kernel
theorem dX0_smallLatin_27 : decode cX0_smallLatin 27 = .ok (.sipush 215, 3) := by decide +kernel
theorem dX0_smallLatin_30 : decode cX0_smallLatin 30 = .ok (.if_icmp .eq 7, 3) := by decide +kernel
theorem dX0_smallLatin_33 : decode cX0_smallLatin 33 = .ok (.iconst 1, 1) := by decide +kernel
theorem dX0_smallLatin_34 : decode cX0_smallLatin 34 = .ok (.goto 4, 3) := by decide +kernel
theorem dX0_smallLatin_37 : decode cX0_smallLatin 37 = .ok (.iconst 0, 1) := by decide +kernel
theorem dX0_smallLatin_38 : decode cX0_smallLatin 38 = .ok (.istore_n 1, 1) := by decide +kernel
theorem dX0_smallLatin_39 : decode cX0_smallLatin 39 = .ok (.iload_n 1, 1) := by decide +kernel
theorem dX0_smallLatin_40 : decode cX0_smallLatin 40 = .ok (.ifCond .eq 8, 3) := by decide +kernel
theorem dX0_smallLatin_43 : decode cX0_smallLatin 43 = .ok (.iload_n 0, 1) := by decide +kernel
theorem dX0_smallLatin_44 : decode cX0_smallLatin 44 = .ok (.bipush 32, 2) := by decide +kernel
theorem dX0_smallLatin_46 : decode cX0_smallLatin 46 = .ok (.iadd, 1) := by decide +kernel
theorem dX0_smallLatin_47 : decode cX0_smallLatin 47 = .ok (.ireturn, 1) := by decide +kernel
theorem dX0_smallLatin_48 : decode cX0_smallLatin 48 = .ok (.iload_n 0, 1) := by decide +kernel
theorem dX0_smallLatin_49 : decode cX0_smallLatin 49 = .ok (.sipush 181, 3) := by decide +kernel
theorem dX0_smallLatin_52 : decode cX0_smallLatin 52 = .ok (.if_icmp .ne 9, 3) := by decide +kernel
theorem dX0_smallLatin_55 : decode cX0_smallLatin 55 = .ok (.sipush 956, 3) := by decide +kernel
theorem dX0_smallLatin_58 : decode cX0_smallLatin 58 = .ok (.goto 4, 3) := by decide +kernel
theorem dX0_smallLatin_61 : decode cX0_smallLatin 61 = .ok (.iload_n 0, 1) := by decide +kernel
theorem dX0_smallLatin_62 : decode cX0_smallLatin 62 = .ok (.ireturn, 1) := by decide +kernel
theorem dX0_smallLatinExtended_0 : decode cX0_smallLatinExtended 0 = .ok (.iload_n 0, 1) := by decide +kernel
theorem dX0_smallLatinExtended_1 : decode cX0_smallLatinExtended 1 = .ok (.sipush 376, 3) := by decide +kernel
theorem dX0_smallLatinExtended_4 : decode cX0_smallLatinExtended 4 = .ok (.if_icmp .ne 7, 3) := by decide +kernel
theorem dX0_smallLatinExtended_7 : decode cX0_smallLatinExtended 7 = .ok (.sipush 255, 3) := by decide +kernel
theorem dX0_smallLatinExtended_10 : decode cX0_smallLatinExtended 10 = .ok (.ireturn, 1) := by decide +kernel
theorem dX0_smallLatinExtended_11 : decode cX0_smallLatinExtended 11 = .ok (.iload_n 0, 1) := by decide +kernel
theorem dX0_smallLatinExtended_12 : decode cX0_smallLatinExtended 12 = .ok (.sipush 383, 3) := by decide +kernel
theorem dX0_smallLatinExtended_15 : decode cX0_smallLatinExtended 15 = .ok (.if_icmp .ne 6, 3) := by decide +kernel
theorem dX0_smallLatinExtended_18 : decode cX0_smallLatinExtended 18 = .ok (.bipush 115, 2) := by decide +kernel
theorem dX0_smallLatinExtended_20 : decode cX0_smallLatinExtended 20 = .ok (.ireturn, 1) := by decide +kernel
theorem dX0_smallLatinExtended_21 : decode cX0_smallLatinExtended 21 = .ok (.iload_n 0, 1) := by decide +kernel
theorem dX0_smallLatinExtended_22 : decode cX0_smallLatinExtended 22 = .ok (.iconst 2, 1) := by decide +kernel
theorem dX0_smallLatinExtended_23 : decode cX0_smallLatinExtended 23 = .ok (.irem, 1) := by decide +kernel
theorem dX0_smallLatinExtended_24 : decode cX0_smallLatinExtended 24 = .ok (.ifCond .ne 7, 3) := by decide +kernel
theorem dX0_smallLatinExtended_27 : decode cX0_smallLatinExtended 27 = .ok (.iconst 1, 1) := by decide +kernel
theorem dX0_smallLatinExtended_28 : decode cX0_smallLatinExtended 28 = .ok (.goto 4, 3) := by decide +kernel
theorem dX0_smallLatinExtended_31 : decode cX0_smallLatinExtended 31 = .ok (.iconst 0, 1) := by decide +kernel
theorem dX0_smallLatinExtended_32 : decode cX0_smallLatinExtended 32 = .ok (.istore_n 1, 1) := by decide +kernel
theorem dX0_smallLatinExtended_33 : decode cX0_smallLatinExtended 33 = .ok (.iload_n 1, 1) := by decide +kernel
theorem dX0_smallLatinExtended_34 : decode cX0_smallLatinExtended 34 = .ok (.ifCond .eq 32, 3) := by decide +kernel
theorem dX0_smallLatinExtended_37 : decode cX0_smallLatinExtended 37 = .ok (.iload_n 0, 1) := by decide +kernel
theorem dX0_smallLatinExtended_38 : decode cX0_smallLatinExtended 38 = .ok (.sipush 303, 3) := by decide +kernel
theorem dX0_smallLatinExtended_41 : decode cX0_smallLatinExtended 41 = .ok (.if_icmp .le 17, 3) := by decide +kernel
theorem dX0_smallLatinExtended_44 : decode cX0_smallLatinExtended 44 = .ok (.iload_n 0, 1) := by decide +kernel
theorem dX0_smallLatinExtended_45 : decode cX0_smallLatinExtended 45 = .ok (.sipush 330, 3) := by decide +kernel
theorem dX0_smallLatinExtended_48 : decode cX0_smallLatinExtended 48 = .ok (.if_icmp .lt 14, 3) := by decide +kernel
theorem dX0_smallLatinExtended_51 : decode cX0_smallLatinExtended 51 = .ok (.iload_n 0, 1) := by decide +kernel
theorem dX0_smallLatinExtended_52 : decode cX0_smallLatinExtended 52 = .ok (.sipush 375, 3) := by decide +kernel
theorem dX0_smallLatinExtended_55 : decode cX0_smallLatinExtended 55 = .ok (.if_icmp .gt 7, 3) := by decide +kernel
theorem dX0_smallLatinExtended_58 : decode cX0_smallLatinExtended 58 = .ok (.iconst 1, 1) := by decide +kernel
theorem dX0_smallLatinExtended_59 : decode cX0_smallLatinExtended 59 = .ok (.goto 40, 3) := by decide +kernel
theorem dX0_smallLatinExtended_62 : decode cX0_smallLatinExtended 62 = .ok (.iconst 0, 1) := by decide +kernel
theorem dX0_smallLatinExtended_63 : decode cX0_smallLatinExtended 63 = .ok (.goto 36, 3) := by decide +kernel
theorem dX0_smallLatinExtended_66 : decode cX0_smallLatinExtended 66 = .ok (.iload_n 0, 1) := by decide +kernel
theorem dX0_smallLatinExtended_67 : decode cX0_smallLatinExtended 67 = .ok (.sipush 313, 3) := by decide +kernel
theorem dX0_smallLatinExtended_70 : decode cX0_smallLatinExtended 70 = .ok (.if_icmp .lt 10, 3) := by decide +kernel
theorem dX0_smallLatinExtended_73 : decode cX0_smallLatinExtended 73 = .ok (.iload_n 0, 1) := by decide +kernel
theorem dX0_smallLatinExtended_74 : decode cX0_smallLatinExtended 74 = .ok (.sipush 328, 3) := by decide +kernel
theorem dX0_smallLatinExtended_77 : decode cX0_smallLatinExtended 77 = .ok (.if_icmp .le 17, 3) := by decide +kernel
theorem dX0_smallLatinExtended_80 : decode cX0_smallLatinExtended 80 = .ok (.iload_n 0, 1) := by decide +kernel
theorem dX0_smallLatinExtended_81 : decode cX0_smallLatinExtended 81 = .ok (.sipush 377, 3) := by decide +kernel
theorem dX0_smallLatinExtended_84 : decode cX0_smallLatinExtended 84 = .ok (.if_icmp .lt 14, 3) := by decide +kernel
theorem dX0_smallLatinExtended_87 : decode cX0_smallLatinExtended 87 = .ok (.iload_n 0, 1) := by decide +kernel
theorem dX0_smallLatinExtended_88 : decode cX0_smallLatinExtended 88 = .ok (.sipush 382, 3) := by decide +kernel
theorem dX0_smallLatinExtended_91 : decode cX0_smallLatinExtended 91 = .ok (.if_icmp .gt 7, 3) := by decide +kernel
theorem dX0_smallLatinExtended_94 : decode cX0_smallLatinExtended 94 = .ok (.iconst 1, 1) := by decide +kernel
theorem dX0_smallLatinExtended_95 : decode cX0_smallLatinExtended 95 = .ok (.goto 4, 3) := by decide +kernel
theorem dX0_smallLatinExtended_98 : decode cX0_smallLatinExtended 98 = .ok (.iconst 0, 1) := by decide +kernel
theorem dX0_smallLatinExtended_99 : decode cX0_smallLatinExtended 99 = .ok (.istore_n 2, 1) := by decide +kernel
theorem dX0_smallLatinExtended_100 : decode cX0_smallLatinExtended 100 = .ok (.iload_n 2, 1) := by decide +kernel
theorem dX0_smallLatinExtended_101 : decode cX0_smallLatinExtended 101 = .ok (.ifCond .eq 9, 3) := by decide +kernel
theorem dX0_smallLatinExtended_104 : decode cX0_smallLatinExtended 104 = .ok (.iload_n 0, 1) := by decide +kernel
theorem dX0_smallLatinExtended_105 : decode cX0_smallLatinExtended 105 = .ok (.iconst 1, 1) := by decide +kernel
theorem dX0_smallLatinExtended_106 : decode cX0_smallLatinExtended 106 = .ok (.iadd, 1) := by decide +kernel
theorem dX0_smallLatinExtended_107 : decode cX0_smallLatinExtended 107 = .ok (.goto 4, 3) := by decide +kernel
theorem dX0_smallLatinExtended_110 : decode cX0_smallLatinExtended 110 = .ok (.iload_n 0, 1) := by decide +kernel
theorem dX0_smallLatinExtended_111 : decode cX0_smallLatinExtended 111 = .ok (.ireturn, 1) := by decide +kernel
theorem dX1_init_0 : decode cX1_init 0 = .ok (.aload_n 0, 1) := by decide +kernel
theorem dX1_init_1 : decode cX1_init 1 = .ok (.invokespecial 3, 3) := by decide +kernel
theorem dX1_init_4 : decode cX1_init 4 = .ok (.aload_n 0, 1) := by decide +kernel
theorem dX1_init_5 : decode cX1_init 5 = .ok (.new 9, 3) := by decide +kernel
theorem dX1_init_8 : decode cX1_init 8 = .ok (.dup, 1) := by decide +kernel
theorem dX1_init_9 : decode cX1_init 9 = .ok (.bipush 60, 2) := by decide +kernel
theorem dX1_init_11 : decode cX1_init 11 = .ok (.invokespecial 11, 3) := by decide +kernel
theorem dX1_init_14 : decode cX1_init 14 = .ok (.putfield 14, 3) := by decide +kernel
theorem dX1_init_17 : decode cX1_init 17 = .ok (.aload_n 0, 1) := by decide +kernel
theorem dX1_init_18 : decode cX1_init 18 = .ok (.new 9, 3) := by decide +kernel
theorem dX1_init_21 : decode cX1_init 21 = .ok (.dup, 1) := by decide +kernel
theorem dX1_init_22 : decode cX1_init 22 = .ok (.bipush 60, 2) := by decide +kernel
theorem dX1_init_24 : decode cX1_init 24 = .ok (.invokespecial 11, 3) := by decide +kernel
theorem dX1_init_27 : decode cX1_init 27 = .ok (.putfield 20, 3) := by decide +kernel
theorem dX1_init_30 : decode cX1_init 30 = .ok (.aload_n 0, 1) := by decide +kernel
theorem dX1_init_31 : decode cX1_init 31 = .ok (.new 9, 3) := by decide +kernel
theorem dX1_init_34 : decode cX1_init 34 = .ok (.dup, 1) := by decide +kernel
theorem dX1_init_35 : decode cX1_init 35 = .ok (.bipush 40, 2) := by decide +kernel
theorem dX1_init_37 : decode cX1_init 37 = .ok (.invokespecial 11, 3) := by decide +kernel
theorem dX1_init_40 : decode cX1_init 40 = .ok (.putfield 23, 3) := by decide +kernel
theorem dX1_init_43 : decode cX1_init 43 = .ok (.aload_n 0, 1) := by decide +kernel
theorem dX1_init_44 : decode cX1_init 44 = .ok (.new 9, 3) := by decide +kernel
theorem dX1_init_47 : decode cX1_init 47 = .ok (.dup, 1) := by decide +kernel
theorem dX1_init_48 : decode cX1_init 48 = .ok (.bipush 40, 2) := by decide +kernel
theorem dX1_init_50 : decode cX1_init 50 = .ok (.invokespecial 11, 3) := by decide +kernel
theorem dX1_init_53 : decode cX1_init 53 = .ok (.putfield 26, 3) := by decide +kernel
theorem dX1_init_56 : decode cX1_init 56 = .ok (.return_, 1) := by decide +kernel
theorem dX1_begin_0 : decode cX1_begin 0 = .ok (.aload_n 0, 1) := by decide +kernel
theorem dX1_begin_1 : decode cX1_begin 1 = .ok (.getfield 14, 3) := by decide +kernel
theorem dX1_begin_4 : decode cX1_begin 4 = .ok (.invokevirtual 29, 3) := by decide +kernel
theorem dX1_begin_7 : decode cX1_begin 7 = .ok (.aload_n 0, 1) := by decide +kernel
theorem dX1_begin_8 : decode cX1_begin 8 = .ok (.getfield 20, 3) := by decide +kernel
theorem dX1_begin_11 : decode cX1_begin 11 = .ok (.invokevirtual 29, 3) := by decide +kernel
theorem dX1_begin_14 : decode cX1_begin 14 = .ok (.aload_n 0, 1) := by decide +kernel
theorem dX1_begin_15 : decode cX1_begin 15 = .ok (.getfield 23, 3) := by decide +kernel
theorem dX1_begin_18 : decode cX1_begin 18 = .ok (.invokevirtual 29, 3) := by decide +kernel
theorem dX1_begin_21 : decode cX1_begin 21 = .ok (.aload_n 0, 1) := by decide +kernel
theorem dX1_begin_22 : decode cX1_begin 22 = .ok (.getfield 26, 3) := by decide +kernel
theorem dX1_begin_25 : decode cX1_begin 25 = .ok (.invokevirtual 29, 3) := by decide +kernel
theorem dX1_begin_28 : decode cX1_begin 28 = .ok (.aload_n 0, 1) := by decide +kernel
theorem dX1_begin_29 : decode cX1_begin 29 = .ok (.iconst 1, 1) := by decide +kernel
theorem dX1_begin_30 : decode cX1_begin 30 = .ok (.putfield 32, 3) := by decide +kernel
theorem dX1_begin_33 : decode cX1_begin 33 = .ok (.aload_n 0, 1) := by decide +kernel
theorem dX1_begin_34 : decode cX1_begin 34 = .ok (.iload_n 1, 1) := by decide +kernel
theorem dX1_begin_35 : decode cX1_begin 35 = .ok (.putfield 36, 3) := by decide +kernel
theorem dX1_begin_38 : decode cX1_begin 38 = .ok (.aload_n 0, 1) := by decide +kernel
theorem dX1_begin_39 : decode cX1_begin 39 = .ok (.iconst (-1), 1) := by decide +kernel
theorem dX1_begin_40 : decode cX1_begin 40 = .ok (.putfield 39, 3) := by decide +kernel
theorem dX1_begin_43 : decode cX1_begin 43 = .ok (.return_, 1) := by decide +kernel
theorem dX1_takeName_0 : decode cX1_takeName 0 = .ok (.aload_n 0, 1) := by decide +kernel
theorem dX1_takeName_1 : decode cX1_takeName 1 = .ok (.getfield 14, 3) := by decide +kernel
theorem dX1_takeName_4 : decode cX1_takeName 4 = .ok (.aload_n 1, 1) := by decide +kernel
theorem dX1_takeName_5 : decode cX1_takeName 5 = .ok (.invokevirtual 43, 3) := by decide +kernel
theorem dX1_takeName_8 : decode cX1_takeName 8 = .ok (.aload_n 0, 1) := by decide +kernel
theorem dX1_takeName_9 : decode cX1_takeName 9 = .ok (.getfield 20, 3) := by decide +kernel
theorem dX1_takeName_12 : decode cX1_takeName 12 = .ok (.aload_n 2, 1) := by decide +kernel
theorem dX1_takeName_13 : decode cX1_takeName 13 = .ok (.invokevirtual 43, 3) := by decide +kernel
theorem dX1_takeName_16 : decode cX1_takeName 16 = .ok (.return_, 1) := by decide +kernel
theorem dX2_init_0 : decode cX2_init 0 = .ok (.aload_n 0, 1) := by decide +kernel
theorem dX2_init_1 : decode cX2_init 1 = .ok (.invokespecial 3, 3) := by decide +kernel
theorem dX2_init_4 : decode cX2_init 4 = .ok (.aload_n 0, 1) := by decide +kernel
theorem dX2_init_5 : decode cX2_init 5 = .ok (.iload_n 1, 1) := by decide +kernel
theorem dX2_init_6 : decode cX2_init 6 = .ok (.iconst 0, 1) := by decide +kernel
theorem dX2_init_7 : decode cX2_init 7 = .ok (.invokestatic 9, 3) := by decide +kernel
theorem dX2_init_10 : decode cX2_init 10 = .ok (.newarray .int, 2) := by decide +kernel
theorem dX2_init_12 : decode cX2_init 12 = .ok (.putfield 15, 3) := by decide +kernel
theorem dX2_init_15 : decode cX2_init 15 = .ok (.aload_n 0, 1) := by decide +kernel
theorem dX2_init_16 : decode cX2_init 16 = .ok (.iconst 0, 1) := by decide +kernel
theorem dX2_init_17 : decode cX2_init 17 = .ok (.putfield 21, 3) := by decide +kernel
theorem dX2_init_20 : decode cX2_init 20 = .ok (.return_, 1) := by decide +kernel
theorem dX2_size_0 : decode cX2_size 0 = .ok (.aload_n 0, 1) := by decide +kernel
theorem dX2_size_1 : decode cX2_size 1 = .ok (.getfield 21, 3) := by decide +kernel
theorem dX2_size_4 : decode cX2_size 4 = .ok (.ireturn, 1) := by decide +kernel
theorem dX2_at_0 : decode cX2_at 0 = .ok (.iload_n 1, 1) := by decide +kernel
theorem dX2_at_1 : decode cX2_at 1 = .ok (.ifCond .lt 11, 3) := by decide +kernel
theorem dX2_at_4 : decode cX2_at 4 = .ok (.iload_n 1, 1) := by decide +kernel
theorem dX2_at_5 : decode cX2_at 5 = .ok (.aload_n 0, 1) := by decide +kernel
theorem dX2_at_6 : decode cX2_at 6 = .ok (.getfield 21, 3) := by decide +kernel
theorem dX2_at_9 : decode cX2_at 9 = .ok (.if_icmp .lt 7, 3) := by decide +kernel
theorem dX2_at_12 : decode cX2_at 12 = .ok (.iconst (-1), 1) := by decide +kernel
theorem dX2_at_13 : decode cX2_at 13 = .ok (.goto 9, 3) := by decide +kernel
theorem dX2_at_16 : decode cX2_at 16 = .ok (.aload_n 0, 1) := by decide +kernel
theorem dX2_at_17 : decode cX2_at 17 = .ok (.getfield 15, 3) := by decide +kernel
theorem dX2_at_20 : decode cX2_at 20 = .ok (.iload_n 1, 1) := by decide +kernel
theorem dX2_at_21 : decode cX2_at 21 = .ok (.iaload, 1) := by decide +kernel
theorem dX2_at_22 : decode cX2_at 22 = .ok (.ireturn, 1) := by decide +kernel
theorem dX2_clear_0 : decode cX2_clear 0 = .ok (.aload_n 0, 1) := by decide +kernel
theorem dX2_clear_1 : decode cX2_clear 1 = .ok (.iconst 0, 1) := by decide +kernel
theorem dX2_clear_2 : decode cX2_clear 2 = .ok (.putfield 21, 3) := by decide +kernel
theorem dX2_clear_5 : decode cX2_clear 5 = .ok (.return_, 1) := by decide +kernel
theorem dX2_add_0 : decode cX2_add 0 = .ok (.aload_n 0, 1) := by decide +kernel
theorem dX2_add_1 : decode cX2_add 1 = .ok (.aload_n 0, 1) := by decide +kernel
theorem dX2_add_2 : decode cX2_add 2 = .ok (.getfield 21, 3) := by decide +kernel
theorem dX2_add_5 : decode cX2_add 5 = .ok (.iload_n 1, 1) := by decide +kernel
theorem dX2_add_6 : decode cX2_add 6 = .ok (.invokevirtual 25, 3) := by decide +kernel
theorem dX2_add_9 : decode cX2_add 9 = .ok (.return_, 1) := by decide +kernel
theorem dX2_insert_0 : decode cX2_insert 0 = .ok (.iload_n 1, 1) := by decide +kernel
theorem dX2_insert_1 : decode cX2_insert 1 = .ok (.ifCond .lt 23, 3) := by decide +kernel
theorem dX2_insert_4 : decode cX2_insert 4 = .ok (.iload_n 1, 1) := by decide +kernel
theorem dX2_insert_5 : decode cX2_insert 5 = .ok (.aload_n 0, 1) := by decide +kernel
theorem dX2_insert_6 : decode cX2_insert 6 = .ok (.getfield 21, 3) := by decide +kernel
theorem dX2_insert_9 : decode cX2_insert 9 = .ok (.if_icmp .gt 15, 3) := by decide +kernel
theorem dX2_insert_12 : decode cX2_insert 12 = .ok (.aload_n 0, 1) := by decide +kernel
theorem dX2_insert_13 : decode cX2_insert 13 = .ok (.getfield 21, 3) := by decide +kernel
theorem dX2_insert_16 : decode cX2_insert 16 = .ok (.aload_n 0, 1) := by decide +kernel
theorem dX2_insert_17 : decode cX2_insert 17 = .ok (.getfield 15, 3) := by decide +kernel
theorem dX2_insert_20 : decode cX2_insert 20 = .ok (.arraylength, 1) := by decide +kernel
theorem dX2_insert_21 : decode cX2_insert 21 = .ok (.if_icmp .lt 4, 3) := by decide +kernel
theorem dX2_insert_24 : decode cX2_insert 24 = .ok (.return_, 1) := by decide +kernel
theorem dX2_insert_25 : decode cX2_insert 25 = .ok (.aload_n 0, 1) := by decide +kernel
theorem dX2_insert_26 : decode cX2_insert 26 = .ok (.getfield 21, 3) := by decide +kernel
theorem dX2_insert_29 : decode cX2_insert 29 = .ok (.istore_n 3, 1) := by decide +kernel
theorem dX2_insert_30 : decode cX2_insert 30 = .ok (.iload_n 3, 1) := by decide +kernel
theorem dX2_insert_31 : decode cX2_insert 31 = .ok (.iload_n 1, 1) := by decide +kernel
theorem dX2_insert_32 : decode cX2_insert 32 = .ok (.if_icmp .le 23, 3) := by decide +kernel
theorem dX2_insert_35 : decode cX2_insert 35 = .ok (.aload_n 0, 1) := by decide +kernel
theorem dX2_insert_36 : decode cX2_insert 36 = .ok (.getfield 15, 3) := by decide +kernel
theorem dX2_insert_39 : decode cX2_insert 39 = .ok (.iload_n 3, 1) := by decide +kernel
theorem dX2_insert_40 : decode cX2_insert 40 = .ok (.aload_n 0, 1) := by decide +kernel
theorem dX2_insert_41 : decode cX2_insert 41 = .ok (.getfield 15, 3) := by decide +kernel
theorem dX2_insert_44 : decode cX2_insert 44 = .ok (.iload_n 3, 1) := by decide +kernel
theorem dX2_insert_45 : decode cX2_insert 45 = .ok (.iconst 1, 1) := by decide +kernel
theorem dX2_insert_46 : decode cX2_insert 46 = .ok (.isub, 1) := by decide +kernel
theorem dX2_insert_47 : decode cX2_insert 47 = .ok (.iaload, 1) := by decide +kernel
theorem dX2_insert_48 : decode cX2_insert 48 = .ok (.iastore, 1) := by decide +kernel
theorem dX2_insert_49 : decode cX2_insert 49 = .ok (.iinc 3 (-1), 3) := by decide +kernel
theorem dX2_insert_52 : decode cX2_insert 52 = .ok (.goto (-22), 3) := by decide +kernel
theorem dX2_insert_55 : decode cX2_insert 55 = .ok (.aload_n 0, 1) := by decide +kernel
theorem dX2_insert_56 : decode cX2_insert 56 = .ok (.getfield 15, 3) := by decide +kernel
theorem dX2_insert_59 : decode cX2_insert 59 = .ok (.iload_n 1, 1) := by decide +kernel
theorem dX2_insert_60 : decode cX2_insert 60 = .ok (.iload_n 2, 1) := by decide +kernel
theorem dX2_insert_61 : decode cX2_insert 61 = .ok (.iastore, 1) := by decide +kernel
theorem dX2_insert_62 : decode cX2_insert 62 = .ok (.aload_n 0, 1) := by decide +kernel
theorem dX2_insert_63 : decode cX2_insert 63 = .ok (.dup, 1) := by decide +kernel
theorem dX2_insert_64 : decode cX2_insert 64 = .ok (.getfield 21, 3) := by decide +kernel
theorem dX2_insert_67 : decode cX2_insert 67 = .ok (.iconst 1, 1) := by decide +kernel
theorem dX2_insert_68 : decode cX2_insert 68 = .ok (.iadd, 1) := by decide +kernel
theorem dX2_insert_69 : decode cX2_insert 69 = .ok (.putfield 21, 3) := by decide +kernel
theorem dX2_insert_72 : decode cX2_insert 72 = .ok (.return_, 1) := by decide +kernel
theorem dX2_takeOut_0 : decode cX2_takeOut 0 = .ok (.iconst 0, 1) := by decide +kernel
theorem dX2_takeOut_1 : decode cX2_takeOut 1 = .ok (.istore_n 2, 1) := by decide +kernel
theorem dX2_takeOut_2 : decode cX2_takeOut 2 = .ok (.iconst 0, 1) := by decide +kernel
theorem dX2_takeOut_3 : decode cX2_takeOut 3 = .ok (.istore_n 3, 1) := by decide +kernel
theorem dX2_takeOut_4 : decode cX2_takeOut 4 = .ok (.iload_n 3, 1) := by decide +kernel
theorem dX2_takeOut_5 : decode cX2_takeOut 5 = .ok (.aload_n 0, 1) := by decide +kernel
theorem dX2_takeOut_6 : decode cX2_takeOut 6 = .ok (.getfield 21, 3) := by decide +kernel
theorem dX2_takeOut_9 : decode cX2_takeOut 9 = .ok (.if_icmp .ge 34, 3) := by decide +kernel
theorem dX2_takeOut_12 : decode cX2_takeOut 12 = .ok (.aload_n 0, 1) := by decide +kernel
theorem dX2_takeOut_13 : decode cX2_takeOut 13 = .ok (.getfield 15, 3) := by decide +kernel
theorem dX2_takeOut_16 : decode cX2_takeOut 16 = .ok (.iload_n 3, 1) := by decide +kernel
theorem dX2_takeOut_17 : decode cX2_takeOut 17 = .ok (.iaload, 1) := by decide +kernel
theorem dX2_takeOut_18 : decode cX2_takeOut 18 = .ok (.iload_n 1, 1) := by decide +kernel
theorem dX2_takeOut_19 : decode cX2_takeOut 19 = .ok (.if_icmp .eq 18, 3) := by decide +kernel
theorem dX2_takeOut_22 : decode cX2_takeOut 22 = .ok (.aload_n 0, 1) := by decide +kernel
theorem dX2_takeOut_23 : decode cX2_takeOut 23 = .ok (.getfield 15, 3) := by decide +kernel
theorem dX2_takeOut_26 : decode cX2_takeOut 26 = .ok (.iload_n 2, 1) := by decide +kernel
theorem dX2_takeOut_27 : decode cX2_takeOut 27 = .ok (.aload_n 0, 1) := by decide +kernel
theorem dX2_takeOut_28 : decode cX2_takeOut 28 = .ok (.getfield 15, 3) := by decide +kernel
theorem dX2_takeOut_31 : decode cX2_takeOut 31 = .ok (.iload_n 3, 1) := by decide +kernel
theorem dX2_takeOut_32 : decode cX2_takeOut 32 = .ok (.iaload, 1) := by decide +kernel
theorem dX2_takeOut_33 : decode cX2_takeOut 33 = .ok (.iastore, 1) := by decide +kernel
theorem dX2_takeOut_34 : decode cX2_takeOut 34 = .ok (.iinc 2 1, 3) := by decide +kernel
theorem dX2_takeOut_37 : decode cX2_takeOut 37 = .ok (.iinc 3 1, 3) := by decide +kernel
theorem dX2_takeOut_40 : decode cX2_takeOut 40 = .ok (.goto (-36), 3) := by decide +kernel
theorem dX2_takeOut_43 : decode cX2_takeOut 43 = .ok (.aload_n 0, 1) := by decide +kernel
theorem dX2_takeOut_44 : decode cX2_takeOut 44 = .ok (.iload_n 2, 1) := by decide +kernel
theorem dX2_takeOut_45 : decode cX2_takeOut 45 = .ok (.putfield 21, 3) := by decide +kernel
theorem dX2_takeOut_48 : decode cX2_takeOut 48 = .ok (.return_, 1) := by decide +kernel
theorem dX2_copyFrom_0 : decode cX2_copyFrom 0 = .ok (.aload_n 0, 1) := by decide +kernel
theorem dX2_copyFrom_1 : decode cX2_copyFrom 1 = .ok (.aload_n 1, 1) := by decide +kernel
theorem dX2_copyFrom_2 : decode cX2_copyFrom 2 = .ok (.getfield 21, 3) := by decide +kernel
theorem dX2_copyFrom_5 : decode cX2_copyFrom 5 = .ok (.aload_n 0, 1) := by decide +kernel
theorem dX2_copyFrom_6 : decode cX2_copyFrom 6 = .ok (.getfield 15, 3) := by decide +kernel
theorem dX2_copyFrom_9 : decode cX2_copyFrom 9 = .ok (.arraylength, 1) := by decide +kernel
theorem dX2_copyFrom_10 : decode cX2_copyFrom 10 = .ok (.invokestatic 29, 3) := by decide +kernel
theorem dX2_copyFrom_13 : decode cX2_copyFrom 13 = .ok (.putfield 21, 3) := by decide +kernel
theorem dX2_copyFrom_16 : decode cX2_copyFrom 16 = .ok (.iconst 0, 1) := by decide +kernel
theorem dX2_copyFrom_17 : decode cX2_copyFrom 17 = .ok (.istore_n 2, 1) := by decide +kernel
theorem dX2_copyFrom_18 : decode cX2_copyFrom 18 = .ok (.iload_n 2, 1) := by decide +kernel
theorem dX2_copyFrom_19 : decode cX2_copyFrom 19 = .ok (.aload_n 0, 1) := by decide +kernel
theorem dX2_copyFrom_20 : decode cX2_copyFrom 20 = .ok (.getfield 21, 3) := by decide +kernel
theorem dX2_copyFrom_23 : decode cX2_copyFrom 23 = .ok (.if_icmp .ge 21, 3) := by decide +kernel
theorem dX2_copyFrom_26 : decode cX2_copyFrom 26 = .ok (.aload_n 0, 1) := by decide +kernel
theorem dX2_copyFrom_27 : decode cX2_copyFrom 27 = .ok (.getfield 15, 3) := by decide +kernel
theorem dX2_copyFrom_30 : decode cX2_copyFrom 30 = .ok (.iload_n 2, 1) := by decide +kernel
theorem dX2_copyFrom_31 : decode cX2_copyFrom 31 = .ok (.aload_n 1, 1) := by decide +kernel
theorem dX2_copyFrom_32 : decode cX2_copyFrom 32 = .ok (.getfield 15, 3) := by decide +kernel
theorem dX2_copyFrom_35 : decode cX2_copyFrom 35 = .ok (.iload_n 2, 1) := by decide +kernel
theorem dX2_copyFrom_36 : decode cX2_copyFrom 36 = .ok (.iaload, 1) := by decide +kernel
theorem dX2_copyFrom_37 : decode cX2_copyFrom 37 = .ok (.iastore, 1) := by decide +kernel
theorem dX2_copyFrom_38 : decode cX2_copyFrom 38 = .ok (.iinc 2 1, 3) := by decide +kernel
theorem dX2_copyFrom_41 : decode cX2_copyFrom 41 = .ok (.goto (-23), 3) := by decide +kernel
theorem dX2_copyFrom_44 : decode cX2_copyFrom 44 = .ok (.return_, 1) := by decide +kernel
theorem dX2_compareWith_0 : decode cX2_compareWith 0 = .ok (.aload_n 0, 1) := by decide +kernel
theorem dX2_compareWith_1 : decode cX2_compareWith 1 = .ok (.getfield 21, 3) := by decide +kernel
theorem dX2_compareWith_4 : decode cX2_compareWith 4 = .ok (.aload_n 1, 1) := by decide +kernel
theorem dX2_compareWith_5 : decode cX2_compareWith 5 = .ok (.getfield 21, 3) := by decide +kernel
theorem dX2_compareWith_8 : decode cX2_compareWith 8 = .ok (.invokestatic 29, 3) := by decide +kernel
theorem dX2_compareWith_11 : decode cX2_compareWith 11 = .ok (.istore_n 2, 1) := by decide +kernel
theorem dX2_compareWith_12 : decode cX2_compareWith 12 = .ok (.iconst 0, 1) := by decide +kernel
theorem dX2_compareWith_13 : decode cX2_compareWith 13 = .ok (.istore_n 3, 1) := by decide +kernel
theorem dX2_compareWith_14 : decode cX2_compareWith 14 = .ok (.iload_n 3, 1) := by decide +kernel
theorem dX2_compareWith_15 : decode cX2_compareWith 15 = .ok (.iload_n 2, 1) := by decide +kernel
theorem dX2_compareWith_16 : decode cX2_compareWith 16 = .ok (.if_icmp .ge 40, 3) := by decide +kernel
theorem dX2_compareWith_19 : decode cX2_compareWith 19 = .ok (.aload_n 0, 1) := by decide +kernel
theorem dX2_compareWith_20 : decode cX2_compareWith 20 = .ok (.getfield 15, 3) := by decide +kernel
theorem dX2_compareWith_23 : decode cX2_compareWith 23 = .ok (.iload_n 3, 1) := by decide +kernel
theorem dX2_compareWith_24 : decode cX2_compareWith 24 = .ok (.iaload, 1) := by decide +kernel
theorem dX2_compareWith_25 : decode cX2_compareWith 25 = .ok (.aload_n 1, 1) := by decide +kernel
theorem dX2_compareWith_26 : decode cX2_compareWith 26 = .ok (.getfield 15, 3) := by decide +kernel
theorem dX2_compareWith_29 : decode cX2_compareWith 29 = .ok (.iload_n 3, 1) := by decide +kernel
theorem dX2_compareWith_30 : decode cX2_compareWith 30 = .ok (.iaload, 1) := by decide +kernel
theorem dX2_compareWith_31 : decode cX2_compareWith 31 = .ok (.if_icmp .eq 19, 3) := by decide +kernel
theorem dX2_compareWith_34 : decode cX2_compareWith 34 = .ok (.aload_n 0, 1) := by decide +kernel
theorem dX2_compareWith_35 : decode cX2_compareWith 35 = .ok (.getfield 15, 3) := by decide +kernel
theorem dX2_compareWith_38 : decode cX2_compareWith 38 = .ok (.iload_n 3, 1) := by decide +kernel
theorem dX2_compareWith_39 : decode cX2_compareWith 39 = .ok (.iaload, 1) := by decide +kernel
theorem dX2_compareWith_40 : decode cX2_compareWith 40 = .ok (.aload_n 1, 1) := by decide +kernel
theorem dX2_compareWith_41 : decode cX2_compareWith 41 = .ok (.getfield 15, 3) := by decide +kernel
theorem dX2_compareWith_44 : decode cX2_compareWith 44 = .ok (.iload_n 3, 1) := by decide +kernel
theorem dX2_compareWith_45 : decode cX2_compareWith 45 = .ok (.iaload, 1) := by decide +kernel
theorem dX2_compareWith_46 : decode cX2_compareWith 46 = .ok (.invokestatic 32, 3) := by decide +kernel
theorem dX2_compareWith_49 : decode cX2_compareWith 49 = .ok (.ireturn, 1) := by decide +kernel
theorem dX2_compareWith_50 : decode cX2_compareWith 50 = .ok (.iinc 3 1, 3) := by decide +kernel
theorem dX2_compareWith_53 : decode cX2_compareWith 53 = .ok (.goto (-39), 3) := by decide +kernel
theorem dX2_compareWith_56 : decode cX2_compareWith 56 = .ok (.aload_n 0, 1) := by decide +kernel
theorem dX2_compareWith_57 : decode cX2_compareWith 57 = .ok (.getfield 21, 3) := by decide +kernel
theorem dX2_compareWith_60 : decode cX2_compareWith 60 = .ok (.aload_n 1, 1) := by decide +kernel
theorem dX2_compareWith_61 : decode cX2_compareWith 61 = .ok (.getfield 21, 3) := by decide +kernel
theorem dX2_compareWith_64 : decode cX2_compareWith 64 = .ok (.invokestatic 32, 3) := by decide +kernel
theorem dX2_compareWith_67 : decode cX2_compareWith 67 = .ok (.ireturn, 1) := by decide +kernel
theorem dX3_wrongPlace_0 : decode cX3_wrongPlace 0 = .ok (.iload_n 1, 1) := by decide +kernel
theorem dX3_wrongPlace_1 : decode cX3_wrongPlace 1 = .ok (.istore_n 3, 1) := by decide +kernel
theorem dX3_wrongPlace_2 : decode cX3_wrongPlace 2 = .ok (.iload_n 1, 1) := by decide +kernel
theorem dX3_wrongPlace_3 : decode cX3_wrongPlace 3 = .ok (.istore 4, 2) := by decide +kernel
theorem dX3_wrongPlace_5 : decode cX3_wrongPlace 5 = .ok (.iload 4, 2) := by decide +kernel
theorem dX3_wrongPlace_7 : decode cX3_wrongPlace 7 = .ok (.iload_n 2, 1) := by decide +kernel
theorem dX3_wrongPlace_8 : decode cX3_wrongPlace 8 = .ok (.if_icmp .ge 41, 3) := by decide +kernel
theorem dX3_wrongPlace_11 : decode cX3_wrongPlace 11 = .ok (.iload 4, 2) := by decide +kernel
theorem dX3_wrongPlace_13 : decode cX3_wrongPlace 13 = .ok (.iload_n 3, 1) := by decide +kernel
theorem dX3_wrongPlace_14 : decode cX3_wrongPlace 14 = .ok (.if_icmp .ne 29, 3) := by decide +kernel
theorem dX3_wrongPlace_17 : decode cX3_wrongPlace 17 = .ok (.aload_n 0, 1) := by decide +kernel
theorem dX3_wrongPlace_18 : decode cX3_wrongPlace 18 = .ok (.iload 4, 2) := by decide +kernel
theorem dX3_wrongPlace_20 : decode cX3_wrongPlace 20 = .ok (.iload_n 2, 1) := by decide +kernel
theorem dX3_wrongPlace_21 : decode cX3_wrongPlace 21 = .ok (.invokestatic 9, 3) := by decide +kernel
theorem dX3_wrongPlace_24 : decode cX3_wrongPlace 24 = .ok (.istore 5, 2) := by decide +kernel
theorem dX3_wrongPlace_26 : decode cX3_wrongPlace 26 = .ok (.iload 5, 2) := by decide +kernel
theorem dX3_wrongPlace_28 : decode cX3_wrongPlace 28 = .ok (.iconst (-1), 1) := by decide +kernel
theorem dX3_wrongPlace_29 : decode cX3_wrongPlace 29 = .ok (.if_icmp .ne 6, 3) := by decide +kernel
theorem dX3_wrongPlace_32 : decode cX3_wrongPlace 32 = .ok (.iload 4, 2) := by decide +kernel
theorem dX3_wrongPlace_34 : decode cX3_wrongPlace 34 = .ok (.ireturn, 1) := by decide +kernel
theorem dX3_wrongPlace_35 : decode cX3_wrongPlace 35 = .ok (.iload_n 3, 1) := by decide +kernel
theorem dX3_wrongPlace_36 : decode cX3_wrongPlace 36 = .ok (.iload 5, 2) := by decide +kernel
theorem dX3_wrongPlace_38 : decode cX3_wrongPlace 38 = .ok (.invokestatic 15, 3) := by decide +kernel
theorem dX3_wrongPlace_41 : decode cX3_wrongPlace 41 = .ok (.iadd, 1) := by decide +kernel
theorem dX3_wrongPlace_42 : decode cX3_wrongPlace 42 = .ok (.istore_n 3, 1) := by decide +kernel
theorem dX3_wrongPlace_43 : decode cX3_wrongPlace 43 = .ok (.iinc 4 1, 3) := by decide +kernel
theorem dX3_wrongPlace_46 : decode cX3_wrongPlace 46 = .ok (.goto (-41), 3) := by decide +kernel
theorem dX3_wrongPlace_49 : decode cX3_wrongPlace 49 = .ok (.iconst (-1), 1) := by decide +kernel
theorem dX3_wrongPlace_50 : decode cX3_wrongPlace 50 = .ok (.ireturn, 1) := by decide +kernel
theorem dX3_pointAt_0 : decode cX3_pointAt 0 = .ok (.aload_n 0, 1) := by decide +kernel
theorem dX3_pointAt_1 : decode cX3_pointAt 1 = .ok (.iload_n 1, 1) := by decide +kernel
theorem dX3_pointAt_2 : decode cX3_pointAt 2 = .ok (.invokevirtual 19, 3) := by decide +kernel
theorem dX3_pointAt_5 : decode cX3_pointAt 5 = .ok (.istore_n 3, 1) := by decide +kernel
theorem dX3_pointAt_6 : decode cX3_pointAt 6 = .ok (.iload_n 3, 1) := by decide +kernel
theorem dX3_pointAt_7 : decode cX3_pointAt 7 = .ok (.invokestatic 24, 3) := by decide +kernel
theorem dX3_pointAt_10 : decode cX3_pointAt 10 = .ok (.istore 4, 2) := by decide +kernel
theorem dX3_pointAt_12 : decode cX3_pointAt 12 = .ok (.iload 4, 2) := by decide +kernel
theorem dX3_pointAt_14 : decode cX3_pointAt 14 = .ok (.ifCond .lt 11, 3) := by decide +kernel
theorem dX3_pointAt_17 : decode cX3_pointAt 17 = .ok (.iload_n 1, 1) := by decide +kernel
theorem dX3_pointAt_18 : decode cX3_pointAt 18 = .ok (.iload 4, 2) := by decide +kernel
theorem dX3_pointAt_20 : decode cX3_pointAt 20 = .ok (.iadd, 1) := by decide +kernel
theorem dX3_pointAt_21 : decode cX3_pointAt 21 = .ok (.iload_n 2, 1) := by decide +kernel
theorem dX3_pointAt_22 : decode cX3_pointAt 22 = .ok (.if_icmp .lt 5, 3) := by decide +kernel
theorem dX3_pointAt_25 : decode cX3_pointAt 25 = .ok (.iconst (-1), 1) := by decide +kernel
theorem dX3_pointAt_26 : decode cX3_pointAt 26 = .ok (.ireturn, 1) := by decide +kernel
theorem dX3_pointAt_27 : decode cX3_pointAt 27 = .ok (.iload 4, 2) := by decide +kernel
theorem dX3_pointAt_29 : decode cX3_pointAt 29 = .ok (.ifCond .ne 7, 3) := by decide +kernel
theorem dX3_pointAt_32 : decode cX3_pointAt 32 = .ok (.iload_n 3, 1) := by decide +kernel
theorem dX3_pointAt_33 : decode cX3_pointAt 33 = .ok (.goto 10, 3) := by decide +kernel
theorem dX3_pointAt_36 : decode cX3_pointAt 36 = .ok (.iload_n 3, 1) := by decide +kernel
theorem dX3_pointAt_37 : decode cX3_pointAt 37 = .ok (.bipush 63, 2) := by decide +kernel
theorem dX3_pointAt_39 : decode cX3_pointAt 39 = .ok (.iload 4, 2) := by decide +kernel
theorem dX3_pointAt_41 : decode cX3_pointAt 41 = .ok (.ishr, 1) := by decide +kernel
theorem dX3_pointAt_42 : decode cX3_pointAt 42 = .ok (.iand, 1) := by decide +kernel
theorem dX3_pointAt_43 : decode cX3_pointAt 43 = .ok (.istore 5, 2) := by decide +kernel
theorem dX3_pointAt_45 : decode cX3_pointAt 45 = .ok (.iconst 1, 1) := by decide +kernel
theorem dX3_pointAt_46 : decode cX3_pointAt 46 = .ok (.istore 6, 2) := by decide +kernel
theorem dX3_pointAt_48 : decode cX3_pointAt 48 = .ok (.iload 6, 2) := by decide +kernel
theorem dX3_pointAt_50 : decode cX3_pointAt 50 = .ok (.iload 4, 2) := by decide +kernel
theorem dX3_pointAt_52 : decode cX3_pointAt 52 = .ok (.if_icmp .gt 50, 3) := by decide +kernel
theorem dX3_pointAt_55 : decode cX3_pointAt 55 = .ok (.aload_n 0, 1) := by decide +kernel
theorem dX3_pointAt_56 : decode cX3_pointAt 56 = .ok (.iload_n 1, 1) := by decide +kernel
theorem dX3_pointAt_57 : decode cX3_pointAt 57 = .ok (.iload 6, 2) := by decide +kernel
theorem dX3_pointAt_59 : decode cX3_pointAt 59 = .ok (.iadd, 1) := by decide +kernel
theorem dX3_pointAt_60 : decode cX3_pointAt 60 = .ok (.invokevirtual 19, 3) := by decide +kernel
theorem dX3_pointAt_63 : decode cX3_pointAt 63 = .ok (.istore 7, 2) := by decide +kernel
theorem dX3_pointAt_65 : decode cX3_pointAt 65 = .ok (.iload 7, 2) := by decide +kernel
theorem dX3_pointAt_67 : decode cX3_pointAt 67 = .ok (.sipush 128, 3) := by decide +kernel
theorem dX3_pointAt_70 : decode cX3_pointAt 70 = .ok (.if_icmp .lt 11, 3) := by decide +kernel
theorem dX3_pointAt_73 : decode cX3_pointAt 73 = .ok (.iload 7, 2) := by decide +kernel
theorem dX3_pointAt_75 : decode cX3_pointAt 75 = .ok (.sipush 191, 3) := by decide +kernel
theorem dX3_pointAt_78 : decode cX3_pointAt 78 = .ok (.if_icmp .le 5, 3) := by decide +kernel
theorem dX3_pointAt_81 : decode cX3_pointAt 81 = .ok (.iconst (-1), 1) := by decide +kernel
theorem dX3_pointAt_82 : decode cX3_pointAt 82 = .ok (.ireturn, 1) := by decide +kernel
theorem dX3_pointAt_83 : decode cX3_pointAt 83 = .ok (.iload 5, 2) := by decide +kernel
theorem dX3_pointAt_85 : decode cX3_pointAt 85 = .ok (.bipush 6, 2) := by decide +kernel
theorem dX3_pointAt_87 : decode cX3_pointAt 87 = .ok (.ishl, 1) := by decide +kernel
theorem dX3_pointAt_88 : decode cX3_pointAt 88 = .ok (.iload 7, 2) := by decide +kernel
theorem dX3_pointAt_90 : decode cX3_pointAt 90 = .ok (.bipush 63, 2) := by decide +kernel
theorem dX3_pointAt_92 : decode cX3_pointAt 92 = .ok (.iand, 1) := by decide +kernel
theorem dX3_pointAt_93 : decode cX3_pointAt 93 = .ok (.ior, 1) := by decide +kernel
theorem dX3_pointAt_94 : decode cX3_pointAt 94 = .ok (.istore 5, 2) := by decide +kernel
theorem dX3_pointAt_96 : decode cX3_pointAt 96 = .ok (.iinc 6 1, 3) := by decide +kernel
theorem dX3_pointAt_99 : decode cX3_pointAt 99 = .ok (.goto (-51), 3) := by decide +kernel
theorem dX3_pointAt_102 : decode cX3_pointAt 102 = .ok (.iload 5, 2) := by decide +kernel
theorem dX3_pointAt_104 : decode cX3_pointAt 104 = .ok (.ldc 27, 2) := by decide +kernel
theorem dX3_pointAt_106 : decode cX3_pointAt 106 = .ok (.if_icmp .lt 14, 3) := by decide +kernel
theorem dX3_pointAt_109 : decode cX3_pointAt 109 = .ok (.iload 5, 2) := by decide +kernel
theorem dX3_pointAt_111 : decode cX3_pointAt 111 = .ok (.ldc 28, 2) := by decide +kernel
theorem dX3_pointAt_113 : decode cX3_pointAt 113 = .ok (.if_icmp .gt 7, 3) := by decide +kernel
theorem dX3_pointAt_116 : decode cX3_pointAt 116 = .ok (.iconst 1, 1) := by decide +kernel
theorem dX3_pointAt_117 : decode cX3_pointAt 117 = .ok (.goto 4, 3) := by decide +kernel
theorem dX3_pointAt_120 : decode cX3_pointAt 120 = .ok (.iconst 0, 1) := by decide +kernel
theorem dX3_pointAt_121 : decode cX3_pointAt 121 = .ok (.istore 6, 2) := by decide +kernel
theorem dX3_pointAt_123 : decode cX3_pointAt 123 = .ok (.iload 6, 2) := by decide +kernel
theorem dX3_pointAt_125 : decode cX3_pointAt 125 = .ok (.ifCond .ne 22, 3) := by decide +kernel
theorem dX3_pointAt_128 : decode cX3_pointAt 128 = .ok (.iload 5, 2) := by decide +kernel
theorem dX3_pointAt_130 : decode cX3_pointAt 130 = .ok (.ldc 29, 2) := by decide +kernel
theorem dX3_pointAt_132 : decode cX3_pointAt 132 = .ok (.if_icmp .gt 15, 3) := by decide +kernel
theorem dX3_pointAt_135 : decode cX3_pointAt 135 = .ok (.iload 5, 2) := by decide +kernel
theorem dX3_pointAt_137 : decode cX3_pointAt 137 = .ok (.invokestatic 15, 3) := by decide +kernel
theorem dX3_pointAt_140 : decode cX3_pointAt 140 = .ok (.iload 4, 2) := by decide +kernel
theorem dX3_pointAt_142 : decode cX3_pointAt 142 = .ok (.iconst 1, 1) := by decide +kernel
theorem dX3_pointAt_143 : decode cX3_pointAt 143 = .ok (.iadd, 1) := by decide +kernel
theorem dX3_pointAt_144 : decode cX3_pointAt 144 = .ok (.if_icmp .eq 5, 3) := by decide +kernel
theorem dX3_pointAt_147 : decode cX3_pointAt 147 = .ok (.iconst (-1), 1) := by decide +kernel
theorem dX3_pointAt_148 : decode cX3_pointAt 148 = .ok (.ireturn, 1) := by decide +kernel
theorem dX3_pointAt_149 : decode cX3_pointAt 149 = .ok (.iload 5, 2) := by decide +kernel
theorem dX3_pointAt_151 : decode cX3_pointAt 151 = .ok (.ireturn, 1) := by decide +kernel
theorem dX3_octetsOf_0 : decode cX3_octetsOf 0 = .ok (.iload_n 0, 1) := by decide +kernel
theorem dX3_octetsOf_1 : decode cX3_octetsOf 1 = .ok (.sipush 128, 3) := by decide +kernel
theorem dX3_octetsOf_4 : decode cX3_octetsOf 4 = .ok (.if_icmp .ge 5, 3) := by decide +kernel
theorem dX3_octetsOf_7 : decode cX3_octetsOf 7 = .ok (.iconst 1, 1) := by decide +kernel
theorem dX3_octetsOf_8 : decode cX3_octetsOf 8 = .ok (.ireturn, 1) := by decide +kernel
theorem dX3_octetsOf_9 : decode cX3_octetsOf 9 = .ok (.iload_n 0, 1) := by decide +kernel
theorem dX3_octetsOf_10 : decode cX3_octetsOf 10 = .ok (.sipush 2048, 3) := by decide +kernel
theorem dX3_octetsOf_13 : decode cX3_octetsOf 13 = .ok (.if_icmp .ge 5, 3) := by decide +kernel
theorem dX3_octetsOf_16 : decode cX3_octetsOf 16 = .ok (.iconst 2, 1) := by decide +kernel
theorem dX3_octetsOf_17 : decode cX3_octetsOf 17 = .ok (.ireturn, 1) := by decide +kernel
theorem dX3_octetsOf_18 : decode cX3_octetsOf 18 = .ok (.iload_n 0, 1) := by decide +kernel
theorem dX3_octetsOf_19 : decode cX3_octetsOf 19 = .ok (.ldc 30, 2) := by decide +kernel
theorem dX3_octetsOf_21 : decode cX3_octetsOf 21 = .ok (.if_icmp .ge 7, 3) := by decide +kernel
theorem dX3_octetsOf_24 : decode cX3_octetsOf 24 = .ok (.iconst 3, 1) := by decide +kernel
theorem dX3_octetsOf_25 : decode cX3_octetsOf 25 = .ok (.goto 4, 3) := by decide +kernel
theorem dX3_octetsOf_28 : decode cX3_octetsOf 28 = .ok (.iconst 4, 1) := by decide +kernel
theorem dX3_octetsOf_29 : decode cX3_octetsOf 29 = .ok (.ireturn, 1) := by decide +kernel
theorem dX3_octetsMore_0 : decode cX3_octetsMore 0 = .ok (.iload_n 0, 1) := by decide +kernel
theorem dX3_octetsMore_1 : decode cX3_octetsMore 1 = .ok (.ifCond .lt 11, 3) := by decide +kernel
theorem dX3_octetsMore_4 : decode cX3_octetsMore 4 = .ok (.iload_n 0, 1) := by decide +kernel
theorem dX3_octetsMore_5 : decode cX3_octetsMore 5 = .ok (.bipush 127, 2) := by decide +kernel
theorem dX3_octetsMore_7 : decode cX3_octetsMore 7 = .ok (.if_icmp .gt 5, 3) := by decide +kernel
theorem dX3_octetsMore_10 : decode cX3_octetsMore 10 = .ok (.iconst 0, 1) := by decide +kernel
theorem dX3_octetsMore_11 : decode cX3_octetsMore 11 = .ok (.ireturn, 1) := by decide +kernel
theorem dX3_octetsMore_12 : decode cX3_octetsMore 12 = .ok (.iload_n 0, 1) := by decide +kernel
theorem dX3_octetsMore_13 : decode cX3_octetsMore 13 = .ok (.sipush 194, 3) := by decide +kernel
theorem dX3_octetsMore_16 : decode cX3_octetsMore 16 = .ok (.if_icmp .lt 12, 3) := by decide +kernel
theorem dX3_octetsMore_19 : decode cX3_octetsMore 19 = .ok (.iload_n 0, 1) := by decide +kernel
theorem dX3_octetsMore_20 : decode cX3_octetsMore 20 = .ok (.sipush 223, 3) := by decide +kernel
theorem dX3_octetsMore_23 : decode cX3_octetsMore 23 = .ok (.if_icmp .gt 5, 3) := by decide +kernel
theorem dX3_octetsMore_26 : decode cX3_octetsMore 26 = .ok (.iconst 1, 1) := by decide +kernel
theorem dX3_octetsMore_27 : decode cX3_octetsMore 27 = .ok (.ireturn, 1) := by decide +kernel
theorem dX3_octetsMore_28 : decode cX3_octetsMore 28 = .ok (.iload_n 0, 1) := by decide +kernel
theorem dX3_octetsMore_29 : decode cX3_octetsMore 29 = .ok (.sipush 224, 3) := by decide +kernel
theorem dX3_octetsMore_32 : decode cX3_octetsMore 32 = .ok (.if_icmp .lt 12, 3) := by decide +kernel
theorem dX3_octetsMore_35 : decode cX3_octetsMore 35 = .ok (.iload_n 0, 1) := by decide +kernel
theorem dX3_octetsMore_36 : decode cX3_octetsMore 36 = .ok (.sipush 239, 3) := by decide +kernel
theorem dX3_octetsMore_39 : decode cX3_octetsMore 39 = .ok (.if_icmp .gt 5, 3) := by decide +kernel
theorem dX3_octetsMore_42 : decode cX3_octetsMore 42 = .ok (.iconst 2, 1) := by decide +kernel
theorem dX3_octetsMore_43 : decode cX3_octetsMore 43 = .ok (.ireturn, 1) := by decide +kernel
theorem dX3_octetsMore_44 : decode cX3_octetsMore 44 = .ok (.iload_n 0, 1) := by decide +kernel
theorem dX3_octetsMore_45 : decode cX3_octetsMore 45 = .ok (.sipush 240, 3) := by decide +kernel
theorem dX3_octetsMore_48 : decode cX3_octetsMore 48 = .ok (.if_icmp .lt 14, 3) := by decide +kernel
theorem dX3_octetsMore_51 : decode cX3_octetsMore 51 = .ok (.iload_n 0, 1) := by decide +kernel
theorem dX3_octetsMore_52 : decode cX3_octetsMore 52 = .ok (.sipush 244, 3) := by decide +kernel
theorem dX3_octetsMore_55 : decode cX3_octetsMore 55 = .ok (.if_icmp .gt 7, 3) := by decide +kernel
theorem dX3_octetsMore_58 : decode cX3_octetsMore 58 = .ok (.iconst 3, 1) := by decide +kernel
theorem dX3_octetsMore_59 : decode cX3_octetsMore 59 = .ok (.goto 4, 3) := by decide +kernel
theorem dX3_octetsMore_62 : decode cX3_octetsMore 62 = .ok (.iconst (-1), 1) := by decide +kernel
theorem dX3_octetsMore_63 : decode cX3_octetsMore 63 = .ok (.ireturn, 1) := by decide +kernel
theorem dX3_isDots_0 : decode cX3_isDots 0 = .ok (.iload_n 2, 1) := by decide +kernel
theorem dX3_isDots_1 : decode cX3_isDots 1 = .ok (.iload_n 1, 1) := by decide +kernel
theorem dX3_isDots_2 : decode cX3_isDots 2 = .ok (.isub, 1) := by decide +kernel
theorem dX3_isDots_3 : decode cX3_isDots 3 = .ok (.istore_n 3, 1) := by decide +kernel
theorem dX3_isDots_4 : decode cX3_isDots 4 = .ok (.iload_n 3, 1) := by decide +kernel
theorem dX3_isDots_5 : decode cX3_isDots 5 = .ok (.iconst 1, 1) := by decide +kernel
theorem dX3_isDots_6 : decode cX3_isDots 6 = .ok (.if_icmp .eq 8, 3) := by decide +kernel
theorem dX3_isDots_9 : decode cX3_isDots 9 = .ok (.iload_n 3, 1) := by decide +kernel
theorem dX3_isDots_10 : decode cX3_isDots 10 = .ok (.iconst 2, 1) := by decide +kernel
theorem dX3_isDots_11 : decode cX3_isDots 11 = .ok (.if_icmp .ne 29, 3) := by decide +kernel
theorem dX3_isDots_14 : decode cX3_isDots 14 = .ok (.aload_n 0, 1) := by decide +kernel
theorem dX3_isDots_15 : decode cX3_isDots 15 = .ok (.iload_n 1, 1) := by decide +kernel
theorem dX3_isDots_16 : decode cX3_isDots 16 = .ok (.invokevirtual 19, 3) := by decide +kernel
theorem dX3_isDots_19 : decode cX3_isDots 19 = .ok (.bipush 46, 2) := by decide +kernel
theorem dX3_isDots_21 : decode cX3_isDots 21 = .ok (.if_icmp .ne 19, 3) := by decide +kernel
theorem dX3_isDots_24 : decode cX3_isDots 24 = .ok (.aload_n 0, 1) := by decide +kernel
theorem dX3_isDots_25 : decode cX3_isDots 25 = .ok (.iload_n 2, 1) := by decide +kernel
theorem dX3_isDots_26 : decode cX3_isDots 26 = .ok (.iconst 1, 1) := by decide +kernel
theorem dX3_isDots_27 : decode cX3_isDots 27 = .ok (.isub, 1) := by decide +kernel
theorem dX3_isDots_28 : decode cX3_isDots 28 = .ok (.invokevirtual 19, 3) := by decide +kernel
theorem dX3_isDots_31 : decode cX3_isDots 31 = .ok (.bipush 46, 2) := by decide +kernel
theorem dX3_isDots_33 : decode cX3_isDots 33 = .ok (.if_icmp .ne 7, 3) := by decide +kernel
theorem dX3_isDots_36 : decode cX3_isDots 36 = .ok (.iconst 1, 1) := by decide +kernel
theorem dX3_isDots_37 : decode cX3_isDots 37 = .ok (.goto 4, 3) := by decide +kernel
theorem dX3_isDots_40 : decode cX3_isDots 40 = .ok (.iconst 0, 1) := by decide +kernel
theorem dX3_isDots_41 : decode cX3_isDots 41 = .ok (.ireturn, 1) := by decide +kernel
end
section
theorem dX4_init_0 : decode cX4_init 0 = .ok (.aload_n 0, 1) := by decide +kernel
theorem dX4_init_1 : decode cX4_init 1 = .ok (.invokespecial 1, 3) := by decide +kernel
theorem dX4_init_4 : decode cX4_init 4 = .ok (.aload_n 0, 1) := by decide +kernel
theorem dX4_init_5 : decode cX4_init 5 = .ok (.new 7, 3) := by decide +kernel
theorem dX4_init_8 : decode cX4_init 8 = .ok (.dup, 1) := by decide +kernel
theorem dX4_init_9 : decode cX4_init 9 = .ok (.sipush 200, 3) := by decide +kernel
theorem dX4_init_12 : decode cX4_init 12 = .ok (.invokespecial 11, 3) := by decide +kernel
theorem dX4_init_15 : decode cX4_init 15 = .ok (.putfield 14, 3) := by decide +kernel
theorem dX4_init_18 : decode cX4_init 18 = .ok (.aload_n 0, 1) := by decide +kernel
theorem dX4_init_19 : decode cX4_init 19 = .ok (.new 7, 3) := by decide +kernel
theorem dX4_init_22 : decode cX4_init 22 = .ok (.dup, 1) := by decide +kernel
theorem dX4_init_23 : decode cX4_init 23 = .ok (.sipush 200, 3) := by decide +kernel
theorem dX4_init_26 : decode cX4_init 26 = .ok (.invokespecial 11, 3) := by decide +kernel
theorem dX4_init_29 : decode cX4_init 29 = .ok (.putfield 18, 3) := by decide +kernel
theorem dX4_init_32 : decode cX4_init 32 = .ok (.aload_n 0, 1) := by decide +kernel
theorem dX4_init_33 : decode cX4_init 33 = .ok (.new 7, 3) := by decide +kernel
theorem dX4_init_36 : decode cX4_init 36 = .ok (.dup, 1) := by decide +kernel
theorem dX4_init_37 : decode cX4_init 37 = .ok (.bipush 60, 2) := by decide +kernel
theorem dX4_init_39 : decode cX4_init 39 = .ok (.invokespecial 11, 3) := by decide +kernel
theorem dX4_init_42 : decode cX4_init 42 = .ok (.putfield 21, 3) := by decide +kernel
theorem dX4_init_45 : decode cX4_init 45 = .ok (.aload_n 0, 1) := by decide +kernel
theorem dX4_init_46 : decode cX4_init 46 = .ok (.sipush 200, 3) := by decide +kernel
theorem dX4_init_49 : decode cX4_init 49 = .ok (.anewarray 24, 3) := by decide +kernel
theorem dX4_init_52 : decode cX4_init 52 = .ok (.putfield 26, 3) := by decide +kernel
theorem dX4_init_55 : decode cX4_init 55 = .ok (.new 24, 3) := by decide +kernel
theorem dX4_init_58 : decode cX4_init 58 = .ok (.dup, 1) := by decide +kernel
theorem dX4_init_59 : decode cX4_init 59 = .ok (.invokespecial 30, 3) := by decide +kernel
theorem dX4_init_62 : decode cX4_init 62 = .ok (.astore_n 1, 1) := by decide +kernel
theorem dX4_init_63 : decode cX4_init 63 = .ok (.aload_n 1, 1) := by decide +kernel
theorem dX4_init_64 : decode cX4_init 64 = .ok (.iconst 1, 1) := by decide +kernel
theorem dX4_init_65 : decode cX4_init 65 = .ok (.invokevirtual 31, 3) := by decide +kernel
theorem dX4_init_68 : decode cX4_init 68 = .ok (.aload_n 0, 1) := by decide +kernel
theorem dX4_init_69 : decode cX4_init 69 = .ok (.getfield 26, 3) := by decide +kernel
theorem dX4_init_72 : decode cX4_init 72 = .ok (.iconst 0, 1) := by decide +kernel
theorem dX4_init_73 : decode cX4_init 73 = .ok (.aload_n 1, 1) := by decide +kernel
theorem dX4_init_74 : decode cX4_init 74 = .ok (.aastore, 1) := by decide +kernel
theorem dX4_init_75 : decode cX4_init 75 = .ok (.aload_n 0, 1) := by decide +kernel
theorem dX4_init_76 : decode cX4_init 76 = .ok (.iconst 1, 1) := by decide +kernel
theorem dX4_init_77 : decode cX4_init 77 = .ok (.putfield 35, 3) := by decide +kernel
theorem dX4_init_80 : decode cX4_init 80 = .ok (.return_, 1) := by decide +kernel
theorem dX4_feed_0 : decode cX4_feed 0 = .ok (.iload_n 1, 1) := by decide +kernel
theorem dX4_feed_1 : decode cX4_feed 1 = .ok (.iconst 1, 1) := by decide +kernel
theorem dX4_feed_2 : decode cX4_feed 2 = .ok (.if_icmp .lt 9, 3) := by decide +kernel
theorem dX4_feed_5 : decode cX4_feed 5 = .ok (.iload_n 1, 1) := by decide +kernel
theorem dX4_feed_6 : decode cX4_feed 6 = .ok (.bipush 8, 2) := by decide +kernel
theorem dX4_feed_8 : decode cX4_feed 8 = .ok (.if_icmp .le 13, 3) := by decide +kernel
theorem dX4_feed_11 : decode cX4_feed 11 = .ok (.new 39, 3) := by decide +kernel
theorem dX4_feed_14 : decode cX4_feed 14 = .ok (.dup, 1) := by decide +kernel
theorem dX4_feed_15 : decode cX4_feed 15 = .ok (.ldc 41, 2) := by decide +kernel
theorem dX4_feed_17 : decode cX4_feed 17 = .ok (.invokespecial 43, 3) := by decide +kernel
theorem dX4_feed_20 : decode cX4_feed 20 = .ok (.athrow, 1) := by decide +kernel
theorem dX4_feed_21 : decode cX4_feed 21 = .ok (.aload_n 0, 1) := by decide +kernel
theorem dX4_feed_22 : decode cX4_feed 22 = .ok (.getfield 14, 3) := by decide +kernel
theorem dX4_feed_25 : decode cX4_feed 25 = .ok (.invokevirtual 46, 3) := by decide +kernel
theorem dX4_feed_28 : decode cX4_feed 28 = .ok (.iload_n 1, 1) := by decide +kernel
theorem dX4_feed_29 : decode cX4_feed 29 = .ok (.iadd, 1) := by decide +kernel
theorem dX4_feed_30 : decode cX4_feed 30 = .ok (.sipush 200, 3) := by decide +kernel
theorem dX4_feed_33 : decode cX4_feed 33 = .ok (.if_icmp .le 13, 3) := by decide +kernel
theorem dX4_feed_36 : decode cX4_feed 36 = .ok (.new 39, 3) := by decide +kernel
theorem dX4_feed_39 : decode cX4_feed 39 = .ok (.dup, 1) := by decide +kernel
theorem dX4_feed_40 : decode cX4_feed 40 = .ok (.ldc 50, 2) := by decide +kernel
theorem dX4_feed_42 : decode cX4_feed 42 = .ok (.invokespecial 43, 3) := by decide +kernel
theorem dX4_feed_45 : decode cX4_feed 45 = .ok (.athrow, 1) := by decide +kernel
theorem dX4_feed_46 : decode cX4_feed 46 = .ok (.iconst 0, 1) := by decide +kernel
theorem dX4_feed_47 : decode cX4_feed 47 = .ok (.istore 4, 2) := by decide +kernel
theorem dX4_feed_49 : decode cX4_feed 49 = .ok (.iload 4, 2) := by decide +kernel
theorem dX4_feed_51 : decode cX4_feed 51 = .ok (.iload_n 1, 1) := by decide +kernel
theorem dX4_feed_52 : decode cX4_feed 52 = .ok (.if_icmp .ge 28, 3) := by decide +kernel
theorem dX4_feed_55 : decode cX4_feed 55 = .ok (.aload_n 0, 1) := by decide +kernel
theorem dX4_feed_56 : decode cX4_feed 56 = .ok (.getfield 14, 3) := by decide +kernel
theorem dX4_feed_59 : decode cX4_feed 59 = .ok (.lload_n 2, 1) := by decide +kernel
theorem dX4_feed_60 : decode cX4_feed 60 = .ok (.bipush 8, 2) := by decide +kernel
theorem dX4_feed_62 : decode cX4_feed 62 = .ok (.iload 4, 2) := by decide +kernel
theorem dX4_feed_64 : decode cX4_feed 64 = .ok (.imul, 1) := by decide +kernel
theorem dX4_feed_65 : decode cX4_feed 65 = .ok (.lushr, 1) := by decide +kernel
theorem dX4_feed_66 : decode cX4_feed 66 = .ok (.l2i, 1) := by decide +kernel
theorem dX4_feed_67 : decode cX4_feed 67 = .ok (.sipush 255, 3) := by decide +kernel
theorem dX4_feed_70 : decode cX4_feed 70 = .ok (.iand, 1) := by decide +kernel
theorem dX4_feed_71 : decode cX4_feed 71 = .ok (.invokevirtual 52, 3) := by decide +kernel
theorem dX4_feed_74 : decode cX4_feed 74 = .ok (.iinc 4 1, 3) := by decide +kernel
theorem dX4_feed_77 : decode cX4_feed 77 = .ok (.goto (-28), 3) := by decide +kernel
theorem dX4_feed_80 : decode cX4_feed 80 = .ok (.aload_n 0, 1) := by decide +kernel
theorem dX4_feed_81 : decode cX4_feed 81 = .ok (.getfield 14, 3) := by decide +kernel
theorem dX4_feed_84 : decode cX4_feed 84 = .ok (.invokevirtual 46, 3) := by decide +kernel
theorem dX4_feed_87 : decode cX4_feed 87 = .ok (.ireturn, 1) := by decide +kernel
theorem dX4_check_0 : decode cX4_check 0 = .ok (.aload_n 0, 1) := by decide +kernel
theorem dX4_check_1 : decode cX4_check 1 = .ok (.getfield 14, 3) := by decide +kernel
theorem dX4_check_4 : decode cX4_check 4 = .ok (.iconst 0, 1) := by decide +kernel
theorem dX4_check_5 : decode cX4_check 5 = .ok (.aload_n 0, 1) := by decide +kernel
theorem dX4_check_6 : decode cX4_check 6 = .ok (.getfield 14, 3) := by decide +kernel
theorem dX4_check_9 : decode cX4_check 9 = .ok (.invokevirtual 46, 3) := by decide +kernel
theorem dX4_check_12 : decode cX4_check 12 = .ok (.invokestatic 55, 3) := by decide +kernel
theorem dX4_check_15 : decode cX4_check 15 = .ok (.istore_n 1, 1) := by decide +kernel
theorem dX4_check_16 : decode cX4_check 16 = .ok (.aload_n 0, 1) := by decide +kernel
theorem dX4_check_17 : decode cX4_check 17 = .ok (.getfield 14, 3) := by decide +kernel
theorem dX4_check_20 : decode cX4_check 20 = .ok (.invokevirtual 61, 3) := by decide +kernel
theorem dX4_check_23 : decode cX4_check 23 = .ok (.iload_n 1, 1) := by decide +kernel
theorem dX4_check_24 : decode cX4_check 24 = .ok (.ireturn, 1) := by decide +kernel
theorem dX4_fold_0 : decode cX4_fold 0 = .ok (.bipush (-2), 2) := by decide +kernel
theorem dX4_fold_2 : decode cX4_fold 2 = .ok (.istore_n 1, 1) := by decide +kernel
theorem dX4_fold_3 : decode cX4_fold 3 = .ok (.aload_n 0, 1) := by decide +kernel
theorem dX4_fold_4 : decode cX4_fold 4 = .ok (.getfield 14, 3) := by decide +kernel
theorem dX4_fold_7 : decode cX4_fold 7 = .ok (.iconst 0, 1) := by decide +kernel
theorem dX4_fold_8 : decode cX4_fold 8 = .ok (.aload_n 0, 1) := by decide +kernel
theorem dX4_fold_9 : decode cX4_fold 9 = .ok (.getfield 14, 3) := by decide +kernel
theorem dX4_fold_12 : decode cX4_fold 12 = .ok (.invokevirtual 46, 3) := by decide +kernel
theorem dX4_fold_15 : decode cX4_fold 15 = .ok (.invokestatic 55, 3) := by decide +kernel
theorem dX4_fold_18 : decode cX4_fold 18 = .ok (.iconst (-1), 1) := by decide +kernel
theorem dX4_fold_19 : decode cX4_fold 19 = .ok (.if_icmp .ne 30, 3) := by decide +kernel
theorem dX4_fold_22 : decode cX4_fold 22 = .ok (.aload_n 0, 1) := by decide +kernel
theorem dX4_fold_23 : decode cX4_fold 23 = .ok (.getfield 18, 3) := by decide +kernel
theorem dX4_fold_26 : decode cX4_fold 26 = .ok (.aload_n 0, 1) := by decide +kernel
theorem dX4_fold_27 : decode cX4_fold 27 = .ok (.getfield 14, 3) := by decide +kernel
theorem dX4_fold_30 : decode cX4_fold 30 = .ok (.iconst 0, 1) := by decide +kernel
theorem dX4_fold_31 : decode cX4_fold 31 = .ok (.aload_n 0, 1) := by decide +kernel
theorem dX4_fold_32 : decode cX4_fold 32 = .ok (.getfield 14, 3) := by decide +kernel
theorem dX4_fold_35 : decode cX4_fold 35 = .ok (.invokevirtual 46, 3) := by decide +kernel
theorem dX4_fold_38 : decode cX4_fold 38 = .ok (.invokestatic 64, 3) := by decide +kernel
theorem dX4_fold_41 : decode cX4_fold 41 = .ok (.aload_n 0, 1) := by decide +kernel
theorem dX4_fold_42 : decode cX4_fold 42 = .ok (.getfield 18, 3) := by decide +kernel
theorem dX4_fold_45 : decode cX4_fold 45 = .ok (.invokevirtual 46, 3) := by decide +kernel
theorem dX4_fold_48 : decode cX4_fold 48 = .ok (.istore_n 1, 1) := by decide +kernel
theorem dX4_fold_49 : decode cX4_fold 49 = .ok (.aload_n 0, 1) := by decide +kernel
theorem dX4_fold_50 : decode cX4_fold 50 = .ok (.getfield 14, 3) := by decide +kernel
theorem dX4_fold_53 : decode cX4_fold 53 = .ok (.invokevirtual 61, 3) := by decide +kernel
theorem dX4_fold_56 : decode cX4_fold 56 = .ok (.iload_n 1, 1) := by decide +kernel
theorem dX4_fold_57 : decode cX4_fold 57 = .ok (.ireturn, 1) := by decide +kernel
theorem dX4_folded_0 : decode cX4_folded 0 = .ok (.aload_n 0, 1) := by decide +kernel
theorem dX4_folded_1 : decode cX4_folded 1 = .ok (.getfield 18, 3) := by decide +kernel
theorem dX4_folded_4 : decode cX4_folded 4 = .ok (.iload_n 1, 1) := by decide +kernel
theorem dX4_folded_5 : decode cX4_folded 5 = .ok (.invokevirtual 70, 3) := by decide +kernel
theorem dX4_folded_8 : decode cX4_folded 8 = .ok (.ireturn, 1) := by decide +kernel
theorem dX4_put_0 : decode cX4_put 0 = .ok (.aload_n 0, 1) := by decide +kernel
theorem dX4_put_1 : decode cX4_put 1 = .ok (.iload_n 1, 1) := by decide +kernel
theorem dX4_put_2 : decode cX4_put 2 = .ok (.iload_n 2, 1) := by decide +kernel
theorem dX4_put_3 : decode cX4_put 3 = .ok (.invokevirtual 74, 3) := by decide +kernel
theorem dX4_put_6 : decode cX4_put 6 = .ok (.istore_n 3, 1) := by decide +kernel
theorem dX4_put_7 : decode cX4_put 7 = .ok (.aload_n 0, 1) := by decide +kernel
theorem dX4_put_8 : decode cX4_put 8 = .ok (.getfield 14, 3) := by decide +kernel
theorem dX4_put_11 : decode cX4_put 11 = .ok (.invokevirtual 61, 3) := by decide +kernel
theorem dX4_put_14 : decode cX4_put 14 = .ok (.iload_n 3, 1) := by decide +kernel
theorem dX4_put_15 : decode cX4_put 15 = .ok (.ireturn, 1) := by decide +kernel
theorem dX4_find_0 : decode cX4_find 0 = .ok (.aload_n 0, 1) := by decide +kernel
theorem dX4_find_1 : decode cX4_find 1 = .ok (.iload_n 1, 1) := by decide +kernel
theorem dX4_find_2 : decode cX4_find 2 = .ok (.invokevirtual 78, 3) := by decide +kernel
theorem dX4_find_5 : decode cX4_find 5 = .ok (.istore_n 2, 1) := by decide +kernel
theorem dX4_find_6 : decode cX4_find 6 = .ok (.aload_n 0, 1) := by decide +kernel
theorem dX4_find_7 : decode cX4_find 7 = .ok (.getfield 14, 3) := by decide +kernel
theorem dX4_find_10 : decode cX4_find 10 = .ok (.invokevirtual 61, 3) := by decide +kernel
theorem dX4_find_13 : decode cX4_find 13 = .ok (.iload_n 2, 1) := by decide +kernel
theorem dX4_find_14 : decode cX4_find 14 = .ok (.ireturn, 1) := by decide +kernel
theorem dX4_walk_0 : decode cX4_walk 0 = .ok (.aload_n 0, 1) := by decide +kernel
theorem dX4_walk_1 : decode cX4_walk 1 = .ok (.iload_n 1, 1) := by decide +kernel
theorem dX4_walk_2 : decode cX4_walk 2 = .ok (.invokevirtual 81, 3) := by decide +kernel
theorem dX4_walk_5 : decode cX4_walk 5 = .ok (.istore_n 2, 1) := by decide +kernel
theorem dX4_walk_6 : decode cX4_walk 6 = .ok (.aload_n 0, 1) := by decide +kernel
theorem dX4_walk_7 : decode cX4_walk 7 = .ok (.getfield 14, 3) := by decide +kernel
theorem dX4_walk_10 : decode cX4_walk 10 = .ok (.invokevirtual 61, 3) := by decide +kernel
theorem dX4_walk_13 : decode cX4_walk 13 = .ok (.iload_n 2, 1) := by decide +kernel
theorem dX4_walk_14 : decode cX4_walk 14 = .ok (.ireturn, 1) := by decide +kernel
theorem dX4_move_0 : decode cX4_move 0 = .ok (.aload_n 0, 1) := by decide +kernel
theorem dX4_move_1 : decode cX4_move 1 = .ok (.iload_n 1, 1) := by decide +kernel
theorem dX4_move_2 : decode cX4_move 2 = .ok (.iload_n 2, 1) := by decide +kernel
theorem dX4_move_3 : decode cX4_move 3 = .ok (.invokevirtual 84, 3) := by decide +kernel
theorem dX4_move_6 : decode cX4_move 6 = .ok (.istore_n 3, 1) := by decide +kernel
theorem dX4_move_7 : decode cX4_move 7 = .ok (.aload_n 0, 1) := by decide +kernel
theorem dX4_move_8 : decode cX4_move 8 = .ok (.getfield 14, 3) := by decide +kernel
theorem dX4_move_11 : decode cX4_move 11 = .ok (.invokevirtual 61, 3) := by decide +kernel
theorem dX4_move_14 : decode cX4_move 14 = .ok (.iload_n 3, 1) := by decide +kernel
theorem dX4_move_15 : decode cX4_move 15 = .ok (.ireturn, 1) := by decide +kernel
theorem dX4_remove_0 : decode cX4_remove 0 = .ok (.aload_n 0, 1) := by decide +kernel
theorem dX4_remove_1 : decode cX4_remove 1 = .ok (.iload_n 1, 1) := by decide +kernel
theorem dX4_remove_2 : decode cX4_remove 2 = .ok (.invokevirtual 88, 3) := by decide +kernel
theorem dX4_remove_5 : decode cX4_remove 5 = .ok (.astore_n 2, 1) := by decide +kernel
theorem dX4_remove_6 : decode cX4_remove 6 = .ok (.aload_n 2, 1) := by decide +kernel
theorem dX4_remove_7 : decode cX4_remove 7 = .ok (.ifnull 7, 3) := by decide +kernel
theorem dX4_remove_10 : decode cX4_remove 10 = .ok (.iload_n 1, 1) := by decide +kernel
theorem dX4_remove_11 : decode cX4_remove 11 = .ok (.ifCond .ne 6, 3) := by decide +kernel
theorem dX4_remove_14 : decode cX4_remove 14 = .ok (.bipush (-5), 2) := by decide +kernel
theorem dX4_remove_16 : decode cX4_remove 16 = .ok (.ireturn, 1) := by decide +kernel
theorem dX4_remove_17 : decode cX4_remove 17 = .ok (.aload_n 2, 1) := by decide +kernel
theorem dX4_remove_18 : decode cX4_remove 18 = .ok (.getfield 92, 3) := by decide +kernel
theorem dX4_remove_21 : decode cX4_remove 21 = .ok (.invokevirtual 46, 3) := by decide +kernel
theorem dX4_remove_24 : decode cX4_remove 24 = .ok (.ifCond .le 6, 3) := by decide +kernel
theorem dX4_remove_27 : decode cX4_remove 27 = .ok (.bipush (-6), 2) := by decide +kernel
theorem dX4_remove_29 : decode cX4_remove 29 = .ok (.ireturn, 1) := by decide +kernel
theorem dX4_remove_30 : decode cX4_remove 30 = .ok (.aload_n 0, 1) := by decide +kernel
theorem dX4_remove_31 : decode cX4_remove 31 = .ok (.iload_n 1, 1) := by decide +kernel
theorem dX4_remove_32 : decode cX4_remove 32 = .ok (.aload_n 2, 1) := by decide +kernel
theorem dX4_remove_33 : decode cX4_remove 33 = .ok (.getfield 95, 3) := by decide +kernel
theorem dX4_remove_36 : decode cX4_remove 36 = .ok (.invokevirtual 98, 3) := by decide +kernel
theorem dX4_remove_39 : decode cX4_remove 39 = .ok (.aload_n 2, 1) := by decide +kernel
theorem dX4_remove_40 : decode cX4_remove 40 = .ok (.iconst 0, 1) := by decide +kernel
theorem dX4_remove_41 : decode cX4_remove 41 = .ok (.putfield 102, 3) := by decide +kernel
theorem dX4_remove_44 : decode cX4_remove 44 = .ok (.aload_n 0, 1) := by decide +kernel
theorem dX4_remove_45 : decode cX4_remove 45 = .ok (.dup, 1) := by decide +kernel
theorem dX4_remove_46 : decode cX4_remove 46 = .ok (.getfield 35, 3) := by decide +kernel
theorem dX4_remove_49 : decode cX4_remove 49 = .ok (.iconst 1, 1) := by decide +kernel
theorem dX4_remove_50 : decode cX4_remove 50 = .ok (.isub, 1) := by decide +kernel
theorem dX4_remove_51 : decode cX4_remove 51 = .ok (.putfield 35, 3) := by decide +kernel
theorem dX4_remove_54 : decode cX4_remove 54 = .ok (.aload_n 2, 1) := by decide +kernel
theorem dX4_remove_55 : decode cX4_remove 55 = .ok (.getfield 95, 3) := by decide +kernel
theorem dX4_remove_58 : decode cX4_remove 58 = .ok (.ireturn, 1) := by decide +kernel
theorem dX4_about_0 : decode cX4_about 0 = .ok (.iload_n 2, 1) := by decide +kernel
theorem dX4_about_1 : decode cX4_about 1 = .ok (.ifCond .lt 8, 3) := by decide +kernel
theorem dX4_about_4 : decode cX4_about 4 = .ok (.iload_n 2, 1) := by decide +kernel
theorem dX4_about_5 : decode cX4_about 5 = .ok (.iconst 5, 1) := by decide +kernel
theorem dX4_about_6 : decode cX4_about 6 = .ok (.if_icmp .le 13, 3) := by decide +kernel
theorem dX4_about_9 : decode cX4_about 9 = .ok (.new 39, 3) := by decide +kernel
theorem dX4_about_12 : decode cX4_about 12 = .ok (.dup, 1) := by decide +kernel
theorem dX4_about_13 : decode cX4_about 13 = .ok (.ldc 106, 2) := by decide +kernel
theorem dX4_about_15 : decode cX4_about 15 = .ok (.invokespecial 43, 3) := by decide +kernel
theorem dX4_about_18 : decode cX4_about 18 = .ok (.athrow, 1) := by decide +kernel
theorem dX4_about_19 : decode cX4_about 19 = .ok (.aload_n 0, 1) := by decide +kernel
theorem dX4_about_20 : decode cX4_about 20 = .ok (.iload_n 1, 1) := by decide +kernel
theorem dX4_about_21 : decode cX4_about 21 = .ok (.invokevirtual 88, 3) := by decide +kernel
theorem dX4_about_24 : decode cX4_about 24 = .ok (.astore_n 3, 1) := by decide +kernel
theorem dX4_about_25 : decode cX4_about 25 = .ok (.aload_n 3, 1) := by decide +kernel
theorem dX4_about_26 : decode cX4_about 26 = .ok (.ifnonnull 6, 3) := by decide +kernel
theorem dX4_about_29 : decode cX4_about 29 = .ok (.bipush (-5), 2) := by decide +kernel
theorem dX4_about_31 : decode cX4_about 31 = .ok (.ireturn, 1) := by decide +kernel
theorem dX4_about_32 : decode cX4_about 32 = .ok (.iload_n 2, 1) := by decide +kernel
theorem dX4_about_33 : decode cX4_about 33 = .ok (.tableswitch 77 0 4 #[35, 48, 53, 61, 69], 35) := by decide +kernel
theorem dX4_about_68 : decode cX4_about 68 = .ok (.aload_n 3, 1) := by decide +kernel
theorem dX4_about_69 : decode cX4_about 69 = .ok (.getfield 108, 3) := by decide +kernel
theorem dX4_about_72 : decode cX4_about 72 = .ok (.ifCond .eq 7, 3) := by decide +kernel
theorem dX4_about_75 : decode cX4_about 75 = .ok (.iconst 1, 1) := by decide +kernel
theorem dX4_about_76 : decode cX4_about 76 = .ok (.goto 4, 3) := by decide +kernel
theorem dX4_about_79 : decode cX4_about 79 = .ok (.iconst 0, 1) := by decide +kernel
theorem dX4_about_80 : decode cX4_about 80 = .ok (.ireturn, 1) := by decide +kernel
theorem dX4_about_81 : decode cX4_about 81 = .ok (.aload_n 3, 1) := by decide +kernel
theorem dX4_about_82 : decode cX4_about 82 = .ok (.getfield 95, 3) := by decide +kernel
theorem dX4_about_85 : decode cX4_about 85 = .ok (.ireturn, 1) := by decide +kernel
theorem dX4_about_86 : decode cX4_about 86 = .ok (.aload_n 3, 1) := by decide +kernel
theorem dX4_about_87 : decode cX4_about 87 = .ok (.getfield 92, 3) := by decide +kernel
theorem dX4_about_90 : decode cX4_about 90 = .ok (.invokevirtual 46, 3) := by decide +kernel
theorem dX4_about_93 : decode cX4_about 93 = .ok (.ireturn, 1) := by decide +kernel
theorem dX4_about_94 : decode cX4_about 94 = .ok (.aload_n 3, 1) := by decide +kernel
theorem dX4_about_95 : decode cX4_about 95 = .ok (.getfield 111, 3) := by decide +kernel
theorem dX4_about_98 : decode cX4_about 98 = .ok (.invokevirtual 46, 3) := by decide +kernel
theorem dX4_about_101 : decode cX4_about 101 = .ok (.ireturn, 1) := by decide +kernel
theorem dX4_about_102 : decode cX4_about 102 = .ok (.aload_n 3, 1) := by decide +kernel
theorem dX4_about_103 : decode cX4_about 103 = .ok (.getfield 114, 3) := by decide +kernel
theorem dX4_about_106 : decode cX4_about 106 = .ok (.invokevirtual 46, 3) := by decide +kernel
theorem dX4_about_109 : decode cX4_about 109 = .ok (.ireturn, 1) := by decide +kernel
theorem dX4_about_110 : decode cX4_about 110 = .ok (.aload_n 0, 1) := by decide +kernel
theorem dX4_about_111 : decode cX4_about 111 = .ok (.iload_n 1, 1) := by decide +kernel
theorem dX4_about_112 : decode cX4_about 112 = .ok (.invokevirtual 117, 3) := by decide +kernel
theorem dX4_about_115 : decode cX4_about 115 = .ok (.ireturn, 1) := by decide +kernel
theorem dX4_entry_0 : decode cX4_entry 0 = .ok (.aload_n 0, 1) := by decide +kernel
theorem dX4_entry_1 : decode cX4_entry 1 = .ok (.iload_n 1, 1) := by decide +kernel
theorem dX4_entry_2 : decode cX4_entry 2 = .ok (.invokevirtual 120, 3) := by decide +kernel
theorem dX4_entry_5 : decode cX4_entry 5 = .ok (.astore_n 3, 1) := by decide +kernel
theorem dX4_entry_6 : decode cX4_entry 6 = .ok (.aload_n 3, 1) := by decide +kernel
theorem dX4_entry_7 : decode cX4_entry 7 = .ok (.ifnonnull 8, 3) := by decide +kernel
theorem dX4_entry_10 : decode cX4_entry 10 = .ok (.bipush (-5), 2) := by decide +kernel
theorem dX4_entry_12 : decode cX4_entry 12 = .ok (.goto 11, 3) := by decide +kernel
theorem dX4_entry_15 : decode cX4_entry 15 = .ok (.aload_n 3, 1) := by decide +kernel
theorem dX4_entry_16 : decode cX4_entry 16 = .ok (.getfield 92, 3) := by decide +kernel
theorem dX4_entry_19 : decode cX4_entry 19 = .ok (.iload_n 2, 1) := by decide +kernel
theorem dX4_entry_20 : decode cX4_entry 20 = .ok (.invokevirtual 70, 3) := by decide +kernel
theorem dX4_entry_23 : decode cX4_entry 23 = .ok (.ireturn, 1) := by decide +kernel
theorem dX4_sorted_0 : decode cX4_sorted 0 = .ok (.aload_n 0, 1) := by decide +kernel
theorem dX4_sorted_1 : decode cX4_sorted 1 = .ok (.iload_n 1, 1) := by decide +kernel
theorem dX4_sorted_2 : decode cX4_sorted 2 = .ok (.invokevirtual 120, 3) := by decide +kernel
theorem dX4_sorted_5 : decode cX4_sorted 5 = .ok (.astore_n 3, 1) := by decide +kernel
theorem dX4_sorted_6 : decode cX4_sorted 6 = .ok (.aload_n 3, 1) := by decide +kernel
theorem dX4_sorted_7 : decode cX4_sorted 7 = .ok (.ifnonnull 8, 3) := by decide +kernel
theorem dX4_sorted_10 : decode cX4_sorted 10 = .ok (.bipush (-5), 2) := by decide +kernel
theorem dX4_sorted_12 : decode cX4_sorted 12 = .ok (.goto 11, 3) := by decide +kernel
theorem dX4_sorted_15 : decode cX4_sorted 15 = .ok (.aload_n 3, 1) := by decide +kernel
theorem dX4_sorted_16 : decode cX4_sorted 16 = .ok (.getfield 123, 3) := by decide +kernel
theorem dX4_sorted_19 : decode cX4_sorted 19 = .ok (.iload_n 2, 1) := by decide +kernel
theorem dX4_sorted_20 : decode cX4_sorted 20 = .ok (.invokevirtual 70, 3) := by decide +kernel
theorem dX4_sorted_23 : decode cX4_sorted 23 = .ok (.ireturn, 1) := by decide +kernel
theorem dX4_letter_0 : decode cX4_letter 0 = .ok (.iload_n 2, 1) := by decide +kernel
theorem dX4_letter_1 : decode cX4_letter 1 = .ok (.ifCond .eq 18, 3) := by decide +kernel
theorem dX4_letter_4 : decode cX4_letter 4 = .ok (.iload_n 2, 1) := by decide +kernel
theorem dX4_letter_5 : decode cX4_letter 5 = .ok (.iconst 1, 1) := by decide +kernel
theorem dX4_letter_6 : decode cX4_letter 6 = .ok (.if_icmp .eq 13, 3) := by decide +kernel
theorem dX4_letter_9 : decode cX4_letter 9 = .ok (.new 39, 3) := by decide +kernel
theorem dX4_letter_12 : decode cX4_letter 12 = .ok (.dup, 1) := by decide +kernel
theorem dX4_letter_13 : decode cX4_letter 13 = .ok (.ldc 126, 2) := by decide +kernel
theorem dX4_letter_15 : decode cX4_letter 15 = .ok (.invokespecial 43, 3) := by decide +kernel
theorem dX4_letter_18 : decode cX4_letter 18 = .ok (.athrow, 1) := by decide +kernel
theorem dX4_letter_19 : decode cX4_letter 19 = .ok (.aload_n 0, 1) := by decide +kernel
theorem dX4_letter_20 : decode cX4_letter 20 = .ok (.iload_n 1, 1) := by decide +kernel
theorem dX4_letter_21 : decode cX4_letter 21 = .ok (.invokevirtual 88, 3) := by decide +kernel
theorem dX4_letter_24 : decode cX4_letter 24 = .ok (.astore 4, 2) := by decide +kernel
theorem dX4_letter_26 : decode cX4_letter 26 = .ok (.aload 4, 2) := by decide +kernel
theorem dX4_letter_28 : decode cX4_letter 28 = .ok (.ifnonnull 6, 3) := by decide +kernel
theorem dX4_letter_31 : decode cX4_letter 31 = .ok (.bipush (-5), 2) := by decide +kernel
theorem dX4_letter_33 : decode cX4_letter 33 = .ok (.ireturn, 1) := by decide +kernel
theorem dX4_letter_34 : decode cX4_letter 34 = .ok (.iload_n 2, 1) := by decide +kernel
theorem dX4_letter_35 : decode cX4_letter 35 = .ok (.ifCond .ne 15, 3) := by decide +kernel
theorem dX4_letter_38 : decode cX4_letter 38 = .ok (.aload 4, 2) := by decide +kernel
theorem dX4_letter_40 : decode cX4_letter 40 = .ok (.getfield 111, 3) := by decide +kernel
theorem dX4_letter_43 : decode cX4_letter 43 = .ok (.iload_n 3, 1) := by decide +kernel
theorem dX4_letter_44 : decode cX4_letter 44 = .ok (.invokevirtual 70, 3) := by decide +kernel
theorem dX4_letter_47 : decode cX4_letter 47 = .ok (.goto 12, 3) := by decide +kernel
theorem dX4_letter_50 : decode cX4_letter 50 = .ok (.aload 4, 2) := by decide +kernel
theorem dX4_letter_52 : decode cX4_letter 52 = .ok (.getfield 114, 3) := by decide +kernel
theorem dX4_letter_55 : decode cX4_letter 55 = .ok (.iload_n 3, 1) := by decide +kernel
theorem dX4_letter_56 : decode cX4_letter 56 = .ok (.invokevirtual 70, 3) := by decide +kernel
theorem dX4_letter_59 : decode cX4_letter 59 = .ok (.ireturn, 1) := by decide +kernel
theorem dX4_nodes_0 : decode cX4_nodes 0 = .ok (.aload_n 0, 1) := by decide +kernel
theorem dX4_nodes_1 : decode cX4_nodes 1 = .ok (.getfield 35, 3) := by decide +kernel
theorem dX4_nodes_4 : decode cX4_nodes 4 = .ok (.ireturn, 1) := by decide +kernel
theorem dX4_putFromTape_0 : decode cX4_putFromTape 0 = .ok (.aload_n 0, 1) := by decide +kernel
theorem dX4_putFromTape_1 : decode cX4_putFromTape 1 = .ok (.iload_n 1, 1) := by decide +kernel
theorem dX4_putFromTape_2 : decode cX4_putFromTape 2 = .ok (.invokevirtual 120, 3) := by decide +kernel
theorem dX4_putFromTape_5 : decode cX4_putFromTape 5 = .ok (.astore_n 3, 1) := by decide +kernel
theorem dX4_putFromTape_6 : decode cX4_putFromTape 6 = .ok (.aload_n 3, 1) := by decide +kernel
theorem dX4_putFromTape_7 : decode cX4_putFromTape 7 = .ok (.ifnonnull 6, 3) := by decide +kernel
theorem dX4_putFromTape_10 : decode cX4_putFromTape 10 = .ok (.bipush (-5), 2) := by decide +kernel
theorem dX4_putFromTape_12 : decode cX4_putFromTape 12 = .ok (.ireturn, 1) := by decide +kernel
theorem dX4_putFromTape_13 : decode cX4_putFromTape 13 = .ok (.aload_n 0, 1) := by decide +kernel
theorem dX4_putFromTape_14 : decode cX4_putFromTape 14 = .ok (.iconst 0, 1) := by decide +kernel
theorem dX4_putFromTape_15 : decode cX4_putFromTape 15 = .ok (.aload_n 0, 1) := by decide +kernel
theorem dX4_putFromTape_16 : decode cX4_putFromTape 16 = .ok (.getfield 14, 3) := by decide +kernel
theorem dX4_putFromTape_19 : decode cX4_putFromTape 19 = .ok (.invokevirtual 46, 3) := by decide +kernel
theorem dX4_putFromTape_22 : decode cX4_putFromTape 22 = .ok (.invokevirtual 128, 3) := by decide +kernel
theorem dX4_putFromTape_25 : decode cX4_putFromTape 25 = .ok (.ifCond .ne 6, 3) := by decide +kernel
theorem dX4_putFromTape_28 : decode cX4_putFromTape 28 = .ok (.bipush (-2), 2) := by decide +kernel
theorem dX4_putFromTape_30 : decode cX4_putFromTape 30 = .ok (.ireturn, 1) := by decide +kernel
theorem dX4_putFromTape_31 : decode cX4_putFromTape 31 = .ok (.aload_n 0, 1) := by decide +kernel
theorem dX4_putFromTape_32 : decode cX4_putFromTape 32 = .ok (.aload_n 3, 1) := by decide +kernel
theorem dX4_putFromTape_33 : decode cX4_putFromTape 33 = .ok (.invokevirtual 132, 3) := by decide +kernel
theorem dX4_putFromTape_36 : decode cX4_putFromTape 36 = .ok (.iconst (-1), 1) := by decide +kernel
theorem dX4_putFromTape_37 : decode cX4_putFromTape 37 = .ok (.if_icmp .eq 6, 3) := by decide +kernel
theorem dX4_putFromTape_40 : decode cX4_putFromTape 40 = .ok (.bipush (-3), 2) := by decide +kernel
theorem dX4_putFromTape_42 : decode cX4_putFromTape 42 = .ok (.ireturn, 1) := by decide +kernel
theorem dX4_putFromTape_43 : decode cX4_putFromTape 43 = .ok (.aload_n 0, 1) := by decide +kernel
theorem dX4_putFromTape_44 : decode cX4_putFromTape 44 = .ok (.invokevirtual 136, 3) := by decide +kernel
theorem dX4_putFromTape_47 : decode cX4_putFromTape 47 = .ok (.istore 4, 2) := by decide +kernel
theorem dX4_putFromTape_49 : decode cX4_putFromTape 49 = .ok (.iload 4, 2) := by decide +kernel
theorem dX4_putFromTape_51 : decode cX4_putFromTape 51 = .ok (.iconst (-1), 1) := by decide +kernel
theorem dX4_putFromTape_52 : decode cX4_putFromTape 52 = .ok (.if_icmp .eq 15, 3) := by decide +kernel
theorem dX4_putFromTape_55 : decode cX4_putFromTape 55 = .ok (.aload_n 3, 1) := by decide +kernel
theorem dX4_putFromTape_56 : decode cX4_putFromTape 56 = .ok (.getfield 92, 3) := by decide +kernel
theorem dX4_putFromTape_59 : decode cX4_putFromTape 59 = .ok (.invokevirtual 46, 3) := by decide +kernel
theorem dX4_putFromTape_62 : decode cX4_putFromTape 62 = .ok (.bipush 40, 2) := by decide +kernel
theorem dX4_putFromTape_64 : decode cX4_putFromTape 64 = .ok (.if_icmp .lt 6, 3) := by decide +kernel
theorem dX4_putFromTape_67 : decode cX4_putFromTape 67 = .ok (.bipush (-4), 2) := by decide +kernel
theorem dX4_putFromTape_69 : decode cX4_putFromTape 69 = .ok (.ireturn, 1) := by decide +kernel
theorem dX4_putFromTape_70 : decode cX4_putFromTape 70 = .ok (.aload_n 0, 1) := by decide +kernel
theorem dX4_putFromTape_71 : decode cX4_putFromTape 71 = .ok (.getfield 26, 3) := by decide +kernel
theorem dX4_putFromTape_74 : decode cX4_putFromTape 74 = .ok (.iload 4, 2) := by decide +kernel
theorem dX4_putFromTape_76 : decode cX4_putFromTape 76 = .ok (.aaload, 1) := by decide +kernel
theorem dX4_putFromTape_77 : decode cX4_putFromTape 77 = .ok (.astore 5, 2) := by decide +kernel
theorem dX4_putFromTape_79 : decode cX4_putFromTape 79 = .ok (.aload 5, 2) := by decide +kernel
theorem dX4_putFromTape_81 : decode cX4_putFromTape 81 = .ok (.ifnonnull 21, 3) := by decide +kernel
theorem dX4_putFromTape_84 : decode cX4_putFromTape 84 = .ok (.new 24, 3) := by decide +kernel
theorem dX4_putFromTape_87 : decode cX4_putFromTape 87 = .ok (.dup, 1) := by decide +kernel
theorem dX4_putFromTape_88 : decode cX4_putFromTape 88 = .ok (.invokespecial 30, 3) := by decide +kernel
theorem dX4_putFromTape_91 : decode cX4_putFromTape 91 = .ok (.astore 5, 2) := by decide +kernel
theorem dX4_putFromTape_93 : decode cX4_putFromTape 93 = .ok (.aload_n 0, 1) := by decide +kernel
theorem dX4_putFromTape_94 : decode cX4_putFromTape 94 = .ok (.getfield 26, 3) := by decide +kernel
theorem dX4_putFromTape_97 : decode cX4_putFromTape 97 = .ok (.iload 4, 2) := by decide +kernel
theorem dX4_putFromTape_99 : decode cX4_putFromTape 99 = .ok (.aload 5, 2) := by decide +kernel
theorem dX4_putFromTape_101 : decode cX4_putFromTape 101 = .ok (.aastore, 1) := by decide +kernel
theorem dX4_putFromTape_102 : decode cX4_putFromTape 102 = .ok (.aload 5, 2) := by decide +kernel
theorem dX4_putFromTape_104 : decode cX4_putFromTape 104 = .ok (.iload_n 2, 1) := by decide +kernel
theorem dX4_putFromTape_105 : decode cX4_putFromTape 105 = .ok (.invokevirtual 31, 3) := by decide +kernel
theorem dX4_putFromTape_108 : decode cX4_putFromTape 108 = .ok (.aload 5, 2) := by decide +kernel
theorem dX4_putFromTape_110 : decode cX4_putFromTape 110 = .ok (.aload_n 0, 1) := by decide +kernel
theorem dX4_putFromTape_111 : decode cX4_putFromTape 111 = .ok (.getfield 14, 3) := by decide +kernel
theorem dX4_putFromTape_114 : decode cX4_putFromTape 114 = .ok (.aload_n 0, 1) := by decide +kernel
theorem dX4_putFromTape_115 : decode cX4_putFromTape 115 = .ok (.getfield 21, 3) := by decide +kernel
theorem dX4_putFromTape_118 : decode cX4_putFromTape 118 = .ok (.invokevirtual 139, 3) := by decide +kernel
theorem dX4_putFromTape_121 : decode cX4_putFromTape 121 = .ok (.aload_n 0, 1) := by decide +kernel
theorem dX4_putFromTape_122 : decode cX4_putFromTape 122 = .ok (.iload 4, 2) := by decide +kernel
theorem dX4_putFromTape_124 : decode cX4_putFromTape 124 = .ok (.aload 5, 2) := by decide +kernel
theorem dX4_putFromTape_126 : decode cX4_putFromTape 126 = .ok (.iload_n 1, 1) := by decide +kernel
theorem dX4_putFromTape_127 : decode cX4_putFromTape 127 = .ok (.aload_n 3, 1) := by decide +kernel
theorem dX4_putFromTape_128 : decode cX4_putFromTape 128 = .ok (.invokevirtual 143, 3) := by decide +kernel
theorem dX4_putFromTape_131 : decode cX4_putFromTape 131 = .ok (.aload_n 0, 1) := by decide +kernel
theorem dX4_putFromTape_132 : decode cX4_putFromTape 132 = .ok (.dup, 1) := by decide +kernel
theorem dX4_putFromTape_133 : decode cX4_putFromTape 133 = .ok (.getfield 35, 3) := by decide +kernel
theorem dX4_putFromTape_136 : decode cX4_putFromTape 136 = .ok (.iconst 1, 1) := by decide +kernel
theorem dX4_putFromTape_137 : decode cX4_putFromTape 137 = .ok (.iadd, 1) := by decide +kernel
theorem dX4_putFromTape_138 : decode cX4_putFromTape 138 = .ok (.putfield 35, 3) := by decide +kernel
theorem dX4_putFromTape_141 : decode cX4_putFromTape 141 = .ok (.iload 4, 2) := by decide +kernel
theorem dX4_putFromTape_143 : decode cX4_putFromTape 143 = .ok (.ireturn, 1) := by decide +kernel
theorem dX4_findFromTape_0 : decode cX4_findFromTape 0 = .ok (.aload_n 0, 1) := by decide +kernel
theorem dX4_findFromTape_1 : decode cX4_findFromTape 1 = .ok (.iload_n 1, 1) := by decide +kernel
theorem dX4_findFromTape_2 : decode cX4_findFromTape 2 = .ok (.invokevirtual 120, 3) := by decide +kernel
theorem dX4_findFromTape_5 : decode cX4_findFromTape 5 = .ok (.astore_n 2, 1) := by decide +kernel
theorem dX4_findFromTape_6 : decode cX4_findFromTape 6 = .ok (.aload_n 2, 1) := by decide +kernel
theorem dX4_findFromTape_7 : decode cX4_findFromTape 7 = .ok (.ifnonnull 6, 3) := by decide +kernel
theorem dX4_findFromTape_10 : decode cX4_findFromTape 10 = .ok (.bipush (-5), 2) := by decide +kernel
theorem dX4_findFromTape_12 : decode cX4_findFromTape 12 = .ok (.ireturn, 1) := by decide +kernel
theorem dX4_findFromTape_13 : decode cX4_findFromTape 13 = .ok (.aload_n 0, 1) := by decide +kernel
theorem dX4_findFromTape_14 : decode cX4_findFromTape 14 = .ok (.iconst 0, 1) := by decide +kernel
theorem dX4_findFromTape_15 : decode cX4_findFromTape 15 = .ok (.aload_n 0, 1) := by decide +kernel
theorem dX4_findFromTape_16 : decode cX4_findFromTape 16 = .ok (.getfield 14, 3) := by decide +kernel
theorem dX4_findFromTape_19 : decode cX4_findFromTape 19 = .ok (.invokevirtual 46, 3) := by decide +kernel
theorem dX4_findFromTape_22 : decode cX4_findFromTape 22 = .ok (.invokevirtual 128, 3) := by decide +kernel
theorem dX4_findFromTape_25 : decode cX4_findFromTape 25 = .ok (.ifCond .eq 11, 3) := by decide +kernel
theorem dX4_findFromTape_28 : decode cX4_findFromTape 28 = .ok (.aload_n 0, 1) := by decide +kernel
theorem dX4_findFromTape_29 : decode cX4_findFromTape 29 = .ok (.aload_n 2, 1) := by decide +kernel
theorem dX4_findFromTape_30 : decode cX4_findFromTape 30 = .ok (.invokevirtual 132, 3) := by decide +kernel
theorem dX4_findFromTape_33 : decode cX4_findFromTape 33 = .ok (.goto 5, 3) := by decide +kernel
theorem dX4_findFromTape_36 : decode cX4_findFromTape 36 = .ok (.bipush (-2), 2) := by decide +kernel
theorem dX4_findFromTape_38 : decode cX4_findFromTape 38 = .ok (.ireturn, 1) := by decide +kernel
theorem dX4_walkFromTape_0 : decode cX4_walkFromTape 0 = .ok (.aload_n 0, 1) := by decide +kernel
theorem dX4_walkFromTape_1 : decode cX4_walkFromTape 1 = .ok (.iload_n 1, 1) := by decide +kernel
theorem dX4_walkFromTape_2 : decode cX4_walkFromTape 2 = .ok (.invokevirtual 88, 3) := by decide +kernel
theorem dX4_walkFromTape_5 : decode cX4_walkFromTape 5 = .ok (.ifnonnull 6, 3) := by decide +kernel
theorem dX4_walkFromTape_8 : decode cX4_walkFromTape 8 = .ok (.bipush (-5), 2) := by decide +kernel
theorem dX4_walkFromTape_10 : decode cX4_walkFromTape 10 = .ok (.ireturn, 1) := by decide +kernel
theorem dX4_walkFromTape_11 : decode cX4_walkFromTape 11 = .ok (.aload_n 0, 1) := by decide +kernel
theorem dX4_walkFromTape_12 : decode cX4_walkFromTape 12 = .ok (.getfield 14, 3) := by decide +kernel
theorem dX4_walkFromTape_15 : decode cX4_walkFromTape 15 = .ok (.iconst 0, 1) := by decide +kernel
theorem dX4_walkFromTape_16 : decode cX4_walkFromTape 16 = .ok (.invokevirtual 70, 3) := by decide +kernel
theorem dX4_walkFromTape_19 : decode cX4_walkFromTape 19 = .ok (.bipush 47, 2) := by decide +kernel
theorem dX4_walkFromTape_21 : decode cX4_walkFromTape 21 = .ok (.if_icmp .ne 7, 3) := by decide +kernel
theorem dX4_walkFromTape_24 : decode cX4_walkFromTape 24 = .ok (.iconst 0, 1) := by decide +kernel
theorem dX4_walkFromTape_25 : decode cX4_walkFromTape 25 = .ok (.goto 4, 3) := by decide +kernel
theorem dX4_walkFromTape_28 : decode cX4_walkFromTape 28 = .ok (.iload_n 1, 1) := by decide +kernel
theorem dX4_walkFromTape_29 : decode cX4_walkFromTape 29 = .ok (.istore_n 2, 1) := by decide +kernel
theorem dX4_walkFromTape_30 : decode cX4_walkFromTape 30 = .ok (.iconst 0, 1) := by decide +kernel
theorem dX4_walkFromTape_31 : decode cX4_walkFromTape 31 = .ok (.istore_n 3, 1) := by decide +kernel
theorem dX4_walkFromTape_32 : decode cX4_walkFromTape 32 = .ok (.iconst 0, 1) := by decide +kernel
theorem dX4_walkFromTape_33 : decode cX4_walkFromTape 33 = .ok (.istore 4, 2) := by decide +kernel
theorem dX4_walkFromTape_35 : decode cX4_walkFromTape 35 = .ok (.iload 4, 2) := by decide +kernel
theorem dX4_walkFromTape_37 : decode cX4_walkFromTape 37 = .ok (.aload_n 0, 1) := by decide +kernel
theorem dX4_walkFromTape_38 : decode cX4_walkFromTape 38 = .ok (.getfield 14, 3) := by decide +kernel
theorem dX4_walkFromTape_41 : decode cX4_walkFromTape 41 = .ok (.invokevirtual 46, 3) := by decide +kernel
theorem dX4_walkFromTape_44 : decode cX4_walkFromTape 44 = .ok (.if_icmp .gt 78, 3) := by decide +kernel
theorem dX4_walkFromTape_47 : decode cX4_walkFromTape 47 = .ok (.iload 4, 2) := by decide +kernel
theorem dX4_walkFromTape_49 : decode cX4_walkFromTape 49 = .ok (.aload_n 0, 1) := by decide +kernel
theorem dX4_walkFromTape_50 : decode cX4_walkFromTape 50 = .ok (.getfield 14, 3) := by decide +kernel
theorem dX4_walkFromTape_53 : decode cX4_walkFromTape 53 = .ok (.invokevirtual 46, 3) := by decide +kernel
theorem dX4_walkFromTape_56 : decode cX4_walkFromTape 56 = .ok (.if_icmp .eq 17, 3) := by decide +kernel
theorem dX4_walkFromTape_59 : decode cX4_walkFromTape 59 = .ok (.aload_n 0, 1) := by decide +kernel
theorem dX4_walkFromTape_60 : decode cX4_walkFromTape 60 = .ok (.getfield 14, 3) := by decide +kernel
theorem dX4_walkFromTape_63 : decode cX4_walkFromTape 63 = .ok (.iload 4, 2) := by decide +kernel
theorem dX4_walkFromTape_65 : decode cX4_walkFromTape 65 = .ok (.invokevirtual 70, 3) := by decide +kernel
theorem dX4_walkFromTape_68 : decode cX4_walkFromTape 68 = .ok (.bipush 47, 2) := by decide +kernel
theorem dX4_walkFromTape_70 : decode cX4_walkFromTape 70 = .ok (.if_icmp .ne 7, 3) := by decide +kernel
theorem dX4_walkFromTape_73 : decode cX4_walkFromTape 73 = .ok (.iconst 1, 1) := by decide +kernel
theorem dX4_walkFromTape_74 : decode cX4_walkFromTape 74 = .ok (.goto 4, 3) := by decide +kernel
theorem dX4_walkFromTape_77 : decode cX4_walkFromTape 77 = .ok (.iconst 0, 1) := by decide +kernel
theorem dX4_walkFromTape_78 : decode cX4_walkFromTape 78 = .ok (.istore 5, 2) := by decide +kernel
theorem dX4_walkFromTape_80 : decode cX4_walkFromTape 80 = .ok (.iload 5, 2) := by decide +kernel
theorem dX4_walkFromTape_82 : decode cX4_walkFromTape 82 = .ok (.ifCond .eq 24, 3) := by decide +kernel
theorem dX4_walkFromTape_85 : decode cX4_walkFromTape 85 = .ok (.iload 4, 2) := by decide +kernel
theorem dX4_walkFromTape_87 : decode cX4_walkFromTape 87 = .ok (.iload_n 3, 1) := by decide +kernel
theorem dX4_walkFromTape_88 : decode cX4_walkFromTape 88 = .ok (.if_icmp .le 18, 3) := by decide +kernel
theorem dX4_walkFromTape_91 : decode cX4_walkFromTape 91 = .ok (.aload_n 0, 1) := by decide +kernel
theorem dX4_walkFromTape_92 : decode cX4_walkFromTape 92 = .ok (.iload_n 2, 1) := by decide +kernel
theorem dX4_walkFromTape_93 : decode cX4_walkFromTape 93 = .ok (.iload_n 3, 1) := by decide +kernel
theorem dX4_walkFromTape_94 : decode cX4_walkFromTape 94 = .ok (.iload 4, 2) := by decide +kernel
theorem dX4_walkFromTape_96 : decode cX4_walkFromTape 96 = .ok (.invokevirtual 147, 3) := by decide +kernel
theorem dX4_walkFromTape_99 : decode cX4_walkFromTape 99 = .ok (.istore_n 2, 1) := by decide +kernel
theorem dX4_walkFromTape_100 : decode cX4_walkFromTape 100 = .ok (.iload_n 2, 1) := by decide +kernel
theorem dX4_walkFromTape_101 : decode cX4_walkFromTape 101 = .ok (.ifCond .ge 5, 3) := by decide +kernel
theorem dX4_walkFromTape_104 : decode cX4_walkFromTape 104 = .ok (.iload_n 2, 1) := by decide +kernel
theorem dX4_walkFromTape_105 : decode cX4_walkFromTape 105 = .ok (.ireturn, 1) := by decide +kernel
theorem dX4_walkFromTape_106 : decode cX4_walkFromTape 106 = .ok (.iload 5, 2) := by decide +kernel
theorem dX4_walkFromTape_108 : decode cX4_walkFromTape 108 = .ok (.ifCond .eq 8, 3) := by decide +kernel
theorem dX4_walkFromTape_111 : decode cX4_walkFromTape 111 = .ok (.iload 4, 2) := by decide +kernel
theorem dX4_walkFromTape_113 : decode cX4_walkFromTape 113 = .ok (.iconst 1, 1) := by decide +kernel
theorem dX4_walkFromTape_114 : decode cX4_walkFromTape 114 = .ok (.iadd, 1) := by decide +kernel
theorem dX4_walkFromTape_115 : decode cX4_walkFromTape 115 = .ok (.istore_n 3, 1) := by decide +kernel
theorem dX4_walkFromTape_116 : decode cX4_walkFromTape 116 = .ok (.iinc 4 1, 3) := by decide +kernel
theorem dX4_walkFromTape_119 : decode cX4_walkFromTape 119 = .ok (.goto (-84), 3) := by decide +kernel
theorem dX4_walkFromTape_122 : decode cX4_walkFromTape 122 = .ok (.iload_n 2, 1) := by decide +kernel
theorem dX4_walkFromTape_123 : decode cX4_walkFromTape 123 = .ok (.ireturn, 1) := by decide +kernel
theorem dX4_stepFrom_0 : decode cX4_stepFrom 0 = .ok (.aload_n 0, 1) := by decide +kernel
theorem dX4_stepFrom_1 : decode cX4_stepFrom 1 = .ok (.iload_n 1, 1) := by decide +kernel
theorem dX4_stepFrom_2 : decode cX4_stepFrom 2 = .ok (.invokevirtual 88, 3) := by decide +kernel
theorem dX4_stepFrom_5 : decode cX4_stepFrom 5 = .ok (.astore 4, 2) := by decide +kernel
theorem dX4_stepFrom_7 : decode cX4_stepFrom 7 = .ok (.aload 4, 2) := by decide +kernel
theorem dX4_stepFrom_9 : decode cX4_stepFrom 9 = .ok (.ifnonnull 6, 3) := by decide +kernel
theorem dX4_stepFrom_12 : decode cX4_stepFrom 12 = .ok (.bipush (-5), 2) := by decide +kernel
theorem dX4_stepFrom_14 : decode cX4_stepFrom 14 = .ok (.ireturn, 1) := by decide +kernel
theorem dX4_stepFrom_15 : decode cX4_stepFrom 15 = .ok (.aload_n 0, 1) := by decide +kernel
theorem dX4_stepFrom_16 : decode cX4_stepFrom 16 = .ok (.getfield 14, 3) := by decide +kernel
theorem dX4_stepFrom_19 : decode cX4_stepFrom 19 = .ok (.iload_n 2, 1) := by decide +kernel
theorem dX4_stepFrom_20 : decode cX4_stepFrom 20 = .ok (.iload_n 3, 1) := by decide +kernel
theorem dX4_stepFrom_21 : decode cX4_stepFrom 21 = .ok (.invokestatic 151, 3) := by decide +kernel
theorem dX4_stepFrom_24 : decode cX4_stepFrom 24 = .ok (.istore 5, 2) := by decide +kernel
theorem dX4_stepFrom_26 : decode cX4_stepFrom 26 = .ok (.iload 5, 2) := by decide +kernel
theorem dX4_stepFrom_28 : decode cX4_stepFrom 28 = .ok (.ifCond .ne 15, 3) := by decide +kernel
theorem dX4_stepFrom_31 : decode cX4_stepFrom 31 = .ok (.aload_n 0, 1) := by decide +kernel
theorem dX4_stepFrom_32 : decode cX4_stepFrom 32 = .ok (.iload_n 2, 1) := by decide +kernel
theorem dX4_stepFrom_33 : decode cX4_stepFrom 33 = .ok (.iload_n 3, 1) := by decide +kernel
theorem dX4_stepFrom_34 : decode cX4_stepFrom 34 = .ok (.invokevirtual 128, 3) := by decide +kernel
theorem dX4_stepFrom_37 : decode cX4_stepFrom 37 = .ok (.ifCond .ne 6, 3) := by decide +kernel
theorem dX4_stepFrom_40 : decode cX4_stepFrom 40 = .ok (.bipush (-2), 2) := by decide +kernel
theorem dX4_stepFrom_42 : decode cX4_stepFrom 42 = .ok (.ireturn, 1) := by decide +kernel
theorem dX4_stepFrom_43 : decode cX4_stepFrom 43 = .ok (.aload 4, 2) := by decide +kernel
theorem dX4_stepFrom_45 : decode cX4_stepFrom 45 = .ok (.getfield 108, 3) := by decide +kernel
theorem dX4_stepFrom_48 : decode cX4_stepFrom 48 = .ok (.ifCond .ne 5, 3) := by decide +kernel
theorem dX4_stepFrom_51 : decode cX4_stepFrom 51 = .ok (.iconst (-1), 1) := by decide +kernel
theorem dX4_stepFrom_52 : decode cX4_stepFrom 52 = .ok (.ireturn, 1) := by decide +kernel
theorem dX4_stepFrom_53 : decode cX4_stepFrom 53 = .ok (.iload 5, 2) := by decide +kernel
theorem dX4_stepFrom_55 : decode cX4_stepFrom 55 = .ok (.ifCond .ne 10, 3) := by decide +kernel
theorem dX4_stepFrom_58 : decode cX4_stepFrom 58 = .ok (.aload_n 0, 1) := by decide +kernel
theorem dX4_stepFrom_59 : decode cX4_stepFrom 59 = .ok (.aload 4, 2) := by decide +kernel
theorem dX4_stepFrom_61 : decode cX4_stepFrom 61 = .ok (.invokevirtual 132, 3) := by decide +kernel
theorem dX4_stepFrom_64 : decode cX4_stepFrom 64 = .ok (.ireturn, 1) := by decide +kernel
theorem dX4_stepFrom_65 : decode cX4_stepFrom 65 = .ok (.iload_n 3, 1) := by decide +kernel
theorem dX4_stepFrom_66 : decode cX4_stepFrom 66 = .ok (.iload_n 2, 1) := by decide +kernel
theorem dX4_stepFrom_67 : decode cX4_stepFrom 67 = .ok (.isub, 1) := by decide +kernel
theorem dX4_stepFrom_68 : decode cX4_stepFrom 68 = .ok (.iconst 1, 1) := by decide +kernel
theorem dX4_stepFrom_69 : decode cX4_stepFrom 69 = .ok (.if_icmp .eq 7, 3) := by decide +kernel
theorem dX4_stepFrom_72 : decode cX4_stepFrom 72 = .ok (.iload_n 1, 1) := by decide +kernel
theorem dX4_stepFrom_73 : decode cX4_stepFrom 73 = .ok (.ifCond .ne 7, 3) := by decide +kernel
theorem dX4_stepFrom_76 : decode cX4_stepFrom 76 = .ok (.iload_n 1, 1) := by decide +kernel
theorem dX4_stepFrom_77 : decode cX4_stepFrom 77 = .ok (.goto 8, 3) := by decide +kernel
theorem dX4_stepFrom_80 : decode cX4_stepFrom 80 = .ok (.aload 4, 2) := by decide +kernel
theorem dX4_stepFrom_82 : decode cX4_stepFrom 82 = .ok (.getfield 95, 3) := by decide +kernel
theorem dX4_stepFrom_85 : decode cX4_stepFrom 85 = .ok (.ireturn, 1) := by decide +kernel
theorem dX4_moveFromTape_0 : decode cX4_moveFromTape 0 = .ok (.aload_n 0, 1) := by decide +kernel
theorem dX4_moveFromTape_1 : decode cX4_moveFromTape 1 = .ok (.iload_n 1, 1) := by decide +kernel
theorem dX4_moveFromTape_2 : decode cX4_moveFromTape 2 = .ok (.invokevirtual 88, 3) := by decide +kernel
theorem dX4_moveFromTape_5 : decode cX4_moveFromTape 5 = .ok (.astore_n 3, 1) := by decide +kernel
theorem dX4_moveFromTape_6 : decode cX4_moveFromTape 6 = .ok (.aload_n 0, 1) := by decide +kernel
theorem dX4_moveFromTape_7 : decode cX4_moveFromTape 7 = .ok (.iload_n 2, 1) := by decide +kernel
theorem dX4_moveFromTape_8 : decode cX4_moveFromTape 8 = .ok (.invokevirtual 120, 3) := by decide +kernel
theorem dX4_moveFromTape_11 : decode cX4_moveFromTape 11 = .ok (.astore 4, 2) := by decide +kernel
theorem dX4_moveFromTape_13 : decode cX4_moveFromTape 13 = .ok (.aload_n 3, 1) := by decide +kernel
theorem dX4_moveFromTape_14 : decode cX4_moveFromTape 14 = .ok (.ifnull 12, 3) := by decide +kernel
theorem dX4_moveFromTape_17 : decode cX4_moveFromTape 17 = .ok (.iload_n 1, 1) := by decide +kernel
theorem dX4_moveFromTape_18 : decode cX4_moveFromTape 18 = .ok (.ifCond .eq 8, 3) := by decide +kernel
theorem dX4_moveFromTape_21 : decode cX4_moveFromTape 21 = .ok (.aload 4, 2) := by decide +kernel
theorem dX4_moveFromTape_23 : decode cX4_moveFromTape 23 = .ok (.ifnonnull 6, 3) := by decide +kernel
theorem dX4_moveFromTape_26 : decode cX4_moveFromTape 26 = .ok (.bipush (-5), 2) := by decide +kernel
theorem dX4_moveFromTape_28 : decode cX4_moveFromTape 28 = .ok (.ireturn, 1) := by decide +kernel
theorem dX4_moveFromTape_29 : decode cX4_moveFromTape 29 = .ok (.aload_n 0, 1) := by decide +kernel
theorem dX4_moveFromTape_30 : decode cX4_moveFromTape 30 = .ok (.getfield 14, 3) := by decide +kernel
theorem dX4_moveFromTape_33 : decode cX4_moveFromTape 33 = .ok (.invokevirtual 46, 3) := by decide +kernel
theorem dX4_moveFromTape_36 : decode cX4_moveFromTape 36 = .ok (.ifCond .le 7, 3) := by decide +kernel
theorem dX4_moveFromTape_39 : decode cX4_moveFromTape 39 = .ok (.iconst 1, 1) := by decide +kernel
theorem dX4_moveFromTape_40 : decode cX4_moveFromTape 40 = .ok (.goto 4, 3) := by decide +kernel
theorem dX4_moveFromTape_43 : decode cX4_moveFromTape 43 = .ok (.iconst 0, 1) := by decide +kernel
theorem dX4_moveFromTape_44 : decode cX4_moveFromTape 44 = .ok (.istore 5, 2) := by decide +kernel
theorem dX4_moveFromTape_46 : decode cX4_moveFromTape 46 = .ok (.iload 5, 2) := by decide +kernel
theorem dX4_moveFromTape_48 : decode cX4_moveFromTape 48 = .ok (.ifCond .ne 17, 3) := by decide +kernel
theorem dX4_moveFromTape_51 : decode cX4_moveFromTape 51 = .ok (.aload_n 0, 1) := by decide +kernel
theorem dX4_moveFromTape_52 : decode cX4_moveFromTape 52 = .ok (.getfield 21, 3) := by decide +kernel
theorem dX4_moveFromTape_55 : decode cX4_moveFromTape 55 = .ok (.aload_n 3, 1) := by decide +kernel
theorem dX4_moveFromTape_56 : decode cX4_moveFromTape 56 = .ok (.getfield 114, 3) := by decide +kernel
theorem dX4_moveFromTape_59 : decode cX4_moveFromTape 59 = .ok (.invokevirtual 155, 3) := by decide +kernel
theorem dX4_moveFromTape_62 : decode cX4_moveFromTape 62 = .ok (.goto 21, 3) := by decide +kernel
theorem dX4_moveFromTape_65 : decode cX4_moveFromTape 65 = .ok (.aload_n 0, 1) := by decide +kernel
theorem dX4_moveFromTape_66 : decode cX4_moveFromTape 66 = .ok (.iconst 0, 1) := by decide +kernel
theorem dX4_moveFromTape_67 : decode cX4_moveFromTape 67 = .ok (.aload_n 0, 1) := by decide +kernel
theorem dX4_moveFromTape_68 : decode cX4_moveFromTape 68 = .ok (.getfield 14, 3) := by decide +kernel
theorem dX4_moveFromTape_71 : decode cX4_moveFromTape 71 = .ok (.invokevirtual 46, 3) := by decide +kernel
theorem dX4_moveFromTape_74 : decode cX4_moveFromTape 74 = .ok (.invokevirtual 128, 3) := by decide +kernel
theorem dX4_moveFromTape_77 : decode cX4_moveFromTape 77 = .ok (.ifCond .ne 6, 3) := by decide +kernel
theorem dX4_moveFromTape_80 : decode cX4_moveFromTape 80 = .ok (.bipush (-2), 2) := by decide +kernel
theorem dX4_moveFromTape_82 : decode cX4_moveFromTape 82 = .ok (.ireturn, 1) := by decide +kernel
theorem dX4_moveFromTape_83 : decode cX4_moveFromTape 83 = .ok (.aload_n 0, 1) := by decide +kernel
theorem dX4_moveFromTape_84 : decode cX4_moveFromTape 84 = .ok (.aload 4, 2) := by decide +kernel
theorem dX4_moveFromTape_86 : decode cX4_moveFromTape 86 = .ok (.invokevirtual 132, 3) := by decide +kernel
theorem dX4_moveFromTape_89 : decode cX4_moveFromTape 89 = .ok (.istore 6, 2) := by decide +kernel
theorem dX4_moveFromTape_91 : decode cX4_moveFromTape 91 = .ok (.iload 6, 2) := by decide +kernel
theorem dX4_moveFromTape_93 : decode cX4_moveFromTape 93 = .ok (.iconst (-1), 1) := by decide +kernel
theorem dX4_moveFromTape_94 : decode cX4_moveFromTape 94 = .ok (.if_icmp .eq 12, 3) := by decide +kernel
theorem dX4_moveFromTape_97 : decode cX4_moveFromTape 97 = .ok (.iload 6, 2) := by decide +kernel
theorem dX4_moveFromTape_99 : decode cX4_moveFromTape 99 = .ok (.iload_n 1, 1) := by decide +kernel
theorem dX4_moveFromTape_100 : decode cX4_moveFromTape 100 = .ok (.if_icmp .eq 6, 3) := by decide +kernel
theorem dX4_moveFromTape_103 : decode cX4_moveFromTape 103 = .ok (.bipush (-3), 2) := by decide +kernel
theorem dX4_moveFromTape_105 : decode cX4_moveFromTape 105 = .ok (.ireturn, 1) := by decide +kernel
theorem dX4_moveFromTape_106 : decode cX4_moveFromTape 106 = .ok (.aload_n 0, 1) := by decide +kernel
theorem dX4_moveFromTape_107 : decode cX4_moveFromTape 107 = .ok (.iload_n 2, 1) := by decide +kernel
theorem dX4_moveFromTape_108 : decode cX4_moveFromTape 108 = .ok (.iload_n 1, 1) := by decide +kernel
theorem dX4_moveFromTape_109 : decode cX4_moveFromTape 109 = .ok (.invokevirtual 159, 3) := by decide +kernel
theorem dX4_moveFromTape_112 : decode cX4_moveFromTape 112 = .ok (.ifCond .eq 6, 3) := by decide +kernel
theorem dX4_moveFromTape_115 : decode cX4_moveFromTape 115 = .ok (.bipush (-6), 2) := by decide +kernel
theorem dX4_moveFromTape_117 : decode cX4_moveFromTape 117 = .ok (.ireturn, 1) := by decide +kernel
theorem dX4_moveFromTape_118 : decode cX4_moveFromTape 118 = .ok (.aload_n 3, 1) := by decide +kernel
theorem dX4_moveFromTape_119 : decode cX4_moveFromTape 119 = .ok (.getfield 95, 3) := by decide +kernel
theorem dX4_moveFromTape_122 : decode cX4_moveFromTape 122 = .ok (.istore 7, 2) := by decide +kernel
theorem dX4_moveFromTape_124 : decode cX4_moveFromTape 124 = .ok (.iload 7, 2) := by decide +kernel
theorem dX4_moveFromTape_126 : decode cX4_moveFromTape 126 = .ok (.iload_n 2, 1) := by decide +kernel
theorem dX4_moveFromTape_127 : decode cX4_moveFromTape 127 = .ok (.if_icmp .eq 19, 3) := by decide +kernel
theorem dX4_moveFromTape_130 : decode cX4_moveFromTape 130 = .ok (.aload 4, 2) := by decide +kernel
theorem dX4_moveFromTape_132 : decode cX4_moveFromTape 132 = .ok (.getfield 92, 3) := by decide +kernel
theorem dX4_moveFromTape_135 : decode cX4_moveFromTape 135 = .ok (.invokevirtual 46, 3) := by decide +kernel
theorem dX4_moveFromTape_138 : decode cX4_moveFromTape 138 = .ok (.bipush 40, 2) := by decide +kernel
theorem dX4_moveFromTape_140 : decode cX4_moveFromTape 140 = .ok (.if_icmp .lt 6, 3) := by decide +kernel
theorem dX4_moveFromTape_143 : decode cX4_moveFromTape 143 = .ok (.bipush (-4), 2) := by decide +kernel
theorem dX4_moveFromTape_145 : decode cX4_moveFromTape 145 = .ok (.ireturn, 1) := by decide +kernel
theorem dX4_moveFromTape_146 : decode cX4_moveFromTape 146 = .ok (.aload_n 0, 1) := by decide +kernel
theorem dX4_moveFromTape_147 : decode cX4_moveFromTape 147 = .ok (.iload_n 1, 1) := by decide +kernel
theorem dX4_moveFromTape_148 : decode cX4_moveFromTape 148 = .ok (.iload 7, 2) := by decide +kernel
theorem dX4_moveFromTape_150 : decode cX4_moveFromTape 150 = .ok (.invokevirtual 98, 3) := by decide +kernel
theorem dX4_moveFromTape_153 : decode cX4_moveFromTape 153 = .ok (.iload 5, 2) := by decide +kernel
theorem dX4_moveFromTape_155 : decode cX4_moveFromTape 155 = .ok (.ifCond .eq 15, 3) := by decide +kernel
theorem dX4_moveFromTape_158 : decode cX4_moveFromTape 158 = .ok (.aload_n 3, 1) := by decide +kernel
theorem dX4_moveFromTape_159 : decode cX4_moveFromTape 159 = .ok (.aload_n 0, 1) := by decide +kernel
theorem dX4_moveFromTape_160 : decode cX4_moveFromTape 160 = .ok (.getfield 14, 3) := by decide +kernel
theorem dX4_moveFromTape_163 : decode cX4_moveFromTape 163 = .ok (.aload_n 0, 1) := by decide +kernel
theorem dX4_moveFromTape_164 : decode cX4_moveFromTape 164 = .ok (.getfield 21, 3) := by decide +kernel
theorem dX4_moveFromTape_167 : decode cX4_moveFromTape 167 = .ok (.invokevirtual 139, 3) := by decide +kernel
theorem dX4_moveFromTape_170 : decode cX4_moveFromTape 170 = .ok (.aload_n 0, 1) := by decide +kernel
theorem dX4_moveFromTape_171 : decode cX4_moveFromTape 171 = .ok (.iload_n 1, 1) := by decide +kernel
theorem dX4_moveFromTape_172 : decode cX4_moveFromTape 172 = .ok (.aload_n 3, 1) := by decide +kernel
theorem dX4_moveFromTape_173 : decode cX4_moveFromTape 173 = .ok (.iload_n 2, 1) := by decide +kernel
theorem dX4_moveFromTape_174 : decode cX4_moveFromTape 174 = .ok (.aload 4, 2) := by decide +kernel
theorem dX4_moveFromTape_176 : decode cX4_moveFromTape 176 = .ok (.invokevirtual 143, 3) := by decide +kernel
theorem dX4_moveFromTape_179 : decode cX4_moveFromTape 179 = .ok (.iload 7, 2) := by decide +kernel
theorem dX4_moveFromTape_181 : decode cX4_moveFromTape 181 = .ok (.ireturn, 1) := by decide +kernel
theorem dX4_nodeAt_0 : decode cX4_nodeAt 0 = .ok (.iload_n 1, 1) := by decide +kernel
theorem dX4_nodeAt_1 : decode cX4_nodeAt 1 = .ok (.ifCond .lt 12, 3) := by decide +kernel
theorem dX4_nodeAt_4 : decode cX4_nodeAt 4 = .ok (.iload_n 1, 1) := by decide +kernel
theorem dX4_nodeAt_5 : decode cX4_nodeAt 5 = .ok (.aload_n 0, 1) := by decide +kernel
theorem dX4_nodeAt_6 : decode cX4_nodeAt 6 = .ok (.getfield 26, 3) := by decide +kernel
theorem dX4_nodeAt_9 : decode cX4_nodeAt 9 = .ok (.arraylength, 1) := by decide +kernel
theorem dX4_nodeAt_10 : decode cX4_nodeAt 10 = .ok (.if_icmp .lt 5, 3) := by decide +kernel
theorem dX4_nodeAt_13 : decode cX4_nodeAt 13 = .ok (.aconst_null, 1) := by decide +kernel
theorem dX4_nodeAt_14 : decode cX4_nodeAt 14 = .ok (.areturn, 1) := by decide +kernel
theorem dX4_nodeAt_15 : decode cX4_nodeAt 15 = .ok (.aload_n 0, 1) := by decide +kernel
theorem dX4_nodeAt_16 : decode cX4_nodeAt 16 = .ok (.getfield 26, 3) := by decide +kernel
theorem dX4_nodeAt_19 : decode cX4_nodeAt 19 = .ok (.iload_n 1, 1) := by decide +kernel
theorem dX4_nodeAt_20 : decode cX4_nodeAt 20 = .ok (.aaload, 1) := by decide +kernel
theorem dX4_nodeAt_21 : decode cX4_nodeAt 21 = .ok (.astore_n 2, 1) := by decide +kernel
theorem dX4_nodeAt_22 : decode cX4_nodeAt 22 = .ok (.aload_n 2, 1) := by decide +kernel
theorem dX4_nodeAt_23 : decode cX4_nodeAt 23 = .ok (.ifnull 14, 3) := by decide +kernel
theorem dX4_nodeAt_26 : decode cX4_nodeAt 26 = .ok (.aload_n 2, 1) := by decide +kernel
theorem dX4_nodeAt_27 : decode cX4_nodeAt 27 = .ok (.getfield 102, 3) := by decide +kernel
theorem dX4_nodeAt_30 : decode cX4_nodeAt 30 = .ok (.ifCond .eq 7, 3) := by decide +kernel
theorem dX4_nodeAt_33 : decode cX4_nodeAt 33 = .ok (.aload_n 2, 1) := by decide +kernel
theorem dX4_nodeAt_34 : decode cX4_nodeAt 34 = .ok (.goto 4, 3) := by decide +kernel
theorem dX4_nodeAt_37 : decode cX4_nodeAt 37 = .ok (.aconst_null, 1) := by decide +kernel
theorem dX4_nodeAt_38 : decode cX4_nodeAt 38 = .ok (.areturn, 1) := by decide +kernel
theorem dX4_directoryAt_0 : decode cX4_directoryAt 0 = .ok (.aload_n 0, 1) := by decide +kernel
theorem dX4_directoryAt_1 : decode cX4_directoryAt 1 = .ok (.iload_n 1, 1) := by decide +kernel
theorem dX4_directoryAt_2 : decode cX4_directoryAt 2 = .ok (.invokevirtual 88, 3) := by decide +kernel
theorem dX4_directoryAt_5 : decode cX4_directoryAt 5 = .ok (.astore_n 2, 1) := by decide +kernel
theorem dX4_directoryAt_6 : decode cX4_directoryAt 6 = .ok (.aload_n 2, 1) := by decide +kernel
theorem dX4_directoryAt_7 : decode cX4_directoryAt 7 = .ok (.ifnull 14, 3) := by decide +kernel
theorem dX4_directoryAt_10 : decode cX4_directoryAt 10 = .ok (.aload_n 2, 1) := by decide +kernel
theorem dX4_directoryAt_11 : decode cX4_directoryAt 11 = .ok (.getfield 108, 3) := by decide +kernel
theorem dX4_directoryAt_14 : decode cX4_directoryAt 14 = .ok (.ifCond .eq 7, 3) := by decide +kernel
theorem dX4_directoryAt_17 : decode cX4_directoryAt 17 = .ok (.aload_n 2, 1) := by decide +kernel
theorem dX4_directoryAt_18 : decode cX4_directoryAt 18 = .ok (.goto 4, 3) := by decide +kernel
theorem dX4_directoryAt_21 : decode cX4_directoryAt 21 = .ok (.aconst_null, 1) := by decide +kernel
theorem dX4_directoryAt_22 : decode cX4_directoryAt 22 = .ok (.areturn, 1) := by decide +kernel
theorem dX4_freeNumber_0 : decode cX4_freeNumber 0 = .ok (.iconst 0, 1) := by decide +kernel
theorem dX4_freeNumber_1 : decode cX4_freeNumber 1 = .ok (.istore_n 1, 1) := by decide +kernel
theorem dX4_freeNumber_2 : decode cX4_freeNumber 2 = .ok (.iload_n 1, 1) := by decide +kernel
theorem dX4_freeNumber_3 : decode cX4_freeNumber 3 = .ok (.aload_n 0, 1) := by decide +kernel
theorem dX4_freeNumber_4 : decode cX4_freeNumber 4 = .ok (.getfield 26, 3) := by decide +kernel
theorem dX4_freeNumber_7 : decode cX4_freeNumber 7 = .ok (.arraylength, 1) := by decide +kernel
theorem dX4_freeNumber_8 : decode cX4_freeNumber 8 = .ok (.if_icmp .ge 19, 3) := by decide +kernel
theorem dX4_freeNumber_11 : decode cX4_freeNumber 11 = .ok (.aload_n 0, 1) := by decide +kernel
theorem dX4_freeNumber_12 : decode cX4_freeNumber 12 = .ok (.iload_n 1, 1) := by decide +kernel
theorem dX4_freeNumber_13 : decode cX4_freeNumber 13 = .ok (.invokevirtual 88, 3) := by decide +kernel
theorem dX4_freeNumber_16 : decode cX4_freeNumber 16 = .ok (.ifnonnull 5, 3) := by decide +kernel
theorem dX4_freeNumber_19 : decode cX4_freeNumber 19 = .ok (.iload_n 1, 1) := by decide +kernel
theorem dX4_freeNumber_20 : decode cX4_freeNumber 20 = .ok (.ireturn, 1) := by decide +kernel
theorem dX4_freeNumber_21 : decode cX4_freeNumber 21 = .ok (.iinc 1 1, 3) := by decide +kernel
theorem dX4_freeNumber_24 : decode cX4_freeNumber 24 = .ok (.goto (-22), 3) := by decide +kernel
theorem dX4_freeNumber_27 : decode cX4_freeNumber 27 = .ok (.iconst (-1), 1) := by decide +kernel
theorem dX4_freeNumber_28 : decode cX4_freeNumber 28 = .ok (.ireturn, 1) := by decide +kernel
theorem dX4_askForName_0 : decode cX4_askForName 0 = .ok (.iload_n 2, 1) := by decide +kernel
theorem dX4_askForName_1 : decode cX4_askForName 1 = .ok (.iload_n 1, 1) := by decide +kernel
theorem dX4_askForName_2 : decode cX4_askForName 2 = .ok (.isub, 1) := by decide +kernel
theorem dX4_askForName_3 : decode cX4_askForName 3 = .ok (.istore_n 3, 1) := by decide +kernel
theorem dX4_askForName_4 : decode cX4_askForName 4 = .ok (.iload_n 3, 1) := by decide +kernel
theorem dX4_askForName_5 : decode cX4_askForName 5 = .ok (.iconst 1, 1) := by decide +kernel
theorem dX4_askForName_6 : decode cX4_askForName 6 = .ok (.if_icmp .lt 21, 3) := by decide +kernel
theorem dX4_askForName_9 : decode cX4_askForName 9 = .ok (.iload_n 3, 1) := by decide +kernel
theorem dX4_askForName_10 : decode cX4_askForName 10 = .ok (.bipush 60, 2) := by decide +kernel
theorem dX4_askForName_12 : decode cX4_askForName 12 = .ok (.if_icmp .gt 15, 3) := by decide +kernel
theorem dX4_askForName_15 : decode cX4_askForName 15 = .ok (.aload_n 0, 1) := by decide +kernel
theorem dX4_askForName_16 : decode cX4_askForName 16 = .ok (.getfield 14, 3) := by decide +kernel
theorem dX4_askForName_19 : decode cX4_askForName 19 = .ok (.iload_n 1, 1) := by decide +kernel
theorem dX4_askForName_20 : decode cX4_askForName 20 = .ok (.iload_n 2, 1) := by decide +kernel
theorem dX4_askForName_21 : decode cX4_askForName 21 = .ok (.invokestatic 151, 3) := by decide +kernel
theorem dX4_askForName_24 : decode cX4_askForName 24 = .ok (.ifCond .eq 5, 3) := by decide +kernel
theorem dX4_askForName_27 : decode cX4_askForName 27 = .ok (.iconst 0, 1) := by decide +kernel
theorem dX4_askForName_28 : decode cX4_askForName 28 = .ok (.ireturn, 1) := by decide +kernel
theorem dX4_askForName_29 : decode cX4_askForName 29 = .ok (.iload_n 1, 1) := by decide +kernel
theorem dX4_askForName_30 : decode cX4_askForName 30 = .ok (.istore 4, 2) := by decide +kernel
theorem dX4_askForName_32 : decode cX4_askForName 32 = .ok (.iload 4, 2) := by decide +kernel
theorem dX4_askForName_34 : decode cX4_askForName 34 = .ok (.iload_n 2, 1) := by decide +kernel
theorem dX4_askForName_35 : decode cX4_askForName 35 = .ok (.if_icmp .ge 34, 3) := by decide +kernel
theorem dX4_askForName_38 : decode cX4_askForName 38 = .ok (.aload_n 0, 1) := by decide +kernel
theorem dX4_askForName_39 : decode cX4_askForName 39 = .ok (.getfield 14, 3) := by decide +kernel
theorem dX4_askForName_42 : decode cX4_askForName 42 = .ok (.iload 4, 2) := by decide +kernel
theorem dX4_askForName_44 : decode cX4_askForName 44 = .ok (.invokevirtual 70, 3) := by decide +kernel
theorem dX4_askForName_47 : decode cX4_askForName 47 = .ok (.istore 5, 2) := by decide +kernel
theorem dX4_askForName_49 : decode cX4_askForName 49 = .ok (.iload 5, 2) := by decide +kernel
theorem dX4_askForName_51 : decode cX4_askForName 51 = .ok (.ifCond .eq 10, 3) := by decide +kernel
theorem dX4_askForName_54 : decode cX4_askForName 54 = .ok (.iload 5, 2) := by decide +kernel
theorem dX4_askForName_56 : decode cX4_askForName 56 = .ok (.bipush 47, 2) := by decide +kernel
theorem dX4_askForName_58 : decode cX4_askForName 58 = .ok (.if_icmp .ne 5, 3) := by decide +kernel
theorem dX4_askForName_61 : decode cX4_askForName 61 = .ok (.iconst 0, 1) := by decide +kernel
theorem dX4_askForName_62 : decode cX4_askForName 62 = .ok (.ireturn, 1) := by decide +kernel
theorem dX4_askForName_63 : decode cX4_askForName 63 = .ok (.iinc 4 1, 3) := by decide +kernel
theorem dX4_askForName_66 : decode cX4_askForName 66 = .ok (.goto (-34), 3) := by decide +kernel
theorem dX4_askForName_69 : decode cX4_askForName 69 = .ok (.aload_n 0, 1) := by decide +kernel
theorem dX4_askForName_70 : decode cX4_askForName 70 = .ok (.getfield 14, 3) := by decide +kernel
theorem dX4_askForName_73 : decode cX4_askForName 73 = .ok (.iload_n 1, 1) := by decide +kernel
theorem dX4_askForName_74 : decode cX4_askForName 74 = .ok (.iload_n 2, 1) := by decide +kernel
theorem dX4_askForName_75 : decode cX4_askForName 75 = .ok (.invokestatic 55, 3) := by decide +kernel
theorem dX4_askForName_78 : decode cX4_askForName 78 = .ok (.iconst (-1), 1) := by decide +kernel
theorem dX4_askForName_79 : decode cX4_askForName 79 = .ok (.if_icmp .eq 5, 3) := by decide +kernel
theorem dX4_askForName_82 : decode cX4_askForName 82 = .ok (.iconst 0, 1) := by decide +kernel
theorem dX4_askForName_83 : decode cX4_askForName 83 = .ok (.ireturn, 1) := by decide +kernel
theorem dX4_askForName_84 : decode cX4_askForName 84 = .ok (.aload_n 0, 1) := by decide +kernel
theorem dX4_askForName_85 : decode cX4_askForName 85 = .ok (.getfield 21, 3) := by decide +kernel
theorem dX4_askForName_88 : decode cX4_askForName 88 = .ok (.aload_n 0, 1) := by decide +kernel
theorem dX4_askForName_89 : decode cX4_askForName 89 = .ok (.getfield 14, 3) := by decide +kernel
theorem dX4_askForName_92 : decode cX4_askForName 92 = .ok (.iload_n 1, 1) := by decide +kernel
theorem dX4_askForName_93 : decode cX4_askForName 93 = .ok (.iload_n 2, 1) := by decide +kernel
theorem dX4_askForName_94 : decode cX4_askForName 94 = .ok (.invokestatic 64, 3) := by decide +kernel
theorem dX4_askForName_97 : decode cX4_askForName 97 = .ok (.iconst 1, 1) := by decide +kernel
theorem dX4_askForName_98 : decode cX4_askForName 98 = .ok (.ireturn, 1) := by decide +kernel
theorem dX4_entryAsked_0 : decode cX4_entryAsked 0 = .ok (.iconst 0, 1) := by decide +kernel
theorem dX4_entryAsked_1 : decode cX4_entryAsked 1 = .ok (.istore_n 2, 1) := by decide +kernel
theorem dX4_entryAsked_2 : decode cX4_entryAsked 2 = .ok (.iload_n 2, 1) := by decide +kernel
theorem dX4_entryAsked_3 : decode cX4_entryAsked 3 = .ok (.aload_n 1, 1) := by decide +kernel
theorem dX4_entryAsked_4 : decode cX4_entryAsked 4 = .ok (.getfield 92, 3) := by decide +kernel
theorem dX4_entryAsked_7 : decode cX4_entryAsked 7 = .ok (.invokevirtual 46, 3) := by decide +kernel
theorem dX4_entryAsked_10 : decode cX4_entryAsked 10 = .ok (.if_icmp .ge 47, 3) := by decide +kernel
theorem dX4_entryAsked_13 : decode cX4_entryAsked 13 = .ok (.aload_n 1, 1) := by decide +kernel
theorem dX4_entryAsked_14 : decode cX4_entryAsked 14 = .ok (.getfield 92, 3) := by decide +kernel
theorem dX4_entryAsked_17 : decode cX4_entryAsked 17 = .ok (.iload_n 2, 1) := by decide +kernel
theorem dX4_entryAsked_18 : decode cX4_entryAsked 18 = .ok (.invokevirtual 70, 3) := by decide +kernel
theorem dX4_entryAsked_21 : decode cX4_entryAsked 21 = .ok (.istore_n 3, 1) := by decide +kernel
theorem dX4_entryAsked_22 : decode cX4_entryAsked 22 = .ok (.aload_n 0, 1) := by decide +kernel
theorem dX4_entryAsked_23 : decode cX4_entryAsked 23 = .ok (.iload_n 3, 1) := by decide +kernel
theorem dX4_entryAsked_24 : decode cX4_entryAsked 24 = .ok (.invokevirtual 88, 3) := by decide +kernel
theorem dX4_entryAsked_27 : decode cX4_entryAsked 27 = .ok (.astore 4, 2) := by decide +kernel
theorem dX4_entryAsked_29 : decode cX4_entryAsked 29 = .ok (.aload 4, 2) := by decide +kernel
theorem dX4_entryAsked_31 : decode cX4_entryAsked 31 = .ok (.ifnull 20, 3) := by decide +kernel
theorem dX4_entryAsked_34 : decode cX4_entryAsked 34 = .ok (.aload 4, 2) := by decide +kernel
theorem dX4_entryAsked_36 : decode cX4_entryAsked 36 = .ok (.getfield 114, 3) := by decide +kernel
theorem dX4_entryAsked_39 : decode cX4_entryAsked 39 = .ok (.aload_n 0, 1) := by decide +kernel
theorem dX4_entryAsked_40 : decode cX4_entryAsked 40 = .ok (.getfield 21, 3) := by decide +kernel
theorem dX4_entryAsked_43 : decode cX4_entryAsked 43 = .ok (.invokevirtual 162, 3) := by decide +kernel
theorem dX4_entryAsked_46 : decode cX4_entryAsked 46 = .ok (.ifCond .ne 5, 3) := by decide +kernel
theorem dX4_entryAsked_49 : decode cX4_entryAsked 49 = .ok (.iload_n 3, 1) := by decide +kernel
theorem dX4_entryAsked_50 : decode cX4_entryAsked 50 = .ok (.ireturn, 1) := by decide +kernel
theorem dX4_entryAsked_51 : decode cX4_entryAsked 51 = .ok (.iinc 2 1, 3) := by decide +kernel
theorem dX4_entryAsked_54 : decode cX4_entryAsked 54 = .ok (.goto (-52), 3) := by decide +kernel
theorem dX4_entryAsked_57 : decode cX4_entryAsked 57 = .ok (.iconst (-1), 1) := by decide +kernel
theorem dX4_entryAsked_58 : decode cX4_entryAsked 58 = .ok (.ireturn, 1) := by decide +kernel
theorem dX4_attach_0 : decode cX4_attach 0 = .ok (.aload_n 2, 1) := by decide +kernel
theorem dX4_attach_1 : decode cX4_attach 1 = .ok (.iload_n 3, 1) := by decide +kernel
theorem dX4_attach_2 : decode cX4_attach 2 = .ok (.putfield 95, 3) := by decide +kernel
theorem dX4_attach_5 : decode cX4_attach 5 = .ok (.aload 4, 2) := by decide +kernel
theorem dX4_attach_7 : decode cX4_attach 7 = .ok (.getfield 92, 3) := by decide +kernel
theorem dX4_attach_10 : decode cX4_attach 10 = .ok (.iload_n 1, 1) := by decide +kernel
theorem dX4_attach_11 : decode cX4_attach 11 = .ok (.invokevirtual 52, 3) := by decide +kernel
theorem dX4_attach_14 : decode cX4_attach 14 = .ok (.aload 4, 2) := by decide +kernel
theorem dX4_attach_16 : decode cX4_attach 16 = .ok (.getfield 123, 3) := by decide +kernel
theorem dX4_attach_19 : decode cX4_attach 19 = .ok (.aload_n 0, 1) := by decide +kernel
theorem dX4_attach_20 : decode cX4_attach 20 = .ok (.aload 4, 2) := by decide +kernel
theorem dX4_attach_22 : decode cX4_attach 22 = .ok (.invokevirtual 166, 3) := by decide +kernel
theorem dX4_attach_25 : decode cX4_attach 25 = .ok (.iload_n 1, 1) := by decide +kernel
theorem dX4_attach_26 : decode cX4_attach 26 = .ok (.invokevirtual 169, 3) := by decide +kernel
theorem dX4_attach_29 : decode cX4_attach 29 = .ok (.return_, 1) := by decide +kernel
theorem dX4_placeByName_0 : decode cX4_placeByName 0 = .ok (.aload_n 1, 1) := by decide +kernel
theorem dX4_placeByName_1 : decode cX4_placeByName 1 = .ok (.getfield 123, 3) := by decide +kernel
theorem dX4_placeByName_4 : decode cX4_placeByName 4 = .ok (.invokevirtual 46, 3) := by decide +kernel
theorem dX4_placeByName_7 : decode cX4_placeByName 7 = .ok (.istore_n 2, 1) := by decide +kernel
theorem dX4_placeByName_8 : decode cX4_placeByName 8 = .ok (.iconst 0, 1) := by decide +kernel
theorem dX4_placeByName_9 : decode cX4_placeByName 9 = .ok (.istore_n 3, 1) := by decide +kernel
theorem dX4_placeByName_10 : decode cX4_placeByName 10 = .ok (.iload_n 3, 1) := by decide +kernel
theorem dX4_placeByName_11 : decode cX4_placeByName 11 = .ok (.iload_n 2, 1) := by decide +kernel
theorem dX4_placeByName_12 : decode cX4_placeByName 12 = .ok (.if_icmp .ge 45, 3) := by decide +kernel
theorem dX4_placeByName_15 : decode cX4_placeByName 15 = .ok (.aload_n 0, 1) := by decide +kernel
theorem dX4_placeByName_16 : decode cX4_placeByName 16 = .ok (.aload_n 1, 1) := by decide +kernel
theorem dX4_placeByName_17 : decode cX4_placeByName 17 = .ok (.getfield 123, 3) := by decide +kernel
theorem dX4_placeByName_20 : decode cX4_placeByName 20 = .ok (.iload_n 3, 1) := by decide +kernel
theorem dX4_placeByName_21 : decode cX4_placeByName 21 = .ok (.invokevirtual 70, 3) := by decide +kernel
theorem dX4_placeByName_24 : decode cX4_placeByName 24 = .ok (.invokevirtual 88, 3) := by decide +kernel
theorem dX4_placeByName_27 : decode cX4_placeByName 27 = .ok (.astore 4, 2) := by decide +kernel
theorem dX4_placeByName_29 : decode cX4_placeByName 29 = .ok (.aload 4, 2) := by decide +kernel
theorem dX4_placeByName_31 : decode cX4_placeByName 31 = .ok (.ifnull 20, 3) := by decide +kernel
theorem dX4_placeByName_34 : decode cX4_placeByName 34 = .ok (.aload 4, 2) := by decide +kernel
theorem dX4_placeByName_36 : decode cX4_placeByName 36 = .ok (.getfield 114, 3) := by decide +kernel
theorem dX4_placeByName_39 : decode cX4_placeByName 39 = .ok (.aload_n 0, 1) := by decide +kernel
theorem dX4_placeByName_40 : decode cX4_placeByName 40 = .ok (.getfield 21, 3) := by decide +kernel
theorem dX4_placeByName_43 : decode cX4_placeByName 43 = .ok (.invokevirtual 162, 3) := by decide +kernel
theorem dX4_placeByName_46 : decode cX4_placeByName 46 = .ok (.ifCond .le 5, 3) := by decide +kernel
theorem dX4_placeByName_49 : decode cX4_placeByName 49 = .ok (.iload_n 3, 1) := by decide +kernel
theorem dX4_placeByName_50 : decode cX4_placeByName 50 = .ok (.ireturn, 1) := by decide +kernel
theorem dX4_placeByName_51 : decode cX4_placeByName 51 = .ok (.iinc 3 1, 3) := by decide +kernel
theorem dX4_placeByName_54 : decode cX4_placeByName 54 = .ok (.goto (-44), 3) := by decide +kernel
theorem dX4_placeByName_57 : decode cX4_placeByName 57 = .ok (.iload_n 2, 1) := by decide +kernel
theorem dX4_placeByName_58 : decode cX4_placeByName 58 = .ok (.ireturn, 1) := by decide +kernel
theorem dX4_detach_0 : decode cX4_detach 0 = .ok (.aload_n 0, 1) := by decide +kernel
theorem dX4_detach_1 : decode cX4_detach 1 = .ok (.iload_n 2, 1) := by decide +kernel
theorem dX4_detach_2 : decode cX4_detach 2 = .ok (.invokevirtual 88, 3) := by decide +kernel
theorem dX4_detach_5 : decode cX4_detach 5 = .ok (.astore_n 3, 1) := by decide +kernel
theorem dX4_detach_6 : decode cX4_detach 6 = .ok (.aload_n 3, 1) := by decide +kernel
theorem dX4_detach_7 : decode cX4_detach 7 = .ok (.ifnull 19, 3) := by decide +kernel
theorem dX4_detach_10 : decode cX4_detach 10 = .ok (.aload_n 3, 1) := by decide +kernel
theorem dX4_detach_11 : decode cX4_detach 11 = .ok (.getfield 92, 3) := by decide +kernel
theorem dX4_detach_14 : decode cX4_detach 14 = .ok (.iload_n 1, 1) := by decide +kernel
theorem dX4_detach_15 : decode cX4_detach 15 = .ok (.invokevirtual 172, 3) := by decide +kernel
theorem dX4_detach_18 : decode cX4_detach 18 = .ok (.aload_n 3, 1) := by decide +kernel
theorem dX4_detach_19 : decode cX4_detach 19 = .ok (.getfield 123, 3) := by decide +kernel
theorem dX4_detach_22 : decode cX4_detach 22 = .ok (.iload_n 1, 1) := by decide +kernel
theorem dX4_detach_23 : decode cX4_detach 23 = .ok (.invokevirtual 172, 3) := by decide +kernel
theorem dX4_detach_26 : decode cX4_detach 26 = .ok (.return_, 1) := by decide +kernel
theorem dX4_isWithin_0 : decode cX4_isWithin 0 = .ok (.iload_n 1, 1) := by decide +kernel
theorem dX4_isWithin_1 : decode cX4_isWithin 1 = .ok (.istore_n 3, 1) := by decide +kernel
theorem dX4_isWithin_2 : decode cX4_isWithin 2 = .ok (.iconst 0, 1) := by decide +kernel
theorem dX4_isWithin_3 : decode cX4_isWithin 3 = .ok (.istore 4, 2) := by decide +kernel
theorem dX4_isWithin_5 : decode cX4_isWithin 5 = .ok (.iload 4, 2) := by decide +kernel
theorem dX4_isWithin_7 : decode cX4_isWithin 7 = .ok (.sipush 200, 3) := by decide +kernel
theorem dX4_isWithin_10 : decode cX4_isWithin 10 = .ok (.if_icmp .ge 36, 3) := by decide +kernel
theorem dX4_isWithin_13 : decode cX4_isWithin 13 = .ok (.iload_n 3, 1) := by decide +kernel
theorem dX4_isWithin_14 : decode cX4_isWithin 14 = .ok (.iload_n 2, 1) := by decide +kernel
theorem dX4_isWithin_15 : decode cX4_isWithin 15 = .ok (.if_icmp .ne 5, 3) := by decide +kernel
theorem dX4_isWithin_18 : decode cX4_isWithin 18 = .ok (.iconst 1, 1) := by decide +kernel
theorem dX4_isWithin_19 : decode cX4_isWithin 19 = .ok (.ireturn, 1) := by decide +kernel
theorem dX4_isWithin_20 : decode cX4_isWithin 20 = .ok (.aload_n 0, 1) := by decide +kernel
theorem dX4_isWithin_21 : decode cX4_isWithin 21 = .ok (.iload_n 3, 1) := by decide +kernel
theorem dX4_isWithin_22 : decode cX4_isWithin 22 = .ok (.invokevirtual 88, 3) := by decide +kernel
theorem dX4_isWithin_25 : decode cX4_isWithin 25 = .ok (.astore 5, 2) := by decide +kernel
theorem dX4_isWithin_27 : decode cX4_isWithin 27 = .ok (.aload 5, 2) := by decide +kernel
theorem dX4_isWithin_29 : decode cX4_isWithin 29 = .ok (.ifnonnull 5, 3) := by decide +kernel
theorem dX4_isWithin_32 : decode cX4_isWithin 32 = .ok (.iconst 0, 1) := by decide +kernel
theorem dX4_isWithin_33 : decode cX4_isWithin 33 = .ok (.ireturn, 1) := by decide +kernel
theorem dX4_isWithin_34 : decode cX4_isWithin 34 = .ok (.aload 5, 2) := by decide +kernel
theorem dX4_isWithin_36 : decode cX4_isWithin 36 = .ok (.getfield 95, 3) := by decide +kernel
theorem dX4_isWithin_39 : decode cX4_isWithin 39 = .ok (.istore_n 3, 1) := by decide +kernel
theorem dX4_isWithin_40 : decode cX4_isWithin 40 = .ok (.iinc 4 1, 3) := by decide +kernel
theorem dX4_isWithin_43 : decode cX4_isWithin 43 = .ok (.goto (-38), 3) := by decide +kernel
theorem dX4_isWithin_46 : decode cX4_isWithin 46 = .ok (.iconst 0, 1) := by decide +kernel
theorem dX4_isWithin_47 : decode cX4_isWithin 47 = .ok (.ireturn, 1) := by decide +kernel
theorem dX4_depthOf_0 : decode cX4_depthOf 0 = .ok (.aload_n 0, 1) := by decide +kernel
theorem dX4_depthOf_1 : decode cX4_depthOf 1 = .ok (.iload_n 1, 1) := by decide +kernel
theorem dX4_depthOf_2 : decode cX4_depthOf 2 = .ok (.invokevirtual 88, 3) := by decide +kernel
theorem dX4_depthOf_5 : decode cX4_depthOf 5 = .ok (.astore_n 2, 1) := by decide +kernel
theorem dX4_depthOf_6 : decode cX4_depthOf 6 = .ok (.iconst 0, 1) := by decide +kernel
theorem dX4_depthOf_7 : decode cX4_depthOf 7 = .ok (.istore_n 3, 1) := by decide +kernel
theorem dX4_depthOf_8 : decode cX4_depthOf 8 = .ok (.aload_n 2, 1) := by decide +kernel
theorem dX4_depthOf_9 : decode cX4_depthOf 9 = .ok (.ifnull 33, 3) := by decide +kernel
theorem dX4_depthOf_12 : decode cX4_depthOf 12 = .ok (.aload_n 2, 1) := by decide +kernel
theorem dX4_depthOf_13 : decode cX4_depthOf 13 = .ok (.getfield 95, 3) := by decide +kernel
theorem dX4_depthOf_16 : decode cX4_depthOf 16 = .ok (.iconst (-1), 1) := by decide +kernel
theorem dX4_depthOf_17 : decode cX4_depthOf 17 = .ok (.if_icmp .eq 25, 3) := by decide +kernel
theorem dX4_depthOf_20 : decode cX4_depthOf 20 = .ok (.iload_n 3, 1) := by decide +kernel
theorem dX4_depthOf_21 : decode cX4_depthOf 21 = .ok (.sipush 200, 3) := by decide +kernel
theorem dX4_depthOf_24 : decode cX4_depthOf 24 = .ok (.if_icmp .ge 18, 3) := by decide +kernel
theorem dX4_depthOf_27 : decode cX4_depthOf 27 = .ok (.aload_n 0, 1) := by decide +kernel
theorem dX4_depthOf_28 : decode cX4_depthOf 28 = .ok (.aload_n 2, 1) := by decide +kernel
theorem dX4_depthOf_29 : decode cX4_depthOf 29 = .ok (.getfield 95, 3) := by decide +kernel
theorem dX4_depthOf_32 : decode cX4_depthOf 32 = .ok (.invokevirtual 88, 3) := by decide +kernel
theorem dX4_depthOf_35 : decode cX4_depthOf 35 = .ok (.astore_n 2, 1) := by decide +kernel
theorem dX4_depthOf_36 : decode cX4_depthOf 36 = .ok (.iinc 3 1, 3) := by decide +kernel
theorem dX4_depthOf_39 : decode cX4_depthOf 39 = .ok (.goto (-31), 3) := by decide +kernel
theorem dX4_depthOf_42 : decode cX4_depthOf 42 = .ok (.iload_n 3, 1) := by decide +kernel
theorem dX4_depthOf_43 : decode cX4_depthOf 43 = .ok (.ireturn, 1) := by decide +kernel
end
section
theorem dX5_init_0 : decode cX5_init 0 = .ok (.aload_n 0, 1) := by decide +kernel
theorem dX5_init_1 : decode cX5_init 1 = .ok (.invokespecial 1, 3) := by decide +kernel
theorem dX5_init_4 : decode cX5_init 4 = .ok (.aload_n 0, 1) := by decide +kernel
theorem dX5_init_5 : decode cX5_init 5 = .ok (.sipush 200, 3) := by decide +kernel
theorem dX5_init_8 : decode cX5_init 8 = .ok (.newarray .int, 2) := by decide +kernel
theorem dX5_init_10 : decode cX5_init 10 = .ok (.putfield 7, 3) := by decide +kernel
theorem dX5_init_13 : decode cX5_init 13 = .ok (.aload_n 0, 1) := by decide +kernel
theorem dX5_init_14 : decode cX5_init 14 = .ok (.sipush 200, 3) := by decide +kernel
theorem dX5_init_17 : decode cX5_init 17 = .ok (.newarray .boolean, 2) := by decide +kernel
theorem dX5_init_19 : decode cX5_init 19 = .ok (.putfield 13, 3) := by decide +kernel
theorem dX5_init_22 : decode cX5_init 22 = .ok (.aload_n 0, 1) := by decide +kernel
theorem dX5_init_23 : decode cX5_init 23 = .ok (.sipush 200, 3) := by decide +kernel
theorem dX5_init_26 : decode cX5_init 26 = .ok (.newarray .boolean, 2) := by decide +kernel
theorem dX5_init_28 : decode cX5_init 28 = .ok (.putfield 17, 3) := by decide +kernel
theorem dX5_init_31 : decode cX5_init 31 = .ok (.aload_n 0, 1) := by decide +kernel
theorem dX5_init_32 : decode cX5_init 32 = .ok (.sipush 200, 3) := by decide +kernel
theorem dX5_init_35 : decode cX5_init 35 = .ok (.newarray .int, 2) := by decide +kernel
theorem dX5_init_37 : decode cX5_init 37 = .ok (.putfield 20, 3) := by decide +kernel
theorem dX5_init_40 : decode cX5_init 40 = .ok (.aload_n 0, 1) := by decide +kernel
theorem dX5_init_41 : decode cX5_init 41 = .ok (.sipush 12000, 3) := by decide +kernel
theorem dX5_init_44 : decode cX5_init 44 = .ok (.newarray .int, 2) := by decide +kernel
theorem dX5_init_46 : decode cX5_init 46 = .ok (.putfield 23, 3) := by decide +kernel
theorem dX5_init_49 : decode cX5_init 49 = .ok (.aload_n 0, 1) := by decide +kernel
theorem dX5_init_50 : decode cX5_init 50 = .ok (.sipush 200, 3) := by decide +kernel
theorem dX5_init_53 : decode cX5_init 53 = .ok (.newarray .int, 2) := by decide +kernel
theorem dX5_init_55 : decode cX5_init 55 = .ok (.putfield 26, 3) := by decide +kernel
theorem dX5_init_58 : decode cX5_init 58 = .ok (.aload_n 0, 1) := by decide +kernel
theorem dX5_init_59 : decode cX5_init 59 = .ok (.sipush 12000, 3) := by decide +kernel
theorem dX5_init_62 : decode cX5_init 62 = .ok (.newarray .int, 2) := by decide +kernel
theorem dX5_init_64 : decode cX5_init 64 = .ok (.putfield 29, 3) := by decide +kernel
theorem dX5_init_67 : decode cX5_init 67 = .ok (.aload_n 0, 1) := by decide +kernel
theorem dX5_init_68 : decode cX5_init 68 = .ok (.sipush 200, 3) := by decide +kernel
theorem dX5_init_71 : decode cX5_init 71 = .ok (.newarray .int, 2) := by decide +kernel
theorem dX5_init_73 : decode cX5_init 73 = .ok (.putfield 32, 3) := by decide +kernel
theorem dX5_init_76 : decode cX5_init 76 = .ok (.aload_n 0, 1) := by decide +kernel
theorem dX5_init_77 : decode cX5_init 77 = .ok (.sipush 8000, 3) := by decide +kernel
theorem dX5_init_80 : decode cX5_init 80 = .ok (.newarray .int, 2) := by decide +kernel
theorem dX5_init_82 : decode cX5_init 82 = .ok (.putfield 35, 3) := by decide +kernel
theorem dX5_init_85 : decode cX5_init 85 = .ok (.aload_n 0, 1) := by decide +kernel
theorem dX5_init_86 : decode cX5_init 86 = .ok (.sipush 200, 3) := by decide +kernel
theorem dX5_init_89 : decode cX5_init 89 = .ok (.newarray .int, 2) := by decide +kernel
theorem dX5_init_91 : decode cX5_init 91 = .ok (.putfield 38, 3) := by decide +kernel
theorem dX5_init_94 : decode cX5_init 94 = .ok (.aload_n 0, 1) := by decide +kernel
theorem dX5_init_95 : decode cX5_init 95 = .ok (.sipush 400, 3) := by decide +kernel
theorem dX5_init_98 : decode cX5_init 98 = .ok (.newarray .int, 2) := by decide +kernel
theorem dX5_init_100 : decode cX5_init 100 = .ok (.putfield 41, 3) := by decide +kernel
theorem dX5_init_103 : decode cX5_init 103 = .ok (.aload_n 0, 1) := by decide +kernel
theorem dX5_init_104 : decode cX5_init 104 = .ok (.sipush 200, 3) := by decide +kernel
theorem dX5_init_107 : decode cX5_init 107 = .ok (.newarray .int, 2) := by decide +kernel
theorem dX5_init_109 : decode cX5_init 109 = .ok (.putfield 44, 3) := by decide +kernel
theorem dX5_init_112 : decode cX5_init 112 = .ok (.aload_n 0, 1) := by decide +kernel
theorem dX5_init_113 : decode cX5_init 113 = .ok (.sipush 200, 3) := by decide +kernel
theorem dX5_init_116 : decode cX5_init 116 = .ok (.newarray .int, 2) := by decide +kernel
theorem dX5_init_118 : decode cX5_init 118 = .ok (.putfield 47, 3) := by decide +kernel
theorem dX5_init_121 : decode cX5_init 121 = .ok (.aload_n 0, 1) := by decide +kernel
theorem dX5_init_122 : decode cX5_init 122 = .ok (.sipush 400, 3) := by decide +kernel
theorem dX5_init_125 : decode cX5_init 125 = .ok (.newarray .int, 2) := by decide +kernel
theorem dX5_init_127 : decode cX5_init 127 = .ok (.putfield 50, 3) := by decide +kernel
theorem dX5_init_130 : decode cX5_init 130 = .ok (.aload_n 0, 1) := by decide +kernel
theorem dX5_init_131 : decode cX5_init 131 = .ok (.sipush 200, 3) := by decide +kernel
theorem dX5_init_134 : decode cX5_init 134 = .ok (.newarray .int, 2) := by decide +kernel
theorem dX5_init_136 : decode cX5_init 136 = .ok (.putfield 53, 3) := by decide +kernel
theorem dX5_init_139 : decode cX5_init 139 = .ok (.aload_n 0, 1) := by decide +kernel
theorem dX5_init_140 : decode cX5_init 140 = .ok (.getfield 13, 3) := by decide +kernel
theorem dX5_init_143 : decode cX5_init 143 = .ok (.iconst 0, 1) := by decide +kernel
theorem dX5_init_144 : decode cX5_init 144 = .ok (.iconst 1, 1) := by decide +kernel
theorem dX5_init_145 : decode cX5_init 145 = .ok (.bastore, 1) := by decide +kernel
theorem dX5_init_146 : decode cX5_init 146 = .ok (.aload_n 0, 1) := by decide +kernel
theorem dX5_init_147 : decode cX5_init 147 = .ok (.getfield 17, 3) := by decide +kernel
theorem dX5_init_150 : decode cX5_init 150 = .ok (.iconst 0, 1) := by decide +kernel
theorem dX5_init_151 : decode cX5_init 151 = .ok (.iconst 1, 1) := by decide +kernel
theorem dX5_init_152 : decode cX5_init 152 = .ok (.bastore, 1) := by decide +kernel
theorem dX5_init_153 : decode cX5_init 153 = .ok (.aload_n 0, 1) := by decide +kernel
theorem dX5_init_154 : decode cX5_init 154 = .ok (.getfield 20, 3) := by decide +kernel
theorem dX5_init_157 : decode cX5_init 157 = .ok (.iconst 0, 1) := by decide +kernel
theorem dX5_init_158 : decode cX5_init 158 = .ok (.iconst (-1), 1) := by decide +kernel
theorem dX5_init_159 : decode cX5_init 159 = .ok (.iastore, 1) := by decide +kernel
theorem dX5_init_160 : decode cX5_init 160 = .ok (.return_, 1) := by decide +kernel
theorem dX5_thrown_0 : decode cX5_thrown 0 = .ok (.aload_n 0, 1) := by decide +kernel
theorem dX5_thrown_1 : decode cX5_thrown 1 = .ok (.getfield 56, 3) := by decide +kernel
theorem dX5_thrown_4 : decode cX5_thrown 4 = .ok (.ireturn, 1) := by decide +kernel
theorem dX5_feed_0 : decode cX5_feed 0 = .ok (.aload_n 0, 1) := by decide +kernel
theorem dX5_feed_1 : decode cX5_feed 1 = .ok (.iload_n 1, 1) := by decide +kernel
theorem dX5_feed_2 : decode cX5_feed 2 = .ok (.iconst 1, 1) := by decide +kernel
theorem dX5_feed_3 : decode cX5_feed 3 = .ok (.if_icmp .lt 21, 3) := by decide +kernel
theorem dX5_feed_6 : decode cX5_feed 6 = .ok (.iload_n 1, 1) := by decide +kernel
theorem dX5_feed_7 : decode cX5_feed 7 = .ok (.bipush 8, 2) := by decide +kernel
theorem dX5_feed_9 : decode cX5_feed 9 = .ok (.if_icmp .gt 15, 3) := by decide +kernel
theorem dX5_feed_12 : decode cX5_feed 12 = .ok (.aload_n 0, 1) := by decide +kernel
theorem dX5_feed_13 : decode cX5_feed 13 = .ok (.getfield 60, 3) := by decide +kernel
theorem dX5_feed_16 : decode cX5_feed 16 = .ok (.iload_n 1, 1) := by decide +kernel
theorem dX5_feed_17 : decode cX5_feed 17 = .ok (.iadd, 1) := by decide +kernel
theorem dX5_feed_18 : decode cX5_feed 18 = .ok (.sipush 200, 3) := by decide +kernel
theorem dX5_feed_21 : decode cX5_feed 21 = .ok (.if_icmp .le 7, 3) := by decide +kernel
theorem dX5_feed_24 : decode cX5_feed 24 = .ok (.iconst 1, 1) := by decide +kernel
theorem dX5_feed_25 : decode cX5_feed 25 = .ok (.goto 4, 3) := by decide +kernel
theorem dX5_feed_28 : decode cX5_feed 28 = .ok (.iconst 0, 1) := by decide +kernel
theorem dX5_feed_29 : decode cX5_feed 29 = .ok (.putfield 56, 3) := by decide +kernel
theorem dX5_feed_32 : decode cX5_feed 32 = .ok (.aload_n 0, 1) := by decide +kernel
theorem dX5_feed_33 : decode cX5_feed 33 = .ok (.getfield 56, 3) := by decide +kernel
theorem dX5_feed_36 : decode cX5_feed 36 = .ok (.ifCond .le 5, 3) := by decide +kernel
theorem dX5_feed_39 : decode cX5_feed 39 = .ok (.iconst 0, 1) := by decide +kernel
theorem dX5_feed_40 : decode cX5_feed 40 = .ok (.ireturn, 1) := by decide +kernel
theorem dX5_feed_41 : decode cX5_feed 41 = .ok (.iconst 0, 1) := by decide +kernel
theorem dX5_feed_42 : decode cX5_feed 42 = .ok (.istore 4, 2) := by decide +kernel
theorem dX5_feed_44 : decode cX5_feed 44 = .ok (.iload 4, 2) := by decide +kernel
theorem dX5_feed_46 : decode cX5_feed 46 = .ok (.iload_n 1, 1) := by decide +kernel
theorem dX5_feed_47 : decode cX5_feed 47 = .ok (.if_icmp .ge 33, 3) := by decide +kernel
theorem dX5_feed_50 : decode cX5_feed 50 = .ok (.aload_n 0, 1) := by decide +kernel
theorem dX5_feed_51 : decode cX5_feed 51 = .ok (.getfield 7, 3) := by decide +kernel
theorem dX5_feed_54 : decode cX5_feed 54 = .ok (.aload_n 0, 1) := by decide +kernel
theorem dX5_feed_55 : decode cX5_feed 55 = .ok (.getfield 60, 3) := by decide +kernel
theorem dX5_feed_58 : decode cX5_feed 58 = .ok (.iload 4, 2) := by decide +kernel
theorem dX5_feed_60 : decode cX5_feed 60 = .ok (.iadd, 1) := by decide +kernel
theorem dX5_feed_61 : decode cX5_feed 61 = .ok (.lload_n 2, 1) := by decide +kernel
theorem dX5_feed_62 : decode cX5_feed 62 = .ok (.bipush 8, 2) := by decide +kernel
theorem dX5_feed_64 : decode cX5_feed 64 = .ok (.iload 4, 2) := by decide +kernel
theorem dX5_feed_66 : decode cX5_feed 66 = .ok (.imul, 1) := by decide +kernel
theorem dX5_feed_67 : decode cX5_feed 67 = .ok (.lshr, 1) := by decide +kernel
theorem dX5_feed_68 : decode cX5_feed 68 = .ok (.ldc2_w 63, 3) := by decide +kernel
theorem dX5_feed_71 : decode cX5_feed 71 = .ok (.land, 1) := by decide +kernel
theorem dX5_feed_72 : decode cX5_feed 72 = .ok (.l2i, 1) := by decide +kernel
theorem dX5_feed_73 : decode cX5_feed 73 = .ok (.iastore, 1) := by decide +kernel
theorem dX5_feed_74 : decode cX5_feed 74 = .ok (.iinc 4 1, 3) := by decide +kernel
theorem dX5_feed_77 : decode cX5_feed 77 = .ok (.goto (-33), 3) := by decide +kernel
theorem dX5_feed_80 : decode cX5_feed 80 = .ok (.aload_n 0, 1) := by decide +kernel
theorem dX5_feed_81 : decode cX5_feed 81 = .ok (.dup, 1) := by decide +kernel
theorem dX5_feed_82 : decode cX5_feed 82 = .ok (.getfield 60, 3) := by decide +kernel
theorem dX5_feed_85 : decode cX5_feed 85 = .ok (.iload_n 1, 1) := by decide +kernel
theorem dX5_feed_86 : decode cX5_feed 86 = .ok (.iadd, 1) := by decide +kernel
theorem dX5_feed_87 : decode cX5_feed 87 = .ok (.putfield 60, 3) := by decide +kernel
theorem dX5_feed_90 : decode cX5_feed 90 = .ok (.aload_n 0, 1) := by decide +kernel
theorem dX5_feed_91 : decode cX5_feed 91 = .ok (.getfield 60, 3) := by decide +kernel
theorem dX5_feed_94 : decode cX5_feed 94 = .ok (.ireturn, 1) := by decide +kernel
theorem dX5_takeTape_0 : decode cX5_takeTape 0 = .ok (.aload_n 0, 1) := by decide +kernel
theorem dX5_takeTape_1 : decode cX5_takeTape 1 = .ok (.aload_n 0, 1) := by decide +kernel
theorem dX5_takeTape_2 : decode cX5_takeTape 2 = .ok (.getfield 60, 3) := by decide +kernel
theorem dX5_takeTape_5 : decode cX5_takeTape 5 = .ok (.putfield 65, 3) := by decide +kernel
theorem dX5_takeTape_8 : decode cX5_takeTape 8 = .ok (.iconst 0, 1) := by decide +kernel
theorem dX5_takeTape_9 : decode cX5_takeTape 9 = .ok (.istore_n 1, 1) := by decide +kernel
theorem dX5_takeTape_10 : decode cX5_takeTape 10 = .ok (.iload_n 1, 1) := by decide +kernel
theorem dX5_takeTape_11 : decode cX5_takeTape 11 = .ok (.aload_n 0, 1) := by decide +kernel
theorem dX5_takeTape_12 : decode cX5_takeTape 12 = .ok (.getfield 60, 3) := by decide +kernel
theorem dX5_takeTape_15 : decode cX5_takeTape 15 = .ok (.if_icmp .ge 21, 3) := by decide +kernel
theorem dX5_takeTape_18 : decode cX5_takeTape 18 = .ok (.aload_n 0, 1) := by decide +kernel
theorem dX5_takeTape_19 : decode cX5_takeTape 19 = .ok (.getfield 44, 3) := by decide +kernel
theorem dX5_takeTape_22 : decode cX5_takeTape 22 = .ok (.iload_n 1, 1) := by decide +kernel
theorem dX5_takeTape_23 : decode cX5_takeTape 23 = .ok (.aload_n 0, 1) := by decide +kernel
theorem dX5_takeTape_24 : decode cX5_takeTape 24 = .ok (.getfield 7, 3) := by decide +kernel
theorem dX5_takeTape_27 : decode cX5_takeTape 27 = .ok (.iload_n 1, 1) := by decide +kernel
theorem dX5_takeTape_28 : decode cX5_takeTape 28 = .ok (.iaload, 1) := by decide +kernel
theorem dX5_takeTape_29 : decode cX5_takeTape 29 = .ok (.iastore, 1) := by decide +kernel
theorem dX5_takeTape_30 : decode cX5_takeTape 30 = .ok (.iinc 1 1, 3) := by decide +kernel
theorem dX5_takeTape_33 : decode cX5_takeTape 33 = .ok (.goto (-23), 3) := by decide +kernel
theorem dX5_takeTape_36 : decode cX5_takeTape 36 = .ok (.aload_n 0, 1) := by decide +kernel
theorem dX5_takeTape_37 : decode cX5_takeTape 37 = .ok (.iconst 0, 1) := by decide +kernel
theorem dX5_takeTape_38 : decode cX5_takeTape 38 = .ok (.putfield 60, 3) := by decide +kernel
theorem dX5_takeTape_41 : decode cX5_takeTape 41 = .ok (.return_, 1) := by decide +kernel
theorem dX5_read_0 : decode cX5_read 0 = .ok (.aload_n 0, 1) := by decide +kernel
theorem dX5_read_1 : decode cX5_read 1 = .ok (.iconst 0, 1) := by decide +kernel
theorem dX5_read_2 : decode cX5_read 2 = .ok (.putfield 68, 3) := by decide +kernel
theorem dX5_read_5 : decode cX5_read 5 = .ok (.iconst 0, 1) := by decide +kernel
theorem dX5_read_6 : decode cX5_read 6 = .ok (.istore_n 1, 1) := by decide +kernel
theorem dX5_read_7 : decode cX5_read 7 = .ok (.iload_n 1, 1) := by decide +kernel
theorem dX5_read_8 : decode cX5_read 8 = .ok (.aload_n 0, 1) := by decide +kernel
theorem dX5_read_9 : decode cX5_read 9 = .ok (.getfield 65, 3) := by decide +kernel
theorem dX5_read_12 : decode cX5_read 12 = .ok (.if_icmp .ge 282, 3) := by decide +kernel
theorem dX5_read_15 : decode cX5_read 15 = .ok (.aload_n 0, 1) := by decide +kernel
theorem dX5_read_16 : decode cX5_read 16 = .ok (.getfield 44, 3) := by decide +kernel
theorem dX5_read_19 : decode cX5_read 19 = .ok (.iload_n 1, 1) := by decide +kernel
theorem dX5_read_20 : decode cX5_read 20 = .ok (.iaload, 1) := by decide +kernel
theorem dX5_read_21 : decode cX5_read 21 = .ok (.istore_n 2, 1) := by decide +kernel
theorem dX5_read_22 : decode cX5_read 22 = .ok (.iload_n 2, 1) := by decide +kernel
theorem dX5_read_23 : decode cX5_read 23 = .ok (.sipush 128, 3) := by decide +kernel
theorem dX5_read_26 : decode cX5_read 26 = .ok (.if_icmp .ge 7, 3) := by decide +kernel
theorem dX5_read_29 : decode cX5_read 29 = .ok (.iconst 0, 1) := by decide +kernel
theorem dX5_read_30 : decode cX5_read 30 = .ok (.goto 58, 3) := by decide +kernel
theorem dX5_read_33 : decode cX5_read 33 = .ok (.iload_n 2, 1) := by decide +kernel
theorem dX5_read_34 : decode cX5_read 34 = .ok (.sipush 194, 3) := by decide +kernel
theorem dX5_read_37 : decode cX5_read 37 = .ok (.if_icmp .lt 14, 3) := by decide +kernel
theorem dX5_read_40 : decode cX5_read 40 = .ok (.iload_n 2, 1) := by decide +kernel
theorem dX5_read_41 : decode cX5_read 41 = .ok (.sipush 223, 3) := by decide +kernel
theorem dX5_read_44 : decode cX5_read 44 = .ok (.if_icmp .gt 7, 3) := by decide +kernel
theorem dX5_read_47 : decode cX5_read 47 = .ok (.iconst 1, 1) := by decide +kernel
theorem dX5_read_48 : decode cX5_read 48 = .ok (.goto 40, 3) := by decide +kernel
theorem dX5_read_51 : decode cX5_read 51 = .ok (.iload_n 2, 1) := by decide +kernel
theorem dX5_read_52 : decode cX5_read 52 = .ok (.sipush 224, 3) := by decide +kernel
theorem dX5_read_55 : decode cX5_read 55 = .ok (.if_icmp .lt 14, 3) := by decide +kernel
theorem dX5_read_58 : decode cX5_read 58 = .ok (.iload_n 2, 1) := by decide +kernel
theorem dX5_read_59 : decode cX5_read 59 = .ok (.sipush 239, 3) := by decide +kernel
theorem dX5_read_62 : decode cX5_read 62 = .ok (.if_icmp .gt 7, 3) := by decide +kernel
theorem dX5_read_65 : decode cX5_read 65 = .ok (.iconst 2, 1) := by decide +kernel
theorem dX5_read_66 : decode cX5_read 66 = .ok (.goto 22, 3) := by decide +kernel
theorem dX5_read_69 : decode cX5_read 69 = .ok (.iload_n 2, 1) := by decide +kernel
theorem dX5_read_70 : decode cX5_read 70 = .ok (.sipush 240, 3) := by decide +kernel
theorem dX5_read_73 : decode cX5_read 73 = .ok (.if_icmp .lt 14, 3) := by decide +kernel
theorem dX5_read_76 : decode cX5_read 76 = .ok (.iload_n 2, 1) := by decide +kernel
theorem dX5_read_77 : decode cX5_read 77 = .ok (.sipush 244, 3) := by decide +kernel
theorem dX5_read_80 : decode cX5_read 80 = .ok (.if_icmp .gt 7, 3) := by decide +kernel
theorem dX5_read_83 : decode cX5_read 83 = .ok (.iconst 3, 1) := by decide +kernel
theorem dX5_read_84 : decode cX5_read 84 = .ok (.goto 4, 3) := by decide +kernel
theorem dX5_read_87 : decode cX5_read 87 = .ok (.iconst (-1), 1) := by decide +kernel
theorem dX5_read_88 : decode cX5_read 88 = .ok (.istore_n 3, 1) := by decide +kernel
theorem dX5_read_89 : decode cX5_read 89 = .ok (.iload_n 3, 1) := by decide +kernel
theorem dX5_read_90 : decode cX5_read 90 = .ok (.ifCond .lt 13, 3) := by decide +kernel
theorem dX5_read_93 : decode cX5_read 93 = .ok (.iload_n 1, 1) := by decide +kernel
theorem dX5_read_94 : decode cX5_read 94 = .ok (.iload_n 3, 1) := by decide +kernel
theorem dX5_read_95 : decode cX5_read 95 = .ok (.iadd, 1) := by decide +kernel
theorem dX5_read_96 : decode cX5_read 96 = .ok (.aload_n 0, 1) := by decide +kernel
theorem dX5_read_97 : decode cX5_read 97 = .ok (.getfield 65, 3) := by decide +kernel
theorem dX5_read_100 : decode cX5_read 100 = .ok (.if_icmp .lt 5, 3) := by decide +kernel
theorem dX5_read_103 : decode cX5_read 103 = .ok (.iload_n 1, 1) := by decide +kernel
theorem dX5_read_104 : decode cX5_read 104 = .ok (.ireturn, 1) := by decide +kernel
theorem dX5_read_105 : decode cX5_read 105 = .ok (.iload_n 3, 1) := by decide +kernel
theorem dX5_read_106 : decode cX5_read 106 = .ok (.ifCond .ne 7, 3) := by decide +kernel
theorem dX5_read_109 : decode cX5_read 109 = .ok (.iload_n 2, 1) := by decide +kernel
theorem dX5_read_110 : decode cX5_read 110 = .ok (.goto 31, 3) := by decide +kernel
theorem dX5_read_113 : decode cX5_read 113 = .ok (.iload_n 3, 1) := by decide +kernel
theorem dX5_read_114 : decode cX5_read 114 = .ok (.iconst 1, 1) := by decide +kernel
theorem dX5_read_115 : decode cX5_read 115 = .ok (.if_icmp .ne 10, 3) := by decide +kernel
theorem dX5_read_118 : decode cX5_read 118 = .ok (.iload_n 2, 1) := by decide +kernel
theorem dX5_read_119 : decode cX5_read 119 = .ok (.bipush 31, 2) := by decide +kernel
theorem dX5_read_121 : decode cX5_read 121 = .ok (.iand, 1) := by decide +kernel
theorem dX5_read_122 : decode cX5_read 122 = .ok (.goto 19, 3) := by decide +kernel
theorem dX5_read_125 : decode cX5_read 125 = .ok (.iload_n 3, 1) := by decide +kernel
theorem dX5_read_126 : decode cX5_read 126 = .ok (.iconst 2, 1) := by decide +kernel
theorem dX5_read_127 : decode cX5_read 127 = .ok (.if_icmp .ne 10, 3) := by decide +kernel
theorem dX5_read_130 : decode cX5_read 130 = .ok (.iload_n 2, 1) := by decide +kernel
theorem dX5_read_131 : decode cX5_read 131 = .ok (.bipush 15, 2) := by decide +kernel
theorem dX5_read_133 : decode cX5_read 133 = .ok (.iand, 1) := by decide +kernel
theorem dX5_read_134 : decode cX5_read 134 = .ok (.goto 7, 3) := by decide +kernel
theorem dX5_read_137 : decode cX5_read 137 = .ok (.iload_n 2, 1) := by decide +kernel
theorem dX5_read_138 : decode cX5_read 138 = .ok (.bipush 7, 2) := by decide +kernel
theorem dX5_read_140 : decode cX5_read 140 = .ok (.iand, 1) := by decide +kernel
theorem dX5_read_141 : decode cX5_read 141 = .ok (.istore 4, 2) := by decide +kernel
theorem dX5_read_143 : decode cX5_read 143 = .ok (.iconst 1, 1) := by decide +kernel
theorem dX5_read_144 : decode cX5_read 144 = .ok (.istore 5, 2) := by decide +kernel
theorem dX5_read_146 : decode cX5_read 146 = .ok (.iload 5, 2) := by decide +kernel
theorem dX5_read_148 : decode cX5_read 148 = .ok (.iload_n 3, 1) := by decide +kernel
theorem dX5_read_149 : decode cX5_read 149 = .ok (.if_icmp .gt 51, 3) := by decide +kernel
theorem dX5_read_152 : decode cX5_read 152 = .ok (.aload_n 0, 1) := by decide +kernel
theorem dX5_read_153 : decode cX5_read 153 = .ok (.getfield 44, 3) := by decide +kernel
theorem dX5_read_156 : decode cX5_read 156 = .ok (.iload_n 1, 1) := by decide +kernel
theorem dX5_read_157 : decode cX5_read 157 = .ok (.iload 5, 2) := by decide +kernel
theorem dX5_read_159 : decode cX5_read 159 = .ok (.iadd, 1) := by decide +kernel
theorem dX5_read_160 : decode cX5_read 160 = .ok (.iaload, 1) := by decide +kernel
theorem dX5_read_161 : decode cX5_read 161 = .ok (.istore 6, 2) := by decide +kernel
theorem dX5_read_163 : decode cX5_read 163 = .ok (.iload 6, 2) := by decide +kernel
theorem dX5_read_165 : decode cX5_read 165 = .ok (.sipush 128, 3) := by decide +kernel
theorem dX5_read_168 : decode cX5_read 168 = .ok (.if_icmp .lt 11, 3) := by decide +kernel
theorem dX5_read_171 : decode cX5_read 171 = .ok (.iload 6, 2) := by decide +kernel
theorem dX5_read_173 : decode cX5_read 173 = .ok (.sipush 191, 3) := by decide +kernel
theorem dX5_read_176 : decode cX5_read 176 = .ok (.if_icmp .le 5, 3) := by decide +kernel
theorem dX5_read_179 : decode cX5_read 179 = .ok (.iload_n 1, 1) := by decide +kernel
theorem dX5_read_180 : decode cX5_read 180 = .ok (.ireturn, 1) := by decide +kernel
theorem dX5_read_181 : decode cX5_read 181 = .ok (.iload 4, 2) := by decide +kernel
theorem dX5_read_183 : decode cX5_read 183 = .ok (.bipush 6, 2) := by decide +kernel
theorem dX5_read_185 : decode cX5_read 185 = .ok (.ishl, 1) := by decide +kernel
theorem dX5_read_186 : decode cX5_read 186 = .ok (.iload 6, 2) := by decide +kernel
theorem dX5_read_188 : decode cX5_read 188 = .ok (.bipush 63, 2) := by decide +kernel
theorem dX5_read_190 : decode cX5_read 190 = .ok (.iand, 1) := by decide +kernel
theorem dX5_read_191 : decode cX5_read 191 = .ok (.ior, 1) := by decide +kernel
theorem dX5_read_192 : decode cX5_read 192 = .ok (.istore 4, 2) := by decide +kernel
theorem dX5_read_194 : decode cX5_read 194 = .ok (.iinc 5 1, 3) := by decide +kernel
theorem dX5_read_197 : decode cX5_read 197 = .ok (.goto (-51), 3) := by decide +kernel
theorem dX5_read_200 : decode cX5_read 200 = .ok (.iload_n 3, 1) := by decide +kernel
theorem dX5_read_201 : decode cX5_read 201 = .ok (.ifCond .ne 7, 3) := by decide +kernel
theorem dX5_read_204 : decode cX5_read 204 = .ok (.iconst 0, 1) := by decide +kernel
theorem dX5_read_205 : decode cX5_read 205 = .ok (.goto 27, 3) := by decide +kernel
theorem dX5_read_208 : decode cX5_read 208 = .ok (.iload_n 3, 1) := by decide +kernel
theorem dX5_read_209 : decode cX5_read 209 = .ok (.iconst 1, 1) := by decide +kernel
theorem dX5_read_210 : decode cX5_read 210 = .ok (.if_icmp .ne 9, 3) := by decide +kernel
theorem dX5_read_213 : decode cX5_read 213 = .ok (.sipush 128, 3) := by decide +kernel
theorem dX5_read_216 : decode cX5_read 216 = .ok (.goto 16, 3) := by decide +kernel
theorem dX5_read_219 : decode cX5_read 219 = .ok (.iload_n 3, 1) := by decide +kernel
theorem dX5_read_220 : decode cX5_read 220 = .ok (.iconst 2, 1) := by decide +kernel
theorem dX5_read_221 : decode cX5_read 221 = .ok (.if_icmp .ne 9, 3) := by decide +kernel
theorem dX5_read_224 : decode cX5_read 224 = .ok (.sipush 2048, 3) := by decide +kernel
theorem dX5_read_227 : decode cX5_read 227 = .ok (.goto 5, 3) := by decide +kernel
theorem dX5_read_230 : decode cX5_read 230 = .ok (.ldc 71, 2) := by decide +kernel
theorem dX5_read_232 : decode cX5_read 232 = .ok (.istore 5, 2) := by decide +kernel
theorem dX5_read_234 : decode cX5_read 234 = .ok (.iload 4, 2) := by decide +kernel
theorem dX5_read_236 : decode cX5_read 236 = .ok (.iload 5, 2) := by decide +kernel
theorem dX5_read_238 : decode cX5_read 238 = .ok (.if_icmp .lt 24, 3) := by decide +kernel
theorem dX5_read_241 : decode cX5_read 241 = .ok (.iload 4, 2) := by decide +kernel
theorem dX5_read_243 : decode cX5_read 243 = .ok (.ldc 72, 2) := by decide +kernel
theorem dX5_read_245 : decode cX5_read 245 = .ok (.if_icmp .gt 17, 3) := by decide +kernel
theorem dX5_read_248 : decode cX5_read 248 = .ok (.iload 4, 2) := by decide +kernel
theorem dX5_read_250 : decode cX5_read 250 = .ok (.ldc 73, 2) := by decide +kernel
theorem dX5_read_252 : decode cX5_read 252 = .ok (.if_icmp .lt 12, 3) := by decide +kernel
theorem dX5_read_255 : decode cX5_read 255 = .ok (.iload 4, 2) := by decide +kernel
theorem dX5_read_257 : decode cX5_read 257 = .ok (.ldc 74, 2) := by decide +kernel
theorem dX5_read_259 : decode cX5_read 259 = .ok (.if_icmp .gt 5, 3) := by decide +kernel
theorem dX5_read_262 : decode cX5_read 262 = .ok (.iload_n 1, 1) := by decide +kernel
theorem dX5_read_263 : decode cX5_read 263 = .ok (.ireturn, 1) := by decide +kernel
theorem dX5_read_264 : decode cX5_read 264 = .ok (.aload_n 0, 1) := by decide +kernel
theorem dX5_read_265 : decode cX5_read 265 = .ok (.getfield 47, 3) := by decide +kernel
theorem dX5_read_268 : decode cX5_read 268 = .ok (.aload_n 0, 1) := by decide +kernel
theorem dX5_read_269 : decode cX5_read 269 = .ok (.getfield 68, 3) := by decide +kernel
theorem dX5_read_272 : decode cX5_read 272 = .ok (.iload 4, 2) := by decide +kernel
theorem dX5_read_274 : decode cX5_read 274 = .ok (.iastore, 1) := by decide +kernel
theorem dX5_read_275 : decode cX5_read 275 = .ok (.aload_n 0, 1) := by decide +kernel
theorem dX5_read_276 : decode cX5_read 276 = .ok (.dup, 1) := by decide +kernel
theorem dX5_read_277 : decode cX5_read 277 = .ok (.getfield 68, 3) := by decide +kernel
theorem dX5_read_280 : decode cX5_read 280 = .ok (.iconst 1, 1) := by decide +kernel
theorem dX5_read_281 : decode cX5_read 281 = .ok (.iadd, 1) := by decide +kernel
theorem dX5_read_282 : decode cX5_read 282 = .ok (.putfield 68, 3) := by decide +kernel
theorem dX5_read_285 : decode cX5_read 285 = .ok (.iload_n 1, 1) := by decide +kernel
theorem dX5_read_286 : decode cX5_read 286 = .ok (.iload_n 3, 1) := by decide +kernel
theorem dX5_read_287 : decode cX5_read 287 = .ok (.iconst 1, 1) := by decide +kernel
theorem dX5_read_288 : decode cX5_read 288 = .ok (.iadd, 1) := by decide +kernel
theorem dX5_read_289 : decode cX5_read 289 = .ok (.iadd, 1) := by decide +kernel
theorem dX5_read_290 : decode cX5_read 290 = .ok (.istore_n 1, 1) := by decide +kernel
theorem dX5_read_291 : decode cX5_read 291 = .ok (.goto (-284), 3) := by decide +kernel
theorem dX5_read_294 : decode cX5_read 294 = .ok (.iconst (-1), 1) := by decide +kernel
theorem dX5_read_295 : decode cX5_read 295 = .ok (.ireturn, 1) := by decide +kernel
theorem dX5_letters_0 : decode cX5_letters 0 = .ok (.iload_n 0, 1) := by decide +kernel
theorem dX5_letters_1 : decode cX5_letters 1 = .ok (.tableswitch 71 0 6 #[43, 47, 51, 55, 59, 63, 67], 43) := by decide +kernel
theorem dX5_letters_44 : decode cX5_letters 44 = .ok (.ldc2_w 75, 3) := by decide +kernel
theorem dX5_letters_47 : decode cX5_letters 47 = .ok (.lreturn, 1) := by decide +kernel
theorem dX5_letters_48 : decode cX5_letters 48 = .ok (.ldc2_w 77, 3) := by decide +kernel
theorem dX5_letters_51 : decode cX5_letters 51 = .ok (.lreturn, 1) := by decide +kernel
theorem dX5_letters_52 : decode cX5_letters 52 = .ok (.ldc2_w 79, 3) := by decide +kernel
theorem dX5_letters_55 : decode cX5_letters 55 = .ok (.lreturn, 1) := by decide +kernel
theorem dX5_letters_56 : decode cX5_letters 56 = .ok (.ldc2_w 81, 3) := by decide +kernel
theorem dX5_letters_59 : decode cX5_letters 59 = .ok (.lreturn, 1) := by decide +kernel
theorem dX5_letters_60 : decode cX5_letters 60 = .ok (.ldc2_w 83, 3) := by decide +kernel
theorem dX5_letters_63 : decode cX5_letters 63 = .ok (.lreturn, 1) := by decide +kernel
theorem dX5_letters_64 : decode cX5_letters 64 = .ok (.ldc2_w 85, 3) := by decide +kernel
theorem dX5_letters_67 : decode cX5_letters 67 = .ok (.lreturn, 1) := by decide +kernel
theorem dX5_letters_68 : decode cX5_letters 68 = .ok (.ldc2_w 87, 3) := by decide +kernel
theorem dX5_letters_71 : decode cX5_letters 71 = .ok (.lreturn, 1) := by decide +kernel
theorem dX5_letters_72 : decode cX5_letters 72 = .ok (.ldc2_w 89, 3) := by decide +kernel
theorem dX5_letters_75 : decode cX5_letters 75 = .ok (.lreturn, 1) := by decide +kernel
theorem dX5_marks_0 : decode cX5_marks 0 = .ok (.iload_n 0, 1) := by decide +kernel
theorem dX5_marks_1 : decode cX5_marks 1 = .ok (.tableswitch 71 0 6 #[43, 47, 51, 55, 59, 63, 67], 43) := by decide +kernel
theorem dX5_marks_44 : decode cX5_marks 44 = .ok (.ldc2_w 91, 3) := by decide +kernel
theorem dX5_marks_47 : decode cX5_marks 47 = .ok (.lreturn, 1) := by decide +kernel
theorem dX5_marks_48 : decode cX5_marks 48 = .ok (.ldc2_w 93, 3) := by decide +kernel
theorem dX5_marks_51 : decode cX5_marks 51 = .ok (.lreturn, 1) := by decide +kernel
theorem dX5_marks_52 : decode cX5_marks 52 = .ok (.ldc2_w 95, 3) := by decide +kernel
theorem dX5_marks_55 : decode cX5_marks 55 = .ok (.lreturn, 1) := by decide +kernel
theorem dX5_marks_56 : decode cX5_marks 56 = .ok (.ldc2_w 97, 3) := by decide +kernel
theorem dX5_marks_59 : decode cX5_marks 59 = .ok (.lreturn, 1) := by decide +kernel
theorem dX5_marks_60 : decode cX5_marks 60 = .ok (.ldc2_w 91, 3) := by decide +kernel
theorem dX5_marks_63 : decode cX5_marks 63 = .ok (.lreturn, 1) := by decide +kernel
theorem dX5_marks_64 : decode cX5_marks 64 = .ok (.ldc2_w 93, 3) := by decide +kernel
theorem dX5_marks_67 : decode cX5_marks 67 = .ok (.lreturn, 1) := by decide +kernel
theorem dX5_marks_68 : decode cX5_marks 68 = .ok (.ldc2_w 95, 3) := by decide +kernel
theorem dX5_marks_71 : decode cX5_marks 71 = .ok (.lreturn, 1) := by decide +kernel
theorem dX5_marks_72 : decode cX5_marks 72 = .ok (.ldc2_w 99, 3) := by decide +kernel
theorem dX5_marks_75 : decode cX5_marks 75 = .ok (.lreturn, 1) := by decide +kernel
theorem dX5_markOf_0 : decode cX5_markOf 0 = .ok (.iload_n 0, 1) := by decide +kernel
theorem dX5_markOf_1 : decode cX5_markOf 1 = .ok (.bipush 52, 2) := by decide +kernel
theorem dX5_markOf_3 : decode cX5_markOf 3 = .ok (.if_icmp .ge 14, 3) := by decide +kernel
theorem dX5_markOf_6 : decode cX5_markOf 6 = .ok (.sipush 768, 3) := by decide +kernel
theorem dX5_markOf_9 : decode cX5_markOf 9 = .ok (.iload_n 0, 1) := by decide +kernel
theorem dX5_markOf_10 : decode cX5_markOf 10 = .ok (.iadd, 1) := by decide +kernel
theorem dX5_markOf_11 : decode cX5_markOf 11 = .ok (.bipush 48, 2) := by decide +kernel
theorem dX5_markOf_13 : decode cX5_markOf 13 = .ok (.isub, 1) := by decide +kernel
theorem dX5_markOf_14 : decode cX5_markOf 14 = .ok (.goto 30, 3) := by decide +kernel
theorem dX5_markOf_17 : decode cX5_markOf 17 = .ok (.iload_n 0, 1) := by decide +kernel
theorem dX5_markOf_18 : decode cX5_markOf 18 = .ok (.bipush 52, 2) := by decide +kernel
theorem dX5_markOf_20 : decode cX5_markOf 20 = .ok (.if_icmp .ne 9, 3) := by decide +kernel
theorem dX5_markOf_23 : decode cX5_markOf 23 = .ok (.sipush 776, 3) := by decide +kernel
theorem dX5_markOf_26 : decode cX5_markOf 26 = .ok (.goto 18, 3) := by decide +kernel
theorem dX5_markOf_29 : decode cX5_markOf 29 = .ok (.iload_n 0, 1) := by decide +kernel
theorem dX5_markOf_30 : decode cX5_markOf 30 = .ok (.bipush 53, 2) := by decide +kernel
theorem dX5_markOf_32 : decode cX5_markOf 32 = .ok (.if_icmp .ne 9, 3) := by decide +kernel
theorem dX5_markOf_35 : decode cX5_markOf 35 = .ok (.sipush 778, 3) := by decide +kernel
theorem dX5_markOf_38 : decode cX5_markOf 38 = .ok (.goto 6, 3) := by decide +kernel
theorem dX5_markOf_41 : decode cX5_markOf 41 = .ok (.sipush 807, 3) := by decide +kernel
theorem dX5_markOf_44 : decode cX5_markOf 44 = .ok (.ireturn, 1) := by decide +kernel
theorem dX5_small_0 : decode cX5_small 0 = .ok (.iload_n 0, 1) := by decide +kernel
theorem dX5_small_1 : decode cX5_small 1 = .ok (.bipush 65, 2) := by decide +kernel
theorem dX5_small_3 : decode cX5_small 3 = .ok (.if_icmp .lt 9, 3) := by decide +kernel
theorem dX5_small_6 : decode cX5_small 6 = .ok (.iload_n 0, 1) := by decide +kernel
theorem dX5_small_7 : decode cX5_small 7 = .ok (.bipush 90, 2) := by decide +kernel
theorem dX5_small_9 : decode cX5_small 9 = .ok (.if_icmp .le 59, 3) := by decide +kernel
theorem dX5_small_12 : decode cX5_small 12 = .ok (.iload_n 0, 1) := by decide +kernel
theorem dX5_small_13 : decode cX5_small 13 = .ok (.sipush 192, 3) := by decide +kernel
theorem dX5_small_16 : decode cX5_small 16 = .ok (.if_icmp .lt 17, 3) := by decide +kernel
theorem dX5_small_19 : decode cX5_small 19 = .ok (.iload_n 0, 1) := by decide +kernel
theorem dX5_small_20 : decode cX5_small 20 = .ok (.sipush 222, 3) := by decide +kernel
theorem dX5_small_23 : decode cX5_small 23 = .ok (.if_icmp .gt 10, 3) := by decide +kernel
theorem dX5_small_26 : decode cX5_small 26 = .ok (.iload_n 0, 1) := by decide +kernel
theorem dX5_small_27 : decode cX5_small 27 = .ok (.sipush 215, 3) := by decide +kernel
theorem dX5_small_30 : decode cX5_small 30 = .ok (.if_icmp .ne 38, 3) := by decide +kernel
theorem dX5_small_33 : decode cX5_small 33 = .ok (.iload_n 0, 1) := by decide +kernel
theorem dX5_small_34 : decode cX5_small 34 = .ok (.sipush 913, 3) := by decide +kernel
theorem dX5_small_37 : decode cX5_small 37 = .ok (.if_icmp .lt 17, 3) := by decide +kernel
theorem dX5_small_40 : decode cX5_small 40 = .ok (.iload_n 0, 1) := by decide +kernel
theorem dX5_small_41 : decode cX5_small 41 = .ok (.sipush 939, 3) := by decide +kernel
theorem dX5_small_44 : decode cX5_small 44 = .ok (.if_icmp .gt 10, 3) := by decide +kernel
theorem dX5_small_47 : decode cX5_small 47 = .ok (.iload_n 0, 1) := by decide +kernel
theorem dX5_small_48 : decode cX5_small 48 = .ok (.sipush 930, 3) := by decide +kernel
theorem dX5_small_51 : decode cX5_small 51 = .ok (.if_icmp .ne 17, 3) := by decide +kernel
theorem dX5_small_54 : decode cX5_small 54 = .ok (.iload_n 0, 1) := by decide +kernel
theorem dX5_small_55 : decode cX5_small 55 = .ok (.sipush 1040, 3) := by decide +kernel
theorem dX5_small_58 : decode cX5_small 58 = .ok (.if_icmp .lt 15, 3) := by decide +kernel
theorem dX5_small_61 : decode cX5_small 61 = .ok (.iload_n 0, 1) := by decide +kernel
theorem dX5_small_62 : decode cX5_small 62 = .ok (.sipush 1071, 3) := by decide +kernel
theorem dX5_small_65 : decode cX5_small 65 = .ok (.if_icmp .gt 8, 3) := by decide +kernel
theorem dX5_small_68 : decode cX5_small 68 = .ok (.iload_n 0, 1) := by decide +kernel
theorem dX5_small_69 : decode cX5_small 69 = .ok (.bipush 32, 2) := by decide +kernel
theorem dX5_small_71 : decode cX5_small 71 = .ok (.iadd, 1) := by decide +kernel
theorem dX5_small_72 : decode cX5_small 72 = .ok (.ireturn, 1) := by decide +kernel
theorem dX5_small_73 : decode cX5_small 73 = .ok (.iload_n 0, 1) := by decide +kernel
theorem dX5_small_74 : decode cX5_small 74 = .ok (.sipush 256, 3) := by decide +kernel
theorem dX5_small_77 : decode cX5_small 77 = .ok (.if_icmp .lt 10, 3) := by decide +kernel
theorem dX5_small_80 : decode cX5_small 80 = .ok (.iload_n 0, 1) := by decide +kernel
theorem dX5_small_81 : decode cX5_small 81 = .ok (.sipush 303, 3) := by decide +kernel
theorem dX5_small_84 : decode cX5_small 84 = .ok (.if_icmp .le 17, 3) := by decide +kernel
theorem dX5_small_87 : decode cX5_small 87 = .ok (.iload_n 0, 1) := by decide +kernel
theorem dX5_small_88 : decode cX5_small 88 = .ok (.sipush 330, 3) := by decide +kernel
theorem dX5_small_91 : decode cX5_small 91 = .ok (.if_icmp .lt 24, 3) := by decide +kernel
theorem dX5_small_94 : decode cX5_small 94 = .ok (.iload_n 0, 1) := by decide +kernel
theorem dX5_small_95 : decode cX5_small 95 = .ok (.sipush 375, 3) := by decide +kernel
theorem dX5_small_98 : decode cX5_small 98 = .ok (.if_icmp .gt 17, 3) := by decide +kernel
theorem dX5_small_101 : decode cX5_small 101 = .ok (.iload_n 0, 1) := by decide +kernel
theorem dX5_small_102 : decode cX5_small 102 = .ok (.iconst 2, 1) := by decide +kernel
theorem dX5_small_103 : decode cX5_small 103 = .ok (.irem, 1) := by decide +kernel
theorem dX5_small_104 : decode cX5_small 104 = .ok (.ifCond .ne 9, 3) := by decide +kernel
theorem dX5_small_107 : decode cX5_small 107 = .ok (.iload_n 0, 1) := by decide +kernel
theorem dX5_small_108 : decode cX5_small 108 = .ok (.iconst 1, 1) := by decide +kernel
theorem dX5_small_109 : decode cX5_small 109 = .ok (.iadd, 1) := by decide +kernel
theorem dX5_small_110 : decode cX5_small 110 = .ok (.goto 4, 3) := by decide +kernel
theorem dX5_small_113 : decode cX5_small 113 = .ok (.iload_n 0, 1) := by decide +kernel
theorem dX5_small_114 : decode cX5_small 114 = .ok (.ireturn, 1) := by decide +kernel
theorem dX5_small_115 : decode cX5_small 115 = .ok (.iload_n 0, 1) := by decide +kernel
theorem dX5_small_116 : decode cX5_small 116 = .ok (.sipush 313, 3) := by decide +kernel
theorem dX5_small_119 : decode cX5_small 119 = .ok (.if_icmp .lt 10, 3) := by decide +kernel
theorem dX5_small_122 : decode cX5_small 122 = .ok (.iload_n 0, 1) := by decide +kernel
theorem dX5_small_123 : decode cX5_small 123 = .ok (.sipush 328, 3) := by decide +kernel
theorem dX5_small_126 : decode cX5_small 126 = .ok (.if_icmp .le 17, 3) := by decide +kernel
theorem dX5_small_129 : decode cX5_small 129 = .ok (.iload_n 0, 1) := by decide +kernel
theorem dX5_small_130 : decode cX5_small 130 = .ok (.sipush 377, 3) := by decide +kernel
theorem dX5_small_133 : decode cX5_small 133 = .ok (.if_icmp .lt 25, 3) := by decide +kernel
theorem dX5_small_136 : decode cX5_small 136 = .ok (.iload_n 0, 1) := by decide +kernel
theorem dX5_small_137 : decode cX5_small 137 = .ok (.sipush 382, 3) := by decide +kernel
theorem dX5_small_140 : decode cX5_small 140 = .ok (.if_icmp .gt 18, 3) := by decide +kernel
theorem dX5_small_143 : decode cX5_small 143 = .ok (.iload_n 0, 1) := by decide +kernel
theorem dX5_small_144 : decode cX5_small 144 = .ok (.iconst 2, 1) := by decide +kernel
theorem dX5_small_145 : decode cX5_small 145 = .ok (.irem, 1) := by decide +kernel
theorem dX5_small_146 : decode cX5_small 146 = .ok (.iconst 1, 1) := by decide +kernel
theorem dX5_small_147 : decode cX5_small 147 = .ok (.if_icmp .ne 9, 3) := by decide +kernel
theorem dX5_small_150 : decode cX5_small 150 = .ok (.iload_n 0, 1) := by decide +kernel
theorem dX5_small_151 : decode cX5_small 151 = .ok (.iconst 1, 1) := by decide +kernel
theorem dX5_small_152 : decode cX5_small 152 = .ok (.iadd, 1) := by decide +kernel
theorem dX5_small_153 : decode cX5_small 153 = .ok (.goto 4, 3) := by decide +kernel
theorem dX5_small_156 : decode cX5_small 156 = .ok (.iload_n 0, 1) := by decide +kernel
theorem dX5_small_157 : decode cX5_small 157 = .ok (.ireturn, 1) := by decide +kernel
theorem dX5_small_158 : decode cX5_small 158 = .ok (.iload_n 0, 1) := by decide +kernel
theorem dX5_small_159 : decode cX5_small 159 = .ok (.sipush 1024, 3) := by decide +kernel
theorem dX5_small_162 : decode cX5_small 162 = .ok (.if_icmp .lt 15, 3) := by decide +kernel
theorem dX5_small_165 : decode cX5_small 165 = .ok (.iload_n 0, 1) := by decide +kernel
theorem dX5_small_166 : decode cX5_small 166 = .ok (.sipush 1039, 3) := by decide +kernel
theorem dX5_small_169 : decode cX5_small 169 = .ok (.if_icmp .gt 8, 3) := by decide +kernel
theorem dX5_small_172 : decode cX5_small 172 = .ok (.iload_n 0, 1) := by decide +kernel
theorem dX5_small_173 : decode cX5_small 173 = .ok (.bipush 80, 2) := by decide +kernel
theorem dX5_small_175 : decode cX5_small 175 = .ok (.iadd, 1) := by decide +kernel
theorem dX5_small_176 : decode cX5_small 176 = .ok (.ireturn, 1) := by decide +kernel
theorem dX5_small_177 : decode cX5_small 177 = .ok (.iload_n 0, 1) := by decide +kernel
theorem dX5_small_178 : decode cX5_small 178 = .ok (.sipush 376, 3) := by decide +kernel
theorem dX5_small_181 : decode cX5_small 181 = .ok (.if_icmp .ne 9, 3) := by decide +kernel
theorem dX5_small_184 : decode cX5_small 184 = .ok (.sipush 255, 3) := by decide +kernel
theorem dX5_small_187 : decode cX5_small 187 = .ok (.goto 42, 3) := by decide +kernel
theorem dX5_small_190 : decode cX5_small 190 = .ok (.iload_n 0, 1) := by decide +kernel
theorem dX5_small_191 : decode cX5_small 191 = .ok (.sipush 962, 3) := by decide +kernel
theorem dX5_small_194 : decode cX5_small 194 = .ok (.if_icmp .ne 9, 3) := by decide +kernel
theorem dX5_small_197 : decode cX5_small 197 = .ok (.sipush 963, 3) := by decide +kernel
theorem dX5_small_200 : decode cX5_small 200 = .ok (.goto 29, 3) := by decide +kernel
theorem dX5_small_203 : decode cX5_small 203 = .ok (.iload_n 0, 1) := by decide +kernel
theorem dX5_small_204 : decode cX5_small 204 = .ok (.sipush 181, 3) := by decide +kernel
theorem dX5_small_207 : decode cX5_small 207 = .ok (.if_icmp .ne 9, 3) := by decide +kernel
theorem dX5_small_210 : decode cX5_small 210 = .ok (.sipush 956, 3) := by decide +kernel
theorem dX5_small_213 : decode cX5_small 213 = .ok (.goto 16, 3) := by decide +kernel
theorem dX5_small_216 : decode cX5_small 216 = .ok (.iload_n 0, 1) := by decide +kernel
theorem dX5_small_217 : decode cX5_small 217 = .ok (.sipush 383, 3) := by decide +kernel
theorem dX5_small_220 : decode cX5_small 220 = .ok (.if_icmp .ne 8, 3) := by decide +kernel
theorem dX5_small_223 : decode cX5_small 223 = .ok (.bipush 115, 2) := by decide +kernel
theorem dX5_small_225 : decode cX5_small 225 = .ok (.goto 4, 3) := by decide +kernel
theorem dX5_small_228 : decode cX5_small 228 = .ok (.iload_n 0, 1) := by decide +kernel
theorem dX5_small_229 : decode cX5_small 229 = .ok (.ireturn, 1) := by decide +kernel
theorem dX5_classOf_0 : decode cX5_classOf 0 = .ok (.iload_n 0, 1) := by decide +kernel
theorem dX5_classOf_1 : decode cX5_classOf 1 = .ok (.sipush 768, 3) := by decide +kernel
theorem dX5_classOf_4 : decode cX5_classOf 4 = .ok (.if_icmp .lt 16, 3) := by decide +kernel
theorem dX5_classOf_7 : decode cX5_classOf 7 = .ok (.iload_n 0, 1) := by decide +kernel
theorem dX5_classOf_8 : decode cX5_classOf 8 = .ok (.sipush 783, 3) := by decide +kernel
theorem dX5_classOf_11 : decode cX5_classOf 11 = .ok (.if_icmp .gt 9, 3) := by decide +kernel
theorem dX5_classOf_14 : decode cX5_classOf 14 = .ok (.sipush 230, 3) := by decide +kernel
theorem dX5_classOf_17 : decode cX5_classOf 17 = .ok (.goto 37, 3) := by decide +kernel
theorem dX5_classOf_20 : decode cX5_classOf 20 = .ok (.iload_n 0, 1) := by decide +kernel
theorem dX5_classOf_21 : decode cX5_classOf 21 = .ok (.sipush 803, 3) := by decide +kernel
theorem dX5_classOf_24 : decode cX5_classOf 24 = .ok (.if_icmp .ne 9, 3) := by decide +kernel
theorem dX5_classOf_27 : decode cX5_classOf 27 = .ok (.sipush 220, 3) := by decide +kernel
theorem dX5_classOf_30 : decode cX5_classOf 30 = .ok (.goto 24, 3) := by decide +kernel
theorem dX5_classOf_33 : decode cX5_classOf 33 = .ok (.iload_n 0, 1) := by decide +kernel
theorem dX5_classOf_34 : decode cX5_classOf 34 = .ok (.sipush 807, 3) := by decide +kernel
theorem dX5_classOf_37 : decode cX5_classOf 37 = .ok (.if_icmp .eq 10, 3) := by decide +kernel
theorem dX5_classOf_40 : decode cX5_classOf 40 = .ok (.iload_n 0, 1) := by decide +kernel
theorem dX5_classOf_41 : decode cX5_classOf 41 = .ok (.sipush 808, 3) := by decide +kernel
theorem dX5_classOf_44 : decode cX5_classOf 44 = .ok (.if_icmp .ne 9, 3) := by decide +kernel
theorem dX5_classOf_47 : decode cX5_classOf 47 = .ok (.sipush 202, 3) := by decide +kernel
theorem dX5_classOf_50 : decode cX5_classOf 50 = .ok (.goto 4, 3) := by decide +kernel
theorem dX5_classOf_53 : decode cX5_classOf 53 = .ok (.iconst 0, 1) := by decide +kernel
theorem dX5_classOf_54 : decode cX5_classOf 54 = .ok (.ireturn, 1) := by decide +kernel
theorem dX5_putPoint_0 : decode cX5_putPoint 0 = .ok (.iload_n 1, 1) := by decide +kernel
theorem dX5_putPoint_1 : decode cX5_putPoint 1 = .ok (.invokestatic 101, 3) := by decide +kernel
theorem dX5_putPoint_4 : decode cX5_putPoint 4 = .ok (.istore_n 2, 1) := by decide +kernel
theorem dX5_putPoint_5 : decode cX5_putPoint 5 = .ok (.iload_n 2, 1) := by decide +kernel
theorem dX5_putPoint_6 : decode cX5_putPoint 6 = .ok (.invokestatic 105, 3) := by decide +kernel
theorem dX5_putPoint_9 : decode cX5_putPoint 9 = .ok (.istore_n 3, 1) := by decide +kernel
theorem dX5_putPoint_10 : decode cX5_putPoint 10 = .ok (.aload_n 0, 1) := by decide +kernel
theorem dX5_putPoint_11 : decode cX5_putPoint 11 = .ok (.getfield 108, 3) := by decide +kernel
theorem dX5_putPoint_14 : decode cX5_putPoint 14 = .ok (.istore 4, 2) := by decide +kernel
theorem dX5_putPoint_16 : decode cX5_putPoint 16 = .ok (.iload_n 3, 1) := by decide +kernel
theorem dX5_putPoint_17 : decode cX5_putPoint 17 = .ok (.ifCond .le 46, 3) := by decide +kernel
theorem dX5_putPoint_20 : decode cX5_putPoint 20 = .ok (.iload 4, 2) := by decide +kernel
theorem dX5_putPoint_22 : decode cX5_putPoint 22 = .ok (.ifCond .le 41, 3) := by decide +kernel
theorem dX5_putPoint_25 : decode cX5_putPoint 25 = .ok (.aload_n 0, 1) := by decide +kernel
theorem dX5_putPoint_26 : decode cX5_putPoint 26 = .ok (.getfield 50, 3) := by decide +kernel
theorem dX5_putPoint_29 : decode cX5_putPoint 29 = .ok (.iload 4, 2) := by decide +kernel
theorem dX5_putPoint_31 : decode cX5_putPoint 31 = .ok (.iconst 1, 1) := by decide +kernel
theorem dX5_putPoint_32 : decode cX5_putPoint 32 = .ok (.isub, 1) := by decide +kernel
theorem dX5_putPoint_33 : decode cX5_putPoint 33 = .ok (.iaload, 1) := by decide +kernel
theorem dX5_putPoint_34 : decode cX5_putPoint 34 = .ok (.invokestatic 105, 3) := by decide +kernel
theorem dX5_putPoint_37 : decode cX5_putPoint 37 = .ok (.iload_n 3, 1) := by decide +kernel
theorem dX5_putPoint_38 : decode cX5_putPoint 38 = .ok (.if_icmp .le 25, 3) := by decide +kernel
theorem dX5_putPoint_41 : decode cX5_putPoint 41 = .ok (.aload_n 0, 1) := by decide +kernel
theorem dX5_putPoint_42 : decode cX5_putPoint 42 = .ok (.getfield 50, 3) := by decide +kernel
theorem dX5_putPoint_45 : decode cX5_putPoint 45 = .ok (.iload 4, 2) := by decide +kernel
theorem dX5_putPoint_47 : decode cX5_putPoint 47 = .ok (.aload_n 0, 1) := by decide +kernel
theorem dX5_putPoint_48 : decode cX5_putPoint 48 = .ok (.getfield 50, 3) := by decide +kernel
theorem dX5_putPoint_51 : decode cX5_putPoint 51 = .ok (.iload 4, 2) := by decide +kernel
theorem dX5_putPoint_53 : decode cX5_putPoint 53 = .ok (.iconst 1, 1) := by decide +kernel
theorem dX5_putPoint_54 : decode cX5_putPoint 54 = .ok (.isub, 1) := by decide +kernel
theorem dX5_putPoint_55 : decode cX5_putPoint 55 = .ok (.iaload, 1) := by decide +kernel
theorem dX5_putPoint_56 : decode cX5_putPoint 56 = .ok (.iastore, 1) := by decide +kernel
theorem dX5_putPoint_57 : decode cX5_putPoint 57 = .ok (.iinc 4 (-1), 3) := by decide +kernel
theorem dX5_putPoint_60 : decode cX5_putPoint 60 = .ok (.goto (-44), 3) := by decide +kernel
theorem dX5_putPoint_63 : decode cX5_putPoint 63 = .ok (.aload_n 0, 1) := by decide +kernel
theorem dX5_putPoint_64 : decode cX5_putPoint 64 = .ok (.getfield 50, 3) := by decide +kernel
theorem dX5_putPoint_67 : decode cX5_putPoint 67 = .ok (.iload 4, 2) := by decide +kernel
theorem dX5_putPoint_69 : decode cX5_putPoint 69 = .ok (.iload_n 2, 1) := by decide +kernel
theorem dX5_putPoint_70 : decode cX5_putPoint 70 = .ok (.iastore, 1) := by decide +kernel
theorem dX5_putPoint_71 : decode cX5_putPoint 71 = .ok (.aload_n 0, 1) := by decide +kernel
theorem dX5_putPoint_72 : decode cX5_putPoint 72 = .ok (.dup, 1) := by decide +kernel
theorem dX5_putPoint_73 : decode cX5_putPoint 73 = .ok (.getfield 108, 3) := by decide +kernel
theorem dX5_putPoint_76 : decode cX5_putPoint 76 = .ok (.iconst 1, 1) := by decide +kernel
theorem dX5_putPoint_77 : decode cX5_putPoint 77 = .ok (.iadd, 1) := by decide +kernel
theorem dX5_putPoint_78 : decode cX5_putPoint 78 = .ok (.putfield 108, 3) := by decide +kernel
theorem dX5_putPoint_81 : decode cX5_putPoint 81 = .ok (.return_, 1) := by decide +kernel
theorem dX5_foldAll_0 : decode cX5_foldAll 0 = .ok (.aload_n 0, 1) := by decide +kernel
theorem dX5_foldAll_1 : decode cX5_foldAll 1 = .ok (.iconst 0, 1) := by decide +kernel
theorem dX5_foldAll_2 : decode cX5_foldAll 2 = .ok (.putfield 108, 3) := by decide +kernel
theorem dX5_foldAll_5 : decode cX5_foldAll 5 = .ok (.iconst 0, 1) := by decide +kernel
theorem dX5_foldAll_6 : decode cX5_foldAll 6 = .ok (.istore_n 1, 1) := by decide +kernel
theorem dX5_foldAll_7 : decode cX5_foldAll 7 = .ok (.iload_n 1, 1) := by decide +kernel
theorem dX5_foldAll_8 : decode cX5_foldAll 8 = .ok (.aload_n 0, 1) := by decide +kernel
theorem dX5_foldAll_9 : decode cX5_foldAll 9 = .ok (.getfield 68, 3) := by decide +kernel
theorem dX5_foldAll_12 : decode cX5_foldAll 12 = .ok (.if_icmp .ge 111, 3) := by decide +kernel
theorem dX5_foldAll_15 : decode cX5_foldAll 15 = .ok (.aload_n 0, 1) := by decide +kernel
theorem dX5_foldAll_16 : decode cX5_foldAll 16 = .ok (.getfield 47, 3) := by decide +kernel
theorem dX5_foldAll_19 : decode cX5_foldAll 19 = .ok (.iload_n 1, 1) := by decide +kernel
theorem dX5_foldAll_20 : decode cX5_foldAll 20 = .ok (.iaload, 1) := by decide +kernel
theorem dX5_foldAll_21 : decode cX5_foldAll 21 = .ok (.istore_n 2, 1) := by decide +kernel
theorem dX5_foldAll_22 : decode cX5_foldAll 22 = .ok (.iload_n 2, 1) := by decide +kernel
theorem dX5_foldAll_23 : decode cX5_foldAll 23 = .ok (.sipush 192, 3) := by decide +kernel
theorem dX5_foldAll_26 : decode cX5_foldAll 26 = .ok (.isub, 1) := by decide +kernel
theorem dX5_foldAll_27 : decode cX5_foldAll 27 = .ok (.istore_n 3, 1) := by decide +kernel
theorem dX5_foldAll_28 : decode cX5_foldAll 28 = .ok (.iload_n 2, 1) := by decide +kernel
theorem dX5_foldAll_29 : decode cX5_foldAll 29 = .ok (.sipush 192, 3) := by decide +kernel
theorem dX5_foldAll_32 : decode cX5_foldAll 32 = .ok (.if_icmp .lt 33, 3) := by decide +kernel
theorem dX5_foldAll_35 : decode cX5_foldAll 35 = .ok (.iload_n 2, 1) := by decide +kernel
theorem dX5_foldAll_36 : decode cX5_foldAll 36 = .ok (.sipush 255, 3) := by decide +kernel
theorem dX5_foldAll_39 : decode cX5_foldAll 39 = .ok (.if_icmp .gt 26, 3) := by decide +kernel
theorem dX5_foldAll_42 : decode cX5_foldAll 42 = .ok (.iload_n 3, 1) := by decide +kernel
theorem dX5_foldAll_43 : decode cX5_foldAll 43 = .ok (.bipush 8, 2) := by decide +kernel
theorem dX5_foldAll_45 : decode cX5_foldAll 45 = .ok (.idiv, 1) := by decide +kernel
theorem dX5_foldAll_46 : decode cX5_foldAll 46 = .ok (.invokestatic 111, 3) := by decide +kernel
theorem dX5_foldAll_49 : decode cX5_foldAll 49 = .ok (.bipush 8, 2) := by decide +kernel
theorem dX5_foldAll_51 : decode cX5_foldAll 51 = .ok (.iload_n 3, 1) := by decide +kernel
theorem dX5_foldAll_52 : decode cX5_foldAll 52 = .ok (.bipush 8, 2) := by decide +kernel
theorem dX5_foldAll_54 : decode cX5_foldAll 54 = .ok (.irem, 1) := by decide +kernel
theorem dX5_foldAll_55 : decode cX5_foldAll 55 = .ok (.imul, 1) := by decide +kernel
theorem dX5_foldAll_56 : decode cX5_foldAll 56 = .ok (.lshr, 1) := by decide +kernel
theorem dX5_foldAll_57 : decode cX5_foldAll 57 = .ok (.ldc2_w 63, 3) := by decide +kernel
theorem dX5_foldAll_60 : decode cX5_foldAll 60 = .ok (.land, 1) := by decide +kernel
theorem dX5_foldAll_61 : decode cX5_foldAll 61 = .ok (.l2i, 1) := by decide +kernel
theorem dX5_foldAll_62 : decode cX5_foldAll 62 = .ok (.goto 5, 3) := by decide +kernel
theorem dX5_foldAll_65 : decode cX5_foldAll 65 = .ok (.bipush 95, 2) := by decide +kernel
theorem dX5_foldAll_67 : decode cX5_foldAll 67 = .ok (.istore 4, 2) := by decide +kernel
theorem dX5_foldAll_69 : decode cX5_foldAll 69 = .ok (.iload 4, 2) := by decide +kernel
theorem dX5_foldAll_71 : decode cX5_foldAll 71 = .ok (.bipush 95, 2) := by decide +kernel
theorem dX5_foldAll_73 : decode cX5_foldAll 73 = .ok (.if_icmp .ne 11, 3) := by decide +kernel
theorem dX5_foldAll_76 : decode cX5_foldAll 76 = .ok (.aload_n 0, 1) := by decide +kernel
theorem dX5_foldAll_77 : decode cX5_foldAll 77 = .ok (.iload_n 2, 1) := by decide +kernel
theorem dX5_foldAll_78 : decode cX5_foldAll 78 = .ok (.invokevirtual 115, 3) := by decide +kernel
theorem dX5_foldAll_81 : decode cX5_foldAll 81 = .ok (.goto 36, 3) := by decide +kernel
theorem dX5_foldAll_84 : decode cX5_foldAll 84 = .ok (.aload_n 0, 1) := by decide +kernel
theorem dX5_foldAll_85 : decode cX5_foldAll 85 = .ok (.iload 4, 2) := by decide +kernel
theorem dX5_foldAll_87 : decode cX5_foldAll 87 = .ok (.invokevirtual 115, 3) := by decide +kernel
theorem dX5_foldAll_90 : decode cX5_foldAll 90 = .ok (.aload_n 0, 1) := by decide +kernel
theorem dX5_foldAll_91 : decode cX5_foldAll 91 = .ok (.iload_n 3, 1) := by decide +kernel
theorem dX5_foldAll_92 : decode cX5_foldAll 92 = .ok (.bipush 8, 2) := by decide +kernel
theorem dX5_foldAll_94 : decode cX5_foldAll 94 = .ok (.idiv, 1) := by decide +kernel
theorem dX5_foldAll_95 : decode cX5_foldAll 95 = .ok (.invokestatic 119, 3) := by decide +kernel
theorem dX5_foldAll_98 : decode cX5_foldAll 98 = .ok (.bipush 8, 2) := by decide +kernel
theorem dX5_foldAll_100 : decode cX5_foldAll 100 = .ok (.iload_n 3, 1) := by decide +kernel
theorem dX5_foldAll_101 : decode cX5_foldAll 101 = .ok (.bipush 8, 2) := by decide +kernel
theorem dX5_foldAll_103 : decode cX5_foldAll 103 = .ok (.irem, 1) := by decide +kernel
theorem dX5_foldAll_104 : decode cX5_foldAll 104 = .ok (.imul, 1) := by decide +kernel
theorem dX5_foldAll_105 : decode cX5_foldAll 105 = .ok (.lshr, 1) := by decide +kernel
theorem dX5_foldAll_106 : decode cX5_foldAll 106 = .ok (.ldc2_w 63, 3) := by decide +kernel
theorem dX5_foldAll_109 : decode cX5_foldAll 109 = .ok (.land, 1) := by decide +kernel
theorem dX5_foldAll_110 : decode cX5_foldAll 110 = .ok (.l2i, 1) := by decide +kernel
theorem dX5_foldAll_111 : decode cX5_foldAll 111 = .ok (.invokestatic 122, 3) := by decide +kernel
theorem dX5_foldAll_114 : decode cX5_foldAll 114 = .ok (.invokevirtual 115, 3) := by decide +kernel
theorem dX5_foldAll_117 : decode cX5_foldAll 117 = .ok (.iinc 1 1, 3) := by decide +kernel
theorem dX5_foldAll_120 : decode cX5_foldAll 120 = .ok (.goto (-113), 3) := by decide +kernel
theorem dX5_foldAll_123 : decode cX5_foldAll 123 = .ok (.return_, 1) := by decide +kernel
theorem dX5_check_0 : decode cX5_check 0 = .ok (.aload_n 0, 1) := by decide +kernel
theorem dX5_check_1 : decode cX5_check 1 = .ok (.iconst 0, 1) := by decide +kernel
theorem dX5_check_2 : decode cX5_check 2 = .ok (.putfield 56, 3) := by decide +kernel
theorem dX5_check_5 : decode cX5_check 5 = .ok (.aload_n 0, 1) := by decide +kernel
theorem dX5_check_6 : decode cX5_check 6 = .ok (.invokevirtual 125, 3) := by decide +kernel
theorem dX5_check_9 : decode cX5_check 9 = .ok (.aload_n 0, 1) := by decide +kernel
theorem dX5_check_10 : decode cX5_check 10 = .ok (.invokevirtual 128, 3) := by decide +kernel
theorem dX5_check_13 : decode cX5_check 13 = .ok (.ireturn, 1) := by decide +kernel
theorem dX5_fold_0 : decode cX5_fold 0 = .ok (.aload_n 0, 1) := by decide +kernel
theorem dX5_fold_1 : decode cX5_fold 1 = .ok (.iconst 0, 1) := by decide +kernel
theorem dX5_fold_2 : decode cX5_fold 2 = .ok (.putfield 56, 3) := by decide +kernel
theorem dX5_fold_5 : decode cX5_fold 5 = .ok (.aload_n 0, 1) := by decide +kernel
theorem dX5_fold_6 : decode cX5_fold 6 = .ok (.invokevirtual 125, 3) := by decide +kernel
theorem dX5_fold_9 : decode cX5_fold 9 = .ok (.aload_n 0, 1) := by decide +kernel
theorem dX5_fold_10 : decode cX5_fold 10 = .ok (.invokevirtual 128, 3) := by decide +kernel
theorem dX5_fold_13 : decode cX5_fold 13 = .ok (.ifCond .lt 6, 3) := by decide +kernel
theorem dX5_fold_16 : decode cX5_fold 16 = .ok (.bipush (-2), 2) := by decide +kernel
theorem dX5_fold_18 : decode cX5_fold 18 = .ok (.ireturn, 1) := by decide +kernel
theorem dX5_fold_19 : decode cX5_fold 19 = .ok (.aload_n 0, 1) := by decide +kernel
theorem dX5_fold_20 : decode cX5_fold 20 = .ok (.invokevirtual 132, 3) := by decide +kernel
theorem dX5_fold_23 : decode cX5_fold 23 = .ok (.aload_n 0, 1) := by decide +kernel
theorem dX5_fold_24 : decode cX5_fold 24 = .ok (.aload_n 0, 1) := by decide +kernel
theorem dX5_fold_25 : decode cX5_fold 25 = .ok (.getfield 108, 3) := by decide +kernel
theorem dX5_fold_28 : decode cX5_fold 28 = .ok (.putfield 135, 3) := by decide +kernel
theorem dX5_fold_31 : decode cX5_fold 31 = .ok (.iconst 0, 1) := by decide +kernel
theorem dX5_fold_32 : decode cX5_fold 32 = .ok (.istore_n 1, 1) := by decide +kernel
theorem dX5_fold_33 : decode cX5_fold 33 = .ok (.iload_n 1, 1) := by decide +kernel
theorem dX5_fold_34 : decode cX5_fold 34 = .ok (.aload_n 0, 1) := by decide +kernel
theorem dX5_fold_35 : decode cX5_fold 35 = .ok (.getfield 108, 3) := by decide +kernel
theorem dX5_fold_38 : decode cX5_fold 38 = .ok (.if_icmp .ge 21, 3) := by decide +kernel
theorem dX5_fold_41 : decode cX5_fold 41 = .ok (.aload_n 0, 1) := by decide +kernel
theorem dX5_fold_42 : decode cX5_fold 42 = .ok (.getfield 41, 3) := by decide +kernel
theorem dX5_fold_45 : decode cX5_fold 45 = .ok (.iload_n 1, 1) := by decide +kernel
theorem dX5_fold_46 : decode cX5_fold 46 = .ok (.aload_n 0, 1) := by decide +kernel
theorem dX5_fold_47 : decode cX5_fold 47 = .ok (.getfield 50, 3) := by decide +kernel
theorem dX5_fold_50 : decode cX5_fold 50 = .ok (.iload_n 1, 1) := by decide +kernel
theorem dX5_fold_51 : decode cX5_fold 51 = .ok (.iaload, 1) := by decide +kernel
theorem dX5_fold_52 : decode cX5_fold 52 = .ok (.iastore, 1) := by decide +kernel
theorem dX5_fold_53 : decode cX5_fold 53 = .ok (.iinc 1 1, 3) := by decide +kernel
theorem dX5_fold_56 : decode cX5_fold 56 = .ok (.goto (-23), 3) := by decide +kernel
theorem dX5_fold_59 : decode cX5_fold 59 = .ok (.aload_n 0, 1) := by decide +kernel
theorem dX5_fold_60 : decode cX5_fold 60 = .ok (.getfield 135, 3) := by decide +kernel
theorem dX5_fold_63 : decode cX5_fold 63 = .ok (.ireturn, 1) := by decide +kernel
theorem dX5_folded_0 : decode cX5_folded 0 = .ok (.aload_n 0, 1) := by decide +kernel
theorem dX5_folded_1 : decode cX5_folded 1 = .ok (.iconst 0, 1) := by decide +kernel
theorem dX5_folded_2 : decode cX5_folded 2 = .ok (.putfield 56, 3) := by decide +kernel
theorem dX5_folded_5 : decode cX5_folded 5 = .ok (.iload_n 1, 1) := by decide +kernel
theorem dX5_folded_6 : decode cX5_folded 6 = .ok (.ifCond .lt 11, 3) := by decide +kernel
theorem dX5_folded_9 : decode cX5_folded 9 = .ok (.iload_n 1, 1) := by decide +kernel
theorem dX5_folded_10 : decode cX5_folded 10 = .ok (.aload_n 0, 1) := by decide +kernel
theorem dX5_folded_11 : decode cX5_folded 11 = .ok (.getfield 135, 3) := by decide +kernel
theorem dX5_folded_14 : decode cX5_folded 14 = .ok (.if_icmp .lt 7, 3) := by decide +kernel
theorem dX5_folded_17 : decode cX5_folded 17 = .ok (.iconst (-1), 1) := by decide +kernel
theorem dX5_folded_18 : decode cX5_folded 18 = .ok (.goto 9, 3) := by decide +kernel
theorem dX5_folded_21 : decode cX5_folded 21 = .ok (.aload_n 0, 1) := by decide +kernel
theorem dX5_folded_22 : decode cX5_folded 22 = .ok (.getfield 41, 3) := by decide +kernel
theorem dX5_folded_25 : decode cX5_folded 25 = .ok (.iload_n 1, 1) := by decide +kernel
theorem dX5_folded_26 : decode cX5_folded 26 = .ok (.iaload, 1) := by decide +kernel
theorem dX5_folded_27 : decode cX5_folded 27 = .ok (.ireturn, 1) := by decide +kernel
theorem dX5_isName_0 : decode cX5_isName 0 = .ok (.aload_n 0, 1) := by decide +kernel
theorem dX5_isName_1 : decode cX5_isName 1 = .ok (.getfield 65, 3) := by decide +kernel
theorem dX5_isName_4 : decode cX5_isName 4 = .ok (.ifCond .le 54, 3) := by decide +kernel
theorem dX5_isName_7 : decode cX5_isName 7 = .ok (.aload_n 0, 1) := by decide +kernel
theorem dX5_isName_8 : decode cX5_isName 8 = .ok (.getfield 65, 3) := by decide +kernel
theorem dX5_isName_11 : decode cX5_isName 11 = .ok (.bipush 60, 2) := by decide +kernel
theorem dX5_isName_13 : decode cX5_isName 13 = .ok (.if_icmp .gt 45, 3) := by decide +kernel
theorem dX5_isName_16 : decode cX5_isName 16 = .ok (.aload_n 0, 1) := by decide +kernel
theorem dX5_isName_17 : decode cX5_isName 17 = .ok (.getfield 44, 3) := by decide +kernel
theorem dX5_isName_20 : decode cX5_isName 20 = .ok (.iconst 0, 1) := by decide +kernel
theorem dX5_isName_21 : decode cX5_isName 21 = .ok (.iaload, 1) := by decide +kernel
theorem dX5_isName_22 : decode cX5_isName 22 = .ok (.bipush 46, 2) := by decide +kernel
theorem dX5_isName_24 : decode cX5_isName 24 = .ok (.if_icmp .ne 30, 3) := by decide +kernel
theorem dX5_isName_27 : decode cX5_isName 27 = .ok (.aload_n 0, 1) := by decide +kernel
theorem dX5_isName_28 : decode cX5_isName 28 = .ok (.getfield 65, 3) := by decide +kernel
theorem dX5_isName_31 : decode cX5_isName 31 = .ok (.iconst 2, 1) := by decide +kernel
theorem dX5_isName_32 : decode cX5_isName 32 = .ok (.if_icmp .gt 22, 3) := by decide +kernel
theorem dX5_isName_35 : decode cX5_isName 35 = .ok (.aload_n 0, 1) := by decide +kernel
theorem dX5_isName_36 : decode cX5_isName 36 = .ok (.getfield 65, 3) := by decide +kernel
theorem dX5_isName_39 : decode cX5_isName 39 = .ok (.iconst 2, 1) := by decide +kernel
theorem dX5_isName_40 : decode cX5_isName 40 = .ok (.if_icmp .ne 18, 3) := by decide +kernel
theorem dX5_isName_43 : decode cX5_isName 43 = .ok (.aload_n 0, 1) := by decide +kernel
theorem dX5_isName_44 : decode cX5_isName 44 = .ok (.getfield 44, 3) := by decide +kernel
theorem dX5_isName_47 : decode cX5_isName 47 = .ok (.iconst 1, 1) := by decide +kernel
theorem dX5_isName_48 : decode cX5_isName 48 = .ok (.iaload, 1) := by decide +kernel
theorem dX5_isName_49 : decode cX5_isName 49 = .ok (.bipush 46, 2) := by decide +kernel
theorem dX5_isName_51 : decode cX5_isName 51 = .ok (.if_icmp .eq 7, 3) := by decide +kernel
theorem dX5_isName_54 : decode cX5_isName 54 = .ok (.iconst 1, 1) := by decide +kernel
theorem dX5_isName_55 : decode cX5_isName 55 = .ok (.goto 4, 3) := by decide +kernel
theorem dX5_isName_58 : decode cX5_isName 58 = .ok (.iconst 0, 1) := by decide +kernel
theorem dX5_isName_59 : decode cX5_isName 59 = .ok (.istore_n 1, 1) := by decide +kernel
theorem dX5_isName_60 : decode cX5_isName 60 = .ok (.iconst 0, 1) := by decide +kernel
theorem dX5_isName_61 : decode cX5_isName 61 = .ok (.istore_n 2, 1) := by decide +kernel
theorem dX5_isName_62 : decode cX5_isName 62 = .ok (.iload_n 2, 1) := by decide +kernel
theorem dX5_isName_63 : decode cX5_isName 63 = .ok (.aload_n 0, 1) := by decide +kernel
theorem dX5_isName_64 : decode cX5_isName 64 = .ok (.getfield 65, 3) := by decide +kernel
theorem dX5_isName_67 : decode cX5_isName 67 = .ok (.if_icmp .ge 39, 3) := by decide +kernel
theorem dX5_isName_70 : decode cX5_isName 70 = .ok (.iload_n 1, 1) := by decide +kernel
theorem dX5_isName_71 : decode cX5_isName 71 = .ok (.ifCond .eq 35, 3) := by decide +kernel
theorem dX5_isName_74 : decode cX5_isName 74 = .ok (.aload_n 0, 1) := by decide +kernel
theorem dX5_isName_75 : decode cX5_isName 75 = .ok (.getfield 44, 3) := by decide +kernel
theorem dX5_isName_78 : decode cX5_isName 78 = .ok (.iload_n 2, 1) := by decide +kernel
theorem dX5_isName_79 : decode cX5_isName 79 = .ok (.iaload, 1) := by decide +kernel
theorem dX5_isName_80 : decode cX5_isName 80 = .ok (.ifCond .eq 18, 3) := by decide +kernel
theorem dX5_isName_83 : decode cX5_isName 83 = .ok (.aload_n 0, 1) := by decide +kernel
theorem dX5_isName_84 : decode cX5_isName 84 = .ok (.getfield 44, 3) := by decide +kernel
theorem dX5_isName_87 : decode cX5_isName 87 = .ok (.iload_n 2, 1) := by decide +kernel
theorem dX5_isName_88 : decode cX5_isName 88 = .ok (.iaload, 1) := by decide +kernel
theorem dX5_isName_89 : decode cX5_isName 89 = .ok (.bipush 47, 2) := by decide +kernel
theorem dX5_isName_91 : decode cX5_isName 91 = .ok (.if_icmp .eq 7, 3) := by decide +kernel
theorem dX5_isName_94 : decode cX5_isName 94 = .ok (.iconst 1, 1) := by decide +kernel
theorem dX5_isName_95 : decode cX5_isName 95 = .ok (.goto 4, 3) := by decide +kernel
theorem dX5_isName_98 : decode cX5_isName 98 = .ok (.iconst 0, 1) := by decide +kernel
theorem dX5_isName_99 : decode cX5_isName 99 = .ok (.istore_n 1, 1) := by decide +kernel
theorem dX5_isName_100 : decode cX5_isName 100 = .ok (.iinc 2 1, 3) := by decide +kernel
theorem dX5_isName_103 : decode cX5_isName 103 = .ok (.goto (-41), 3) := by decide +kernel
theorem dX5_isName_106 : decode cX5_isName 106 = .ok (.iload_n 1, 1) := by decide +kernel
theorem dX5_isName_107 : decode cX5_isName 107 = .ok (.ifCond .eq 10, 3) := by decide +kernel
theorem dX5_isName_110 : decode cX5_isName 110 = .ok (.aload_n 0, 1) := by decide +kernel
theorem dX5_isName_111 : decode cX5_isName 111 = .ok (.invokevirtual 128, 3) := by decide +kernel
theorem dX5_isName_114 : decode cX5_isName 114 = .ok (.ifCond .lt 5, 3) := by decide +kernel
theorem dX5_isName_117 : decode cX5_isName 117 = .ok (.iconst 0, 1) := by decide +kernel
theorem dX5_isName_118 : decode cX5_isName 118 = .ok (.ireturn, 1) := by decide +kernel
theorem dX5_isName_119 : decode cX5_isName 119 = .ok (.aload_n 0, 1) := by decide +kernel
theorem dX5_isName_120 : decode cX5_isName 120 = .ok (.invokevirtual 132, 3) := by decide +kernel
theorem dX5_isName_123 : decode cX5_isName 123 = .ok (.iconst 1, 1) := by decide +kernel
theorem dX5_isName_124 : decode cX5_isName 124 = .ok (.ireturn, 1) := by decide +kernel
theorem dX5_noNode_0 : decode cX5_noNode 0 = .ok (.iload_n 1, 1) := by decide +kernel
theorem dX5_noNode_1 : decode cX5_noNode 1 = .ok (.ifCond .lt 19, 3) := by decide +kernel
theorem dX5_noNode_4 : decode cX5_noNode 4 = .ok (.iload_n 1, 1) := by decide +kernel
theorem dX5_noNode_5 : decode cX5_noNode 5 = .ok (.sipush 200, 3) := by decide +kernel
theorem dX5_noNode_8 : decode cX5_noNode 8 = .ok (.if_icmp .ge 12, 3) := by decide +kernel
theorem dX5_noNode_11 : decode cX5_noNode 11 = .ok (.aload_n 0, 1) := by decide +kernel
theorem dX5_noNode_12 : decode cX5_noNode 12 = .ok (.getfield 13, 3) := by decide +kernel
theorem dX5_noNode_15 : decode cX5_noNode 15 = .ok (.iload_n 1, 1) := by decide +kernel
theorem dX5_noNode_16 : decode cX5_noNode 16 = .ok (.baload, 1) := by decide +kernel
theorem dX5_noNode_17 : decode cX5_noNode 17 = .ok (.ifCond .ne 7, 3) := by decide +kernel
theorem dX5_noNode_20 : decode cX5_noNode 20 = .ok (.iconst 1, 1) := by decide +kernel
theorem dX5_noNode_21 : decode cX5_noNode 21 = .ok (.goto 4, 3) := by decide +kernel
theorem dX5_noNode_24 : decode cX5_noNode 24 = .ok (.iconst 0, 1) := by decide +kernel
theorem dX5_noNode_25 : decode cX5_noNode 25 = .ok (.ireturn, 1) := by decide +kernel
theorem dX5_noDirectory_0 : decode cX5_noDirectory 0 = .ok (.aload_n 0, 1) := by decide +kernel
theorem dX5_noDirectory_1 : decode cX5_noDirectory 1 = .ok (.iload_n 1, 1) := by decide +kernel
theorem dX5_noDirectory_2 : decode cX5_noDirectory 2 = .ok (.invokevirtual 138, 3) := by decide +kernel
theorem dX5_noDirectory_5 : decode cX5_noDirectory 5 = .ok (.ifCond .ne 12, 3) := by decide +kernel
theorem dX5_noDirectory_8 : decode cX5_noDirectory 8 = .ok (.aload_n 0, 1) := by decide +kernel
theorem dX5_noDirectory_9 : decode cX5_noDirectory 9 = .ok (.getfield 17, 3) := by decide +kernel
theorem dX5_noDirectory_12 : decode cX5_noDirectory 12 = .ok (.iload_n 1, 1) := by decide +kernel
theorem dX5_noDirectory_13 : decode cX5_noDirectory 13 = .ok (.baload, 1) := by decide +kernel
theorem dX5_noDirectory_14 : decode cX5_noDirectory 14 = .ok (.ifCond .ne 7, 3) := by decide +kernel
theorem dX5_noDirectory_17 : decode cX5_noDirectory 17 = .ok (.iconst 1, 1) := by decide +kernel
theorem dX5_noDirectory_18 : decode cX5_noDirectory 18 = .ok (.goto 4, 3) := by decide +kernel
theorem dX5_noDirectory_21 : decode cX5_noDirectory 21 = .ok (.iconst 0, 1) := by decide +kernel
theorem dX5_noDirectory_22 : decode cX5_noDirectory 22 = .ok (.ireturn, 1) := by decide +kernel
theorem dX5_entryLike_0 : decode cX5_entryLike 0 = .ok (.iconst 0, 1) := by decide +kernel
theorem dX5_entryLike_1 : decode cX5_entryLike 1 = .ok (.istore_n 3, 1) := by decide +kernel
theorem dX5_entryLike_2 : decode cX5_entryLike 2 = .ok (.iload_n 3, 1) := by decide +kernel
theorem dX5_entryLike_3 : decode cX5_entryLike 3 = .ok (.aload_n 0, 1) := by decide +kernel
theorem dX5_entryLike_4 : decode cX5_entryLike 4 = .ok (.getfield 38, 3) := by decide +kernel
theorem dX5_entryLike_7 : decode cX5_entryLike 7 = .ok (.iload_n 1, 1) := by decide +kernel
theorem dX5_entryLike_8 : decode cX5_entryLike 8 = .ok (.iaload, 1) := by decide +kernel
theorem dX5_entryLike_9 : decode cX5_entryLike 9 = .ok (.if_icmp .ge 110, 3) := by decide +kernel
theorem dX5_entryLike_12 : decode cX5_entryLike 12 = .ok (.aload_n 0, 1) := by decide +kernel
theorem dX5_entryLike_13 : decode cX5_entryLike 13 = .ok (.getfield 35, 3) := by decide +kernel
theorem dX5_entryLike_16 : decode cX5_entryLike 16 = .ok (.bipush 40, 2) := by decide +kernel
theorem dX5_entryLike_18 : decode cX5_entryLike 18 = .ok (.iload_n 1, 1) := by decide +kernel
theorem dX5_entryLike_19 : decode cX5_entryLike 19 = .ok (.imul, 1) := by decide +kernel
theorem dX5_entryLike_20 : decode cX5_entryLike 20 = .ok (.iload_n 3, 1) := by decide +kernel
theorem dX5_entryLike_21 : decode cX5_entryLike 21 = .ok (.iadd, 1) := by decide +kernel
theorem dX5_entryLike_22 : decode cX5_entryLike 22 = .ok (.iaload, 1) := by decide +kernel
theorem dX5_entryLike_23 : decode cX5_entryLike 23 = .ok (.istore 4, 2) := by decide +kernel
theorem dX5_entryLike_25 : decode cX5_entryLike 25 = .ok (.iload 4, 2) := by decide +kernel
theorem dX5_entryLike_27 : decode cX5_entryLike 27 = .ok (.iload_n 2, 1) := by decide +kernel
theorem dX5_entryLike_28 : decode cX5_entryLike 28 = .ok (.if_icmp .eq 21, 3) := by decide +kernel
theorem dX5_entryLike_31 : decode cX5_entryLike 31 = .ok (.aload_n 0, 1) := by decide +kernel
theorem dX5_entryLike_32 : decode cX5_entryLike 32 = .ok (.getfield 32, 3) := by decide +kernel
theorem dX5_entryLike_35 : decode cX5_entryLike 35 = .ok (.iload 4, 2) := by decide +kernel
theorem dX5_entryLike_37 : decode cX5_entryLike 37 = .ok (.iaload, 1) := by decide +kernel
theorem dX5_entryLike_38 : decode cX5_entryLike 38 = .ok (.aload_n 0, 1) := by decide +kernel
theorem dX5_entryLike_39 : decode cX5_entryLike 39 = .ok (.getfield 108, 3) := by decide +kernel
theorem dX5_entryLike_42 : decode cX5_entryLike 42 = .ok (.if_icmp .ne 7, 3) := by decide +kernel
theorem dX5_entryLike_45 : decode cX5_entryLike 45 = .ok (.iconst 1, 1) := by decide +kernel
theorem dX5_entryLike_46 : decode cX5_entryLike 46 = .ok (.goto 4, 3) := by decide +kernel
theorem dX5_entryLike_49 : decode cX5_entryLike 49 = .ok (.iconst 0, 1) := by decide +kernel
theorem dX5_entryLike_50 : decode cX5_entryLike 50 = .ok (.istore 5, 2) := by decide +kernel
theorem dX5_entryLike_52 : decode cX5_entryLike 52 = .ok (.iconst 0, 1) := by decide +kernel
theorem dX5_entryLike_53 : decode cX5_entryLike 53 = .ok (.istore 6, 2) := by decide +kernel
theorem dX5_entryLike_55 : decode cX5_entryLike 55 = .ok (.iload 6, 2) := by decide +kernel
theorem dX5_entryLike_57 : decode cX5_entryLike 57 = .ok (.aload_n 0, 1) := by decide +kernel
theorem dX5_entryLike_58 : decode cX5_entryLike 58 = .ok (.getfield 108, 3) := by decide +kernel
theorem dX5_entryLike_61 : decode cX5_entryLike 61 = .ok (.if_icmp .ge 44, 3) := by decide +kernel
theorem dX5_entryLike_64 : decode cX5_entryLike 64 = .ok (.iload 5, 2) := by decide +kernel
theorem dX5_entryLike_66 : decode cX5_entryLike 66 = .ok (.ifCond .eq 39, 3) := by decide +kernel
theorem dX5_entryLike_69 : decode cX5_entryLike 69 = .ok (.aload_n 0, 1) := by decide +kernel
theorem dX5_entryLike_70 : decode cX5_entryLike 70 = .ok (.getfield 29, 3) := by decide +kernel
theorem dX5_entryLike_73 : decode cX5_entryLike 73 = .ok (.bipush 60, 2) := by decide +kernel
theorem dX5_entryLike_75 : decode cX5_entryLike 75 = .ok (.iload 4, 2) := by decide +kernel
theorem dX5_entryLike_77 : decode cX5_entryLike 77 = .ok (.imul, 1) := by decide +kernel
theorem dX5_entryLike_78 : decode cX5_entryLike 78 = .ok (.iload 6, 2) := by decide +kernel
theorem dX5_entryLike_80 : decode cX5_entryLike 80 = .ok (.iadd, 1) := by decide +kernel
theorem dX5_entryLike_81 : decode cX5_entryLike 81 = .ok (.iaload, 1) := by decide +kernel
theorem dX5_entryLike_82 : decode cX5_entryLike 82 = .ok (.aload_n 0, 1) := by decide +kernel
theorem dX5_entryLike_83 : decode cX5_entryLike 83 = .ok (.getfield 50, 3) := by decide +kernel
theorem dX5_entryLike_86 : decode cX5_entryLike 86 = .ok (.iload 6, 2) := by decide +kernel
theorem dX5_entryLike_88 : decode cX5_entryLike 88 = .ok (.iaload, 1) := by decide +kernel
theorem dX5_entryLike_89 : decode cX5_entryLike 89 = .ok (.if_icmp .ne 7, 3) := by decide +kernel
theorem dX5_entryLike_92 : decode cX5_entryLike 92 = .ok (.iconst 1, 1) := by decide +kernel
theorem dX5_entryLike_93 : decode cX5_entryLike 93 = .ok (.goto 4, 3) := by decide +kernel
theorem dX5_entryLike_96 : decode cX5_entryLike 96 = .ok (.iconst 0, 1) := by decide +kernel
theorem dX5_entryLike_97 : decode cX5_entryLike 97 = .ok (.istore 5, 2) := by decide +kernel
theorem dX5_entryLike_99 : decode cX5_entryLike 99 = .ok (.iinc 6 1, 3) := by decide +kernel
theorem dX5_entryLike_102 : decode cX5_entryLike 102 = .ok (.goto (-47), 3) := by decide +kernel
theorem dX5_entryLike_105 : decode cX5_entryLike 105 = .ok (.iload 5, 2) := by decide +kernel
theorem dX5_entryLike_107 : decode cX5_entryLike 107 = .ok (.ifCond .eq 6, 3) := by decide +kernel
theorem dX5_entryLike_110 : decode cX5_entryLike 110 = .ok (.iload 4, 2) := by decide +kernel
theorem dX5_entryLike_112 : decode cX5_entryLike 112 = .ok (.ireturn, 1) := by decide +kernel
theorem dX5_entryLike_113 : decode cX5_entryLike 113 = .ok (.iinc 3 1, 3) := by decide +kernel
theorem dX5_entryLike_116 : decode cX5_entryLike 116 = .ok (.goto (-114), 3) := by decide +kernel
theorem dX5_entryLike_119 : decode cX5_entryLike 119 = .ok (.iconst (-1), 1) := by decide +kernel
theorem dX5_entryLike_120 : decode cX5_entryLike 120 = .ok (.ireturn, 1) := by decide +kernel
theorem dX5_setName_0 : decode cX5_setName 0 = .ok (.aload_n 0, 1) := by decide +kernel
theorem dX5_setName_1 : decode cX5_setName 1 = .ok (.getfield 26, 3) := by decide +kernel
theorem dX5_setName_4 : decode cX5_setName 4 = .ok (.iload_n 1, 1) := by decide +kernel
theorem dX5_setName_5 : decode cX5_setName 5 = .ok (.aload_n 0, 1) := by decide +kernel
theorem dX5_setName_6 : decode cX5_setName 6 = .ok (.getfield 65, 3) := by decide +kernel
theorem dX5_setName_9 : decode cX5_setName 9 = .ok (.iastore, 1) := by decide +kernel
theorem dX5_setName_10 : decode cX5_setName 10 = .ok (.iconst 0, 1) := by decide +kernel
theorem dX5_setName_11 : decode cX5_setName 11 = .ok (.istore_n 2, 1) := by decide +kernel
theorem dX5_setName_12 : decode cX5_setName 12 = .ok (.iload_n 2, 1) := by decide +kernel
theorem dX5_setName_13 : decode cX5_setName 13 = .ok (.aload_n 0, 1) := by decide +kernel
theorem dX5_setName_14 : decode cX5_setName 14 = .ok (.getfield 65, 3) := by decide +kernel
theorem dX5_setName_17 : decode cX5_setName 17 = .ok (.if_icmp .ge 26, 3) := by decide +kernel
theorem dX5_setName_20 : decode cX5_setName 20 = .ok (.aload_n 0, 1) := by decide +kernel
theorem dX5_setName_21 : decode cX5_setName 21 = .ok (.getfield 23, 3) := by decide +kernel
theorem dX5_setName_24 : decode cX5_setName 24 = .ok (.bipush 60, 2) := by decide +kernel
theorem dX5_setName_26 : decode cX5_setName 26 = .ok (.iload_n 1, 1) := by decide +kernel
theorem dX5_setName_27 : decode cX5_setName 27 = .ok (.imul, 1) := by decide +kernel
theorem dX5_setName_28 : decode cX5_setName 28 = .ok (.iload_n 2, 1) := by decide +kernel
theorem dX5_setName_29 : decode cX5_setName 29 = .ok (.iadd, 1) := by decide +kernel
theorem dX5_setName_30 : decode cX5_setName 30 = .ok (.aload_n 0, 1) := by decide +kernel
theorem dX5_setName_31 : decode cX5_setName 31 = .ok (.getfield 44, 3) := by decide +kernel
theorem dX5_setName_34 : decode cX5_setName 34 = .ok (.iload_n 2, 1) := by decide +kernel
theorem dX5_setName_35 : decode cX5_setName 35 = .ok (.iaload, 1) := by decide +kernel
theorem dX5_setName_36 : decode cX5_setName 36 = .ok (.iastore, 1) := by decide +kernel
theorem dX5_setName_37 : decode cX5_setName 37 = .ok (.iinc 2 1, 3) := by decide +kernel
theorem dX5_setName_40 : decode cX5_setName 40 = .ok (.goto (-28), 3) := by decide +kernel
theorem dX5_setName_43 : decode cX5_setName 43 = .ok (.aload_n 0, 1) := by decide +kernel
theorem dX5_setName_44 : decode cX5_setName 44 = .ok (.getfield 32, 3) := by decide +kernel
theorem dX5_setName_47 : decode cX5_setName 47 = .ok (.iload_n 1, 1) := by decide +kernel
theorem dX5_setName_48 : decode cX5_setName 48 = .ok (.aload_n 0, 1) := by decide +kernel
theorem dX5_setName_49 : decode cX5_setName 49 = .ok (.getfield 108, 3) := by decide +kernel
theorem dX5_setName_52 : decode cX5_setName 52 = .ok (.iastore, 1) := by decide +kernel
theorem dX5_setName_53 : decode cX5_setName 53 = .ok (.iconst 0, 1) := by decide +kernel
theorem dX5_setName_54 : decode cX5_setName 54 = .ok (.istore_n 2, 1) := by decide +kernel
theorem dX5_setName_55 : decode cX5_setName 55 = .ok (.iload_n 2, 1) := by decide +kernel
theorem dX5_setName_56 : decode cX5_setName 56 = .ok (.aload_n 0, 1) := by decide +kernel
theorem dX5_setName_57 : decode cX5_setName 57 = .ok (.getfield 108, 3) := by decide +kernel
theorem dX5_setName_60 : decode cX5_setName 60 = .ok (.if_icmp .ge 26, 3) := by decide +kernel
theorem dX5_setName_63 : decode cX5_setName 63 = .ok (.aload_n 0, 1) := by decide +kernel
theorem dX5_setName_64 : decode cX5_setName 64 = .ok (.getfield 29, 3) := by decide +kernel
theorem dX5_setName_67 : decode cX5_setName 67 = .ok (.bipush 60, 2) := by decide +kernel
theorem dX5_setName_69 : decode cX5_setName 69 = .ok (.iload_n 1, 1) := by decide +kernel
theorem dX5_setName_70 : decode cX5_setName 70 = .ok (.imul, 1) := by decide +kernel
theorem dX5_setName_71 : decode cX5_setName 71 = .ok (.iload_n 2, 1) := by decide +kernel
theorem dX5_setName_72 : decode cX5_setName 72 = .ok (.iadd, 1) := by decide +kernel
theorem dX5_setName_73 : decode cX5_setName 73 = .ok (.aload_n 0, 1) := by decide +kernel
theorem dX5_setName_74 : decode cX5_setName 74 = .ok (.getfield 50, 3) := by decide +kernel
theorem dX5_setName_77 : decode cX5_setName 77 = .ok (.iload_n 2, 1) := by decide +kernel
theorem dX5_setName_78 : decode cX5_setName 78 = .ok (.iaload, 1) := by decide +kernel
theorem dX5_setName_79 : decode cX5_setName 79 = .ok (.iastore, 1) := by decide +kernel
theorem dX5_setName_80 : decode cX5_setName 80 = .ok (.iinc 2 1, 3) := by decide +kernel
theorem dX5_setName_83 : decode cX5_setName 83 = .ok (.goto (-28), 3) := by decide +kernel
theorem dX5_setName_86 : decode cX5_setName 86 = .ok (.return_, 1) := by decide +kernel
theorem dX5_append_0 : decode cX5_append 0 = .ok (.aload_n 0, 1) := by decide +kernel
theorem dX5_append_1 : decode cX5_append 1 = .ok (.getfield 20, 3) := by decide +kernel
theorem dX5_append_4 : decode cX5_append 4 = .ok (.iload_n 1, 1) := by decide +kernel
theorem dX5_append_5 : decode cX5_append 5 = .ok (.iload_n 2, 1) := by decide +kernel
theorem dX5_append_6 : decode cX5_append 6 = .ok (.iastore, 1) := by decide +kernel
theorem dX5_append_7 : decode cX5_append 7 = .ok (.aload_n 0, 1) := by decide +kernel
theorem dX5_append_8 : decode cX5_append 8 = .ok (.getfield 35, 3) := by decide +kernel
theorem dX5_append_11 : decode cX5_append 11 = .ok (.bipush 40, 2) := by decide +kernel
theorem dX5_append_13 : decode cX5_append 13 = .ok (.iload_n 2, 1) := by decide +kernel
theorem dX5_append_14 : decode cX5_append 14 = .ok (.imul, 1) := by decide +kernel
theorem dX5_append_15 : decode cX5_append 15 = .ok (.aload_n 0, 1) := by decide +kernel
theorem dX5_append_16 : decode cX5_append 16 = .ok (.getfield 38, 3) := by decide +kernel
theorem dX5_append_19 : decode cX5_append 19 = .ok (.iload_n 2, 1) := by decide +kernel
theorem dX5_append_20 : decode cX5_append 20 = .ok (.iaload, 1) := by decide +kernel
theorem dX5_append_21 : decode cX5_append 21 = .ok (.iadd, 1) := by decide +kernel
theorem dX5_append_22 : decode cX5_append 22 = .ok (.iload_n 1, 1) := by decide +kernel
theorem dX5_append_23 : decode cX5_append 23 = .ok (.iastore, 1) := by decide +kernel
theorem dX5_append_24 : decode cX5_append 24 = .ok (.aload_n 0, 1) := by decide +kernel
theorem dX5_append_25 : decode cX5_append 25 = .ok (.getfield 38, 3) := by decide +kernel
theorem dX5_append_28 : decode cX5_append 28 = .ok (.iload_n 2, 1) := by decide +kernel
theorem dX5_append_29 : decode cX5_append 29 = .ok (.dup2, 1) := by decide +kernel
theorem dX5_append_30 : decode cX5_append 30 = .ok (.iaload, 1) := by decide +kernel
theorem dX5_append_31 : decode cX5_append 31 = .ok (.iconst 1, 1) := by decide +kernel
theorem dX5_append_32 : decode cX5_append 32 = .ok (.iadd, 1) := by decide +kernel
theorem dX5_append_33 : decode cX5_append 33 = .ok (.iastore, 1) := by decide +kernel
theorem dX5_append_34 : decode cX5_append 34 = .ok (.return_, 1) := by decide +kernel
theorem dX5_detach_0 : decode cX5_detach 0 = .ok (.aload_n 0, 1) := by decide +kernel
theorem dX5_detach_1 : decode cX5_detach 1 = .ok (.getfield 20, 3) := by decide +kernel
theorem dX5_detach_4 : decode cX5_detach 4 = .ok (.iload_n 1, 1) := by decide +kernel
theorem dX5_detach_5 : decode cX5_detach 5 = .ok (.iaload, 1) := by decide +kernel
theorem dX5_detach_6 : decode cX5_detach 6 = .ok (.istore_n 2, 1) := by decide +kernel
theorem dX5_detach_7 : decode cX5_detach 7 = .ok (.iconst 0, 1) := by decide +kernel
theorem dX5_detach_8 : decode cX5_detach 8 = .ok (.istore_n 3, 1) := by decide +kernel
theorem dX5_detach_9 : decode cX5_detach 9 = .ok (.aload_n 0, 1) := by decide +kernel
theorem dX5_detach_10 : decode cX5_detach 10 = .ok (.getfield 35, 3) := by decide +kernel
theorem dX5_detach_13 : decode cX5_detach 13 = .ok (.bipush 40, 2) := by decide +kernel
theorem dX5_detach_15 : decode cX5_detach 15 = .ok (.iload_n 2, 1) := by decide +kernel
theorem dX5_detach_16 : decode cX5_detach 16 = .ok (.imul, 1) := by decide +kernel
theorem dX5_detach_17 : decode cX5_detach 17 = .ok (.iload_n 3, 1) := by decide +kernel
theorem dX5_detach_18 : decode cX5_detach 18 = .ok (.iadd, 1) := by decide +kernel
theorem dX5_detach_19 : decode cX5_detach 19 = .ok (.iaload, 1) := by decide +kernel
theorem dX5_detach_20 : decode cX5_detach 20 = .ok (.iload_n 1, 1) := by decide +kernel
theorem dX5_detach_21 : decode cX5_detach 21 = .ok (.if_icmp .eq 9, 3) := by decide +kernel
theorem dX5_detach_24 : decode cX5_detach 24 = .ok (.iinc 3 1, 3) := by decide +kernel
theorem dX5_detach_27 : decode cX5_detach 27 = .ok (.goto (-18), 3) := by decide +kernel
theorem dX5_detach_30 : decode cX5_detach 30 = .ok (.aload_n 0, 1) := by decide +kernel
theorem dX5_detach_31 : decode cX5_detach 31 = .ok (.getfield 38, 3) := by decide +kernel
theorem dX5_detach_34 : decode cX5_detach 34 = .ok (.iload_n 2, 1) := by decide +kernel
theorem dX5_detach_35 : decode cX5_detach 35 = .ok (.dup2, 1) := by decide +kernel
theorem dX5_detach_36 : decode cX5_detach 36 = .ok (.iaload, 1) := by decide +kernel
theorem dX5_detach_37 : decode cX5_detach 37 = .ok (.iconst 1, 1) := by decide +kernel
theorem dX5_detach_38 : decode cX5_detach 38 = .ok (.isub, 1) := by decide +kernel
theorem dX5_detach_39 : decode cX5_detach 39 = .ok (.iastore, 1) := by decide +kernel
theorem dX5_detach_40 : decode cX5_detach 40 = .ok (.iload_n 3, 1) := by decide +kernel
theorem dX5_detach_41 : decode cX5_detach 41 = .ok (.istore 4, 2) := by decide +kernel
theorem dX5_detach_43 : decode cX5_detach 43 = .ok (.iload 4, 2) := by decide +kernel
theorem dX5_detach_45 : decode cX5_detach 45 = .ok (.aload_n 0, 1) := by decide +kernel
theorem dX5_detach_46 : decode cX5_detach 46 = .ok (.getfield 38, 3) := by decide +kernel
theorem dX5_detach_49 : decode cX5_detach 49 = .ok (.iload_n 2, 1) := by decide +kernel
theorem dX5_detach_50 : decode cX5_detach 50 = .ok (.iaload, 1) := by decide +kernel
theorem dX5_detach_51 : decode cX5_detach 51 = .ok (.if_icmp .ge 35, 3) := by decide +kernel
theorem dX5_detach_54 : decode cX5_detach 54 = .ok (.aload_n 0, 1) := by decide +kernel
theorem dX5_detach_55 : decode cX5_detach 55 = .ok (.getfield 35, 3) := by decide +kernel
theorem dX5_detach_58 : decode cX5_detach 58 = .ok (.bipush 40, 2) := by decide +kernel
theorem dX5_detach_60 : decode cX5_detach 60 = .ok (.iload_n 2, 1) := by decide +kernel
theorem dX5_detach_61 : decode cX5_detach 61 = .ok (.imul, 1) := by decide +kernel
theorem dX5_detach_62 : decode cX5_detach 62 = .ok (.iload 4, 2) := by decide +kernel
theorem dX5_detach_64 : decode cX5_detach 64 = .ok (.iadd, 1) := by decide +kernel
theorem dX5_detach_65 : decode cX5_detach 65 = .ok (.aload_n 0, 1) := by decide +kernel
theorem dX5_detach_66 : decode cX5_detach 66 = .ok (.getfield 35, 3) := by decide +kernel
theorem dX5_detach_69 : decode cX5_detach 69 = .ok (.bipush 40, 2) := by decide +kernel
theorem dX5_detach_71 : decode cX5_detach 71 = .ok (.iload_n 2, 1) := by decide +kernel
theorem dX5_detach_72 : decode cX5_detach 72 = .ok (.imul, 1) := by decide +kernel
theorem dX5_detach_73 : decode cX5_detach 73 = .ok (.iload 4, 2) := by decide +kernel
theorem dX5_detach_75 : decode cX5_detach 75 = .ok (.iadd, 1) := by decide +kernel
theorem dX5_detach_76 : decode cX5_detach 76 = .ok (.iconst 1, 1) := by decide +kernel
theorem dX5_detach_77 : decode cX5_detach 77 = .ok (.iadd, 1) := by decide +kernel
theorem dX5_detach_78 : decode cX5_detach 78 = .ok (.iaload, 1) := by decide +kernel
theorem dX5_detach_79 : decode cX5_detach 79 = .ok (.iastore, 1) := by decide +kernel
theorem dX5_detach_80 : decode cX5_detach 80 = .ok (.iinc 4 1, 3) := by decide +kernel
theorem dX5_detach_83 : decode cX5_detach 83 = .ok (.goto (-40), 3) := by decide +kernel
theorem dX5_detach_86 : decode cX5_detach 86 = .ok (.return_, 1) := by decide +kernel
theorem dX5_freeNode_0 : decode cX5_freeNode 0 = .ok (.iconst 0, 1) := by decide +kernel
theorem dX5_freeNode_1 : decode cX5_freeNode 1 = .ok (.istore_n 1, 1) := by decide +kernel
theorem dX5_freeNode_2 : decode cX5_freeNode 2 = .ok (.iload_n 1, 1) := by decide +kernel
theorem dX5_freeNode_3 : decode cX5_freeNode 3 = .ok (.sipush 200, 3) := by decide +kernel
theorem dX5_freeNode_6 : decode cX5_freeNode 6 = .ok (.if_icmp .ge 20, 3) := by decide +kernel
theorem dX5_freeNode_9 : decode cX5_freeNode 9 = .ok (.aload_n 0, 1) := by decide +kernel
theorem dX5_freeNode_10 : decode cX5_freeNode 10 = .ok (.getfield 13, 3) := by decide +kernel
theorem dX5_freeNode_13 : decode cX5_freeNode 13 = .ok (.iload_n 1, 1) := by decide +kernel
theorem dX5_freeNode_14 : decode cX5_freeNode 14 = .ok (.baload, 1) := by decide +kernel
theorem dX5_freeNode_15 : decode cX5_freeNode 15 = .ok (.ifCond .ne 5, 3) := by decide +kernel
theorem dX5_freeNode_18 : decode cX5_freeNode 18 = .ok (.iload_n 1, 1) := by decide +kernel
theorem dX5_freeNode_19 : decode cX5_freeNode 19 = .ok (.ireturn, 1) := by decide +kernel
theorem dX5_freeNode_20 : decode cX5_freeNode 20 = .ok (.iinc 1 1, 3) := by decide +kernel
theorem dX5_freeNode_23 : decode cX5_freeNode 23 = .ok (.goto (-21), 3) := by decide +kernel
theorem dX5_freeNode_26 : decode cX5_freeNode 26 = .ok (.iconst (-1), 1) := by decide +kernel
theorem dX5_freeNode_27 : decode cX5_freeNode 27 = .ok (.ireturn, 1) := by decide +kernel
theorem dX5_put_0 : decode cX5_put 0 = .ok (.aload_n 0, 1) := by decide +kernel
theorem dX5_put_1 : decode cX5_put 1 = .ok (.iconst 0, 1) := by decide +kernel
theorem dX5_put_2 : decode cX5_put 2 = .ok (.putfield 56, 3) := by decide +kernel
theorem dX5_put_5 : decode cX5_put 5 = .ok (.aload_n 0, 1) := by decide +kernel
theorem dX5_put_6 : decode cX5_put 6 = .ok (.invokevirtual 125, 3) := by decide +kernel
theorem dX5_put_9 : decode cX5_put 9 = .ok (.aload_n 0, 1) := by decide +kernel
theorem dX5_put_10 : decode cX5_put 10 = .ok (.iload_n 1, 1) := by decide +kernel
theorem dX5_put_11 : decode cX5_put 11 = .ok (.invokevirtual 142, 3) := by decide +kernel
theorem dX5_put_14 : decode cX5_put 14 = .ok (.ifCond .eq 6, 3) := by decide +kernel
theorem dX5_put_17 : decode cX5_put 17 = .ok (.bipush (-5), 2) := by decide +kernel
theorem dX5_put_19 : decode cX5_put 19 = .ok (.ireturn, 1) := by decide +kernel
theorem dX5_put_20 : decode cX5_put 20 = .ok (.aload_n 0, 1) := by decide +kernel
theorem dX5_put_21 : decode cX5_put 21 = .ok (.invokevirtual 145, 3) := by decide +kernel
theorem dX5_put_24 : decode cX5_put 24 = .ok (.ifCond .ne 6, 3) := by decide +kernel
theorem dX5_put_27 : decode cX5_put 27 = .ok (.bipush (-2), 2) := by decide +kernel
theorem dX5_put_29 : decode cX5_put 29 = .ok (.ireturn, 1) := by decide +kernel
theorem dX5_put_30 : decode cX5_put 30 = .ok (.aload_n 0, 1) := by decide +kernel
theorem dX5_put_31 : decode cX5_put 31 = .ok (.iload_n 1, 1) := by decide +kernel
theorem dX5_put_32 : decode cX5_put 32 = .ok (.iconst (-1), 1) := by decide +kernel
theorem dX5_put_33 : decode cX5_put 33 = .ok (.invokevirtual 149, 3) := by decide +kernel
theorem dX5_put_36 : decode cX5_put 36 = .ok (.ifCond .lt 6, 3) := by decide +kernel
theorem dX5_put_39 : decode cX5_put 39 = .ok (.bipush (-3), 2) := by decide +kernel
theorem dX5_put_41 : decode cX5_put 41 = .ok (.ireturn, 1) := by decide +kernel
theorem dX5_put_42 : decode cX5_put 42 = .ok (.aload_n 0, 1) := by decide +kernel
theorem dX5_put_43 : decode cX5_put 43 = .ok (.invokevirtual 153, 3) := by decide +kernel
theorem dX5_put_46 : decode cX5_put 46 = .ok (.istore_n 3, 1) := by decide +kernel
theorem dX5_put_47 : decode cX5_put 47 = .ok (.iload_n 3, 1) := by decide +kernel
theorem dX5_put_48 : decode cX5_put 48 = .ok (.ifCond .lt 14, 3) := by decide +kernel
theorem dX5_put_51 : decode cX5_put 51 = .ok (.aload_n 0, 1) := by decide +kernel
theorem dX5_put_52 : decode cX5_put 52 = .ok (.getfield 38, 3) := by decide +kernel
theorem dX5_put_55 : decode cX5_put 55 = .ok (.iload_n 1, 1) := by decide +kernel
theorem dX5_put_56 : decode cX5_put 56 = .ok (.iaload, 1) := by decide +kernel
theorem dX5_put_57 : decode cX5_put 57 = .ok (.bipush 40, 2) := by decide +kernel
theorem dX5_put_59 : decode cX5_put 59 = .ok (.if_icmp .ne 6, 3) := by decide +kernel
theorem dX5_put_62 : decode cX5_put 62 = .ok (.bipush (-4), 2) := by decide +kernel
theorem dX5_put_64 : decode cX5_put 64 = .ok (.ireturn, 1) := by decide +kernel
theorem dX5_put_65 : decode cX5_put 65 = .ok (.aload_n 0, 1) := by decide +kernel
theorem dX5_put_66 : decode cX5_put 66 = .ok (.getfield 13, 3) := by decide +kernel
theorem dX5_put_69 : decode cX5_put 69 = .ok (.iload_n 3, 1) := by decide +kernel
theorem dX5_put_70 : decode cX5_put 70 = .ok (.iconst 1, 1) := by decide +kernel
theorem dX5_put_71 : decode cX5_put 71 = .ok (.bastore, 1) := by decide +kernel
theorem dX5_put_72 : decode cX5_put 72 = .ok (.aload_n 0, 1) := by decide +kernel
theorem dX5_put_73 : decode cX5_put 73 = .ok (.getfield 17, 3) := by decide +kernel
theorem dX5_put_76 : decode cX5_put 76 = .ok (.iload_n 3, 1) := by decide +kernel
theorem dX5_put_77 : decode cX5_put 77 = .ok (.iload_n 2, 1) := by decide +kernel
theorem dX5_put_78 : decode cX5_put 78 = .ok (.bastore, 1) := by decide +kernel
theorem dX5_put_79 : decode cX5_put 79 = .ok (.aload_n 0, 1) := by decide +kernel
theorem dX5_put_80 : decode cX5_put 80 = .ok (.getfield 38, 3) := by decide +kernel
theorem dX5_put_83 : decode cX5_put 83 = .ok (.iload_n 3, 1) := by decide +kernel
theorem dX5_put_84 : decode cX5_put 84 = .ok (.iconst 0, 1) := by decide +kernel
theorem dX5_put_85 : decode cX5_put 85 = .ok (.iastore, 1) := by decide +kernel
theorem dX5_put_86 : decode cX5_put 86 = .ok (.aload_n 0, 1) := by decide +kernel
theorem dX5_put_87 : decode cX5_put 87 = .ok (.iload_n 3, 1) := by decide +kernel
theorem dX5_put_88 : decode cX5_put 88 = .ok (.invokevirtual 156, 3) := by decide +kernel
theorem dX5_put_91 : decode cX5_put 91 = .ok (.aload_n 0, 1) := by decide +kernel
theorem dX5_put_92 : decode cX5_put 92 = .ok (.iload_n 3, 1) := by decide +kernel
theorem dX5_put_93 : decode cX5_put 93 = .ok (.iload_n 1, 1) := by decide +kernel
theorem dX5_put_94 : decode cX5_put 94 = .ok (.invokevirtual 159, 3) := by decide +kernel
theorem dX5_put_97 : decode cX5_put 97 = .ok (.iload_n 3, 1) := by decide +kernel
theorem dX5_put_98 : decode cX5_put 98 = .ok (.ireturn, 1) := by decide +kernel
theorem dX5_find_0 : decode cX5_find 0 = .ok (.aload_n 0, 1) := by decide +kernel
theorem dX5_find_1 : decode cX5_find 1 = .ok (.iconst 0, 1) := by decide +kernel
theorem dX5_find_2 : decode cX5_find 2 = .ok (.putfield 56, 3) := by decide +kernel
theorem dX5_find_5 : decode cX5_find 5 = .ok (.aload_n 0, 1) := by decide +kernel
theorem dX5_find_6 : decode cX5_find 6 = .ok (.invokevirtual 125, 3) := by decide +kernel
theorem dX5_find_9 : decode cX5_find 9 = .ok (.aload_n 0, 1) := by decide +kernel
theorem dX5_find_10 : decode cX5_find 10 = .ok (.iload_n 1, 1) := by decide +kernel
theorem dX5_find_11 : decode cX5_find 11 = .ok (.invokevirtual 142, 3) := by decide +kernel
theorem dX5_find_14 : decode cX5_find 14 = .ok (.ifCond .eq 8, 3) := by decide +kernel
theorem dX5_find_17 : decode cX5_find 17 = .ok (.bipush (-5), 2) := by decide +kernel
theorem dX5_find_19 : decode cX5_find 19 = .ok (.goto 21, 3) := by decide +kernel
theorem dX5_find_22 : decode cX5_find 22 = .ok (.aload_n 0, 1) := by decide +kernel
theorem dX5_find_23 : decode cX5_find 23 = .ok (.invokevirtual 145, 3) := by decide +kernel
theorem dX5_find_26 : decode cX5_find 26 = .ok (.ifCond .ne 8, 3) := by decide +kernel
theorem dX5_find_29 : decode cX5_find 29 = .ok (.bipush (-2), 2) := by decide +kernel
theorem dX5_find_31 : decode cX5_find 31 = .ok (.goto 9, 3) := by decide +kernel
theorem dX5_find_34 : decode cX5_find 34 = .ok (.aload_n 0, 1) := by decide +kernel
theorem dX5_find_35 : decode cX5_find 35 = .ok (.iload_n 1, 1) := by decide +kernel
theorem dX5_find_36 : decode cX5_find 36 = .ok (.iconst (-1), 1) := by decide +kernel
theorem dX5_find_37 : decode cX5_find 37 = .ok (.invokevirtual 149, 3) := by decide +kernel
theorem dX5_find_40 : decode cX5_find 40 = .ok (.ireturn, 1) := by decide +kernel
theorem dX5_walk_0 : decode cX5_walk 0 = .ok (.aload_n 0, 1) := by decide +kernel
theorem dX5_walk_1 : decode cX5_walk 1 = .ok (.iconst 0, 1) := by decide +kernel
theorem dX5_walk_2 : decode cX5_walk 2 = .ok (.putfield 56, 3) := by decide +kernel
theorem dX5_walk_5 : decode cX5_walk 5 = .ok (.aload_n 0, 1) := by decide +kernel
theorem dX5_walk_6 : decode cX5_walk 6 = .ok (.getfield 60, 3) := by decide +kernel
theorem dX5_walk_9 : decode cX5_walk 9 = .ok (.istore_n 2, 1) := by decide +kernel
theorem dX5_walk_10 : decode cX5_walk 10 = .ok (.iconst 0, 1) := by decide +kernel
theorem dX5_walk_11 : decode cX5_walk 11 = .ok (.istore_n 3, 1) := by decide +kernel
theorem dX5_walk_12 : decode cX5_walk 12 = .ok (.iload_n 3, 1) := by decide +kernel
theorem dX5_walk_13 : decode cX5_walk 13 = .ok (.iload_n 2, 1) := by decide +kernel
theorem dX5_walk_14 : decode cX5_walk 14 = .ok (.if_icmp .ge 21, 3) := by decide +kernel
theorem dX5_walk_17 : decode cX5_walk 17 = .ok (.aload_n 0, 1) := by decide +kernel
theorem dX5_walk_18 : decode cX5_walk 18 = .ok (.getfield 53, 3) := by decide +kernel
theorem dX5_walk_21 : decode cX5_walk 21 = .ok (.iload_n 3, 1) := by decide +kernel
theorem dX5_walk_22 : decode cX5_walk 22 = .ok (.aload_n 0, 1) := by decide +kernel
theorem dX5_walk_23 : decode cX5_walk 23 = .ok (.getfield 7, 3) := by decide +kernel
theorem dX5_walk_26 : decode cX5_walk 26 = .ok (.iload_n 3, 1) := by decide +kernel
theorem dX5_walk_27 : decode cX5_walk 27 = .ok (.iaload, 1) := by decide +kernel
theorem dX5_walk_28 : decode cX5_walk 28 = .ok (.iastore, 1) := by decide +kernel
theorem dX5_walk_29 : decode cX5_walk 29 = .ok (.iinc 3 1, 3) := by decide +kernel
theorem dX5_walk_32 : decode cX5_walk 32 = .ok (.goto (-20), 3) := by decide +kernel
theorem dX5_walk_35 : decode cX5_walk 35 = .ok (.aload_n 0, 1) := by decide +kernel
theorem dX5_walk_36 : decode cX5_walk 36 = .ok (.iconst 0, 1) := by decide +kernel
theorem dX5_walk_37 : decode cX5_walk 37 = .ok (.putfield 60, 3) := by decide +kernel
theorem dX5_walk_40 : decode cX5_walk 40 = .ok (.aload_n 0, 1) := by decide +kernel
theorem dX5_walk_41 : decode cX5_walk 41 = .ok (.iload_n 1, 1) := by decide +kernel
theorem dX5_walk_42 : decode cX5_walk 42 = .ok (.invokevirtual 138, 3) := by decide +kernel
theorem dX5_walk_45 : decode cX5_walk 45 = .ok (.ifCond .eq 6, 3) := by decide +kernel
theorem dX5_walk_48 : decode cX5_walk 48 = .ok (.bipush (-5), 2) := by decide +kernel
theorem dX5_walk_50 : decode cX5_walk 50 = .ok (.ireturn, 1) := by decide +kernel
theorem dX5_walk_51 : decode cX5_walk 51 = .ok (.iload_n 2, 1) := by decide +kernel
theorem dX5_walk_52 : decode cX5_walk 52 = .ok (.ifCond .le 18, 3) := by decide +kernel
theorem dX5_walk_55 : decode cX5_walk 55 = .ok (.aload_n 0, 1) := by decide +kernel
theorem dX5_walk_56 : decode cX5_walk 56 = .ok (.getfield 53, 3) := by decide +kernel
theorem dX5_walk_59 : decode cX5_walk 59 = .ok (.iconst 0, 1) := by decide +kernel
theorem dX5_walk_60 : decode cX5_walk 60 = .ok (.iaload, 1) := by decide +kernel
theorem dX5_walk_61 : decode cX5_walk 61 = .ok (.bipush 47, 2) := by decide +kernel
theorem dX5_walk_63 : decode cX5_walk 63 = .ok (.if_icmp .ne 7, 3) := by decide +kernel
theorem dX5_walk_66 : decode cX5_walk 66 = .ok (.iconst 0, 1) := by decide +kernel
theorem dX5_walk_67 : decode cX5_walk 67 = .ok (.goto 4, 3) := by decide +kernel
theorem dX5_walk_70 : decode cX5_walk 70 = .ok (.iload_n 1, 1) := by decide +kernel
theorem dX5_walk_71 : decode cX5_walk 71 = .ok (.istore_n 3, 1) := by decide +kernel
theorem dX5_walk_72 : decode cX5_walk 72 = .ok (.iconst 0, 1) := by decide +kernel
theorem dX5_walk_73 : decode cX5_walk 73 = .ok (.istore 4, 2) := by decide +kernel
theorem dX5_walk_75 : decode cX5_walk 75 = .ok (.iload 4, 2) := by decide +kernel
theorem dX5_walk_77 : decode cX5_walk 77 = .ok (.iload_n 2, 1) := by decide +kernel
theorem dX5_walk_78 : decode cX5_walk 78 = .ok (.if_icmp .ge 209, 3) := by decide +kernel
theorem dX5_walk_81 : decode cX5_walk 81 = .ok (.aload_n 0, 1) := by decide +kernel
theorem dX5_walk_82 : decode cX5_walk 82 = .ok (.iconst 0, 1) := by decide +kernel
theorem dX5_walk_83 : decode cX5_walk 83 = .ok (.putfield 65, 3) := by decide +kernel
theorem dX5_walk_86 : decode cX5_walk 86 = .ok (.iload 4, 2) := by decide +kernel
theorem dX5_walk_88 : decode cX5_walk 88 = .ok (.iload_n 2, 1) := by decide +kernel
theorem dX5_walk_89 : decode cX5_walk 89 = .ok (.if_icmp .ge 47, 3) := by decide +kernel
theorem dX5_walk_92 : decode cX5_walk 92 = .ok (.aload_n 0, 1) := by decide +kernel
theorem dX5_walk_93 : decode cX5_walk 93 = .ok (.getfield 53, 3) := by decide +kernel
theorem dX5_walk_96 : decode cX5_walk 96 = .ok (.iload 4, 2) := by decide +kernel
theorem dX5_walk_98 : decode cX5_walk 98 = .ok (.iaload, 1) := by decide +kernel
theorem dX5_walk_99 : decode cX5_walk 99 = .ok (.bipush 47, 2) := by decide +kernel
theorem dX5_walk_101 : decode cX5_walk 101 = .ok (.if_icmp .eq 35, 3) := by decide +kernel
theorem dX5_walk_104 : decode cX5_walk 104 = .ok (.aload_n 0, 1) := by decide +kernel
theorem dX5_walk_105 : decode cX5_walk 105 = .ok (.getfield 44, 3) := by decide +kernel
theorem dX5_walk_108 : decode cX5_walk 108 = .ok (.aload_n 0, 1) := by decide +kernel
theorem dX5_walk_109 : decode cX5_walk 109 = .ok (.getfield 65, 3) := by decide +kernel
theorem dX5_walk_112 : decode cX5_walk 112 = .ok (.aload_n 0, 1) := by decide +kernel
theorem dX5_walk_113 : decode cX5_walk 113 = .ok (.getfield 53, 3) := by decide +kernel
theorem dX5_walk_116 : decode cX5_walk 116 = .ok (.iload 4, 2) := by decide +kernel
theorem dX5_walk_118 : decode cX5_walk 118 = .ok (.iaload, 1) := by decide +kernel
theorem dX5_walk_119 : decode cX5_walk 119 = .ok (.iastore, 1) := by decide +kernel
theorem dX5_walk_120 : decode cX5_walk 120 = .ok (.aload_n 0, 1) := by decide +kernel
theorem dX5_walk_121 : decode cX5_walk 121 = .ok (.dup, 1) := by decide +kernel
theorem dX5_walk_122 : decode cX5_walk 122 = .ok (.getfield 65, 3) := by decide +kernel
theorem dX5_walk_125 : decode cX5_walk 125 = .ok (.iconst 1, 1) := by decide +kernel
theorem dX5_walk_126 : decode cX5_walk 126 = .ok (.iadd, 1) := by decide +kernel
theorem dX5_walk_127 : decode cX5_walk 127 = .ok (.putfield 65, 3) := by decide +kernel
theorem dX5_walk_130 : decode cX5_walk 130 = .ok (.iinc 4 1, 3) := by decide +kernel
theorem dX5_walk_133 : decode cX5_walk 133 = .ok (.goto (-47), 3) := by decide +kernel
theorem dX5_walk_136 : decode cX5_walk 136 = .ok (.iinc 4 1, 3) := by decide +kernel
theorem dX5_walk_139 : decode cX5_walk 139 = .ok (.aload_n 0, 1) := by decide +kernel
theorem dX5_walk_140 : decode cX5_walk 140 = .ok (.getfield 65, 3) := by decide +kernel
theorem dX5_walk_143 : decode cX5_walk 143 = .ok (.ifCond .le (-68), 3) := by decide +kernel
theorem dX5_walk_146 : decode cX5_walk 146 = .ok (.aload_n 0, 1) := by decide +kernel
theorem dX5_walk_147 : decode cX5_walk 147 = .ok (.getfield 44, 3) := by decide +kernel
theorem dX5_walk_150 : decode cX5_walk 150 = .ok (.iconst 0, 1) := by decide +kernel
theorem dX5_walk_151 : decode cX5_walk 151 = .ok (.iaload, 1) := by decide +kernel
theorem dX5_walk_152 : decode cX5_walk 152 = .ok (.bipush 46, 2) := by decide +kernel
theorem dX5_walk_154 : decode cX5_walk 154 = .ok (.if_icmp .ne 15, 3) := by decide +kernel
theorem dX5_walk_157 : decode cX5_walk 157 = .ok (.aload_n 0, 1) := by decide +kernel
theorem dX5_walk_158 : decode cX5_walk 158 = .ok (.getfield 65, 3) := by decide +kernel
theorem dX5_walk_161 : decode cX5_walk 161 = .ok (.iconst 1, 1) := by decide +kernel
theorem dX5_walk_162 : decode cX5_walk 162 = .ok (.if_icmp .ne 7, 3) := by decide +kernel
theorem dX5_walk_165 : decode cX5_walk 165 = .ok (.iconst 1, 1) := by decide +kernel
theorem dX5_walk_166 : decode cX5_walk 166 = .ok (.goto 4, 3) := by decide +kernel
theorem dX5_walk_169 : decode cX5_walk 169 = .ok (.iconst 0, 1) := by decide +kernel
theorem dX5_walk_170 : decode cX5_walk 170 = .ok (.istore 5, 2) := by decide +kernel
theorem dX5_walk_172 : decode cX5_walk 172 = .ok (.aload_n 0, 1) := by decide +kernel
theorem dX5_walk_173 : decode cX5_walk 173 = .ok (.getfield 44, 3) := by decide +kernel
theorem dX5_walk_176 : decode cX5_walk 176 = .ok (.iconst 0, 1) := by decide +kernel
theorem dX5_walk_177 : decode cX5_walk 177 = .ok (.iaload, 1) := by decide +kernel
theorem dX5_walk_178 : decode cX5_walk 178 = .ok (.bipush 46, 2) := by decide +kernel
theorem dX5_walk_180 : decode cX5_walk 180 = .ok (.if_icmp .ne 26, 3) := by decide +kernel
theorem dX5_walk_183 : decode cX5_walk 183 = .ok (.aload_n 0, 1) := by decide +kernel
theorem dX5_walk_184 : decode cX5_walk 184 = .ok (.getfield 65, 3) := by decide +kernel
theorem dX5_walk_187 : decode cX5_walk 187 = .ok (.iconst 2, 1) := by decide +kernel
theorem dX5_walk_188 : decode cX5_walk 188 = .ok (.if_icmp .ne 18, 3) := by decide +kernel
theorem dX5_walk_191 : decode cX5_walk 191 = .ok (.aload_n 0, 1) := by decide +kernel
theorem dX5_walk_192 : decode cX5_walk 192 = .ok (.getfield 44, 3) := by decide +kernel
theorem dX5_walk_195 : decode cX5_walk 195 = .ok (.iconst 1, 1) := by decide +kernel
theorem dX5_walk_196 : decode cX5_walk 196 = .ok (.iaload, 1) := by decide +kernel
theorem dX5_walk_197 : decode cX5_walk 197 = .ok (.bipush 46, 2) := by decide +kernel
theorem dX5_walk_199 : decode cX5_walk 199 = .ok (.if_icmp .ne 7, 3) := by decide +kernel
theorem dX5_walk_202 : decode cX5_walk 202 = .ok (.iconst 1, 1) := by decide +kernel
theorem dX5_walk_203 : decode cX5_walk 203 = .ok (.goto 4, 3) := by decide +kernel
theorem dX5_walk_206 : decode cX5_walk 206 = .ok (.iconst 0, 1) := by decide +kernel
theorem dX5_walk_207 : decode cX5_walk 207 = .ok (.istore 6, 2) := by decide +kernel
theorem dX5_walk_209 : decode cX5_walk 209 = .ok (.iload 5, 2) := by decide +kernel
theorem dX5_walk_211 : decode cX5_walk 211 = .ok (.ifCond .ne 18, 3) := by decide +kernel
theorem dX5_walk_214 : decode cX5_walk 214 = .ok (.iload 6, 2) := by decide +kernel
theorem dX5_walk_216 : decode cX5_walk 216 = .ok (.ifCond .ne 13, 3) := by decide +kernel
theorem dX5_walk_219 : decode cX5_walk 219 = .ok (.aload_n 0, 1) := by decide +kernel
theorem dX5_walk_220 : decode cX5_walk 220 = .ok (.invokevirtual 145, 3) := by decide +kernel
theorem dX5_walk_223 : decode cX5_walk 223 = .ok (.ifCond .ne 6, 3) := by decide +kernel
theorem dX5_walk_226 : decode cX5_walk 226 = .ok (.bipush (-2), 2) := by decide +kernel
theorem dX5_walk_228 : decode cX5_walk 228 = .ok (.ireturn, 1) := by decide +kernel
theorem dX5_walk_229 : decode cX5_walk 229 = .ok (.aload_n 0, 1) := by decide +kernel
theorem dX5_walk_230 : decode cX5_walk 230 = .ok (.getfield 17, 3) := by decide +kernel
theorem dX5_walk_233 : decode cX5_walk 233 = .ok (.iload_n 3, 1) := by decide +kernel
theorem dX5_walk_234 : decode cX5_walk 234 = .ok (.baload, 1) := by decide +kernel
theorem dX5_walk_235 : decode cX5_walk 235 = .ok (.ifCond .ne 5, 3) := by decide +kernel
theorem dX5_walk_238 : decode cX5_walk 238 = .ok (.iconst (-1), 1) := by decide +kernel
theorem dX5_walk_239 : decode cX5_walk 239 = .ok (.ireturn, 1) := by decide +kernel
theorem dX5_walk_240 : decode cX5_walk 240 = .ok (.iload 5, 2) := by decide +kernel
theorem dX5_walk_242 : decode cX5_walk 242 = .ok (.ifCond .eq 7, 3) := by decide +kernel
theorem dX5_walk_245 : decode cX5_walk 245 = .ok (.iload_n 3, 1) := by decide +kernel
theorem dX5_walk_246 : decode cX5_walk 246 = .ok (.goto 31, 3) := by decide +kernel
theorem dX5_walk_249 : decode cX5_walk 249 = .ok (.iload 6, 2) := by decide +kernel
theorem dX5_walk_251 : decode cX5_walk 251 = .ok (.ifCond .eq 20, 3) := by decide +kernel
theorem dX5_walk_254 : decode cX5_walk 254 = .ok (.iload_n 3, 1) := by decide +kernel
theorem dX5_walk_255 : decode cX5_walk 255 = .ok (.ifCond .ne 7, 3) := by decide +kernel
theorem dX5_walk_258 : decode cX5_walk 258 = .ok (.iconst 0, 1) := by decide +kernel
theorem dX5_walk_259 : decode cX5_walk 259 = .ok (.goto 18, 3) := by decide +kernel
theorem dX5_walk_262 : decode cX5_walk 262 = .ok (.aload_n 0, 1) := by decide +kernel
theorem dX5_walk_263 : decode cX5_walk 263 = .ok (.getfield 20, 3) := by decide +kernel
theorem dX5_walk_266 : decode cX5_walk 266 = .ok (.iload_n 3, 1) := by decide +kernel
theorem dX5_walk_267 : decode cX5_walk 267 = .ok (.iaload, 1) := by decide +kernel
theorem dX5_walk_268 : decode cX5_walk 268 = .ok (.goto 9, 3) := by decide +kernel
theorem dX5_walk_271 : decode cX5_walk 271 = .ok (.aload_n 0, 1) := by decide +kernel
theorem dX5_walk_272 : decode cX5_walk 272 = .ok (.iload_n 3, 1) := by decide +kernel
theorem dX5_walk_273 : decode cX5_walk 273 = .ok (.iconst (-1), 1) := by decide +kernel
theorem dX5_walk_274 : decode cX5_walk 274 = .ok (.invokevirtual 149, 3) := by decide +kernel
theorem dX5_walk_277 : decode cX5_walk 277 = .ok (.istore_n 3, 1) := by decide +kernel
theorem dX5_walk_278 : decode cX5_walk 278 = .ok (.iload_n 3, 1) := by decide +kernel
theorem dX5_walk_279 : decode cX5_walk 279 = .ok (.ifCond .ge 5, 3) := by decide +kernel
theorem dX5_walk_282 : decode cX5_walk 282 = .ok (.iconst (-1), 1) := by decide +kernel
theorem dX5_walk_283 : decode cX5_walk 283 = .ok (.ireturn, 1) := by decide +kernel
theorem dX5_walk_284 : decode cX5_walk 284 = .ok (.goto (-209), 3) := by decide +kernel
theorem dX5_walk_287 : decode cX5_walk 287 = .ok (.iload_n 3, 1) := by decide +kernel
theorem dX5_walk_288 : decode cX5_walk 288 = .ok (.ireturn, 1) := by decide +kernel
theorem dX5_isWithin_0 : decode cX5_isWithin 0 = .ok (.iload_n 1, 1) := by decide +kernel
theorem dX5_isWithin_1 : decode cX5_isWithin 1 = .ok (.istore_n 3, 1) := by decide +kernel
theorem dX5_isWithin_2 : decode cX5_isWithin 2 = .ok (.iload_n 3, 1) := by decide +kernel
theorem dX5_isWithin_3 : decode cX5_isWithin 3 = .ok (.ifCond .le 18, 3) := by decide +kernel
theorem dX5_isWithin_6 : decode cX5_isWithin 6 = .ok (.iload_n 3, 1) := by decide +kernel
theorem dX5_isWithin_7 : decode cX5_isWithin 7 = .ok (.iload_n 2, 1) := by decide +kernel
theorem dX5_isWithin_8 : decode cX5_isWithin 8 = .ok (.if_icmp .eq 13, 3) := by decide +kernel
theorem dX5_isWithin_11 : decode cX5_isWithin 11 = .ok (.aload_n 0, 1) := by decide +kernel
theorem dX5_isWithin_12 : decode cX5_isWithin 12 = .ok (.getfield 20, 3) := by decide +kernel
theorem dX5_isWithin_15 : decode cX5_isWithin 15 = .ok (.iload_n 3, 1) := by decide +kernel
theorem dX5_isWithin_16 : decode cX5_isWithin 16 = .ok (.iaload, 1) := by decide +kernel
theorem dX5_isWithin_17 : decode cX5_isWithin 17 = .ok (.istore_n 3, 1) := by decide +kernel
theorem dX5_isWithin_18 : decode cX5_isWithin 18 = .ok (.goto (-16), 3) := by decide +kernel
theorem dX5_isWithin_21 : decode cX5_isWithin 21 = .ok (.iload_n 3, 1) := by decide +kernel
theorem dX5_isWithin_22 : decode cX5_isWithin 22 = .ok (.iload_n 2, 1) := by decide +kernel
theorem dX5_isWithin_23 : decode cX5_isWithin 23 = .ok (.if_icmp .ne 7, 3) := by decide +kernel
theorem dX5_isWithin_26 : decode cX5_isWithin 26 = .ok (.iconst 1, 1) := by decide +kernel
theorem dX5_isWithin_27 : decode cX5_isWithin 27 = .ok (.goto 4, 3) := by decide +kernel
theorem dX5_isWithin_30 : decode cX5_isWithin 30 = .ok (.iconst 0, 1) := by decide +kernel
theorem dX5_isWithin_31 : decode cX5_isWithin 31 = .ok (.ireturn, 1) := by decide +kernel
theorem dX5_move_0 : decode cX5_move 0 = .ok (.aload_n 0, 1) := by decide +kernel
theorem dX5_move_1 : decode cX5_move 1 = .ok (.iconst 0, 1) := by decide +kernel
theorem dX5_move_2 : decode cX5_move 2 = .ok (.putfield 56, 3) := by decide +kernel
theorem dX5_move_5 : decode cX5_move 5 = .ok (.aload_n 0, 1) := by decide +kernel
theorem dX5_move_6 : decode cX5_move 6 = .ok (.invokevirtual 125, 3) := by decide +kernel
theorem dX5_move_9 : decode cX5_move 9 = .ok (.iload_n 1, 1) := by decide +kernel
theorem dX5_move_10 : decode cX5_move 10 = .ok (.ifCond .eq 19, 3) := by decide +kernel
theorem dX5_move_13 : decode cX5_move 13 = .ok (.aload_n 0, 1) := by decide +kernel
theorem dX5_move_14 : decode cX5_move 14 = .ok (.iload_n 1, 1) := by decide +kernel
theorem dX5_move_15 : decode cX5_move 15 = .ok (.invokevirtual 138, 3) := by decide +kernel
theorem dX5_move_18 : decode cX5_move 18 = .ok (.ifCond .ne 11, 3) := by decide +kernel
theorem dX5_move_21 : decode cX5_move 21 = .ok (.aload_n 0, 1) := by decide +kernel
theorem dX5_move_22 : decode cX5_move 22 = .ok (.iload_n 2, 1) := by decide +kernel
theorem dX5_move_23 : decode cX5_move 23 = .ok (.invokevirtual 142, 3) := by decide +kernel
theorem dX5_move_26 : decode cX5_move 26 = .ok (.ifCond .eq 6, 3) := by decide +kernel
theorem dX5_move_29 : decode cX5_move 29 = .ok (.bipush (-5), 2) := by decide +kernel
theorem dX5_move_31 : decode cX5_move 31 = .ok (.ireturn, 1) := by decide +kernel
theorem dX5_move_32 : decode cX5_move 32 = .ok (.aload_n 0, 1) := by decide +kernel
theorem dX5_move_33 : decode cX5_move 33 = .ok (.getfield 65, 3) := by decide +kernel
theorem dX5_move_36 : decode cX5_move 36 = .ok (.ifCond .ne 46, 3) := by decide +kernel
theorem dX5_move_39 : decode cX5_move 39 = .ok (.aload_n 0, 1) := by decide +kernel
theorem dX5_move_40 : decode cX5_move 40 = .ok (.aload_n 0, 1) := by decide +kernel
theorem dX5_move_41 : decode cX5_move 41 = .ok (.getfield 26, 3) := by decide +kernel
theorem dX5_move_44 : decode cX5_move 44 = .ok (.iload_n 1, 1) := by decide +kernel
theorem dX5_move_45 : decode cX5_move 45 = .ok (.iaload, 1) := by decide +kernel
theorem dX5_move_46 : decode cX5_move 46 = .ok (.putfield 65, 3) := by decide +kernel
theorem dX5_move_49 : decode cX5_move 49 = .ok (.iconst 0, 1) := by decide +kernel
theorem dX5_move_50 : decode cX5_move 50 = .ok (.istore_n 3, 1) := by decide +kernel
theorem dX5_move_51 : decode cX5_move 51 = .ok (.iload_n 3, 1) := by decide +kernel
theorem dX5_move_52 : decode cX5_move 52 = .ok (.aload_n 0, 1) := by decide +kernel
theorem dX5_move_53 : decode cX5_move 53 = .ok (.getfield 65, 3) := by decide +kernel
theorem dX5_move_56 : decode cX5_move 56 = .ok (.if_icmp .ge 26, 3) := by decide +kernel
theorem dX5_move_59 : decode cX5_move 59 = .ok (.aload_n 0, 1) := by decide +kernel
theorem dX5_move_60 : decode cX5_move 60 = .ok (.getfield 44, 3) := by decide +kernel
theorem dX5_move_63 : decode cX5_move 63 = .ok (.iload_n 3, 1) := by decide +kernel
theorem dX5_move_64 : decode cX5_move 64 = .ok (.aload_n 0, 1) := by decide +kernel
theorem dX5_move_65 : decode cX5_move 65 = .ok (.getfield 23, 3) := by decide +kernel
theorem dX5_move_68 : decode cX5_move 68 = .ok (.bipush 60, 2) := by decide +kernel
theorem dX5_move_70 : decode cX5_move 70 = .ok (.iload_n 1, 1) := by decide +kernel
theorem dX5_move_71 : decode cX5_move 71 = .ok (.imul, 1) := by decide +kernel
theorem dX5_move_72 : decode cX5_move 72 = .ok (.iload_n 3, 1) := by decide +kernel
theorem dX5_move_73 : decode cX5_move 73 = .ok (.iadd, 1) := by decide +kernel
theorem dX5_move_74 : decode cX5_move 74 = .ok (.iaload, 1) := by decide +kernel
theorem dX5_move_75 : decode cX5_move 75 = .ok (.iastore, 1) := by decide +kernel
theorem dX5_move_76 : decode cX5_move 76 = .ok (.iinc 3 1, 3) := by decide +kernel
theorem dX5_move_79 : decode cX5_move 79 = .ok (.goto (-28), 3) := by decide +kernel
theorem dX5_move_82 : decode cX5_move 82 = .ok (.aload_n 0, 1) := by decide +kernel
theorem dX5_move_83 : decode cX5_move 83 = .ok (.invokevirtual 145, 3) := by decide +kernel
theorem dX5_move_86 : decode cX5_move 86 = .ok (.ifCond .ne 6, 3) := by decide +kernel
theorem dX5_move_89 : decode cX5_move 89 = .ok (.bipush (-2), 2) := by decide +kernel
theorem dX5_move_91 : decode cX5_move 91 = .ok (.ireturn, 1) := by decide +kernel
theorem dX5_move_92 : decode cX5_move 92 = .ok (.aload_n 0, 1) := by decide +kernel
theorem dX5_move_93 : decode cX5_move 93 = .ok (.iload_n 2, 1) := by decide +kernel
theorem dX5_move_94 : decode cX5_move 94 = .ok (.iload_n 1, 1) := by decide +kernel
theorem dX5_move_95 : decode cX5_move 95 = .ok (.invokevirtual 149, 3) := by decide +kernel
theorem dX5_move_98 : decode cX5_move 98 = .ok (.ifCond .lt 6, 3) := by decide +kernel
theorem dX5_move_101 : decode cX5_move 101 = .ok (.bipush (-3), 2) := by decide +kernel
theorem dX5_move_103 : decode cX5_move 103 = .ok (.ireturn, 1) := by decide +kernel
theorem dX5_move_104 : decode cX5_move 104 = .ok (.aload_n 0, 1) := by decide +kernel
theorem dX5_move_105 : decode cX5_move 105 = .ok (.iload_n 2, 1) := by decide +kernel
theorem dX5_move_106 : decode cX5_move 106 = .ok (.iload_n 1, 1) := by decide +kernel
theorem dX5_move_107 : decode cX5_move 107 = .ok (.invokevirtual 163, 3) := by decide +kernel
theorem dX5_move_110 : decode cX5_move 110 = .ok (.ifCond .eq 6, 3) := by decide +kernel
theorem dX5_move_113 : decode cX5_move 113 = .ok (.bipush (-6), 2) := by decide +kernel
theorem dX5_move_115 : decode cX5_move 115 = .ok (.ireturn, 1) := by decide +kernel
theorem dX5_move_116 : decode cX5_move 116 = .ok (.aload_n 0, 1) := by decide +kernel
theorem dX5_move_117 : decode cX5_move 117 = .ok (.getfield 20, 3) := by decide +kernel
theorem dX5_move_120 : decode cX5_move 120 = .ok (.iload_n 1, 1) := by decide +kernel
theorem dX5_move_121 : decode cX5_move 121 = .ok (.iaload, 1) := by decide +kernel
theorem dX5_move_122 : decode cX5_move 122 = .ok (.istore_n 3, 1) := by decide +kernel
theorem dX5_move_123 : decode cX5_move 123 = .ok (.iload_n 3, 1) := by decide +kernel
theorem dX5_move_124 : decode cX5_move 124 = .ok (.iload_n 2, 1) := by decide +kernel
theorem dX5_move_125 : decode cX5_move 125 = .ok (.if_icmp .eq 17, 3) := by decide +kernel
theorem dX5_move_128 : decode cX5_move 128 = .ok (.aload_n 0, 1) := by decide +kernel
theorem dX5_move_129 : decode cX5_move 129 = .ok (.getfield 38, 3) := by decide +kernel
theorem dX5_move_132 : decode cX5_move 132 = .ok (.iload_n 2, 1) := by decide +kernel
theorem dX5_move_133 : decode cX5_move 133 = .ok (.iaload, 1) := by decide +kernel
theorem dX5_move_134 : decode cX5_move 134 = .ok (.bipush 40, 2) := by decide +kernel
theorem dX5_move_136 : decode cX5_move 136 = .ok (.if_icmp .ne 6, 3) := by decide +kernel
theorem dX5_move_139 : decode cX5_move 139 = .ok (.bipush (-4), 2) := by decide +kernel
theorem dX5_move_141 : decode cX5_move 141 = .ok (.ireturn, 1) := by decide +kernel
theorem dX5_move_142 : decode cX5_move 142 = .ok (.aload_n 0, 1) := by decide +kernel
theorem dX5_move_143 : decode cX5_move 143 = .ok (.iload_n 1, 1) := by decide +kernel
theorem dX5_move_144 : decode cX5_move 144 = .ok (.invokevirtual 167, 3) := by decide +kernel
theorem dX5_move_147 : decode cX5_move 147 = .ok (.aload_n 0, 1) := by decide +kernel
theorem dX5_move_148 : decode cX5_move 148 = .ok (.iload_n 1, 1) := by decide +kernel
theorem dX5_move_149 : decode cX5_move 149 = .ok (.invokevirtual 156, 3) := by decide +kernel
theorem dX5_move_152 : decode cX5_move 152 = .ok (.aload_n 0, 1) := by decide +kernel
theorem dX5_move_153 : decode cX5_move 153 = .ok (.iload_n 1, 1) := by decide +kernel
theorem dX5_move_154 : decode cX5_move 154 = .ok (.iload_n 2, 1) := by decide +kernel
theorem dX5_move_155 : decode cX5_move 155 = .ok (.invokevirtual 159, 3) := by decide +kernel
theorem dX5_move_158 : decode cX5_move 158 = .ok (.iload_n 3, 1) := by decide +kernel
theorem dX5_move_159 : decode cX5_move 159 = .ok (.ireturn, 1) := by decide +kernel
theorem dX5_remove_0 : decode cX5_remove 0 = .ok (.aload_n 0, 1) := by decide +kernel
theorem dX5_remove_1 : decode cX5_remove 1 = .ok (.iconst 0, 1) := by decide +kernel
theorem dX5_remove_2 : decode cX5_remove 2 = .ok (.putfield 56, 3) := by decide +kernel
theorem dX5_remove_5 : decode cX5_remove 5 = .ok (.iload_n 1, 1) := by decide +kernel
theorem dX5_remove_6 : decode cX5_remove 6 = .ok (.ifCond .eq 11, 3) := by decide +kernel
theorem dX5_remove_9 : decode cX5_remove 9 = .ok (.aload_n 0, 1) := by decide +kernel
theorem dX5_remove_10 : decode cX5_remove 10 = .ok (.iload_n 1, 1) := by decide +kernel
theorem dX5_remove_11 : decode cX5_remove 11 = .ok (.invokevirtual 138, 3) := by decide +kernel
theorem dX5_remove_14 : decode cX5_remove 14 = .ok (.ifCond .eq 6, 3) := by decide +kernel
theorem dX5_remove_17 : decode cX5_remove 17 = .ok (.bipush (-5), 2) := by decide +kernel
theorem dX5_remove_19 : decode cX5_remove 19 = .ok (.ireturn, 1) := by decide +kernel
theorem dX5_remove_20 : decode cX5_remove 20 = .ok (.aload_n 0, 1) := by decide +kernel
theorem dX5_remove_21 : decode cX5_remove 21 = .ok (.getfield 38, 3) := by decide +kernel
theorem dX5_remove_24 : decode cX5_remove 24 = .ok (.iload_n 1, 1) := by decide +kernel
theorem dX5_remove_25 : decode cX5_remove 25 = .ok (.iaload, 1) := by decide +kernel
theorem dX5_remove_26 : decode cX5_remove 26 = .ok (.ifCond .le 6, 3) := by decide +kernel
theorem dX5_remove_29 : decode cX5_remove 29 = .ok (.bipush (-6), 2) := by decide +kernel
theorem dX5_remove_31 : decode cX5_remove 31 = .ok (.ireturn, 1) := by decide +kernel
theorem dX5_remove_32 : decode cX5_remove 32 = .ok (.aload_n 0, 1) := by decide +kernel
theorem dX5_remove_33 : decode cX5_remove 33 = .ok (.iload_n 1, 1) := by decide +kernel
theorem dX5_remove_34 : decode cX5_remove 34 = .ok (.invokevirtual 167, 3) := by decide +kernel
theorem dX5_remove_37 : decode cX5_remove 37 = .ok (.aload_n 0, 1) := by decide +kernel
theorem dX5_remove_38 : decode cX5_remove 38 = .ok (.getfield 13, 3) := by decide +kernel
theorem dX5_remove_41 : decode cX5_remove 41 = .ok (.iload_n 1, 1) := by decide +kernel
theorem dX5_remove_42 : decode cX5_remove 42 = .ok (.iconst 0, 1) := by decide +kernel
theorem dX5_remove_43 : decode cX5_remove 43 = .ok (.bastore, 1) := by decide +kernel
theorem dX5_remove_44 : decode cX5_remove 44 = .ok (.aload_n 0, 1) := by decide +kernel
theorem dX5_remove_45 : decode cX5_remove 45 = .ok (.getfield 20, 3) := by decide +kernel
theorem dX5_remove_48 : decode cX5_remove 48 = .ok (.iload_n 1, 1) := by decide +kernel
theorem dX5_remove_49 : decode cX5_remove 49 = .ok (.iaload, 1) := by decide +kernel
theorem dX5_remove_50 : decode cX5_remove 50 = .ok (.ireturn, 1) := by decide +kernel
theorem dX5_about_0 : decode cX5_about 0 = .ok (.aload_n 0, 1) := by decide +kernel
theorem dX5_about_1 : decode cX5_about 1 = .ok (.iload_n 2, 1) := by decide +kernel
theorem dX5_about_2 : decode cX5_about 2 = .ok (.ifCond .lt 8, 3) := by decide +kernel
theorem dX5_about_5 : decode cX5_about 5 = .ok (.iload_n 2, 1) := by decide +kernel
theorem dX5_about_6 : decode cX5_about 6 = .ok (.iconst 5, 1) := by decide +kernel
theorem dX5_about_7 : decode cX5_about 7 = .ok (.if_icmp .le 7, 3) := by decide +kernel
theorem dX5_about_10 : decode cX5_about 10 = .ok (.iconst 1, 1) := by decide +kernel
theorem dX5_about_11 : decode cX5_about 11 = .ok (.goto 4, 3) := by decide +kernel
theorem dX5_about_14 : decode cX5_about 14 = .ok (.iconst 0, 1) := by decide +kernel
theorem dX5_about_15 : decode cX5_about 15 = .ok (.putfield 56, 3) := by decide +kernel
theorem dX5_about_18 : decode cX5_about 18 = .ok (.aload_n 0, 1) := by decide +kernel
theorem dX5_about_19 : decode cX5_about 19 = .ok (.getfield 56, 3) := by decide +kernel
theorem dX5_about_22 : decode cX5_about 22 = .ok (.ifCond .le 5, 3) := by decide +kernel
theorem dX5_about_25 : decode cX5_about 25 = .ok (.iconst 0, 1) := by decide +kernel
theorem dX5_about_26 : decode cX5_about 26 = .ok (.ireturn, 1) := by decide +kernel
theorem dX5_about_27 : decode cX5_about 27 = .ok (.aload_n 0, 1) := by decide +kernel
theorem dX5_about_28 : decode cX5_about 28 = .ok (.iload_n 1, 1) := by decide +kernel
theorem dX5_about_29 : decode cX5_about 29 = .ok (.invokevirtual 138, 3) := by decide +kernel
theorem dX5_about_32 : decode cX5_about 32 = .ok (.ifCond .eq 6, 3) := by decide +kernel
theorem dX5_about_35 : decode cX5_about 35 = .ok (.bipush (-5), 2) := by decide +kernel
theorem dX5_about_37 : decode cX5_about 37 = .ok (.ireturn, 1) := by decide +kernel
theorem dX5_about_38 : decode cX5_about 38 = .ok (.iload_n 2, 1) := by decide +kernel
theorem dX5_about_39 : decode cX5_about 39 = .ok (.tableswitch 76 0 4 #[33, 48, 55, 62, 69], 33) := by decide +kernel
theorem dX5_about_72 : decode cX5_about 72 = .ok (.aload_n 0, 1) := by decide +kernel
theorem dX5_about_73 : decode cX5_about 73 = .ok (.getfield 17, 3) := by decide +kernel
theorem dX5_about_76 : decode cX5_about 76 = .ok (.iload_n 1, 1) := by decide +kernel
theorem dX5_about_77 : decode cX5_about 77 = .ok (.baload, 1) := by decide +kernel
theorem dX5_about_78 : decode cX5_about 78 = .ok (.ifCond .eq 7, 3) := by decide +kernel
theorem dX5_about_81 : decode cX5_about 81 = .ok (.iconst 1, 1) := by decide +kernel
theorem dX5_about_82 : decode cX5_about 82 = .ok (.goto 4, 3) := by decide +kernel
theorem dX5_about_85 : decode cX5_about 85 = .ok (.iconst 0, 1) := by decide +kernel
theorem dX5_about_86 : decode cX5_about 86 = .ok (.ireturn, 1) := by decide +kernel
theorem dX5_about_87 : decode cX5_about 87 = .ok (.aload_n 0, 1) := by decide +kernel
theorem dX5_about_88 : decode cX5_about 88 = .ok (.getfield 20, 3) := by decide +kernel
theorem dX5_about_91 : decode cX5_about 91 = .ok (.iload_n 1, 1) := by decide +kernel
theorem dX5_about_92 : decode cX5_about 92 = .ok (.iaload, 1) := by decide +kernel
theorem dX5_about_93 : decode cX5_about 93 = .ok (.ireturn, 1) := by decide +kernel
theorem dX5_about_94 : decode cX5_about 94 = .ok (.aload_n 0, 1) := by decide +kernel
theorem dX5_about_95 : decode cX5_about 95 = .ok (.getfield 38, 3) := by decide +kernel
theorem dX5_about_98 : decode cX5_about 98 = .ok (.iload_n 1, 1) := by decide +kernel
theorem dX5_about_99 : decode cX5_about 99 = .ok (.iaload, 1) := by decide +kernel
theorem dX5_about_100 : decode cX5_about 100 = .ok (.ireturn, 1) := by decide +kernel
theorem dX5_about_101 : decode cX5_about 101 = .ok (.aload_n 0, 1) := by decide +kernel
theorem dX5_about_102 : decode cX5_about 102 = .ok (.getfield 26, 3) := by decide +kernel
theorem dX5_about_105 : decode cX5_about 105 = .ok (.iload_n 1, 1) := by decide +kernel
theorem dX5_about_106 : decode cX5_about 106 = .ok (.iaload, 1) := by decide +kernel
theorem dX5_about_107 : decode cX5_about 107 = .ok (.ireturn, 1) := by decide +kernel
theorem dX5_about_108 : decode cX5_about 108 = .ok (.aload_n 0, 1) := by decide +kernel
theorem dX5_about_109 : decode cX5_about 109 = .ok (.getfield 32, 3) := by decide +kernel
theorem dX5_about_112 : decode cX5_about 112 = .ok (.iload_n 1, 1) := by decide +kernel
theorem dX5_about_113 : decode cX5_about 113 = .ok (.iaload, 1) := by decide +kernel
theorem dX5_about_114 : decode cX5_about 114 = .ok (.ireturn, 1) := by decide +kernel
theorem dX5_about_115 : decode cX5_about 115 = .ok (.iconst 0, 1) := by decide +kernel
theorem dX5_about_116 : decode cX5_about 116 = .ok (.istore_n 3, 1) := by decide +kernel
theorem dX5_about_117 : decode cX5_about 117 = .ok (.iload_n 1, 1) := by decide +kernel
theorem dX5_about_118 : decode cX5_about 118 = .ok (.istore 4, 2) := by decide +kernel
theorem dX5_about_120 : decode cX5_about 120 = .ok (.iload 4, 2) := by decide +kernel
theorem dX5_about_122 : decode cX5_about 122 = .ok (.ifCond .eq 18, 3) := by decide +kernel
theorem dX5_about_125 : decode cX5_about 125 = .ok (.iinc 3 1, 3) := by decide +kernel
theorem dX5_about_128 : decode cX5_about 128 = .ok (.aload_n 0, 1) := by decide +kernel
theorem dX5_about_129 : decode cX5_about 129 = .ok (.getfield 20, 3) := by decide +kernel
theorem dX5_about_132 : decode cX5_about 132 = .ok (.iload 4, 2) := by decide +kernel
theorem dX5_about_134 : decode cX5_about 134 = .ok (.iaload, 1) := by decide +kernel
theorem dX5_about_135 : decode cX5_about 135 = .ok (.istore 4, 2) := by decide +kernel
theorem dX5_about_137 : decode cX5_about 137 = .ok (.goto (-17), 3) := by decide +kernel
theorem dX5_about_140 : decode cX5_about 140 = .ok (.iload_n 3, 1) := by decide +kernel
theorem dX5_about_141 : decode cX5_about 141 = .ok (.ireturn, 1) := by decide +kernel
theorem dX5_entry_0 : decode cX5_entry 0 = .ok (.aload_n 0, 1) := by decide +kernel
theorem dX5_entry_1 : decode cX5_entry 1 = .ok (.iconst 0, 1) := by decide +kernel
theorem dX5_entry_2 : decode cX5_entry 2 = .ok (.putfield 56, 3) := by decide +kernel
theorem dX5_entry_5 : decode cX5_entry 5 = .ok (.aload_n 0, 1) := by decide +kernel
theorem dX5_entry_6 : decode cX5_entry 6 = .ok (.iload_n 1, 1) := by decide +kernel
theorem dX5_entry_7 : decode cX5_entry 7 = .ok (.invokevirtual 142, 3) := by decide +kernel
theorem dX5_entry_10 : decode cX5_entry 10 = .ok (.ifCond .eq 8, 3) := by decide +kernel
theorem dX5_entry_13 : decode cX5_entry 13 = .ok (.bipush (-5), 2) := by decide +kernel
theorem dX5_entry_15 : decode cX5_entry 15 = .ok (.goto 32, 3) := by decide +kernel
theorem dX5_entry_18 : decode cX5_entry 18 = .ok (.iload_n 2, 1) := by decide +kernel
theorem dX5_entry_19 : decode cX5_entry 19 = .ok (.ifCond .lt 13, 3) := by decide +kernel
theorem dX5_entry_22 : decode cX5_entry 22 = .ok (.iload_n 2, 1) := by decide +kernel
theorem dX5_entry_23 : decode cX5_entry 23 = .ok (.aload_n 0, 1) := by decide +kernel
theorem dX5_entry_24 : decode cX5_entry 24 = .ok (.getfield 38, 3) := by decide +kernel
theorem dX5_entry_27 : decode cX5_entry 27 = .ok (.iload_n 1, 1) := by decide +kernel
theorem dX5_entry_28 : decode cX5_entry 28 = .ok (.iaload, 1) := by decide +kernel
theorem dX5_entry_29 : decode cX5_entry 29 = .ok (.if_icmp .lt 7, 3) := by decide +kernel
theorem dX5_entry_32 : decode cX5_entry 32 = .ok (.iconst (-1), 1) := by decide +kernel
theorem dX5_entry_33 : decode cX5_entry 33 = .ok (.goto 14, 3) := by decide +kernel
theorem dX5_entry_36 : decode cX5_entry 36 = .ok (.aload_n 0, 1) := by decide +kernel
theorem dX5_entry_37 : decode cX5_entry 37 = .ok (.getfield 35, 3) := by decide +kernel
theorem dX5_entry_40 : decode cX5_entry 40 = .ok (.bipush 40, 2) := by decide +kernel
theorem dX5_entry_42 : decode cX5_entry 42 = .ok (.iload_n 1, 1) := by decide +kernel
theorem dX5_entry_43 : decode cX5_entry 43 = .ok (.imul, 1) := by decide +kernel
theorem dX5_entry_44 : decode cX5_entry 44 = .ok (.iload_n 2, 1) := by decide +kernel
theorem dX5_entry_45 : decode cX5_entry 45 = .ok (.iadd, 1) := by decide +kernel
theorem dX5_entry_46 : decode cX5_entry 46 = .ok (.iaload, 1) := by decide +kernel
theorem dX5_entry_47 : decode cX5_entry 47 = .ok (.ireturn, 1) := by decide +kernel
theorem dX5_isBefore_0 : decode cX5_isBefore 0 = .ok (.iconst 0, 1) := by decide +kernel
theorem dX5_isBefore_1 : decode cX5_isBefore 1 = .ok (.istore_n 3, 1) := by decide +kernel
theorem dX5_isBefore_2 : decode cX5_isBefore 2 = .ok (.iload_n 3, 1) := by decide +kernel
theorem dX5_isBefore_3 : decode cX5_isBefore 3 = .ok (.aload_n 0, 1) := by decide +kernel
theorem dX5_isBefore_4 : decode cX5_isBefore 4 = .ok (.getfield 32, 3) := by decide +kernel
theorem dX5_isBefore_7 : decode cX5_isBefore 7 = .ok (.iload_n 1, 1) := by decide +kernel
theorem dX5_isBefore_8 : decode cX5_isBefore 8 = .ok (.iaload, 1) := by decide +kernel
theorem dX5_isBefore_9 : decode cX5_isBefore 9 = .ok (.if_icmp .ge 65, 3) := by decide +kernel
theorem dX5_isBefore_12 : decode cX5_isBefore 12 = .ok (.iload_n 3, 1) := by decide +kernel
theorem dX5_isBefore_13 : decode cX5_isBefore 13 = .ok (.aload_n 0, 1) := by decide +kernel
theorem dX5_isBefore_14 : decode cX5_isBefore 14 = .ok (.getfield 32, 3) := by decide +kernel
theorem dX5_isBefore_17 : decode cX5_isBefore 17 = .ok (.iload_n 2, 1) := by decide +kernel
theorem dX5_isBefore_18 : decode cX5_isBefore 18 = .ok (.iaload, 1) := by decide +kernel
theorem dX5_isBefore_19 : decode cX5_isBefore 19 = .ok (.if_icmp .ge 55, 3) := by decide +kernel
theorem dX5_isBefore_22 : decode cX5_isBefore 22 = .ok (.aload_n 0, 1) := by decide +kernel
theorem dX5_isBefore_23 : decode cX5_isBefore 23 = .ok (.getfield 29, 3) := by decide +kernel
theorem dX5_isBefore_26 : decode cX5_isBefore 26 = .ok (.bipush 60, 2) := by decide +kernel
theorem dX5_isBefore_28 : decode cX5_isBefore 28 = .ok (.iload_n 1, 1) := by decide +kernel
theorem dX5_isBefore_29 : decode cX5_isBefore 29 = .ok (.imul, 1) := by decide +kernel
theorem dX5_isBefore_30 : decode cX5_isBefore 30 = .ok (.iload_n 3, 1) := by decide +kernel
theorem dX5_isBefore_31 : decode cX5_isBefore 31 = .ok (.iadd, 1) := by decide +kernel
theorem dX5_isBefore_32 : decode cX5_isBefore 32 = .ok (.iaload, 1) := by decide +kernel
theorem dX5_isBefore_33 : decode cX5_isBefore 33 = .ok (.istore 4, 2) := by decide +kernel
theorem dX5_isBefore_35 : decode cX5_isBefore 35 = .ok (.aload_n 0, 1) := by decide +kernel
theorem dX5_isBefore_36 : decode cX5_isBefore 36 = .ok (.getfield 29, 3) := by decide +kernel
theorem dX5_isBefore_39 : decode cX5_isBefore 39 = .ok (.bipush 60, 2) := by decide +kernel
theorem dX5_isBefore_41 : decode cX5_isBefore 41 = .ok (.iload_n 2, 1) := by decide +kernel
theorem dX5_isBefore_42 : decode cX5_isBefore 42 = .ok (.imul, 1) := by decide +kernel
theorem dX5_isBefore_43 : decode cX5_isBefore 43 = .ok (.iload_n 3, 1) := by decide +kernel
theorem dX5_isBefore_44 : decode cX5_isBefore 44 = .ok (.iadd, 1) := by decide +kernel
theorem dX5_isBefore_45 : decode cX5_isBefore 45 = .ok (.iaload, 1) := by decide +kernel
theorem dX5_isBefore_46 : decode cX5_isBefore 46 = .ok (.istore 5, 2) := by decide +kernel
theorem dX5_isBefore_48 : decode cX5_isBefore 48 = .ok (.iload 4, 2) := by decide +kernel
theorem dX5_isBefore_50 : decode cX5_isBefore 50 = .ok (.iload 5, 2) := by decide +kernel
theorem dX5_isBefore_52 : decode cX5_isBefore 52 = .ok (.if_icmp .eq 16, 3) := by decide +kernel
theorem dX5_isBefore_55 : decode cX5_isBefore 55 = .ok (.iload 4, 2) := by decide +kernel
theorem dX5_isBefore_57 : decode cX5_isBefore 57 = .ok (.iload 5, 2) := by decide +kernel
theorem dX5_isBefore_59 : decode cX5_isBefore 59 = .ok (.if_icmp .ge 7, 3) := by decide +kernel
theorem dX5_isBefore_62 : decode cX5_isBefore 62 = .ok (.iconst 1, 1) := by decide +kernel
theorem dX5_isBefore_63 : decode cX5_isBefore 63 = .ok (.goto 4, 3) := by decide +kernel
theorem dX5_isBefore_66 : decode cX5_isBefore 66 = .ok (.iconst 0, 1) := by decide +kernel
theorem dX5_isBefore_67 : decode cX5_isBefore 67 = .ok (.ireturn, 1) := by decide +kernel
theorem dX5_isBefore_68 : decode cX5_isBefore 68 = .ok (.iinc 3 1, 3) := by decide +kernel
theorem dX5_isBefore_71 : decode cX5_isBefore 71 = .ok (.goto (-69), 3) := by decide +kernel
theorem dX5_isBefore_74 : decode cX5_isBefore 74 = .ok (.aload_n 0, 1) := by decide +kernel
theorem dX5_isBefore_75 : decode cX5_isBefore 75 = .ok (.getfield 32, 3) := by decide +kernel
theorem dX5_isBefore_78 : decode cX5_isBefore 78 = .ok (.iload_n 1, 1) := by decide +kernel
theorem dX5_isBefore_79 : decode cX5_isBefore 79 = .ok (.iaload, 1) := by decide +kernel
theorem dX5_isBefore_80 : decode cX5_isBefore 80 = .ok (.aload_n 0, 1) := by decide +kernel
theorem dX5_isBefore_81 : decode cX5_isBefore 81 = .ok (.getfield 32, 3) := by decide +kernel
theorem dX5_isBefore_84 : decode cX5_isBefore 84 = .ok (.iload_n 2, 1) := by decide +kernel
theorem dX5_isBefore_85 : decode cX5_isBefore 85 = .ok (.iaload, 1) := by decide +kernel
theorem dX5_isBefore_86 : decode cX5_isBefore 86 = .ok (.if_icmp .ge 7, 3) := by decide +kernel
theorem dX5_isBefore_89 : decode cX5_isBefore 89 = .ok (.iconst 1, 1) := by decide +kernel
theorem dX5_isBefore_90 : decode cX5_isBefore 90 = .ok (.goto 4, 3) := by decide +kernel
theorem dX5_isBefore_93 : decode cX5_isBefore 93 = .ok (.iconst 0, 1) := by decide +kernel
theorem dX5_isBefore_94 : decode cX5_isBefore 94 = .ok (.ireturn, 1) := by decide +kernel
theorem dX5_sorted_0 : decode cX5_sorted 0 = .ok (.aload_n 0, 1) := by decide +kernel
theorem dX5_sorted_1 : decode cX5_sorted 1 = .ok (.iconst 0, 1) := by decide +kernel
theorem dX5_sorted_2 : decode cX5_sorted 2 = .ok (.putfield 56, 3) := by decide +kernel
theorem dX5_sorted_5 : decode cX5_sorted 5 = .ok (.aload_n 0, 1) := by decide +kernel
theorem dX5_sorted_6 : decode cX5_sorted 6 = .ok (.iload_n 1, 1) := by decide +kernel
theorem dX5_sorted_7 : decode cX5_sorted 7 = .ok (.invokevirtual 142, 3) := by decide +kernel
theorem dX5_sorted_10 : decode cX5_sorted 10 = .ok (.ifCond .eq 6, 3) := by decide +kernel
theorem dX5_sorted_13 : decode cX5_sorted 13 = .ok (.bipush (-5), 2) := by decide +kernel
theorem dX5_sorted_15 : decode cX5_sorted 15 = .ok (.ireturn, 1) := by decide +kernel
theorem dX5_sorted_16 : decode cX5_sorted 16 = .ok (.iconst 0, 1) := by decide +kernel
theorem dX5_sorted_17 : decode cX5_sorted 17 = .ok (.istore_n 3, 1) := by decide +kernel
theorem dX5_sorted_18 : decode cX5_sorted 18 = .ok (.iload_n 3, 1) := by decide +kernel
theorem dX5_sorted_19 : decode cX5_sorted 19 = .ok (.aload_n 0, 1) := by decide +kernel
theorem dX5_sorted_20 : decode cX5_sorted 20 = .ok (.getfield 38, 3) := by decide +kernel
theorem dX5_sorted_23 : decode cX5_sorted 23 = .ok (.iload_n 1, 1) := by decide +kernel
theorem dX5_sorted_24 : decode cX5_sorted 24 = .ok (.iaload, 1) := by decide +kernel
theorem dX5_sorted_25 : decode cX5_sorted 25 = .ok (.if_icmp .ge 85, 3) := by decide +kernel
theorem dX5_sorted_28 : decode cX5_sorted 28 = .ok (.aload_n 0, 1) := by decide +kernel
theorem dX5_sorted_29 : decode cX5_sorted 29 = .ok (.getfield 35, 3) := by decide +kernel
theorem dX5_sorted_32 : decode cX5_sorted 32 = .ok (.bipush 40, 2) := by decide +kernel
theorem dX5_sorted_34 : decode cX5_sorted 34 = .ok (.iload_n 1, 1) := by decide +kernel
theorem dX5_sorted_35 : decode cX5_sorted 35 = .ok (.imul, 1) := by decide +kernel
theorem dX5_sorted_36 : decode cX5_sorted 36 = .ok (.iload_n 3, 1) := by decide +kernel
theorem dX5_sorted_37 : decode cX5_sorted 37 = .ok (.iadd, 1) := by decide +kernel
theorem dX5_sorted_38 : decode cX5_sorted 38 = .ok (.iaload, 1) := by decide +kernel
theorem dX5_sorted_39 : decode cX5_sorted 39 = .ok (.istore 4, 2) := by decide +kernel
theorem dX5_sorted_41 : decode cX5_sorted 41 = .ok (.iconst 0, 1) := by decide +kernel
theorem dX5_sorted_42 : decode cX5_sorted 42 = .ok (.istore 5, 2) := by decide +kernel
theorem dX5_sorted_44 : decode cX5_sorted 44 = .ok (.iconst 0, 1) := by decide +kernel
theorem dX5_sorted_45 : decode cX5_sorted 45 = .ok (.istore 6, 2) := by decide +kernel
theorem dX5_sorted_47 : decode cX5_sorted 47 = .ok (.iload 6, 2) := by decide +kernel
theorem dX5_sorted_49 : decode cX5_sorted 49 = .ok (.aload_n 0, 1) := by decide +kernel
theorem dX5_sorted_50 : decode cX5_sorted 50 = .ok (.getfield 38, 3) := by decide +kernel
theorem dX5_sorted_53 : decode cX5_sorted 53 = .ok (.iload_n 1, 1) := by decide +kernel
theorem dX5_sorted_54 : decode cX5_sorted 54 = .ok (.iaload, 1) := by decide +kernel
theorem dX5_sorted_55 : decode cX5_sorted 55 = .ok (.if_icmp .ge 40, 3) := by decide +kernel
theorem dX5_sorted_58 : decode cX5_sorted 58 = .ok (.iload 5, 2) := by decide +kernel
theorem dX5_sorted_60 : decode cX5_sorted 60 = .ok (.aload_n 0, 1) := by decide +kernel
theorem dX5_sorted_61 : decode cX5_sorted 61 = .ok (.aload_n 0, 1) := by decide +kernel
theorem dX5_sorted_62 : decode cX5_sorted 62 = .ok (.getfield 35, 3) := by decide +kernel
theorem dX5_sorted_65 : decode cX5_sorted 65 = .ok (.bipush 40, 2) := by decide +kernel
theorem dX5_sorted_67 : decode cX5_sorted 67 = .ok (.iload_n 1, 1) := by decide +kernel
theorem dX5_sorted_68 : decode cX5_sorted 68 = .ok (.imul, 1) := by decide +kernel
theorem dX5_sorted_69 : decode cX5_sorted 69 = .ok (.iload 6, 2) := by decide +kernel
theorem dX5_sorted_71 : decode cX5_sorted 71 = .ok (.iadd, 1) := by decide +kernel
theorem dX5_sorted_72 : decode cX5_sorted 72 = .ok (.iaload, 1) := by decide +kernel
theorem dX5_sorted_73 : decode cX5_sorted 73 = .ok (.iload 4, 2) := by decide +kernel
theorem dX5_sorted_75 : decode cX5_sorted 75 = .ok (.invokevirtual 170, 3) := by decide +kernel
theorem dX5_sorted_78 : decode cX5_sorted 78 = .ok (.ifCond .eq 7, 3) := by decide +kernel
theorem dX5_sorted_81 : decode cX5_sorted 81 = .ok (.iconst 1, 1) := by decide +kernel
theorem dX5_sorted_82 : decode cX5_sorted 82 = .ok (.goto 4, 3) := by decide +kernel
theorem dX5_sorted_85 : decode cX5_sorted 85 = .ok (.iconst 0, 1) := by decide +kernel
theorem dX5_sorted_86 : decode cX5_sorted 86 = .ok (.iadd, 1) := by decide +kernel
theorem dX5_sorted_87 : decode cX5_sorted 87 = .ok (.istore 5, 2) := by decide +kernel
theorem dX5_sorted_89 : decode cX5_sorted 89 = .ok (.iinc 6 1, 3) := by decide +kernel
theorem dX5_sorted_92 : decode cX5_sorted 92 = .ok (.goto (-45), 3) := by decide +kernel
theorem dX5_sorted_95 : decode cX5_sorted 95 = .ok (.iload 5, 2) := by decide +kernel
theorem dX5_sorted_97 : decode cX5_sorted 97 = .ok (.iload_n 2, 1) := by decide +kernel
theorem dX5_sorted_98 : decode cX5_sorted 98 = .ok (.if_icmp .ne 6, 3) := by decide +kernel
theorem dX5_sorted_101 : decode cX5_sorted 101 = .ok (.iload 4, 2) := by decide +kernel
theorem dX5_sorted_103 : decode cX5_sorted 103 = .ok (.ireturn, 1) := by decide +kernel
theorem dX5_sorted_104 : decode cX5_sorted 104 = .ok (.iinc 3 1, 3) := by decide +kernel
theorem dX5_sorted_107 : decode cX5_sorted 107 = .ok (.goto (-89), 3) := by decide +kernel
theorem dX5_sorted_110 : decode cX5_sorted 110 = .ok (.iconst (-1), 1) := by decide +kernel
theorem dX5_sorted_111 : decode cX5_sorted 111 = .ok (.ireturn, 1) := by decide +kernel
theorem dX5_letter_0 : decode cX5_letter 0 = .ok (.aload_n 0, 1) := by decide +kernel
theorem dX5_letter_1 : decode cX5_letter 1 = .ok (.iload_n 2, 1) := by decide +kernel
theorem dX5_letter_2 : decode cX5_letter 2 = .ok (.ifCond .lt 8, 3) := by decide +kernel
theorem dX5_letter_5 : decode cX5_letter 5 = .ok (.iload_n 2, 1) := by decide +kernel
theorem dX5_letter_6 : decode cX5_letter 6 = .ok (.iconst 1, 1) := by decide +kernel
theorem dX5_letter_7 : decode cX5_letter 7 = .ok (.if_icmp .le 7, 3) := by decide +kernel
theorem dX5_letter_10 : decode cX5_letter 10 = .ok (.iconst 1, 1) := by decide +kernel
theorem dX5_letter_11 : decode cX5_letter 11 = .ok (.goto 4, 3) := by decide +kernel
theorem dX5_letter_14 : decode cX5_letter 14 = .ok (.iconst 0, 1) := by decide +kernel
theorem dX5_letter_15 : decode cX5_letter 15 = .ok (.putfield 56, 3) := by decide +kernel
theorem dX5_letter_18 : decode cX5_letter 18 = .ok (.aload_n 0, 1) := by decide +kernel
theorem dX5_letter_19 : decode cX5_letter 19 = .ok (.getfield 56, 3) := by decide +kernel
theorem dX5_letter_22 : decode cX5_letter 22 = .ok (.ifCond .le 5, 3) := by decide +kernel
theorem dX5_letter_25 : decode cX5_letter 25 = .ok (.iconst 0, 1) := by decide +kernel
theorem dX5_letter_26 : decode cX5_letter 26 = .ok (.ireturn, 1) := by decide +kernel
theorem dX5_letter_27 : decode cX5_letter 27 = .ok (.aload_n 0, 1) := by decide +kernel
theorem dX5_letter_28 : decode cX5_letter 28 = .ok (.iload_n 1, 1) := by decide +kernel
theorem dX5_letter_29 : decode cX5_letter 29 = .ok (.invokevirtual 138, 3) := by decide +kernel
theorem dX5_letter_32 : decode cX5_letter 32 = .ok (.ifCond .eq 6, 3) := by decide +kernel
theorem dX5_letter_35 : decode cX5_letter 35 = .ok (.bipush (-5), 2) := by decide +kernel
theorem dX5_letter_37 : decode cX5_letter 37 = .ok (.ireturn, 1) := by decide +kernel
theorem dX5_letter_38 : decode cX5_letter 38 = .ok (.iload_n 3, 1) := by decide +kernel
theorem dX5_letter_39 : decode cX5_letter 39 = .ok (.ifCond .lt 26, 3) := by decide +kernel
theorem dX5_letter_42 : decode cX5_letter 42 = .ok (.iload_n 3, 1) := by decide +kernel
theorem dX5_letter_43 : decode cX5_letter 43 = .ok (.iload_n 2, 1) := by decide +kernel
theorem dX5_letter_44 : decode cX5_letter 44 = .ok (.ifCond .ne 12, 3) := by decide +kernel
theorem dX5_letter_47 : decode cX5_letter 47 = .ok (.aload_n 0, 1) := by decide +kernel
theorem dX5_letter_48 : decode cX5_letter 48 = .ok (.getfield 26, 3) := by decide +kernel
theorem dX5_letter_51 : decode cX5_letter 51 = .ok (.iload_n 1, 1) := by decide +kernel
theorem dX5_letter_52 : decode cX5_letter 52 = .ok (.iaload, 1) := by decide +kernel
theorem dX5_letter_53 : decode cX5_letter 53 = .ok (.goto 9, 3) := by decide +kernel
theorem dX5_letter_56 : decode cX5_letter 56 = .ok (.aload_n 0, 1) := by decide +kernel
theorem dX5_letter_57 : decode cX5_letter 57 = .ok (.getfield 32, 3) := by decide +kernel
theorem dX5_letter_60 : decode cX5_letter 60 = .ok (.iload_n 1, 1) := by decide +kernel
theorem dX5_letter_61 : decode cX5_letter 61 = .ok (.iaload, 1) := by decide +kernel
theorem dX5_letter_62 : decode cX5_letter 62 = .ok (.if_icmp .lt 5, 3) := by decide +kernel
theorem dX5_letter_65 : decode cX5_letter 65 = .ok (.iconst (-1), 1) := by decide +kernel
theorem dX5_letter_66 : decode cX5_letter 66 = .ok (.ireturn, 1) := by decide +kernel
theorem dX5_letter_67 : decode cX5_letter 67 = .ok (.iload_n 2, 1) := by decide +kernel
theorem dX5_letter_68 : decode cX5_letter 68 = .ok (.ifCond .ne 17, 3) := by decide +kernel
theorem dX5_letter_71 : decode cX5_letter 71 = .ok (.aload_n 0, 1) := by decide +kernel
theorem dX5_letter_72 : decode cX5_letter 72 = .ok (.getfield 23, 3) := by decide +kernel
theorem dX5_letter_75 : decode cX5_letter 75 = .ok (.bipush 60, 2) := by decide +kernel
theorem dX5_letter_77 : decode cX5_letter 77 = .ok (.iload_n 1, 1) := by decide +kernel
theorem dX5_letter_78 : decode cX5_letter 78 = .ok (.imul, 1) := by decide +kernel
theorem dX5_letter_79 : decode cX5_letter 79 = .ok (.iload_n 3, 1) := by decide +kernel
theorem dX5_letter_80 : decode cX5_letter 80 = .ok (.iadd, 1) := by decide +kernel
theorem dX5_letter_81 : decode cX5_letter 81 = .ok (.iaload, 1) := by decide +kernel
theorem dX5_letter_82 : decode cX5_letter 82 = .ok (.goto 14, 3) := by decide +kernel
theorem dX5_letter_85 : decode cX5_letter 85 = .ok (.aload_n 0, 1) := by decide +kernel
theorem dX5_letter_86 : decode cX5_letter 86 = .ok (.getfield 29, 3) := by decide +kernel
theorem dX5_letter_89 : decode cX5_letter 89 = .ok (.bipush 60, 2) := by decide +kernel
theorem dX5_letter_91 : decode cX5_letter 91 = .ok (.iload_n 1, 1) := by decide +kernel
theorem dX5_letter_92 : decode cX5_letter 92 = .ok (.imul, 1) := by decide +kernel
theorem dX5_letter_93 : decode cX5_letter 93 = .ok (.iload_n 3, 1) := by decide +kernel
theorem dX5_letter_94 : decode cX5_letter 94 = .ok (.iadd, 1) := by decide +kernel
theorem dX5_letter_95 : decode cX5_letter 95 = .ok (.iaload, 1) := by decide +kernel
theorem dX5_letter_96 : decode cX5_letter 96 = .ok (.ireturn, 1) := by decide +kernel
theorem dX5_nodes_0 : decode cX5_nodes 0 = .ok (.aload_n 0, 1) := by decide +kernel
theorem dX5_nodes_1 : decode cX5_nodes 1 = .ok (.iconst 0, 1) := by decide +kernel
theorem dX5_nodes_2 : decode cX5_nodes 2 = .ok (.putfield 56, 3) := by decide +kernel
theorem dX5_nodes_5 : decode cX5_nodes 5 = .ok (.iconst 0, 1) := by decide +kernel
theorem dX5_nodes_6 : decode cX5_nodes 6 = .ok (.istore_n 1, 1) := by decide +kernel
theorem dX5_nodes_7 : decode cX5_nodes 7 = .ok (.iconst 0, 1) := by decide +kernel
theorem dX5_nodes_8 : decode cX5_nodes 8 = .ok (.istore_n 2, 1) := by decide +kernel
theorem dX5_nodes_9 : decode cX5_nodes 9 = .ok (.iload_n 2, 1) := by decide +kernel
theorem dX5_nodes_10 : decode cX5_nodes 10 = .ok (.sipush 200, 3) := by decide +kernel
theorem dX5_nodes_13 : decode cX5_nodes 13 = .ok (.if_icmp .ge 26, 3) := by decide +kernel
theorem dX5_nodes_16 : decode cX5_nodes 16 = .ok (.iload_n 1, 1) := by decide +kernel
theorem dX5_nodes_17 : decode cX5_nodes 17 = .ok (.aload_n 0, 1) := by decide +kernel
theorem dX5_nodes_18 : decode cX5_nodes 18 = .ok (.getfield 13, 3) := by decide +kernel
theorem dX5_nodes_21 : decode cX5_nodes 21 = .ok (.iload_n 2, 1) := by decide +kernel
theorem dX5_nodes_22 : decode cX5_nodes 22 = .ok (.baload, 1) := by decide +kernel
theorem dX5_nodes_23 : decode cX5_nodes 23 = .ok (.ifCond .eq 7, 3) := by decide +kernel
theorem dX5_nodes_26 : decode cX5_nodes 26 = .ok (.iconst 1, 1) := by decide +kernel
theorem dX5_nodes_27 : decode cX5_nodes 27 = .ok (.goto 4, 3) := by decide +kernel
theorem dX5_nodes_30 : decode cX5_nodes 30 = .ok (.iconst 0, 1) := by decide +kernel
theorem dX5_nodes_31 : decode cX5_nodes 31 = .ok (.iadd, 1) := by decide +kernel
theorem dX5_nodes_32 : decode cX5_nodes 32 = .ok (.istore_n 1, 1) := by decide +kernel
theorem dX5_nodes_33 : decode cX5_nodes 33 = .ok (.iinc 2 1, 3) := by decide +kernel
theorem dX5_nodes_36 : decode cX5_nodes 36 = .ok (.goto (-27), 3) := by decide +kernel
theorem dX5_nodes_39 : decode cX5_nodes 39 = .ok (.iload_n 1, 1) := by decide +kernel
theorem dX5_nodes_40 : decode cX5_nodes 40 = .ok (.ireturn, 1) := by decide +kernel
end
section
theorem dL_feed_0 : decode cL_feed 0 = .ok (.aload 4, 2) := by decide +kernel
theorem dL_feed_2 : decode cL_feed 2 = .ok (.iconst 0, 1) := by decide +kernel
theorem dL_feed_3 : decode cL_feed 3 = .ok (.aload_n 0, 1) := by decide +kernel
theorem dL_feed_4 : decode cL_feed 4 = .ok (.iload_n 1, 1) := by decide +kernel
theorem dL_feed_5 : decode cL_feed 5 = .ok (.lload_n 2, 1) := by decide +kernel
theorem dL_feed_6 : decode cL_feed 6 = .ok (.invokevirtual 7, 3) := by decide +kernel
theorem dL_feed_9 : decode cL_feed 9 = .ok (.i2l, 1) := by decide +kernel
theorem dL_feed_10 : decode cL_feed 10 = .ok (.lastore, 1) := by decide +kernel
theorem dL_feed_11 : decode cL_feed 11 = .ok (.goto 7, 3) := by decide +kernel
theorem dL_feed_14 : decode cL_feed 14 = .ok (.astore 5, 2) := by decide +kernel
theorem dL_feed_16 : decode cL_feed 16 = .ok (.iconst 1, 1) := by decide +kernel
theorem dL_feed_17 : decode cL_feed 17 = .ok (.ireturn, 1) := by decide +kernel
theorem dL_feed_18 : decode cL_feed 18 = .ok (.iconst 0, 1) := by decide +kernel
theorem dL_feed_19 : decode cL_feed 19 = .ok (.ireturn, 1) := by decide +kernel
theorem dL_about_0 : decode cL_about 0 = .ok (.aload_n 3, 1) := by decide +kernel
theorem dL_about_1 : decode cL_about 1 = .ok (.iconst 0, 1) := by decide +kernel
theorem dL_about_2 : decode cL_about 2 = .ok (.aload_n 0, 1) := by decide +kernel
theorem dL_about_3 : decode cL_about 3 = .ok (.iload_n 1, 1) := by decide +kernel
theorem dL_about_4 : decode cL_about 4 = .ok (.iload_n 2, 1) := by decide +kernel
theorem dL_about_5 : decode cL_about 5 = .ok (.invokevirtual 15, 3) := by decide +kernel
theorem dL_about_8 : decode cL_about 8 = .ok (.i2l, 1) := by decide +kernel
theorem dL_about_9 : decode cL_about 9 = .ok (.lastore, 1) := by decide +kernel
theorem dL_about_10 : decode cL_about 10 = .ok (.goto 7, 3) := by decide +kernel
theorem dL_about_13 : decode cL_about 13 = .ok (.astore 4, 2) := by decide +kernel
theorem dL_about_15 : decode cL_about 15 = .ok (.iconst 1, 1) := by decide +kernel
theorem dL_about_16 : decode cL_about 16 = .ok (.ireturn, 1) := by decide +kernel
theorem dL_about_17 : decode cL_about 17 = .ok (.iconst 0, 1) := by decide +kernel
theorem dL_about_18 : decode cL_about 18 = .ok (.ireturn, 1) := by decide +kernel
theorem dL_letter_0 : decode cL_letter 0 = .ok (.aload 4, 2) := by decide +kernel
theorem dL_letter_2 : decode cL_letter 2 = .ok (.iconst 0, 1) := by decide +kernel
theorem dL_letter_3 : decode cL_letter 3 = .ok (.aload_n 0, 1) := by decide +kernel
theorem dL_letter_4 : decode cL_letter 4 = .ok (.iload_n 1, 1) := by decide +kernel
theorem dL_letter_5 : decode cL_letter 5 = .ok (.iload_n 2, 1) := by decide +kernel
theorem dL_letter_6 : decode cL_letter 6 = .ok (.iload_n 3, 1) := by decide +kernel
theorem dL_letter_7 : decode cL_letter 7 = .ok (.invokevirtual 19, 3) := by decide +kernel
theorem dL_letter_10 : decode cL_letter 10 = .ok (.i2l, 1) := by decide +kernel
theorem dL_letter_11 : decode cL_letter 11 = .ok (.lastore, 1) := by decide +kernel
theorem dL_letter_12 : decode cL_letter 12 = .ok (.goto 7, 3) := by decide +kernel
theorem dL_letter_15 : decode cL_letter 15 = .ok (.astore 5, 2) := by decide +kernel
theorem dL_letter_17 : decode cL_letter 17 = .ok (.iconst 1, 1) := by decide +kernel
theorem dL_letter_18 : decode cL_letter 18 = .ok (.ireturn, 1) := by decide +kernel
theorem dL_letter_19 : decode cL_letter 19 = .ok (.iconst 0, 1) := by decide +kernel
theorem dL_letter_20 : decode cL_letter 20 = .ok (.ireturn, 1) := by decide +kernel
theorem dL_law_0 : decode cL_law 0 = .ok (.new 8, 3) := by decide +kernel
theorem dL_law_3 : decode cL_law 3 = .ok (.dup, 1) := by decide +kernel
theorem dL_law_4 : decode cL_law 4 = .ok (.invokespecial 23, 3) := by decide +kernel
theorem dL_law_7 : decode cL_law 7 = .ok (.astore_n 1, 1) := by decide +kernel
theorem dL_law_8 : decode cL_law 8 = .ok (.new 24, 3) := by decide +kernel
theorem dL_law_11 : decode cL_law 11 = .ok (.dup, 1) := by decide +kernel
theorem dL_law_12 : decode cL_law 12 = .ok (.invokespecial 26, 3) := by decide +kernel
theorem dL_law_15 : decode cL_law 15 = .ok (.astore_n 2, 1) := by decide +kernel
theorem dL_law_16 : decode cL_law 16 = .ok (.iconst 1, 1) := by decide +kernel
theorem dL_law_17 : decode cL_law 17 = .ok (.newarray .long, 2) := by decide +kernel
theorem dL_law_19 : decode cL_law 19 = .ok (.astore_n 3, 1) := by decide +kernel
theorem dL_law_20 : decode cL_law 20 = .ok (.iconst 0, 1) := by decide +kernel
theorem dL_law_21 : decode cL_law 21 = .ok (.istore 4, 2) := by decide +kernel
theorem dL_law_23 : decode cL_law 23 = .ok (.iload 4, 2) := by decide +kernel
theorem dL_law_25 : decode cL_law 25 = .ok (.aload_n 0, 1) := by decide +kernel
theorem dL_law_26 : decode cL_law 26 = .ok (.arraylength, 1) := by decide +kernel
theorem dL_law_27 : decode cL_law 27 = .ok (.iconst 4, 1) := by decide +kernel
theorem dL_law_28 : decode cL_law 28 = .ok (.isub, 1) := by decide +kernel
theorem dL_law_29 : decode cL_law 29 = .ok (.if_icmp .gt 636, 3) := by decide +kernel
theorem dL_law_32 : decode cL_law 32 = .ok (.aload_n 0, 1) := by decide +kernel
theorem dL_law_33 : decode cL_law 33 = .ok (.iload 4, 2) := by decide +kernel
theorem dL_law_35 : decode cL_law 35 = .ok (.iaload, 1) := by decide +kernel
theorem dL_law_36 : decode cL_law 36 = .ok (.bipush 15, 2) := by decide +kernel
theorem dL_law_38 : decode cL_law 38 = .ok (.iand, 1) := by decide +kernel
theorem dL_law_39 : decode cL_law 39 = .ok (.tableswitch 620 0 13 #[69, 169, 182, 195, 220, 273, 298, 323, 360, 385, 453, 490, 527, 607], 69) := by decide +kernel
theorem dL_law_108 : decode cL_law 108 = .ok (.aload_n 1, 1) := by decide +kernel
theorem dL_law_109 : decode cL_law 109 = .ok (.aload_n 0, 1) := by decide +kernel
theorem dL_law_110 : decode cL_law 110 = .ok (.iload 4, 2) := by decide +kernel
theorem dL_law_112 : decode cL_law 112 = .ok (.iconst 1, 1) := by decide +kernel
theorem dL_law_113 : decode cL_law 113 = .ok (.iadd, 1) := by decide +kernel
theorem dL_law_114 : decode cL_law 114 = .ok (.iaload, 1) := by decide +kernel
theorem dL_law_115 : decode cL_law 115 = .ok (.aload_n 0, 1) := by decide +kernel
theorem dL_law_116 : decode cL_law 116 = .ok (.iload 4, 2) := by decide +kernel
theorem dL_law_118 : decode cL_law 118 = .ok (.iconst 2, 1) := by decide +kernel
theorem dL_law_119 : decode cL_law 119 = .ok (.iadd, 1) := by decide +kernel
theorem dL_law_120 : decode cL_law 120 = .ok (.iaload, 1) := by decide +kernel
theorem dL_law_121 : decode cL_law 121 = .ok (.i2l, 1) := by decide +kernel
theorem dL_law_122 : decode cL_law 122 = .ok (.bipush 32, 2) := by decide +kernel
theorem dL_law_124 : decode cL_law 124 = .ok (.lshl, 1) := by decide +kernel
theorem dL_law_125 : decode cL_law 125 = .ok (.aload_n 0, 1) := by decide +kernel
theorem dL_law_126 : decode cL_law 126 = .ok (.iload 4, 2) := by decide +kernel
theorem dL_law_128 : decode cL_law 128 = .ok (.iconst 3, 1) := by decide +kernel
theorem dL_law_129 : decode cL_law 129 = .ok (.iadd, 1) := by decide +kernel
theorem dL_law_130 : decode cL_law 130 = .ok (.iaload, 1) := by decide +kernel
theorem dL_law_131 : decode cL_law 131 = .ok (.i2l, 1) := by decide +kernel
theorem dL_law_132 : decode cL_law 132 = .ok (.ldc2_w 27, 3) := by decide +kernel
theorem dL_law_135 : decode cL_law 135 = .ok (.land, 1) := by decide +kernel
theorem dL_law_136 : decode cL_law 136 = .ok (.lor, 1) := by decide +kernel
theorem dL_law_137 : decode cL_law 137 = .ok (.aload_n 3, 1) := by decide +kernel
theorem dL_law_138 : decode cL_law 138 = .ok (.invokestatic 29, 3) := by decide +kernel
theorem dL_law_141 : decode cL_law 141 = .ok (.istore 5, 2) := by decide +kernel
theorem dL_law_143 : decode cL_law 143 = .ok (.aload_n 2, 1) := by decide +kernel
theorem dL_law_144 : decode cL_law 144 = .ok (.aload_n 0, 1) := by decide +kernel
theorem dL_law_145 : decode cL_law 145 = .ok (.iload 4, 2) := by decide +kernel
theorem dL_law_147 : decode cL_law 147 = .ok (.iconst 1, 1) := by decide +kernel
theorem dL_law_148 : decode cL_law 148 = .ok (.iadd, 1) := by decide +kernel
theorem dL_law_149 : decode cL_law 149 = .ok (.iaload, 1) := by decide +kernel
theorem dL_law_150 : decode cL_law 150 = .ok (.aload_n 0, 1) := by decide +kernel
theorem dL_law_151 : decode cL_law 151 = .ok (.iload 4, 2) := by decide +kernel
theorem dL_law_153 : decode cL_law 153 = .ok (.iconst 2, 1) := by decide +kernel
theorem dL_law_154 : decode cL_law 154 = .ok (.iadd, 1) := by decide +kernel
theorem dL_law_155 : decode cL_law 155 = .ok (.iaload, 1) := by decide +kernel
theorem dL_law_156 : decode cL_law 156 = .ok (.i2l, 1) := by decide +kernel
theorem dL_law_157 : decode cL_law 157 = .ok (.bipush 32, 2) := by decide +kernel
theorem dL_law_159 : decode cL_law 159 = .ok (.lshl, 1) := by decide +kernel
theorem dL_law_160 : decode cL_law 160 = .ok (.aload_n 0, 1) := by decide +kernel
theorem dL_law_161 : decode cL_law 161 = .ok (.iload 4, 2) := by decide +kernel
theorem dL_law_163 : decode cL_law 163 = .ok (.iconst 3, 1) := by decide +kernel
theorem dL_law_164 : decode cL_law 164 = .ok (.iadd, 1) := by decide +kernel
theorem dL_law_165 : decode cL_law 165 = .ok (.iaload, 1) := by decide +kernel
theorem dL_law_166 : decode cL_law 166 = .ok (.i2l, 1) := by decide +kernel
theorem dL_law_167 : decode cL_law 167 = .ok (.ldc2_w 27, 3) := by decide +kernel
theorem dL_law_170 : decode cL_law 170 = .ok (.land, 1) := by decide +kernel
theorem dL_law_171 : decode cL_law 171 = .ok (.lor, 1) := by decide +kernel
theorem dL_law_172 : decode cL_law 172 = .ok (.invokevirtual 34, 3) := by decide +kernel
theorem dL_law_175 : decode cL_law 175 = .ok (.istore 6, 2) := by decide +kernel
theorem dL_law_177 : decode cL_law 177 = .ok (.aload_n 2, 1) := by decide +kernel
theorem dL_law_178 : decode cL_law 178 = .ok (.invokevirtual 35, 3) := by decide +kernel
theorem dL_law_181 : decode cL_law 181 = .ok (.iload 5, 2) := by decide +kernel
theorem dL_law_183 : decode cL_law 183 = .ok (.if_icmp .eq 5, 3) := by decide +kernel
theorem dL_law_186 : decode cL_law 186 = .ok (.iconst 0, 1) := by decide +kernel
theorem dL_law_187 : decode cL_law 187 = .ok (.ireturn, 1) := by decide +kernel
theorem dL_law_188 : decode cL_law 188 = .ok (.iload 5, 2) := by decide +kernel
theorem dL_law_190 : decode cL_law 190 = .ok (.ifCond .ne 15, 3) := by decide +kernel
theorem dL_law_193 : decode cL_law 193 = .ok (.aload_n 3, 1) := by decide +kernel
theorem dL_law_194 : decode cL_law 194 = .ok (.iconst 0, 1) := by decide +kernel
theorem dL_law_195 : decode cL_law 195 = .ok (.laload, 1) := by decide +kernel
theorem dL_law_196 : decode cL_law 196 = .ok (.iload 6, 2) := by decide +kernel
theorem dL_law_198 : decode cL_law 198 = .ok (.i2l, 1) := by decide +kernel
theorem dL_law_199 : decode cL_law 199 = .ok (.lcmp, 1) := by decide +kernel
theorem dL_law_200 : decode cL_law 200 = .ok (.ifCond .eq 5, 3) := by decide +kernel
theorem dL_law_203 : decode cL_law 203 = .ok (.iconst 0, 1) := by decide +kernel
theorem dL_law_204 : decode cL_law 204 = .ok (.ireturn, 1) := by decide +kernel
theorem dL_law_205 : decode cL_law 205 = .ok (.goto 454, 3) := by decide +kernel
theorem dL_law_208 : decode cL_law 208 = .ok (.aload_n 1, 1) := by decide +kernel
theorem dL_law_209 : decode cL_law 209 = .ok (.invokevirtual 39, 3) := by decide +kernel
theorem dL_law_212 : decode cL_law 212 = .ok (.aload_n 2, 1) := by decide +kernel
theorem dL_law_213 : decode cL_law 213 = .ok (.invokevirtual 42, 3) := by decide +kernel
theorem dL_law_216 : decode cL_law 216 = .ok (.if_icmp .eq 443, 3) := by decide +kernel
theorem dL_law_219 : decode cL_law 219 = .ok (.iconst 0, 1) := by decide +kernel
theorem dL_law_220 : decode cL_law 220 = .ok (.ireturn, 1) := by decide +kernel
theorem dL_law_221 : decode cL_law 221 = .ok (.aload_n 1, 1) := by decide +kernel
theorem dL_law_222 : decode cL_law 222 = .ok (.invokevirtual 43, 3) := by decide +kernel
theorem dL_law_225 : decode cL_law 225 = .ok (.aload_n 2, 1) := by decide +kernel
theorem dL_law_226 : decode cL_law 226 = .ok (.invokevirtual 46, 3) := by decide +kernel
theorem dL_law_229 : decode cL_law 229 = .ok (.if_icmp .eq 430, 3) := by decide +kernel
theorem dL_law_232 : decode cL_law 232 = .ok (.iconst 0, 1) := by decide +kernel
theorem dL_law_233 : decode cL_law 233 = .ok (.ireturn, 1) := by decide +kernel
theorem dL_law_234 : decode cL_law 234 = .ok (.aload_n 1, 1) := by decide +kernel
theorem dL_law_235 : decode cL_law 235 = .ok (.aload_n 0, 1) := by decide +kernel
theorem dL_law_236 : decode cL_law 236 = .ok (.iload 4, 2) := by decide +kernel
theorem dL_law_238 : decode cL_law 238 = .ok (.iconst 1, 1) := by decide +kernel
theorem dL_law_239 : decode cL_law 239 = .ok (.iadd, 1) := by decide +kernel
theorem dL_law_240 : decode cL_law 240 = .ok (.iaload, 1) := by decide +kernel
theorem dL_law_241 : decode cL_law 241 = .ok (.invokevirtual 47, 3) := by decide +kernel
theorem dL_law_244 : decode cL_law 244 = .ok (.aload_n 2, 1) := by decide +kernel
theorem dL_law_245 : decode cL_law 245 = .ok (.aload_n 0, 1) := by decide +kernel
theorem dL_law_246 : decode cL_law 246 = .ok (.iload 4, 2) := by decide +kernel
theorem dL_law_248 : decode cL_law 248 = .ok (.iconst 1, 1) := by decide +kernel
theorem dL_law_249 : decode cL_law 249 = .ok (.iadd, 1) := by decide +kernel
theorem dL_law_250 : decode cL_law 250 = .ok (.iaload, 1) := by decide +kernel
theorem dL_law_251 : decode cL_law 251 = .ok (.invokevirtual 51, 3) := by decide +kernel
theorem dL_law_254 : decode cL_law 254 = .ok (.if_icmp .eq 405, 3) := by decide +kernel
theorem dL_law_257 : decode cL_law 257 = .ok (.iconst 0, 1) := by decide +kernel
theorem dL_law_258 : decode cL_law 258 = .ok (.ireturn, 1) := by decide +kernel
theorem dL_law_259 : decode cL_law 259 = .ok (.aload_n 1, 1) := by decide +kernel
theorem dL_law_260 : decode cL_law 260 = .ok (.aload_n 0, 1) := by decide +kernel
theorem dL_law_261 : decode cL_law 261 = .ok (.iload 4, 2) := by decide +kernel
theorem dL_law_263 : decode cL_law 263 = .ok (.iconst 1, 1) := by decide +kernel
theorem dL_law_264 : decode cL_law 264 = .ok (.iadd, 1) := by decide +kernel
theorem dL_law_265 : decode cL_law 265 = .ok (.iaload, 1) := by decide +kernel
theorem dL_law_266 : decode cL_law 266 = .ok (.aload_n 0, 1) := by decide +kernel
theorem dL_law_267 : decode cL_law 267 = .ok (.iload 4, 2) := by decide +kernel
theorem dL_law_269 : decode cL_law 269 = .ok (.iconst 2, 1) := by decide +kernel
theorem dL_law_270 : decode cL_law 270 = .ok (.iadd, 1) := by decide +kernel
theorem dL_law_271 : decode cL_law 271 = .ok (.iaload, 1) := by decide +kernel
theorem dL_law_272 : decode cL_law 272 = .ok (.ifCond .eq 7, 3) := by decide +kernel
theorem dL_law_275 : decode cL_law 275 = .ok (.iconst 1, 1) := by decide +kernel
theorem dL_law_276 : decode cL_law 276 = .ok (.goto 4, 3) := by decide +kernel
theorem dL_law_279 : decode cL_law 279 = .ok (.iconst 0, 1) := by decide +kernel
theorem dL_law_280 : decode cL_law 280 = .ok (.invokevirtual 52, 3) := by decide +kernel
theorem dL_law_283 : decode cL_law 283 = .ok (.aload_n 2, 1) := by decide +kernel
theorem dL_law_284 : decode cL_law 284 = .ok (.aload_n 0, 1) := by decide +kernel
theorem dL_law_285 : decode cL_law 285 = .ok (.iload 4, 2) := by decide +kernel
theorem dL_law_287 : decode cL_law 287 = .ok (.iconst 1, 1) := by decide +kernel
theorem dL_law_288 : decode cL_law 288 = .ok (.iadd, 1) := by decide +kernel
theorem dL_law_289 : decode cL_law 289 = .ok (.iaload, 1) := by decide +kernel
theorem dL_law_290 : decode cL_law 290 = .ok (.aload_n 0, 1) := by decide +kernel
theorem dL_law_291 : decode cL_law 291 = .ok (.iload 4, 2) := by decide +kernel
theorem dL_law_293 : decode cL_law 293 = .ok (.iconst 2, 1) := by decide +kernel
theorem dL_law_294 : decode cL_law 294 = .ok (.iadd, 1) := by decide +kernel
theorem dL_law_295 : decode cL_law 295 = .ok (.iaload, 1) := by decide +kernel
theorem dL_law_296 : decode cL_law 296 = .ok (.ifCond .eq 7, 3) := by decide +kernel
theorem dL_law_299 : decode cL_law 299 = .ok (.iconst 1, 1) := by decide +kernel
theorem dL_law_300 : decode cL_law 300 = .ok (.goto 4, 3) := by decide +kernel
theorem dL_law_303 : decode cL_law 303 = .ok (.iconst 0, 1) := by decide +kernel
theorem dL_law_304 : decode cL_law 304 = .ok (.invokevirtual 56, 3) := by decide +kernel
theorem dL_law_307 : decode cL_law 307 = .ok (.if_icmp .eq 352, 3) := by decide +kernel
theorem dL_law_310 : decode cL_law 310 = .ok (.iconst 0, 1) := by decide +kernel
theorem dL_law_311 : decode cL_law 311 = .ok (.ireturn, 1) := by decide +kernel
theorem dL_law_312 : decode cL_law 312 = .ok (.aload_n 1, 1) := by decide +kernel
theorem dL_law_313 : decode cL_law 313 = .ok (.aload_n 0, 1) := by decide +kernel
theorem dL_law_314 : decode cL_law 314 = .ok (.iload 4, 2) := by decide +kernel
theorem dL_law_316 : decode cL_law 316 = .ok (.iconst 1, 1) := by decide +kernel
theorem dL_law_317 : decode cL_law 317 = .ok (.iadd, 1) := by decide +kernel
theorem dL_law_318 : decode cL_law 318 = .ok (.iaload, 1) := by decide +kernel
theorem dL_law_319 : decode cL_law 319 = .ok (.invokevirtual 57, 3) := by decide +kernel
theorem dL_law_322 : decode cL_law 322 = .ok (.aload_n 2, 1) := by decide +kernel
theorem dL_law_323 : decode cL_law 323 = .ok (.aload_n 0, 1) := by decide +kernel
theorem dL_law_324 : decode cL_law 324 = .ok (.iload 4, 2) := by decide +kernel
theorem dL_law_326 : decode cL_law 326 = .ok (.iconst 1, 1) := by decide +kernel
theorem dL_law_327 : decode cL_law 327 = .ok (.iadd, 1) := by decide +kernel
theorem dL_law_328 : decode cL_law 328 = .ok (.iaload, 1) := by decide +kernel
theorem dL_law_329 : decode cL_law 329 = .ok (.invokevirtual 60, 3) := by decide +kernel
theorem dL_law_332 : decode cL_law 332 = .ok (.if_icmp .eq 327, 3) := by decide +kernel
theorem dL_law_335 : decode cL_law 335 = .ok (.iconst 0, 1) := by decide +kernel
theorem dL_law_336 : decode cL_law 336 = .ok (.ireturn, 1) := by decide +kernel
theorem dL_law_337 : decode cL_law 337 = .ok (.aload_n 1, 1) := by decide +kernel
theorem dL_law_338 : decode cL_law 338 = .ok (.aload_n 0, 1) := by decide +kernel
theorem dL_law_339 : decode cL_law 339 = .ok (.iload 4, 2) := by decide +kernel
theorem dL_law_341 : decode cL_law 341 = .ok (.iconst 1, 1) := by decide +kernel
theorem dL_law_342 : decode cL_law 342 = .ok (.iadd, 1) := by decide +kernel
theorem dL_law_343 : decode cL_law 343 = .ok (.iaload, 1) := by decide +kernel
theorem dL_law_344 : decode cL_law 344 = .ok (.invokevirtual 61, 3) := by decide +kernel
theorem dL_law_347 : decode cL_law 347 = .ok (.aload_n 2, 1) := by decide +kernel
theorem dL_law_348 : decode cL_law 348 = .ok (.aload_n 0, 1) := by decide +kernel
theorem dL_law_349 : decode cL_law 349 = .ok (.iload 4, 2) := by decide +kernel
theorem dL_law_351 : decode cL_law 351 = .ok (.iconst 1, 1) := by decide +kernel
theorem dL_law_352 : decode cL_law 352 = .ok (.iadd, 1) := by decide +kernel
theorem dL_law_353 : decode cL_law 353 = .ok (.iaload, 1) := by decide +kernel
theorem dL_law_354 : decode cL_law 354 = .ok (.invokevirtual 64, 3) := by decide +kernel
theorem dL_law_357 : decode cL_law 357 = .ok (.if_icmp .eq 302, 3) := by decide +kernel
theorem dL_law_360 : decode cL_law 360 = .ok (.iconst 0, 1) := by decide +kernel
theorem dL_law_361 : decode cL_law 361 = .ok (.ireturn, 1) := by decide +kernel
theorem dL_law_362 : decode cL_law 362 = .ok (.aload_n 1, 1) := by decide +kernel
theorem dL_law_363 : decode cL_law 363 = .ok (.aload_n 0, 1) := by decide +kernel
theorem dL_law_364 : decode cL_law 364 = .ok (.iload 4, 2) := by decide +kernel
theorem dL_law_366 : decode cL_law 366 = .ok (.iconst 1, 1) := by decide +kernel
theorem dL_law_367 : decode cL_law 367 = .ok (.iadd, 1) := by decide +kernel
theorem dL_law_368 : decode cL_law 368 = .ok (.iaload, 1) := by decide +kernel
theorem dL_law_369 : decode cL_law 369 = .ok (.aload_n 0, 1) := by decide +kernel
theorem dL_law_370 : decode cL_law 370 = .ok (.iload 4, 2) := by decide +kernel
theorem dL_law_372 : decode cL_law 372 = .ok (.iconst 2, 1) := by decide +kernel
theorem dL_law_373 : decode cL_law 373 = .ok (.iadd, 1) := by decide +kernel
theorem dL_law_374 : decode cL_law 374 = .ok (.iaload, 1) := by decide +kernel
theorem dL_law_375 : decode cL_law 375 = .ok (.invokevirtual 65, 3) := by decide +kernel
theorem dL_law_378 : decode cL_law 378 = .ok (.aload_n 2, 1) := by decide +kernel
theorem dL_law_379 : decode cL_law 379 = .ok (.aload_n 0, 1) := by decide +kernel
theorem dL_law_380 : decode cL_law 380 = .ok (.iload 4, 2) := by decide +kernel
theorem dL_law_382 : decode cL_law 382 = .ok (.iconst 1, 1) := by decide +kernel
theorem dL_law_383 : decode cL_law 383 = .ok (.iadd, 1) := by decide +kernel
theorem dL_law_384 : decode cL_law 384 = .ok (.iaload, 1) := by decide +kernel
theorem dL_law_385 : decode cL_law 385 = .ok (.aload_n 0, 1) := by decide +kernel
theorem dL_law_386 : decode cL_law 386 = .ok (.iload 4, 2) := by decide +kernel
theorem dL_law_388 : decode cL_law 388 = .ok (.iconst 2, 1) := by decide +kernel
theorem dL_law_389 : decode cL_law 389 = .ok (.iadd, 1) := by decide +kernel
theorem dL_law_390 : decode cL_law 390 = .ok (.iaload, 1) := by decide +kernel
theorem dL_law_391 : decode cL_law 391 = .ok (.invokevirtual 68, 3) := by decide +kernel
theorem dL_law_394 : decode cL_law 394 = .ok (.if_icmp .eq 265, 3) := by decide +kernel
theorem dL_law_397 : decode cL_law 397 = .ok (.iconst 0, 1) := by decide +kernel
theorem dL_law_398 : decode cL_law 398 = .ok (.ireturn, 1) := by decide +kernel
theorem dL_law_399 : decode cL_law 399 = .ok (.aload_n 1, 1) := by decide +kernel
theorem dL_law_400 : decode cL_law 400 = .ok (.aload_n 0, 1) := by decide +kernel
theorem dL_law_401 : decode cL_law 401 = .ok (.iload 4, 2) := by decide +kernel
theorem dL_law_403 : decode cL_law 403 = .ok (.iconst 1, 1) := by decide +kernel
theorem dL_law_404 : decode cL_law 404 = .ok (.iadd, 1) := by decide +kernel
theorem dL_law_405 : decode cL_law 405 = .ok (.iaload, 1) := by decide +kernel
theorem dL_law_406 : decode cL_law 406 = .ok (.invokevirtual 69, 3) := by decide +kernel
theorem dL_law_409 : decode cL_law 409 = .ok (.aload_n 2, 1) := by decide +kernel
theorem dL_law_410 : decode cL_law 410 = .ok (.aload_n 0, 1) := by decide +kernel
theorem dL_law_411 : decode cL_law 411 = .ok (.iload 4, 2) := by decide +kernel
theorem dL_law_413 : decode cL_law 413 = .ok (.iconst 1, 1) := by decide +kernel
theorem dL_law_414 : decode cL_law 414 = .ok (.iadd, 1) := by decide +kernel
theorem dL_law_415 : decode cL_law 415 = .ok (.iaload, 1) := by decide +kernel
theorem dL_law_416 : decode cL_law 416 = .ok (.invokevirtual 72, 3) := by decide +kernel
theorem dL_law_419 : decode cL_law 419 = .ok (.if_icmp .eq 240, 3) := by decide +kernel
theorem dL_law_422 : decode cL_law 422 = .ok (.iconst 0, 1) := by decide +kernel
theorem dL_law_423 : decode cL_law 423 = .ok (.ireturn, 1) := by decide +kernel
theorem dL_law_424 : decode cL_law 424 = .ok (.aload_n 1, 1) := by decide +kernel
theorem dL_law_425 : decode cL_law 425 = .ok (.aload_n 0, 1) := by decide +kernel
theorem dL_law_426 : decode cL_law 426 = .ok (.iload 4, 2) := by decide +kernel
theorem dL_law_428 : decode cL_law 428 = .ok (.iconst 1, 1) := by decide +kernel
theorem dL_law_429 : decode cL_law 429 = .ok (.iadd, 1) := by decide +kernel
theorem dL_law_430 : decode cL_law 430 = .ok (.iaload, 1) := by decide +kernel
theorem dL_law_431 : decode cL_law 431 = .ok (.aload_n 0, 1) := by decide +kernel
theorem dL_law_432 : decode cL_law 432 = .ok (.iload 4, 2) := by decide +kernel
theorem dL_law_434 : decode cL_law 434 = .ok (.iconst 2, 1) := by decide +kernel
theorem dL_law_435 : decode cL_law 435 = .ok (.iadd, 1) := by decide +kernel
theorem dL_law_436 : decode cL_law 436 = .ok (.iaload, 1) := by decide +kernel
theorem dL_law_437 : decode cL_law 437 = .ok (.aload_n 3, 1) := by decide +kernel
theorem dL_law_438 : decode cL_law 438 = .ok (.invokestatic 73, 3) := by decide +kernel
theorem dL_law_441 : decode cL_law 441 = .ok (.istore 5, 2) := by decide +kernel
theorem dL_law_443 : decode cL_law 443 = .ok (.aload_n 2, 1) := by decide +kernel
theorem dL_law_444 : decode cL_law 444 = .ok (.aload_n 0, 1) := by decide +kernel
theorem dL_law_445 : decode cL_law 445 = .ok (.iload 4, 2) := by decide +kernel
theorem dL_law_447 : decode cL_law 447 = .ok (.iconst 1, 1) := by decide +kernel
theorem dL_law_448 : decode cL_law 448 = .ok (.iadd, 1) := by decide +kernel
theorem dL_law_449 : decode cL_law 449 = .ok (.iaload, 1) := by decide +kernel
theorem dL_law_450 : decode cL_law 450 = .ok (.aload_n 0, 1) := by decide +kernel
theorem dL_law_451 : decode cL_law 451 = .ok (.iload 4, 2) := by decide +kernel
theorem dL_law_453 : decode cL_law 453 = .ok (.iconst 2, 1) := by decide +kernel
theorem dL_law_454 : decode cL_law 454 = .ok (.iadd, 1) := by decide +kernel
theorem dL_law_455 : decode cL_law 455 = .ok (.iaload, 1) := by decide +kernel
theorem dL_law_456 : decode cL_law 456 = .ok (.invokevirtual 76, 3) := by decide +kernel
theorem dL_law_459 : decode cL_law 459 = .ok (.istore 6, 2) := by decide +kernel
theorem dL_law_461 : decode cL_law 461 = .ok (.aload_n 2, 1) := by decide +kernel
theorem dL_law_462 : decode cL_law 462 = .ok (.invokevirtual 35, 3) := by decide +kernel
theorem dL_law_465 : decode cL_law 465 = .ok (.iload 5, 2) := by decide +kernel
theorem dL_law_467 : decode cL_law 467 = .ok (.if_icmp .eq 5, 3) := by decide +kernel
theorem dL_law_470 : decode cL_law 470 = .ok (.iconst 0, 1) := by decide +kernel
theorem dL_law_471 : decode cL_law 471 = .ok (.ireturn, 1) := by decide +kernel
theorem dL_law_472 : decode cL_law 472 = .ok (.iload 5, 2) := by decide +kernel
theorem dL_law_474 : decode cL_law 474 = .ok (.ifCond .ne 15, 3) := by decide +kernel
theorem dL_law_477 : decode cL_law 477 = .ok (.aload_n 3, 1) := by decide +kernel
theorem dL_law_478 : decode cL_law 478 = .ok (.iconst 0, 1) := by decide +kernel
theorem dL_law_479 : decode cL_law 479 = .ok (.laload, 1) := by decide +kernel
theorem dL_law_480 : decode cL_law 480 = .ok (.iload 6, 2) := by decide +kernel
theorem dL_law_482 : decode cL_law 482 = .ok (.i2l, 1) := by decide +kernel
theorem dL_law_483 : decode cL_law 483 = .ok (.lcmp, 1) := by decide +kernel
theorem dL_law_484 : decode cL_law 484 = .ok (.ifCond .eq 5, 3) := by decide +kernel
theorem dL_law_487 : decode cL_law 487 = .ok (.iconst 0, 1) := by decide +kernel
theorem dL_law_488 : decode cL_law 488 = .ok (.ireturn, 1) := by decide +kernel
theorem dL_law_489 : decode cL_law 489 = .ok (.goto 170, 3) := by decide +kernel
theorem dL_law_492 : decode cL_law 492 = .ok (.aload_n 1, 1) := by decide +kernel
theorem dL_law_493 : decode cL_law 493 = .ok (.aload_n 0, 1) := by decide +kernel
theorem dL_law_494 : decode cL_law 494 = .ok (.iload 4, 2) := by decide +kernel
theorem dL_law_496 : decode cL_law 496 = .ok (.iconst 1, 1) := by decide +kernel
theorem dL_law_497 : decode cL_law 497 = .ok (.iadd, 1) := by decide +kernel
theorem dL_law_498 : decode cL_law 498 = .ok (.iaload, 1) := by decide +kernel
theorem dL_law_499 : decode cL_law 499 = .ok (.aload_n 0, 1) := by decide +kernel
theorem dL_law_500 : decode cL_law 500 = .ok (.iload 4, 2) := by decide +kernel
theorem dL_law_502 : decode cL_law 502 = .ok (.iconst 2, 1) := by decide +kernel
theorem dL_law_503 : decode cL_law 503 = .ok (.iadd, 1) := by decide +kernel
theorem dL_law_504 : decode cL_law 504 = .ok (.iaload, 1) := by decide +kernel
theorem dL_law_505 : decode cL_law 505 = .ok (.invokevirtual 77, 3) := by decide +kernel
theorem dL_law_508 : decode cL_law 508 = .ok (.aload_n 2, 1) := by decide +kernel
theorem dL_law_509 : decode cL_law 509 = .ok (.aload_n 0, 1) := by decide +kernel
theorem dL_law_510 : decode cL_law 510 = .ok (.iload 4, 2) := by decide +kernel
theorem dL_law_512 : decode cL_law 512 = .ok (.iconst 1, 1) := by decide +kernel
theorem dL_law_513 : decode cL_law 513 = .ok (.iadd, 1) := by decide +kernel
theorem dL_law_514 : decode cL_law 514 = .ok (.iaload, 1) := by decide +kernel
theorem dL_law_515 : decode cL_law 515 = .ok (.aload_n 0, 1) := by decide +kernel
theorem dL_law_516 : decode cL_law 516 = .ok (.iload 4, 2) := by decide +kernel
theorem dL_law_518 : decode cL_law 518 = .ok (.iconst 2, 1) := by decide +kernel
theorem dL_law_519 : decode cL_law 519 = .ok (.iadd, 1) := by decide +kernel
theorem dL_law_520 : decode cL_law 520 = .ok (.iaload, 1) := by decide +kernel
theorem dL_law_521 : decode cL_law 521 = .ok (.invokevirtual 80, 3) := by decide +kernel
theorem dL_law_524 : decode cL_law 524 = .ok (.if_icmp .eq 135, 3) := by decide +kernel
theorem dL_law_527 : decode cL_law 527 = .ok (.iconst 0, 1) := by decide +kernel
theorem dL_law_528 : decode cL_law 528 = .ok (.ireturn, 1) := by decide +kernel
theorem dL_law_529 : decode cL_law 529 = .ok (.aload_n 1, 1) := by decide +kernel
theorem dL_law_530 : decode cL_law 530 = .ok (.aload_n 0, 1) := by decide +kernel
theorem dL_law_531 : decode cL_law 531 = .ok (.iload 4, 2) := by decide +kernel
theorem dL_law_533 : decode cL_law 533 = .ok (.iconst 1, 1) := by decide +kernel
theorem dL_law_534 : decode cL_law 534 = .ok (.iadd, 1) := by decide +kernel
theorem dL_law_535 : decode cL_law 535 = .ok (.iaload, 1) := by decide +kernel
theorem dL_law_536 : decode cL_law 536 = .ok (.aload_n 0, 1) := by decide +kernel
theorem dL_law_537 : decode cL_law 537 = .ok (.iload 4, 2) := by decide +kernel
theorem dL_law_539 : decode cL_law 539 = .ok (.iconst 2, 1) := by decide +kernel
theorem dL_law_540 : decode cL_law 540 = .ok (.iadd, 1) := by decide +kernel
theorem dL_law_541 : decode cL_law 541 = .ok (.iaload, 1) := by decide +kernel
theorem dL_law_542 : decode cL_law 542 = .ok (.invokevirtual 81, 3) := by decide +kernel
theorem dL_law_545 : decode cL_law 545 = .ok (.aload_n 2, 1) := by decide +kernel
theorem dL_law_546 : decode cL_law 546 = .ok (.aload_n 0, 1) := by decide +kernel
theorem dL_law_547 : decode cL_law 547 = .ok (.iload 4, 2) := by decide +kernel
theorem dL_law_549 : decode cL_law 549 = .ok (.iconst 1, 1) := by decide +kernel
theorem dL_law_550 : decode cL_law 550 = .ok (.iadd, 1) := by decide +kernel
theorem dL_law_551 : decode cL_law 551 = .ok (.iaload, 1) := by decide +kernel
theorem dL_law_552 : decode cL_law 552 = .ok (.aload_n 0, 1) := by decide +kernel
theorem dL_law_553 : decode cL_law 553 = .ok (.iload 4, 2) := by decide +kernel
theorem dL_law_555 : decode cL_law 555 = .ok (.iconst 2, 1) := by decide +kernel
theorem dL_law_556 : decode cL_law 556 = .ok (.iadd, 1) := by decide +kernel
theorem dL_law_557 : decode cL_law 557 = .ok (.iaload, 1) := by decide +kernel
theorem dL_law_558 : decode cL_law 558 = .ok (.invokevirtual 84, 3) := by decide +kernel
theorem dL_law_561 : decode cL_law 561 = .ok (.if_icmp .eq 98, 3) := by decide +kernel
theorem dL_law_564 : decode cL_law 564 = .ok (.iconst 0, 1) := by decide +kernel
theorem dL_law_565 : decode cL_law 565 = .ok (.ireturn, 1) := by decide +kernel
theorem dL_law_566 : decode cL_law 566 = .ok (.aload_n 1, 1) := by decide +kernel
theorem dL_law_567 : decode cL_law 567 = .ok (.aload_n 0, 1) := by decide +kernel
theorem dL_law_568 : decode cL_law 568 = .ok (.iload 4, 2) := by decide +kernel
theorem dL_law_570 : decode cL_law 570 = .ok (.iconst 1, 1) := by decide +kernel
theorem dL_law_571 : decode cL_law 571 = .ok (.iadd, 1) := by decide +kernel
theorem dL_law_572 : decode cL_law 572 = .ok (.iaload, 1) := by decide +kernel
theorem dL_law_573 : decode cL_law 573 = .ok (.aload_n 0, 1) := by decide +kernel
theorem dL_law_574 : decode cL_law 574 = .ok (.iload 4, 2) := by decide +kernel
theorem dL_law_576 : decode cL_law 576 = .ok (.iconst 2, 1) := by decide +kernel
theorem dL_law_577 : decode cL_law 577 = .ok (.iadd, 1) := by decide +kernel
theorem dL_law_578 : decode cL_law 578 = .ok (.iaload, 1) := by decide +kernel
theorem dL_law_579 : decode cL_law 579 = .ok (.aload_n 0, 1) := by decide +kernel
theorem dL_law_580 : decode cL_law 580 = .ok (.iload 4, 2) := by decide +kernel
theorem dL_law_582 : decode cL_law 582 = .ok (.iconst 3, 1) := by decide +kernel
theorem dL_law_583 : decode cL_law 583 = .ok (.iadd, 1) := by decide +kernel
theorem dL_law_584 : decode cL_law 584 = .ok (.iaload, 1) := by decide +kernel
theorem dL_law_585 : decode cL_law 585 = .ok (.aload_n 3, 1) := by decide +kernel
theorem dL_law_586 : decode cL_law 586 = .ok (.invokestatic 85, 3) := by decide +kernel
theorem dL_law_589 : decode cL_law 589 = .ok (.istore 5, 2) := by decide +kernel
theorem dL_law_591 : decode cL_law 591 = .ok (.aload_n 2, 1) := by decide +kernel
theorem dL_law_592 : decode cL_law 592 = .ok (.aload_n 0, 1) := by decide +kernel
theorem dL_law_593 : decode cL_law 593 = .ok (.iload 4, 2) := by decide +kernel
theorem dL_law_595 : decode cL_law 595 = .ok (.iconst 1, 1) := by decide +kernel
theorem dL_law_596 : decode cL_law 596 = .ok (.iadd, 1) := by decide +kernel
theorem dL_law_597 : decode cL_law 597 = .ok (.iaload, 1) := by decide +kernel
theorem dL_law_598 : decode cL_law 598 = .ok (.aload_n 0, 1) := by decide +kernel
theorem dL_law_599 : decode cL_law 599 = .ok (.iload 4, 2) := by decide +kernel
theorem dL_law_601 : decode cL_law 601 = .ok (.iconst 2, 1) := by decide +kernel
theorem dL_law_602 : decode cL_law 602 = .ok (.iadd, 1) := by decide +kernel
theorem dL_law_603 : decode cL_law 603 = .ok (.iaload, 1) := by decide +kernel
theorem dL_law_604 : decode cL_law 604 = .ok (.aload_n 0, 1) := by decide +kernel
theorem dL_law_605 : decode cL_law 605 = .ok (.iload 4, 2) := by decide +kernel
theorem dL_law_607 : decode cL_law 607 = .ok (.iconst 3, 1) := by decide +kernel
theorem dL_law_608 : decode cL_law 608 = .ok (.iadd, 1) := by decide +kernel
theorem dL_law_609 : decode cL_law 609 = .ok (.iaload, 1) := by decide +kernel
theorem dL_law_610 : decode cL_law 610 = .ok (.invokevirtual 88, 3) := by decide +kernel
theorem dL_law_613 : decode cL_law 613 = .ok (.istore 6, 2) := by decide +kernel
theorem dL_law_615 : decode cL_law 615 = .ok (.aload_n 2, 1) := by decide +kernel
theorem dL_law_616 : decode cL_law 616 = .ok (.invokevirtual 35, 3) := by decide +kernel
theorem dL_law_619 : decode cL_law 619 = .ok (.iload 5, 2) := by decide +kernel
theorem dL_law_621 : decode cL_law 621 = .ok (.if_icmp .eq 5, 3) := by decide +kernel
theorem dL_law_624 : decode cL_law 624 = .ok (.iconst 0, 1) := by decide +kernel
theorem dL_law_625 : decode cL_law 625 = .ok (.ireturn, 1) := by decide +kernel
theorem dL_law_626 : decode cL_law 626 = .ok (.iload 5, 2) := by decide +kernel
theorem dL_law_628 : decode cL_law 628 = .ok (.ifCond .ne 15, 3) := by decide +kernel
theorem dL_law_631 : decode cL_law 631 = .ok (.aload_n 3, 1) := by decide +kernel
theorem dL_law_632 : decode cL_law 632 = .ok (.iconst 0, 1) := by decide +kernel
theorem dL_law_633 : decode cL_law 633 = .ok (.laload, 1) := by decide +kernel
theorem dL_law_634 : decode cL_law 634 = .ok (.iload 6, 2) := by decide +kernel
theorem dL_law_636 : decode cL_law 636 = .ok (.i2l, 1) := by decide +kernel
theorem dL_law_637 : decode cL_law 637 = .ok (.lcmp, 1) := by decide +kernel
theorem dL_law_638 : decode cL_law 638 = .ok (.ifCond .eq 5, 3) := by decide +kernel
theorem dL_law_641 : decode cL_law 641 = .ok (.iconst 0, 1) := by decide +kernel
theorem dL_law_642 : decode cL_law 642 = .ok (.ireturn, 1) := by decide +kernel
theorem dL_law_643 : decode cL_law 643 = .ok (.goto 16, 3) := by decide +kernel
theorem dL_law_646 : decode cL_law 646 = .ok (.aload_n 1, 1) := by decide +kernel
theorem dL_law_647 : decode cL_law 647 = .ok (.invokevirtual 89, 3) := by decide +kernel
theorem dL_law_650 : decode cL_law 650 = .ok (.aload_n 2, 1) := by decide +kernel
theorem dL_law_651 : decode cL_law 651 = .ok (.invokevirtual 92, 3) := by decide +kernel
theorem dL_law_654 : decode cL_law 654 = .ok (.if_icmp .eq 5, 3) := by decide +kernel
theorem dL_law_657 : decode cL_law 657 = .ok (.iconst 0, 1) := by decide +kernel
theorem dL_law_658 : decode cL_law 658 = .ok (.ireturn, 1) := by decide +kernel
theorem dL_law_659 : decode cL_law 659 = .ok (.iinc 4 4, 3) := by decide +kernel
theorem dL_law_662 : decode cL_law 662 = .ok (.goto (-639), 3) := by decide +kernel
theorem dL_law_665 : decode cL_law 665 = .ok (.iconst 1, 1) := by decide +kernel
theorem dL_law_666 : decode cL_law 666 = .ok (.ireturn, 1) := by decide +kernel
end
section
/-- the words that every method takes along -/
def tbG : List Cond := lw_tbl.filter goodWord
theorem tb_at {i : Nat} {w : Cond} (h : lw_tbl[i]? = some w) (hg : goodWord w = true) : w ∈ tbG := List.mem_filter.mpr ⟨List.mem_of_getElem? h, hg⟩
theorem tb_good {w : Cond} (h : w ∈ tbG) : (w.onTables && w.keeps) = true ∨ ∃ ty, w = .arrayClass ty := good_of_word (List.mem_filter.mp h).2
theorem tb_in {w : Cond} (h : w ∈ tbG) : w ∈ lw_tbl := (List.mem_filter.mp h).1
theorem tb_call {c1 c2 : Cond} (h : c2 ∈ tbG) : GoodIn (c1 :: tbG) (c2 :: tbG) := fun w hw => (List.mem_cons.mp hw).elim (fun e => by rw [e]; exact ⟨List.mem_cons_of_mem _ h, tb_good h⟩) (fun h2 => ⟨List.mem_cons_of_mem _ h2, tb_good h2⟩)
theorem tb_callL {c2 : Cond} (h : c2 ∈ tbG) : GoodIn lw_tbl (c2 :: tbG) := fun w hw => (List.mem_cons.mp hw).elim (fun e => by rw [e]; exact ⟨tb_in h, tb_good h⟩) (fun h2 => ⟨tb_in h2, tb_good h2⟩)
theorem kw_0 : Cond.selects RX4 yX4_putFromTape yX4_putFromTape ∈ tbG := tb_at (i := 0) (by decide +kernel) (by decide +kernel)
theorem kw_1 : Cond.selects RX4 yX4_directoryAt yX4_directoryAt ∈ tbG := tb_at (i := 1) (by decide +kernel) (by decide +kernel)
theorem kw_2 : Cond.selects RX4 yX4_nodeAt yX4_nodeAt ∈ tbG := tb_at (i := 2) (by decide +kernel) (by decide +kernel)
theorem kw_3 : Cond.selects RX4 yX4_askForName yX4_askForName ∈ tbG := tb_at (i := 3) (by decide +kernel) (by decide +kernel)
theorem kw_4 : Cond.selects RX4 yX4_entryAsked yX4_entryAsked ∈ tbG := tb_at (i := 4) (by decide +kernel) (by decide +kernel)
theorem kw_5 : Cond.selects RX4 yX4_freeNumber yX4_freeNumber ∈ tbG := tb_at (i := 5) (by decide +kernel) (by decide +kernel)
theorem kw_6 : Cond.selects RX4 yX4_attach yX4_attach ∈ tbG := tb_at (i := 6) (by decide +kernel) (by decide +kernel)
theorem kw_7 : Cond.selects RX4 yX4_placeByName yX4_placeByName ∈ tbG := tb_at (i := 7) (by decide +kernel) (by decide +kernel)
theorem kw_8 : Cond.selects RX4 yX4_findFromTape yX4_findFromTape ∈ tbG := tb_at (i := 8) (by decide +kernel) (by decide +kernel)
theorem kw_9 : Cond.selects RX4 yX4_walkFromTape yX4_walkFromTape ∈ tbG := tb_at (i := 9) (by decide +kernel) (by decide +kernel)
theorem kw_10 : Cond.selects RX4 yX4_stepFrom yX4_stepFrom ∈ tbG := tb_at (i := 10) (by decide +kernel) (by decide +kernel)
theorem kw_11 : Cond.selects RX4 yX4_moveFromTape yX4_moveFromTape ∈ tbG := tb_at (i := 11) (by decide +kernel) (by decide +kernel)
theorem kw_12 : Cond.selects RX4 yX4_isWithin yX4_isWithin ∈ tbG := tb_at (i := 12) (by decide +kernel) (by decide +kernel)
theorem kw_13 : Cond.selects RX4 yX4_detach yX4_detach ∈ tbG := tb_at (i := 13) (by decide +kernel) (by decide +kernel)
theorem kw_14 : Cond.selects "java/lang/Throwable" ⟨"java/lang/Throwable", "fillInStackTrace", "(I)Ljava/lang/Throwable;"⟩ ⟨"java/lang/Throwable", "fillInStackTrace", "(I)Ljava/lang/Throwable;"⟩ ∈ tbG := tb_at (i := 14) (by decide +kernel) (by decide +kernel)
theorem kw_15 : Cond.selects RX4 yX4_depthOf yX4_depthOf ∈ tbG := tb_at (i := 15) (by decide +kernel) (by decide +kernel)
theorem kw_16 : Cond.selects RX5 yX5_takeTape yX5_takeTape ∈ tbG := tb_at (i := 16) (by decide +kernel) (by decide +kernel)
theorem kw_17 : Cond.selects RX5 yX5_read yX5_read ∈ tbG := tb_at (i := 17) (by decide +kernel) (by decide +kernel)
theorem kw_18 : Cond.selects RX5 yX5_foldAll yX5_foldAll ∈ tbG := tb_at (i := 18) (by decide +kernel) (by decide +kernel)
theorem kw_19 : Cond.selects RX5 yX5_putPoint yX5_putPoint ∈ tbG := tb_at (i := 19) (by decide +kernel) (by decide +kernel)
theorem kw_20 : Cond.selects RX5 yX5_noDirectory yX5_noDirectory ∈ tbG := tb_at (i := 20) (by decide +kernel) (by decide +kernel)
theorem kw_21 : Cond.selects RX5 yX5_noNode yX5_noNode ∈ tbG := tb_at (i := 21) (by decide +kernel) (by decide +kernel)
theorem kw_22 : Cond.selects RX5 yX5_isName yX5_isName ∈ tbG := tb_at (i := 22) (by decide +kernel) (by decide +kernel)
theorem kw_23 : Cond.selects RX5 yX5_entryLike yX5_entryLike ∈ tbG := tb_at (i := 23) (by decide +kernel) (by decide +kernel)
theorem kw_24 : Cond.selects RX5 yX5_freeNode yX5_freeNode ∈ tbG := tb_at (i := 24) (by decide +kernel) (by decide +kernel)
theorem kw_25 : Cond.selects RX5 yX5_setName yX5_setName ∈ tbG := tb_at (i := 25) (by decide +kernel) (by decide +kernel)
theorem kw_26 : Cond.selects RX5 yX5_append yX5_append ∈ tbG := tb_at (i := 26) (by decide +kernel) (by decide +kernel)
theorem kw_27 : Cond.selects RX5 yX5_isWithin yX5_isWithin ∈ tbG := tb_at (i := 27) (by decide +kernel) (by decide +kernel)
theorem kw_28 : Cond.selects RX5 yX5_detach yX5_detach ∈ tbG := tb_at (i := 28) (by decide +kernel) (by decide +kernel)
theorem kw_29 : Cond.selects RX5 yX5_isBefore yX5_isBefore ∈ tbG := tb_at (i := 29) (by decide +kernel) (by decide +kernel)
theorem kw_30 : Cond.initialized RL ∈ tbG := tb_at (i := 30) (by decide +kernel) (by decide +kernel)
theorem kw_31 : Cond.initialized RX4 ∈ tbG := tb_at (i := 31) (by decide +kernel) (by decide +kernel)
theorem kw_32 : Cond.initialized RX2 ∈ tbG := tb_at (i := 32) (by decide +kernel) (by decide +kernel)
theorem kw_33 : Cond.initialized RJ9 ∈ tbG := tb_at (i := 33) (by decide +kernel) (by decide +kernel)
theorem kw_34 : Cond.initialized RX1 ∈ tbG := tb_at (i := 34) (by decide +kernel) (by decide +kernel)
theorem kw_35 : Cond.initialized RX5 ∈ tbG := tb_at (i := 35) (by decide +kernel) (by decide +kernel)
theorem kw_36 : Cond.initialized "java/lang/Throwable" ∈ tbG := tb_at (i := 36) (by decide +kernel) (by decide +kernel)
theorem kw_37 : Cond.initialized "java/lang/Exception" ∈ tbG := tb_at (i := 37) (by decide +kernel) (by decide +kernel)
theorem kw_38 : Cond.initialized "java/lang/RuntimeException" ∈ tbG := tb_at (i := 38) (by decide +kernel) (by decide +kernel)
theorem kw_39 : Cond.initialized "java/lang/IllegalArgumentException" ∈ tbG := tb_at (i := 39) (by decide +kernel) (by decide +kernel)
theorem kw_40 : Cond.initialized RX3 ∈ tbG := tb_at (i := 40) (by decide +kernel) (by decide +kernel)
theorem kw_41 : Cond.initialized RX0 ∈ tbG := tb_at (i := 41) (by decide +kernel) (by decide +kernel)
theorem kw_42 : Cond.initialized RJ0 ∈ tbG := tb_at (i := 42) (by decide +kernel) (by decide +kernel)
theorem kw_43 : Cond.initialized RJ1 ∈ tbG := tb_at (i := 43) (by decide +kernel) (by decide +kernel)
theorem kw_44 : Cond.initialized RJ3 ∈ tbG := tb_at (i := 44) (by decide +kernel) (by decide +kernel)
theorem kw_45 : Cond.initialized RJ2 ∈ tbG := tb_at (i := 45) (by decide +kernel) (by decide +kernel)
theorem kw_46 : Cond.initialized RJ6 ∈ tbG := tb_at (i := 46) (by decide +kernel) (by decide +kernel)
theorem kw_47 : Cond.classLink RL 8 "FoldedNames" ∈ tbG := tb_at (i := 47) (by decide +kernel) (by decide +kernel)
theorem kw_48 : Cond.instantiable RX4 5 ∈ tbG := tb_at (i := 48) (by decide +kernel) (by decide +kernel)
theorem kw_49 : Cond.methodLink RL 23 yX4_init ∈ tbG := tb_at (i := 49) (by decide +kernel) (by decide +kernel)
theorem kw_50 : Cond.instanceMethod yX4_init ∈ tbG := tb_at (i := 50) (by decide +kernel) (by decide +kernel)
theorem kw_51 : Cond.code yX4_init cX4_init 2 none ∈ tbG := tb_at (i := 51) (by decide +kernel) (by decide +kernel)
theorem kw_52 : Cond.methodLink RX4 1 ⟨"java/lang/Object", "<init>", "()V"⟩ ∈ tbG := tb_at (i := 52) (by decide +kernel) (by decide +kernel)
theorem kw_53 : Cond.instanceMethod ⟨"java/lang/Object", "<init>", "()V"⟩ ∈ tbG := tb_at (i := 53) (by decide +kernel) (by decide +kernel)
theorem kw_54 : Cond.code ⟨"java/lang/Object", "<init>", "()V"⟩ object_method_1_code 1 none ∈ tbG := tb_at (i := 54) (by decide +kernel) (by decide +kernel)
theorem kw_55 : Cond.classLink RX4 7 "FoldedNames$Row" ∈ tbG := tb_at (i := 55) (by decide +kernel) (by decide +kernel)
theorem kw_56 : Cond.instantiable RX2 2 ∈ tbG := tb_at (i := 56) (by decide +kernel) (by decide +kernel)
theorem kw_57 : Cond.methodLink RX4 11 yX2_init ∈ tbG := tb_at (i := 57) (by decide +kernel) (by decide +kernel)
theorem kw_58 : Cond.instanceMethod yX2_init ∈ tbG := tb_at (i := 58) (by decide +kernel) (by decide +kernel)
theorem kw_59 : Cond.code yX2_init cX2_init 2 none ∈ tbG := tb_at (i := 59) (by decide +kernel) (by decide +kernel)
theorem kw_60 : Cond.methodLink RX2 3 ⟨"java/lang/Object", "<init>", "()V"⟩ ∈ tbG := tb_at (i := 60) (by decide +kernel) (by decide +kernel)
theorem kw_61 : Cond.methodLink RX2 9 yJ9_max_7cf53 ∈ tbG := tb_at (i := 61) (by decide +kernel) (by decide +kernel)
theorem kw_62 : Cond.static yJ9_max_7cf53 ∈ tbG := tb_at (i := 62) (by decide +kernel) (by decide +kernel)
theorem kw_63 : Cond.code yJ9_max_7cf53 cJ9_max_7cf53 2 (some .int) ∈ tbG := tb_at (i := 63) (by decide +kernel) (by decide +kernel)
theorem kw_64 : Cond.fieldLink RX2 15 "FoldedNames$Row" "items" "[I" ∈ tbG := tb_at (i := 64) (by decide +kernel) (by decide +kernel)
theorem kw_65 : Cond.fieldLink RX2 21 "FoldedNames$Row" "size" "I" ∈ tbG := tb_at (i := 65) (by decide +kernel) (by decide +kernel)
theorem kw_66 : Cond.laysFinal RX2 "FoldedNames$Row" "items" "[I" ∈ tbG := tb_at (i := 66) (by decide +kernel) (by decide +kernel)
theorem kw_68 : Cond.lays RX2 "FoldedNames$Row" "size" "I" ∈ tbG := tb_at (i := 68) (by decide +kernel) (by decide +kernel)
theorem kw_71 : Cond.arrayClass .int ∈ tbG := tb_at (i := 71) (by decide +kernel) (by decide +kernel)
theorem kw_72 : Cond.classLink RX4 24 "FoldedNames$Node" ∈ tbG := tb_at (i := 72) (by decide +kernel) (by decide +kernel)
theorem kw_74 : Cond.instantiable RX1 7 ∈ tbG := tb_at (i := 74) (by decide +kernel) (by decide +kernel)
theorem kw_75 : Cond.methodLink RX4 30 yX1_init ∈ tbG := tb_at (i := 75) (by decide +kernel) (by decide +kernel)
theorem kw_76 : Cond.instanceMethod yX1_init ∈ tbG := tb_at (i := 76) (by decide +kernel) (by decide +kernel)
theorem kw_77 : Cond.code yX1_init cX1_init 1 none ∈ tbG := tb_at (i := 77) (by decide +kernel) (by decide +kernel)
theorem kw_78 : Cond.methodLink RX1 3 ⟨"java/lang/Object", "<init>", "()V"⟩ ∈ tbG := tb_at (i := 78) (by decide +kernel) (by decide +kernel)
theorem kw_79 : Cond.classLink RX1 9 "FoldedNames$Row" ∈ tbG := tb_at (i := 79) (by decide +kernel) (by decide +kernel)
theorem kw_80 : Cond.methodLink RX1 11 yX2_init ∈ tbG := tb_at (i := 80) (by decide +kernel) (by decide +kernel)
theorem kw_81 : Cond.fieldLink RX1 14 "FoldedNames$Node" "name" "LFoldedNames$Row;" ∈ tbG := tb_at (i := 81) (by decide +kernel) (by decide +kernel)
theorem kw_82 : Cond.fieldLink RX4 111 "FoldedNames$Node" "name" "LFoldedNames$Row;" ∈ tbG := tb_at (i := 82) (by decide +kernel) (by decide +kernel)
theorem kw_83 : Cond.fieldLink RX1 20 "FoldedNames$Node" "foldedName" "LFoldedNames$Row;" ∈ tbG := tb_at (i := 83) (by decide +kernel) (by decide +kernel)
theorem kw_84 : Cond.fieldLink RX4 114 "FoldedNames$Node" "foldedName" "LFoldedNames$Row;" ∈ tbG := tb_at (i := 84) (by decide +kernel) (by decide +kernel)
theorem kw_85 : Cond.fieldLink RX1 23 "FoldedNames$Node" "entries" "LFoldedNames$Row;" ∈ tbG := tb_at (i := 85) (by decide +kernel) (by decide +kernel)
theorem kw_86 : Cond.fieldLink RX4 92 "FoldedNames$Node" "entries" "LFoldedNames$Row;" ∈ tbG := tb_at (i := 86) (by decide +kernel) (by decide +kernel)
theorem kw_87 : Cond.fieldLink RX1 26 "FoldedNames$Node" "entriesByName" "LFoldedNames$Row;" ∈ tbG := tb_at (i := 87) (by decide +kernel) (by decide +kernel)
theorem kw_88 : Cond.fieldLink RX4 123 "FoldedNames$Node" "entriesByName" "LFoldedNames$Row;" ∈ tbG := tb_at (i := 88) (by decide +kernel) (by decide +kernel)
theorem kw_89 : Cond.fieldLink RX1 32 "FoldedNames$Node" "isThere" "Z" ∈ tbG := tb_at (i := 89) (by decide +kernel) (by decide +kernel)
theorem kw_90 : Cond.fieldLink RX4 102 "FoldedNames$Node" "isThere" "Z" ∈ tbG := tb_at (i := 90) (by decide +kernel) (by decide +kernel)
theorem kw_91 : Cond.fieldLink RX1 36 "FoldedNames$Node" "isDirectory" "Z" ∈ tbG := tb_at (i := 91) (by decide +kernel) (by decide +kernel)
theorem kw_92 : Cond.fieldLink RX4 108 "FoldedNames$Node" "isDirectory" "Z" ∈ tbG := tb_at (i := 92) (by decide +kernel) (by decide +kernel)
theorem kw_93 : Cond.fieldLink RX1 39 "FoldedNames$Node" "parent" "I" ∈ tbG := tb_at (i := 93) (by decide +kernel) (by decide +kernel)
theorem kw_94 : Cond.fieldLink RX4 95 "FoldedNames$Node" "parent" "I" ∈ tbG := tb_at (i := 94) (by decide +kernel) (by decide +kernel)
theorem kw_95 : Cond.laysFinal RX1 "FoldedNames$Node" "name" "LFoldedNames$Row;" ∈ tbG := tb_at (i := 95) (by decide +kernel) (by decide +kernel)
theorem kw_97 : Cond.laysFinal RX1 "FoldedNames$Node" "foldedName" "LFoldedNames$Row;" ∈ tbG := tb_at (i := 97) (by decide +kernel) (by decide +kernel)
theorem kw_99 : Cond.laysFinal RX1 "FoldedNames$Node" "entries" "LFoldedNames$Row;" ∈ tbG := tb_at (i := 99) (by decide +kernel) (by decide +kernel)
theorem kw_101 : Cond.laysFinal RX1 "FoldedNames$Node" "entriesByName" "LFoldedNames$Row;" ∈ tbG := tb_at (i := 101) (by decide +kernel) (by decide +kernel)
theorem kw_103 : Cond.lays RX1 "FoldedNames$Node" "isThere" "Z" ∈ tbG := tb_at (i := 103) (by decide +kernel) (by decide +kernel)
theorem kw_105 : Cond.lays RX1 "FoldedNames$Node" "isDirectory" "Z" ∈ tbG := tb_at (i := 105) (by decide +kernel) (by decide +kernel)
theorem kw_107 : Cond.lays RX1 "FoldedNames$Node" "parent" "I" ∈ tbG := tb_at (i := 107) (by decide +kernel) (by decide +kernel)
theorem kw_110 : Cond.methodLink RX4 31 yX1_begin ∈ tbG := tb_at (i := 110) (by decide +kernel) (by decide +kernel)
theorem kw_111 : Cond.instanceMethod yX1_begin ∈ tbG := tb_at (i := 111) (by decide +kernel) (by decide +kernel)
theorem kw_112 : Cond.selects RX1 yX1_begin yX1_begin ∈ tbG := tb_at (i := 112) (by decide +kernel) (by decide +kernel)
theorem kw_113 : Cond.code yX1_begin cX1_begin 2 none ∈ tbG := tb_at (i := 113) (by decide +kernel) (by decide +kernel)
theorem kw_114 : Cond.methodLink RX1 29 yX2_clear ∈ tbG := tb_at (i := 114) (by decide +kernel) (by decide +kernel)
theorem kw_115 : Cond.instanceMethod yX2_clear ∈ tbG := tb_at (i := 115) (by decide +kernel) (by decide +kernel)
theorem kw_116 : Cond.selects RX2 yX2_clear yX2_clear ∈ tbG := tb_at (i := 116) (by decide +kernel) (by decide +kernel)
theorem kw_117 : Cond.code yX2_clear cX2_clear 1 none ∈ tbG := tb_at (i := 117) (by decide +kernel) (by decide +kernel)
theorem kw_118 : Cond.fieldLink RX4 14 "FoldedNames" "tape" "LFoldedNames$Row;" ∈ tbG := tb_at (i := 118) (by decide +kernel) (by decide +kernel)
theorem kw_119 : Cond.fieldLink RX4 18 "FoldedNames" "lastFolded" "LFoldedNames$Row;" ∈ tbG := tb_at (i := 119) (by decide +kernel) (by decide +kernel)
theorem kw_120 : Cond.fieldLink RX4 21 "FoldedNames" "asked" "LFoldedNames$Row;" ∈ tbG := tb_at (i := 120) (by decide +kernel) (by decide +kernel)
theorem kw_121 : Cond.fieldLink RX4 26 "FoldedNames" "slots" "[LFoldedNames$Node;" ∈ tbG := tb_at (i := 121) (by decide +kernel) (by decide +kernel)
theorem kw_122 : Cond.fieldLink RX4 35 "FoldedNames" "count" "I" ∈ tbG := tb_at (i := 122) (by decide +kernel) (by decide +kernel)
theorem kw_123 : Cond.laysFinal RX4 "FoldedNames" "tape" "LFoldedNames$Row;" ∈ tbG := tb_at (i := 123) (by decide +kernel) (by decide +kernel)
theorem kw_125 : Cond.laysFinal RX4 "FoldedNames" "lastFolded" "LFoldedNames$Row;" ∈ tbG := tb_at (i := 125) (by decide +kernel) (by decide +kernel)
theorem kw_127 : Cond.laysFinal RX4 "FoldedNames" "asked" "LFoldedNames$Row;" ∈ tbG := tb_at (i := 127) (by decide +kernel) (by decide +kernel)
theorem kw_129 : Cond.laysFinal RX4 "FoldedNames" "slots" "[LFoldedNames$Node;" ∈ tbG := tb_at (i := 129) (by decide +kernel) (by decide +kernel)
theorem kw_131 : Cond.lays RX4 "FoldedNames" "count" "I" ∈ tbG := tb_at (i := 131) (by decide +kernel) (by decide +kernel)
theorem kw_134 : Cond.methodLink RL 39 yX4_check ∈ tbG := tb_at (i := 134) (by decide +kernel) (by decide +kernel)
theorem kw_135 : Cond.instanceMethod yX4_check ∈ tbG := tb_at (i := 135) (by decide +kernel) (by decide +kernel)
theorem kw_136 : Cond.selects RX4 yX4_check yX4_check ∈ tbG := tb_at (i := 136) (by decide +kernel) (by decide +kernel)
theorem kw_137 : Cond.code yX4_check cX4_check 2 (some .int) ∈ tbG := tb_at (i := 137) (by decide +kernel) (by decide +kernel)
theorem kw_138 : Cond.methodLink RX4 46 yX2_size ∈ tbG := tb_at (i := 138) (by decide +kernel) (by decide +kernel)
theorem kw_139 : Cond.instanceMethod yX2_size ∈ tbG := tb_at (i := 139) (by decide +kernel) (by decide +kernel)
theorem kw_140 : Cond.selects RX2 yX2_size yX2_size ∈ tbG := tb_at (i := 140) (by decide +kernel) (by decide +kernel)
theorem kw_141 : Cond.code yX2_size cX2_size 1 (some .int) ∈ tbG := tb_at (i := 141) (by decide +kernel) (by decide +kernel)
theorem kw_142 : Cond.methodLink RX4 55 yX3_wrongPlace ∈ tbG := tb_at (i := 142) (by decide +kernel) (by decide +kernel)
theorem kw_143 : Cond.static yX3_wrongPlace ∈ tbG := tb_at (i := 143) (by decide +kernel) (by decide +kernel)
theorem kw_144 : Cond.code yX3_wrongPlace cX3_wrongPlace 6 (some .int) ∈ tbG := tb_at (i := 144) (by decide +kernel) (by decide +kernel)
theorem kw_145 : Cond.methodLink RX3 9 yX3_pointAt ∈ tbG := tb_at (i := 145) (by decide +kernel) (by decide +kernel)
theorem kw_146 : Cond.static yX3_pointAt ∈ tbG := tb_at (i := 146) (by decide +kernel) (by decide +kernel)
theorem kw_147 : Cond.code yX3_pointAt cX3_pointAt 8 (some .int) ∈ tbG := tb_at (i := 147) (by decide +kernel) (by decide +kernel)
theorem kw_148 : Cond.methodLink RX3 19 yX2_at ∈ tbG := tb_at (i := 148) (by decide +kernel) (by decide +kernel)
theorem kw_149 : Cond.instanceMethod yX2_at ∈ tbG := tb_at (i := 149) (by decide +kernel) (by decide +kernel)
theorem kw_150 : Cond.selects RX2 yX2_at yX2_at ∈ tbG := tb_at (i := 150) (by decide +kernel) (by decide +kernel)
theorem kw_151 : Cond.code yX2_at cX2_at 2 (some .int) ∈ tbG := tb_at (i := 151) (by decide +kernel) (by decide +kernel)
theorem kw_152 : Cond.methodLink RX3 24 yX3_octetsMore ∈ tbG := tb_at (i := 152) (by decide +kernel) (by decide +kernel)
theorem kw_153 : Cond.static yX3_octetsMore ∈ tbG := tb_at (i := 153) (by decide +kernel) (by decide +kernel)
theorem kw_154 : Cond.code yX3_octetsMore cX3_octetsMore 1 (some .int) ∈ tbG := tb_at (i := 154) (by decide +kernel) (by decide +kernel)
theorem kw_155 : Cond.constant RX3 27 (55296) ∈ tbG := tb_at (i := 155) (by decide +kernel) (by decide +kernel)
theorem kw_156 : Cond.constant RX3 28 (57343) ∈ tbG := tb_at (i := 156) (by decide +kernel) (by decide +kernel)
theorem kw_157 : Cond.constant RX3 29 (1114111) ∈ tbG := tb_at (i := 157) (by decide +kernel) (by decide +kernel)
theorem kw_158 : Cond.methodLink RX3 15 yX3_octetsOf ∈ tbG := tb_at (i := 158) (by decide +kernel) (by decide +kernel)
theorem kw_159 : Cond.static yX3_octetsOf ∈ tbG := tb_at (i := 159) (by decide +kernel) (by decide +kernel)
theorem kw_160 : Cond.code yX3_octetsOf cX3_octetsOf 1 (some .int) ∈ tbG := tb_at (i := 160) (by decide +kernel) (by decide +kernel)
theorem kw_161 : Cond.constant RX3 30 (65536) ∈ tbG := tb_at (i := 161) (by decide +kernel) (by decide +kernel)
theorem kw_162 : Cond.methodLink RX4 61 yX2_clear ∈ tbG := tb_at (i := 162) (by decide +kernel) (by decide +kernel)
theorem kw_163 : Cond.methodLink RL 43 yX4_fold ∈ tbG := tb_at (i := 163) (by decide +kernel) (by decide +kernel)
theorem kw_164 : Cond.instanceMethod yX4_fold ∈ tbG := tb_at (i := 164) (by decide +kernel) (by decide +kernel)
theorem kw_165 : Cond.selects RX4 yX4_fold yX4_fold ∈ tbG := tb_at (i := 165) (by decide +kernel) (by decide +kernel)
theorem kw_166 : Cond.code yX4_fold cX4_fold 2 (some .int) ∈ tbG := tb_at (i := 166) (by decide +kernel) (by decide +kernel)
theorem kw_167 : Cond.methodLink RX4 64 yX0_foldInto ∈ tbG := tb_at (i := 167) (by decide +kernel) (by decide +kernel)
theorem kw_168 : Cond.static yX0_foldInto ∈ tbG := tb_at (i := 168) (by decide +kernel) (by decide +kernel)
theorem kw_169 : Cond.code yX0_foldInto cX0_foldInto 6 none ∈ tbG := tb_at (i := 169) (by decide +kernel) (by decide +kernel)
theorem kw_170 : Cond.methodLink RX0 9 yX2_clear ∈ tbG := tb_at (i := 170) (by decide +kernel) (by decide +kernel)
theorem kw_171 : Cond.methodLink RX0 14 yX3_pointAt ∈ tbG := tb_at (i := 171) (by decide +kernel) (by decide +kernel)
theorem kw_172 : Cond.methodLink RX0 20 yX0_addFolded ∈ tbG := tb_at (i := 172) (by decide +kernel) (by decide +kernel)
theorem kw_173 : Cond.static yX0_addFolded ∈ tbG := tb_at (i := 173) (by decide +kernel) (by decide +kernel)
theorem kw_174 : Cond.code yX0_addFolded cX0_addFolded 4 none ∈ tbG := tb_at (i := 174) (by decide +kernel) (by decide +kernel)
theorem kw_176 : Cond.methodLink RX0 28 yJ0_length_8abf5 ∈ tbG := tb_at (i := 176) (by decide +kernel) (by decide +kernel)
theorem kw_177 : Cond.instanceMethod yJ0_length_8abf5 ∈ tbG := tb_at (i := 177) (by decide +kernel) (by decide +kernel)
theorem kw_178 : Cond.selects RJ0 yJ0_length_8abf5 yJ0_length_8abf5 ∈ tbG := tb_at (i := 178) (by decide +kernel) (by decide +kernel)
theorem kw_179 : Cond.code yJ0_length_8abf5 cJ0_length_8abf5 1 (some .int) ∈ tbG := tb_at (i := 179) (by decide +kernel) (by decide +kernel)
theorem kw_180 : Cond.methodLink RJ0 335 yJ0_coder_7d493 ∈ tbG := tb_at (i := 180) (by decide +kernel) (by decide +kernel)
theorem kw_181 : Cond.instanceMethod yJ0_coder_7d493 ∈ tbG := tb_at (i := 181) (by decide +kernel) (by decide +kernel)
theorem kw_182 : Cond.selects RJ0 yJ0_coder_7d493 yJ0_coder_7d493 ∈ tbG := tb_at (i := 182) (by decide +kernel) (by decide +kernel)
theorem kw_183 : Cond.code yJ0_coder_7d493 cJ0_coder_7d493 1 (some .byte) ∈ tbG := tb_at (i := 183) (by decide +kernel) (by decide +kernel)
theorem kw_184 : Cond.fieldLink RJ0 38 "java/lang/String" "COMPACT_STRINGS" "Z" ∈ tbG := tb_at (i := 184) (by decide +kernel) (by decide +kernel)
theorem kw_186 : Cond.methodLink RX0 34 yJ0_charAt_5068e ∈ tbG := tb_at (i := 186) (by decide +kernel) (by decide +kernel)
theorem kw_187 : Cond.instanceMethod yJ0_charAt_5068e ∈ tbG := tb_at (i := 187) (by decide +kernel) (by decide +kernel)
theorem kw_188 : Cond.selects RJ0 yJ0_charAt_5068e yJ0_charAt_5068e ∈ tbG := tb_at (i := 188) (by decide +kernel) (by decide +kernel)
theorem kw_189 : Cond.code yJ0_charAt_5068e cJ0_charAt_5068e 2 (some .char) ∈ tbG := tb_at (i := 189) (by decide +kernel) (by decide +kernel)
theorem kw_190 : Cond.methodLink RJ0 492 yJ0_isLatin1_aae02 ∈ tbG := tb_at (i := 190) (by decide +kernel) (by decide +kernel)
theorem kw_191 : Cond.instanceMethod yJ0_isLatin1_aae02 ∈ tbG := tb_at (i := 191) (by decide +kernel) (by decide +kernel)
theorem kw_192 : Cond.selects RJ0 yJ0_isLatin1_aae02 yJ0_isLatin1_aae02 ∈ tbG := tb_at (i := 192) (by decide +kernel) (by decide +kernel)
theorem kw_193 : Cond.code yJ0_isLatin1_aae02 cJ0_isLatin1_aae02 1 (some .boolean) ∈ tbG := tb_at (i := 193) (by decide +kernel) (by decide +kernel)
theorem kw_194 : Cond.methodLink RJ0 495 yJ1_charAt_3b067 ∈ tbG := tb_at (i := 194) (by decide +kernel) (by decide +kernel)
theorem kw_195 : Cond.static yJ1_charAt_3b067 ∈ tbG := tb_at (i := 195) (by decide +kernel) (by decide +kernel)
theorem kw_196 : Cond.code yJ1_charAt_3b067 cJ1_charAt_3b067 2 (some .char) ∈ tbG := tb_at (i := 196) (by decide +kernel) (by decide +kernel)
theorem kw_197 : Cond.methodLink RJ1 9 yJ0_checkIndex_df160 ∈ tbG := tb_at (i := 197) (by decide +kernel) (by decide +kernel)
theorem kw_198 : Cond.static yJ0_checkIndex_df160 ∈ tbG := tb_at (i := 198) (by decide +kernel) (by decide +kernel)
theorem kw_199 : Cond.code yJ0_checkIndex_df160 cJ0_checkIndex_df160 2 none ∈ tbG := tb_at (i := 199) (by decide +kernel) (by decide +kernel)
theorem kw_200 : Cond.fieldLink RJ0 1053 "jdk/internal/util/Preconditions" "SIOOBE_FORMATTER" "Ljava/util/function/BiFunction;" ∈ tbG := tb_at (i := 200) (by decide +kernel) (by decide +kernel)
theorem kw_202 : Cond.methodLink RJ0 1059 yJ3_checkIndex_8e157 ∈ tbG := tb_at (i := 202) (by decide +kernel) (by decide +kernel)
theorem kw_203 : Cond.static yJ3_checkIndex_8e157 ∈ tbG := tb_at (i := 203) (by decide +kernel) (by decide +kernel)
theorem kw_204 : Cond.code yJ3_checkIndex_8e157 cJ3_checkIndex_8e157 3 (some .int) ∈ tbG := tb_at (i := 204) (by decide +kernel) (by decide +kernel)
theorem kw_205 : Cond.methodLink RJ0 498 yJ2_charAt_3b067 ∈ tbG := tb_at (i := 205) (by decide +kernel) (by decide +kernel)
theorem kw_206 : Cond.static yJ2_charAt_3b067 ∈ tbG := tb_at (i := 206) (by decide +kernel) (by decide +kernel)
theorem kw_207 : Cond.code yJ2_charAt_3b067 cJ2_charAt_3b067 2 (some .char) ∈ tbG := tb_at (i := 207) (by decide +kernel) (by decide +kernel)
theorem kw_208 : Cond.methodLink RJ2 67 yJ2_checkIndex_2214a ∈ tbG := tb_at (i := 208) (by decide +kernel) (by decide +kernel)
theorem kw_209 : Cond.static yJ2_checkIndex_2214a ∈ tbG := tb_at (i := 209) (by decide +kernel) (by decide +kernel)
theorem kw_210 : Cond.code yJ2_checkIndex_2214a cJ2_checkIndex_2214a 2 none ∈ tbG := tb_at (i := 210) (by decide +kernel) (by decide +kernel)
theorem kw_211 : Cond.methodLink RJ2 48 yJ2_length_9d52b ∈ tbG := tb_at (i := 211) (by decide +kernel) (by decide +kernel)
theorem kw_212 : Cond.static yJ2_length_9d52b ∈ tbG := tb_at (i := 212) (by decide +kernel) (by decide +kernel)
theorem kw_213 : Cond.code yJ2_length_9d52b cJ2_length_9d52b 1 (some .int) ∈ tbG := tb_at (i := 213) (by decide +kernel) (by decide +kernel)
theorem kw_214 : Cond.methodLink RJ2 414 yJ0_checkIndex_df160 ∈ tbG := tb_at (i := 214) (by decide +kernel) (by decide +kernel)
theorem kw_215 : Cond.methodLink RJ2 71 yJ2_getChar_3b067 ∈ tbG := tb_at (i := 215) (by decide +kernel) (by decide +kernel)
theorem kw_216 : Cond.static yJ2_getChar_3b067 ∈ tbG := tb_at (i := 216) (by decide +kernel) (by decide +kernel)
theorem kw_217 : Cond.code yJ2_getChar_3b067 cJ2_getChar_3b067 2 (some .char) ∈ tbG := tb_at (i := 217) (by decide +kernel) (by decide +kernel)
theorem kw_218 : Cond.fieldLink RJ2 44 "java/lang/StringUTF16" "$assertionsDisabled" "Z" ∈ tbG := tb_at (i := 218) (by decide +kernel) (by decide +kernel)
theorem kw_220 : Cond.fieldLink RJ2 59 "java/lang/StringUTF16" "HI_BYTE_SHIFT" "I" ∈ tbG := tb_at (i := 220) (by decide +kernel) (by decide +kernel)
theorem kw_222 : Cond.fieldLink RJ2 63 "java/lang/StringUTF16" "LO_BYTE_SHIFT" "I" ∈ tbG := tb_at (i := 222) (by decide +kernel) (by decide +kernel)
theorem kw_224 : Cond.methodLink RX0 38 yX0_small ∈ tbG := tb_at (i := 224) (by decide +kernel) (by decide +kernel)
theorem kw_225 : Cond.static yX0_small ∈ tbG := tb_at (i := 225) (by decide +kernel) (by decide +kernel)
theorem kw_226 : Cond.code yX0_small cX0_small 3 (some .int) ∈ tbG := tb_at (i := 226) (by decide +kernel) (by decide +kernel)
theorem kw_227 : Cond.methodLink RX0 67 yX0_smallLatin ∈ tbG := tb_at (i := 227) (by decide +kernel) (by decide +kernel)
theorem kw_228 : Cond.static yX0_smallLatin ∈ tbG := tb_at (i := 228) (by decide +kernel) (by decide +kernel)
theorem kw_229 : Cond.code yX0_smallLatin cX0_smallLatin 2 (some .int) ∈ tbG := tb_at (i := 229) (by decide +kernel) (by decide +kernel)
theorem kw_230 : Cond.methodLink RX0 70 yX0_smallLatinExtended ∈ tbG := tb_at (i := 230) (by decide +kernel) (by decide +kernel)
theorem kw_231 : Cond.static yX0_smallLatinExtended ∈ tbG := tb_at (i := 231) (by decide +kernel) (by decide +kernel)
theorem kw_232 : Cond.code yX0_smallLatinExtended cX0_smallLatinExtended 3 (some .int) ∈ tbG := tb_at (i := 232) (by decide +kernel) (by decide +kernel)
theorem kw_233 : Cond.methodLink RX0 42 yX0_addInOrder ∈ tbG := tb_at (i := 233) (by decide +kernel) (by decide +kernel)
theorem kw_234 : Cond.static yX0_addInOrder ∈ tbG := tb_at (i := 234) (by decide +kernel) (by decide +kernel)
theorem kw_235 : Cond.code yX0_addInOrder cX0_addInOrder 4 none ∈ tbG := tb_at (i := 235) (by decide +kernel) (by decide +kernel)
theorem kw_236 : Cond.methodLink RX0 54 yX0_markClass ∈ tbG := tb_at (i := 236) (by decide +kernel) (by decide +kernel)
theorem kw_237 : Cond.static yX0_markClass ∈ tbG := tb_at (i := 237) (by decide +kernel) (by decide +kernel)
theorem kw_238 : Cond.code yX0_markClass cX0_markClass 1 (some .int) ∈ tbG := tb_at (i := 238) (by decide +kernel) (by decide +kernel)
theorem kw_239 : Cond.methodLink RX0 57 yX2_size ∈ tbG := tb_at (i := 239) (by decide +kernel) (by decide +kernel)
theorem kw_240 : Cond.methodLink RX0 60 yX2_at ∈ tbG := tb_at (i := 240) (by decide +kernel) (by decide +kernel)
theorem kw_241 : Cond.methodLink RX0 63 yX2_insert ∈ tbG := tb_at (i := 241) (by decide +kernel) (by decide +kernel)
theorem kw_242 : Cond.instanceMethod yX2_insert ∈ tbG := tb_at (i := 242) (by decide +kernel) (by decide +kernel)
theorem kw_243 : Cond.selects RX2 yX2_insert yX2_insert ∈ tbG := tb_at (i := 243) (by decide +kernel) (by decide +kernel)
theorem kw_244 : Cond.code yX2_insert cX2_insert 4 none ∈ tbG := tb_at (i := 244) (by decide +kernel) (by decide +kernel)
theorem kw_245 : Cond.methodLink RX0 45 yX0_markStep ∈ tbG := tb_at (i := 245) (by decide +kernel) (by decide +kernel)
theorem kw_246 : Cond.static yX0_markStep ∈ tbG := tb_at (i := 246) (by decide +kernel) (by decide +kernel)
theorem kw_247 : Cond.code yX0_markStep cX0_markStep 2 (some .int) ∈ tbG := tb_at (i := 247) (by decide +kernel) (by decide +kernel)
theorem kw_249 : Cond.fieldLink RX0 50 "FoldedNames$Folding" "MARK_STEPS" "[I" ∈ tbG := tb_at (i := 249) (by decide +kernel) (by decide +kernel)
theorem kw_251 : Cond.arrayClass .byte ∈ tbG := tb_at (i := 251) (by decide +kernel) (by decide +kernel)
theorem kw_252 : Cond.methodLink RL 47 yX4_folded ∈ tbG := tb_at (i := 252) (by decide +kernel) (by decide +kernel)
theorem kw_253 : Cond.instanceMethod yX4_folded ∈ tbG := tb_at (i := 253) (by decide +kernel) (by decide +kernel)
theorem kw_254 : Cond.selects RX4 yX4_folded yX4_folded ∈ tbG := tb_at (i := 254) (by decide +kernel) (by decide +kernel)
theorem kw_255 : Cond.code yX4_folded cX4_folded 2 (some .int) ∈ tbG := tb_at (i := 255) (by decide +kernel) (by decide +kernel)
theorem kw_256 : Cond.methodLink RX4 70 yX2_at ∈ tbG := tb_at (i := 256) (by decide +kernel) (by decide +kernel)
theorem kw_257 : Cond.methodLink RL 52 yX4_put ∈ tbG := tb_at (i := 257) (by decide +kernel) (by decide +kernel)
theorem kw_258 : Cond.instanceMethod yX4_put ∈ tbG := tb_at (i := 258) (by decide +kernel) (by decide +kernel)
theorem kw_259 : Cond.selects RX4 yX4_put yX4_put ∈ tbG := tb_at (i := 259) (by decide +kernel) (by decide +kernel)
theorem kw_260 : Cond.code yX4_put cX4_put 4 (some .int) ∈ tbG := tb_at (i := 260) (by decide +kernel) (by decide +kernel)
theorem kw_261 : Cond.methodLink RX4 74 yX4_putFromTape ∈ tbG := tb_at (i := 261) (by decide +kernel) (by decide +kernel)
theorem kw_263 : Cond.instanceMethod yX4_putFromTape ∈ tbG := tb_at (i := 263) (by decide +kernel) (by decide +kernel)
theorem kw_264 : Cond.code yX4_putFromTape cX4_putFromTape 6 (some .int) ∈ tbG := tb_at (i := 264) (by decide +kernel) (by decide +kernel)
theorem kw_265 : Cond.methodLink RX4 120 yX4_directoryAt ∈ tbG := tb_at (i := 265) (by decide +kernel) (by decide +kernel)
theorem kw_267 : Cond.instanceMethod yX4_directoryAt ∈ tbG := tb_at (i := 267) (by decide +kernel) (by decide +kernel)
theorem kw_268 : Cond.code yX4_directoryAt cX4_directoryAt 3 (some (.object "FoldedNames$Node")) ∈ tbG := tb_at (i := 268) (by decide +kernel) (by decide +kernel)
theorem kw_269 : Cond.methodLink RX4 88 yX4_nodeAt ∈ tbG := tb_at (i := 269) (by decide +kernel) (by decide +kernel)
theorem kw_271 : Cond.instanceMethod yX4_nodeAt ∈ tbG := tb_at (i := 271) (by decide +kernel) (by decide +kernel)
theorem kw_272 : Cond.code yX4_nodeAt cX4_nodeAt 3 (some (.object "FoldedNames$Node")) ∈ tbG := tb_at (i := 272) (by decide +kernel) (by decide +kernel)
theorem kw_273 : Cond.methodLink RX4 128 yX4_askForName ∈ tbG := tb_at (i := 273) (by decide +kernel) (by decide +kernel)
theorem kw_275 : Cond.instanceMethod yX4_askForName ∈ tbG := tb_at (i := 275) (by decide +kernel) (by decide +kernel)
theorem kw_276 : Cond.code yX4_askForName cX4_askForName 6 (some .boolean) ∈ tbG := tb_at (i := 276) (by decide +kernel) (by decide +kernel)
theorem kw_277 : Cond.methodLink RX4 151 yX3_isDots ∈ tbG := tb_at (i := 277) (by decide +kernel) (by decide +kernel)
theorem kw_278 : Cond.static yX3_isDots ∈ tbG := tb_at (i := 278) (by decide +kernel) (by decide +kernel)
theorem kw_279 : Cond.code yX3_isDots cX3_isDots 4 (some .boolean) ∈ tbG := tb_at (i := 279) (by decide +kernel) (by decide +kernel)
theorem kw_280 : Cond.methodLink RX4 132 yX4_entryAsked ∈ tbG := tb_at (i := 280) (by decide +kernel) (by decide +kernel)
theorem kw_282 : Cond.instanceMethod yX4_entryAsked ∈ tbG := tb_at (i := 282) (by decide +kernel) (by decide +kernel)
theorem kw_283 : Cond.code yX4_entryAsked cX4_entryAsked 5 (some .int) ∈ tbG := tb_at (i := 283) (by decide +kernel) (by decide +kernel)
theorem kw_284 : Cond.methodLink RX4 162 yX2_compareWith ∈ tbG := tb_at (i := 284) (by decide +kernel) (by decide +kernel)
theorem kw_285 : Cond.instanceMethod yX2_compareWith ∈ tbG := tb_at (i := 285) (by decide +kernel) (by decide +kernel)
theorem kw_286 : Cond.selects RX2 yX2_compareWith yX2_compareWith ∈ tbG := tb_at (i := 286) (by decide +kernel) (by decide +kernel)
theorem kw_287 : Cond.code yX2_compareWith cX2_compareWith 4 (some .int) ∈ tbG := tb_at (i := 287) (by decide +kernel) (by decide +kernel)
theorem kw_288 : Cond.methodLink RX2 29 yJ9_min_7cf53 ∈ tbG := tb_at (i := 288) (by decide +kernel) (by decide +kernel)
theorem kw_289 : Cond.static yJ9_min_7cf53 ∈ tbG := tb_at (i := 289) (by decide +kernel) (by decide +kernel)
theorem kw_290 : Cond.code yJ9_min_7cf53 cJ9_min_7cf53 2 (some .int) ∈ tbG := tb_at (i := 290) (by decide +kernel) (by decide +kernel)
theorem kw_291 : Cond.methodLink RX2 32 yJ6_compare_7cf53 ∈ tbG := tb_at (i := 291) (by decide +kernel) (by decide +kernel)
theorem kw_292 : Cond.static yJ6_compare_7cf53 ∈ tbG := tb_at (i := 292) (by decide +kernel) (by decide +kernel)
theorem kw_293 : Cond.code yJ6_compare_7cf53 cJ6_compare_7cf53 2 (some .int) ∈ tbG := tb_at (i := 293) (by decide +kernel) (by decide +kernel)
theorem kw_294 : Cond.methodLink RX4 136 yX4_freeNumber ∈ tbG := tb_at (i := 294) (by decide +kernel) (by decide +kernel)
theorem kw_296 : Cond.instanceMethod yX4_freeNumber ∈ tbG := tb_at (i := 296) (by decide +kernel) (by decide +kernel)
theorem kw_297 : Cond.code yX4_freeNumber cX4_freeNumber 2 (some .int) ∈ tbG := tb_at (i := 297) (by decide +kernel) (by decide +kernel)
theorem kw_298 : Cond.methodLink RX4 139 yX1_takeName ∈ tbG := tb_at (i := 298) (by decide +kernel) (by decide +kernel)
theorem kw_299 : Cond.instanceMethod yX1_takeName ∈ tbG := tb_at (i := 299) (by decide +kernel) (by decide +kernel)
theorem kw_300 : Cond.selects RX1 yX1_takeName yX1_takeName ∈ tbG := tb_at (i := 300) (by decide +kernel) (by decide +kernel)
theorem kw_301 : Cond.code yX1_takeName cX1_takeName 3 none ∈ tbG := tb_at (i := 301) (by decide +kernel) (by decide +kernel)
theorem kw_302 : Cond.methodLink RX1 43 yX2_copyFrom ∈ tbG := tb_at (i := 302) (by decide +kernel) (by decide +kernel)
theorem kw_303 : Cond.instanceMethod yX2_copyFrom ∈ tbG := tb_at (i := 303) (by decide +kernel) (by decide +kernel)
theorem kw_304 : Cond.selects RX2 yX2_copyFrom yX2_copyFrom ∈ tbG := tb_at (i := 304) (by decide +kernel) (by decide +kernel)
theorem kw_305 : Cond.code yX2_copyFrom cX2_copyFrom 3 none ∈ tbG := tb_at (i := 305) (by decide +kernel) (by decide +kernel)
theorem kw_306 : Cond.methodLink RX4 143 yX4_attach ∈ tbG := tb_at (i := 306) (by decide +kernel) (by decide +kernel)
theorem kw_308 : Cond.instanceMethod yX4_attach ∈ tbG := tb_at (i := 308) (by decide +kernel) (by decide +kernel)
theorem kw_309 : Cond.code yX4_attach cX4_attach 5 none ∈ tbG := tb_at (i := 309) (by decide +kernel) (by decide +kernel)
theorem kw_310 : Cond.methodLink RX4 52 yX2_add ∈ tbG := tb_at (i := 310) (by decide +kernel) (by decide +kernel)
theorem kw_311 : Cond.instanceMethod yX2_add ∈ tbG := tb_at (i := 311) (by decide +kernel) (by decide +kernel)
theorem kw_312 : Cond.selects RX2 yX2_add yX2_add ∈ tbG := tb_at (i := 312) (by decide +kernel) (by decide +kernel)
theorem kw_313 : Cond.code yX2_add cX2_add 2 none ∈ tbG := tb_at (i := 313) (by decide +kernel) (by decide +kernel)
theorem kw_314 : Cond.methodLink RX2 25 yX2_insert ∈ tbG := tb_at (i := 314) (by decide +kernel) (by decide +kernel)
theorem kw_315 : Cond.methodLink RX4 166 yX4_placeByName ∈ tbG := tb_at (i := 315) (by decide +kernel) (by decide +kernel)
theorem kw_317 : Cond.instanceMethod yX4_placeByName ∈ tbG := tb_at (i := 317) (by decide +kernel) (by decide +kernel)
theorem kw_318 : Cond.code yX4_placeByName cX4_placeByName 5 (some .int) ∈ tbG := tb_at (i := 318) (by decide +kernel) (by decide +kernel)
theorem kw_319 : Cond.methodLink RX4 169 yX2_insert ∈ tbG := tb_at (i := 319) (by decide +kernel) (by decide +kernel)
theorem kw_320 : Cond.methodLink RL 57 yX4_find ∈ tbG := tb_at (i := 320) (by decide +kernel) (by decide +kernel)
theorem kw_321 : Cond.instanceMethod yX4_find ∈ tbG := tb_at (i := 321) (by decide +kernel) (by decide +kernel)
theorem kw_322 : Cond.selects RX4 yX4_find yX4_find ∈ tbG := tb_at (i := 322) (by decide +kernel) (by decide +kernel)
theorem kw_323 : Cond.code yX4_find cX4_find 3 (some .int) ∈ tbG := tb_at (i := 323) (by decide +kernel) (by decide +kernel)
theorem kw_324 : Cond.methodLink RX4 78 yX4_findFromTape ∈ tbG := tb_at (i := 324) (by decide +kernel) (by decide +kernel)
theorem kw_326 : Cond.instanceMethod yX4_findFromTape ∈ tbG := tb_at (i := 326) (by decide +kernel) (by decide +kernel)
theorem kw_327 : Cond.code yX4_findFromTape cX4_findFromTape 3 (some .int) ∈ tbG := tb_at (i := 327) (by decide +kernel) (by decide +kernel)
theorem kw_328 : Cond.methodLink RL 61 yX4_walk ∈ tbG := tb_at (i := 328) (by decide +kernel) (by decide +kernel)
theorem kw_329 : Cond.instanceMethod yX4_walk ∈ tbG := tb_at (i := 329) (by decide +kernel) (by decide +kernel)
theorem kw_330 : Cond.selects RX4 yX4_walk yX4_walk ∈ tbG := tb_at (i := 330) (by decide +kernel) (by decide +kernel)
theorem kw_331 : Cond.code yX4_walk cX4_walk 3 (some .int) ∈ tbG := tb_at (i := 331) (by decide +kernel) (by decide +kernel)
theorem kw_332 : Cond.methodLink RX4 81 yX4_walkFromTape ∈ tbG := tb_at (i := 332) (by decide +kernel) (by decide +kernel)
theorem kw_334 : Cond.instanceMethod yX4_walkFromTape ∈ tbG := tb_at (i := 334) (by decide +kernel) (by decide +kernel)
theorem kw_335 : Cond.code yX4_walkFromTape cX4_walkFromTape 6 (some .int) ∈ tbG := tb_at (i := 335) (by decide +kernel) (by decide +kernel)
theorem kw_336 : Cond.methodLink RX4 147 yX4_stepFrom ∈ tbG := tb_at (i := 336) (by decide +kernel) (by decide +kernel)
theorem kw_338 : Cond.instanceMethod yX4_stepFrom ∈ tbG := tb_at (i := 338) (by decide +kernel) (by decide +kernel)
theorem kw_339 : Cond.code yX4_stepFrom cX4_stepFrom 6 (some .int) ∈ tbG := tb_at (i := 339) (by decide +kernel) (by decide +kernel)
theorem kw_340 : Cond.methodLink RL 65 yX4_move ∈ tbG := tb_at (i := 340) (by decide +kernel) (by decide +kernel)
theorem kw_341 : Cond.instanceMethod yX4_move ∈ tbG := tb_at (i := 341) (by decide +kernel) (by decide +kernel)
theorem kw_342 : Cond.selects RX4 yX4_move yX4_move ∈ tbG := tb_at (i := 342) (by decide +kernel) (by decide +kernel)
theorem kw_343 : Cond.code yX4_move cX4_move 4 (some .int) ∈ tbG := tb_at (i := 343) (by decide +kernel) (by decide +kernel)
theorem kw_344 : Cond.methodLink RX4 84 yX4_moveFromTape ∈ tbG := tb_at (i := 344) (by decide +kernel) (by decide +kernel)
theorem kw_346 : Cond.instanceMethod yX4_moveFromTape ∈ tbG := tb_at (i := 346) (by decide +kernel) (by decide +kernel)
theorem kw_347 : Cond.code yX4_moveFromTape cX4_moveFromTape 8 (some .int) ∈ tbG := tb_at (i := 347) (by decide +kernel) (by decide +kernel)
theorem kw_348 : Cond.methodLink RX4 155 yX2_copyFrom ∈ tbG := tb_at (i := 348) (by decide +kernel) (by decide +kernel)
theorem kw_349 : Cond.methodLink RX4 159 yX4_isWithin ∈ tbG := tb_at (i := 349) (by decide +kernel) (by decide +kernel)
theorem kw_351 : Cond.instanceMethod yX4_isWithin ∈ tbG := tb_at (i := 351) (by decide +kernel) (by decide +kernel)
theorem kw_352 : Cond.code yX4_isWithin cX4_isWithin 6 (some .boolean) ∈ tbG := tb_at (i := 352) (by decide +kernel) (by decide +kernel)
theorem kw_353 : Cond.methodLink RX4 98 yX4_detach ∈ tbG := tb_at (i := 353) (by decide +kernel) (by decide +kernel)
theorem kw_355 : Cond.instanceMethod yX4_detach ∈ tbG := tb_at (i := 355) (by decide +kernel) (by decide +kernel)
theorem kw_356 : Cond.code yX4_detach cX4_detach 4 none ∈ tbG := tb_at (i := 356) (by decide +kernel) (by decide +kernel)
theorem kw_357 : Cond.methodLink RX4 172 yX2_takeOut ∈ tbG := tb_at (i := 357) (by decide +kernel) (by decide +kernel)
theorem kw_358 : Cond.instanceMethod yX2_takeOut ∈ tbG := tb_at (i := 358) (by decide +kernel) (by decide +kernel)
theorem kw_359 : Cond.selects RX2 yX2_takeOut yX2_takeOut ∈ tbG := tb_at (i := 359) (by decide +kernel) (by decide +kernel)
theorem kw_360 : Cond.code yX2_takeOut cX2_takeOut 4 none ∈ tbG := tb_at (i := 360) (by decide +kernel) (by decide +kernel)
theorem kw_361 : Cond.methodLink RL 69 yX4_remove ∈ tbG := tb_at (i := 361) (by decide +kernel) (by decide +kernel)
theorem kw_362 : Cond.instanceMethod yX4_remove ∈ tbG := tb_at (i := 362) (by decide +kernel) (by decide +kernel)
theorem kw_363 : Cond.selects RX4 yX4_remove yX4_remove ∈ tbG := tb_at (i := 363) (by decide +kernel) (by decide +kernel)
theorem kw_364 : Cond.code yX4_remove cX4_remove 3 (some .int) ∈ tbG := tb_at (i := 364) (by decide +kernel) (by decide +kernel)
theorem kw_365 : Cond.methodLink RL 77 yX4_entry ∈ tbG := tb_at (i := 365) (by decide +kernel) (by decide +kernel)
theorem kw_366 : Cond.instanceMethod yX4_entry ∈ tbG := tb_at (i := 366) (by decide +kernel) (by decide +kernel)
theorem kw_367 : Cond.selects RX4 yX4_entry yX4_entry ∈ tbG := tb_at (i := 367) (by decide +kernel) (by decide +kernel)
theorem kw_368 : Cond.code yX4_entry cX4_entry 4 (some .int) ∈ tbG := tb_at (i := 368) (by decide +kernel) (by decide +kernel)
theorem kw_369 : Cond.methodLink RL 81 yX4_sorted ∈ tbG := tb_at (i := 369) (by decide +kernel) (by decide +kernel)
theorem kw_370 : Cond.instanceMethod yX4_sorted ∈ tbG := tb_at (i := 370) (by decide +kernel) (by decide +kernel)
theorem kw_371 : Cond.selects RX4 yX4_sorted yX4_sorted ∈ tbG := tb_at (i := 371) (by decide +kernel) (by decide +kernel)
theorem kw_372 : Cond.code yX4_sorted cX4_sorted 4 (some .int) ∈ tbG := tb_at (i := 372) (by decide +kernel) (by decide +kernel)
theorem kw_373 : Cond.methodLink RL 89 yX4_nodes ∈ tbG := tb_at (i := 373) (by decide +kernel) (by decide +kernel)
theorem kw_374 : Cond.instanceMethod yX4_nodes ∈ tbG := tb_at (i := 374) (by decide +kernel) (by decide +kernel)
theorem kw_375 : Cond.selects RX4 yX4_nodes yX4_nodes ∈ tbG := tb_at (i := 375) (by decide +kernel) (by decide +kernel)
theorem kw_376 : Cond.code yX4_nodes cX4_nodes 1 (some .int) ∈ tbG := tb_at (i := 376) (by decide +kernel) (by decide +kernel)
theorem kw_377 : Cond.methodLink RL 29 yL_feed ∈ tbG := tb_at (i := 377) (by decide +kernel) (by decide +kernel)
theorem kw_378 : Cond.static yL_feed ∈ tbG := tb_at (i := 378) (by decide +kernel) (by decide +kernel)
theorem kw_379 : Cond.codeWith yL_feed cL_feed 6 (some .int) [(0, 11, 14, 13)] ∈ tbG := tb_at (i := 379) (by decide +kernel) (by decide +kernel)
theorem kw_380 : Cond.classLink RL 13 "java/lang/IllegalArgumentException" ∈ tbG := tb_at (i := 380) (by decide +kernel) (by decide +kernel)
theorem kw_381 : Cond.methodLink RL 7 yX4_feed ∈ tbG := tb_at (i := 381) (by decide +kernel) (by decide +kernel)
theorem kw_382 : Cond.instanceMethod yX4_feed ∈ tbG := tb_at (i := 382) (by decide +kernel) (by decide +kernel)
theorem kw_383 : Cond.selects RX4 yX4_feed yX4_feed ∈ tbG := tb_at (i := 383) (by decide +kernel) (by decide +kernel)
theorem kw_384 : Cond.code yX4_feed cX4_feed 5 (some .int) ∈ tbG := tb_at (i := 384) (by decide +kernel) (by decide +kernel)
theorem kw_385 : Cond.classLink RX4 39 "java/lang/IllegalArgumentException" ∈ tbG := tb_at (i := 385) (by decide +kernel) (by decide +kernel)
theorem kw_386 : Cond.instantiable "java/lang/IllegalArgumentException" 6 ∈ tbG := tb_at (i := 386) (by decide +kernel) (by decide +kernel)
theorem kw_394 : Cond.selects "java/lang/IllegalArgumentException" ⟨"java/lang/Throwable", "fillInStackTrace", "(I)Ljava/lang/Throwable;"⟩ ⟨"java/lang/Throwable", "fillInStackTrace", "(I)Ljava/lang/Throwable;"⟩ ∈ tbG := tb_at (i := 394) (by decide +kernel) (by decide +kernel)
theorem kw_395 : Cond.selects "java/lang/IllegalArgumentException" ⟨"java/lang/Throwable", "fillInStackTrace", "()Ljava/lang/Throwable;"⟩ ⟨"java/lang/Throwable", "fillInStackTrace", "()Ljava/lang/Throwable;"⟩ ∈ tbG := tb_at (i := 395) (by decide +kernel) (by decide +kernel)
theorem kw_396 : Cond.lays "java/lang/IllegalArgumentException" "java/lang/Throwable" "cause" "Ljava/lang/Throwable;" ∈ tbG := tb_at (i := 396) (by decide +kernel) (by decide +kernel)
theorem kw_397 : Cond.lays "java/lang/Throwable" "java/lang/Throwable" "cause" "Ljava/lang/Throwable;" ∈ tbG := tb_at (i := 397) (by decide +kernel) (by decide +kernel)
theorem kw_398 : Cond.lays "java/lang/IllegalArgumentException" "java/lang/Throwable" "stackTrace" "[Ljava/lang/StackTraceElement;" ∈ tbG := tb_at (i := 398) (by decide +kernel) (by decide +kernel)
theorem kw_399 : Cond.lays "java/lang/Throwable" "java/lang/Throwable" "stackTrace" "[Ljava/lang/StackTraceElement;" ∈ tbG := tb_at (i := 399) (by decide +kernel) (by decide +kernel)
theorem kw_400 : Cond.lays "java/lang/IllegalArgumentException" "java/lang/Throwable" "suppressedExceptions" "Ljava/util/List;" ∈ tbG := tb_at (i := 400) (by decide +kernel) (by decide +kernel)
theorem kw_401 : Cond.lays "java/lang/Throwable" "java/lang/Throwable" "suppressedExceptions" "Ljava/util/List;" ∈ tbG := tb_at (i := 401) (by decide +kernel) (by decide +kernel)
theorem kw_402 : Cond.lays "java/lang/IllegalArgumentException" "java/lang/Throwable" "detailMessage" "Ljava/lang/String;" ∈ tbG := tb_at (i := 402) (by decide +kernel) (by decide +kernel)
theorem kw_403 : Cond.lays "java/lang/Throwable" "java/lang/Throwable" "detailMessage" "Ljava/lang/String;" ∈ tbG := tb_at (i := 403) (by decide +kernel) (by decide +kernel)
theorem kw_404 : Cond.lays "java/lang/IllegalArgumentException" "java/lang/Throwable" "backtrace" "Ljava/lang/Object;" ∈ tbG := tb_at (i := 404) (by decide +kernel) (by decide +kernel)
theorem kw_405 : Cond.lays "java/lang/Throwable" "java/lang/Throwable" "backtrace" "Ljava/lang/Object;" ∈ tbG := tb_at (i := 405) (by decide +kernel) (by decide +kernel)
theorem kw_406 : Cond.fieldLink "java/lang/Throwable" 198 "java/lang/Throwable" "backtrace" "Ljava/lang/Object;" ∈ tbG := tb_at (i := 406) (by decide +kernel) (by decide +kernel)
theorem kw_408 : Cond.instanceMethod ⟨"java/lang/Throwable", "<init>", "()V"⟩ ∈ tbG := tb_at (i := 408) (by decide +kernel) (by decide +kernel)
theorem kw_409 : Cond.code ⟨"java/lang/Throwable", "<init>", "()V"⟩ prog_16_method_1_code 1 none ∈ tbG := tb_at (i := 409) (by decide +kernel) (by decide +kernel)
theorem kw_410 : Cond.methodLink "java/lang/Throwable" 1 ⟨"java/lang/Object", "<init>", "()V"⟩ ∈ tbG := tb_at (i := 410) (by decide +kernel) (by decide +kernel)
theorem kw_411 : Cond.fieldLink "java/lang/Throwable" 13 "java/lang/Throwable" "UNASSIGNED_STACK" "[Ljava/lang/StackTraceElement;" ∈ tbG := tb_at (i := 411) (by decide +kernel) (by decide +kernel)
theorem kw_413 : Cond.fieldLink "java/lang/Throwable" 20 "java/lang/Throwable" "SUPPRESSED_SENTINEL" "Ljava/util/List;" ∈ tbG := tb_at (i := 413) (by decide +kernel) (by decide +kernel)
theorem kw_415 : Cond.methodLink "java/lang/Throwable" 27 ⟨"java/lang/Throwable", "fillInStackTrace", "()Ljava/lang/Throwable;"⟩ ∈ tbG := tb_at (i := 415) (by decide +kernel) (by decide +kernel)
theorem kw_416 : Cond.instanceMethod ⟨"java/lang/Throwable", "fillInStackTrace", "()Ljava/lang/Throwable;"⟩ ∈ tbG := tb_at (i := 416) (by decide +kernel) (by decide +kernel)
theorem kw_419 : Cond.methodLink "java/lang/Throwable" 202 ⟨"java/lang/Throwable", "fillInStackTrace", "(I)Ljava/lang/Throwable;"⟩ ∈ tbG := tb_at (i := 419) (by decide +kernel) (by decide +kernel)
theorem kw_421 : Cond.instanceMethod ⟨"java/lang/Throwable", "fillInStackTrace", "(I)Ljava/lang/Throwable;"⟩ ∈ tbG := tb_at (i := 421) (by decide +kernel) (by decide +kernel)
theorem kw_422 : Cond.instantiable "java/lang/Throwable" 6 ∈ tbG := tb_at (i := 422) (by decide +kernel) (by decide +kernel)
theorem kw_425 : Cond.methodLink RX4 43 ⟨"java/lang/IllegalArgumentException", "<init>", "(Ljava/lang/String;)V"⟩ ∈ tbG := tb_at (i := 425) (by decide +kernel) (by decide +kernel)
theorem kw_426 : Cond.instanceMethod ⟨"java/lang/IllegalArgumentException", "<init>", "(Ljava/lang/String;)V"⟩ ∈ tbG := tb_at (i := 426) (by decide +kernel) (by decide +kernel)
theorem kw_427 : Cond.code ⟨"java/lang/IllegalArgumentException", "<init>", "(Ljava/lang/String;)V"⟩ prog_9_method_2_code 2 none ∈ tbG := tb_at (i := 427) (by decide +kernel) (by decide +kernel)
theorem kw_428 : Cond.methodLink "java/lang/IllegalArgumentException" 7 ⟨"java/lang/RuntimeException", "<init>", "(Ljava/lang/String;)V"⟩ ∈ tbG := tb_at (i := 428) (by decide +kernel) (by decide +kernel)
theorem kw_429 : Cond.instanceMethod ⟨"java/lang/RuntimeException", "<init>", "(Ljava/lang/String;)V"⟩ ∈ tbG := tb_at (i := 429) (by decide +kernel) (by decide +kernel)
theorem kw_430 : Cond.code ⟨"java/lang/RuntimeException", "<init>", "(Ljava/lang/String;)V"⟩ prog_12_method_2_code 2 none ∈ tbG := tb_at (i := 430) (by decide +kernel) (by decide +kernel)
theorem kw_431 : Cond.methodLink "java/lang/RuntimeException" 7 ⟨"java/lang/Exception", "<init>", "(Ljava/lang/String;)V"⟩ ∈ tbG := tb_at (i := 431) (by decide +kernel) (by decide +kernel)
theorem kw_432 : Cond.instanceMethod ⟨"java/lang/Exception", "<init>", "(Ljava/lang/String;)V"⟩ ∈ tbG := tb_at (i := 432) (by decide +kernel) (by decide +kernel)
theorem kw_433 : Cond.code ⟨"java/lang/Exception", "<init>", "(Ljava/lang/String;)V"⟩ prog_8_method_2_code 2 none ∈ tbG := tb_at (i := 433) (by decide +kernel) (by decide +kernel)
theorem kw_434 : Cond.methodLink "java/lang/Exception" 7 ⟨"java/lang/Throwable", "<init>", "(Ljava/lang/String;)V"⟩ ∈ tbG := tb_at (i := 434) (by decide +kernel) (by decide +kernel)
theorem kw_435 : Cond.instanceMethod ⟨"java/lang/Throwable", "<init>", "(Ljava/lang/String;)V"⟩ ∈ tbG := tb_at (i := 435) (by decide +kernel) (by decide +kernel)
theorem kw_436 : Cond.code ⟨"java/lang/Throwable", "<init>", "(Ljava/lang/String;)V"⟩ prog_16_method_2_code 2 none ∈ tbG := tb_at (i := 436) (by decide +kernel) (by decide +kernel)
theorem kw_437 : Cond.fieldLink "java/lang/Throwable" 198 "java/lang/Throwable" "backtrace" "Ljava/lang/Object;" ∈ tbG := tb_at (i := 437) (by decide +kernel) (by decide +kernel)
theorem kw_438 : Cond.fieldLink "java/lang/Throwable" 31 "java/lang/Throwable" "detailMessage" "Ljava/lang/String;" ∈ tbG := tb_at (i := 438) (by decide +kernel) (by decide +kernel)
theorem kw_439 : Cond.fieldLink "java/lang/Throwable" 7 "java/lang/Throwable" "cause" "Ljava/lang/Throwable;" ∈ tbG := tb_at (i := 439) (by decide +kernel) (by decide +kernel)
theorem kw_440 : Cond.fieldLink "java/lang/Throwable" 17 "java/lang/Throwable" "stackTrace" "[Ljava/lang/StackTraceElement;" ∈ tbG := tb_at (i := 440) (by decide +kernel) (by decide +kernel)
theorem kw_441 : Cond.fieldLink "java/lang/Throwable" 24 "java/lang/Throwable" "suppressedExceptions" "Ljava/util/List;" ∈ tbG := tb_at (i := 441) (by decide +kernel) (by decide +kernel)
theorem kw_446 : Cond.lays "java/lang/IllegalArgumentException" "java/lang/Throwable" "depth" "I" ∈ tbG := tb_at (i := 446) (by decide +kernel) (by decide +kernel)
theorem kw_451 : Cond.methodLink RL 73 yL_about ∈ tbG := tb_at (i := 451) (by decide +kernel) (by decide +kernel)
theorem kw_452 : Cond.static yL_about ∈ tbG := tb_at (i := 452) (by decide +kernel) (by decide +kernel)
theorem kw_453 : Cond.codeWith yL_about cL_about 5 (some .int) [(0, 10, 13, 13)] ∈ tbG := tb_at (i := 453) (by decide +kernel) (by decide +kernel)
theorem kw_454 : Cond.methodLink RL 15 yX4_about ∈ tbG := tb_at (i := 454) (by decide +kernel) (by decide +kernel)
theorem kw_455 : Cond.instanceMethod yX4_about ∈ tbG := tb_at (i := 455) (by decide +kernel) (by decide +kernel)
theorem kw_456 : Cond.selects RX4 yX4_about yX4_about ∈ tbG := tb_at (i := 456) (by decide +kernel) (by decide +kernel)
theorem kw_457 : Cond.code yX4_about cX4_about 4 (some .int) ∈ tbG := tb_at (i := 457) (by decide +kernel) (by decide +kernel)
theorem kw_459 : Cond.methodLink RX4 117 yX4_depthOf ∈ tbG := tb_at (i := 459) (by decide +kernel) (by decide +kernel)
theorem kw_461 : Cond.instanceMethod yX4_depthOf ∈ tbG := tb_at (i := 461) (by decide +kernel) (by decide +kernel)
theorem kw_462 : Cond.code yX4_depthOf cX4_depthOf 4 (some .int) ∈ tbG := tb_at (i := 462) (by decide +kernel) (by decide +kernel)
theorem kw_463 : Cond.methodLink RL 85 yL_letter ∈ tbG := tb_at (i := 463) (by decide +kernel) (by decide +kernel)
theorem kw_464 : Cond.static yL_letter ∈ tbG := tb_at (i := 464) (by decide +kernel) (by decide +kernel)
theorem kw_465 : Cond.codeWith yL_letter cL_letter 6 (some .int) [(0, 12, 15, 13)] ∈ tbG := tb_at (i := 465) (by decide +kernel) (by decide +kernel)
theorem kw_466 : Cond.methodLink RL 19 yX4_letter ∈ tbG := tb_at (i := 466) (by decide +kernel) (by decide +kernel)
theorem kw_467 : Cond.instanceMethod yX4_letter ∈ tbG := tb_at (i := 467) (by decide +kernel) (by decide +kernel)
theorem kw_468 : Cond.selects RX4 yX4_letter yX4_letter ∈ tbG := tb_at (i := 468) (by decide +kernel) (by decide +kernel)
theorem kw_469 : Cond.code yX4_letter cX4_letter 5 (some .int) ∈ tbG := tb_at (i := 469) (by decide +kernel) (by decide +kernel)
theorem kw_471 : Cond.classLink RL 24 "FoldedNamesModel" ∈ tbG := tb_at (i := 471) (by decide +kernel) (by decide +kernel)
theorem kw_472 : Cond.instantiable RX5 21 ∈ tbG := tb_at (i := 472) (by decide +kernel) (by decide +kernel)
theorem kw_473 : Cond.methodLink RL 26 yX5_init ∈ tbG := tb_at (i := 473) (by decide +kernel) (by decide +kernel)
theorem kw_474 : Cond.instanceMethod yX5_init ∈ tbG := tb_at (i := 474) (by decide +kernel) (by decide +kernel)
theorem kw_475 : Cond.code yX5_init cX5_init 1 none ∈ tbG := tb_at (i := 475) (by decide +kernel) (by decide +kernel)
theorem kw_476 : Cond.methodLink RX5 1 ⟨"java/lang/Object", "<init>", "()V"⟩ ∈ tbG := tb_at (i := 476) (by decide +kernel) (by decide +kernel)
theorem kw_477 : Cond.fieldLink RX5 7 "FoldedNamesModel" "tape" "[I" ∈ tbG := tb_at (i := 477) (by decide +kernel) (by decide +kernel)
theorem kw_478 : Cond.fieldLink RX5 60 "FoldedNamesModel" "size" "I" ∈ tbG := tb_at (i := 478) (by decide +kernel) (by decide +kernel)
theorem kw_479 : Cond.fieldLink RX5 13 "FoldedNamesModel" "is" "[Z" ∈ tbG := tb_at (i := 479) (by decide +kernel) (by decide +kernel)
theorem kw_480 : Cond.fieldLink RX5 17 "FoldedNamesModel" "isDirectory" "[Z" ∈ tbG := tb_at (i := 480) (by decide +kernel) (by decide +kernel)
theorem kw_481 : Cond.fieldLink RX5 20 "FoldedNamesModel" "parent" "[I" ∈ tbG := tb_at (i := 481) (by decide +kernel) (by decide +kernel)
theorem kw_482 : Cond.fieldLink RX5 23 "FoldedNamesModel" "name" "[I" ∈ tbG := tb_at (i := 482) (by decide +kernel) (by decide +kernel)
theorem kw_483 : Cond.fieldLink RX5 26 "FoldedNamesModel" "nameSize" "[I" ∈ tbG := tb_at (i := 483) (by decide +kernel) (by decide +kernel)
theorem kw_484 : Cond.fieldLink RX5 29 "FoldedNamesModel" "point" "[I" ∈ tbG := tb_at (i := 484) (by decide +kernel) (by decide +kernel)
theorem kw_485 : Cond.fieldLink RX5 32 "FoldedNamesModel" "points" "[I" ∈ tbG := tb_at (i := 485) (by decide +kernel) (by decide +kernel)
theorem kw_486 : Cond.fieldLink RX5 35 "FoldedNamesModel" "entry" "[I" ∈ tbG := tb_at (i := 486) (by decide +kernel) (by decide +kernel)
theorem kw_487 : Cond.fieldLink RX5 38 "FoldedNamesModel" "entries" "[I" ∈ tbG := tb_at (i := 487) (by decide +kernel) (by decide +kernel)
theorem kw_488 : Cond.fieldLink RX5 41 "FoldedNamesModel" "folded" "[I" ∈ tbG := tb_at (i := 488) (by decide +kernel) (by decide +kernel)
theorem kw_489 : Cond.fieldLink RX5 135 "FoldedNamesModel" "foldedSize" "I" ∈ tbG := tb_at (i := 489) (by decide +kernel) (by decide +kernel)
theorem kw_490 : Cond.fieldLink RX5 56 "FoldedNamesModel" "thrown" "I" ∈ tbG := tb_at (i := 490) (by decide +kernel) (by decide +kernel)
theorem kw_491 : Cond.fieldLink RX5 44 "FoldedNamesModel" "hand" "[I" ∈ tbG := tb_at (i := 491) (by decide +kernel) (by decide +kernel)
theorem kw_492 : Cond.fieldLink RX5 65 "FoldedNamesModel" "handSize" "I" ∈ tbG := tb_at (i := 492) (by decide +kernel) (by decide +kernel)
theorem kw_493 : Cond.fieldLink RX5 47 "FoldedNamesModel" "plain" "[I" ∈ tbG := tb_at (i := 493) (by decide +kernel) (by decide +kernel)
theorem kw_494 : Cond.fieldLink RX5 68 "FoldedNamesModel" "plainSize" "I" ∈ tbG := tb_at (i := 494) (by decide +kernel) (by decide +kernel)
theorem kw_495 : Cond.fieldLink RX5 50 "FoldedNamesModel" "fold" "[I" ∈ tbG := tb_at (i := 495) (by decide +kernel) (by decide +kernel)
theorem kw_496 : Cond.fieldLink RX5 108 "FoldedNamesModel" "foldSize" "I" ∈ tbG := tb_at (i := 496) (by decide +kernel) (by decide +kernel)
theorem kw_497 : Cond.fieldLink RX5 53 "FoldedNamesModel" "way" "[I" ∈ tbG := tb_at (i := 497) (by decide +kernel) (by decide +kernel)
theorem kw_498 : Cond.laysFinal RX5 "FoldedNamesModel" "tape" "[I" ∈ tbG := tb_at (i := 498) (by decide +kernel) (by decide +kernel)
theorem kw_500 : Cond.lays RX5 "FoldedNamesModel" "size" "I" ∈ tbG := tb_at (i := 500) (by decide +kernel) (by decide +kernel)
theorem kw_502 : Cond.laysFinal RX5 "FoldedNamesModel" "is" "[Z" ∈ tbG := tb_at (i := 502) (by decide +kernel) (by decide +kernel)
theorem kw_504 : Cond.laysFinal RX5 "FoldedNamesModel" "isDirectory" "[Z" ∈ tbG := tb_at (i := 504) (by decide +kernel) (by decide +kernel)
theorem kw_506 : Cond.laysFinal RX5 "FoldedNamesModel" "parent" "[I" ∈ tbG := tb_at (i := 506) (by decide +kernel) (by decide +kernel)
theorem kw_508 : Cond.laysFinal RX5 "FoldedNamesModel" "name" "[I" ∈ tbG := tb_at (i := 508) (by decide +kernel) (by decide +kernel)
theorem kw_510 : Cond.laysFinal RX5 "FoldedNamesModel" "nameSize" "[I" ∈ tbG := tb_at (i := 510) (by decide +kernel) (by decide +kernel)
theorem kw_512 : Cond.laysFinal RX5 "FoldedNamesModel" "point" "[I" ∈ tbG := tb_at (i := 512) (by decide +kernel) (by decide +kernel)
theorem kw_514 : Cond.laysFinal RX5 "FoldedNamesModel" "points" "[I" ∈ tbG := tb_at (i := 514) (by decide +kernel) (by decide +kernel)
theorem kw_516 : Cond.laysFinal RX5 "FoldedNamesModel" "entry" "[I" ∈ tbG := tb_at (i := 516) (by decide +kernel) (by decide +kernel)
theorem kw_518 : Cond.laysFinal RX5 "FoldedNamesModel" "entries" "[I" ∈ tbG := tb_at (i := 518) (by decide +kernel) (by decide +kernel)
theorem kw_520 : Cond.laysFinal RX5 "FoldedNamesModel" "folded" "[I" ∈ tbG := tb_at (i := 520) (by decide +kernel) (by decide +kernel)
theorem kw_522 : Cond.lays RX5 "FoldedNamesModel" "foldedSize" "I" ∈ tbG := tb_at (i := 522) (by decide +kernel) (by decide +kernel)
theorem kw_524 : Cond.lays RX5 "FoldedNamesModel" "thrown" "I" ∈ tbG := tb_at (i := 524) (by decide +kernel) (by decide +kernel)
theorem kw_526 : Cond.laysFinal RX5 "FoldedNamesModel" "hand" "[I" ∈ tbG := tb_at (i := 526) (by decide +kernel) (by decide +kernel)
theorem kw_528 : Cond.lays RX5 "FoldedNamesModel" "handSize" "I" ∈ tbG := tb_at (i := 528) (by decide +kernel) (by decide +kernel)
theorem kw_530 : Cond.laysFinal RX5 "FoldedNamesModel" "plain" "[I" ∈ tbG := tb_at (i := 530) (by decide +kernel) (by decide +kernel)
theorem kw_532 : Cond.lays RX5 "FoldedNamesModel" "plainSize" "I" ∈ tbG := tb_at (i := 532) (by decide +kernel) (by decide +kernel)
theorem kw_534 : Cond.laysFinal RX5 "FoldedNamesModel" "fold" "[I" ∈ tbG := tb_at (i := 534) (by decide +kernel) (by decide +kernel)
theorem kw_536 : Cond.lays RX5 "FoldedNamesModel" "foldSize" "I" ∈ tbG := tb_at (i := 536) (by decide +kernel) (by decide +kernel)
theorem kw_538 : Cond.laysFinal RX5 "FoldedNamesModel" "way" "[I" ∈ tbG := tb_at (i := 538) (by decide +kernel) (by decide +kernel)
theorem kw_541 : Cond.arrayClass .boolean ∈ tbG := tb_at (i := 541) (by decide +kernel) (by decide +kernel)
theorem kw_542 : Cond.methodLink RL 35 yX5_thrown ∈ tbG := tb_at (i := 542) (by decide +kernel) (by decide +kernel)
theorem kw_543 : Cond.instanceMethod yX5_thrown ∈ tbG := tb_at (i := 543) (by decide +kernel) (by decide +kernel)
theorem kw_544 : Cond.selects RX5 yX5_thrown yX5_thrown ∈ tbG := tb_at (i := 544) (by decide +kernel) (by decide +kernel)
theorem kw_545 : Cond.code yX5_thrown cX5_thrown 1 (some .int) ∈ tbG := tb_at (i := 545) (by decide +kernel) (by decide +kernel)
theorem kw_546 : Cond.methodLink RL 34 yX5_feed ∈ tbG := tb_at (i := 546) (by decide +kernel) (by decide +kernel)
theorem kw_547 : Cond.instanceMethod yX5_feed ∈ tbG := tb_at (i := 547) (by decide +kernel) (by decide +kernel)
theorem kw_548 : Cond.selects RX5 yX5_feed yX5_feed ∈ tbG := tb_at (i := 548) (by decide +kernel) (by decide +kernel)
theorem kw_549 : Cond.code yX5_feed cX5_feed 5 (some .int) ∈ tbG := tb_at (i := 549) (by decide +kernel) (by decide +kernel)
theorem kw_550 : Cond.constantLong RX5 63 (255) ∈ tbG := tb_at (i := 550) (by decide +kernel) (by decide +kernel)
theorem kw_551 : Cond.methodLink RL 42 yX5_check ∈ tbG := tb_at (i := 551) (by decide +kernel) (by decide +kernel)
theorem kw_552 : Cond.instanceMethod yX5_check ∈ tbG := tb_at (i := 552) (by decide +kernel) (by decide +kernel)
theorem kw_553 : Cond.selects RX5 yX5_check yX5_check ∈ tbG := tb_at (i := 553) (by decide +kernel) (by decide +kernel)
theorem kw_554 : Cond.code yX5_check cX5_check 1 (some .int) ∈ tbG := tb_at (i := 554) (by decide +kernel) (by decide +kernel)
theorem kw_555 : Cond.methodLink RX5 125 yX5_takeTape ∈ tbG := tb_at (i := 555) (by decide +kernel) (by decide +kernel)
theorem kw_557 : Cond.instanceMethod yX5_takeTape ∈ tbG := tb_at (i := 557) (by decide +kernel) (by decide +kernel)
theorem kw_558 : Cond.code yX5_takeTape cX5_takeTape 2 none ∈ tbG := tb_at (i := 558) (by decide +kernel) (by decide +kernel)
theorem kw_559 : Cond.methodLink RX5 128 yX5_read ∈ tbG := tb_at (i := 559) (by decide +kernel) (by decide +kernel)
theorem kw_561 : Cond.instanceMethod yX5_read ∈ tbG := tb_at (i := 561) (by decide +kernel) (by decide +kernel)
theorem kw_562 : Cond.code yX5_read cX5_read 7 (some .int) ∈ tbG := tb_at (i := 562) (by decide +kernel) (by decide +kernel)
theorem kw_563 : Cond.constant RX5 71 (65536) ∈ tbG := tb_at (i := 563) (by decide +kernel) (by decide +kernel)
theorem kw_564 : Cond.constant RX5 72 (1114111) ∈ tbG := tb_at (i := 564) (by decide +kernel) (by decide +kernel)
theorem kw_565 : Cond.constant RX5 73 (55296) ∈ tbG := tb_at (i := 565) (by decide +kernel) (by decide +kernel)
theorem kw_566 : Cond.constant RX5 74 (57343) ∈ tbG := tb_at (i := 566) (by decide +kernel) (by decide +kernel)
theorem kw_567 : Cond.methodLink RL 46 yX5_fold ∈ tbG := tb_at (i := 567) (by decide +kernel) (by decide +kernel)
theorem kw_568 : Cond.instanceMethod yX5_fold ∈ tbG := tb_at (i := 568) (by decide +kernel) (by decide +kernel)
theorem kw_569 : Cond.selects RX5 yX5_fold yX5_fold ∈ tbG := tb_at (i := 569) (by decide +kernel) (by decide +kernel)
theorem kw_570 : Cond.code yX5_fold cX5_fold 2 (some .int) ∈ tbG := tb_at (i := 570) (by decide +kernel) (by decide +kernel)
theorem kw_571 : Cond.methodLink RX5 132 yX5_foldAll ∈ tbG := tb_at (i := 571) (by decide +kernel) (by decide +kernel)
theorem kw_573 : Cond.instanceMethod yX5_foldAll ∈ tbG := tb_at (i := 573) (by decide +kernel) (by decide +kernel)
theorem kw_574 : Cond.code yX5_foldAll cX5_foldAll 5 none ∈ tbG := tb_at (i := 574) (by decide +kernel) (by decide +kernel)
theorem kw_575 : Cond.methodLink RX5 111 yX5_letters ∈ tbG := tb_at (i := 575) (by decide +kernel) (by decide +kernel)
theorem kw_576 : Cond.static yX5_letters ∈ tbG := tb_at (i := 576) (by decide +kernel) (by decide +kernel)
theorem kw_577 : Cond.code yX5_letters cX5_letters 1 (some .long) ∈ tbG := tb_at (i := 577) (by decide +kernel) (by decide +kernel)
theorem kw_578 : Cond.constantLong RX5 75 (4854670671852159297) ∈ tbG := tb_at (i := 578) (by decide +kernel) (by decide +kernel)
theorem kw_579 : Cond.constantLong RX5 77 (5280832617112225093) ∈ tbG := tb_at (i := 579) (by decide +kernel) (by decide +kernel)
theorem kw_580 : Cond.constantLong RX5 79 (6867795158814903903) ∈ tbG := tb_at (i := 580) (by decide +kernel) (by decide +kernel)
theorem kw_581 : Cond.constantLong RX5 81 (6872309779429414239) ∈ tbG := tb_at (i := 581) (by decide +kernel) (by decide +kernel)
theorem kw_582 : Cond.constantLong RX5 83 (7160549003415871841) ∈ tbG := tb_at (i := 582) (by decide +kernel) (by decide +kernel)
theorem kw_583 : Cond.constantLong RX5 85 (7595718147930678629) ∈ tbG := tb_at (i := 583) (by decide +kernel) (by decide +kernel)
theorem kw_584 : Cond.constantLong RX5 87 (6876837680419663455) ∈ tbG := tb_at (i := 584) (by decide +kernel) (by decide +kernel)
theorem kw_585 : Cond.constantLong RX5 89 (8745842546765559135) ∈ tbG := tb_at (i := 585) (by decide +kernel) (by decide +kernel)
theorem kw_586 : Cond.methodLink RX5 115 yX5_putPoint ∈ tbG := tb_at (i := 586) (by decide +kernel) (by decide +kernel)
theorem kw_588 : Cond.instanceMethod yX5_putPoint ∈ tbG := tb_at (i := 588) (by decide +kernel) (by decide +kernel)
theorem kw_589 : Cond.code yX5_putPoint cX5_putPoint 5 none ∈ tbG := tb_at (i := 589) (by decide +kernel) (by decide +kernel)
theorem kw_590 : Cond.methodLink RX5 101 yX5_small ∈ tbG := tb_at (i := 590) (by decide +kernel) (by decide +kernel)
theorem kw_591 : Cond.static yX5_small ∈ tbG := tb_at (i := 591) (by decide +kernel) (by decide +kernel)
theorem kw_592 : Cond.code yX5_small cX5_small 1 (some .int) ∈ tbG := tb_at (i := 592) (by decide +kernel) (by decide +kernel)
theorem kw_593 : Cond.methodLink RX5 105 yX5_classOf ∈ tbG := tb_at (i := 593) (by decide +kernel) (by decide +kernel)
theorem kw_594 : Cond.static yX5_classOf ∈ tbG := tb_at (i := 594) (by decide +kernel) (by decide +kernel)
theorem kw_595 : Cond.code yX5_classOf cX5_classOf 1 (some .int) ∈ tbG := tb_at (i := 595) (by decide +kernel) (by decide +kernel)
theorem kw_596 : Cond.methodLink RX5 119 yX5_marks ∈ tbG := tb_at (i := 596) (by decide +kernel) (by decide +kernel)
theorem kw_597 : Cond.static yX5_marks ∈ tbG := tb_at (i := 597) (by decide +kernel) (by decide +kernel)
theorem kw_598 : Cond.code yX5_marks cX5_marks 1 (some .long) ∈ tbG := tb_at (i := 598) (by decide +kernel) (by decide +kernel)
theorem kw_599 : Cond.constantLong RX5 91 (3917908699149119792) ∈ tbG := tb_at (i := 599) (by decide +kernel) (by decide +kernel)
theorem kw_600 : Cond.constantLong RX5 93 (3761122721911681328) ∈ tbG := tb_at (i := 600) (by decide +kernel) (by decide +kernel)
theorem kw_601 : Cond.constantLong RX5 95 (6860164423058731871) ∈ tbG := tb_at (i := 601) (by decide +kernel) (by decide +kernel)
theorem kw_602 : Cond.constantLong RX5 97 (6872265656640811103) ∈ tbG := tb_at (i := 602) (by decide +kernel) (by decide +kernel)
theorem kw_603 : Cond.constantLong RX5 99 (3773789113009909855) ∈ tbG := tb_at (i := 603) (by decide +kernel) (by decide +kernel)
theorem kw_604 : Cond.methodLink RX5 122 yX5_markOf ∈ tbG := tb_at (i := 604) (by decide +kernel) (by decide +kernel)
theorem kw_605 : Cond.static yX5_markOf ∈ tbG := tb_at (i := 605) (by decide +kernel) (by decide +kernel)
theorem kw_606 : Cond.code yX5_markOf cX5_markOf 1 (some .int) ∈ tbG := tb_at (i := 606) (by decide +kernel) (by decide +kernel)
theorem kw_607 : Cond.methodLink RL 51 yX5_folded ∈ tbG := tb_at (i := 607) (by decide +kernel) (by decide +kernel)
theorem kw_608 : Cond.instanceMethod yX5_folded ∈ tbG := tb_at (i := 608) (by decide +kernel) (by decide +kernel)
theorem kw_609 : Cond.selects RX5 yX5_folded yX5_folded ∈ tbG := tb_at (i := 609) (by decide +kernel) (by decide +kernel)
theorem kw_610 : Cond.code yX5_folded cX5_folded 2 (some .int) ∈ tbG := tb_at (i := 610) (by decide +kernel) (by decide +kernel)
theorem kw_611 : Cond.methodLink RL 56 yX5_put ∈ tbG := tb_at (i := 611) (by decide +kernel) (by decide +kernel)
theorem kw_612 : Cond.instanceMethod yX5_put ∈ tbG := tb_at (i := 612) (by decide +kernel) (by decide +kernel)
theorem kw_613 : Cond.selects RX5 yX5_put yX5_put ∈ tbG := tb_at (i := 613) (by decide +kernel) (by decide +kernel)
theorem kw_614 : Cond.code yX5_put cX5_put 4 (some .int) ∈ tbG := tb_at (i := 614) (by decide +kernel) (by decide +kernel)
theorem kw_615 : Cond.methodLink RX5 142 yX5_noDirectory ∈ tbG := tb_at (i := 615) (by decide +kernel) (by decide +kernel)
theorem kw_617 : Cond.instanceMethod yX5_noDirectory ∈ tbG := tb_at (i := 617) (by decide +kernel) (by decide +kernel)
theorem kw_618 : Cond.code yX5_noDirectory cX5_noDirectory 2 (some .boolean) ∈ tbG := tb_at (i := 618) (by decide +kernel) (by decide +kernel)
theorem kw_619 : Cond.methodLink RX5 138 yX5_noNode ∈ tbG := tb_at (i := 619) (by decide +kernel) (by decide +kernel)
theorem kw_621 : Cond.instanceMethod yX5_noNode ∈ tbG := tb_at (i := 621) (by decide +kernel) (by decide +kernel)
theorem kw_622 : Cond.code yX5_noNode cX5_noNode 2 (some .boolean) ∈ tbG := tb_at (i := 622) (by decide +kernel) (by decide +kernel)
theorem kw_623 : Cond.methodLink RX5 145 yX5_isName ∈ tbG := tb_at (i := 623) (by decide +kernel) (by decide +kernel)
theorem kw_625 : Cond.instanceMethod yX5_isName ∈ tbG := tb_at (i := 625) (by decide +kernel) (by decide +kernel)
theorem kw_626 : Cond.code yX5_isName cX5_isName 3 (some .boolean) ∈ tbG := tb_at (i := 626) (by decide +kernel) (by decide +kernel)
theorem kw_627 : Cond.methodLink RX5 149 yX5_entryLike ∈ tbG := tb_at (i := 627) (by decide +kernel) (by decide +kernel)
theorem kw_629 : Cond.instanceMethod yX5_entryLike ∈ tbG := tb_at (i := 629) (by decide +kernel) (by decide +kernel)
theorem kw_630 : Cond.code yX5_entryLike cX5_entryLike 7 (some .int) ∈ tbG := tb_at (i := 630) (by decide +kernel) (by decide +kernel)
theorem kw_631 : Cond.methodLink RX5 153 yX5_freeNode ∈ tbG := tb_at (i := 631) (by decide +kernel) (by decide +kernel)
theorem kw_633 : Cond.instanceMethod yX5_freeNode ∈ tbG := tb_at (i := 633) (by decide +kernel) (by decide +kernel)
theorem kw_634 : Cond.code yX5_freeNode cX5_freeNode 2 (some .int) ∈ tbG := tb_at (i := 634) (by decide +kernel) (by decide +kernel)
theorem kw_635 : Cond.methodLink RX5 156 yX5_setName ∈ tbG := tb_at (i := 635) (by decide +kernel) (by decide +kernel)
theorem kw_637 : Cond.instanceMethod yX5_setName ∈ tbG := tb_at (i := 637) (by decide +kernel) (by decide +kernel)
theorem kw_638 : Cond.code yX5_setName cX5_setName 3 none ∈ tbG := tb_at (i := 638) (by decide +kernel) (by decide +kernel)
theorem kw_639 : Cond.methodLink RX5 159 yX5_append ∈ tbG := tb_at (i := 639) (by decide +kernel) (by decide +kernel)
theorem kw_641 : Cond.instanceMethod yX5_append ∈ tbG := tb_at (i := 641) (by decide +kernel) (by decide +kernel)
theorem kw_642 : Cond.code yX5_append cX5_append 3 none ∈ tbG := tb_at (i := 642) (by decide +kernel) (by decide +kernel)
theorem kw_643 : Cond.methodLink RL 60 yX5_find ∈ tbG := tb_at (i := 643) (by decide +kernel) (by decide +kernel)
theorem kw_644 : Cond.instanceMethod yX5_find ∈ tbG := tb_at (i := 644) (by decide +kernel) (by decide +kernel)
theorem kw_645 : Cond.selects RX5 yX5_find yX5_find ∈ tbG := tb_at (i := 645) (by decide +kernel) (by decide +kernel)
theorem kw_646 : Cond.code yX5_find cX5_find 2 (some .int) ∈ tbG := tb_at (i := 646) (by decide +kernel) (by decide +kernel)
theorem kw_647 : Cond.methodLink RL 64 yX5_walk ∈ tbG := tb_at (i := 647) (by decide +kernel) (by decide +kernel)
theorem kw_648 : Cond.instanceMethod yX5_walk ∈ tbG := tb_at (i := 648) (by decide +kernel) (by decide +kernel)
theorem kw_649 : Cond.selects RX5 yX5_walk yX5_walk ∈ tbG := tb_at (i := 649) (by decide +kernel) (by decide +kernel)
theorem kw_650 : Cond.code yX5_walk cX5_walk 7 (some .int) ∈ tbG := tb_at (i := 650) (by decide +kernel) (by decide +kernel)
theorem kw_651 : Cond.methodLink RL 68 yX5_move ∈ tbG := tb_at (i := 651) (by decide +kernel) (by decide +kernel)
theorem kw_652 : Cond.instanceMethod yX5_move ∈ tbG := tb_at (i := 652) (by decide +kernel) (by decide +kernel)
theorem kw_653 : Cond.selects RX5 yX5_move yX5_move ∈ tbG := tb_at (i := 653) (by decide +kernel) (by decide +kernel)
theorem kw_654 : Cond.code yX5_move cX5_move 4 (some .int) ∈ tbG := tb_at (i := 654) (by decide +kernel) (by decide +kernel)
theorem kw_655 : Cond.methodLink RX5 163 yX5_isWithin ∈ tbG := tb_at (i := 655) (by decide +kernel) (by decide +kernel)
theorem kw_657 : Cond.instanceMethod yX5_isWithin ∈ tbG := tb_at (i := 657) (by decide +kernel) (by decide +kernel)
theorem kw_658 : Cond.code yX5_isWithin cX5_isWithin 4 (some .boolean) ∈ tbG := tb_at (i := 658) (by decide +kernel) (by decide +kernel)
theorem kw_659 : Cond.methodLink RX5 167 yX5_detach ∈ tbG := tb_at (i := 659) (by decide +kernel) (by decide +kernel)
theorem kw_661 : Cond.instanceMethod yX5_detach ∈ tbG := tb_at (i := 661) (by decide +kernel) (by decide +kernel)
theorem kw_662 : Cond.code yX5_detach cX5_detach 5 none ∈ tbG := tb_at (i := 662) (by decide +kernel) (by decide +kernel)
theorem kw_663 : Cond.methodLink RL 72 yX5_remove ∈ tbG := tb_at (i := 663) (by decide +kernel) (by decide +kernel)
theorem kw_664 : Cond.instanceMethod yX5_remove ∈ tbG := tb_at (i := 664) (by decide +kernel) (by decide +kernel)
theorem kw_665 : Cond.selects RX5 yX5_remove yX5_remove ∈ tbG := tb_at (i := 665) (by decide +kernel) (by decide +kernel)
theorem kw_666 : Cond.code yX5_remove cX5_remove 2 (some .int) ∈ tbG := tb_at (i := 666) (by decide +kernel) (by decide +kernel)
theorem kw_667 : Cond.methodLink RL 76 yX5_about ∈ tbG := tb_at (i := 667) (by decide +kernel) (by decide +kernel)
theorem kw_668 : Cond.instanceMethod yX5_about ∈ tbG := tb_at (i := 668) (by decide +kernel) (by decide +kernel)
theorem kw_669 : Cond.selects RX5 yX5_about yX5_about ∈ tbG := tb_at (i := 669) (by decide +kernel) (by decide +kernel)
theorem kw_670 : Cond.code yX5_about cX5_about 5 (some .int) ∈ tbG := tb_at (i := 670) (by decide +kernel) (by decide +kernel)
theorem kw_671 : Cond.methodLink RL 80 yX5_entry ∈ tbG := tb_at (i := 671) (by decide +kernel) (by decide +kernel)
theorem kw_672 : Cond.instanceMethod yX5_entry ∈ tbG := tb_at (i := 672) (by decide +kernel) (by decide +kernel)
theorem kw_673 : Cond.selects RX5 yX5_entry yX5_entry ∈ tbG := tb_at (i := 673) (by decide +kernel) (by decide +kernel)
theorem kw_674 : Cond.code yX5_entry cX5_entry 3 (some .int) ∈ tbG := tb_at (i := 674) (by decide +kernel) (by decide +kernel)
theorem kw_675 : Cond.methodLink RL 84 yX5_sorted ∈ tbG := tb_at (i := 675) (by decide +kernel) (by decide +kernel)
theorem kw_676 : Cond.instanceMethod yX5_sorted ∈ tbG := tb_at (i := 676) (by decide +kernel) (by decide +kernel)
theorem kw_677 : Cond.selects RX5 yX5_sorted yX5_sorted ∈ tbG := tb_at (i := 677) (by decide +kernel) (by decide +kernel)
theorem kw_678 : Cond.code yX5_sorted cX5_sorted 7 (some .int) ∈ tbG := tb_at (i := 678) (by decide +kernel) (by decide +kernel)
theorem kw_679 : Cond.methodLink RX5 170 yX5_isBefore ∈ tbG := tb_at (i := 679) (by decide +kernel) (by decide +kernel)
theorem kw_681 : Cond.instanceMethod yX5_isBefore ∈ tbG := tb_at (i := 681) (by decide +kernel) (by decide +kernel)
theorem kw_682 : Cond.code yX5_isBefore cX5_isBefore 6 (some .boolean) ∈ tbG := tb_at (i := 682) (by decide +kernel) (by decide +kernel)
theorem kw_683 : Cond.methodLink RL 88 yX5_letter ∈ tbG := tb_at (i := 683) (by decide +kernel) (by decide +kernel)
theorem kw_684 : Cond.instanceMethod yX5_letter ∈ tbG := tb_at (i := 684) (by decide +kernel) (by decide +kernel)
theorem kw_685 : Cond.selects RX5 yX5_letter yX5_letter ∈ tbG := tb_at (i := 685) (by decide +kernel) (by decide +kernel)
theorem kw_686 : Cond.code yX5_letter cX5_letter 4 (some .int) ∈ tbG := tb_at (i := 686) (by decide +kernel) (by decide +kernel)
theorem kw_687 : Cond.methodLink RL 92 yX5_nodes ∈ tbG := tb_at (i := 687) (by decide +kernel) (by decide +kernel)
theorem kw_688 : Cond.instanceMethod yX5_nodes ∈ tbG := tb_at (i := 688) (by decide +kernel) (by decide +kernel)
theorem kw_689 : Cond.selects RX5 yX5_nodes yX5_nodes ∈ tbG := tb_at (i := 689) (by decide +kernel) (by decide +kernel)
theorem kw_690 : Cond.code yX5_nodes cX5_nodes 3 (some .int) ∈ tbG := tb_at (i := 690) (by decide +kernel) (by decide +kernel)
theorem kw_691 : Cond.constantLong RL 27 (4294967295) ∈ tbG := tb_at (i := 691) (by decide +kernel) (by decide +kernel)
theorem kw_692 : Cond.arrayClass .long ∈ tbG := tb_at (i := 692) (by decide +kernel) (by decide +kernel)
theorem kw_694 : Cond.fieldLink RJ0 9 "java/lang/String" "value" "[B" ∈ tbG := tb_at (i := 694) (by decide +kernel) (by decide +kernel)
theorem kw_695 : Cond.fieldLink RJ0 15 "java/lang/String" "coder" "B" ∈ tbG := tb_at (i := 695) (by decide +kernel) (by decide +kernel)
theorem inX1 : ∀ w ∈ wsX10, w ∈ tbG := by decide +kernel
theorem inX2 : ∀ w ∈ wsX20, w ∈ tbG := by decide +kernel
theorem inX4 : ∀ w ∈ wsX40, w ∈ tbG := by decide +kernel
theorem inX5 : ∀ w ∈ wsX50, w ∈ tbG := by decide +kernel
end
section
/-! ===== BEGIN words of one list among another's, by their places ===== -/
theorem goodIn_r {big : List Cond} (ws : List Cond) (ps : List Nat) (hp : ws = ps.filterMap (fun i => big[i]?)) (h : ws.all goodWord = true) : GoodIn big ws := by
  intro w hw
  have h1 := List.all_eq_true.mp h w hw
  rw [hp] at hw
  obtain ⟨i, -, hi⟩ := List.mem_filterMap.mp hw
  have hm : w ∈ big := by first | exact List.mem_of_getElem? hi | exact List.getElem?_mem hi
  exact ⟨hm, good_of_word h1⟩
theorem goodIn_app {big a b : List Cond} (ha : GoodIn big a) (hb : GoodIn big b) : GoodIn big (a ++ b) := fun w h => (List.mem_append.mp h).elim (ha w) (hb w)
theorem goodIn_ca {big a b : List Cond} {c : Cond} (ha : GoodIn big (c :: a)) (hb : GoodIn big b) : GoodIn big (c :: (a ++ b)) := fun w h => (List.mem_cons.mp h).elim (fun e => ha w (List.mem_cons.mpr (Or.inl e))) (fun h => (List.mem_append.mp h).elim (fun h => ha w (List.mem_cons.mpr (Or.inr h))) (hb w))
theorem goodIn_sub {big ws : List Cond} (hm : ∀ w ∈ ws, w ∈ big) (h : ws.all goodWord = true) : GoodIn big ws := fun w hw => ⟨hm w hw, good_of_word (List.all_eq_true.mp h w hw)⟩
/-! ===== END ===== -/

/-! ===== BEGIN exceptions that leave a method, and their catching by the caller (launches without stack traces) ===== -/
section VXA
/-! The laws vx_back, vx_callV, vx_callS, vx_callSW, vx_throw0, vx_throwS follow proofs of the library, with one case more: JvmDerived/Free/Laws.lean (Back.of_free), Shelf42/LK1.lean (callV, callS), Shelf/KitTraced.lean (throwNew0V, throwNewS). -/
/-- where a method has thrown q: the class by its name, the cell, what was written, the world -/
def vx_T (XC : String → State → State → Prop) (st : State) (q : Addr) (t : State) (mc ms : Nat) (free : Addr → Prop) : Prop :=
  ∃ (E : String) (ce : Cell) (L : List Loc), XC E st t ∧ t.heap[q]? = some ce ∧ ce.vm = .none ∧ st.vm.findClass E = some ce.cls ∧ st.WarmedH t.vm ∧ st.sameButNew ({ t with vm := st.vm } : State) L mc ms ∧ ∀ z ∈ L, free z.base
def vx_Q (Qc : Array Value → State → Outcome → State → Prop) (XC : String → State → State → Prop) (mc ms : Nat) (free : Addr → Prop) : Array Value → State → Outcome → State → Prop := fun a st o t =>
  (Qc a st o t ∧ ∃ L, FrameEnd st o t L mc ms ∧ ∀ q ∈ L, free q.base) ∨ ∃ q, o = .threw q ∧ vx_T XC st q t mc ms free
/-- a callee that returns or throws -/
def vx_Met (l : Launch) (y : MethodName) (ws : List Cond) (rm : Room) (Pc : Array Value → State → Prop) (Qc : Array Value → State → Outcome → State → Prop) (XC : String → State → State → Prop) (mc ms : Nat) (free : Addr → Prop) : Prop :=
  MetFree l y (headSpec ws rm) Pc (fun _ _ _ _ _ => True) (vx_Q Qc XC mc ms free)
def vx_Post (XC : String → State → State → Prop) (mc ms : Nat) (free : Addr → Prop) : Pt → Array Value → Addr → Pt → Prop := fun A a q B =>
  ∃ (g : JFrame) (mk : MethodId) (t : State) (L : List Loc) (E : String) (ce : Cell), B.U.heap = t.heap ∧ B.U.vm = t.vm ∧ XC E (A.U.calling g mk a) t ∧ t.heap[q]? = some ce ∧ ce.vm = .none ∧ A.U.vm.findClass E = some ce.cls ∧ B.locs = A.locs ++ L ∧ (∀ z ∈ L, free z.base) ∧ B.cells = A.cells + mc ∧ B.slots = A.slots + ms
def vx_Back (l : Launch) (R : Room) (p : Program) (e : Env) (below : List Frame) (s : State) (sargs : Array Value) (y : MethodName) (len W9 : Nat)
    (Pre : Pt → Array Value → Prop) (Post : Pt → Array Value → Option Value → Pt → Prop) (PostX : Pt → Array Value → Addr → Pt → Prop) : Prop :=
  ∀ (m : MethodId) (meth : Method) (c : Code) (A : Pt) (g : JFrame) (ig : Instr) (mk : MethodId) (a : Array Value),
    Stand p l e R s m sargs below meth c A.U A.locs A.cells A.slots → g.method = m → g.locals.size = c.maxLocals → decode c.code g.pc = .ok (ig, len) →
    2 * g.monitorRoom + (g.stack.map fun v => v.category).sum ≤ W9 → A.U.methodNamed? y = some mk → Pre A a →
    (∃ (v : Option Value) (B : Pt), Stand p l e R s m sargs below meth c B.U B.locs B.cells B.slots ∧ Post A a v B ∧
      Steps p.tables e below (doInvoke e (A.U.setTop g) [] mk a).1 (B.U.setTop { g with pc := g.pc + len, stack := v.toList ++ g.stack })) ∨
    (∃ (q : Addr) (B : Pt), Stand p l e R s m sargs below meth c B.U B.locs B.cells B.slots ∧ PostX A a q B ∧
      Steps p.tables e below (doInvoke e (A.U.setTop g) [] mk a).1 ((B.U.setTop g).pushFrame (.throwing q)))
section Payer
variable {l : Launch} {R : Room} {p : Program} {e : Env} {below : List Frame} {s : State} {sargs : Array Value} {y : MethodName} {len W9 : Nat}
theorem vx_back {ws : List Cond} {rm : Room} {Pc : Array Value → State → Prop} {Qc : Array Value → State → Outcome → State → Prop} {XC : String → State → State → Prop} {mc ms : Nat} {free : Addr → Prop} {bytes : ByteArray} {maxL : Nat} {ret : Option FieldType}
    (hM : vx_Met l y ws rm Pc Qc XC mc ms free) (hblind : FrameBlind Pc) (hrc : rm.cells = mc) (hrs : rm.slots = ms)
    (hframes : rm.frames + 1 ≤ R.frames) (hlocals : W9 + (maxL + 11) + rm.locals ≤ R.locals)
    (hws : ∀ w ∈ ws, ∀ a' U, s.WarmedH U.vm → w.before a' U = true) (hcode : Cond.code y bytes maxL ret ∈ ws) (hinit : ∀ a' U, s.WarmedH U.vm → (Cond.initialized y.cls).before a' U = true) :
    vx_Back l R p e below s sargs y len W9 (PreOf R mc ms Pc) (PostOf Qc mc ms free) (vx_Post XC mc ms free) := by
  intro m meth c A g ig mk a X hg hsize hdg hW hn hp
  have h1 : (headSpec ws rm).pre.before a A.U = true := atoms_intro fun w hw => hws w hw _ _ X.warmed
  have h2 : (Cond.code y bytes maxL ret).before a A.U = true := hws _ hcode _ _ X.warmed
  have h3 : (Cond.initialized y.cls).before a A.U = true := hinit _ _ X.warmed
  have h4 : A.cells + (headSpec ws rm).room.cells ≤ R.cells := by rw [show (headSpec ws rm).room.cells = mc from hrc]; exact hp.1
  have h5 : A.slots + (headSpec ws rm).room.slots ≤ R.slots := by rw [show (headSpec ws rm).room.slots = ms from hrs]; exact hp.2.1
  have hPc : Pc a (A.U.calling g mk a) := hblind _ _ _ _ hp.2.2
  obtain ⟨U, Ls, c0, s0⟩ := A
  dsimp only [Pt.U, Pt.locs, Pt.cells, Pt.slots] at h1 h2 h3 h4 h5 X hn hPc ⊢
  obtain ⟨methY, cY, hmY, hcY, -, hlY, -, -, -, -⟩ := Cond.code_spec hn h2
  obtain ⟨kY, hkY, -⟩ := className_of_methodNamed hn
  have hinitY : kY.init = .initialized := Cond.initialized_spec (findClass_of_methodNamed hn) hkY h3
  have h : At U g.method c below := by rw [hg]; exact X.here
  have hlocals9 : W9 + (maxL + 11) + (headSpec ws rm).room.locals ≤ R.locals := hlocals
  have happ : (headSpec ws rm).appliesLoose y e.platform (U.calling g mk a) = true :=
    Spec.appliesLoose_calling (g := g) h hdg hn hkY hinitY
      (X.room_calling (g := g) (R' := (headSpec ws rm).room) hsize hmY hcY hframes (by rw [hlY]; omega) h4 h5) h1
  obtain ⟨mid, hmid⟩ := h.above
  have hfr : (U.setTop g).frames = (.java g :: mid) ++ below := by rw [State.frames_setTop' g h.top, hmid]; rfl
  obtain ⟨o, s₂, hsteps, -, hend, hq⟩ := Steps.callFree hM p X.admits X.cas X.clock (acts := []) hfr happ hPc trivial
  have hq' : vx_Q Qc XC mc ms free a (U.calling g mk a) o s₂ := hq
  rw [State.frames_setTop' g h.top] at hend
  obtain ⟨g₀, hg0⟩ := Option.isSome_iff_exists.mp h.top
  obtain ⟨r, hr⟩ := State.topJava?_eq_some.mp hg0
  have hr' : (({ U with heap := s₂.heap, slotsUsed := s₂.slotsUsed } : State).setVm s₂.vm).frames = .java g₀ :: r := hr
  rcases hq' with ⟨hqc, L, hfe, hL⟩ | ⟨q, rfl, E, ce, L, hx, hce, hcv, hcl, hW₂, hsm, hL⟩
  · obtain ⟨⟨v, rfl⟩, hW₂, e2, q2, q3, q4, q5, q6⟩ := id hfe
    have e3 : s₂ = ({ (U.calling g mk a).setFrames s₂.frames with heap := s₂.heap, slotsUsed := s₂.slotsUsed } : State).setVm s₂.vm := by
      have : s₂ = ({ s₂ with vm := (U.calling g mk a).vm } : State).setVm s₂.vm := rfl
      rw [e2] at this
      exact this
    obtain ⟨c₂, i₂, len₂, hc₂, hd₂, hf₂⟩ := hend
    have hW' : U.WarmedH s₂.vm := hW₂
    have hcc : c₂ = c := by
      have h1 : s₂.code? g.method = U.code? g.method := by
        rw [State.code?_eq, State.code?_eq, hW'.alike.method?]
      exact Option.some.inj (hc₂.symm.trans (h1.trans h.code))
    subst hcc
    have hlen : len₂ = len := by rw [hdg] at hd₂; cases hd₂; rfl
    subst hlen
    have hs₂ : s₂ = (({ U with heap := s₂.heap, slotsUsed := s₂.slotsUsed } : State).setVm s₂.vm).setTop { g with pc := g.pc + len₂, stack := v.toList ++ g.stack } := by
      refine e3.trans ?_
      rw [hf₂, State.calling_eq h.top, State.setFrames_setFrames, State.setTop_of_frames _ hr', hr]
      rfl
    have hsame : U.sameButNew ({ U with heap := s₂.heap, slotsUsed := s₂.slotsUsed } : State) L mc ms := by
      refine ⟨?_, q2, q3, q4, q5, q6⟩
      obtain ⟨t, ht, -⟩ := State.frames_cons hr
      show ({ U with heap := s₂.heap, slotsUsed := s₂.slotsUsed } : State) = { U.setFrames U.frames with heap := s₂.heap, slotsUsed := s₂.slotsUsed }
      rw [State.setFrames_self ht]
    subst hg
    refine Or.inl ⟨v, ⟨(({ U with heap := s₂.heap, slotsUsed := s₂.slotsUsed } : State).setVm s₂.vm), Ls ++ L, c0 + mc, s0 + ms⟩,
      ⟨X.admits, X.cas, X.clock, X.frames, X.room, X.hears, X.method, X.code, (X.here.setHeapUsed s₂.heap s₂.slotsUsed).setVm hW'.alike, X.tail, State.WarmedH.trans X.warmed hW', X.limits, X.bytes, X.same.trans (hsame.setVm s.vm)⟩,
      ⟨g, mk, s₂, L, rfl, rfl, hqc, rfl, hL, rfl, rfl⟩, ?_⟩
    show Steps p.tables e below _ ((({ U with heap := s₂.heap, slotsUsed := s₂.slotsUsed } : State).setVm s₂.vm).setTop { g with pc := g.pc + len₂, stack := v.toList ++ g.stack })
    rw [← hs₂]
    exact hsteps
  · obtain ⟨e2, q2, q3, q4, q5, q6⟩ := id hsm
    have e3 : s₂ = ({ (U.calling g mk a).setFrames s₂.frames with heap := s₂.heap, slotsUsed := s₂.slotsUsed } : State).setVm s₂.vm := by
      have : s₂ = ({ s₂ with vm := (U.calling g mk a).vm } : State).setVm s₂.vm := rfl
      rw [e2] at this
      exact this
    have hf₂ : s₂.frames = .throwing q :: .java g :: U.frames.tail := hend
    have hW' : U.WarmedH s₂.vm := hW₂
    have hs₂ : s₂ = ((({ U with heap := s₂.heap, slotsUsed := s₂.slotsUsed } : State).setVm s₂.vm).setTop g).pushFrame (.throwing q) := by
      refine e3.trans ?_
      rw [hf₂, State.calling_eq h.top, State.setFrames_setFrames, State.pushFrame, State.frames_setTop _ hr', State.setTop_of_frames _ hr', State.setFrames_setFrames, hr]
      rfl
    have hsame : U.sameButNew ({ U with heap := s₂.heap, slotsUsed := s₂.slotsUsed } : State) L mc ms := by
      refine ⟨?_, q2, q3, q4, q5, q6⟩
      obtain ⟨t, ht, -⟩ := State.frames_cons hr
      show ({ U with heap := s₂.heap, slotsUsed := s₂.slotsUsed } : State) = { U.setFrames U.frames with heap := s₂.heap, slotsUsed := s₂.slotsUsed }
      rw [State.setFrames_self ht]
    subst hg
    refine Or.inr ⟨q, ⟨(({ U with heap := s₂.heap, slotsUsed := s₂.slotsUsed } : State).setVm s₂.vm), Ls ++ L, c0 + mc, s0 + ms⟩,
      ⟨X.admits, X.cas, X.clock, X.frames, X.room, X.hears, X.method, X.code, (X.here.setHeapUsed s₂.heap s₂.slotsUsed).setVm hW'.alike, X.tail, State.WarmedH.trans X.warmed hW', X.limits, X.bytes, X.same.trans (hsame.setVm s.vm)⟩,
      ⟨g, mk, s₂, L, E, ce, rfl, rfl, hx, hce, hcv, hcl, rfl, hL, rfl, rfl⟩, ?_⟩
    show Steps p.tables e below _ (((({ U with heap := s₂.heap, slotsUsed := s₂.slotsUsed } : State).setVm s₂.vm).setTop g).pushFrame (.throwing q))
    rw [← hs₂]
    exact hsteps
end Payer
section Calls
variable {p : Program} {l : Launch} {e : Env} {R : Room} {s : State} {m : MethodId} {args : Array Value} {below : List Frame} {meth : Method} {c : Code} {T : State} {locs : List Loc} {cells slots : Nat}
theorem vx_callV (X : Stand p l e R s m args below meth c T locs cells slots) (hexec : p.tables.exec = Jvm.exec) {own C : String} {index : Nat} {y : MethodName} {bytes : ByteArray} {maxL : Nat} {ret : Option FieldType}
    (hown : s.vm.findClass own = some m.cls) (hlink : (Cond.methodLink own index y).before args s = true) (hinst : (Cond.instanceMethod y).before args s = true) (hsel : (Cond.selects C y y).before args s = true)
    (hcode : (Cond.code y bytes maxL ret).before args s = true) (hy : y.cls ≠ "java/lang/invoke/MethodHandle" ∧ y.cls ≠ "java/lang/invoke/VarHandle")
    {W9 : Nat} {Pre : Pt → Array Value → Prop} {Post : Pt → Array Value → Option Value → Pt → Prop} {PostX : Pt → Array Value → Addr → Pt → Prop} (hK : vx_Back l R p e below s args y 3 W9 Pre Post PostX)
    {b : Addr} {cellB : Cell} (hcell : T.heap[b]? = some cellB) (hobj : cellB.vm.isStatics = false) (hcls : s.vm.findClass C = some cellB.cls)
    {g : JFrame} (hg : g.method = m) (hsize : g.locals.size = c.maxLocals) {argsL rest : List Value} (hlen : ∀ sig, parseMethodDescriptor y.desc = some sig → argsL.length = sig.parameters.length)
    (hstack : g.stack = argsL.reverse ++ .ref b :: rest) (hW : 2 * g.monitorRoom + (rest.map fun v => v.category).sum ≤ W9) (hdg : decode c.code g.pc = .ok (.invokevirtual index, 3))
    (hpre : ∀ vm₁, s.WarmedH vm₁ → Pre ⟨T.setVm vm₁, locs, cells, slots⟩ (Value.ref b :: argsL).toArray) :
    (∃ (v : Option Value) (vm₁ : Vm) (B : Pt), s.WarmedH vm₁ ∧ Stand p l e R s m args below meth c B.U B.locs B.cells B.slots ∧ Post ⟨T.setVm vm₁, locs, cells, slots⟩ (Value.ref b :: argsL).toArray v B ∧
      ∀ target, Steps p.tables e below (B.U.setTop { g with pc := g.pc + 3, stack := v.toList ++ rest }) target → Steps p.tables e below (T.setTop g) target) ∨
    (∃ (q : Addr) (vm₁ : Vm) (B : Pt), s.WarmedH vm₁ ∧ Stand p l e R s m args below meth c B.U B.locs B.cells B.slots ∧ PostX ⟨T.setVm vm₁, locs, cells, slots⟩ (Value.ref b :: argsL).toArray q B ∧
      Steps p.tables e below (T.setTop g) ((B.U.setTop { g with stack := rest }).pushFrame (.throwing q))) := by
  obtain ⟨mk, methM, hnamed, hmethM, hstM, habM⟩ := Cond.instanceMethod_spec hinst
  obtain ⟨methM', cM, hmethM', -, -, -, -, -, -, hsigM⟩ := Cond.code_spec hnamed hcode
  cases hmethM.symm.trans hmethM'
  obtain ⟨c2, r2, m2, q1, q2, q3, q4, kP, hkP, hkPi⟩ := Cond.selects_spec hsel
  cases hcls.symm.trans q1
  cases (State.methodFound?_of_named hnamed hy).symm.trans q2
  cases hnamed.symm.trans q3
  have hselP : selectMethod e.platform s.vm cellB.cls mk = .method mk := by rw [Launch.admits_selectMethod X.admits]; exact q4
  obtain ⟨vm₁, X₁, hstep₁⟩ := X.invokevirtual hexec hown hlink hnamed hmethM hstM hkP hkPi hy (a := b) (cell := cellB) hcell
    (fun z h => by rw [h] at hobj; cases hobj) hselP hmethM habM hkP hkPi (g := g) hg (argsL := argsL) (rest := rest) (hlen _ hsigM) hstack hdg
  rcases hK m meth c ⟨T.setVm vm₁, locs, cells, slots⟩ { g with stack := rest } (.invokevirtual index) mk (Value.ref b :: argsL).toArray X₁ hg hsize hdg hW (X₁.named hnamed) (hpre vm₁ X₁.warmed) with ⟨v, B, X', hpost, hsteps⟩ | ⟨q, B, X', hpost, hsteps⟩
  · exact Or.inl ⟨v, vm₁, B, X₁.warmed, X', hpost, fun target h => hstep₁ _ fun acts => by rw [doInvoke_state]; exact hsteps.trans h⟩
  · exact Or.inr ⟨q, vm₁, B, X₁.warmed, X', hpost, hstep₁ _ fun acts => by rw [doInvoke_state]; exact hsteps⟩
theorem vx_callS (X : Stand p l e R s m args below meth c T locs cells slots) (hexec : p.tables.exec = Jvm.exec) {own : String} {index : Nat} {y : MethodName} {bytes : ByteArray} {maxL : Nat} {ret : Option FieldType}
    (hown : s.vm.findClass own = some m.cls) (hlink : (Cond.methodLink own index y).before args s = true) (hstat : (Cond.static y).before args s = true) (hinit : (Cond.initialized y.cls).before args s = true)
    (hcode : (Cond.code y bytes maxL ret).before args s = true) (hy : y.cls ≠ "java/lang/invoke/MethodHandle" ∧ y.cls ≠ "java/lang/invoke/VarHandle")
    {W9 : Nat} {Pre : Pt → Array Value → Prop} {Post : Pt → Array Value → Option Value → Pt → Prop} {PostX : Pt → Array Value → Addr → Pt → Prop} (hK : vx_Back l R p e below s args y 3 W9 Pre Post PostX)
    {g : JFrame} (hg : g.method = m) (hsize : g.locals.size = c.maxLocals) {argsL rest : List Value} (hlen : ∀ sig, parseMethodDescriptor y.desc = some sig → argsL.length = sig.parameters.length)
    (hstack : g.stack = argsL.reverse ++ rest) (hW : 2 * g.monitorRoom + (rest.map fun v => v.category).sum ≤ W9) (hdg : decode c.code g.pc = .ok (.invokestatic index, 3))
    (hpre : ∀ vm₁, s.WarmedH vm₁ → Pre ⟨T.setVm vm₁, locs, cells, slots⟩ argsL.toArray) :
    (∃ (v : Option Value) (vm₁ : Vm) (B : Pt), s.WarmedH vm₁ ∧ Stand p l e R s m args below meth c B.U B.locs B.cells B.slots ∧ Post ⟨T.setVm vm₁, locs, cells, slots⟩ argsL.toArray v B ∧
      ∀ target, Steps p.tables e below (B.U.setTop { g with pc := g.pc + 3, stack := v.toList ++ rest }) target → Steps p.tables e below (T.setTop g) target) ∨
    (∃ (q : Addr) (vm₁ : Vm) (B : Pt), s.WarmedH vm₁ ∧ Stand p l e R s m args below meth c B.U B.locs B.cells B.slots ∧ PostX ⟨T.setVm vm₁, locs, cells, slots⟩ argsL.toArray q B ∧
      Steps p.tables e below (T.setTop g) ((B.U.setTop { g with stack := rest }).pushFrame (.throwing q))) := by
  obtain ⟨mk, hnamed⟩ := Cond.code_named hcode
  obtain ⟨methM, cM, hmethM, -, -, -, -, -, -, hsigM⟩ := Cond.code_spec hnamed hcode
  have hstatic : methM.isStatic = true := Cond.static_spec hnamed hmethM hstat
  obtain ⟨kP, hkP, -⟩ := className_of_methodNamed hnamed
  have hinitP : kP.init = .initialized := Cond.initialized_spec (findClass_of_methodNamed hnamed) hkP hinit
  obtain ⟨vm₁, X₁, hstep₁⟩ := X.invokestatic hexec hown hlink hnamed hmethM hstatic hkP hinitP hy (g := g) hg (argsL := argsL) (rest := rest) (hlen _ hsigM) hstack hdg
  rcases hK m meth c ⟨T.setVm vm₁, locs, cells, slots⟩ { g with stack := rest } (.invokestatic index) mk argsL.toArray X₁ hg hsize hdg hW (X₁.named hnamed) (hpre vm₁ X₁.warmed) with ⟨v, B, X', hpost, hsteps⟩ | ⟨q, B, X', hpost, hsteps⟩
  · exact Or.inl ⟨v, vm₁, B, X₁.warmed, X', hpost, fun target h => hstep₁ _ fun acts => by rw [doInvoke_state]; exact hsteps.trans h⟩
  · exact Or.inr ⟨q, vm₁, B, X₁.warmed, X', hpost, hstep₁ _ fun acts => by rw [doInvoke_state]; exact hsteps⟩
end Calls
theorem vx_cls {s : State} {T : State} {vm₁ : Vm} {E : String} {k : ClassId} (hW : s.WarmedH vm₁) (h : (T.setVm vm₁).vm.findClass E = some k) : s.vm.findClass E = some k := by
  have h1 : vm₁.findClass E = some k := h
  rw [hW.alike.findClass] at h1
  exact h1
/-- the method's frame g, with q thrown over it -/
def vx_W (p : Program) (l : Launch) (e : Env) (R : Room) (s : State) (m : MethodId) (args : Array Value) (below : List Frame) (meth : Method) (c : Code) (H : Heap) (locs : List Loc) (cells slots : Nat) (Q : State → Prop) (g : JFrame) (q : Addr) : Prop :=
  ∀ T : State, T.heap = H → Stand p l e R s m args below meth c T locs cells slots → ∃ t, Steps p.tables e below ((T.setTop g).pushFrame (.throwing q)) t ∧ Q t
def vx_Run (p : Program) (l : Launch) (e : Env) (R : Room) (s : State) (m : MethodId) (args : Array Value) (below : List Frame) (meth : Method) (c : Code) (H : Heap) (locs : List Loc) (cells slots mc ms : Nat) (g : JFrame) (rest : List Value) (Qa : State → Outcome → State → Prop) (XC : String → State → State → Prop) (free : Addr → Prop) : Prop :=
  ∀ T : State, T.heap = H → Stand p l e R s m args below meth c T locs cells slots →
    (∃ (v : Option Value) (st₀ t T' : State) (L : List Loc), st₀.heap = H ∧ Stand p l e R s m args below meth c T' (locs ++ L) (cells + mc) (slots + ms) ∧ (∀ q ∈ L, free q.base) ∧ T'.heap = t.heap ∧ T'.vm = t.vm ∧ Qa st₀ (.returned v) t ∧
      Goes p e below T g T' { g with pc := g.pc + 3, stack := v.toList ++ rest }) ∨
    (∃ (q : Addr) (st₀ t T' : State) (L : List Loc) (E : String) (ce : Cell), st₀.heap = H ∧ Stand p l e R s m args below meth c T' (locs ++ L) (cells + mc) (slots + ms) ∧ (∀ z ∈ L, free z.base) ∧ T'.heap = t.heap ∧ T'.vm = t.vm ∧ XC E st₀ t ∧ t.heap[q]? = some ce ∧ ce.vm = .none ∧ s.vm.findClass E = some ce.cls ∧
      Steps p.tables e below (T.setTop g) ((T'.setTop { g with stack := rest }).pushFrame (.throwing q)))
def vx_X {S : Type} (px : S → Prop) (B : String → S → State → Prop) (A : Nat → Prop) : String → State → State → Prop := fun E st t => ∃ u : S, px u ∧ B E u t ∧ va_F A st t
section Runs
variable {p : Program} {l : Launch} {e : Env} {R : Room} {s : State} {m : MethodId} {args : Array Value} {below : List Frame} {meth : Method} {c : Code} {H : Heap} {locs : List Loc} {cells slots : Nat}
variable {y : MethodName} {bytes cc : ByteArray} {maxL nL mc ms n index : Nat} {ret : Option FieldType} {ws : List Cond} {rm : Room} {Pc : Array Value → State → Prop} {Qc : Array Value → State → Outcome → State → Prop} {XC : String → State → State → Prop} {free : Addr → Prop} {Ts : List Cond} {own C : String} {b : Addr} {As rest : List Value} {g : JFrame}
theorem vx_callBack (cb : CallB R s args own index y bytes maxL ret ws rm mc ms n) (hM : vx_Met l y ws rm Pc Qc XC mc ms free) (hbl : FrameBlind Pc) : vx_Back l R p e below s args y 3 8 (PreOf R mc ms Pc) (PostOf Qc mc ms free) (vx_Post XC mc ms free) := by
  obtain ⟨hrc, hrs, hfr, hlo, hws, hcw, -, hini, -⟩ := cb
  exact vx_back (bytes := bytes) (maxL := maxL) (ret := ret) hM hbl hrc hrs hfr hlo hws hcw (fun a' U hW => word_at hW (Or.inl (by first | rfl | simp [Cond.onTables, Cond.keeps, Cond.steady])) hini)
theorem vx_runV (S : CallFix p m c cc nL s args Ts own) (hM : vx_Met l y ws rm Pc Qc XC mc ms free) (cw : CallW R s args own C index y bytes maxL ret ws rm mc ms n) (hp : PreV s H C b Pc As)
    (hg : g.method = m) (hn : As.length = n) (hsize : g.locals.size = nL) (hstack : g.stack = As.reverse ++ .ref b :: rest) (hW : 2 * g.monitorRoom + (rest.map fun v => v.category).sum ≤ 8) (hdg : decode cc g.pc = .ok (.invokevirtual index, 3)) (hf : cells + mc ≤ R.cells ∧ slots + ms ≤ R.slots) :
    vx_Run p l e R s m args below meth c H locs cells slots mc ms g rest (Qc (Value.ref b :: As).toArray) XC free := by
  have hK : vx_Back l R p e below s args y 3 8 (PreOf R mc ms Pc) (PostOf Qc mc ms free) (vx_Post XC mc ms free) := vx_callBack cw.1 hM hp.1
  obtain ⟨⟨-, -, -, -, -, -, hcode, -, hy, hlen, hl⟩, hin, hse⟩ := cw
  obtain ⟨hx, hb, hml, ho, -⟩ := S
  obtain ⟨-, ⟨cellB, hcB, hoB, hclB⟩, hPc⟩ := hp
  intro T hT X
  rcases vx_callV X hx (C := C) (bytes := bytes) (maxL := maxL) (ret := ret) ho hl hin hse hcode hy hK (by rw [hT]; exact hcB) hoB hclB hg (hsize.trans hml.symm) (argsL := As) (rest := rest) (fun sig h => hn.trans (hlen sig h)) hstack hW (by rw [hb]; exact hdg)
    (fun vm₁ hW₁ => ⟨hf.1, hf.2, hPc (T.setVm vm₁) hT hW₁⟩) with ⟨v, vm₁, ⟨U', l2, c2, s2⟩, hW₁, X', ⟨g', mk, t, L, e1, e2, hq, h1, hL, h2, h3⟩, st⟩ | ⟨q, vm₁, ⟨U', l2, c2, s2⟩, hW₁, X', ⟨g', mk, t, L, E, ce, e1, e2, hq, hce, hcv, hcl, h1, hL, h2, h3⟩, st⟩
  · dsimp only [Pt.U, Pt.locs, Pt.cells, Pt.slots] at X' e1 e2 h1 h2 h3 st
    subst h1; subst h2; subst h3
    exact Or.inl ⟨v, (T.setVm vm₁).calling g' mk (Value.ref b :: As).toArray, t, U', L, hT, X', hL, e1, e2, hq, st⟩
  · dsimp only [Pt.U, Pt.locs, Pt.cells, Pt.slots] at X' e1 e2 h1 h2 h3 st hcl
    subst h1; subst h2; subst h3
    exact Or.inr ⟨q, (T.setVm vm₁).calling g' mk (Value.ref b :: As).toArray, t, U', L, E, ce, hT, X', hL, e1, e2, hq, hce, hcv, vx_cls hW₁ hcl, st⟩
theorem vx_runS (S : CallFix p m c cc nL s args Ts own) (hM : vx_Met l y ws rm Pc Qc XC mc ms free) (cw : CallB R s args own index y bytes maxL ret ws rm mc ms n ∧ (Cond.static y).before args s = true) (hp : PreS s H Pc As)
    (hg : g.method = m) (hn : As.length = n) (hsize : g.locals.size = nL) (hstack : g.stack = As.reverse ++ rest) (hW : 2 * g.monitorRoom + (rest.map fun v => v.category).sum ≤ 8) (hdg : decode cc g.pc = .ok (.invokestatic index, 3)) (hf : cells + mc ≤ R.cells ∧ slots + ms ≤ R.slots) :
    vx_Run p l e R s m args below meth c H locs cells slots mc ms g rest (Qc As.toArray) XC free := by
  have hK : vx_Back l R p e below s args y 3 8 (PreOf R mc ms Pc) (PostOf Qc mc ms free) (vx_Post XC mc ms free) := vx_callBack cw.1 hM hp.1
  obtain ⟨⟨-, -, -, -, -, -, hcode, hini, hy, hlen, hl⟩, hstt⟩ := cw
  obtain ⟨hx, hb, hml, ho, -⟩ := S
  intro T hT X
  rcases vx_callS X hx (bytes := bytes) (maxL := maxL) (ret := ret) ho hl hstt hini hcode hy hK hg (hsize.trans hml.symm) (argsL := As) (rest := rest) (fun sig h => hn.trans (hlen sig h)) hstack hW (by rw [hb]; exact hdg)
    (fun vm₁ hW₁ => ⟨hf.1, hf.2, hp.2 (T.setVm vm₁) hT hW₁⟩) with ⟨v, vm₁, ⟨U', l2, c2, s2⟩, hW₁, X', ⟨g', mk, t, L, e1, e2, hq, h1, hL, h2, h3⟩, st⟩ | ⟨q, vm₁, ⟨U', l2, c2, s2⟩, hW₁, X', ⟨g', mk, t, L, E, ce, e1, e2, hq, hce, hcv, hcl, h1, hL, h2, h3⟩, st⟩
  · dsimp only [Pt.U, Pt.locs, Pt.cells, Pt.slots] at X' e1 e2 h1 h2 h3 st
    subst h1; subst h2; subst h3
    exact Or.inl ⟨v, (T.setVm vm₁).calling g' mk As.toArray, t, U', L, hT, X', hL, e1, e2, hq, st⟩
  · dsimp only [Pt.U, Pt.locs, Pt.cells, Pt.slots] at X' e1 e2 h1 h2 h3 st hcl
    subst h1; subst h2; subst h3
    exact Or.inr ⟨q, (T.setVm vm₁).calling g' mk As.toArray, t, U', L, E, ce, hT, X', hL, e1, e2, hq, hce, hcv, vx_cls hW₁ hcl, st⟩
end Runs
section Rows
variable {p : Program} {l : Launch} {e : Env} {R : Room} {s : State} {m : MethodId} {args : Array Value} {below : List Frame} {meth : Method} {c : Code} {H : Heap} {locs : List Loc} {cells slots : Nat} {Q : State → Prop}
variable {mc ms : Nat} {free : Addr → Prop} {A0 A1 : Nat → Prop} {H0 : Heap} {a : Array Value} {pc : Nat} {ls : Array Slot} {st0 rest : List Value}
theorem vx_keep {st₀ t T' : State} {L : List Loc} (h0 : st₀.heap = H) (e1 : T'.heap = t.heap) (hS : va_S A0 H0 H locs) (hA : ∀ q, q < H.size → A1 q → A0 q) (hf : ∀ q, free q → A0 q) (hL : ∀ q ∈ L, free q.base) (hF : va_F A1 st₀ t) :
    H.size ≤ T'.heap.size ∧ (∀ q : Nat, q < H.size → ¬ A1 q → T'.heap[q]? = H[q]?) ∧ va_S A0 H0 T'.heap (locs ++ L) := by
  obtain ⟨hz, hk⟩ := hF
  rw [h0] at hz hk
  exact ⟨by rw [e1]; exact hz, fun q h1 h2 => by rw [e1]; exact hk q h1 h2,
    ⟨Nat.le_trans hS.1 (by rw [e1]; exact hz), fun q h1 h2 => by rw [e1, hk q (Nat.lt_of_lt_of_le h1 hS.1) (fun z => h2 (hA q (Nat.lt_of_lt_of_le h1 hS.1) z))]; exact hS.2.1 q h1 h2, fun q hq => by
      rcases List.mem_append.mp hq with h | h
      · exact hS.2.2 q h
      · exact hf _ (hL q h)⟩⟩
theorem vx_calli {S SX : Type} {post : Int32 → S → Prop} {px : SX → Prop} {B : S → State → Prop} {BX : String → SX → State → Prop} {AX : Nat → Prop} (hr : vx_Run p l e R s m args below meth c H locs cells slots mc ms (F0 m pc ls st0) rest (va_Qi post B A1 a) (vx_X px BX AX) free) (hS : va_S A0 H0 H locs) (hA : ∀ q, q < H.size → A1 q → A0 q) (hf : ∀ q, free q → A0 q) (hAX : ∀ q, q < H.size → AX q → A0 q)
    (kx : ∀ (E : String) (ce : Cell) (q9 : Addr) (u : SX) (t : State) (H1 : Heap) (locs1 : List Loc), t.heap = H1 → s.vm.Alike t.vm → px u → BX E u t → H.size ≤ H1.size → (∀ q : Nat, q < H.size → ¬ AX q → H1[q]? = H[q]?) → va_S A0 H0 H1 locs1 → H1[q9]? = some ce → ce.vm = .none → s.vm.findClass E = some ce.cls → vx_W p l e R s m args below meth c H1 locs1 (cells + mc) (slots + ms) Q (F0 m pc ls rest) q9)
    (kk : ∀ (r : Int32) (u : S) (t : State) (H1 : Heap) (locs1 : List Loc), t.heap = H1 → s.vm.Alike t.vm → post r u → B u t → H.size ≤ H1.size → (∀ q : Nat, q < H.size → ¬ A1 q → H1[q]? = H[q]?) → va_S A0 H0 H1 locs1 → W p l e R s m args below meth c H1 locs1 (cells + mc) (slots + ms) Q (F0 m (pc + 3) ls (.int r :: rest))) : W p l e R s m args below meth c H locs cells slots Q (F0 m pc ls st0) := by
  intro T hT X
  rcases hr T hT X with ⟨v, st₀, t, T', L, h0, X', hL, e1, e2, ⟨⟨r, u, hv, hp, hb⟩, hF⟩, st⟩ | ⟨q, st₀, t, T', L, E, ce, h0, X', hL, e1, e2, ⟨u, hp, hb, hF⟩, hce, hcv, hcl, st⟩
  · cases hv
    obtain ⟨k1, k2, k3⟩ := vx_keep h0 e1 hS hA hf hL hF
    obtain ⟨t2, a1, b1⟩ := kk r u t T'.heap (locs ++ L) e1.symm (by rw [← e2]; exact X'.warmed.alike) hp hb k1 k2 k3 T' rfl X'
    exact ⟨t2, st t2 a1, b1⟩
  · obtain ⟨k1, k2, k3⟩ := vx_keep h0 e1 hS hAX hf hL hF
    obtain ⟨t2, a1, b1⟩ := kx E ce q u t T'.heap (locs ++ L) e1.symm (by rw [← e2]; exact X'.warmed.alike) hp hb k1 k2 k3 (by rw [e1]; exact hce) hcv hcl T' rfl X'
    exact ⟨t2, st.trans a1, b1⟩
theorem vx_calll {S SX : Type} {post : Int64 → S → Prop} {px : SX → Prop} {B : S → State → Prop} {BX : String → SX → State → Prop} {AX : Nat → Prop} (hr : vx_Run p l e R s m args below meth c H locs cells slots mc ms (F0 m pc ls st0) rest (va_Ql post B A1 a) (vx_X px BX AX) free) (hS : va_S A0 H0 H locs) (hA : ∀ q, q < H.size → A1 q → A0 q) (hf : ∀ q, free q → A0 q) (hAX : ∀ q, q < H.size → AX q → A0 q)
    (kx : ∀ (E : String) (ce : Cell) (q9 : Addr) (u : SX) (t : State) (H1 : Heap) (locs1 : List Loc), t.heap = H1 → s.vm.Alike t.vm → px u → BX E u t → H.size ≤ H1.size → (∀ q : Nat, q < H.size → ¬ AX q → H1[q]? = H[q]?) → va_S A0 H0 H1 locs1 → H1[q9]? = some ce → ce.vm = .none → s.vm.findClass E = some ce.cls → vx_W p l e R s m args below meth c H1 locs1 (cells + mc) (slots + ms) Q (F0 m pc ls rest) q9)
    (kk : ∀ (r : Int64) (u : S) (t : State) (H1 : Heap) (locs1 : List Loc), t.heap = H1 → s.vm.Alike t.vm → post r u → B u t → H.size ≤ H1.size → (∀ q : Nat, q < H.size → ¬ A1 q → H1[q]? = H[q]?) → va_S A0 H0 H1 locs1 → W p l e R s m args below meth c H1 locs1 (cells + mc) (slots + ms) Q (F0 m (pc + 3) ls (.long r :: rest))) : W p l e R s m args below meth c H locs cells slots Q (F0 m pc ls st0) := by
  intro T hT X
  rcases hr T hT X with ⟨v, st₀, t, T', L, h0, X', hL, e1, e2, ⟨⟨r, u, hv, hp, hb⟩, hF⟩, st⟩ | ⟨q, st₀, t, T', L, E, ce, h0, X', hL, e1, e2, ⟨u, hp, hb, hF⟩, hce, hcv, hcl, st⟩
  · cases hv
    obtain ⟨k1, k2, k3⟩ := vx_keep h0 e1 hS hA hf hL hF
    obtain ⟨t2, a1, b1⟩ := kk r u t T'.heap (locs ++ L) e1.symm (by rw [← e2]; exact X'.warmed.alike) hp hb k1 k2 k3 T' rfl X'
    exact ⟨t2, st t2 a1, b1⟩
  · obtain ⟨k1, k2, k3⟩ := vx_keep h0 e1 hS hAX hf hL hF
    obtain ⟨t2, a1, b1⟩ := kx E ce q u t T'.heap (locs ++ L) e1.symm (by rw [← e2]; exact X'.warmed.alike) hp hb k1 k2 k3 (by rw [e1]; exact hce) hcv hcl T' rfl X'
    exact ⟨t2, st.trans a1, b1⟩
theorem vx_callf {S SX : Type} {post : UInt32 → S → Prop} {px : SX → Prop} {B : S → State → Prop} {BX : String → SX → State → Prop} {AX : Nat → Prop} (hr : vx_Run p l e R s m args below meth c H locs cells slots mc ms (F0 m pc ls st0) rest (va_Qf post B A1 a) (vx_X px BX AX) free) (hS : va_S A0 H0 H locs) (hA : ∀ q, q < H.size → A1 q → A0 q) (hf : ∀ q, free q → A0 q) (hAX : ∀ q, q < H.size → AX q → A0 q)
    (kx : ∀ (E : String) (ce : Cell) (q9 : Addr) (u : SX) (t : State) (H1 : Heap) (locs1 : List Loc), t.heap = H1 → s.vm.Alike t.vm → px u → BX E u t → H.size ≤ H1.size → (∀ q : Nat, q < H.size → ¬ AX q → H1[q]? = H[q]?) → va_S A0 H0 H1 locs1 → H1[q9]? = some ce → ce.vm = .none → s.vm.findClass E = some ce.cls → vx_W p l e R s m args below meth c H1 locs1 (cells + mc) (slots + ms) Q (F0 m pc ls rest) q9)
    (kk : ∀ (r : UInt32) (u : S) (t : State) (H1 : Heap) (locs1 : List Loc), t.heap = H1 → s.vm.Alike t.vm → post r u → B u t → H.size ≤ H1.size → (∀ q : Nat, q < H.size → ¬ A1 q → H1[q]? = H[q]?) → va_S A0 H0 H1 locs1 → W p l e R s m args below meth c H1 locs1 (cells + mc) (slots + ms) Q (F0 m (pc + 3) ls (.float r :: rest))) : W p l e R s m args below meth c H locs cells slots Q (F0 m pc ls st0) := by
  intro T hT X
  rcases hr T hT X with ⟨v, st₀, t, T', L, h0, X', hL, e1, e2, ⟨⟨r, u, hv, hp, hb⟩, hF⟩, st⟩ | ⟨q, st₀, t, T', L, E, ce, h0, X', hL, e1, e2, ⟨u, hp, hb, hF⟩, hce, hcv, hcl, st⟩
  · cases hv
    obtain ⟨k1, k2, k3⟩ := vx_keep h0 e1 hS hA hf hL hF
    obtain ⟨t2, a1, b1⟩ := kk r u t T'.heap (locs ++ L) e1.symm (by rw [← e2]; exact X'.warmed.alike) hp hb k1 k2 k3 T' rfl X'
    exact ⟨t2, st t2 a1, b1⟩
  · obtain ⟨k1, k2, k3⟩ := vx_keep h0 e1 hS hAX hf hL hF
    obtain ⟨t2, a1, b1⟩ := kx E ce q u t T'.heap (locs ++ L) e1.symm (by rw [← e2]; exact X'.warmed.alike) hp hb k1 k2 k3 (by rw [e1]; exact hce) hcv hcl T' rfl X'
    exact ⟨t2, st.trans a1, b1⟩
theorem vx_calld {S SX : Type} {post : UInt64 → S → Prop} {px : SX → Prop} {B : S → State → Prop} {BX : String → SX → State → Prop} {AX : Nat → Prop} (hr : vx_Run p l e R s m args below meth c H locs cells slots mc ms (F0 m pc ls st0) rest (va_Qd post B A1 a) (vx_X px BX AX) free) (hS : va_S A0 H0 H locs) (hA : ∀ q, q < H.size → A1 q → A0 q) (hf : ∀ q, free q → A0 q) (hAX : ∀ q, q < H.size → AX q → A0 q)
    (kx : ∀ (E : String) (ce : Cell) (q9 : Addr) (u : SX) (t : State) (H1 : Heap) (locs1 : List Loc), t.heap = H1 → s.vm.Alike t.vm → px u → BX E u t → H.size ≤ H1.size → (∀ q : Nat, q < H.size → ¬ AX q → H1[q]? = H[q]?) → va_S A0 H0 H1 locs1 → H1[q9]? = some ce → ce.vm = .none → s.vm.findClass E = some ce.cls → vx_W p l e R s m args below meth c H1 locs1 (cells + mc) (slots + ms) Q (F0 m pc ls rest) q9)
    (kk : ∀ (r : UInt64) (u : S) (t : State) (H1 : Heap) (locs1 : List Loc), t.heap = H1 → s.vm.Alike t.vm → post r u → B u t → H.size ≤ H1.size → (∀ q : Nat, q < H.size → ¬ A1 q → H1[q]? = H[q]?) → va_S A0 H0 H1 locs1 → W p l e R s m args below meth c H1 locs1 (cells + mc) (slots + ms) Q (F0 m (pc + 3) ls (.double r :: rest))) : W p l e R s m args below meth c H locs cells slots Q (F0 m pc ls st0) := by
  intro T hT X
  rcases hr T hT X with ⟨v, st₀, t, T', L, h0, X', hL, e1, e2, ⟨⟨r, u, hv, hp, hb⟩, hF⟩, st⟩ | ⟨q, st₀, t, T', L, E, ce, h0, X', hL, e1, e2, ⟨u, hp, hb, hF⟩, hce, hcv, hcl, st⟩
  · cases hv
    obtain ⟨k1, k2, k3⟩ := vx_keep h0 e1 hS hA hf hL hF
    obtain ⟨t2, a1, b1⟩ := kk r u t T'.heap (locs ++ L) e1.symm (by rw [← e2]; exact X'.warmed.alike) hp hb k1 k2 k3 T' rfl X'
    exact ⟨t2, st t2 a1, b1⟩
  · obtain ⟨k1, k2, k3⟩ := vx_keep h0 e1 hS hAX hf hL hF
    obtain ⟨t2, a1, b1⟩ := kx E ce q u t T'.heap (locs ++ L) e1.symm (by rw [← e2]; exact X'.warmed.alike) hp hb k1 k2 k3 (by rw [e1]; exact hce) hcv hcl T' rfl X'
    exact ⟨t2, st.trans a1, b1⟩
theorem vx_callv {S SX : Type} {post : S → Prop} {px : SX → Prop} {B : S → State → Prop} {BX : String → SX → State → Prop} {AX : Nat → Prop} (hr : vx_Run p l e R s m args below meth c H locs cells slots mc ms (F0 m pc ls st0) rest (va_Qv post B A1 a) (vx_X px BX AX) free) (hS : va_S A0 H0 H locs) (hA : ∀ q, q < H.size → A1 q → A0 q) (hf : ∀ q, free q → A0 q) (hAX : ∀ q, q < H.size → AX q → A0 q)
    (kx : ∀ (E : String) (ce : Cell) (q9 : Addr) (u : SX) (t : State) (H1 : Heap) (locs1 : List Loc), t.heap = H1 → s.vm.Alike t.vm → px u → BX E u t → H.size ≤ H1.size → (∀ q : Nat, q < H.size → ¬ AX q → H1[q]? = H[q]?) → va_S A0 H0 H1 locs1 → H1[q9]? = some ce → ce.vm = .none → s.vm.findClass E = some ce.cls → vx_W p l e R s m args below meth c H1 locs1 (cells + mc) (slots + ms) Q (F0 m pc ls rest) q9)
    (kk : ∀ (u : S) (t : State) (H1 : Heap) (locs1 : List Loc), t.heap = H1 → s.vm.Alike t.vm → post u → B u t → H.size ≤ H1.size → (∀ q : Nat, q < H.size → ¬ A1 q → H1[q]? = H[q]?) → va_S A0 H0 H1 locs1 → W p l e R s m args below meth c H1 locs1 (cells + mc) (slots + ms) Q (F0 m (pc + 3) ls (rest))) : W p l e R s m args below meth c H locs cells slots Q (F0 m pc ls st0) := by
  intro T hT X
  rcases hr T hT X with ⟨v, st₀, t, T', L, h0, X', hL, e1, e2, ⟨⟨u, hv, hp, hb⟩, hF⟩, st⟩ | ⟨q, st₀, t, T', L, E, ce, h0, X', hL, e1, e2, ⟨u, hp, hb, hF⟩, hce, hcv, hcl, st⟩
  · cases hv
    obtain ⟨k1, k2, k3⟩ := vx_keep h0 e1 hS hA hf hL hF
    obtain ⟨t2, a1, b1⟩ := kk u t T'.heap (locs ++ L) e1.symm (by rw [← e2]; exact X'.warmed.alike) hp hb k1 k2 k3 T' rfl X'
    exact ⟨t2, st t2 a1, b1⟩
  · obtain ⟨k1, k2, k3⟩ := vx_keep h0 e1 hS hAX hf hL hF
    obtain ⟨t2, a1, b1⟩ := kx E ce q u t T'.heap (locs ++ L) e1.symm (by rw [← e2]; exact X'.warmed.alike) hp hb k1 k2 k3 (by rw [e1]; exact hce) hcv hcl T' rfl X'
    exact ⟨t2, st.trans a1, b1⟩
end Rows
section Ends
variable {p : Program} {l : Launch} {e : Env} {R : Room} {s : State} {m : MethodId} {args : Array Value} {below : List Frame} {meth : Method} {c : Code} {H : Heap} {locs : List Loc} {cells slots : Nat} {Q : State → Prop}
variable {mc ms : Nat} {free : Addr → Prop} {A0 A1 : Nat → Prop} {H0 : Heap} {a : Array Value} {ls : Array Slot} {st0 rest : List Value}
variable {Qc : Array Value → State → Outcome → State → Prop} {XC : String → State → State → Prop}
/-- what a body that may throw owes at its end -/
def vx_MQ (below : List Frame) (Qc : Array Value → State → Outcome → State → Prop) (XC : String → State → State → Prop) (a : Array Value) (s : State) (mc ms : Nat) (free : Addr → Prop) : State → Prop := fun t =>
  ∃ o, t.status = .running ∧ Ended t below o ∧ vx_Q Qc XC mc ms free a s o t
theorem vx_ret {g : JFrame} {mc ms : Nat} (k : W p l e R s m args below meth c H locs cells slots (MQ below Qc args s mc ms free) g) : W p l e R s m args below meth c H locs cells slots (vx_MQ below Qc XC args s mc ms free) g := by
  intro T hT X
  obtain ⟨t, a1, o, b1, b2, b3, b4⟩ := k T hT X
  exact ⟨t, a1, o, b1, b2, Or.inl ⟨b3, b4⟩⟩
/-- not caught here: it goes on to the caller -/
theorem vx_widen {g : JFrame} {q : Addr} {k n : Nat} (h1 : cells ≤ k) (h2 : slots ≤ n) (kk : vx_W p l e R s m args below meth c H locs k n Q g q) : vx_W p l e R s m args below meth c H locs cells slots Q g q := fun T hT X => kk T hT (stand_widen X h1 h2)
theorem vx_out {pc : Nat} {E : String} {ce : Cell} {q : Addr} {mc ms : Nat} (hout : ∀ x ∈ c.exceptionTable.toList, covers x pc = false) (hlocks : meth.locks = false) (hcell : H[q]? = some ce) (hv : ce.vm = .none) (hcl : s.vm.findClass E = some ce.cls)
    (hx : ∀ t : State, t.heap = H → s.vm.Alike t.vm → XC E s t) (hf : ∀ z ∈ locs, free z.base) (hc : cells ≤ mc) (hs : slots ≤ ms) :
    vx_W p l e R s m args below meth c H locs cells slots (vx_MQ below Qc XC args s mc ms free) (F0 m pc ls rest) q := by
  intro T hT X
  obtain ⟨st1, hrun, hend, hW, hsm⟩ := X.leaveThrown q (g := F0 m pc ls rest) rfl rfl rfl hout hlocks
  have hcell9 : (T.setFrames (.throwing q :: below)).heap[q]? = some ce := by
    show T.heap[q]? = some ce
    rw [hT]; exact hcell
  exact ⟨_, st1, .threw q, hrun, hend, Or.inr ⟨q, rfl, E, ce, locs, hx _ hT hW.alike, hcell9, hv, hcl, hW, hsm.mono hc hs, hf⟩⟩
theorem vx_frame {U : State} {k n : Nat} (h : s.sameButNew ({ U with vm := s.vm } : State) locs k n) : s.heap.size ≤ U.heap.size ∧ ∀ q : Nat, q < s.heap.size → (∀ z ∈ locs, z.base ≠ q) → U.heap[q]? = s.heap[q]? := by
  obtain ⟨-, h2, -, -, -, h6⟩ := h
  refine ⟨h2, fun q hq hz => ?_⟩
  obtain ⟨c9, e1, e2, e3, e4⟩ := h6 q _ (Array.getElem?_eq_getElem hq)
  have hs : c9.slots = (s.heap[q]).slots := Array.ext_getElem? fun i => e4 i fun hm => hz _ hm rfl
  have h9 : c9 = s.heap[q] := by
    rw [hs] at e2
    exact e2
  have e5 : U.heap[q]? = some c9 := e1
  rw [e5, h9, Array.getElem?_eq_getElem hq]
/-- the words of a throw but the four that speak of the heap -/
def vx_no (w : Cond) : Bool := decide (w ≠ .isRef (.static Bundle.tN "UNASSIGNED_STACK" Bundle.steD)) && decide (w ≠ .isRef (.static Bundle.tN "SUPPRESSED_SENTINEL" Bundle.listD)) && decide (w ≠ .laysStatic Bundle.tN "UNASSIGNED_STACK" Bundle.steD) && decide (w ≠ .laysStatic Bundle.tN "SUPPRESSED_SENTINEL" Bundle.listD)
def vx_at0 (own : String) (ic : Nat) (X : String) (names : List String) : List Cond := (Bundle.ownAtoms0 own ic X names).filter vx_no
def vx_atS (own : String) (ic : Nat) (X : String) (names : List String) : List Cond := (Bundle.ownAtoms own ic X names).filter vx_no
/-- a word that the tables alone decide, or a good one -/
def vx_ot (w : Cond) : Bool := w.onTables || goodWord w
theorem vx_ot_at {args a' : Array Value} {s U : State} {w : Cond} (hW : s.WarmedH U.vm) (hvm : s.vm = U.vm) (hg : vx_ot w = true) (h : w.before args s = true) : w.before a' U = true := by
  simp only [vx_ot, Bool.or_eq_true] at hg
  rcases hg with hg | hg
  · exact va_tabs hg hvm h
  · exact word_at hW (good_of_word hg) h
/-- a list's words: the good ones out of the method's own list, the others by premises of their own -/
theorem vx_hat {args : Array Value} {s : State} {L B : List Cond} (h1 : ∀ w ∈ L.filter goodWord, w.before args s = true) (h2 : ∀ w ∈ L.filter (fun w => !goodWord w), w ∈ B) (h3 : ∀ w ∈ B, w.before args s = true) : ∀ w ∈ L, w.before args s = true := by
  intro w hw
  by_cases g : goodWord w = true
  · exact h1 w (List.mem_filter.mpr ⟨hw, g⟩)
  · refine h3 w (h2 w (List.mem_filter.mpr ⟨hw, ?_⟩))
    show (!goodWord w) = true
    cases hgw : goodWord w
    · rfl
    · exact absurd hgw g
theorem vx_c {args : Array Value} {s : State} {w : Cond} {B : List Cond} (h : w.before args s = true) (t : ∀ w ∈ B, w.before args s = true) : ∀ w' ∈ w :: B, w'.before args s = true := fun w' h' => (List.mem_cons.mp h').elim (fun e => by rw [e]; exact h) (t w')
theorem vx_n {args : Array Value} {s : State} : ∀ w ∈ ([] : List Cond), w.before args s = true := fun _ h => nomatch h
theorem vx_own {args : Array Value} {s : State} {L : List Cond} (h1 : ∀ w ∈ L.filter vx_no, w.before args s = true)
    (hU : (Cond.isRef (.static Bundle.tN "UNASSIGNED_STACK" Bundle.steD)).before args s = true) (hN : (Cond.isRef (.static Bundle.tN "SUPPRESSED_SENTINEL" Bundle.listD)).before args s = true)
    (lU : (Cond.laysStatic Bundle.tN "UNASSIGNED_STACK" Bundle.steD).before args s = true) (lN : (Cond.laysStatic Bundle.tN "SUPPRESSED_SENTINEL" Bundle.listD).before args s = true) : ∀ w ∈ L, w.before args s = true := by
  intro w hw
  by_cases e1 : w = .isRef (.static Bundle.tN "UNASSIGNED_STACK" Bundle.steD)
  · rw [e1]; exact hU
  · by_cases e2 : w = .isRef (.static Bundle.tN "SUPPRESSED_SENTINEL" Bundle.listD)
    · rw [e2]; exact hN
    · by_cases e3 : w = .laysStatic Bundle.tN "UNASSIGNED_STACK" Bundle.steD
      · rw [e3]; exact lU
      · by_cases e4 : w = .laysStatic Bundle.tN "SUPPRESSED_SENTINEL" Bundle.listD
        · rw [e4]; exact lN
        · exact h1 w (List.mem_filter.mpr ⟨hw, by unfold vx_no; rw [decide_eq_true e1, decide_eq_true e2, decide_eq_true e3, decide_eq_true e4]; rfl⟩)
/-- where a static field lies, its class's statics cell in H -/
def vx_L (C n d : String) (A : Nat → Prop) (U : State) (H : Heap) : Prop := ∃ (c : ClassId) (k : Class) (i : Nat) (f : Field) (a : Nat) (cell : Cell), U.vm.findClass C = some c ∧ U.fieldFound? C n d = some (c, k, i, f) ∧ f.isStatic = true ∧ k.statics = some a ∧ H[a]? = some cell ∧ cell.vm.isStatics = true ∧ cell.cls = c ∧ f.slot < cell.slots.size ∧ k.staticTypes[f.slot]? = some f.type ∧ ¬ A a
theorem vx_L.moved {C n d : String} {A : Nat → Prop} {u U : State} {H : Heap} (hvm : u.vm.Alike U.vm) (h : vx_L C n d A u H) : vx_L C n d A U H := by
  obtain ⟨c, k, i, f, a, cell, h1, h2, h3, h4, h5, h6, h7, h8, h9, h10⟩ := h
  obtain ⟨k', hi', he⟩ := State.fieldFound?_setVm hvm h2
  exact ⟨c, k', i, f, a, cell, by rw [hvm.findClass]; exact h1, hi', h3, by rw [he]; exact h4, h5, h6, h7, h8, by rw [he]; exact h9, h10⟩
theorem vx_L.kept {C n d : String} {A : Nat → Prop} {U : State} {H H1 : Heap} (h : vx_L C n d A U H) (hq : ∀ a : Nat, a < H.size → ¬ A a → H1[a]? = H[a]?) : vx_L C n d A U H1 := by
  obtain ⟨c, k, i, f, a, cell, h1, h2, h3, h4, h5, h6, h7, h8, h9, h10⟩ := h
  exact ⟨c, k, i, f, a, cell, h1, h2, h3, h4, by rw [hq a (Array.getElem?_eq_some_iff.mp h5).1 h10]; exact h5, h6, h7, h8, h9, h10⟩
theorem vx_L.narrow {C n d : String} {A B : Nat → Prop} {U : State} {H : Heap} (h : vx_L C n d A U H) (hAB : ∀ q, B q → A q) : vx_L C n d B U H := by
  obtain ⟨c, k, i, f, a, cell, h1, h2, h3, h4, h5, h6, h7, h8, h9, h10⟩ := h
  exact ⟨c, k, i, f, a, cell, h1, h2, h3, h4, h5, h6, h7, h8, h9, fun z => h10 (hAB _ z)⟩
theorem vx_L.word {C n d : String} {A : Nat → Prop} {s : State} {args : Array Value} (h : vx_L C n d A s s.heap) : (Cond.laysStatic C n d).before args s = true := by
  obtain ⟨c, k, i, f, a, cell, h1, h2, h3, h4, h5, h6, h7, h8, h9, -⟩ := h
  show (Cond.laysStatic C n d).holds args s none s [] = true
  exact Cond.laysStatic_of h1 h2 h3 h4 h5 h6 h7 h8 h9
/-- .. and what it holds: null or some reference -/
def vx_Zq (C n d : String) (A : Nat → Prop) (U : State) (H : Heap) : Prop := va_Zq C n d A U H ∧ vx_L C n d A U H
theorem vx_Zq.moved {C n d : String} {A : Nat → Prop} {u U : State} {H : Heap} (hvm : u.vm.Alike U.vm) (h : vx_Zq C n d A u H) : vx_Zq C n d A U H := ⟨va_Zq.moved hvm h.1, vx_L.moved hvm h.2⟩
theorem vx_Zq.kept {C n d : String} {A : Nat → Prop} {U : State} {H H1 : Heap} (h : vx_Zq C n d A U H) (hq : ∀ a : Nat, a < H.size → ¬ A a → H1[a]? = H[a]?) : vx_Zq C n d A U H1 := ⟨va_Zq.kept h.1 hq, vx_L.kept h.2 hq⟩
theorem vx_Zq.narrow {C n d : String} {A B : Nat → Prop} {U : State} {H : Heap} (h : vx_Zq C n d A U H) (hAB : ∀ q, B q → A q) : vx_Zq C n d B U H := ⟨va_Zq.narrow h.1 hAB, vx_L.narrow h.2 hAB⟩
theorem vx_Zqof {args : Array Value} {s : State} {C n d : String} {A : Nat → Prop} (hl : (Cond.laysStatic C n d).before args s = true) (hini : (Cond.initialized C).before args s = true) (h : (Cond.isRef (.static C n d)).before args s = true) (hA : ∀ a : Nat, a < s.heap.size → ¬ A a) : vx_Zq C n d A s s.heap := by
  refine ⟨va_Zqof hl hini h hA, ?_⟩
  obtain ⟨c, k, i, f, a, cell, h1, h2, h3, h4, h5, h6, h7, h8, h9⟩ := Cond.laysStatic_spec hl
  exact ⟨c, k, i, f, a, cell, h1, h2, h3, h4, h5, h6, h7, h8, h9, hA a (Array.getElem?_eq_some_iff.mp h5).1⟩
theorem vx_isRef {C n d : String} {v : Value} {A : Nat → Prop} {s : State} {args : Array Value} (h : va_Z C n d v A s s.heap) (hv : v.isRef = true) : (Cond.isRef (.static C n d)).before args s = true := by
  obtain ⟨cf, kf, fi, f, a, cell, h1, h2, h3, h4, h5, h6, h7, -⟩ := h
  have he : (Term.static C n d).eval args s none [] s = some v := by
    simp [Term.eval, State.fieldNamed?, h1, h2, h4, h5, h6, h7]
  simp only [Cond.before, Cond.holds, Cond.value, he]
  cases v <;> simp_all [Value.isRef]
theorem vx_isRefq {C n d : String} {A : Nat → Prop} {s : State} {args : Array Value} (h : va_Zq C n d A s s.heap) : (Cond.isRef (.static C n d)).before args s = true := by
  rcases h with h | ⟨t, h⟩
  · exact vx_isRef h rfl
  · exact vx_isRef h rfl
/-- the same frame, seen from here: as if the method were called anew in this heap -/
theorem vx_rebase {T : State} (X : Stand p l e R s m args below meth c T locs cells slots) {R' : Room} (hf : R'.frames ≤ R.frames) (hl : R'.locals ≤ R.locals) (hc : cells + R'.cells ≤ R.cells) (hs : slots + R'.slots ≤ R.slots) :
    Stand p l e R' ((T.setVm s.vm).setFrames (.invoking m args :: below)) m args below meth c T [] 0 0 := by
  have htop : (T.setVm s.vm).topJava?.isSome := X.here.top
  have hF : ((T.setVm s.vm).setFrames (.invoking m args :: below)).frames = .invoking m args :: below := State.frames_setFrames _ (State.cur_lt_of_top htop)
  obtain ⟨g₀, hg0⟩ := Option.isSome_iff_exists.mp htop
  obtain ⟨r, hr⟩ := State.topJava?_eq_some.mp hg0
  have hl9 : e.platform.stackLimits (T.setVm s.vm).me = e.platform.stackLimits s.me := X.limits
  have hb9 : (T.setVm s.vm).me.stackBytes = s.me.stackBytes := X.bytes
  refine ⟨X.admits, X.cas, X.clock, hF, ?_, X.hears, X.method, X.code, X.here, X.tail, X.warmed, ?_, ?_, ?_⟩
  · have h := X.room
    have hU : ((T.setVm s.vm).setFrames (.invoking m args :: below)).localsInUse = s.localsInUse := by
      rw [State.localsInUse_invoking hF (meth := meth) (c := c) X.method X.code, State.localsInUse_invoking X.frames X.method X.code]
    simp only [State.hasRoom, Bool.and_eq_true, decide_eq_true_eq] at h ⊢
    obtain ⟨⟨⟨⟨h1, h2, h3, h4, h5, h6⟩, h7⟩, h8⟩, h9⟩ := h
    rw [X.frames, List.length_cons] at h2 h3
    have q1 := X.heapSize
    have q2 := X.used
    simp only [hF, hU, List.length_cons, State.stackLimits_setFrames, State.stackBytes_setFrames, hl9, hb9]
    refine ⟨⟨⟨⟨by omega, by omega, by omega, by omega, by omega, h6⟩, ?_⟩, ?_⟩, X.book⟩
    · show T.heap.size + R'.cells ≤ e.platform.maxCells
      omega
    · show T.slotsUsed + R'.slots ≤ e.platform.maxSlots
      omega
  · rw [State.stackLimits_setFrames]; rfl
  · rw [State.stackBytes_setFrames]; rfl
  · refine ⟨?_, Nat.le_refl _, Nat.le_refl _, ?_, ?_, fun a c9 h9 => ⟨c9, h9, rfl, rfl, fun _ _ => rfl⟩⟩
    · obtain ⟨t, ht, -⟩ := State.frames_cons hr
      show T.setVm s.vm = { ((T.setVm s.vm).setFrames (.invoking m args :: below)).setFrames (T.setVm s.vm).frames with heap := T.heap, slotsUsed := T.slotsUsed }
      rw [State.setFrames_setFrames, State.setFrames_self ht]
      rfl
    · show T.slotsUsed = T.slotsUsed + ((T.heap.toList.drop T.heap.size).map (·.slots.size)).sum
      rw [List.drop_eq_nil_of_le (Nat.le_of_eq Array.length_toList)]
      rfl
    · show ((T.heap.toList.drop T.heap.size).map (·.slots.size)).sum ≤ 0
      rw [List.drop_eq_nil_of_le (Nat.le_of_eq Array.length_toList)]
      exact Nat.le_refl _
/-- 'throw new E()': new; dup; invokespecial; athrow -/
theorem vx_throw0 {cc : ByteArray} {pc : Nat} (hexec : p.tables.exec = Jvm.exec) (hb : c.code = cc) (hl : l.stackTraces = false) {own cls : String} {names : List String} {ik ic mc ms : Nat} {A : Nat → Prop}
    (hown : s.vm.findClass own = some m.cls) (hcls : Bundle.fit cls = true) (hnames : ∀ n ∈ names, Bundle.fit n = true)
    (hk : (Cond.classLink own ik cls).before args s = true) (hini : (Cond.initialized cls).before args s = true) (hat : ∀ w ∈ vx_at0 own ic cls names, w.before args s = true)
    (hgood : ∀ w ∈ Cond.classLink own ik cls :: Cond.initialized cls :: vx_at0 own ic cls names, vx_ot w = true)
    (hU : vx_Zq Bundle.tN "UNASSIGNED_STACK" Bundle.steD A s s.heap) (hN : vx_Zq Bundle.tN "SUPPRESSED_SENTINEL" Bundle.listD A s s.heap) (hS : va_S A s.heap H locs) (hsize : ls.size = c.maxLocals)
    (d0 : decode cc pc = .ok (.new ik, 3)) (d3 : decode cc (pc + 3) = .ok (.dup, 1)) (d4 : decode cc (pc + 4) = .ok (.invokespecial ic, 3)) (d7 : decode cc (pc + 7) = .ok (.athrow, 1))
    (hout : ∀ x ∈ c.exceptionTable.toList, covers x (pc + 7) = false)
    (hRframes : names.length + 3 < R.frames) (hRlocals : (rest.map fun v => v.category).sum + (13 * (names.length + 1) + 42) ≤ R.locals) (hRcells : cells + 1 ≤ R.cells) (hRslots : slots + 6 ≤ R.slots) (hlocks : meth.locks = false)
    (hx : ∀ t : State, s.vm.Alike t.vm → H.size ≤ t.heap.size → (∀ q : Nat, q < H.size → t.heap[q]? = H[q]?) → XC cls s t)
    (hf : ∀ z ∈ locs, free z.base) (hc : cells + 1 ≤ mc) (hs : slots + 6 ≤ ms) :
    W p l e R s m args below meth c H locs cells slots (vx_MQ below Qc XC args s mc ms free) (F0 m pc ls rest) := by
  intro T hT X
  have htr : e.platform.stackTraces = false := (show e.platform.stackTraces = l.stackTraces by rw [X.admits.platform]).trans hl
  have Y := vx_rebase X (R' := { frames := R.frames, locals := R.locals, cells := 1, slots := 6 }) (Nat.le_refl _) (Nat.le_refl _) hRcells hRslots
  obtain ⟨s', hA⟩ : ∃ z, z = (T.setVm s.vm).setFrames (.invoking m args :: below) := ⟨_, rfl⟩
  rw [← hA] at Y
  have hvm : s'.vm = s.vm := by rw [hA]; rfl
  have hhp : s'.heap = H := by rw [hA]; exact hT
  have hW0 : s.WarmedH s'.vm := by rw [hvm]; exact State.WarmedH.refl s
  have hat' : ∀ w ∈ vx_at0 own ic cls names, w.before args s' = true := fun w hw => vx_ot_at hW0 hvm.symm (hgood w (List.mem_cons_of_mem _ (List.mem_cons_of_mem _ hw))) (hat w hw)
  have hk' : (Cond.classLink own ik cls).before args s' = true := vx_ot_at hW0 hvm.symm (hgood _ List.mem_cons_self) hk
  have hini' : (Cond.initialized cls).before args s' = true := vx_ot_at hW0 hvm.symm (hgood _ (List.mem_cons_of_mem _ List.mem_cons_self)) hini
  have hU' : vx_Zq Bundle.tN "UNASSIGNED_STACK" Bundle.steD A s' s'.heap := by rw [hhp]; exact vx_Zq.moved hW0.alike (hU.kept hS.2.1)
  have hN' : vx_Zq Bundle.tN "SUPPRESSED_SENTINEL" Bundle.listD A s' s'.heap := by rw [hhp]; exact vx_Zq.moved hW0.alike (hN.kept hS.2.1)
  have h : ∀ w ∈ Bundle.ownAtoms0 own ic cls names, w.before args s' = true := vx_own hat' (vx_isRefq hU'.1) (vx_isRefq hN'.1) hU'.2.word hN'.2.word
  have hown' : s'.vm.findClass own = some m.cls := by rw [hvm]; exact hown
  have hins : (Cond.instantiable cls 6).before args s' = true := h _ (by simp [Bundle.ownAtoms0])
  obtain ⟨vm₁, cX, kX, hfX, hkX, -, -, X₁, st1⟩ := Y.newCold hexec (own := own) (C := cls) (index := ik) (n := 6) hown' hk' hins hini'
    (g := F0 m pc ls rest) rfl (by rw [hb]; exact d0) (Nat.le_refl _) (Nat.le_refl _)
  generalize hT1 : (T.setVm vm₁).pushCell { cls := cX, slots := kX.instanceTypes.map defaultValue, vm := .none } = T1 at X₁ st1
  have hcat : (Value.ref T.heap.size).category = 1 := rfl
  have hcellA : T1.heap[T.heap.size]? = some (freshCell cX kX) := by rw [← hT1]; exact State.heap_pushCell_size _ _
  have d3' : decode c.code (pc + 3) = .ok (.dup, 1) := by rw [hb]; exact d3
  obtain ⟨U, hsteps, hrun, hend, hW, hsame, ce, hce, hO⟩ := X₁.ctorThrow0 hexec htr (own := own) (cls := cls) (names := names) (ic := ic) hown' hcls hnames h (fun x hx => nomatch hx) hfX hkX hcellA (by rw [hhp, hT]; exact Nat.le_refl _)
    (g := { method := m, pc := pc + 4, locals := ls, stack := .ref T.heap.size :: .ref T.heap.size :: rest, locked := none }) rfl hsize rfl rfl (rest := rest) rfl
    (by rw [hb]; exact d4) (by rw [hb]; exact d7) hout hRframes (by simp only [List.map_cons, List.sum_cons, hcat]; omega) hlocks
  obtain ⟨f1, f2⟩ := vx_frame hsame
  rw [hhp] at f1 f2
  have hWs : s.WarmedH U.vm := State.WarmedH.trans hW0 hW
  have hcl : s.vm.findClass cls = some ce.cls := by
    have h9 := hO.cls
    rw [hvm] at h9
    exact h9
  have hall : s.sameButNew ({ U with vm := s.vm } : State) locs mc ms := by
    subst hA
    obtain ⟨e1, e2⟩ := hsame
    rw [State.setFrames_setFrames] at e1
    have h2 : (T.setVm s.vm).sameButNew ({ U with vm := s.vm } : State) [] (0 + 1) (0 + 6) := ⟨e1, e2⟩
    have h3 := X.same.trans h2
    rw [List.append_nil] at h3
    exact h3.mono hc hs
  refine ⟨U, ?_, .threw T.heap.size, hrun, hend, Or.inr ⟨T.heap.size, rfl, cls, ce, locs, hx U hWs.alike f1 (fun q hq => f2 q hq (fun z hz => nomatch hz)), hce, hO.vm, hcl, hWs, hall, hf⟩⟩
  refine st1 _ ?_
  show Steps p.tables e below (T1.setTop { method := m, pc := pc + 3, locals := ls, stack := .ref T.heap.size :: rest, locked := none }) _
  jvm_step X₁.here [X₁.here.top, hexec, d3', Value.category]
  exact hsteps
/-- 'throw new E("text")': new; dup; ldc; invokespecial; athrow -/
theorem vx_throwS {cc : ByteArray} {pc : Nat} (hexec : p.tables.exec = Jvm.exec) (hb : c.code = cc) (hl : l.stackTraces = false) {own cls text : String} {names : List String} {ik is ic mc ms sa : Nat} {A : Nat → Prop}
    (hown : s.vm.findClass own = some m.cls) (hcls : Bundle.fit cls = true) (hnames : ∀ n ∈ names, Bundle.fit n = true)
    (hk : (Cond.classLink own ik cls).before args s = true) (hini : (Cond.initialized cls).before args s = true) (hstr : vk_R own is text sa s) (hat : ∀ w ∈ vx_atS own ic cls names, w.before args s = true)
    (hgood : ∀ w ∈ Cond.classLink own ik cls :: Cond.initialized cls :: vx_atS own ic cls names, vx_ot w = true)
    (hU : vx_Zq Bundle.tN "UNASSIGNED_STACK" Bundle.steD A s s.heap) (hN : vx_Zq Bundle.tN "SUPPRESSED_SENTINEL" Bundle.listD A s s.heap) (hS : va_S A s.heap H locs) (hsize : ls.size = c.maxLocals)
    (d0 : decode cc pc = .ok (.new ik, 3)) (d3 : decode cc (pc + 3) = .ok (.dup, 1)) (d4 : decode cc (pc + 4) = .ok (.ldc is, 2)) (d6 : decode cc (pc + 6) = .ok (.invokespecial ic, 3)) (d9 : decode cc (pc + 9) = .ok (.athrow, 1))
    (hout : ∀ x ∈ c.exceptionTable.toList, covers x (pc + 9) = false)
    (hRframes : names.length + 3 < R.frames) (hRlocals : (rest.map fun v => v.category).sum + (13 * (names.length + 1) + 43) ≤ R.locals) (hRcells : cells + 1 ≤ R.cells) (hRslots : slots + 6 ≤ R.slots) (hlocks : meth.locks = false)
    (hx : ∀ t : State, s.vm.Alike t.vm → H.size ≤ t.heap.size → (∀ q : Nat, q < H.size → t.heap[q]? = H[q]?) → XC cls s t)
    (hf : ∀ z ∈ locs, free z.base) (hc : cells + 1 ≤ mc) (hs : slots + 6 ≤ ms) :
    W p l e R s m args below meth c H locs cells slots (vx_MQ below Qc XC args s mc ms free) (F0 m pc ls rest) := by
  intro T hT X
  have htr : e.platform.stackTraces = false := (show e.platform.stackTraces = l.stackTraces by rw [X.admits.platform]).trans hl
  have Y := vx_rebase X (R' := { frames := R.frames, locals := R.locals, cells := 1, slots := 6 }) (Nat.le_refl _) (Nat.le_refl _) hRcells hRslots
  obtain ⟨s', hA⟩ : ∃ z, z = (T.setVm s.vm).setFrames (.invoking m args :: below) := ⟨_, rfl⟩
  rw [← hA] at Y
  have hvm : s'.vm = s.vm := by rw [hA]; rfl
  have hhp : s'.heap = H := by rw [hA]; exact hT
  have hW0 : s.WarmedH s'.vm := by rw [hvm]; exact State.WarmedH.refl s
  have hat' : ∀ w ∈ vx_atS own ic cls names, w.before args s' = true := fun w hw => vx_ot_at hW0 hvm.symm (hgood w (List.mem_cons_of_mem _ (List.mem_cons_of_mem _ hw))) (hat w hw)
  have hk' : (Cond.classLink own ik cls).before args s' = true := vx_ot_at hW0 hvm.symm (hgood _ List.mem_cons_self) hk
  have hini' : (Cond.initialized cls).before args s' = true := vx_ot_at hW0 hvm.symm (hgood _ (List.mem_cons_of_mem _ List.mem_cons_self)) hini
  have hU' : vx_Zq Bundle.tN "UNASSIGNED_STACK" Bundle.steD A s' s'.heap := by rw [hhp]; exact vx_Zq.moved hW0.alike (hU.kept hS.2.1)
  have hN' : vx_Zq Bundle.tN "SUPPRESSED_SENTINEL" Bundle.listD A s' s'.heap := by rw [hhp]; exact vx_Zq.moved hW0.alike (hN.kept hS.2.1)
  have h : ∀ w ∈ Bundle.ownAtoms own ic cls names, w.before args s' = true := vx_own hat' (vx_isRefq hU'.1) (vx_isRefq hN'.1) hU'.2.word hN'.2.word
  have hown' : s'.vm.findClass own = some m.cls := by rw [hvm]; exact hown
  have hins : (Cond.instantiable cls 6).before args s' = true := h _ (by simp [Bundle.ownAtoms])
  obtain ⟨vm₁, cX, kX, hfX, hkX, -, -, X₁, st1⟩ := Y.newCold hexec (own := own) (C := cls) (index := ik) (n := 6) hown' hk' hins hini'
    (g := F0 m pc ls rest) rfl (by rw [hb]; exact d0) (Nat.le_refl _) (Nat.le_refl _)
  generalize hT1 : (T.setVm vm₁).pushCell { cls := cX, slots := kX.instanceTypes.map defaultValue, vm := .none } = T1 at X₁ st1
  have hcat : (Value.ref T.heap.size).category = 1 := rfl
  have hcellA : T1.heap[T.heap.size]? = some (freshCell cX kX) := by rw [← hT1]; exact State.heap_pushCell_size _ _
  have d3' : decode c.code (pc + 3) = .ok (.dup, 1) := by rw [hb]; exact d3
  have d4' : decode c.code (pc + 4) = .ok (.ldc is, 2) := by rw [hb]; exact d4
  have hstr' : vk_R own is text sa s' := vk_R.warm hW0 hstr
  obtain ⟨U, hsteps, hrun, hend, hW, hsame, ce, hce, hO⟩ := X₁.ctorThrowS hexec htr (own := own) (cls := cls) (names := names) (ic := ic) hown' hcls hnames h (fun x hx => nomatch hx) hfX hkX hcellA (by rw [hhp, hT]; exact Nat.le_refl _) (msg := .ref sa) rfl
    (g := { method := m, pc := pc + 6, locals := ls, stack := .ref sa :: .ref T.heap.size :: .ref T.heap.size :: rest, locked := none }) rfl hsize rfl rfl (rest := rest) rfl
    (by rw [hb]; exact d6) (by rw [hb]; exact d9) hout hRframes (by simp only [List.map_cons, List.sum_cons, hcat]; omega) hlocks
  obtain ⟨f1, f2⟩ := vx_frame hsame
  rw [hhp] at f1 f2
  have hWs : s.WarmedH U.vm := State.WarmedH.trans hW0 hW
  have hcl : s.vm.findClass cls = some ce.cls := by
    have h9 := hO.cls
    rw [hvm] at h9
    exact h9
  have hall : s.sameButNew ({ U with vm := s.vm } : State) locs mc ms := by
    subst hA
    obtain ⟨e1, e2⟩ := hsame
    rw [State.setFrames_setFrames] at e1
    have h2 : (T.setVm s.vm).sameButNew ({ U with vm := s.vm } : State) [] (0 + 1) (0 + 6) := ⟨e1, e2⟩
    have h3 := X.same.trans h2
    rw [List.append_nil] at h3
    exact h3.mono hc hs
  refine ⟨U, ?_, .threw T.heap.size, hrun, hend, Or.inr ⟨T.heap.size, rfl, cls, ce, locs, hx U hWs.alike f1 (fun q hq => f2 q hq (fun z hz => nomatch hz)), hce, hO.vm, hcl, hWs, hall, hf⟩⟩
  refine st1 _ ?_
  show Steps p.tables e below (T1.setTop { method := m, pc := pc + 3, locals := ls, stack := .ref T.heap.size :: rest, locked := none }) _
  jvm_step X₁.here [X₁.here.top, hexec, d3', Value.category]
  exact X₁.ldcString hexec (own := own) (text := text) (index := is) (a := sa) hown' hstr'.1 hstr'.2
    (g := { method := m, pc := pc + 4, locals := ls, stack := .ref T.heap.size :: .ref T.heap.size :: rest, locked := none }) rfl d4' _ hsteps
/-- 'throw new E("text")', the text by a wide index -/
theorem vx_throwSW {cc : ByteArray} {pc : Nat} (hexec : p.tables.exec = Jvm.exec) (hb : c.code = cc) (hl : l.stackTraces = false) {own cls text : String} {names : List String} {ik is ic mc ms sa : Nat} {A : Nat → Prop}
    (hown : s.vm.findClass own = some m.cls) (hcls : Bundle.fit cls = true) (hnames : ∀ n ∈ names, Bundle.fit n = true)
    (hk : (Cond.classLink own ik cls).before args s = true) (hini : (Cond.initialized cls).before args s = true) (hstr : vk_R own is text sa s) (hat : ∀ w ∈ vx_atS own ic cls names, w.before args s = true)
    (hgood : ∀ w ∈ Cond.classLink own ik cls :: Cond.initialized cls :: vx_atS own ic cls names, vx_ot w = true)
    (hU : vx_Zq Bundle.tN "UNASSIGNED_STACK" Bundle.steD A s s.heap) (hN : vx_Zq Bundle.tN "SUPPRESSED_SENTINEL" Bundle.listD A s s.heap) (hS : va_S A s.heap H locs) (hsize : ls.size = c.maxLocals)
    (d0 : decode cc pc = .ok (.new ik, 3)) (d3 : decode cc (pc + 3) = .ok (.dup, 1)) (d4 : decode cc (pc + 4) = .ok (.ldc_w is, 3)) (d7 : decode cc (pc + 7) = .ok (.invokespecial ic, 3)) (d10 : decode cc (pc + 10) = .ok (.athrow, 1))
    (hout : ∀ x ∈ c.exceptionTable.toList, covers x (pc + 10) = false)
    (hRframes : names.length + 3 < R.frames) (hRlocals : (rest.map fun v => v.category).sum + (13 * (names.length + 1) + 43) ≤ R.locals) (hRcells : cells + 1 ≤ R.cells) (hRslots : slots + 6 ≤ R.slots) (hlocks : meth.locks = false)
    (hx : ∀ t : State, s.vm.Alike t.vm → H.size ≤ t.heap.size → (∀ q : Nat, q < H.size → t.heap[q]? = H[q]?) → XC cls s t)
    (hf : ∀ z ∈ locs, free z.base) (hc : cells + 1 ≤ mc) (hs : slots + 6 ≤ ms) :
    W p l e R s m args below meth c H locs cells slots (vx_MQ below Qc XC args s mc ms free) (F0 m pc ls rest) := by
  intro T hT X
  have htr : e.platform.stackTraces = false := (show e.platform.stackTraces = l.stackTraces by rw [X.admits.platform]).trans hl
  have Y := vx_rebase X (R' := { frames := R.frames, locals := R.locals, cells := 1, slots := 6 }) (Nat.le_refl _) (Nat.le_refl _) hRcells hRslots
  obtain ⟨s', hA⟩ : ∃ z, z = (T.setVm s.vm).setFrames (.invoking m args :: below) := ⟨_, rfl⟩
  rw [← hA] at Y
  have hvm : s'.vm = s.vm := by rw [hA]; rfl
  have hhp : s'.heap = H := by rw [hA]; exact hT
  have hW0 : s.WarmedH s'.vm := by rw [hvm]; exact State.WarmedH.refl s
  have hat' : ∀ w ∈ vx_atS own ic cls names, w.before args s' = true := fun w hw => vx_ot_at hW0 hvm.symm (hgood w (List.mem_cons_of_mem _ (List.mem_cons_of_mem _ hw))) (hat w hw)
  have hk' : (Cond.classLink own ik cls).before args s' = true := vx_ot_at hW0 hvm.symm (hgood _ List.mem_cons_self) hk
  have hini' : (Cond.initialized cls).before args s' = true := vx_ot_at hW0 hvm.symm (hgood _ (List.mem_cons_of_mem _ List.mem_cons_self)) hini
  have hU' : vx_Zq Bundle.tN "UNASSIGNED_STACK" Bundle.steD A s' s'.heap := by rw [hhp]; exact vx_Zq.moved hW0.alike (hU.kept hS.2.1)
  have hN' : vx_Zq Bundle.tN "SUPPRESSED_SENTINEL" Bundle.listD A s' s'.heap := by rw [hhp]; exact vx_Zq.moved hW0.alike (hN.kept hS.2.1)
  have h : ∀ w ∈ Bundle.ownAtoms own ic cls names, w.before args s' = true := vx_own hat' (vx_isRefq hU'.1) (vx_isRefq hN'.1) hU'.2.word hN'.2.word
  have hown' : s'.vm.findClass own = some m.cls := by rw [hvm]; exact hown
  have hins : (Cond.instantiable cls 6).before args s' = true := h _ (by simp [Bundle.ownAtoms])
  obtain ⟨vm₁, cX, kX, hfX, hkX, -, -, X₁, st1⟩ := Y.newCold hexec (own := own) (C := cls) (index := ik) (n := 6) hown' hk' hins hini'
    (g := F0 m pc ls rest) rfl (by rw [hb]; exact d0) (Nat.le_refl _) (Nat.le_refl _)
  generalize hT1 : (T.setVm vm₁).pushCell { cls := cX, slots := kX.instanceTypes.map defaultValue, vm := .none } = T1 at X₁ st1
  have hcat : (Value.ref T.heap.size).category = 1 := rfl
  have hcellA : T1.heap[T.heap.size]? = some (freshCell cX kX) := by rw [← hT1]; exact State.heap_pushCell_size _ _
  have d3' : decode c.code (pc + 3) = .ok (.dup, 1) := by rw [hb]; exact d3
  have d4' : decode c.code (pc + 4) = .ok (.ldc_w is, 3) := by rw [hb]; exact d4
  have hstr' : vk_R own is text sa s' := vk_R.warm hW0 hstr
  obtain ⟨U, hsteps, hrun, hend, hW, hsame, ce, hce, hO⟩ := X₁.ctorThrowS hexec htr (own := own) (cls := cls) (names := names) (ic := ic) hown' hcls hnames h (fun x hx => nomatch hx) hfX hkX hcellA (by rw [hhp, hT]; exact Nat.le_refl _) (msg := .ref sa) rfl
    (g := { method := m, pc := pc + 7, locals := ls, stack := .ref sa :: .ref T.heap.size :: .ref T.heap.size :: rest, locked := none }) rfl hsize rfl rfl (rest := rest) rfl
    (by rw [hb]; exact d7) (by rw [hb]; exact d10) hout hRframes (by simp only [List.map_cons, List.sum_cons, hcat]; omega) hlocks
  obtain ⟨f1, f2⟩ := vx_frame hsame
  rw [hhp] at f1 f2
  have hWs : s.WarmedH U.vm := State.WarmedH.trans hW0 hW
  have hcl : s.vm.findClass cls = some ce.cls := by
    have h9 := hO.cls
    rw [hvm] at h9
    exact h9
  have hall : s.sameButNew ({ U with vm := s.vm } : State) locs mc ms := by
    subst hA
    obtain ⟨e1, e2⟩ := hsame
    rw [State.setFrames_setFrames] at e1
    have h2 : (T.setVm s.vm).sameButNew ({ U with vm := s.vm } : State) [] (0 + 1) (0 + 6) := ⟨e1, e2⟩
    have h3 := X.same.trans h2
    rw [List.append_nil] at h3
    exact h3.mono hc hs
  refine ⟨U, ?_, .threw T.heap.size, hrun, hend, Or.inr ⟨T.heap.size, rfl, cls, ce, locs, hx U hWs.alike f1 (fun q hq => f2 q hq (fun z hz => nomatch hz)), hce, hO.vm, hcl, hWs, hall, hf⟩⟩
  refine st1 _ ?_
  show Steps p.tables e below (T1.setTop { method := m, pc := pc + 3, locals := ls, stack := .ref T.heap.size :: rest, locked := none }) _
  jvm_step X₁.here [X₁.here.top, hexec, d3', Value.category]
  exact X₁.ldcStringW hexec (own := own) (text := text) (index := is) (a := sa) hown' hstr'.1 hstr'.2
    (g := { method := m, pc := pc + 4, locals := ls, stack := .ref T.heap.size :: .ref T.heap.size :: rest, locked := none }) rfl d4' _ hsteps
end Ends
section Bodies
variable {l : Launch}
theorem vx_ofW {y : MethodName} {ws ws' : List Cond} {rm : Room} {Pc : Array Value → State → Prop} {Qc : Array Value → State → Outcome → State → Prop} {XC : String → State → State → Prop} {mc ms : Nat} {free : Addr → Prop} {cc : ByteArray} {maxL : Nat} {ret : Option FieldType}
    (hy : plainName y.cls = true) (hw : ws = Cond.code y cc maxL ret :: ws')
    (body : ∀ p e s m args below meth c s₁, BodyLoose p l y (headSpec ws rm) cc maxL ret e s m args below meth c s₁ → c.maxLocals = maxL → (∀ x ∈ c.exceptionTable.toList, False) → Pc args s →
      W p l e (headSpec ws rm).room s m args below meth c s.heap [] 0 0 (vx_MQ below Qc XC args s mc ms free) (entryFrame m args maxL)) : vx_Met l y ws rm Pc Qc XC mc ms free := by
  refine MetFree.of_bodyS (code := cc) (maxLocals := maxL) (ret := ret) hy ?_ ?_
  · intro args s m h hn
    obtain ⟨meth, c, h1, h2, h3, h4, h5, h6, -, -⟩ := Cond.code_spec hn (atoms_spec (ws := ws) h _ (by rw [hw]; exact List.mem_cons_self))
    exact ⟨meth, c, h1, h2, h3, h4, h5, h6⟩
  · intro p e s m args below meth c s₁ B hml hP _
    have hh0 : s₁.heap = s.heap := by rw [B.state]; rfl
    have ht : ∀ x ∈ c.exceptionTable.toList, False := by
      obtain ⟨meth9, c9, h1, h2, -, -, -, -, h7, -⟩ := Cond.code_spec B.named (atoms_spec (ws := ws) B.pre _ (by rw [hw]; exact List.mem_cons_self))
      cases Option.some.inj (h1.symm.trans B.method)
      cases Option.some.inj (h2.symm.trans (Stand.of_body B).code)
      intro x hx
      rw [Array.isEmpty_iff.mp h7] at hx
      cases hx
    obtain ⟨t, a1, o, b1, b2, b3⟩ := body p e s m args below meth c s₁ B hml ht hP s₁ hh0 (Stand.of_body B)
    exact ⟨t, o, a1, b1, b2, b3⟩
/-- the table of a body with handlers -/
theorem vx_table {p : Program} {x y : MethodName} {S : Spec} {cc bytes : ByteArray} {maxL maxL' : Nat} {ret ret' : Option FieldType} {e : Env} {s s₁ : State} {m : MethodId} {args : Array Value} {below : List Frame} {meth : Method} {c : Code} {hh : List (Nat × Nat × Nat × Nat)}
    (B : BodyLoose p l y S cc maxL ret e s m args below meth c s₁) (h : (Cond.codeWith y bytes maxL' ret' hh).before args s = true) : c.exceptionTable.toList = tableOf hh := by
  obtain ⟨m9, meth9, c9, hn9, h1, h2, -, -, h6, -⟩ := Cond.codeWith_spec h
  cases Option.some.inj (hn9.symm.trans B.named)
  cases Option.some.inj (h1.symm.trans B.method)
  cases Option.some.inj (h2.symm.trans (Stand.of_body B).code)
  rw [← h6, table_eq]
end Bodies
end VXA
/-! ===== END ===== -/
/-! ===== BEGIN a static call of a method with an exception table ===== -/
section VXS
variable {p : Program} {l : Launch} {e : Env} {R : Room} {s : State} {m : MethodId} {args : Array Value} {below : List Frame} {meth : Method} {c : Code} {T : State} {H : Heap} {locs : List Loc} {cells slots : Nat}
abbrev vx_CSW (R : Room) (s : State) (args : Array Value) (own : String) (index : Nat) (y : MethodName) (bytes : ByteArray) (maxL : Nat) (ret : Option FieldType) (hh : List (Nat × Nat × Nat × Nat)) (ws : List Cond) (rm : Room) (mc ms n : Nat) : Prop :=
  (rm.cells = mc ∧ rm.slots = ms ∧ rm.frames + 1 ≤ R.frames ∧ 8 + (maxL + 11) + rm.locals ≤ R.locals ∧ (∀ w ∈ ws, ∀ (a' : Array Value) (U : State), s.WarmedH U.vm → w.before a' U = true) ∧ Cond.codeWith y bytes maxL ret hh ∈ ws) ∧
  (Cond.codeWith y bytes maxL ret hh).before args s = true ∧ (Cond.initialized y.cls).before args s = true ∧ (y.cls ≠ "java/lang/invoke/MethodHandle" ∧ y.cls ≠ "java/lang/invoke/VarHandle") ∧
  (∀ sig, parseMethodDescriptor y.desc = some sig → n = sig.parameters.length) ∧ (Cond.methodLink own index y).before args s = true ∧ (Cond.static y).before args s = true
theorem vx_cwSW {own : String} {index maxL mc ms : Nat} {y : MethodName} {bytes : ByteArray} {ret : Option FieldType} {hh : List (Nat × Nat × Nat × Nat)} {Ts ws ws' : List Cond} {rm : Room} (n : Nat) (ht : ∀ w ∈ Ts, w.before args s = true) (hT : GoodIn Ts (va_wsS own index y ws)) (hw : ws = Cond.codeWith y bytes maxL ret hh :: ws') (hrc : rm.cells = mc) (hrs : rm.slots = ms)
    (hd : y.cls ≠ "java/lang/invoke/MethodHandle" ∧ y.cls ≠ "java/lang/invoke/VarHandle" ∧ (parseMethodDescriptor y.desc).map (fun d => d.parameters.length) = some n) (hR : rm.frames + 1 ≤ R.frames ∧ 8 + (maxL + 11) + rm.locals ≤ R.locals) :
    vx_CSW R s args own index y bytes maxL ret hh ws rm mc ms n := by
  have ok : ∀ w ∈ va_wsS own index y ws, w.before args s = true := fun w h => ht w (hT w h).1
  have hG : GoodIn Ts ws := fun w h => hT w (by unfold va_wsS; exact List.mem_append_right _ h)
  have hc : Cond.codeWith y bytes maxL ret hh ∈ ws := by rw [hw]; exact List.mem_cons_self
  refine ⟨⟨hrc, hrs, hR.1, hR.2, pay_in ht hG, hc⟩, ht _ (hG _ hc).1, ok _ (by simp [va_wsS]), ⟨hd.1, hd.2.1⟩, fun sig h => ?_, ok _ (by simp [va_wsS]), ok _ (by simp [va_wsS])⟩
  have h2 := hd.2.2
  rw [h] at h2
  exact (Option.some.inj h2).symm
theorem vx_callSW (X : Stand p l e R s m args below meth c T locs cells slots) (hexec : p.tables.exec = Jvm.exec) {own : String} {index : Nat} {y : MethodName} {bytes : ByteArray} {maxL : Nat} {ret : Option FieldType} {hh : List (Nat × Nat × Nat × Nat)}
    (hown : s.vm.findClass own = some m.cls) (hlink : (Cond.methodLink own index y).before args s = true) (hstat : (Cond.static y).before args s = true) (hinit : (Cond.initialized y.cls).before args s = true)
    (hcode : (Cond.codeWith y bytes maxL ret hh).before args s = true) (hy : y.cls ≠ "java/lang/invoke/MethodHandle" ∧ y.cls ≠ "java/lang/invoke/VarHandle")
    {W9 : Nat} {Pre : Pt → Array Value → Prop} {Post : Pt → Array Value → Option Value → Pt → Prop} (hK : Back l R p e below s args y 3 W9 Pre Post)
    {g : JFrame} (hg : g.method = m) (hsize : g.locals.size = c.maxLocals) {argsL rest : List Value} (hlen : ∀ sig, parseMethodDescriptor y.desc = some sig → argsL.length = sig.parameters.length)
    (hstack : g.stack = argsL.reverse ++ rest) (hW : 2 * g.monitorRoom + (rest.map fun v => v.category).sum ≤ W9) (hdg : decode c.code g.pc = .ok (.invokestatic index, 3))
    (hpre : ∀ vm₁, s.WarmedH vm₁ → Pre ⟨T.setVm vm₁, locs, cells, slots⟩ argsL.toArray) :
    ∃ (v : Option Value) (vm₁ : Vm) (B : Pt), s.WarmedH vm₁ ∧ Stand p l e R s m args below meth c B.U B.locs B.cells B.slots ∧ Post ⟨T.setVm vm₁, locs, cells, slots⟩ argsL.toArray v B ∧
      ∀ target, Steps p.tables e below (B.U.setTop { g with pc := g.pc + 3, stack := v.toList ++ rest }) target → Steps p.tables e below (T.setTop g) target := by
  obtain ⟨mk, methM, cM, hnamed, hmethM, -, -, -, -, -, -, hsigM⟩ := Cond.codeWith_spec hcode
  have hstatic : methM.isStatic = true := Cond.static_spec hnamed hmethM hstat
  obtain ⟨kP, hkP, -⟩ := className_of_methodNamed hnamed
  have hinitP : kP.init = .initialized := Cond.initialized_spec (findClass_of_methodNamed hnamed) hkP hinit
  obtain ⟨vm₁, X₁, hstep₁⟩ := X.invokestatic hexec hown hlink hnamed hmethM hstatic hkP hinitP hy (g := g) hg (argsL := argsL) (rest := rest) (hlen _ hsigM) hstack hdg
  obtain ⟨v, B, X', hpost, hsteps⟩ := hK m meth c ⟨T.setVm vm₁, locs, cells, slots⟩ { g with stack := rest } (.invokestatic index) mk argsL.toArray X₁ hg hsize hdg hW (X₁.named hnamed) (hpre vm₁ X₁.warmed)
  exact ⟨v, vm₁, B, X₁.warmed, X', hpost, fun target h => hstep₁ _ fun acts => by rw [doInvoke_state]; exact hsteps.trans h⟩
theorem vx_runSW {y : MethodName} {bytes cc : ByteArray} {maxL nL mc ms n index : Nat} {ret : Option FieldType} {hh : List (Nat × Nat × Nat × Nat)} {ws : List Cond} {rm : Room} {Pc : Array Value → State → Prop} {Qc : Array Value → State → Outcome → State → Prop} {free : Addr → Prop} {Ts : List Cond} {own : String} {As rest : List Value} {g : JFrame}
    (S : CallFix p m c cc nL s args Ts own) (hM : Met l y ws rm Pc Qc mc ms free) (cw : vx_CSW R s args own index y bytes maxL ret hh ws rm mc ms n) (hp : PreS s H Pc As)
    (hg : g.method = m) (hn : As.length = n) (hsize : g.locals.size = nL) (hstack : g.stack = As.reverse ++ rest) (hW : 2 * g.monitorRoom + (rest.map fun v => v.category).sum ≤ 8) (hdg : decode cc g.pc = .ok (.invokestatic index, 3)) (hf : cells + mc ≤ R.cells ∧ slots + ms ≤ R.slots) :
    va_Run p l e R s m args below meth c H locs cells slots mc ms g rest (Qc As.toArray) (free) := by
  obtain ⟨⟨hrc, hrs, hfr, hlo, hws, hcw⟩, hcode, hini, hy, hlen, hl, hstt⟩ := cw
  have hK : Back l R p e below s args y 3 8 (PreOf R mc ms Pc) (PostOf Qc mc ms free) := va_backW (hh := hh) (bytes := bytes) (maxL := maxL) (ret := ret) hM hp.1 hrc hrs hfr hlo hws hcw (fun a' U hW => word_at hW (Or.inl (by first | rfl | simp [Cond.onTables, Cond.keeps, Cond.steady])) hini)
  obtain ⟨hx, hb, hml, ho, -⟩ := S
  intro T hT X
  obtain ⟨v, vm₁, ⟨U', l2, c2, s2⟩, hW₁, X', ⟨g', mk, t, L, e1, e2, hq, h1, hL, h2, h3⟩, st⟩ := vx_callSW X hx (hh := hh) (bytes := bytes) (maxL := maxL) (ret := ret) ho hl hstt hini hcode hy hK hg (hsize.trans hml.symm) (argsL := As) (rest := rest) (fun sig h => hn.trans (hlen sig h)) hstack hW (by rw [hb]; exact hdg)
    (fun vm₁ hW₁ => ⟨hf.1, hf.2, hp.2 (T.setVm vm₁) hT hW₁⟩)
  dsimp only [Pt.U, Pt.locs, Pt.cells, Pt.slots] at X' e1 e2 h1 h2 h3 st
  subst h1; subst h2; subst h3
  exact ⟨v, (T.setVm vm₁).calling g' mk As.toArray, t, U', L, hT, X', hL, e1, e2, hq, st⟩
/-- a thing of a world lies in the heap -/
theorem vx_lt {D : va_G} {cl : List vw_C} {ws : va_W} {H1 : Heap} (h : va_P D cl ws H1) {k : Nat} {q : Nat × va_E} (hk : ws[k]? = some q) : q.1 < H1.size := (h k q hk).lt
end VXS
/-! ===== END ===== -/
/-! ===== BEGIN methods with a table of their own: called by a name, returning or throwing ===== -/
section VXH
/-! vx_backW, vx_callVX, vx_callSX, vx_callVW, vx_runVW, vx_runVX, vx_runSX, vx_ofWH follow the same proofs as their sisters above (Free/Laws.lean, Shelf42/LK1.lean); vx_outP calls Shelf42/NT130.lean (outThrough). -/
section
variable {l : Launch} {R : Room} {p : Program} {e : Env} {below : List Frame} {s : State} {sargs : Array Value} {y : MethodName} {len W9 : Nat}
theorem vx_backW {ws : List Cond} {rm : Room} {Pc : Array Value → State → Prop} {Qc : Array Value → State → Outcome → State → Prop} {XC : String → State → State → Prop} {mc ms : Nat} {free : Addr → Prop} {bytes : ByteArray} {maxL : Nat} {ret : Option FieldType} {hh : List (Nat × Nat × Nat × Nat)}
    (hM : vx_Met l y ws rm Pc Qc XC mc ms free) (hblind : FrameBlind Pc) (hrc : rm.cells = mc) (hrs : rm.slots = ms)
    (hframes : rm.frames + 1 ≤ R.frames) (hlocals : W9 + (maxL + 11) + rm.locals ≤ R.locals)
    (hws : ∀ w ∈ ws, ∀ a' U, s.WarmedH U.vm → w.before a' U = true) (hcode : Cond.codeWith y bytes maxL ret hh ∈ ws) (hinit : ∀ a' U, s.WarmedH U.vm → (Cond.initialized y.cls).before a' U = true) :
    vx_Back l R p e below s sargs y len W9 (PreOf R mc ms Pc) (PostOf Qc mc ms free) (vx_Post XC mc ms free) := by
  intro m meth c A g ig mk a X hg hsize hdg hW hn hp
  have h1 : (headSpec ws rm).pre.before a A.U = true := atoms_intro fun w hw => hws w hw _ _ X.warmed
  have h2 : (Cond.codeWith y bytes maxL ret hh).before a A.U = true := hws _ hcode _ _ X.warmed
  have h3 : (Cond.initialized y.cls).before a A.U = true := hinit _ _ X.warmed
  have h4 : A.cells + (headSpec ws rm).room.cells ≤ R.cells := by rw [show (headSpec ws rm).room.cells = mc from hrc]; exact hp.1
  have h5 : A.slots + (headSpec ws rm).room.slots ≤ R.slots := by rw [show (headSpec ws rm).room.slots = ms from hrs]; exact hp.2.1
  have hPc : Pc a (A.U.calling g mk a) := hblind _ _ _ _ hp.2.2
  obtain ⟨U, Ls, c0, s0⟩ := A
  dsimp only [Pt.U, Pt.locs, Pt.cells, Pt.slots] at h1 h2 h3 h4 h5 X hn hPc ⊢
  obtain ⟨m9, methY, cY, hn9, hmY, hcY, -, hlY, -⟩ := Cond.codeWith_spec h2
  cases Option.some.inj (hn9.symm.trans hn)
  obtain ⟨kY, hkY, -⟩ := className_of_methodNamed hn
  have hinitY : kY.init = .initialized := Cond.initialized_spec (findClass_of_methodNamed hn) hkY h3
  have h : At U g.method c below := by rw [hg]; exact X.here
  have hlocals9 : W9 + (maxL + 11) + (headSpec ws rm).room.locals ≤ R.locals := hlocals
  have happ : (headSpec ws rm).appliesLoose y e.platform (U.calling g mk a) = true :=
    Spec.appliesLoose_calling (g := g) h hdg hn hkY hinitY
      (X.room_calling (g := g) (R' := (headSpec ws rm).room) hsize hmY hcY hframes (by rw [hlY]; omega) h4 h5) h1
  obtain ⟨mid, hmid⟩ := h.above
  have hfr : (U.setTop g).frames = (.java g :: mid) ++ below := by rw [State.frames_setTop' g h.top, hmid]; rfl
  obtain ⟨o, s₂, hsteps, -, hend, hq⟩ := Steps.callFree hM p X.admits X.cas X.clock (acts := []) hfr happ hPc trivial
  have hq' : vx_Q Qc XC mc ms free a (U.calling g mk a) o s₂ := hq
  rw [State.frames_setTop' g h.top] at hend
  obtain ⟨g₀, hg0⟩ := Option.isSome_iff_exists.mp h.top
  obtain ⟨r, hr⟩ := State.topJava?_eq_some.mp hg0
  have hr' : (({ U with heap := s₂.heap, slotsUsed := s₂.slotsUsed } : State).setVm s₂.vm).frames = .java g₀ :: r := hr
  rcases hq' with ⟨hqc, L, hfe, hL⟩ | ⟨q, rfl, E, ce, L, hx, hce, hcv, hcl, hW₂, hsm, hL⟩
  · obtain ⟨⟨v, rfl⟩, hW₂, e2, q2, q3, q4, q5, q6⟩ := id hfe
    have e3 : s₂ = ({ (U.calling g mk a).setFrames s₂.frames with heap := s₂.heap, slotsUsed := s₂.slotsUsed } : State).setVm s₂.vm := by
      have : s₂ = ({ s₂ with vm := (U.calling g mk a).vm } : State).setVm s₂.vm := rfl
      rw [e2] at this
      exact this
    obtain ⟨c₂, i₂, len₂, hc₂, hd₂, hf₂⟩ := hend
    have hW' : U.WarmedH s₂.vm := hW₂
    have hcc : c₂ = c := by
      have h1 : s₂.code? g.method = U.code? g.method := by
        rw [State.code?_eq, State.code?_eq, hW'.alike.method?]
      exact Option.some.inj (hc₂.symm.trans (h1.trans h.code))
    subst hcc
    have hlen : len₂ = len := by rw [hdg] at hd₂; cases hd₂; rfl
    subst hlen
    have hs₂ : s₂ = (({ U with heap := s₂.heap, slotsUsed := s₂.slotsUsed } : State).setVm s₂.vm).setTop { g with pc := g.pc + len₂, stack := v.toList ++ g.stack } := by
      refine e3.trans ?_
      rw [hf₂, State.calling_eq h.top, State.setFrames_setFrames, State.setTop_of_frames _ hr', hr]
      rfl
    have hsame : U.sameButNew ({ U with heap := s₂.heap, slotsUsed := s₂.slotsUsed } : State) L mc ms := by
      refine ⟨?_, q2, q3, q4, q5, q6⟩
      obtain ⟨t, ht, -⟩ := State.frames_cons hr
      show ({ U with heap := s₂.heap, slotsUsed := s₂.slotsUsed } : State) = { U.setFrames U.frames with heap := s₂.heap, slotsUsed := s₂.slotsUsed }
      rw [State.setFrames_self ht]
    subst hg
    refine Or.inl ⟨v, ⟨(({ U with heap := s₂.heap, slotsUsed := s₂.slotsUsed } : State).setVm s₂.vm), Ls ++ L, c0 + mc, s0 + ms⟩,
      ⟨X.admits, X.cas, X.clock, X.frames, X.room, X.hears, X.method, X.code, (X.here.setHeapUsed s₂.heap s₂.slotsUsed).setVm hW'.alike, X.tail, State.WarmedH.trans X.warmed hW', X.limits, X.bytes, X.same.trans (hsame.setVm s.vm)⟩,
      ⟨g, mk, s₂, L, rfl, rfl, hqc, rfl, hL, rfl, rfl⟩, ?_⟩
    show Steps p.tables e below _ ((({ U with heap := s₂.heap, slotsUsed := s₂.slotsUsed } : State).setVm s₂.vm).setTop { g with pc := g.pc + len₂, stack := v.toList ++ g.stack })
    rw [← hs₂]
    exact hsteps
  · obtain ⟨e2, q2, q3, q4, q5, q6⟩ := id hsm
    have e3 : s₂ = ({ (U.calling g mk a).setFrames s₂.frames with heap := s₂.heap, slotsUsed := s₂.slotsUsed } : State).setVm s₂.vm := by
      have : s₂ = ({ s₂ with vm := (U.calling g mk a).vm } : State).setVm s₂.vm := rfl
      rw [e2] at this
      exact this
    have hf₂ : s₂.frames = .throwing q :: .java g :: U.frames.tail := hend
    have hW' : U.WarmedH s₂.vm := hW₂
    have hs₂ : s₂ = ((({ U with heap := s₂.heap, slotsUsed := s₂.slotsUsed } : State).setVm s₂.vm).setTop g).pushFrame (.throwing q) := by
      refine e3.trans ?_
      rw [hf₂, State.calling_eq h.top, State.setFrames_setFrames, State.pushFrame, State.frames_setTop _ hr', State.setTop_of_frames _ hr', State.setFrames_setFrames, hr]
      rfl
    have hsame : U.sameButNew ({ U with heap := s₂.heap, slotsUsed := s₂.slotsUsed } : State) L mc ms := by
      refine ⟨?_, q2, q3, q4, q5, q6⟩
      obtain ⟨t, ht, -⟩ := State.frames_cons hr
      show ({ U with heap := s₂.heap, slotsUsed := s₂.slotsUsed } : State) = { U.setFrames U.frames with heap := s₂.heap, slotsUsed := s₂.slotsUsed }
      rw [State.setFrames_self ht]
    subst hg
    refine Or.inr ⟨q, ⟨(({ U with heap := s₂.heap, slotsUsed := s₂.slotsUsed } : State).setVm s₂.vm), Ls ++ L, c0 + mc, s0 + ms⟩,
      ⟨X.admits, X.cas, X.clock, X.frames, X.room, X.hears, X.method, X.code, (X.here.setHeapUsed s₂.heap s₂.slotsUsed).setVm hW'.alike, X.tail, State.WarmedH.trans X.warmed hW', X.limits, X.bytes, X.same.trans (hsame.setVm s.vm)⟩,
      ⟨g, mk, s₂, L, E, ce, rfl, rfl, hx, hce, hcv, hcl, rfl, hL, rfl, rfl⟩, ?_⟩
    show Steps p.tables e below _ (((({ U with heap := s₂.heap, slotsUsed := s₂.slotsUsed } : State).setVm s₂.vm).setTop g).pushFrame (.throwing q))
    rw [← hs₂]
    exact hsteps
end
variable {p : Program} {l : Launch} {e : Env} {R : Room} {s : State} {m : MethodId} {args : Array Value} {below : List Frame} {meth : Method} {c : Code} {T : State} {H : Heap} {locs : List Loc} {cells slots : Nat}
theorem vx_callVX (X : Stand p l e R s m args below meth c T locs cells slots) (hexec : p.tables.exec = Jvm.exec) {own C : String} {index : Nat} {y : MethodName} {bytes : ByteArray} {maxL : Nat} {ret : Option FieldType} {hh : List (Nat × Nat × Nat × Nat)}
    (hown : s.vm.findClass own = some m.cls) (hlink : (Cond.methodLink own index y).before args s = true) (hinst : (Cond.instanceMethod y).before args s = true) (hsel : (Cond.selects C y y).before args s = true)
    (hcode : (Cond.codeWith y bytes maxL ret hh).before args s = true) (hy : y.cls ≠ "java/lang/invoke/MethodHandle" ∧ y.cls ≠ "java/lang/invoke/VarHandle")
    {W9 : Nat} {Pre : Pt → Array Value → Prop} {Post : Pt → Array Value → Option Value → Pt → Prop} {PostX : Pt → Array Value → Addr → Pt → Prop} (hK : vx_Back l R p e below s args y 3 W9 Pre Post PostX)
    {b : Addr} {cellB : Cell} (hcell : T.heap[b]? = some cellB) (hobj : cellB.vm.isStatics = false) (hcls : s.vm.findClass C = some cellB.cls)
    {g : JFrame} (hg : g.method = m) (hsize : g.locals.size = c.maxLocals) {argsL rest : List Value} (hlen : ∀ sig, parseMethodDescriptor y.desc = some sig → argsL.length = sig.parameters.length)
    (hstack : g.stack = argsL.reverse ++ .ref b :: rest) (hW : 2 * g.monitorRoom + (rest.map fun v => v.category).sum ≤ W9) (hdg : decode c.code g.pc = .ok (.invokevirtual index, 3))
    (hpre : ∀ vm₁, s.WarmedH vm₁ → Pre ⟨T.setVm vm₁, locs, cells, slots⟩ (Value.ref b :: argsL).toArray) :
    (∃ (v : Option Value) (vm₁ : Vm) (B : Pt), s.WarmedH vm₁ ∧ Stand p l e R s m args below meth c B.U B.locs B.cells B.slots ∧ Post ⟨T.setVm vm₁, locs, cells, slots⟩ (Value.ref b :: argsL).toArray v B ∧
      ∀ target, Steps p.tables e below (B.U.setTop { g with pc := g.pc + 3, stack := v.toList ++ rest }) target → Steps p.tables e below (T.setTop g) target) ∨
    (∃ (q : Addr) (vm₁ : Vm) (B : Pt), s.WarmedH vm₁ ∧ Stand p l e R s m args below meth c B.U B.locs B.cells B.slots ∧ PostX ⟨T.setVm vm₁, locs, cells, slots⟩ (Value.ref b :: argsL).toArray q B ∧
      Steps p.tables e below (T.setTop g) ((B.U.setTop { g with stack := rest }).pushFrame (.throwing q))) := by
  obtain ⟨mk, methM, hnamed, hmethM, hstM, habM⟩ := Cond.instanceMethod_spec hinst
  obtain ⟨m8, methM', cM, hn8, hmethM', -, -, -, -, -, -, hsigM⟩ := Cond.codeWith_spec hcode
  cases Option.some.inj (hn8.symm.trans hnamed)
  cases hmethM.symm.trans hmethM'
  obtain ⟨c2, r2, m2, q1, q2, q3, q4, kP, hkP, hkPi⟩ := Cond.selects_spec hsel
  cases hcls.symm.trans q1
  cases (State.methodFound?_of_named hnamed hy).symm.trans q2
  cases hnamed.symm.trans q3
  have hselP : selectMethod e.platform s.vm cellB.cls mk = .method mk := by rw [Launch.admits_selectMethod X.admits]; exact q4
  obtain ⟨vm₁, X₁, hstep₁⟩ := X.invokevirtual hexec hown hlink hnamed hmethM hstM hkP hkPi hy (a := b) (cell := cellB) hcell
    (fun z h => by rw [h] at hobj; cases hobj) hselP hmethM habM hkP hkPi (g := g) hg (argsL := argsL) (rest := rest) (hlen _ hsigM) hstack hdg
  rcases hK m meth c ⟨T.setVm vm₁, locs, cells, slots⟩ { g with stack := rest } (.invokevirtual index) mk (Value.ref b :: argsL).toArray X₁ hg hsize hdg hW (X₁.named hnamed) (hpre vm₁ X₁.warmed) with ⟨v, B, X', hpost, hsteps⟩ | ⟨q, B, X', hpost, hsteps⟩
  · exact Or.inl ⟨v, vm₁, B, X₁.warmed, X', hpost, fun target h => hstep₁ _ fun acts => by rw [doInvoke_state]; exact hsteps.trans h⟩
  · exact Or.inr ⟨q, vm₁, B, X₁.warmed, X', hpost, hstep₁ _ fun acts => by rw [doInvoke_state]; exact hsteps⟩
theorem vx_callSX (X : Stand p l e R s m args below meth c T locs cells slots) (hexec : p.tables.exec = Jvm.exec) {own : String} {index : Nat} {y : MethodName} {bytes : ByteArray} {maxL : Nat} {ret : Option FieldType} {hh : List (Nat × Nat × Nat × Nat)}
    (hown : s.vm.findClass own = some m.cls) (hlink : (Cond.methodLink own index y).before args s = true) (hstat : (Cond.static y).before args s = true) (hinit : (Cond.initialized y.cls).before args s = true)
    (hcode : (Cond.codeWith y bytes maxL ret hh).before args s = true) (hy : y.cls ≠ "java/lang/invoke/MethodHandle" ∧ y.cls ≠ "java/lang/invoke/VarHandle")
    {W9 : Nat} {Pre : Pt → Array Value → Prop} {Post : Pt → Array Value → Option Value → Pt → Prop} {PostX : Pt → Array Value → Addr → Pt → Prop} (hK : vx_Back l R p e below s args y 3 W9 Pre Post PostX)
    {g : JFrame} (hg : g.method = m) (hsize : g.locals.size = c.maxLocals) {argsL rest : List Value} (hlen : ∀ sig, parseMethodDescriptor y.desc = some sig → argsL.length = sig.parameters.length)
    (hstack : g.stack = argsL.reverse ++ rest) (hW : 2 * g.monitorRoom + (rest.map fun v => v.category).sum ≤ W9) (hdg : decode c.code g.pc = .ok (.invokestatic index, 3))
    (hpre : ∀ vm₁, s.WarmedH vm₁ → Pre ⟨T.setVm vm₁, locs, cells, slots⟩ argsL.toArray) :
    (∃ (v : Option Value) (vm₁ : Vm) (B : Pt), s.WarmedH vm₁ ∧ Stand p l e R s m args below meth c B.U B.locs B.cells B.slots ∧ Post ⟨T.setVm vm₁, locs, cells, slots⟩ argsL.toArray v B ∧
      ∀ target, Steps p.tables e below (B.U.setTop { g with pc := g.pc + 3, stack := v.toList ++ rest }) target → Steps p.tables e below (T.setTop g) target) ∨
    (∃ (q : Addr) (vm₁ : Vm) (B : Pt), s.WarmedH vm₁ ∧ Stand p l e R s m args below meth c B.U B.locs B.cells B.slots ∧ PostX ⟨T.setVm vm₁, locs, cells, slots⟩ argsL.toArray q B ∧
      Steps p.tables e below (T.setTop g) ((B.U.setTop { g with stack := rest }).pushFrame (.throwing q))) := by
  obtain ⟨mk, methM, cM, hnamed, hmethM, -, -, -, -, -, -, hsigM⟩ := Cond.codeWith_spec hcode
  have hstatic : methM.isStatic = true := Cond.static_spec hnamed hmethM hstat
  obtain ⟨kP, hkP, -⟩ := className_of_methodNamed hnamed
  have hinitP : kP.init = .initialized := Cond.initialized_spec (findClass_of_methodNamed hnamed) hkP hinit
  obtain ⟨vm₁, X₁, hstep₁⟩ := X.invokestatic hexec hown hlink hnamed hmethM hstatic hkP hinitP hy (g := g) hg (argsL := argsL) (rest := rest) (hlen _ hsigM) hstack hdg
  rcases hK m meth c ⟨T.setVm vm₁, locs, cells, slots⟩ { g with stack := rest } (.invokestatic index) mk argsL.toArray X₁ hg hsize hdg hW (X₁.named hnamed) (hpre vm₁ X₁.warmed) with ⟨v, B, X', hpost, hsteps⟩ | ⟨q, B, X', hpost, hsteps⟩
  · exact Or.inl ⟨v, vm₁, B, X₁.warmed, X', hpost, fun target h => hstep₁ _ fun acts => by rw [doInvoke_state]; exact hsteps.trans h⟩
  · exact Or.inr ⟨q, vm₁, B, X₁.warmed, X', hpost, hstep₁ _ fun acts => by rw [doInvoke_state]; exact hsteps⟩
theorem vx_callVW (X : Stand p l e R s m args below meth c T locs cells slots) (hexec : p.tables.exec = Jvm.exec) {own C : String} {index : Nat} {y : MethodName} {bytes : ByteArray} {maxL : Nat} {ret : Option FieldType} {hh : List (Nat × Nat × Nat × Nat)}
    (hown : s.vm.findClass own = some m.cls) (hlink : (Cond.methodLink own index y).before args s = true) (hinst : (Cond.instanceMethod y).before args s = true) (hsel : (Cond.selects C y y).before args s = true)
    (hcode : (Cond.codeWith y bytes maxL ret hh).before args s = true) (hy : y.cls ≠ "java/lang/invoke/MethodHandle" ∧ y.cls ≠ "java/lang/invoke/VarHandle")
    {W9 : Nat} {Pre : Pt → Array Value → Prop} {Post : Pt → Array Value → Option Value → Pt → Prop} (hK : Back l R p e below s args y 3 W9 Pre Post)
    {b : Addr} {cellB : Cell} (hcell : T.heap[b]? = some cellB) (hobj : cellB.vm.isStatics = false) (hcls : s.vm.findClass C = some cellB.cls)
    {g : JFrame} (hg : g.method = m) (hsize : g.locals.size = c.maxLocals) {argsL rest : List Value} (hlen : ∀ sig, parseMethodDescriptor y.desc = some sig → argsL.length = sig.parameters.length)
    (hstack : g.stack = argsL.reverse ++ .ref b :: rest) (hW : 2 * g.monitorRoom + (rest.map fun v => v.category).sum ≤ W9) (hdg : decode c.code g.pc = .ok (.invokevirtual index, 3))
    (hpre : ∀ vm₁, s.WarmedH vm₁ → Pre ⟨T.setVm vm₁, locs, cells, slots⟩ (Value.ref b :: argsL).toArray) :
    ∃ (v : Option Value) (vm₁ : Vm) (B : Pt), s.WarmedH vm₁ ∧ Stand p l e R s m args below meth c B.U B.locs B.cells B.slots ∧ Post ⟨T.setVm vm₁, locs, cells, slots⟩ (Value.ref b :: argsL).toArray v B ∧
      ∀ target, Steps p.tables e below (B.U.setTop { g with pc := g.pc + 3, stack := v.toList ++ rest }) target → Steps p.tables e below (T.setTop g) target := by
  obtain ⟨mk, methM, hnamed, hmethM, hstM, habM⟩ := Cond.instanceMethod_spec hinst
  obtain ⟨m8, methM', cM, hn8, hmethM', -, -, -, -, -, -, hsigM⟩ := Cond.codeWith_spec hcode
  cases Option.some.inj (hn8.symm.trans hnamed)
  cases hmethM.symm.trans hmethM'
  obtain ⟨c2, r2, m2, q1, q2, q3, q4, kP, hkP, hkPi⟩ := Cond.selects_spec hsel
  cases hcls.symm.trans q1
  cases (State.methodFound?_of_named hnamed hy).symm.trans q2
  cases hnamed.symm.trans q3
  have hselP : selectMethod e.platform s.vm cellB.cls mk = .method mk := by rw [Launch.admits_selectMethod X.admits]; exact q4
  obtain ⟨vm₁, X₁, hstep₁⟩ := X.invokevirtual hexec hown hlink hnamed hmethM hstM hkP hkPi hy (a := b) (cell := cellB) hcell
    (fun z h => by rw [h] at hobj; cases hobj) hselP hmethM habM hkP hkPi (g := g) hg (argsL := argsL) (rest := rest) (hlen _ hsigM) hstack hdg
  obtain ⟨v, B, X', hpost, hsteps⟩ := hK m meth c ⟨T.setVm vm₁, locs, cells, slots⟩ { g with stack := rest } (.invokevirtual index) mk (Value.ref b :: argsL).toArray X₁ hg hsize hdg hW (X₁.named hnamed) (hpre vm₁ X₁.warmed)
  exact ⟨v, vm₁, B, X₁.warmed, X', hpost, fun target h => hstep₁ _ fun acts => by rw [doInvoke_state]; exact hsteps.trans h⟩
abbrev vx_CVW (R : Room) (s : State) (args : Array Value) (own C : String) (index : Nat) (y : MethodName) (bytes : ByteArray) (maxL : Nat) (ret : Option FieldType) (hh : List (Nat × Nat × Nat × Nat)) (ws : List Cond) (rm : Room) (mc ms n : Nat) : Prop :=
  (rm.cells = mc ∧ rm.slots = ms ∧ rm.frames + 1 ≤ R.frames ∧ 8 + (maxL + 11) + rm.locals ≤ R.locals ∧ (∀ w ∈ ws, ∀ (a' : Array Value) (U : State), s.WarmedH U.vm → w.before a' U = true) ∧ Cond.codeWith y bytes maxL ret hh ∈ ws) ∧
  (Cond.codeWith y bytes maxL ret hh).before args s = true ∧ (Cond.initialized y.cls).before args s = true ∧ (y.cls ≠ "java/lang/invoke/MethodHandle" ∧ y.cls ≠ "java/lang/invoke/VarHandle") ∧
  (∀ sig, parseMethodDescriptor y.desc = some sig → n = sig.parameters.length) ∧ (Cond.methodLink own index y).before args s = true ∧ (Cond.instanceMethod y).before args s = true ∧ (Cond.selects C y y).before args s = true
theorem vx_cwVW {own C : String} {index maxL mc ms : Nat} {y : MethodName} {bytes : ByteArray} {ret : Option FieldType} {hh : List (Nat × Nat × Nat × Nat)} {Ts ws ws' : List Cond} {rm : Room} (n : Nat) (ht : ∀ w ∈ Ts, w.before args s = true) (hT : GoodIn Ts (wsV own index C y ws)) (hw : ws = Cond.codeWith y bytes maxL ret hh :: ws') (hrc : rm.cells = mc) (hrs : rm.slots = ms)
    (hd : y.cls = C ∧ y.cls ≠ "java/lang/invoke/MethodHandle" ∧ y.cls ≠ "java/lang/invoke/VarHandle" ∧ (parseMethodDescriptor y.desc).map (fun d => d.parameters.length) = some n) (hR : rm.frames + 1 ≤ R.frames ∧ 8 + (maxL + 11) + rm.locals ≤ R.locals) :
    vx_CVW R s args own C index y bytes maxL ret hh ws rm mc ms n := by
  obtain ⟨hC, hd⟩ := hd
  subst hC
  have ok : ∀ w ∈ wsV own index y.cls y ws, w.before args s = true := fun w h => ht w (hT w h).1
  have hG : GoodIn Ts ws := fun w h => hT w (by unfold wsV; exact List.mem_append_right _ h)
  have hc : Cond.codeWith y bytes maxL ret hh ∈ ws := by rw [hw]; exact List.mem_cons_self
  refine ⟨⟨hrc, hrs, hR.1, hR.2, pay_in ht hG, hc⟩, ht _ (hG _ hc).1, ok _ (by simp [wsV]), ⟨hd.1, hd.2.1⟩, fun sig h => ?_, ok _ (by simp [wsV]), ok _ (by simp [wsV]), ok _ (by simp [wsV])⟩
  have h2 := hd.2.2
  rw [h] at h2
  exact (Option.some.inj h2).symm
theorem vx_runVW {y : MethodName} {bytes cc : ByteArray} {maxL nL mc ms n index : Nat} {ret : Option FieldType} {hh : List (Nat × Nat × Nat × Nat)} {ws : List Cond} {rm : Room} {Pc : Array Value → State → Prop} {Qc : Array Value → State → Outcome → State → Prop} {free : Addr → Prop} {Ts : List Cond} {own C : String} {b : Addr} {As rest : List Value} {g : JFrame}
    (S : CallFix p m c cc nL s args Ts own) (hM : Met l y ws rm Pc Qc mc ms free) (cw : vx_CVW R s args own C index y bytes maxL ret hh ws rm mc ms n) (hp : PreV s H C b Pc As)
    (hg : g.method = m) (hn : As.length = n) (hsize : g.locals.size = nL) (hstack : g.stack = As.reverse ++ .ref b :: rest) (hW : 2 * g.monitorRoom + (rest.map fun v => v.category).sum ≤ 8) (hdg : decode cc g.pc = .ok (.invokevirtual index, 3)) (hf : cells + mc ≤ R.cells ∧ slots + ms ≤ R.slots) :
    va_Run p l e R s m args below meth c H locs cells slots mc ms g rest (Qc (Value.ref b :: As).toArray) free := by
  obtain ⟨⟨hrc, hrs, hfr, hlo, hws, hcw⟩, hcode, hini, hy, hlen, hl, hin, hse⟩ := cw
  have hK : Back l R p e below s args y 3 8 (PreOf R mc ms Pc) (PostOf Qc mc ms free) := va_backW (hh := hh) (bytes := bytes) (maxL := maxL) (ret := ret) hM hp.1 hrc hrs hfr hlo hws hcw (fun a' U hW => word_at hW (Or.inl (by first | rfl | simp [Cond.onTables, Cond.keeps, Cond.steady])) hini)
  obtain ⟨hx, hb, hml, ho, -⟩ := S
  obtain ⟨-, ⟨cellB, hcB, hoB, hclB⟩, hPc⟩ := hp
  intro T hT X
  obtain ⟨v, vm₁, ⟨U', l2, c2, s2⟩, hW₁, X', ⟨g', mk, t, L, e1, e2, hq, h1, hL, h2, h3⟩, st⟩ := vx_callVW X hx (C := C) (hh := hh) (bytes := bytes) (maxL := maxL) (ret := ret) ho hl hin hse hcode hy hK (by rw [hT]; exact hcB) hoB hclB hg (hsize.trans hml.symm) (argsL := As) (rest := rest) (fun sig h => hn.trans (hlen sig h)) hstack hW (by rw [hb]; exact hdg)
    (fun vm₁ hW₁ => ⟨hf.1, hf.2, hPc (T.setVm vm₁) hT hW₁⟩)
  dsimp only [Pt.U, Pt.locs, Pt.cells, Pt.slots] at X' e1 e2 h1 h2 h3 st
  subst h1; subst h2; subst h3
  exact ⟨v, (T.setVm vm₁).calling g' mk (Value.ref b :: As).toArray, t, U', L, hT, X', hL, e1, e2, hq, st⟩
section
variable {y : MethodName} {bytes cc : ByteArray} {maxL nL mc ms n index : Nat} {ret : Option FieldType} {ws : List Cond} {rm : Room} {Pc : Array Value → State → Prop} {Qc : Array Value → State → Outcome → State → Prop} {XC : String → State → State → Prop} {free : Addr → Prop} {Ts : List Cond} {own C : String} {b : Addr} {As rest : List Value} {g : JFrame}
theorem vx_runVX {hh : List (Nat × Nat × Nat × Nat)} (S : CallFix p m c cc nL s args Ts own) (hM : vx_Met l y ws rm Pc Qc XC mc ms free) (cw : vx_CVW R s args own C index y bytes maxL ret hh ws rm mc ms n) (hp : PreV s H C b Pc As)
    (hg : g.method = m) (hn : As.length = n) (hsize : g.locals.size = nL) (hstack : g.stack = As.reverse ++ .ref b :: rest) (hW : 2 * g.monitorRoom + (rest.map fun v => v.category).sum ≤ 8) (hdg : decode cc g.pc = .ok (.invokevirtual index, 3)) (hf : cells + mc ≤ R.cells ∧ slots + ms ≤ R.slots) :
    vx_Run p l e R s m args below meth c H locs cells slots mc ms g rest (Qc (Value.ref b :: As).toArray) XC free := by
  obtain ⟨⟨hrc, hrs, hfr, hlo, hws, hcw⟩, hcode, hini, hy, hlen, hl, hin, hse⟩ := cw
  have hK : vx_Back l R p e below s args y 3 8 (PreOf R mc ms Pc) (PostOf Qc mc ms free) (vx_Post XC mc ms free) := vx_backW (hh := hh) (bytes := bytes) (maxL := maxL) (ret := ret) hM hp.1 hrc hrs hfr hlo hws hcw (fun a' U hW => word_at hW (Or.inl (by first | rfl | simp [Cond.onTables, Cond.keeps, Cond.steady])) hini)
  obtain ⟨hx, hb, hml, ho, -⟩ := S
  obtain ⟨-, ⟨cellB, hcB, hoB, hclB⟩, hPc⟩ := hp
  intro T hT X
  rcases vx_callVX X hx (C := C) (hh := hh) (bytes := bytes) (maxL := maxL) (ret := ret) ho hl hin hse hcode hy hK (by rw [hT]; exact hcB) hoB hclB hg (hsize.trans hml.symm) (argsL := As) (rest := rest) (fun sig h => hn.trans (hlen sig h)) hstack hW (by rw [hb]; exact hdg)
    (fun vm₁ hW₁ => ⟨hf.1, hf.2, hPc (T.setVm vm₁) hT hW₁⟩) with ⟨v, vm₁, ⟨U', l2, c2, s2⟩, hW₁, X', ⟨g', mk, t, L, e1, e2, hq, h1, hL, h2, h3⟩, st⟩ | ⟨q, vm₁, ⟨U', l2, c2, s2⟩, hW₁, X', ⟨g', mk, t, L, E, ce, e1, e2, hq, hce, hcv, hcl, h1, hL, h2, h3⟩, st⟩
  · dsimp only [Pt.U, Pt.locs, Pt.cells, Pt.slots] at X' e1 e2 h1 h2 h3 st
    subst h1; subst h2; subst h3
    exact Or.inl ⟨v, (T.setVm vm₁).calling g' mk (Value.ref b :: As).toArray, t, U', L, hT, X', hL, e1, e2, hq, st⟩
  · dsimp only [Pt.U, Pt.locs, Pt.cells, Pt.slots] at X' e1 e2 h1 h2 h3 st hcl
    subst h1; subst h2; subst h3
    exact Or.inr ⟨q, (T.setVm vm₁).calling g' mk (Value.ref b :: As).toArray, t, U', L, E, ce, hT, X', hL, e1, e2, hq, hce, hcv, vx_cls hW₁ hcl, st⟩
theorem vx_runSX {hh : List (Nat × Nat × Nat × Nat)} (S : CallFix p m c cc nL s args Ts own) (hM : vx_Met l y ws rm Pc Qc XC mc ms free) (cw : vx_CSW R s args own index y bytes maxL ret hh ws rm mc ms n) (hp : PreS s H Pc As)
    (hg : g.method = m) (hn : As.length = n) (hsize : g.locals.size = nL) (hstack : g.stack = As.reverse ++ rest) (hW : 2 * g.monitorRoom + (rest.map fun v => v.category).sum ≤ 8) (hdg : decode cc g.pc = .ok (.invokestatic index, 3)) (hf : cells + mc ≤ R.cells ∧ slots + ms ≤ R.slots) :
    vx_Run p l e R s m args below meth c H locs cells slots mc ms g rest (Qc As.toArray) XC free := by
  obtain ⟨⟨hrc, hrs, hfr, hlo, hws, hcw⟩, hcode, hini, hy, hlen, hl, hstt⟩ := cw
  have hK : vx_Back l R p e below s args y 3 8 (PreOf R mc ms Pc) (PostOf Qc mc ms free) (vx_Post XC mc ms free) := vx_backW (hh := hh) (bytes := bytes) (maxL := maxL) (ret := ret) hM hp.1 hrc hrs hfr hlo hws hcw (fun a' U hW => word_at hW (Or.inl (by first | rfl | simp [Cond.onTables, Cond.keeps, Cond.steady])) hini)
  obtain ⟨hx, hb, hml, ho, -⟩ := S
  intro T hT X
  rcases vx_callSX X hx (hh := hh) (bytes := bytes) (maxL := maxL) (ret := ret) ho hl hstt hini hcode hy hK hg (hsize.trans hml.symm) (argsL := As) (rest := rest) (fun sig h => hn.trans (hlen sig h)) hstack hW (by rw [hb]; exact hdg)
    (fun vm₁ hW₁ => ⟨hf.1, hf.2, hp.2 (T.setVm vm₁) hT hW₁⟩) with ⟨v, vm₁, ⟨U', l2, c2, s2⟩, hW₁, X', ⟨g', mk, t, L, e1, e2, hq, h1, hL, h2, h3⟩, st⟩ | ⟨q, vm₁, ⟨U', l2, c2, s2⟩, hW₁, X', ⟨g', mk, t, L, E, ce, e1, e2, hq, hce, hcv, hcl, h1, hL, h2, h3⟩, st⟩
  · dsimp only [Pt.U, Pt.locs, Pt.cells, Pt.slots] at X' e1 e2 h1 h2 h3 st
    subst h1; subst h2; subst h3
    exact Or.inl ⟨v, (T.setVm vm₁).calling g' mk As.toArray, t, U', L, hT, X', hL, e1, e2, hq, st⟩
  · dsimp only [Pt.U, Pt.locs, Pt.cells, Pt.slots] at X' e1 e2 h1 h2 h3 st hcl
    subst h1; subst h2; subst h3
    exact Or.inr ⟨q, (T.setVm vm₁).calling g' mk As.toArray, t, U', L, E, ce, hT, X', hL, e1, e2, hq, hce, hcv, vx_cls hW₁ hcl, st⟩
end
end VXH
theorem vx_ofWH {l : Launch} {y : MethodName} {ws ws' : List Cond} {rm : Room} {Pc : Array Value → State → Prop} {Qc : Array Value → State → Outcome → State → Prop} {XC : String → State → State → Prop} {mc ms : Nat} {free : Addr → Prop} {cc : ByteArray} {maxL : Nat} {ret : Option FieldType} {hh : List (Nat × Nat × Nat × Nat)}
    (hy : plainName y.cls = true) (hw : ws = Cond.codeWith y cc maxL ret hh :: ws')
    (body : ∀ p e s m args below meth c s₁, BodyLoose p l y (headSpec ws rm) cc maxL ret e s m args below meth c s₁ → c.maxLocals = maxL → Pc args s →
      W p l e (headSpec ws rm).room s m args below meth c s.heap [] 0 0 (vx_MQ below Qc XC args s mc ms free) (entryFrame m args maxL)) : vx_Met l y ws rm Pc Qc XC mc ms free := by
  refine MetFree.of_bodyS (code := cc) (maxLocals := maxL) (ret := ret) hy ?_ ?_
  · intro args s m h hn
    obtain ⟨m9, meth, c, hn9, h1, h2, h3, h4, -, h5, h6, -⟩ := Cond.codeWith_spec (atoms_spec (ws := ws) h _ (by rw [hw]; exact List.mem_cons_self))
    cases hn.symm.trans hn9
    exact ⟨meth, c, h1, h2, h3, h4, h5, h6⟩
  · intro p e s m args below meth c s₁ B hml hP _
    have hh0 : s₁.heap = s.heap := by rw [B.state]; rfl
    obtain ⟨t, a1, o, b1, b2, b3⟩ := body p e s m args below meth c s₁ B hml hP s₁ hh0 (Stand.of_body B)
    exact ⟨t, o, a1, b1, b2, b3⟩
/-! ===== END ===== -/
end
section
/-! MEMORY AS A MAP: address -> cell. A method's contract speaks of any map that the heap holds; a write is one turn of the map. -/
abbrev Me : Type := Nat → Option va_E
/-- slots of the fields, classes of arrays, places of the constants: the texts, their bytes, the steps of the marks -/
abbrev me_G : Type := va_G × (ClassId × ClassId × ClassId × ClassId) × (Nat → Nat) × (Nat → Nat) × Nat
def me_P (D : va_G) (w : Me) (H : Heap) : Prop := ∀ (a : Nat) (e : va_E), w a = some e → va_at D vwCl (a, e) H
def me_u (w : Me) (a : Nat) (e : va_E) : Me := fun q => if q = a then some e else w q
theorem me_us (w : Me) (a : Nat) (e : va_E) : me_u w a e a = some e := if_pos rfl
theorem me_un {w : Me} {a q : Nat} {e : va_E} (h : q ≠ a) : me_u w a e q = w q := if_neg h
theorem me_one {D : va_G} {w : Me} {H : Heap} {a : Nat} {e : va_E} (h : me_P D w H) (he : w a = some e) : va_P D vwCl [(a, e)] H := by
  intro k q hk
  match k, hk with
  | 0, hk => cases hk; exact h a e he
  | k + 1, hk => simp at hk
theorem me_lt {D : va_G} {w : Me} {H : Heap} {a : Nat} {e : va_E} (h : me_P D w H) (he : w a = some e) : a < H.size := (h a e he).lt
theorem me_set {D : va_G} {w : Me} {H H1 : Heap} {a : Nat} {e : va_E} (h : me_P D w H) (he : va_at D vwCl (a, e) H1) (oq : ∀ q : Nat, q ≠ a → H1[q]? = H[q]?) : me_P D (me_u w a e) H1 := by
  intro q x hq
  by_cases hqa : q = a
  · subst hqa
    rw [me_us] at hq
    cases hq
    exact he
  · rw [me_un hqa] at hq
    exact (h q x hq).kept (oq q hqa)
theorem me_free {D : va_G} {w : Me} {H : Heap} (h : me_P D w H) : w H.size = none := by
  cases hw : w H.size with
  | none => rfl
  | some e => exact absurd (me_lt h hw) (Nat.lt_irrefl _)
theorem me_ne {w : Me} {a q : Nat} {e : va_E} (hq : w q = none) (he : w a = some e) : a ≠ q := fun h => by rw [h, hq] at he; cases he
abbrev me_T (G : me_G) : List (ClassId × FieldType) := [(G.2.1.1, .int), (G.2.1.2.1, .boolean), (G.2.1.2.2.1, .long), (G.2.1.2.2.2, .object RX1)]
def me_K (G : me_G) (U : State) : Prop := va_K G.1 vwCl (me_T G) U
theorem me_K.moved {G : me_G} {u U : State} (hvm : u.vm.Alike U.vm) (h : me_K G u) : me_K G U := va_K.moved hvm h
/-- cells: an object of a class, rows of numbers, truths, longs, nodes -/
abbrev eO (ci : Nat) (fs : List Value) : va_E := .inr (ci, fs)
abbrev eI (G : me_G) (n : Nat) (f : Nat → Int32) : va_E := .inl (G.2.1.1, n, .inl f)
abbrev eZ (G : me_G) (n : Nat) (f : Nat → Int32) : va_E := .inl (G.2.1.2.1, n, .inl f)
abbrev eJ (G : me_G) (n : Nat) (f : Nat → Int64) : va_E := .inl (G.2.1.2.2.1, n, .inr (.inl f))
abbrev eN (G : me_G) (n : Nat) (f : Nat → Option Nat) : va_E := .inl (G.2.1.2.2.2, n, .inr (.inr (.inr (.inr f))))
/-- the texts of the class: their lengths, their bytes -/
def kq_len : List Nat := [64, 64, 15, 40, 18, 19]
def kq_str (t : String) : List Int32 := t.toList.map (fun ch => nI ch.toNat)
def kq_byt : List (List Int32) := [kq_str "AAAAAA_CEEEEIIII_NOOOOO__UUUUY__aaaaaa_ceeeeiiii_nooooo__uuuuy_y", kq_str "012345_601240124_301234__01241__012345_601240124_301234__01241_4", kq_str "n is not 1 .. 8", kq_str "the tape would have more than 200 octets", kq_str "what is not 0 .. 5", kq_str "which is not 0 or 1"]
def kq_steps : List Int32 := [0, 1, 2, 3, 8, 10, 39]
/-- what the constants hold -/
def Kq (G : me_G) (B : Nat) (U : State) (H : Heap) : Prop :=
  vk_S 6 kq_len kq_byt G.2.2.1 G.2.2.2.1 (fun q => B ≤ q) U H ∧
  (vk_R RX0 26 "AAAAAA_CEEEEIIII_NOOOOO__UUUUY__aaaaaa_ceeeeiiii_nooooo__uuuuy_y" (G.2.2.1 0) U ∧ vk_R RX0 48 "012345_601240124_301234__01241__012345_601240124_301234__01241_4" (G.2.2.1 1) U ∧ vk_R RX4 41 "n is not 1 .. 8" (G.2.2.1 2) U ∧ vk_R RX4 50 "the tape would have more than 200 octets" (G.2.2.1 3) U ∧ vk_R RX4 106 "what is not 0 .. 5" (G.2.2.1 4) U ∧ vk_R RX4 126 "which is not 0 or 1" (G.2.2.1 5) U) ∧
  (va_Z RX0 "MARK_STEPS" "[I" (.ref G.2.2.2.2) (fun q => B ≤ q) U H ∧ va_T .int G.2.2.2.2 7 (fun j => .int (kq_steps.getD j 0)) (fun q => B ≤ q) U H) ∧
  (va_Z RJ0 "COMPACT_STRINGS" "Z" (.int 1) (fun q => B ≤ q) U H ∧ va_Zq RJ3 "SIOOBE_FORMATTER" "Ljava/util/function/BiFunction;" (fun q => B ≤ q) U H) ∧
  (vx_Zq Bundle.tN "UNASSIGNED_STACK" Bundle.steD (fun q => B ≤ q) U H ∧ vx_Zq Bundle.tN "SUPPRESSED_SENTINEL" Bundle.listD (fun q => B ≤ q) U H)
theorem Kq.go {G : me_G} {B : Nat} {s U : State} {H : Heap} {locs : List Loc} (h : Kq G B s s.heap) (hS : va_S (fun q => B ≤ q) s.heap H locs) (hU : U.heap = H) (hW : s.WarmedH U.vm) : Kq G B U U.heap := by
  obtain ⟨h1, ⟨r1, r2, r3, r4, r5, r6⟩, ⟨h2, h3⟩, ⟨h4, h7⟩, h5, h6⟩ := h
  have hv := hW.alike
  rw [hU]
  exact ⟨(h1.kept hS.2.1).moved hv, ⟨r1.warm hW, r2.warm hW, r3.warm hW, r4.warm hW, r5.warm hW, r6.warm hW⟩, ⟨(h2.kept hS.2.1).moved hv, (h3.kept hS.2.1).moved hv⟩, ⟨(h4.kept hS.2.1).moved hv, (h7.kept hS.2.1).moved hv⟩, (h5.kept hS.2.1).moved hv, (h6.kept hS.2.1).moved hv⟩
theorem Kq.blind {G : me_G} {B : Nat} {U : State} {g : JFrame} {mk : MethodId} {a : Array Value} (h : Kq G B U U.heap) : Kq G B (U.calling g mk a) (U.calling g mk a).heap := by
  obtain ⟨h1, ⟨r1, r2, r3, r4, r5, r6⟩, ⟨h2, h3⟩, ⟨h4, h7⟩, h5, h6⟩ := h
  have hv : U.vm.Alike (U.calling g mk a).vm := Vm.Alike.refl U.vm
  have hs : (U.calling g mk a).vm = U.vm := rfl
  exact ⟨h1.moved hv, ⟨r1.same hs, r2.same hs, r3.same hs, r4.same hs, r5.same hs, r6.same hs⟩, ⟨h2.moved hv, h3.moved hv⟩, ⟨h4.moved hv, h7.moved hv⟩, h5.moved hv, h6.moved hv⟩
/-- the start of a method -/
def me_B (G : me_G) (B : Nat) (w : Me) (U : State) : Prop := me_K G U ∧ me_P G.1 w U.heap ∧ Kq G B U U.heap ∧ B ≤ U.heap.size
abbrev me_A (B : Nat) : Nat → Prop := fun q => B ≤ q
abbrev me_W (G : me_G) : Me → State → Prop := fun w t => me_P G.1 w t.heap
/-- contracts: reads that answer a number, a node or null, a long; writers that answer a number, nothing -/
abbrev CtI (l : Launch) (y : MethodName) (cd : Cond) (rm : Room) (G : me_G) (B : Nat) (w : Me) (av : List Value) (post : Int32 → Prop) : Prop := Met l y (cd :: tbG) rm (va_Pc av (me_B G B w)) (vp_Si post) 0 0 (fun _ => False)
abbrev CtQ (l : Launch) (y : MethodName) (cd : Cond) (rm : Room) (G : me_G) (B : Nat) (w : Me) (av : List Value) (post : Option Nat → Prop) : Prop := Met l y (cd :: tbG) rm (va_Pc av (me_B G B w)) (va_Sq post) 0 0 (fun _ => False)
abbrev CtL (l : Launch) (y : MethodName) (cd : Cond) (rm : Room) (G : me_G) (B : Nat) (w : Me) (av : List Value) (post : Int64 → Prop) : Prop := Met l y (cd :: tbG) rm (va_Pc av (me_B G B w)) (vp_Sl post) 0 0 (fun _ => False)
abbrev CtWI (l : Launch) (y : MethodName) (cd : Cond) (rm : Room) (G : me_G) (B : Nat) (w : Me) (av : List Value) (post : Int32 → Me → Prop) (mc ms : Nat) : Prop := Met l y (cd :: tbG) rm (va_Pc av (me_B G B w)) (va_Qi post (me_W G) (me_A B)) mc ms (me_A B)
abbrev CtWV (l : Launch) (y : MethodName) (cd : Cond) (rm : Room) (G : me_G) (B : Nat) (w : Me) (av : List Value) (post : Me → Prop) (mc ms : Nat) : Prop := Met l y (cd :: tbG) rm (va_Pc av (me_B G B w)) (va_Qv post (me_W G) (me_A B)) mc ms (me_A B)
theorem me_Bb {G : me_G} {B : Nat} {w : Me} {av : List Value} : FrameBlind (va_Pc av (me_B G B w)) := fun a U g mk q => ⟨q.1, va_K.moved (u := U) (U := U.calling g mk a) (Vm.Alike.refl U.vm) q.2.1, q.2.2.1, q.2.2.2.1.blind, q.2.2.2.2⟩
/-- what stands through a body: the machine, the code, the class, the words, the tables -/
abbrev Cx (G : me_G) (B : Nat) (p : Program) (s : State) (m : MethodId) (args : Array Value) (c : Code) (cc : ByteArray) (own : String) : Prop :=
  p.tables.exec = Jvm.exec ∧ c.code = cc ∧ s.vm.findClass own = some m.cls ∧ (∀ w ∈ tbG, w.before args s = true) ∧ me_K G s ∧ Kq G B s s.heap ∧ B ≤ s.heap.size
section ME
variable {p : Program} {l : Launch} {e : Env} {R : Room} {s : State} {m : MethodId} {args : Array Value} {below : List Frame} {meth : Method} {c : Code} {H : Heap} {locs : List Loc} {cells slots : Nat} {Q : State → Prop}
variable {cc : ByteArray} {pc : Nat} {ls : Array Slot} {rest : List Value} {G : me_G} {w : Me} {a B : Nat} {own : String}
theorem me_get (C0 : Cx G B p s m args c cc own) (hP : me_P G.1 w H) {C : String} {T : u_T} {N ci index : Nat} {fs : List Value} (he : w a = some (.inr (ci, fs))) (hc : vwCl[ci]? = some (C, T, N)) (hin : ∀ w ∈ u_ws C T N, w ∈ tbG) (k : Nat) (hk : k < N) (hlink : Cond.fieldLink own index (T k).1 (T k).2.1 (T k).2.2.1 ∈ tbG) {v : Value} (hv : fs[k]? = some v) (hdg : decode cc pc = .ok (.getfield index, 3))
    (kk : W p l e R s m args below meth c H locs cells slots Q (F0 m (pc + 3) ls (v :: rest))) : W p l e R s m args below meth c H locs cells slots Q (F0 m pc ls (.ref a :: rest)) :=
  va_get (ws := [(a, .inr (ci, fs))]) C0.1 C0.2.1 C0.2.2.2.1 hin C0.2.2.1 C0.2.2.2.2.1 (me_one hP he) 0 rfl hc k hk (C0.2.2.2.1 _ hlink) (fun _ h => h) hv hdg kk
theorem me_put (C0 : Cx G B p s m args c cc own) (hP : me_P G.1 w H) (hS0 : va_S (me_A B) s.heap H locs) (hB : B ≤ a) {C : String} {T : u_T} {N ci index : Nat} {fs : List Value} (he : w a = some (.inr (ci, fs))) (hc : vwCl[ci]? = some (C, T, N)) (hin : ∀ w ∈ u_ws C T N, w ∈ tbG) (ty0 : Nat → FieldType) (hty : ∀ k, k < N → parseFieldDescriptor (T k).2.2.1 = some (ty0 k)) (hnm : ∀ a, a < N → ∀ b, b < N → a ≠ b → (T a).2.1 ≠ (T b).2.1) (k : Nat) (hk : k < N) (hlink : Cond.fieldLink own index (T k).1 (T k).2.1 (T k).2.2.1 ∈ tbG) (hfin : (T k).2.2.2 = false) {v : Value} (hn : narrow (ty0 k) v = v) (hfit : fits (ty0 k) v = true) (hl : k < fs.length) (hdg : decode cc pc = .ok (.putfield index, 3))
    (kk : ∀ (H : Heap) (locs : List Loc), me_P G.1 (me_u w a (.inr (ci, fs.set k v))) H → va_S (me_A B) s.heap H locs → W p l e R s m args below meth c H locs cells slots Q (F0 m (pc + 3) ls rest)) : W p l e R s m args below meth c H locs cells slots Q (F0 m pc ls (v :: .ref a :: rest)) := by
  obtain ⟨hexec, hb, hown, hts, hK, hKq, hB9⟩ := C0
  have hap := va_apart (own := own) hts hin ty0 hty hnm hK hc
  obtain ⟨r, h1, cell, q1, q2, q3, q4⟩ := hP a _ he
  have hr : r = (C, T, N) := Option.some.inj (h1.symm.trans hc)
  subst hr
  obtain ⟨hS, hfc, kC, hkC, hkind⟩ := hK.1 ci _ hc
  obtain ⟨cf, kf, fi, f, hi, hsl⟩ := hS k hk
  have hlay := hts _ (hin _ (u_in_lay hk))
  unfold u_lay at hlay
  rw [if_neg (by rw [hfin]; decide)] at hlay
  have hst := (u_facts hfc hkC (u_lays hts hin hk) hi).1
  have h6 := u_store hfc hkC hkind hlay hi (hty k hk) hn hfit
  refine W.putK hexec hb (f := f) ⟨hown, hts _ hlink, ⟨_, _, _, hi⟩, hst⟩ (by rw [q2]; exact h6) q1 q3 (by rw [hsl]; exact k2_hasslot (q4 k hk)) rfl rfl hdg fun H' e1 e2 e3 => ?_
  rw [hsl] at e1 ⊢
  exact kk H' _ (me_set hP ⟨_, hc, t_OB.to (V := updV (vp_V fs) k v) ⟨_, e1, q2, q3, t_set q4 hap hk v⟩ (fun j _ => vp_updV_set hl v j)⟩ e3) (hS0.put e2 e3 hB)
theorem me_putF (C0 : Cx G B p s m args c cc own) (hP : me_P G.1 w H) (hS0 : va_S (me_A B) s.heap H locs) (hB : B ≤ a) {C : String} {T : u_T} {N ci index : Nat} {fs : List Value} (he : w a = some (.inr (ci, fs))) (hc : vwCl[ci]? = some (C, T, N)) (hin : ∀ w ∈ u_ws C T N, w ∈ tbG) (ty0 : Nat → FieldType) (hty : ∀ k, k < N → parseFieldDescriptor (T k).2.2.1 = some (ty0 k)) (hnm : ∀ a, a < N → ∀ b, b < N → a ≠ b → (T a).2.1 ≠ (T b).2.1) (k : Nat) (hk : k < N) (hlink : Cond.fieldLink own index (T k).1 (T k).2.1 (T k).2.2.1 ∈ tbG) (hfin : (T k).2.2.2 = true) (hin2 : meth.name = "<init>") (hdecl : (T k).1 = own) {v : Value} (hn : narrow (ty0 k) v = v) (hfit : fits (ty0 k) v = true) (hl : k < fs.length) (hdg : decode cc pc = .ok (.putfield index, 3))
    (kk : ∀ (H : Heap) (locs : List Loc), me_P G.1 (me_u w a (.inr (ci, fs.set k v))) H → va_S (me_A B) s.heap H locs → W p l e R s m args below meth c H locs cells slots Q (F0 m (pc + 3) ls rest)) : W p l e R s m args below meth c H locs cells slots Q (F0 m pc ls (v :: .ref a :: rest)) := by
  obtain ⟨hexec, hb, hown, hts, hK, hKq, hB9⟩ := C0
  have hap := va_apart (own := own) hts hin ty0 hty hnm hK hc
  obtain ⟨r, h1, cell, q1, q2, q3, q4⟩ := hP a _ he
  have hr : r = (C, T, N) := Option.some.inj (h1.symm.trans hc)
  subst hr
  obtain ⟨hS, hfc, kC, hkC, hkind⟩ := hK.1 ci _ hc
  obtain ⟨cf, kf, fi, f, hi, hsl⟩ := hS k hk
  have hlay := hts _ (hin _ (u_in_lay hk))
  unfold u_lay at hlay
  rw [if_pos hfin] at hlay
  have hst := (u_facts hfc hkC (u_lays hts hin hk) hi).1
  have hcf : m.cls = cf := by
    obtain ⟨_, _, c', _, _, _, -, -, hf', -, -, -, hown2, -⟩ := Cond.laysFinal_spec hlay
    have e1 : c' = cf := by have := hi.symm.trans hf'; simp at this; exact this.1.symm
    rw [hdecl] at hown2
    rw [← e1]; exact Option.some.inj (hown.symm.trans hown2)
  have h6 := u_fits hfc hkC hkind (Or.inr hlay) hi (hty k hk) hn hfit
  refine W.putFinK hexec hb hown (hts _ hlink) hi hst hcf hin2 (by rw [q2]; exact h6) q1 q3 (by rw [hsl]; exact k2_hasslot (q4 k hk)) rfl rfl hdg fun H' e1 e2 e3 => ?_
  rw [hsl] at e1 ⊢
  exact kk H' _ (me_set hP ⟨_, hc, t_OB.to (V := updV (vp_V fs) k v) ⟨_, e1, q2, q3, t_set q4 hap hk v⟩ (fun j _ => vp_updV_set hl v j)⟩ e3) (hS0.put e2 e3 hB)
theorem me_iald (C0 : Cx G B p s m args c cc own) (hP : me_P G.1 w H) {n : Nat} {f : Nat → Int32} (he : w a = some (eI G n f)) {i : Int32} (hin : vp_in i n) (hdg : decode cc pc = .ok (.iaload, 1))
    (kk : W p l e R s m args below meth c H locs cells slots Q (F0 m (pc + 1) ls (.int (f i.toNatClampNeg) :: rest))) : W p l e R s m args below meth c H locs cells slots Q (F0 m pc ls (.int i :: .ref a :: rest)) :=
  va_iald (ws := [(a, eI G n f)]) C0.1 C0.2.1 C0.2.2.2.2.1 (me_one hP he) 0 0 rfl rfl hin hdg kk
theorem me_zald (C0 : Cx G B p s m args c cc own) (hP : me_P G.1 w H) {n : Nat} {f : Nat → Int32} (he : w a = some (eZ G n f)) {i : Int32} (hin : vp_in i n) (hdg : decode cc pc = .ok (.baload, 1))
    (kk : W p l e R s m args below meth c H locs cells slots Q (F0 m (pc + 1) ls (.int (f i.toNatClampNeg) :: rest))) : W p l e R s m args below meth c H locs cells slots Q (F0 m pc ls (.int i :: .ref a :: rest)) :=
  va_zald (ws := [(a, eZ G n f)]) C0.1 C0.2.1 C0.2.2.2.2.1 (me_one hP he) 0 1 rfl rfl hin hdg kk
theorem me_lald (C0 : Cx G B p s m args c cc own) (hP : me_P G.1 w H) {n : Nat} {f : Nat → Int64} (he : w a = some (eJ G n f)) {i : Int32} (hin : vp_in i n) (hdg : decode cc pc = .ok (.laload, 1))
    (kk : W p l e R s m args below meth c H locs cells slots Q (F0 m (pc + 1) ls (.long (f i.toNatClampNeg) :: rest))) : W p l e R s m args below meth c H locs cells slots Q (F0 m pc ls (.int i :: .ref a :: rest)) :=
  va_lald (ws := [(a, eJ G n f)]) C0.1 C0.2.1 C0.2.2.2.2.1 (me_one hP he) 0 2 rfl rfl hin hdg kk
theorem me_aald (C0 : Cx G B p s m args c cc own) (hP : me_P G.1 w H) {n : Nat} {f : Nat → Option Nat} (he : w a = some (eN G n f)) {i : Int32} (hin : vp_in i n) (hdg : decode cc pc = .ok (.aaload, 1))
    (kk : W p l e R s m args below meth c H locs cells slots Q (F0 m (pc + 1) ls (va_rf (f i.toNatClampNeg) :: rest))) : W p l e R s m args below meth c H locs cells slots Q (F0 m pc ls (.int i :: .ref a :: rest)) :=
  va_aldq (ws := [(a, eN G n f)]) (C := RX1) C0.1 C0.2.1 C0.2.2.2.2.1 (me_one hP he) 0 3 rfl rfl hin hdg kk
theorem me_ilen (C0 : Cx G B p s m args c cc own) (hP : me_P G.1 w H) {n : Nat} {f : Nat → Int32} (he : w a = some (eI G n f)) (hdg : decode cc pc = .ok (.arraylength, 1))
    (kk : W p l e R s m args below meth c H locs cells slots Q (F0 m (pc + 1) ls (.int (nI n) :: rest))) : W p l e R s m args below meth c H locs cells slots Q (F0 m pc ls (.ref a :: rest)) :=
  va_alen (ws := [(a, eI G n f)]) C0.1 C0.2.1 C0.2.2.2.2.1 (me_one hP he) 0 0 rfl rfl rfl hdg kk
theorem me_nlen (C0 : Cx G B p s m args c cc own) (hP : me_P G.1 w H) {n : Nat} {f : Nat → Option Nat} (he : w a = some (eN G n f)) (hdg : decode cc pc = .ok (.arraylength, 1))
    (kk : W p l e R s m args below meth c H locs cells slots Q (F0 m (pc + 1) ls (.int (nI n) :: rest))) : W p l e R s m args below meth c H locs cells slots Q (F0 m pc ls (.ref a :: rest)) :=
  va_alen (ws := [(a, eN G n f)]) C0.1 C0.2.1 C0.2.2.2.2.1 (me_one hP he) 0 3 rfl rfl rfl hdg kk
theorem me_iast (C0 : Cx G B p s m args c cc own) (hP : me_P G.1 w H) (hS : va_S (me_A B) s.heap H locs) (hB : B ≤ a) {n : Nat} {f : Nat → Int32} (he : w a = some (eI G n f)) {i x : Int32} (hin : vp_in i n) (hdg : decode cc pc = .ok (.iastore, 1))
    (kk : ∀ (H : Heap) (locs : List Loc), me_P G.1 (me_u w a (eI G n (upd f i.toNatClampNeg x))) H → va_S (me_A B) s.heap H locs → W p l e R s m args below meth c H locs cells slots Q (F0 m (pc + 1) ls rest)) : W p l e R s m args below meth c H locs cells slots Q (F0 m pc ls (.int x :: .int i :: .ref a :: rest)) := by
  refine W.iast C0.1 C0.2.1 (hP a _ he) ((C0.2.2.2.2.1.2 0 _ rfl).1 n (fun j => .int (f j))) (fun q => by cases q) (by show ¬ (i < 0 ∨ (arrV _ _ _).slots.size ≤ _); rw [arrV_size]; exact hin) rfl rfl hdg fun H1 e z oq => ?_
  refine kk H1 _ (me_set hP ?_ oq) (hS.put z oq hB)
  show H1[a]? = some (vp_cell _ _)
  rw [e, vp_cell_i, vp_cell_i, arrV_store]
  congr 2
  funext q
  by_cases hq : q = i.toNatClampNeg
  · subst hq; simp [updV, upd]
  · simp [updV, upd, hq]
theorem me_zast (C0 : Cx G B p s m args c cc own) (hP : me_P G.1 w H) (hS : va_S (me_A B) s.heap H locs) (hB : B ≤ a) {n : Nat} {f : Nat → Int32} (he : w a = some (eZ G n f)) {i x : Int32} (hin : vp_in i n) (hx : narrow .boolean (.int x) = .int x) (hdg : decode cc pc = .ok (.bastore, 1))
    (kk : ∀ (H : Heap) (locs : List Loc), me_P G.1 (me_u w a (eZ G n (upd f i.toNatClampNeg x))) H → va_S (me_A B) s.heap H locs → W p l e R s m args below meth c H locs cells slots Q (F0 m (pc + 1) ls rest)) : W p l e R s m args below meth c H locs cells slots Q (F0 m pc ls (.int x :: .int i :: .ref a :: rest)) := by
  refine W.zast C0.1 C0.2.1 (hP a _ he) ((C0.2.2.2.2.1.2 1 _ rfl).1 n (fun j => .int (f j))) (fun q => by cases q) (by show ¬ (i < 0 ∨ (arrV _ _ _).slots.size ≤ _); rw [arrV_size]; exact hin) rfl rfl hdg fun H1 e z oq => ?_
  refine kk H1 _ (me_set hP ?_ oq) (hS.put z oq hB)
  show H1[a]? = some (vp_cell _ _)
  rw [e, vp_cell_i, vp_cell_i, arrV_store]
  congr 2
  funext q
  by_cases hq : q = i.toNatClampNeg
  · subst hq; simp [updV, upd, hx]
  · simp [updV, upd, hq]
theorem me_jast (C0 : Cx G B p s m args c cc own) (hP : me_P G.1 w H) (hS : va_S (me_A B) s.heap H locs) (hB : B ≤ a) {n : Nat} {f : Nat → Int64} (he : w a = some (eJ G n f)) {i : Int32} {x : Int64} (hin : vp_in i n) (hdg : decode cc pc = .ok (.lastore, 1))
    (kk : ∀ (H : Heap) (locs : List Loc), me_P G.1 (me_u w a (eJ G n (vp_updL f i.toNatClampNeg x))) H → va_S (me_A B) s.heap H locs → W p l e R s m args below meth c H locs cells slots Q (F0 m (pc + 1) ls rest)) : W p l e R s m args below meth c H locs cells slots Q (F0 m pc ls (.long x :: .int i :: .ref a :: rest)) := by
  refine W.last C0.1 C0.2.1 (hP a _ he) ((C0.2.2.2.2.1.2 2 _ rfl).1 n (fun j => .long (f j))) (fun q => by cases q) (by show ¬ (i < 0 ∨ (arrV _ _ _).slots.size ≤ _); rw [arrV_size]; exact hin) rfl rfl hdg fun H1 e z oq => ?_
  refine kk H1 _ (me_set hP ?_ oq) (hS.put z oq hB)
  show H1[a]? = some (vp_cell _ _)
  rw [e, vp_cell_l, vp_cell_l, arrV_store]
  congr 2
  funext q
  by_cases hq : q = i.toNatClampNeg
  · subst hq; simp [updV, vp_updL]
  · simp [updV, vp_updL, hq]
theorem me_aast (C0 : Cx G B p s m args c cc own) (hP : me_P G.1 w H) (hS : va_S (me_A B) s.heap H locs) (hB : B ≤ a) {n v : Nat} {vs : List Value} {f : Nat → Option Nat} (he : w a = some (eN G n f)) (hv : w v = some (.inr (0, vs))) {i : Int32} (hin : vp_in i n) (hdg : decode cc pc = .ok (.aastore, 1))
    (kk : ∀ (H : Heap) (locs : List Loc), me_P G.1 (me_u w a (eN G n (va_up f i.toNatClampNeg (some v)))) H → va_S (me_A B) s.heap H locs → W p l e R s m args below meth c H locs cells slots Q (F0 m (pc + 1) ls rest)) : W p l e R s m args below meth c H locs cells slots Q (F0 m pc ls (.ref v :: .int i :: .ref a :: rest)) := by
  have hlt : i.toNatClampNeg < n := Nat.not_le.mp fun q => hin (Or.inr q)
  have h0 : ¬ i < 0 := fun q => hin (Or.inl q)
  obtain ⟨r', hr', cellV, g1, g2, g3, -⟩ := hP v _ hv
  have hcls := (C0.2.2.2.2.1.1 0 (RX1, TX1, 7) rfl).2
  obtain ⟨kA, comp, k1, k2, k3, -⟩ := (C0.2.2.2.2.1.2 3 _ rfl).2
  have hcomp : comp = G.1.1 0 := Option.some.inj (k3.symm.trans hcls.1)
  subst hcomp
  obtain ⟨kC, hkC, -⟩ := hcls.2
  refine W.aast C0.1 C0.2.1 (hP a _ he) (fun q h => by cases h) (fun h => by cases h) k1 k2 rfl hkC ⟨h0, by show _ < (arrV _ _ _).slots.size; rw [arrV_size]; exact hlt⟩ g1 (fun q h => by rw [g3] at h; cases h) (by rw [g2]; exact hkC) (by rw [g2]; exact va_assign hcls) rfl rfl hdg fun H1 e z oq => ?_
  refine kk H1 _ (me_set hP ?_ oq) (hS.put z oq hB)
  show H1[a]? = some (vp_cell _ _)
  rw [e, vp_cell_q, vp_cell_q, arrV_store]
  congr 2
  funext q
  by_cases hq : q = i.toNatClampNeg
  · subst hq; simp [updV, va_up, va_rf]
  · simp [updV, va_up, hq]
theorem me_grow {D : va_G} {H1 : Heap} {x : va_E} (hP : me_P D w H) (hx : va_at D vwCl (H.size, x) H1) (o1 : ∀ q, q < H.size → H1[q]? = H[q]?) : me_P D (me_u w H.size x) H1 := by
  intro q y hq
  by_cases hqa : q = H.size
  · subst hqa
    rw [me_us] at hq
    cases hq
    exact hx
  · rw [me_un hqa] at hq
    exact (hP q y hq).kept (o1 q (me_lt hP hq))
theorem me_new (C0 : Cx G B p s m args c cc own) (hP : me_P G.1 w H) (hS : va_S (me_A B) s.heap H locs) {C : String} {T : u_T} {N ci index : Nat} (hc : vwCl[ci]? = some (C, T, N)) (hin : ∀ w ∈ u_ws C T N, w ∈ tbG) (ty : Nat → FieldType) (hty : ∀ k, k < N → parseFieldDescriptor (T k).2.2.1 = some (ty k)) (hcl : Cond.classLink own index C ∈ tbG) (hinst : Cond.instantiable C N ∈ tbG) (hini : Cond.initialized C ∈ tbG) {fs : List Value} (hfs : ∀ j, j < N → defaultValue (ty j) = vp_V fs j) (hcells : cells + 1 ≤ R.cells) (hslots : slots + N ≤ R.slots) (hdg : decode cc pc = .ok (.new index, 3))
    (kk : ∀ (q : Nat) (H : Heap), w q = none → B ≤ q → me_P G.1 (me_u w q (.inr (ci, fs))) H → va_S (me_A B) s.heap H locs → W p l e R s m args below meth c H locs (cells + 1) (slots + N) Q (F0 m (pc + 3) ls (.ref q :: rest))) : W p l e R s m args below meth c H locs cells slots Q (F0 m pc ls rest) := by
  obtain ⟨hexec, hb, hown, hts, hK, hKq, hB9⟩ := C0
  have hKn := hK.1 ci _ hc
  refine W.newcK hexec hb hown (hts _ hcl) (hts _ hinst) (hts _ hini) rfl hdg hcells hslots hKn.2.1 rfl fun H1 kC hkC e1 z1 o1 => ?_
  refine kk H.size H1 (me_free hP) (Nat.le_trans hB9 hS.1) (me_grow hP ⟨_, hc, (u_born ty hts hin hKn hkC e1 hty).to hfs⟩ o1) ⟨Nat.le_trans hS.1 (by omega), fun x h1 h2 => (o1 x (Nat.lt_of_lt_of_le h1 hS.1)).trans (hS.2.1 x h1 h2), hS.2.2⟩
theorem me_newI (C0 : Cx G B p s m args c cc own) (hP : me_P G.1 w H) (hS : va_S (me_A B) s.heap H locs)  (harr : Cond.arrayClass .int ∈ tbG) {n : Int32} {N : Nat} (hn : ¬ n < 0) (hN : n.toNatClampNeg = N) (hbytes : N * 4 ≤ 536870912) (hcells : cells + 1 ≤ R.cells) (hslots : slots + N ≤ R.slots) (hdg : decode cc pc = .ok (.newarray .int, 2))
    (kk : ∀ (q : Nat) (H : Heap), w q = none → B ≤ q → me_P G.1 (me_u w q (eI G N (fun _ => 0))) H → va_S (me_A B) s.heap H locs → W p l e R s m args below meth c H locs (cells + 1) (slots + N) Q (F0 m (pc + 2) ls (.ref q :: rest))) : W p l e R s m args below meth c H locs cells slots Q (F0 m pc ls (.int n :: rest)) := by
  obtain ⟨hexec, hb, hown, hts, hK, hKq, hB9⟩ := C0
  refine va_newaK (atype := .int) hexec hb (hts _ harr) rfl hdg rfl hn hN hbytes hcells hslots rfl fun H1 cA e1 z1 o1 hAr hNm => ?_
  have hc : cA = G.2.1.1 := Option.some.inj (hNm.symm.trans (hK.2 0 _ rfl).2)
  subst hc
  exact kk H.size H1 (me_free hP) (Nat.le_trans hB9 hS.1) (me_grow hP e1 o1) ⟨Nat.le_trans hS.1 (by omega), fun x h1 h2 => (o1 x (Nat.lt_of_lt_of_le h1 hS.1)).trans (hS.2.1 x h1 h2), hS.2.2⟩
theorem me_newZ (C0 : Cx G B p s m args c cc own) (hP : me_P G.1 w H) (hS : va_S (me_A B) s.heap H locs)  (harr : Cond.arrayClass .boolean ∈ tbG) {n : Int32} {N : Nat} (hn : ¬ n < 0) (hN : n.toNatClampNeg = N) (hbytes : N * 1 ≤ 536870912) (hcells : cells + 1 ≤ R.cells) (hslots : slots + N ≤ R.slots) (hdg : decode cc pc = .ok (.newarray .boolean, 2))
    (kk : ∀ (q : Nat) (H : Heap), w q = none → B ≤ q → me_P G.1 (me_u w q (eZ G N (fun _ => 0))) H → va_S (me_A B) s.heap H locs → W p l e R s m args below meth c H locs (cells + 1) (slots + N) Q (F0 m (pc + 2) ls (.ref q :: rest))) : W p l e R s m args below meth c H locs cells slots Q (F0 m pc ls (.int n :: rest)) := by
  obtain ⟨hexec, hb, hown, hts, hK, hKq, hB9⟩ := C0
  refine va_newaK (atype := .boolean) hexec hb (hts _ harr) rfl hdg rfl hn hN hbytes hcells hslots rfl fun H1 cA e1 z1 o1 hAr hNm => ?_
  have hc : cA = G.2.1.2.1 := Option.some.inj (hNm.symm.trans (hK.2 1 _ rfl).2)
  subst hc
  exact kk H.size H1 (me_free hP) (Nat.le_trans hB9 hS.1) (me_grow hP e1 o1) ⟨Nat.le_trans hS.1 (by omega), fun x h1 h2 => (o1 x (Nat.lt_of_lt_of_le h1 hS.1)).trans (hS.2.1 x h1 h2), hS.2.2⟩
end ME
end
section
/-! CALLS over the memory as a map -/
theorem tb_callG {c2 : Cond} (h : c2 ∈ tbG) : GoodIn tbG (c2 :: tbG) := fun w hw => (List.mem_cons.mp hw).elim (fun e => by rw [e]; exact ⟨h, tb_good h⟩) (fun h2 => ⟨h2, tb_good h2⟩)
/-- what a call needs of its callee -/
abbrev Cl (R : Room) (own : String) (index : Nat) (y : MethodName) (bytes : ByteArray) (maxL : Nat) (ret : Option FieldType) (rm : Room) (mc ms n : Nat) : Prop :=
  Cond.code y bytes maxL ret ∈ tbG ∧ Cond.initialized y.cls ∈ tbG ∧ Cond.methodLink own index y ∈ tbG ∧ (y.cls ≠ "java/lang/invoke/MethodHandle" ∧ y.cls ≠ "java/lang/invoke/VarHandle" ∧ (parseMethodDescriptor y.desc).map (fun d => d.parameters.length) = some n) ∧ (rm.cells = mc ∧ rm.slots = ms) ∧ (rm.frames + 1 ≤ R.frames ∧ 8 + (maxL + 11) + rm.locals ≤ R.locals)
section MC
variable {p : Program} {l : Launch} {e : Env} {R : Room} {s : State} {m : MethodId} {args : Array Value} {below : List Frame} {meth : Method} {c : Code} {H : Heap} {locs : List Loc} {cells slots : Nat} {Q : State → Prop}
variable {cc : ByteArray} {pc : Nat} {ls : Array Slot} {rest st0 As : List Value} {G : me_G} {w : Me} {b B : Nat} {own : String}
variable {y : MethodName} {bytes : ByteArray} {maxL nL n index mc ms : Nat} {ret : Option FieldType} {rm : Room}
theorem me_callB (C0 : Cx G B p s m args c cc own) (h : Cl R own index y bytes maxL ret rm mc ms n) : CallB R s args own index y bytes maxL ret (Cond.code y bytes maxL ret :: tbG) rm mc ms n :=
  callB_of (Ts := tbG) n C0.2.2.2.1 (tb_callG h.1) rfl h.2.2.2.2.1.1 h.2.2.2.2.1.2 (C0.2.2.2.1 _ h.2.1) (C0.2.2.2.1 _ h.2.2.1) h.2.2.2.1 h.2.2.2.2.2
theorem me_fix (C0 : Cx G B p s m args c cc own) (hml : c.maxLocals = nL) : CallFix p m c cc nL s args tbG own := ⟨C0.1, C0.2.1, hml, C0.2.2.1, C0.2.2.2.1⟩
theorem me_recv (C0 : Cx G B p s m args c cc own) (hP : me_P G.1 w H) {ci : Nat} {fs : List Value} {q : vw_C} (he : w b = some (.inr (ci, fs))) (hc : vwCl[ci]? = some q) : ∃ cell : Cell, H[b]? = some cell ∧ cell.vm.isStatics = false ∧ s.vm.findClass q.1 = some cell.cls :=
  va_recv (ws := [(b, .inr (ci, fs))]) (q0 := 0) C0.2.2.2.2.1 (me_one hP he) hc rfl
theorem me_cVi {post : Int32 → Prop} (C0 : Cx G B p s m args c cc own) (hml : c.maxLocals = nL) (hP : me_P G.1 w H) (hS : va_S (me_A B) s.heap H locs) (hM : CtI l y (Cond.code y bytes maxL ret) rm G B w (.ref b :: As) post) (hC : Cl R own index y bytes maxL ret rm 0 0 n) (hi : Cond.instanceMethod y ∈ tbG) (hse : Cond.selects y.cls y y ∈ tbG) {ci : Nat} {fs : List Value} {q : u_T × Nat} (he : w b = some (.inr (ci, fs))) (hc : vwCl[ci]? = some (y.cls, q)) (hn : As.length = n) (hls : ls.size = nL) (hst : st0 = As.reverse ++ .ref b :: rest) (hr : (rest.map fun v => v.category).sum ≤ 8) (hf : cells + 0 ≤ R.cells ∧ slots + 0 ≤ R.slots) (hdg : decode cc pc = .ok (.invokevirtual index, 3))
    (kk : ∀ r : Int32, post r → W p l e R s m args below meth c H locs cells slots Q (F0 m (pc + 3) ls (.int r :: rest))) : W p l e R s m args below meth c H locs cells slots Q (F0 m pc ls st0) :=
  vp_callSi (W.runV (C := y.cls) (g := F0 m pc ls st0) (me_fix C0 hml) hM ⟨me_callB C0 hC, C0.2.2.2.1 _ hi, C0.2.2.2.1 _ hse⟩ ⟨me_Bb, me_recv C0 hP he hc, fun U hU hW => ⟨rfl, me_K.moved hW.alike C0.2.2.2.2.1, by rw [hU]; exact hP, C0.2.2.2.2.2.1.go hS hU hW, by rw [hU]; exact Nat.le_trans C0.2.2.2.2.2.2 hS.1⟩⟩ rfl hn hls hst (lv_room (rest := st0) hr) hdg hf) kk
theorem me_cVk {post : Int32 → Prop} (C0 : Cx G B p s m args c cc own) (hml : c.maxLocals = nL) (hP : me_P G.1 w H) (hS : va_S (me_A B) s.heap H locs) (hM : CtI l y (Cond.code y bytes maxL ret) rm G B w (.ref b :: As) post) (hC : Cl R own index y bytes maxL ret rm 0 0 n) (hi : Cond.instanceMethod y ∈ tbG) (hse : Cond.selects y.cls y y ∈ tbG) (hrv : ∃ cell : Cell, H[b]? = some cell ∧ cell.vm.isStatics = false ∧ s.vm.findClass y.cls = some cell.cls) (hn : As.length = n) (hls : ls.size = nL) (hst : st0 = As.reverse ++ .ref b :: rest) (hr : (rest.map fun v => v.category).sum ≤ 8) (hf : cells + 0 ≤ R.cells ∧ slots + 0 ≤ R.slots) (hdg : decode cc pc = .ok (.invokevirtual index, 3))
    (kk : ∀ r : Int32, post r → W p l e R s m args below meth c H locs cells slots Q (F0 m (pc + 3) ls (.int r :: rest))) : W p l e R s m args below meth c H locs cells slots Q (F0 m pc ls st0) :=
  vp_callSi (W.runV (C := y.cls) (g := F0 m pc ls st0) (me_fix C0 hml) hM ⟨me_callB C0 hC, C0.2.2.2.1 _ hi, C0.2.2.2.1 _ hse⟩ ⟨me_Bb, hrv, fun U hU hW => ⟨rfl, me_K.moved hW.alike C0.2.2.2.2.1, by rw [hU]; exact hP, C0.2.2.2.2.2.1.go hS hU hW, by rw [hU]; exact Nat.le_trans C0.2.2.2.2.2.2 hS.1⟩⟩ rfl hn hls hst (lv_room (rest := st0) hr) hdg hf) kk
theorem me_cVq {post : Option Nat → Prop} (C0 : Cx G B p s m args c cc own) (hml : c.maxLocals = nL) (hP : me_P G.1 w H) (hS : va_S (me_A B) s.heap H locs) (hM : CtQ l y (Cond.code y bytes maxL ret) rm G B w (.ref b :: As) post) (hC : Cl R own index y bytes maxL ret rm 0 0 n) (hi : Cond.instanceMethod y ∈ tbG) (hse : Cond.selects y.cls y y ∈ tbG) {ci : Nat} {fs : List Value} {q : u_T × Nat} (he : w b = some (.inr (ci, fs))) (hc : vwCl[ci]? = some (y.cls, q)) (hn : As.length = n) (hls : ls.size = nL) (hst : st0 = As.reverse ++ .ref b :: rest) (hr : (rest.map fun v => v.category).sum ≤ 8) (hf : cells + 0 ≤ R.cells ∧ slots + 0 ≤ R.slots) (hdg : decode cc pc = .ok (.invokevirtual index, 3))
    (kk : ∀ r : Option Nat, post r → W p l e R s m args below meth c H locs cells slots Q (F0 m (pc + 3) ls (va_rf r :: rest))) : W p l e R s m args below meth c H locs cells slots Q (F0 m pc ls st0) :=
  va_csq (W.runV (C := y.cls) (g := F0 m pc ls st0) (me_fix C0 hml) hM ⟨me_callB C0 hC, C0.2.2.2.1 _ hi, C0.2.2.2.1 _ hse⟩ ⟨me_Bb, me_recv C0 hP he hc, fun U hU hW => ⟨rfl, me_K.moved hW.alike C0.2.2.2.2.1, by rw [hU]; exact hP, C0.2.2.2.2.2.1.go hS hU hW, by rw [hU]; exact Nat.le_trans C0.2.2.2.2.2.2 hS.1⟩⟩ rfl hn hls hst (lv_room (rest := st0) hr) hdg hf) kk
theorem me_cSi {post : Int32 → Prop} (C0 : Cx G B p s m args c cc own) (hml : c.maxLocals = nL) (hP : me_P G.1 w H) (hS : va_S (me_A B) s.heap H locs) (hM : CtI l y (Cond.code y bytes maxL ret) rm G B w As post) (hC : Cl R own index y bytes maxL ret rm 0 0 n) (hs : Cond.static y ∈ tbG) (hn : As.length = n) (hls : ls.size = nL) (hst : st0 = As.reverse ++ rest) (hr : (rest.map fun v => v.category).sum ≤ 8) (hf : cells + 0 ≤ R.cells ∧ slots + 0 ≤ R.slots) (hdg : decode cc pc = .ok (.invokestatic index, 3))
    (kk : ∀ r : Int32, post r → W p l e R s m args below meth c H locs cells slots Q (F0 m (pc + 3) ls (.int r :: rest))) : W p l e R s m args below meth c H locs cells slots Q (F0 m pc ls st0) :=
  vp_callSi (W.runS (g := F0 m pc ls st0) (me_fix C0 hml) hM ⟨me_callB C0 hC, C0.2.2.2.1 _ hs⟩ ⟨me_Bb, fun U hU hW => ⟨rfl, me_K.moved hW.alike C0.2.2.2.2.1, by rw [hU]; exact hP, C0.2.2.2.2.2.1.go hS hU hW, by rw [hU]; exact Nat.le_trans C0.2.2.2.2.2.2 hS.1⟩⟩ rfl hn hls hst (lv_room (rest := st0) hr) hdg hf) kk
theorem me_cSl {post : Int64 → Prop} (C0 : Cx G B p s m args c cc own) (hml : c.maxLocals = nL) (hP : me_P G.1 w H) (hS : va_S (me_A B) s.heap H locs) (hM : CtL l y (Cond.code y bytes maxL ret) rm G B w As post) (hC : Cl R own index y bytes maxL ret rm 0 0 n) (hs : Cond.static y ∈ tbG) (hn : As.length = n) (hls : ls.size = nL) (hst : st0 = As.reverse ++ rest) (hr : (rest.map fun v => v.category).sum ≤ 8) (hf : cells + 0 ≤ R.cells ∧ slots + 0 ≤ R.slots) (hdg : decode cc pc = .ok (.invokestatic index, 3))
    (kk : ∀ r : Int64, post r → W p l e R s m args below meth c H locs cells slots Q (F0 m (pc + 3) ls (.long r :: rest))) : W p l e R s m args below meth c H locs cells slots Q (F0 m pc ls st0) :=
  vp_callSl (W.runS (g := F0 m pc ls st0) (me_fix C0 hml) hM ⟨me_callB C0 hC, C0.2.2.2.1 _ hs⟩ ⟨me_Bb, fun U hU hW => ⟨rfl, me_K.moved hW.alike C0.2.2.2.2.1, by rw [hU]; exact hP, C0.2.2.2.2.2.1.go hS hU hW, by rw [hU]; exact Nat.le_trans C0.2.2.2.2.2.2 hS.1⟩⟩ rfl hn hls hst (lv_room (rest := st0) hr) hdg hf) kk
theorem me_cVwi {post : Int32 → Me → Prop} (C0 : Cx G B p s m args c cc own) (hml : c.maxLocals = nL) (hP : me_P G.1 w H) (hS : va_S (me_A B) s.heap H locs) (hM : CtWI l y (Cond.code y bytes maxL ret) rm G B w (.ref b :: As) post mc ms) (hC : Cl R own index y bytes maxL ret rm mc ms n) (hi : Cond.instanceMethod y ∈ tbG) (hse : Cond.selects y.cls y y ∈ tbG) {ci : Nat} {fs : List Value} {q : u_T × Nat} (he : w b = some (.inr (ci, fs))) (hc : vwCl[ci]? = some (y.cls, q)) (hn : As.length = n) (hls : ls.size = nL) (hst : st0 = As.reverse ++ .ref b :: rest) (hr : (rest.map fun v => v.category).sum ≤ 8) (hf : cells + mc ≤ R.cells ∧ slots + ms ≤ R.slots) (hdg : decode cc pc = .ok (.invokevirtual index, 3))
    (kk : ∀ (r : Int32) (w : Me) (H : Heap) (locs : List Loc), post r w → me_P G.1 w H → va_S (me_A B) s.heap H locs → W p l e R s m args below meth c H locs (cells + mc) (slots + ms) Q (F0 m (pc + 3) ls (.int r :: rest))) : W p l e R s m args below meth c H locs cells slots Q (F0 m pc ls st0) :=
  va_calli (va_runV (C := y.cls) (g := F0 m pc ls st0) (me_fix C0 hml) hM ⟨me_callB C0 hC, C0.2.2.2.1 _ hi, C0.2.2.2.1 _ hse⟩ ⟨me_Bb, me_recv C0 hP he hc, fun U hU hW => ⟨rfl, me_K.moved hW.alike C0.2.2.2.2.1, by rw [hU]; exact hP, C0.2.2.2.2.2.1.go hS hU hW, by rw [hU]; exact Nat.le_trans C0.2.2.2.2.2.2 hS.1⟩⟩ rfl hn hls hst (lv_room (rest := st0) hr) hdg hf) hS (fun _ _ h => h) (fun _ h => h) (fun r u t H1 locs1 ht _ hp hb _ _ hS1 => kk r u H1 locs1 hp (by rw [← ht]; exact hb) hS1)
theorem me_cVwv {post : Me → Prop} (C0 : Cx G B p s m args c cc own) (hml : c.maxLocals = nL) (hP : me_P G.1 w H) (hS : va_S (me_A B) s.heap H locs) (hM : CtWV l y (Cond.code y bytes maxL ret) rm G B w (.ref b :: As) post mc ms) (hC : Cl R own index y bytes maxL ret rm mc ms n) (hi : Cond.instanceMethod y ∈ tbG) (hse : Cond.selects y.cls y y ∈ tbG) {ci : Nat} {fs : List Value} {q : u_T × Nat} (he : w b = some (.inr (ci, fs))) (hc : vwCl[ci]? = some (y.cls, q)) (hn : As.length = n) (hls : ls.size = nL) (hst : st0 = As.reverse ++ .ref b :: rest) (hr : (rest.map fun v => v.category).sum ≤ 8) (hf : cells + mc ≤ R.cells ∧ slots + ms ≤ R.slots) (hdg : decode cc pc = .ok (.invokevirtual index, 3))
    (kk : ∀ (w : Me) (H : Heap) (locs : List Loc), post w → me_P G.1 w H → va_S (me_A B) s.heap H locs → W p l e R s m args below meth c H locs (cells + mc) (slots + ms) Q (F0 m (pc + 3) ls rest)) : W p l e R s m args below meth c H locs cells slots Q (F0 m pc ls st0) :=
  va_callv (va_runV (C := y.cls) (g := F0 m pc ls st0) (me_fix C0 hml) hM ⟨me_callB C0 hC, C0.2.2.2.1 _ hi, C0.2.2.2.1 _ hse⟩ ⟨me_Bb, me_recv C0 hP he hc, fun U hU hW => ⟨rfl, me_K.moved hW.alike C0.2.2.2.2.1, by rw [hU]; exact hP, C0.2.2.2.2.2.1.go hS hU hW, by rw [hU]; exact Nat.le_trans C0.2.2.2.2.2.2 hS.1⟩⟩ rfl hn hls hst (lv_room (rest := st0) hr) hdg hf) hS (fun _ _ h => h) (fun _ h => h) (fun u t H1 locs1 ht _ hp hb _ _ hS1 => kk u H1 locs1 hp (by rw [← ht]; exact hb) hS1)
theorem me_cSwv {post : Me → Prop} (C0 : Cx G B p s m args c cc own) (hml : c.maxLocals = nL) (hP : me_P G.1 w H) (hS : va_S (me_A B) s.heap H locs) (hM : CtWV l y (Cond.code y bytes maxL ret) rm G B w As post mc ms) (hC : Cl R own index y bytes maxL ret rm mc ms n) (hs : Cond.static y ∈ tbG) (hn : As.length = n) (hls : ls.size = nL) (hst : st0 = As.reverse ++ rest) (hr : (rest.map fun v => v.category).sum ≤ 8) (hf : cells + mc ≤ R.cells ∧ slots + ms ≤ R.slots) (hdg : decode cc pc = .ok (.invokestatic index, 3))
    (kk : ∀ (w : Me) (H : Heap) (locs : List Loc), post w → me_P G.1 w H → va_S (me_A B) s.heap H locs → W p l e R s m args below meth c H locs (cells + mc) (slots + ms) Q (F0 m (pc + 3) ls rest)) : W p l e R s m args below meth c H locs cells slots Q (F0 m pc ls st0) :=
  va_callv (va_runS (g := F0 m pc ls st0) (me_fix C0 hml) hM ⟨me_callB C0 hC, C0.2.2.2.1 _ hs⟩ ⟨me_Bb, fun U hU hW => ⟨rfl, me_K.moved hW.alike C0.2.2.2.2.1, by rw [hU]; exact hP, C0.2.2.2.2.2.1.go hS hU hW, by rw [hU]; exact Nat.le_trans C0.2.2.2.2.2.2 hS.1⟩⟩ rfl hn hls hst (lv_room (rest := st0) hr) hdg hf) hS (fun _ _ h => h) (fun _ h => h) (fun u t H1 locs1 ht _ hp hb _ _ hS1 => kk u H1 locs1 hp (by rw [← ht]; exact hb) hS1)
theorem me_cSwi {post : Int32 → Me → Prop} (C0 : Cx G B p s m args c cc own) (hml : c.maxLocals = nL) (hP : me_P G.1 w H) (hS : va_S (me_A B) s.heap H locs) (hM : CtWI l y (Cond.code y bytes maxL ret) rm G B w As post mc ms) (hC : Cl R own index y bytes maxL ret rm mc ms n) (hs : Cond.static y ∈ tbG) (hn : As.length = n) (hls : ls.size = nL) (hst : st0 = As.reverse ++ rest) (hr : (rest.map fun v => v.category).sum ≤ 8) (hf : cells + mc ≤ R.cells ∧ slots + ms ≤ R.slots) (hdg : decode cc pc = .ok (.invokestatic index, 3))
    (kk : ∀ (r : Int32) (w : Me) (H : Heap) (locs : List Loc), post r w → me_P G.1 w H → va_S (me_A B) s.heap H locs → W p l e R s m args below meth c H locs (cells + mc) (slots + ms) Q (F0 m (pc + 3) ls (.int r :: rest))) : W p l e R s m args below meth c H locs cells slots Q (F0 m pc ls st0) :=
  va_calli (va_runS (g := F0 m pc ls st0) (me_fix C0 hml) hM ⟨me_callB C0 hC, C0.2.2.2.1 _ hs⟩ ⟨me_Bb, fun U hU hW => ⟨rfl, me_K.moved hW.alike C0.2.2.2.2.1, by rw [hU]; exact hP, C0.2.2.2.2.2.1.go hS hU hW, by rw [hU]; exact Nat.le_trans C0.2.2.2.2.2.2 hS.1⟩⟩ rfl hn hls hst (lv_room (rest := st0) hr) hdg hf) hS (fun _ _ h => h) (fun _ h => h) (fun r u t H1 locs1 ht _ hp hb _ _ hS1 => kk r u H1 locs1 hp (by rw [← ht]; exact hb) hS1)
theorem me_cVkw {post : Int32 → Me → Prop} (C0 : Cx G B p s m args c cc own) (hml : c.maxLocals = nL) (hP : me_P G.1 w H) (hS : va_S (me_A B) s.heap H locs) (hM : CtWI l y (Cond.code y bytes maxL ret) rm G B w (.ref b :: As) post mc ms) (hC : Cl R own index y bytes maxL ret rm mc ms n) (hi : Cond.instanceMethod y ∈ tbG) (hse : Cond.selects y.cls y y ∈ tbG) (hrv : ∃ cell : Cell, H[b]? = some cell ∧ cell.vm.isStatics = false ∧ s.vm.findClass y.cls = some cell.cls) (hn : As.length = n) (hls : ls.size = nL) (hst : st0 = As.reverse ++ .ref b :: rest) (hr : (rest.map fun v => v.category).sum ≤ 8) (hf : cells + mc ≤ R.cells ∧ slots + ms ≤ R.slots) (hdg : decode cc pc = .ok (.invokevirtual index, 3))
    (kk : ∀ (r : Int32) (w : Me) (H : Heap) (locs : List Loc), post r w → me_P G.1 w H → va_S (me_A B) s.heap H locs → W p l e R s m args below meth c H locs (cells + mc) (slots + ms) Q (F0 m (pc + 3) ls (.int r :: rest))) : W p l e R s m args below meth c H locs cells slots Q (F0 m pc ls st0) :=
  va_calli (va_runV (C := y.cls) (g := F0 m pc ls st0) (me_fix C0 hml) hM ⟨me_callB C0 hC, C0.2.2.2.1 _ hi, C0.2.2.2.1 _ hse⟩ ⟨me_Bb, hrv, fun U hU hW => ⟨rfl, me_K.moved hW.alike C0.2.2.2.2.1, by rw [hU]; exact hP, C0.2.2.2.2.2.1.go hS hU hW, by rw [hU]; exact Nat.le_trans C0.2.2.2.2.2.2 hS.1⟩⟩ rfl hn hls hst (lv_room (rest := st0) hr) hdg hf) hS (fun _ _ h => h) (fun _ h => h) (fun r u t H1 locs1 ht _ hp hb _ _ hS1 => kk r u H1 locs1 hp (by rw [← ht]; exact hb) hS1)
theorem me_cIwv {post : Me → Prop} (C0 : Cx G B p s m args c cc own) (hml : c.maxLocals = nL) (hP : me_P G.1 w H) (hS : va_S (me_A B) s.heap H locs) (hM : CtWV l y (Cond.code y bytes maxL none) rm G B w (.ref b :: As) post mc ms) (hC : Cl R own index y bytes maxL none rm mc ms n) (hi : Cond.instanceMethod y ∈ tbG) (hy : y.name = "<init>") (hn : As.length = n) (hls : ls.size = nL) (hst : st0 = As.reverse ++ .ref b :: rest) (hr : (rest.map fun v => v.category).sum ≤ 8) (hf : cells + mc ≤ R.cells ∧ slots + ms ≤ R.slots) (hdg : decode cc pc = .ok (.invokespecial index, 3))
    (kk : ∀ (w : Me) (H : Heap) (locs : List Loc), post w → me_P G.1 w H → va_S (me_A B) s.heap H locs → W p l e R s m args below meth c H locs (cells + mc) (slots + ms) Q (F0 m (pc + 3) ls rest)) : W p l e R s m args below meth c H locs cells slots Q (F0 m pc ls st0) :=
  va_callv (va_runI (g := F0 m pc ls st0) (me_fix C0 hml) hM ⟨me_callB C0 hC, hy, C0.2.2.2.1 _ hi⟩ ⟨me_Bb, fun U hU hW => ⟨rfl, me_K.moved hW.alike C0.2.2.2.2.1, by rw [hU]; exact hP, C0.2.2.2.2.2.1.go hS hU hW, by rw [hU]; exact Nat.le_trans C0.2.2.2.2.2.2 hS.1⟩⟩ rfl hn hls hst (lv_room (rest := st0) hr) hdg hf) hS (fun _ _ h => h) (fun _ h => h) (fun u t H1 locs1 ht _ hp hb _ _ hS1 => kk u H1 locs1 hp (by rw [← ht]; exact hb) hS1)
/-! ends -/
theorem me_iret {post : Int32 → Prop} {v : Int32} (hx : p.tables.exec = Jvm.exec) (hb : c.code = cc) (hr : meth.sig.returnType = some .int) (hlocks : meth.locks = false) (hH : H = s.heap) (hl : locs = []) (hp : post v) (hdg : decode cc pc = .ok (.ireturn, 1)) : W p l e R s m args below meth c H locs cells slots (MQ below (vp_Si post) args s cells slots (fun _ => False)) (F0 m pc ls [.int v]) :=
  W.iret hx hb hr (fun t ht _ => ⟨v, rfl, hp, by rw [ht, hH]⟩) (fun q hq => by rw [hl] at hq; cases hq) hdg hlocks
theorem me_zret {post : Int32 → Prop} {v : Int32} {ty : FieldType} (hx : p.tables.exec = Jvm.exec) (hb : c.code = cc) (hr : meth.sig.returnType = some ty) (hlocks : meth.locks = false) (hn : narrow ty (.int v) = .int v) (hH : H = s.heap) (hl : locs = []) (hp : post v) (hdg : decode cc pc = .ok (.ireturn, 1)) : W p l e R s m args below meth c H locs cells slots (MQ below (vp_Si post) args s cells slots (fun _ => False)) (F0 m pc ls [.int v]) :=
  W.zret hx hb hr hn (fun t ht _ => ⟨v, rfl, hp, by rw [ht, hH]⟩) (fun q hq => by rw [hl] at hq; cases hq) hdg hlocks
theorem me_qret {post : Option Nat → Prop} {v : Option Nat} {rt : FieldType} (hx : p.tables.exec = Jvm.exec) (hb : c.code = cc) (hr : meth.sig.returnType = some rt) (hrt : (∃ n, rt = .object n) ∨ ∃ t, rt = .array t) (hlocks : meth.locks = false) (hH : H = s.heap) (hl : locs = []) (hp : post v) (hdg : decode cc pc = .ok (.areturn, 1)) : W p l e R s m args below meth c H locs cells slots (MQ below (va_Sq post) args s cells slots (fun _ => False)) (F0 m pc ls [va_rf v]) :=
  W.aret hx hb hr hrt (by cases v with | none => exact Or.inl rfl | some a => exact Or.inr ⟨a, rfl⟩) (fun t ht _ => ⟨v, rfl, hp, by rw [ht, hH]⟩) (fun q hq => by rw [hl] at hq; cases hq) hdg hlocks
theorem me_lret {post : Int64 → Prop} {v : Int64} (hx : p.tables.exec = Jvm.exec) (hb : c.code = cc) (hr : meth.sig.returnType = some .long) (hlocks : meth.locks = false) (hH : H = s.heap) (hl : locs = []) (hp : post v) (hdg : decode cc pc = .ok (.lreturn, 1)) : W p l e R s m args below meth c H locs cells slots (MQ below (vp_Sl post) args s cells slots (fun _ => False)) (F0 m pc ls [.long v]) :=
  W.lret hx hb hr (fun t ht _ => ⟨v, rfl, hp, by rw [ht, hH]⟩) (fun q hq => by rw [hl] at hq; cases hq) hdg hlocks
theorem me_wiret {post : Int32 → Me → Prop} {v : Int32} (w : Me) (hx : p.tables.exec = Jvm.exec) (hb : c.code = cc) (hr : meth.sig.returnType = some .int) (hlocks : meth.locks = false) (hP : me_P G.1 w H) (hS : va_S (me_A B) s.heap H locs) (hc : cells ≤ mc) (hs : slots ≤ ms) (hp : post v w) (hdg : decode cc pc = .ok (.ireturn, 1)) : W p l e R s m args below meth c H locs cells slots (MQ below (va_Qi post (me_W G) (me_A B)) args s mc ms (me_A B)) (F0 m pc ls [.int v]) :=
  W.widen hc hs (W.iret hx hb hr (fun t ht _ => ⟨⟨v, w, rfl, hp, by show me_P _ _ t.heap; rw [ht]; exact hP⟩, hS.F ht⟩) hS.2.2 hdg hlocks)
theorem me_wzret {post : Int32 → Me → Prop} {v : Int32} {ty : FieldType} (w : Me) (hx : p.tables.exec = Jvm.exec) (hb : c.code = cc) (hr : meth.sig.returnType = some ty) (hlocks : meth.locks = false) (hn : narrow ty (.int v) = .int v) (hP : me_P G.1 w H) (hS : va_S (me_A B) s.heap H locs) (hc : cells ≤ mc) (hs : slots ≤ ms) (hp : post v w) (hdg : decode cc pc = .ok (.ireturn, 1)) : W p l e R s m args below meth c H locs cells slots (MQ below (va_Qi post (me_W G) (me_A B)) args s mc ms (me_A B)) (F0 m pc ls [.int v]) :=
  W.widen hc hs (W.zret hx hb hr hn (fun t ht _ => ⟨⟨v, w, rfl, hp, by show me_P _ _ t.heap; rw [ht]; exact hP⟩, hS.F ht⟩) hS.2.2 hdg hlocks)
theorem me_wvret {post : Me → Prop} (w : Me) (hx : p.tables.exec = Jvm.exec) (hb : c.code = cc) (hr : meth.sig.returnType = none) (hlocks : meth.locks = false) (hP : me_P G.1 w H) (hS : va_S (me_A B) s.heap H locs) (hc : cells ≤ mc) (hs : slots ≤ ms) (hp : post w) (hdg : decode cc pc = .ok (.return_, 1)) : W p l e R s m args below meth c H locs cells slots (MQ below (va_Qv post (me_W G) (me_A B)) args s mc ms (me_A B)) (F0 m pc ls []) :=
  W.widen hc hs (W.vret hx hb hr (fun t ht _ => ⟨⟨w, rfl, hp, by show me_P _ _ t.heap; rw [ht]; exact hP⟩, hS.F ht⟩) hS.2.2 hdg hlocks)
end MC
end
section
/-! the same rows where an index or a number is told by a natural number -/
section MN
variable {p : Program} {l : Launch} {e : Env} {R : Room} {s : State} {m : MethodId} {args : Array Value} {below : List Frame} {meth : Method} {c : Code} {H : Heap} {locs : List Loc} {cells slots : Nat} {Q : State → Prop}
variable {cc : ByteArray} {pc : Nat} {ls : Array Slot} {rest : List Value} {G : me_G} {w : Me} {a B : Nat} {own : String}
theorem me_topi {x y : Int32} (h : x = y) (k : W p l e R s m args below meth c H locs cells slots Q (F0 m pc ls (.int y :: rest))) : W p l e R s m args below meth c H locs cells slots Q (F0 m pc ls (.int x :: rest)) := h ▸ k
theorem me_topl {x y : Int64} (h : x = y) (k : W p l e R s m args below meth c H locs cells slots Q (F0 m pc ls (.long y :: rest))) : W p l e R s m args below meth c H locs cells slots Q (F0 m pc ls (.long x :: rest)) := h ▸ k
theorem me_ialdN (C0 : Cx G B p s m args c cc own) (hP : me_P G.1 w H) {n : Nat} {f : Nat → Int32} (he : w a = some (eI G n f)) {i : Nat} (hi : i < n) (hn : n < 2 ^ 31) (hdg : decode cc pc = .ok (.iaload, 1))
    (kk : W p l e R s m args below meth c H locs cells slots Q (F0 m (pc + 1) ls (.int (f i) :: rest))) : W p l e R s m args below meth c H locs cells slots Q (F0 m pc ls (.int (nI i) :: .ref a :: rest)) :=
  me_iald C0 hP he (vp_in_nI hi hn) hdg (by rw [nI_clamp (Nat.lt_trans hi hn)]; exact kk)
theorem me_zaldN (C0 : Cx G B p s m args c cc own) (hP : me_P G.1 w H) {n : Nat} {f : Nat → Int32} (he : w a = some (eZ G n f)) {i : Nat} (hi : i < n) (hn : n < 2 ^ 31) (hdg : decode cc pc = .ok (.baload, 1))
    (kk : W p l e R s m args below meth c H locs cells slots Q (F0 m (pc + 1) ls (.int (f i) :: rest))) : W p l e R s m args below meth c H locs cells slots Q (F0 m pc ls (.int (nI i) :: .ref a :: rest)) :=
  me_zald C0 hP he (vp_in_nI hi hn) hdg (by rw [nI_clamp (Nat.lt_trans hi hn)]; exact kk)
theorem me_aaldN (C0 : Cx G B p s m args c cc own) (hP : me_P G.1 w H) {n : Nat} {f : Nat → Option Nat} (he : w a = some (eN G n f)) {i : Nat} (hi : i < n) (hn : n < 2 ^ 31) (hdg : decode cc pc = .ok (.aaload, 1))
    (kk : W p l e R s m args below meth c H locs cells slots Q (F0 m (pc + 1) ls (va_rf (f i) :: rest))) : W p l e R s m args below meth c H locs cells slots Q (F0 m pc ls (.int (nI i) :: .ref a :: rest)) :=
  me_aald C0 hP he (vp_in_nI hi hn) hdg (by rw [nI_clamp (Nat.lt_trans hi hn)]; exact kk)
theorem me_iastN (C0 : Cx G B p s m args c cc own) (hP : me_P G.1 w H) (hS : va_S (me_A B) s.heap H locs) (hB : B ≤ a) {n : Nat} {f : Nat → Int32} (he : w a = some (eI G n f)) {i : Nat} {x : Int32} (hi : i < n) (hn : n < 2 ^ 31) (hdg : decode cc pc = .ok (.iastore, 1))
    (kk : ∀ (H : Heap) (locs : List Loc), me_P G.1 (me_u w a (eI G n (upd f i x))) H → va_S (me_A B) s.heap H locs → W p l e R s m args below meth c H locs cells slots Q (F0 m (pc + 1) ls rest)) : W p l e R s m args below meth c H locs cells slots Q (F0 m pc ls (.int x :: .int (nI i) :: .ref a :: rest)) :=
  me_iast C0 hP hS hB he (vp_in_nI hi hn) hdg (by rw [nI_clamp (Nat.lt_trans hi hn)]; exact kk)
theorem me_zastN (C0 : Cx G B p s m args c cc own) (hP : me_P G.1 w H) (hS : va_S (me_A B) s.heap H locs) (hB : B ≤ a) {n : Nat} {f : Nat → Int32} (he : w a = some (eZ G n f)) {i : Nat} {x : Int32} (hi : i < n) (hn : n < 2 ^ 31) (hx : narrow .boolean (.int x) = .int x) (hdg : decode cc pc = .ok (.bastore, 1))
    (kk : ∀ (H : Heap) (locs : List Loc), me_P G.1 (me_u w a (eZ G n (upd f i x))) H → va_S (me_A B) s.heap H locs → W p l e R s m args below meth c H locs cells slots Q (F0 m (pc + 1) ls rest)) : W p l e R s m args below meth c H locs cells slots Q (F0 m pc ls (.int x :: .int (nI i) :: .ref a :: rest)) :=
  me_zast C0 hP hS hB he (vp_in_nI hi hn) hx hdg (by rw [nI_clamp (Nat.lt_trans hi hn)]; exact kk)
theorem me_aastN (C0 : Cx G B p s m args c cc own) (hP : me_P G.1 w H) (hS : va_S (me_A B) s.heap H locs) (hB : B ≤ a) {n v : Nat} {vs : List Value} {f : Nat → Option Nat} (he : w a = some (eN G n f)) (hv : w v = some (.inr (0, vs))) {i : Nat} (hi : i < n) (hn : n < 2 ^ 31) (hdg : decode cc pc = .ok (.aastore, 1))
    (kk : ∀ (H : Heap) (locs : List Loc), me_P G.1 (me_u w a (eN G n (va_up f i (some v)))) H → va_S (me_A B) s.heap H locs → W p l e R s m args below meth c H locs cells slots Q (F0 m (pc + 1) ls rest)) : W p l e R s m args below meth c H locs cells slots Q (F0 m pc ls (.ref v :: .int (nI i) :: .ref a :: rest)) :=
  me_aast C0 hP hS hB he hv (vp_in_nI hi hn) hdg (by rw [nI_clamp (Nat.lt_trans hi hn)]; exact kk)
end MN
/-- the map has changed at r and b alone -/
def Ch (w w' : Me) (r b : Nat) : Prop := ∀ q, q ≠ r → q ≠ b → w' q = w q
/-- Integer.compare -/
def icmp (x y : Int32) : Int32 := if x < y then -1 else if x = y then 0 else 1
end
section
/-! A ROW: its object r, its array b, room cap, what it holds -/
def Rw (G : me_G) (w : Me) (r b cap : Nat) (xs : List Int32) : Prop :=
  w r = some (eO 1 [.ref b, .int (nI xs.length)]) ∧ xs.length ≤ cap ∧ cap < 1000 ∧ r ≠ b ∧ ∃ f : Nat → Int32, w b = some (eI G cap f) ∧ ∀ i, i < xs.length → f i = xs.getD i 0
/-- what at(k) answers -/
def ra (xs : List Int32) (k : Int32) : Int32 := if k < 0 then -1 else if k < nI xs.length then xs.getD k.toNatClampNeg 0 else -1
theorem Rw.of {G : me_G} {w w' : Me} {r b cap : Nat} {xs : List Int32} (h : Rw G w r b cap xs) (h1 : w' r = w r) (h2 : w' b = w b) : Rw G w' r b cap xs := by
  obtain ⟨g1, g2, g3, g4, f, g5, g6⟩ := h
  exact ⟨by rw [h1]; exact g1, g2, g3, g4, f, by rw [h2]; exact g5, g6⟩
theorem Rw.len {G : me_G} {w : Me} {r b cap : Nat} {xs : List Int32} (h : Rw G w r b cap xs) : xs.length < 1000 := Nat.lt_of_le_of_lt h.2.1 h.2.2.1
theorem nI_lt_of {x : Int32} {n : Nat} (hn : n < 2 ^ 31) (h0 : ¬ x < 0) (h1 : x < nI n) : x.toNatClampNeg < n ∧ x = nI x.toNatClampNeg := by
  obtain ⟨j, hj, rfl⟩ := nI_of h0
  rw [nI_clamp hj]
  exact ⟨(nI_ltI hj hn).mp h1, rfl⟩
theorem ix_lt {x : Int32} {n cap : Nat} (h0 : ¬ x < 0) (h1 : x < nI n) (hn : n ≤ cap) (hc : cap < 1000) : vp_in x cap := by
  obtain ⟨h2, h3⟩ := nI_lt_of (by omega) h0 h1
  rw [h3]
  exact vp_in_nI (by omega) (by omega)
theorem ra_neg {xs : List Int32} {k : Int32} (h : k < 0) : ra xs k = -1 := if_pos h
theorem ra_big {xs : List Int32} {k : Int32} (h : ¬ k < nI xs.length) : ra xs k = -1 := by
  unfold ra
  by_cases h0 : k < 0
  · rw [if_pos h0]
  · rw [if_neg h0, if_neg h]
theorem ra_in {xs : List Int32} {k : Int32} (h0 : ¬ k < 0) (h : k < nI xs.length) : ra xs k = xs.getD k.toNatClampNeg 0 := by
  unfold ra
  rw [if_neg h0, if_pos h]
theorem ra_nat {xs : List Int32} {i : Nat} (h : i < xs.length) (hl : xs.length < 1000) : ra xs (nI i) = xs.getD i 0 := by
  rw [ra_in (nI_pos (by omega)) (nI_lt h (by omega)), nI_clamp (by omega)]
theorem upd_eq {f : Nat → Int32} {k : Nat} {x : Int32} : upd f k x k = x := by simp [upd]
theorem upd_ne {f : Nat → Int32} {k j : Nat} {x : Int32} (h : j ≠ k) : upd f k x j = f j := by simp [upd, h]
/-- insert(j, item) -/
def rIns (cap : Nat) (xs : List Int32) (j : Nat) (item : Int32) : List Int32 := if cap ≤ xs.length then xs else xs.take j ++ item :: xs.drop j
theorem rIns_len {cap : Nat} {xs : List Int32} {j : Nat} {item : Int32} (h : ¬ cap ≤ xs.length) (hj : j ≤ xs.length) : (rIns cap xs j item).length = xs.length + 1 := by
  unfold rIns; rw [if_neg h]; simp; omega
theorem rIns_get {cap : Nat} {xs : List Int32} {j : Nat} {item : Int32} (h : ¬ cap ≤ xs.length) (hj : j ≤ xs.length) (q : Nat) (hq : q < xs.length + 1) : (rIns cap xs j item).getD q 0 = if q < j then xs.getD q 0 else if q = j then item else xs.getD (q - 1) 0 := by
  unfold rIns
  rw [if_neg h, List.getD_eq_getElem?_getD]
  have ht : (xs.take j).length = j := by simp; omega
  by_cases h1 : q < j
  · rw [if_pos h1, List.getElem?_append_left (by omega), List.getElem?_take_of_lt h1, ← List.getD_eq_getElem?_getD]
  · rw [if_neg h1, List.getElem?_append_right (by omega), ht]
    by_cases h2 : q = j
    · rw [if_pos h2, h2, Nat.sub_self]; rfl
    · rw [if_neg h2, show q - j = (q - j - 1) + 1 by omega, List.getElem?_cons_succ, List.getElem?_drop, ← List.getD_eq_getElem?_getD, show j + (q - j - 1) = q - 1 by omega]
theorem ins_step {f f1 : Nat → Int32} {i n : Nat} (h : ∀ q, f1 q = if i < q ∧ q ≤ n then f (q - 1) else f q) (hi : 0 < i) (hn : i ≤ n) : ∀ q, upd f1 i (f1 (i - 1)) q = if i - 1 < q ∧ q ≤ n then f (q - 1) else f q := by
  intro q
  by_cases hq : q = i
  · rw [hq, upd_eq, h, if_neg (by omega), if_pos (by omega)]
  · rw [upd_ne hq, h]
    by_cases h2 : i < q ∧ q ≤ n
    · rw [if_pos h2, if_pos (by omega)]
    · rw [if_neg h2, if_neg (by omega)]
theorem ins_no {G : me_G} {w : Me} {r b cap : Nat} {xs : List Int32} {j : Nat} {item : Int32} (h : Rw G w r b cap xs) (hc : cap ≤ xs.length) : Rw G w r b cap (rIns cap xs j item) ∧ Ch w w r b := by
  unfold rIns; rw [if_pos hc]; exact ⟨h, fun _ _ _ => rfl⟩
theorem ins_done {G : me_G} {w w1 : Me} {r b cap : Nat} {xs : List Int32} {j : Nat} {item : Int32} {f f1 : Nat → Int32} (hrb : r ≠ b) (hlt : cap < 1000) (hc : ¬ cap ≤ xs.length) (hj : j ≤ xs.length) (hf : ∀ i, i < xs.length → f i = xs.getD i 0) (hff : ∀ q, f1 q = if j < q ∧ q ≤ xs.length then f (q - 1) else f q) (hfr : ∀ q, q ≠ b → w1 q = w q) :
    Rw G (me_u (me_u w1 b (eI G cap (upd f1 j item))) r (eO 1 [.ref b, .int (nI (xs.length + 1))])) r b cap (rIns cap xs j item) ∧ Ch w (me_u (me_u w1 b (eI G cap (upd f1 j item))) r (eO 1 [.ref b, .int (nI (xs.length + 1))])) r b := by
  refine ⟨⟨by rw [rIns_len hc hj]; exact me_us _ _ _, by rw [rIns_len hc hj]; omega, hlt, hrb, _, (me_un (Ne.symm hrb)).trans (me_us _ _ _), ?_⟩, fun q h1 h2 => (me_un h1).trans ((me_un h2).trans (hfr q h2))⟩
  intro q hq
  rw [rIns_len hc hj] at hq
  rw [rIns_get hc hj q hq]
  by_cases h1 : q = j
  · rw [h1, upd_eq, if_neg (by omega), if_pos rfl]
  · rw [upd_ne h1, hff]
    by_cases h2 : q < j
    · rw [if_neg (by omega), if_pos h2]; exact hf q (by omega)
    · rw [if_pos (by omega), if_neg h2, if_neg h1]; exact hf (q - 1) (by omega)
end
section
theorem nI_min {a b : Nat} (ha : a < 2 ^ 31) (hb : b < 2 ^ 31) : (if nI b < nI a then nI b else nI a) = nI (min a b) := by
  by_cases h : b < a
  · rw [if_pos (nI_lt h ha), Nat.min_eq_right (by omega)]
  · rw [if_neg (nI_nlt (by omega) hb), Nat.min_eq_left (by omega)]
theorem nI_max {a b : Nat} (ha : a < 2 ^ 31) (hb : b < 2 ^ 31) : (if nI a < nI b then nI b else nI a) = nI (max a b) := by
  by_cases h : a < b
  · rw [if_pos (nI_lt h hb), Nat.max_eq_right (by omega)]
  · rw [if_neg (nI_nlt (by omega) ha), Nat.max_eq_left (by omega)]
/-- compareWith -/
def cmpL : List Int32 → List Int32 → Int32
  | [], [] => 0
  | [], _ :: _ => -1
  | _ :: _, [] => 1
  | a :: as, b :: bs => if a = b then cmpL as bs else icmp a b
theorem cmpL_at : ∀ (i : Nat) (xs ys : List Int32), i < xs.length → i < ys.length → (∀ q, q < i → xs.getD q 0 = ys.getD q 0) → ¬ xs.getD i 0 = ys.getD i 0 → cmpL xs ys = icmp (xs.getD i 0) (ys.getD i 0)
  | 0, a :: as, b :: bs, _, _, _, h => by simp at h; simp [cmpL, h]
  | i + 1, a :: as, b :: bs, h1, h2, h3, h4 => by
    have h0 : a = b := by have := h3 0 (by omega); simpa using this
    simp only [cmpL, if_pos h0]
    have := cmpL_at i as bs (by simpa using h1) (by simpa using h2) (fun q hq => by have := h3 (q + 1) (by omega); simpa using this) (by simpa using h4)
    simpa using this
  | _, [], _, h, _, _, _ => by simp at h
  | _, _, [], _, h, _, _ => by simp at h
theorem cmpL_end : ∀ (xs ys : List Int32), xs.length < 2 ^ 30 → ys.length < 2 ^ 30 → (∀ q, q < min xs.length ys.length → xs.getD q 0 = ys.getD q 0) → cmpL xs ys = icmp (nI xs.length) (nI ys.length)
  | [], [], _, _, _ => by decide
  | [], b :: bs, _, h, _ => by
    have : nI ([] : List Int32).length < nI (b :: bs).length := nI_lt (by simp) (by omega)
    unfold icmp
    rw [if_pos this]; rfl
  | a :: as, [], h, _, _ => by
    have h1 : ¬ nI (a :: as).length < nI ([] : List Int32).length := nI_nlt (by simp) (by omega)
    have h2 : ¬ nI (a :: as).length = nI ([] : List Int32).length := fun h3 => by have := (nI_eq (by omega) (by simp)).mp h3; simp at this
    unfold icmp
    rw [if_neg h1, if_neg h2]; rfl
  | a :: as, b :: bs, h1, h2, h3 => by
    have h0 : a = b := by have := h3 0 (by simp); simpa using this
    simp only [List.length_cons] at h1 h2 ⊢
    have e := cmpL_end as bs (by omega) (by omega) (fun q hq => by have := h3 (q + 1) (by simp; omega); simpa using this)
    simp only [cmpL, if_pos h0, e]
    unfold icmp
    have x1 : (nI as.length < nI bs.length) ↔ (nI (as.length + 1) < nI (bs.length + 1)) := by rw [nI_ltI (by omega) (by omega), nI_ltI (by omega) (by omega)]; omega
    have x2 : (nI as.length = nI bs.length) ↔ (nI (as.length + 1) = nI (bs.length + 1)) := by rw [nI_eq (by omega) (by omega), nI_eq (by omega) (by omega)]; omega
    simp only [x1, x2]
/-- takeOut -/
def rOut (xs : List Int32) (item : Int32) : List Int32 := xs.filter (fun x => decide (x ≠ item))
theorem take_s {xs : List Int32} {i : Nat} (h : i < xs.length) : xs.take (i + 1) = xs.take i ++ [xs.getD i 0] := by
  rw [List.take_add_one, List.getElem?_eq_getElem h]
  simp [List.getD_eq_getElem?_getD, List.getElem?_eq_getElem h]
theorem rOut_len {xs : List Int32} {item : Int32} {i : Nat} (h : i ≤ xs.length) : (rOut (xs.take i) item).length ≤ i := by
  have h1 := List.length_filter_le (fun x => decide (x ≠ item)) (xs.take i)
  have h2 : (xs.take i).length = i := by simp; omega
  unfold rOut; omega
theorem rOut_same {xs : List Int32} {item : Int32} {i : Nat} (h : i < xs.length) (he : xs.getD i 0 = item) : rOut (xs.take (i + 1)) item = rOut (xs.take i) item := by
  unfold rOut; rw [take_s h, List.filter_append, he]; simp
theorem rOut_more {xs : List Int32} {item : Int32} {i : Nat} (h : i < xs.length) (he : ¬ xs.getD i 0 = item) : rOut (xs.take (i + 1)) item = rOut (xs.take i) item ++ [xs.getD i 0] := by
  unfold rOut; rw [take_s h, List.filter_append]
  have : List.filter (fun x => decide (x ≠ item)) [xs.getD i 0] = [xs.getD i 0] := List.filter_cons_of_pos (by simpa using he)
  rw [this]
theorem getD_l {xs ys : List Int32} {q : Nat} (h : q < xs.length) : (xs ++ ys).getD q 0 = xs.getD q 0 := by
  rw [List.getD_eq_getElem?_getD, List.getElem?_append_left h, ← List.getD_eq_getElem?_getD]
theorem getD_e {xs : List Int32} {a : Int32} : (xs ++ [a]).getD xs.length 0 = a := by
  rw [List.getD_eq_getElem?_getD, List.getElem?_append_right (Nat.le_refl _), Nat.sub_self]; rfl
theorem rOut_put {xs : List Int32} {item : Int32} {i k : Nat} {f1 : Nat → Int32} (hk : k = (rOut (xs.take i) item).length) (h : i < xs.length) (he : ¬ xs.getD i 0 = item) (hlo : ∀ q, q < k → f1 q = (rOut (xs.take i) item).getD q 0) : ∀ q, q < k + 1 → upd f1 k (xs.getD i 0) q = (rOut (xs.take (i + 1)) item).getD q 0 := by
  intro q hq
  rw [rOut_more h he]
  by_cases h1 : q = k
  · rw [h1, upd_eq, hk, getD_e]
  · rw [upd_ne h1, getD_l (by omega)]; exact hlo q (by omega)
theorem out_done {G : me_G} {w w1 : Me} {r b cap : Nat} {xs : List Int32} {item : Int32} {i k : Nat} {f1 : Nat → Int32} (hrb : r ≠ b) (hlt : cap < 1000) (hcap : xs.length ≤ cap) (hi : i = xs.length) (hk : k = (rOut (xs.take i) item).length) (hlo : ∀ q, q < k → f1 q = (rOut (xs.take i) item).getD q 0) (hb1 : w1 b = some (eI G cap f1)) (hfr : ∀ q, q ≠ b → w1 q = w q) :
    Rw G (me_u w1 r (eO 1 [.ref b, .int (nI k)])) r b cap (rOut xs item) ∧ Ch w (me_u w1 r (eO 1 [.ref b, .int (nI k)])) r b := by
  subst hi
  have hle := rOut_len (item := item) (Nat.le_refl xs.length)
  rw [List.take_length] at hk hlo hle
  subst hk
  exact ⟨⟨me_us _ _ _, Nat.le_trans hle hcap, hlt, hrb, f1, (me_un (Ne.symm hrb)).trans hb1, hlo⟩, fun q h1 h2 => (me_un h1).trans (hfr q h2)⟩
theorem cpy_done {G : me_G} {w w1 : Me} {r b cap : Nat} {ys : List Int32} {i : Nat} {f1 : Nat → Int32} (hrb : r ≠ b) (hlt : cap < 1000) (hi : i = min ys.length cap) (hlo : ∀ q, q < i → f1 q = ys.getD q 0) (hb1 : w1 b = some (eI G cap f1)) (hr1 : w1 r = some (eO 1 [.ref b, .int (nI (min ys.length cap))])) (hfr : ∀ q, q ≠ r → q ≠ b → w1 q = w q) :
    Rw G w1 r b cap (ys.take cap) ∧ Ch w w1 r b := by
  have hl : (ys.take cap).length = min ys.length cap := by simp [Nat.min_comm]
  refine ⟨⟨by rw [hl]; exact hr1, by rw [hl]; omega, hlt, hrb, f1, hb1, fun q hq => ?_⟩, hfr⟩
  rw [hl] at hq
  rw [hlo q (by omega), List.getD_eq_getElem?_getD, List.getD_eq_getElem?_getD, List.getElem?_take_of_lt (by omega)]
end
section
set_option maxHeartbeats 4000000 in
set_option maxRecDepth 100000 in
/-- size() -/
theorem c_X2_size (l : Launch) (G : me_G) (B0 : Nat) (w : Me) (r b cap : Nat) (xs : List Int32) (hR : Rw G w r b cap xs) : CtI l yX2_size (Cond.code yX2_size cX2_size 1 (some .int)) ({ frames := 0, cells := 0, slots := 0, locals := 0 }) G B0 w [.ref r] (fun z => z = nI xs.length) := by
  refine Met.ofW (cc := cX2_size) (maxL := 1) (ret := (some .int)) (by decide) rfl ?_
  intro p e s m args below meth c s₁ B hml hv
  obtain ⟨rfl, hK, hP, hKq, hBs⟩ := hv
  have hts := fun w h => atoms_spec (ws := Cond.code yX2_size cX2_size 1 (some .int) :: tbG) B.pre w (List.mem_cons_of_mem _ h)
  have hown : s.vm.findClass RX2 = some m.cls := findClass_of_methodNamed B.named
  have C0 : Cx G B0 p s m _ c cX2_size RX2 := ⟨B.exec, B.bytes, hown, hts, hK, hKq, hBs⟩
  have hS : va_S (me_A B0) s.heap s.heap [] := va_S.rf
  have hl := lv_entry ([.ref r]) (n := 1) (Nat.le_of_ble_eq_true rfl)
  rw [lg_entry_eq]
  generalize (lg_sl ([.ref r]) ++ List.replicate (1 - (lg_sl ([.ref r])).length) Slot.unset).toArray = ls at hl ⊢
  have hl : lv_has ls 1 [(0, .ref r)] := hl
  obtain ⟨h1, hcap, hlt, hrb, f, h2, hf⟩ := hR
  refine lv_aload_n C0.1 C0.2.1 dX2_size_0 rfl (lv_at hl 0 rfl) ?_
  refine me_get C0 hP h1 rfl inX2 1 (by decide) kw_65 rfl dX2_size_1 ?_
  exact me_iret C0.1 C0.2.1 B.returns B.notSynchronized rfl rfl (rfl) dX2_size_4

set_option maxHeartbeats 4000000 in
set_option maxRecDepth 100000 in
/-- at(k) -/
theorem c_X2_at (l : Launch) (G : me_G) (B0 : Nat) (w : Me) (r b cap : Nat) (xs : List Int32) (hR : Rw G w r b cap xs) (k : Int32) : CtI l yX2_at (Cond.code yX2_at cX2_at 2 (some .int)) ({ frames := 0, cells := 0, slots := 0, locals := 0 }) G B0 w [.ref r, .int k] (fun z => z = ra xs k) := by
  refine Met.ofW (cc := cX2_at) (maxL := 2) (ret := (some .int)) (by decide) rfl ?_
  intro p e s m args below meth c s₁ B hml hv
  obtain ⟨rfl, hK, hP, hKq, hBs⟩ := hv
  have hts := fun w h => atoms_spec (ws := Cond.code yX2_at cX2_at 2 (some .int) :: tbG) B.pre w (List.mem_cons_of_mem _ h)
  have hown : s.vm.findClass RX2 = some m.cls := findClass_of_methodNamed B.named
  have C0 : Cx G B0 p s m _ c cX2_at RX2 := ⟨B.exec, B.bytes, hown, hts, hK, hKq, hBs⟩
  have hS : va_S (me_A B0) s.heap s.heap [] := va_S.rf
  have hl := lv_entry ([.ref r, .int k]) (n := 2) (Nat.le_of_ble_eq_true rfl)
  rw [lg_entry_eq]
  generalize (lg_sl ([.ref r, .int k]) ++ List.replicate (2 - (lg_sl ([.ref r, .int k])).length) Slot.unset).toArray = ls at hl ⊢
  have hl : lv_has ls 2 [(0, .ref r), (1, .int k)] := hl
  obtain ⟨h1, hcap, hlt, hrb, f, h2, hf⟩ := hR
  refine lv_iload_n C0.1 C0.2.1 dX2_at_0 rfl (lv_at hl 1 rfl) ?_
  refine lv_if_lt (tgt := 12) C0.1 C0.2.1 dX2_at_1 (by decide) (fun c1 => ?_) (fun c1 => ?_)
  · refine lv_iconst (v := (-1)) C0.1 C0.2.1 dX2_at_12 (by decide) ?_
    refine lv_goto (tgt := 22) C0.1 C0.2.1 dX2_at_13 (by decide) ?_
    exact me_iret C0.1 C0.2.1 B.returns B.notSynchronized rfl rfl ((ra_neg (by assumption)).symm) dX2_at_22
  · refine lv_iload_n C0.1 C0.2.1 dX2_at_4 rfl (lv_at hl 1 rfl) ?_
    refine lv_aload_n C0.1 C0.2.1 dX2_at_5 rfl (lv_at hl 0 rfl) ?_
    refine me_get C0 hP h1 rfl inX2 1 (by decide) kw_65 rfl dX2_at_6 ?_
    refine lv_icmp_lt (tgt := 16) C0.1 C0.2.1 dX2_at_9 (by decide) (fun c2 => ?_) (fun c2 => ?_)
    · refine lv_aload_n C0.1 C0.2.1 dX2_at_16 rfl (lv_at hl 0 rfl) ?_
      refine me_get C0 hP h1 rfl inX2 0 (by decide) kw_64 rfl dX2_at_17 ?_
      refine lv_iload_n C0.1 C0.2.1 dX2_at_20 rfl (lv_at hl 1 rfl) ?_
      refine me_iald C0 hP h2 (ix_lt c1 c2 hcap hlt) dX2_at_21 ?_
      exact me_iret C0.1 C0.2.1 B.returns B.notSynchronized rfl rfl (by rw [ra_in c1 c2]; exact hf _ (nI_lt_of (by omega) c1 c2).1) dX2_at_22
    · refine lv_iconst (v := (-1)) C0.1 C0.2.1 dX2_at_12 (by decide) ?_
      refine lv_goto (tgt := 22) C0.1 C0.2.1 dX2_at_13 (by decide) ?_
      exact me_iret C0.1 C0.2.1 B.returns B.notSynchronized rfl rfl ((ra_big (by assumption)).symm) dX2_at_22

set_option maxHeartbeats 4000000 in
set_option maxRecDepth 100000 in
/-- clear() -/
theorem c_X2_clear (l : Launch) (G : me_G) (B0 : Nat) (w : Me) (r b cap : Nat) (xs : List Int32) (hR : Rw G w r b cap xs) (hBr : B0 ≤ r) (hBb : B0 ≤ b) : CtWV l yX2_clear (Cond.code yX2_clear cX2_clear 1 none) ({ frames := 0, cells := 0, slots := 0, locals := 0 }) G B0 w [.ref r] (fun w' => Rw G w' r b cap [] ∧ Ch w w' r b) 0 0 := by
  refine Met.ofW (cc := cX2_clear) (maxL := 1) (ret := none) (by decide) rfl ?_
  intro p e s m args below meth c s₁ B hml hv
  obtain ⟨rfl, hK, hP, hKq, hBs⟩ := hv
  have hts := fun w h => atoms_spec (ws := Cond.code yX2_clear cX2_clear 1 none :: tbG) B.pre w (List.mem_cons_of_mem _ h)
  have hown : s.vm.findClass RX2 = some m.cls := findClass_of_methodNamed B.named
  have C0 : Cx G B0 p s m _ c cX2_clear RX2 := ⟨B.exec, B.bytes, hown, hts, hK, hKq, hBs⟩
  have hS : va_S (me_A B0) s.heap s.heap [] := va_S.rf
  have hl := lv_entry ([.ref r]) (n := 1) (Nat.le_of_ble_eq_true rfl)
  rw [lg_entry_eq]
  generalize (lg_sl ([.ref r]) ++ List.replicate (1 - (lg_sl ([.ref r])).length) Slot.unset).toArray = ls at hl ⊢
  have hl : lv_has ls 1 [(0, .ref r)] := hl
  obtain ⟨h1, hcap, hlt, hrb, f, h2, hf⟩ := hR
  refine lv_aload_n C0.1 C0.2.1 dX2_clear_0 rfl (lv_at hl 0 rfl) ?_
  refine lv_iconst (v := 0) C0.1 C0.2.1 dX2_clear_1 (by decide) ?_
  refine me_put C0 hP hS hBr h1 rfl inX2 tyX2 tyX2_ok nmX2 1 (by decide) kw_65 rfl rfl rfl (Nat.le_of_ble_eq_true rfl) dX2_clear_2 (fun H locs hP hS => ?_)
  have hP : me_P G.1 (me_u w r (eO 1 [.ref b, .int 0])) H := hP
  exact me_wvret _ C0.1 C0.2.1 B.returns B.notSynchronized hP hS (Nat.le_of_ble_eq_true rfl) (Nat.le_of_ble_eq_true rfl) (⟨⟨me_us _ _ _, Nat.zero_le _, hlt, hrb, f, ((me_un (Ne.symm hrb)).trans h2), fun i hi => absurd hi (Nat.not_lt_zero i)⟩, fun q h _ => me_un h⟩) dX2_clear_5

set_option maxHeartbeats 4000000 in
set_option maxRecDepth 100000 in
/-- Integer.compare -/
theorem c_J6_compare (l : Launch) (G : me_G) (B0 : Nat) (w : Me) (x z : Int32) : CtI l yJ6_compare_7cf53 (Cond.code yJ6_compare_7cf53 cJ6_compare_7cf53 2 (some .int)) ({ frames := 0, cells := 0, slots := 0, locals := 0 }) G B0 w [.int x, .int z] (fun v => v = icmp x z) := by
  refine va_MetF (cc := cJ6_compare_7cf53) (maxL := 2) (ret := (some .int)) (by decide) rfl ?_
  intro p e s m args below meth c s₁ B hml hv
  obtain ⟨rfl, hK, hP, hKq, hBs⟩ := hv
  have hts := fun w h => atoms_spec (ws := Cond.code yJ6_compare_7cf53 cJ6_compare_7cf53 2 (some .int) :: tbG) B.pre w (List.mem_cons_of_mem _ h)
  have hown : s.vm.findClass RJ6 = some m.cls := findClass_of_methodNamed B.named
  have C0 : Cx G B0 p s m _ c cJ6_compare_7cf53 RJ6 := ⟨B.exec, B.bytes, hown, hts, hK, hKq, hBs⟩
  have hS : va_S (me_A B0) s.heap s.heap [] := va_S.rf
  have hl := lv_entry ([.int x, .int z]) (n := 2) (Nat.le_of_ble_eq_true rfl)
  rw [lg_entry_eq]
  generalize (lg_sl ([.int x, .int z]) ++ List.replicate (2 - (lg_sl ([.int x, .int z])).length) Slot.unset).toArray = ls at hl ⊢
  have hl : lv_has ls 2 [(0, .int x), (1, .int z)] := hl
  refine lv_iload_n C0.1 C0.2.1 dJ6_compare_7cf53_0 rfl (lv_at hl 0 rfl) ?_
  refine lv_iload_n C0.1 C0.2.1 dJ6_compare_7cf53_1 rfl (lv_at hl 1 rfl) ?_
  refine lv_icmp_ge (tgt := 9) C0.1 C0.2.1 dJ6_compare_7cf53_2 (by decide) (fun c1 => ?_) (fun c1 => ?_)
  · refine lv_iload_n C0.1 C0.2.1 dJ6_compare_7cf53_9 rfl (lv_at hl 0 rfl) ?_
    refine lv_iload_n C0.1 C0.2.1 dJ6_compare_7cf53_10 rfl (lv_at hl 1 rfl) ?_
    refine lv_icmp_ne (tgt := 18) C0.1 C0.2.1 dJ6_compare_7cf53_11 (by decide) (fun c2 => ?_) (fun c2 => ?_)
    · refine lv_iconst (v := 1) C0.1 C0.2.1 dJ6_compare_7cf53_18 (by decide) ?_
      exact me_iret C0.1 C0.2.1 B.returns B.notSynchronized rfl rfl (by simp [icmp, *]) dJ6_compare_7cf53_19
    · refine lv_iconst (v := 0) C0.1 C0.2.1 dJ6_compare_7cf53_14 (by decide) ?_
      refine lv_goto (tgt := 19) C0.1 C0.2.1 dJ6_compare_7cf53_15 (by decide) ?_
      exact me_iret C0.1 C0.2.1 B.returns B.notSynchronized rfl rfl (by simp [icmp, *]) dJ6_compare_7cf53_19
  · refine lv_iconst (v := (-1)) C0.1 C0.2.1 dJ6_compare_7cf53_5 (by decide) ?_
    refine lv_goto (tgt := 19) C0.1 C0.2.1 dJ6_compare_7cf53_6 (by decide) ?_
    exact me_iret C0.1 C0.2.1 B.returns B.notSynchronized rfl rfl (by simp [icmp, *]) dJ6_compare_7cf53_19

set_option maxHeartbeats 4000000 in
set_option maxRecDepth 100000 in
/-- insert(j, item) -/
theorem c_X2_insert (l : Launch) (G : me_G) (B0 : Nat) (w : Me) (r b cap : Nat) (xs : List Int32) (hR : Rw G w r b cap xs) (hBr : B0 ≤ r) (hBb : B0 ≤ b) (j : Nat) (hj : j ≤ xs.length) (item : Int32) : CtWV l yX2_insert (Cond.code yX2_insert cX2_insert 4 none) ({ frames := 0, cells := 0, slots := 0, locals := 0 }) G B0 w [.ref r, .int (nI j), .int item] (fun w' => Rw G w' r b cap (rIns cap xs j item) ∧ Ch w w' r b) 0 0 := by
  refine Met.ofW (cc := cX2_insert) (maxL := 4) (ret := none) (by decide) rfl ?_
  intro p e s m args below meth c s₁ B hml hv
  obtain ⟨rfl, hK, hP, hKq, hBs⟩ := hv
  have hts := fun w h => atoms_spec (ws := Cond.code yX2_insert cX2_insert 4 none :: tbG) B.pre w (List.mem_cons_of_mem _ h)
  have hown : s.vm.findClass RX2 = some m.cls := findClass_of_methodNamed B.named
  have C0 : Cx G B0 p s m _ c cX2_insert RX2 := ⟨B.exec, B.bytes, hown, hts, hK, hKq, hBs⟩
  have hS : va_S (me_A B0) s.heap s.heap [] := va_S.rf
  have hl := lv_entry ([.ref r, .int (nI j), .int item]) (n := 4) (Nat.le_of_ble_eq_true rfl)
  rw [lg_entry_eq]
  generalize (lg_sl ([.ref r, .int (nI j), .int item]) ++ List.replicate (4 - (lg_sl ([.ref r, .int (nI j), .int item])).length) Slot.unset).toArray = ls at hl ⊢
  have hl : lv_has ls 4 [(0, .ref r), (1, .int (nI j)), (2, .int item)] := hl
  obtain ⟨h1, hcap, hlt, hrb, f, h2, hf⟩ := id hR
  refine lv_iload_n C0.1 C0.2.1 dX2_insert_0 rfl (lv_at hl 1 rfl) ?_
  refine lv_if_lt (tgt := 24) C0.1 C0.2.1 dX2_insert_1 (by decide) (fun c1 => ?_) (fun c1 => ?_)
  · have d1 : j < 0 := (nI_ltI (a := j) (b := 0) (by omega) (by omega)).mp c1
    exact me_wvret _ C0.1 C0.2.1 B.returns B.notSynchronized hP hS (Nat.le_of_ble_eq_true rfl) (Nat.le_of_ble_eq_true rfl) ((absurd c1 (nI_pos (by omega)))) dX2_insert_24
  · have d1 : 0 ≤ j := Nat.not_lt.mp (fun h => c1 (nI_lt (a := j) (b := 0) h (by omega)))
    refine lv_iload_n C0.1 C0.2.1 dX2_insert_4 rfl (lv_at hl 1 rfl) ?_
    refine lv_aload_n C0.1 C0.2.1 dX2_insert_5 rfl (lv_at hl 0 rfl) ?_
    refine me_get C0 hP h1 rfl inX2 1 (by decide) kw_65 rfl dX2_insert_6 ?_
    refine lv_icmp_gt (tgt := 24) C0.1 C0.2.1 dX2_insert_9 (by decide) (fun c2 => ?_) (fun c2 => ?_)
    · have d2 : xs.length < j := (nI_ltI (a := xs.length) (b := j) (by omega) (by omega)).mp c2
      exact me_wvret _ C0.1 C0.2.1 B.returns B.notSynchronized hP hS (Nat.le_of_ble_eq_true rfl) (Nat.le_of_ble_eq_true rfl) (absurd d2 (by omega)) dX2_insert_24
    · have d2 : j ≤ xs.length := Nat.not_lt.mp (fun h => c2 (nI_lt (a := xs.length) (b := j) h (by omega)))
      refine lv_aload_n C0.1 C0.2.1 dX2_insert_12 rfl (lv_at hl 0 rfl) ?_
      refine me_get C0 hP h1 rfl inX2 1 (by decide) kw_65 rfl dX2_insert_13 ?_
      refine lv_aload_n C0.1 C0.2.1 dX2_insert_16 rfl (lv_at hl 0 rfl) ?_
      refine me_get C0 hP h1 rfl inX2 0 (by decide) kw_64 rfl dX2_insert_17 ?_
      refine me_ilen C0 hP h2 dX2_insert_20 ?_
      refine lv_icmp_lt (tgt := 25) C0.1 C0.2.1 dX2_insert_21 (by decide) (fun c3 => ?_) (fun c3 => ?_)
      · have d3 : xs.length < cap := (nI_ltI (a := xs.length) (b := cap) (by omega) (by omega)).mp c3
        refine lv_aload_n C0.1 C0.2.1 dX2_insert_25 rfl (lv_at hl 0 rfl) ?_
        refine me_get C0 hP h1 rfl inX2 1 (by decide) kw_65 rfl dX2_insert_26 ?_
        refine lv_istore_n (lv' := [(3, .int (nI xs.length)), (0, .ref r), (1, .int (nI j)), (2, .int item)]) C0.1 C0.2.1 dX2_insert_29 rfl hl (by decide) rfl (fun ls hl => ?_)
        have loop30 : ∀ (n : Nat) (i : Nat) (w1 : Me) (f1 : Nat → Int32), (j ≤ i) → (i ≤ xs.length) → (w1 b = some (eI G cap f1)) → (∀ q, q ≠ b → w1 q = w q) → (∀ q, f1 q = if i < q ∧ q ≤ xs.length then f (q - 1) else f q) → (i - j) < n → ∀ (H : Heap) (locs : List Loc), ∀ (ls : Array Slot), me_P G.1 w1 H → va_S (me_A B0) s.heap H locs → lv_has ls 4 [(3, .int (nI i)), (0, .ref r), (1, .int (nI j)), (2, .int item)] → W p l e ({ frames := 0, cells := 0, slots := 0, locals := 0 }) s m ([.ref r, .int (nI j), .int item] : List Value).toArray below meth c H locs 0 0 (MQ below (va_Qv (fun w' => Rw G w' r b cap (rIns cap xs j item) ∧ Ch w w' r b) (me_W G) (me_A B0)) ([.ref r, .int (nI j), .int item] : List Value).toArray s 0 0 (me_A B0)) (F0 m 30 ls []) := by
          intro n
          induction n with
          | zero => intro i w1 f1 _ _ _ _ _ hz; exact absurd hz (Nat.not_lt_zero _)
          | succ n ih30 =>
            intro i w1 f1 hji hil hb1 hfr hff hn30 H locs ls hP hS hl
            refine lv_iload_n C0.1 C0.2.1 dX2_insert_30 rfl (lv_at hl 0 rfl) ?_
            refine lv_iload_n C0.1 C0.2.1 dX2_insert_31 rfl (lv_at hl 2 rfl) ?_
            refine lv_icmp_le (tgt := 55) C0.1 C0.2.1 dX2_insert_32 (by decide) (fun c4 => ?_) (fun c4 => ?_)
            · have d4 : i ≤ j := (nI_leI (a := i) (b := j) (by omega) (by omega)).mp c4
              refine lv_aload_n C0.1 C0.2.1 dX2_insert_55 rfl (lv_at hl 1 rfl) ?_
              refine me_get C0 hP ((hfr r hrb).trans h1) rfl inX2 0 (by decide) kw_64 rfl dX2_insert_56 ?_
              refine lv_iload_n C0.1 C0.2.1 dX2_insert_59 rfl (lv_at hl 2 rfl) ?_
              refine lv_iload_n C0.1 C0.2.1 dX2_insert_60 rfl (lv_at hl 3 rfl) ?_
              refine me_iastN C0 hP hS hBb hb1 (i := j) (by omega) (by omega) dX2_insert_61 (fun H locs hP hS => ?_)
              have hP : me_P G.1 (me_u w1 b (eI G cap (upd f1 j item))) H := hP
              refine lv_aload_n C0.1 C0.2.1 dX2_insert_62 rfl (lv_at hl 1 rfl) ?_
              refine lv_dup C0.1 C0.2.1 dX2_insert_63 rfl ?_
              refine me_get C0 hP ((me_un hrb).trans ((hfr r hrb).trans h1)) rfl inX2 1 (by decide) kw_65 rfl dX2_insert_64 ?_
              refine lv_iconst (v := 1) C0.1 C0.2.1 dX2_insert_67 (by decide) ?_
              refine lv_iadd C0.1 C0.2.1 dX2_insert_68 ?_
              refine me_topi (y := nI (xs.length + 1)) (nI_add xs.length 1) ?_
              refine me_put C0 hP hS hBr ((me_un hrb).trans ((hfr r hrb).trans h1)) rfl inX2 tyX2 tyX2_ok nmX2 1 (by decide) kw_65 rfl rfl rfl (Nat.le_of_ble_eq_true rfl) dX2_insert_69 (fun H locs hP hS => ?_)
              have hP : me_P G.1 (me_u (me_u w1 b (eI G cap (upd f1 j item))) r (eO 1 [.ref b, .int (nI (xs.length + 1))])) H := hP
              exact me_wvret _ C0.1 C0.2.1 B.returns B.notSynchronized hP hS (Nat.le_of_ble_eq_true rfl) (Nat.le_of_ble_eq_true rfl) ((by obtain rfl : i = j := (by omega); exact ins_done hrb hlt (by omega) hj hf hff hfr)) dX2_insert_72
            · have d4 : j < i := Nat.not_le.mp (fun h => c4 (nI_le (a := i) (b := j) h (by omega)))
              refine lv_aload_n C0.1 C0.2.1 dX2_insert_35 rfl (lv_at hl 1 rfl) ?_
              refine me_get C0 hP ((hfr r hrb).trans h1) rfl inX2 0 (by decide) kw_64 rfl dX2_insert_36 ?_
              refine lv_iload_n C0.1 C0.2.1 dX2_insert_39 rfl (lv_at hl 0 rfl) ?_
              refine lv_aload_n C0.1 C0.2.1 dX2_insert_40 rfl (lv_at hl 1 rfl) ?_
              refine me_get C0 hP ((hfr r hrb).trans h1) rfl inX2 0 (by decide) kw_64 rfl dX2_insert_41 ?_
              refine lv_iload_n C0.1 C0.2.1 dX2_insert_44 rfl (lv_at hl 0 rfl) ?_
              refine lv_iconst (v := 1) C0.1 C0.2.1 dX2_insert_45 (by decide) ?_
              refine lv_isub C0.1 C0.2.1 dX2_insert_46 ?_
              refine me_topi (y := nI (i - 1)) (pk_sub (a := i) (b := 1) (by omega)) ?_
              refine me_ialdN C0 hP hb1 (i := (i - 1)) (by omega) (by omega) dX2_insert_47 ?_
              refine me_iastN C0 hP hS hBb hb1 (i := i) (by omega) (by omega) dX2_insert_48 (fun H locs hP hS => ?_)
              have hP : me_P G.1 (me_u w1 b (eI G cap (upd f1 i (f1 (i - 1))))) H := hP
              refine lv_iinc (v := nI (i - 1)) (lv' := [(3, .int (nI (i - 1))), (0, .ref r), (1, .int (nI j)), (2, .int item)]) C0.1 C0.2.1 dX2_insert_49 hl (k := 0) rfl (sb_m1 (by omega)) (by decide) rfl (fun ls hl => ?_)
              refine lv_goto (tgt := 30) C0.1 C0.2.1 dX2_insert_52 (by decide) ?_
              exact ih30 (i - 1) _ _ (by omega) (by omega) (me_us _ _ _) (fun q hq => (me_un hq).trans (hfr q hq)) (ins_step hff (by omega) (by omega)) (by omega) _ _ _ hP hS (lv_sub hl [0, 1, 2, 3] rfl)
        exact loop30 (xs.length - j + 1) xs.length w f hj (Nat.le_refl _) h2 (fun _ _ => rfl) (fun q => by rw [if_neg (by omega)]) (Nat.lt_succ_self _) _ _ _ hP hS (lv_sub hl [0, 1, 2, 3] rfl)
      · have d3 : cap ≤ xs.length := Nat.not_lt.mp (fun h => c3 (nI_lt (a := xs.length) (b := cap) h (by omega)))
        exact me_wvret _ C0.1 C0.2.1 B.returns B.notSynchronized hP hS (Nat.le_of_ble_eq_true rfl) (Nat.le_of_ble_eq_true rfl) (ins_no hR (by omega)) dX2_insert_24

set_option maxHeartbeats 4000000 in
set_option maxRecDepth 100000 in
/-- add(item) -/
theorem c_X2_add (l : Launch) (G : me_G) (B0 : Nat) (w : Me) (r b cap : Nat) (xs : List Int32) (hR : Rw G w r b cap xs) (hBr : B0 ≤ r) (hBb : B0 ≤ b) (item : Int32) : CtWV l yX2_add (Cond.code yX2_add cX2_add 2 none) ({ frames := 1, cells := 0, slots := 0, locals := 23 }) G B0 w [.ref r, .int item] (fun w' => Rw G w' r b cap (rIns cap xs xs.length item) ∧ Ch w w' r b) 0 0 := by
  refine Met.ofW (cc := cX2_add) (maxL := 2) (ret := none) (by decide) rfl ?_
  intro p e s m args below meth c s₁ B hml hv
  obtain ⟨rfl, hK, hP, hKq, hBs⟩ := hv
  have hts := fun w h => atoms_spec (ws := Cond.code yX2_add cX2_add 2 none :: tbG) B.pre w (List.mem_cons_of_mem _ h)
  have hown : s.vm.findClass RX2 = some m.cls := findClass_of_methodNamed B.named
  have C0 : Cx G B0 p s m _ c cX2_add RX2 := ⟨B.exec, B.bytes, hown, hts, hK, hKq, hBs⟩
  have hS : va_S (me_A B0) s.heap s.heap [] := va_S.rf
  have hl := lv_entry ([.ref r, .int item]) (n := 2) (Nat.le_of_ble_eq_true rfl)
  rw [lg_entry_eq]
  generalize (lg_sl ([.ref r, .int item]) ++ List.replicate (2 - (lg_sl ([.ref r, .int item])).length) Slot.unset).toArray = ls at hl ⊢
  have hl : lv_has ls 2 [(0, .ref r), (1, .int item)] := hl
  obtain ⟨h1, hcap, hlt, hrb, f, h2, hf⟩ := id hR
  refine lv_aload_n C0.1 C0.2.1 dX2_add_0 rfl (lv_at hl 0 rfl) ?_
  refine lv_aload_n C0.1 C0.2.1 dX2_add_1 rfl (lv_at hl 0 rfl) ?_
  refine me_get C0 hP h1 rfl inX2 1 (by decide) kw_65 rfl dX2_add_2 ?_
  refine lv_iload_n C0.1 C0.2.1 dX2_add_5 rfl (lv_at hl 1 rfl) ?_
  refine me_cVwv (n := 2) C0 hml hP hS (c_X2_insert l G B0 w r b cap xs hR hBr hBb xs.length (Nat.le_refl _) item) ⟨kw_244, kw_32, kw_314, ⟨by decide, by decide, by decide +kernel⟩, ⟨rfl, rfl⟩, ⟨Nat.le_of_ble_eq_true rfl, Nat.le_of_ble_eq_true rfl⟩⟩ kw_242 kw_243 h1 rfl rfl hl.1 rfl (Nat.le_of_ble_eq_true rfl) ⟨Nat.le_of_ble_eq_true rfl, Nat.le_of_ble_eq_true rfl⟩ dX2_add_6 (fun w1 H locs hw1 hP hS => ?_)
  exact me_wvret _ C0.1 C0.2.1 B.returns B.notSynchronized hP hS (Nat.le_of_ble_eq_true rfl) (Nat.le_of_ble_eq_true rfl) (hw1) dX2_add_9

set_option maxHeartbeats 4000000 in
set_option maxRecDepth 100000 in
/-- takeOut(item) -/
theorem c_X2_takeOut (l : Launch) (G : me_G) (B0 : Nat) (w : Me) (r b cap : Nat) (xs : List Int32) (hR : Rw G w r b cap xs) (hBr : B0 ≤ r) (hBb : B0 ≤ b) (item : Int32) : CtWV l yX2_takeOut (Cond.code yX2_takeOut cX2_takeOut 4 none) ({ frames := 0, cells := 0, slots := 0, locals := 0 }) G B0 w [.ref r, .int item] (fun w' => Rw G w' r b cap (rOut xs item) ∧ Ch w w' r b) 0 0 := by
  refine Met.ofW (cc := cX2_takeOut) (maxL := 4) (ret := none) (by decide) rfl ?_
  intro p e s m args below meth c s₁ B hml hv
  obtain ⟨rfl, hK, hP, hKq, hBs⟩ := hv
  have hts := fun w h => atoms_spec (ws := Cond.code yX2_takeOut cX2_takeOut 4 none :: tbG) B.pre w (List.mem_cons_of_mem _ h)
  have hown : s.vm.findClass RX2 = some m.cls := findClass_of_methodNamed B.named
  have C0 : Cx G B0 p s m _ c cX2_takeOut RX2 := ⟨B.exec, B.bytes, hown, hts, hK, hKq, hBs⟩
  have hS : va_S (me_A B0) s.heap s.heap [] := va_S.rf
  have hl := lv_entry ([.ref r, .int item]) (n := 4) (Nat.le_of_ble_eq_true rfl)
  rw [lg_entry_eq]
  generalize (lg_sl ([.ref r, .int item]) ++ List.replicate (4 - (lg_sl ([.ref r, .int item])).length) Slot.unset).toArray = ls at hl ⊢
  have hl : lv_has ls 4 [(0, .ref r), (1, .int item)] := hl
  obtain ⟨h1, hcap, hlt, hrb, f, h2, hf⟩ := id hR
  refine lv_iconst (v := 0) C0.1 C0.2.1 dX2_takeOut_0 (by decide) ?_
  refine lv_istore_n (lv' := [(2, .int 0), (0, .ref r), (1, .int item)]) C0.1 C0.2.1 dX2_takeOut_1 rfl hl (by decide) rfl (fun ls hl => ?_)
  refine lv_iconst (v := 0) C0.1 C0.2.1 dX2_takeOut_2 (by decide) ?_
  refine lv_istore_n (lv' := [(3, .int 0), (2, .int 0), (0, .ref r), (1, .int item)]) C0.1 C0.2.1 dX2_takeOut_3 rfl hl (by decide) rfl (fun ls hl => ?_)
  have loop4 : ∀ (n : Nat) (i k : Nat) (w1 : Me) (f1 : Nat → Int32), (i ≤ xs.length) → (k = (rOut (xs.take i) item).length) → (w1 b = some (eI G cap f1)) → (∀ q, q ≠ b → w1 q = w q) → (∀ q, q < k → f1 q = (rOut (xs.take i) item).getD q 0) → (∀ q, i ≤ q → q < xs.length → f1 q = xs.getD q 0) → (xs.length - i) < n → ∀ (H : Heap) (locs : List Loc), ∀ (ls : Array Slot), me_P G.1 w1 H → va_S (me_A B0) s.heap H locs → lv_has ls 4 [(3, .int (nI i)), (2, .int (nI k)), (0, .ref r), (1, .int item)] → W p l e ({ frames := 0, cells := 0, slots := 0, locals := 0 }) s m ([.ref r, .int item] : List Value).toArray below meth c H locs 0 0 (MQ below (va_Qv (fun w' => Rw G w' r b cap (rOut xs item) ∧ Ch w w' r b) (me_W G) (me_A B0)) ([.ref r, .int item] : List Value).toArray s 0 0 (me_A B0)) (F0 m 4 ls []) := by
    intro n
    induction n with
    | zero => intro i k w1 f1 _ _ _ _ _ _ hz; exact absurd hz (Nat.not_lt_zero _)
    | succ n ih4 =>
      intro i k w1 f1 hil hk hb1 hfr hlo hhi hn4 H locs ls hP hS hl
      have hki := rOut_len (item := item) hil
      refine lv_iload_n C0.1 C0.2.1 dX2_takeOut_4 rfl (lv_at hl 0 rfl) ?_
      refine lv_aload_n C0.1 C0.2.1 dX2_takeOut_5 rfl (lv_at hl 2 rfl) ?_
      refine me_get C0 hP ((hfr r hrb).trans h1) rfl inX2 1 (by decide) kw_65 rfl dX2_takeOut_6 ?_
      refine lv_icmp_ge (tgt := 43) C0.1 C0.2.1 dX2_takeOut_9 (by decide) (fun c1 => ?_) (fun c1 => ?_)
      · have d1 : xs.length ≤ i := (nI_leI (a := xs.length) (b := i) (by omega) (by omega)).mp c1
        refine lv_aload_n C0.1 C0.2.1 dX2_takeOut_43 rfl (lv_at hl 2 rfl) ?_
        refine lv_iload_n C0.1 C0.2.1 dX2_takeOut_44 rfl (lv_at hl 1 rfl) ?_
        refine me_put C0 hP hS hBr ((hfr r hrb).trans h1) rfl inX2 tyX2 tyX2_ok nmX2 1 (by decide) kw_65 rfl rfl rfl (Nat.le_of_ble_eq_true rfl) dX2_takeOut_45 (fun H locs hP hS => ?_)
        have hP : me_P G.1 (me_u w1 r (eO 1 [.ref b, .int (nI k)])) H := hP
        exact me_wvret _ C0.1 C0.2.1 B.returns B.notSynchronized hP hS (Nat.le_of_ble_eq_true rfl) (Nat.le_of_ble_eq_true rfl) (out_done hrb hlt hcap (by omega) hk hlo hb1 hfr) dX2_takeOut_48
      · have d1 : i < xs.length := Nat.not_le.mp (fun h => c1 (nI_le (a := xs.length) (b := i) h (by omega)))
        have hfi : f1 i = xs.getD i 0 := hhi i (Nat.le_refl _) (by omega)
        refine lv_aload_n C0.1 C0.2.1 dX2_takeOut_12 rfl (lv_at hl 2 rfl) ?_
        refine me_get C0 hP ((hfr r hrb).trans h1) rfl inX2 0 (by decide) kw_64 rfl dX2_takeOut_13 ?_
        refine lv_iload_n C0.1 C0.2.1 dX2_takeOut_16 rfl (lv_at hl 0 rfl) ?_
        refine me_ialdN C0 hP hb1 (i := i) (by omega) (by omega) dX2_takeOut_17 ?_
        refine lv_iload_n C0.1 C0.2.1 dX2_takeOut_18 rfl (lv_at hl 3 rfl) ?_
        refine lv_icmp_eq (tgt := 37) C0.1 C0.2.1 dX2_takeOut_19 (by decide) (fun c2 => ?_) (fun c2 => ?_)
        · have he : xs.getD i 0 = item := hfi ▸ c2
          refine lv_iinc (v := nI (i + 1)) (lv' := [(3, .int (nI (i + 1))), (2, .int (nI k)), (0, .ref r), (1, .int item)]) C0.1 C0.2.1 dX2_takeOut_37 hl (k := 0) rfl (nI_add i 1) (by decide) rfl (fun ls hl => ?_)
          refine lv_goto (tgt := 4) C0.1 C0.2.1 dX2_takeOut_40 (by decide) ?_
          exact ih4 (i + 1) k _ _ (by omega) (by rw [rOut_same (by omega) he]; exact hk) hb1 hfr (by rw [rOut_same (by omega) he]; exact hlo) (fun q hq1 hq2 => hhi q (by omega) hq2) (by omega) _ _ _ hP hS (lv_sub hl [0, 1, 2, 3] rfl)
        · have he : ¬ xs.getD i 0 = item := hfi ▸ c2
          refine lv_aload_n C0.1 C0.2.1 dX2_takeOut_22 rfl (lv_at hl 2 rfl) ?_
          refine me_get C0 hP ((hfr r hrb).trans h1) rfl inX2 0 (by decide) kw_64 rfl dX2_takeOut_23 ?_
          refine lv_iload_n C0.1 C0.2.1 dX2_takeOut_26 rfl (lv_at hl 1 rfl) ?_
          refine lv_aload_n C0.1 C0.2.1 dX2_takeOut_27 rfl (lv_at hl 2 rfl) ?_
          refine me_get C0 hP ((hfr r hrb).trans h1) rfl inX2 0 (by decide) kw_64 rfl dX2_takeOut_28 ?_
          refine lv_iload_n C0.1 C0.2.1 dX2_takeOut_31 rfl (lv_at hl 0 rfl) ?_
          refine me_ialdN C0 hP hb1 (i := i) (by omega) (by omega) dX2_takeOut_32 ?_
          refine me_iastN C0 hP hS hBb hb1 (i := k) (by omega) (by omega) dX2_takeOut_33 (fun H locs hP hS => ?_)
          have hP : me_P G.1 (me_u w1 b (eI G cap (upd f1 k (f1 i)))) H := hP
          refine lv_iinc (v := nI (k + 1)) (lv' := [(2, .int (nI (k + 1))), (3, .int (nI i)), (0, .ref r), (1, .int item)]) C0.1 C0.2.1 dX2_takeOut_34 hl (k := 1) rfl (nI_add k 1) (by decide) rfl (fun ls hl => ?_)
          refine lv_iinc (v := nI (i + 1)) (lv' := [(3, .int (nI (i + 1))), (2, .int (nI (k + 1))), (0, .ref r), (1, .int item)]) C0.1 C0.2.1 dX2_takeOut_37 hl (k := 1) rfl (nI_add i 1) (by decide) rfl (fun ls hl => ?_)
          refine lv_goto (tgt := 4) C0.1 C0.2.1 dX2_takeOut_40 (by decide) ?_
          exact ih4 (i + 1) (k + 1) _ _ (by omega) (by rw [rOut_more (by omega) he]; simp; omega) (me_us _ _ _) (fun q hq => (me_un hq).trans (hfr q hq)) (by rw [hfi]; exact rOut_put hk (by omega) he hlo) (fun q hq1 hq2 => by rw [upd_ne (by omega)]; exact hhi q (by omega) hq2) (by omega) _ _ _ hP hS (lv_sub hl [0, 1, 2, 3] rfl)
  exact loop4 (xs.length - 0 + 1) 0 0 w f (Nat.zero_le _) rfl h2 (fun _ _ => rfl) (fun q hq => absurd hq (Nat.not_lt_zero q)) (fun q _ hq => hf q hq) (Nat.lt_succ_self _) _ _ _ hP hS (lv_sub hl [0, 1, 2, 3] rfl)

set_option maxHeartbeats 4000000 in
set_option maxRecDepth 100000 in
/-- copyFrom(other) -/
theorem c_X2_copyFrom (l : Launch) (G : me_G) (B0 : Nat) (w : Me) (r b cap : Nat) (xs : List Int32) (hR : Rw G w r b cap xs) (r2 b2 cap2 : Nat) (ys : List Int32) (hR2 : Rw G w r2 b2 cap2 ys) (n1 : r2 ≠ r) (n2 : r2 ≠ b) (n3 : b2 ≠ r) (n4 : b2 ≠ b) (hBr : B0 ≤ r) (hBb : B0 ≤ b) : CtWV l yX2_copyFrom (Cond.code yX2_copyFrom cX2_copyFrom 3 none) ({ frames := 1, cells := 0, slots := 0, locals := 14 }) G B0 w [.ref r, .ref r2] (fun w' => Rw G w' r b cap (ys.take cap) ∧ Ch w w' r b) 0 0 := by
  refine Met.ofW (cc := cX2_copyFrom) (maxL := 3) (ret := none) (by decide) rfl ?_
  intro p e s m args below meth c s₁ B hml hv
  obtain ⟨rfl, hK, hP, hKq, hBs⟩ := hv
  have hts := fun w h => atoms_spec (ws := Cond.code yX2_copyFrom cX2_copyFrom 3 none :: tbG) B.pre w (List.mem_cons_of_mem _ h)
  have hown : s.vm.findClass RX2 = some m.cls := findClass_of_methodNamed B.named
  have C0 : Cx G B0 p s m _ c cX2_copyFrom RX2 := ⟨B.exec, B.bytes, hown, hts, hK, hKq, hBs⟩
  have hS : va_S (me_A B0) s.heap s.heap [] := va_S.rf
  have hl := lv_entry ([.ref r, .ref r2]) (n := 3) (Nat.le_of_ble_eq_true rfl)
  rw [lg_entry_eq]
  generalize (lg_sl ([.ref r, .ref r2]) ++ List.replicate (3 - (lg_sl ([.ref r, .ref r2])).length) Slot.unset).toArray = ls at hl ⊢
  have hl : lv_has ls 3 [(0, .ref r), (1, .ref r2)] := hl
  obtain ⟨h1, hcap, hlt, hrb, f, h2, hf⟩ := id hR
  obtain ⟨g1, gcap, glt, grb, f2, g2, gf⟩ := id hR2
  refine lv_aload_n C0.1 C0.2.1 dX2_copyFrom_0 rfl (lv_at hl 0 rfl) ?_
  refine lv_aload_n C0.1 C0.2.1 dX2_copyFrom_1 rfl (lv_at hl 1 rfl) ?_
  refine me_get C0 hP g1 rfl inX2 1 (by decide) kw_65 rfl dX2_copyFrom_2 ?_
  refine lv_aload_n C0.1 C0.2.1 dX2_copyFrom_5 rfl (lv_at hl 0 rfl) ?_
  refine me_get C0 hP h1 rfl inX2 0 (by decide) kw_64 rfl dX2_copyFrom_6 ?_
  refine me_ilen C0 hP h2 dX2_copyFrom_9 ?_
  refine va_mmin C0.1 C0.2.1 (hml.trans hl.1.symm) C0.2.2.1 (C0.2.2.2.1 _ kw_288) (C0.2.2.2.1 _ kw_289) (C0.2.2.2.1 _ kw_33) (C0.2.2.2.1 _ kw_290) (Nat.le_of_ble_eq_true rfl) (Nat.le_of_ble_eq_true rfl) (Nat.le_of_ble_eq_true rfl) (Nat.le_of_ble_eq_true rfl) dX2_copyFrom_10 ?_
  refine me_topi (y := nI (min ys.length cap)) (nI_min (by omega) (by omega)) ?_
  refine me_put C0 hP hS hBr h1 rfl inX2 tyX2 tyX2_ok nmX2 1 (by decide) kw_65 rfl rfl rfl (Nat.le_of_ble_eq_true rfl) dX2_copyFrom_13 (fun H locs hP hS => ?_)
  have hP : me_P G.1 (me_u w r (eO 1 [.ref b, .int (nI (min ys.length cap))])) H := hP
  refine lv_iconst (v := 0) C0.1 C0.2.1 dX2_copyFrom_16 (by decide) ?_
  refine lv_istore_n (lv' := [(2, .int 0), (0, .ref r), (1, .ref r2)]) C0.1 C0.2.1 dX2_copyFrom_17 rfl hl (by decide) rfl (fun ls hl => ?_)
  have loop18 : ∀ (n : Nat) (i : Nat) (w1 : Me) (f1 : Nat → Int32), (i ≤ min ys.length cap) → (w1 b = some (eI G cap f1)) → (w1 r = some (eO 1 [.ref b, .int (nI (min ys.length cap))])) → (∀ q, q ≠ r → q ≠ b → w1 q = w q) → (∀ q, q < i → f1 q = ys.getD q 0) → (min ys.length cap - i) < n → ∀ (H : Heap) (locs : List Loc), ∀ (ls : Array Slot), me_P G.1 w1 H → va_S (me_A B0) s.heap H locs → lv_has ls 3 [(2, .int (nI i)), (0, .ref r), (1, .ref r2)] → W p l e ({ frames := 1, cells := 0, slots := 0, locals := 14 }) s m ([.ref r, .ref r2] : List Value).toArray below meth c H locs 0 0 (MQ below (va_Qv (fun w' => Rw G w' r b cap (ys.take cap) ∧ Ch w w' r b) (me_W G) (me_A B0)) ([.ref r, .ref r2] : List Value).toArray s 0 0 (me_A B0)) (F0 m 18 ls []) := by
    intro n
    induction n with
    | zero => intro i w1 f1 _ _ _ _ _ hz; exact absurd hz (Nat.not_lt_zero _)
    | succ n ih18 =>
      intro i w1 f1 hil hb1 hr1 hfr hlo hn18 H locs ls hP hS hl
      refine lv_iload_n C0.1 C0.2.1 dX2_copyFrom_18 rfl (lv_at hl 0 rfl) ?_
      refine lv_aload_n C0.1 C0.2.1 dX2_copyFrom_19 rfl (lv_at hl 1 rfl) ?_
      refine me_get C0 hP hr1 rfl inX2 1 (by decide) kw_65 rfl dX2_copyFrom_20 ?_
      refine lv_icmp_ge (tgt := 44) C0.1 C0.2.1 dX2_copyFrom_23 (by decide) (fun c1 => ?_) (fun c1 => ?_)
      · have d1 : (min ys.length cap) ≤ i := (nI_leI (a := (min ys.length cap)) (b := i) (by omega) (by omega)).mp c1
        exact me_wvret _ C0.1 C0.2.1 B.returns B.notSynchronized hP hS (Nat.le_of_ble_eq_true rfl) (Nat.le_of_ble_eq_true rfl) (cpy_done hrb hlt (by omega) hlo hb1 hr1 hfr) dX2_copyFrom_44
      · have d1 : i < (min ys.length cap) := Nat.not_le.mp (fun h => c1 (nI_le (a := (min ys.length cap)) (b := i) h (by omega)))
        refine lv_aload_n C0.1 C0.2.1 dX2_copyFrom_26 rfl (lv_at hl 1 rfl) ?_
        refine me_get C0 hP hr1 rfl inX2 0 (by decide) kw_64 rfl dX2_copyFrom_27 ?_
        refine lv_iload_n C0.1 C0.2.1 dX2_copyFrom_30 rfl (lv_at hl 0 rfl) ?_
        refine lv_aload_n C0.1 C0.2.1 dX2_copyFrom_31 rfl (lv_at hl 2 rfl) ?_
        refine me_get C0 hP ((hfr r2 n1 n2).trans g1) rfl inX2 0 (by decide) kw_64 rfl dX2_copyFrom_32 ?_
        refine lv_iload_n C0.1 C0.2.1 dX2_copyFrom_35 rfl (lv_at hl 0 rfl) ?_
        refine me_ialdN C0 hP ((hfr b2 n3 n4).trans g2) (i := i) (by omega) (by omega) dX2_copyFrom_36 ?_
        refine me_iastN C0 hP hS hBb hb1 (i := i) (by omega) (by omega) dX2_copyFrom_37 (fun H locs hP hS => ?_)
        have hP : me_P G.1 (me_u w1 b (eI G cap (upd f1 i (f2 i)))) H := hP
        refine lv_iinc (v := nI (i + 1)) (lv' := [(2, .int (nI (i + 1))), (0, .ref r), (1, .ref r2)]) C0.1 C0.2.1 dX2_copyFrom_38 hl (k := 0) rfl (nI_add i 1) (by decide) rfl (fun ls hl => ?_)
        refine lv_goto (tgt := 18) C0.1 C0.2.1 dX2_copyFrom_41 (by decide) ?_
        exact ih18 (i + 1) _ _ (by omega) (me_us _ _ _) ((me_un hrb).trans hr1) (fun q q1 q2 => (me_un q2).trans (hfr q q1 q2)) (lt_s (fun q hq => by rw [upd_ne (by omega)]; exact hlo q hq) (by rw [upd_eq]; exact gf i (by omega))) (by omega) _ _ _ hP hS (lv_sub hl [0, 1, 2] rfl)
  exact loop18 (min ys.length cap - 0 + 1) 0 _ f (Nat.zero_le _) ((me_un (Ne.symm hrb)).trans h2) (me_us _ _ _) (fun q h _ => me_un h) (fun q hq => absurd hq (Nat.not_lt_zero q)) (Nat.lt_succ_self _) _ _ _ hP hS (lv_sub hl [0, 1, 2] rfl)

set_option maxHeartbeats 4000000 in
set_option maxRecDepth 100000 in
/-- compareWith(other) -/
theorem c_X2_compareWith (l : Launch) (G : me_G) (B0 : Nat) (w : Me) (r b cap : Nat) (xs : List Int32) (hR : Rw G w r b cap xs) (r2 b2 cap2 : Nat) (ys : List Int32) (hR2 : Rw G w r2 b2 cap2 ys) : CtI l yX2_compareWith (Cond.code yX2_compareWith cX2_compareWith 4 (some .int)) ({ frames := 1, cells := 0, slots := 0, locals := 21 }) G B0 w [.ref r, .ref r2] (fun z => z = cmpL xs ys) := by
  refine Met.ofW (cc := cX2_compareWith) (maxL := 4) (ret := (some .int)) (by decide) rfl ?_
  intro p e s m args below meth c s₁ B hml hv
  obtain ⟨rfl, hK, hP, hKq, hBs⟩ := hv
  have hts := fun w h => atoms_spec (ws := Cond.code yX2_compareWith cX2_compareWith 4 (some .int) :: tbG) B.pre w (List.mem_cons_of_mem _ h)
  have hown : s.vm.findClass RX2 = some m.cls := findClass_of_methodNamed B.named
  have C0 : Cx G B0 p s m _ c cX2_compareWith RX2 := ⟨B.exec, B.bytes, hown, hts, hK, hKq, hBs⟩
  have hS : va_S (me_A B0) s.heap s.heap [] := va_S.rf
  have hl := lv_entry ([.ref r, .ref r2]) (n := 4) (Nat.le_of_ble_eq_true rfl)
  rw [lg_entry_eq]
  generalize (lg_sl ([.ref r, .ref r2]) ++ List.replicate (4 - (lg_sl ([.ref r, .ref r2])).length) Slot.unset).toArray = ls at hl ⊢
  have hl : lv_has ls 4 [(0, .ref r), (1, .ref r2)] := hl
  obtain ⟨h1, hcap, hlt, hrb, f, h2, hf⟩ := id hR
  obtain ⟨g1, gcap, glt, grb, f2, g2, gf⟩ := id hR2
  refine lv_aload_n C0.1 C0.2.1 dX2_compareWith_0 rfl (lv_at hl 0 rfl) ?_
  refine me_get C0 hP h1 rfl inX2 1 (by decide) kw_65 rfl dX2_compareWith_1 ?_
  refine lv_aload_n C0.1 C0.2.1 dX2_compareWith_4 rfl (lv_at hl 1 rfl) ?_
  refine me_get C0 hP g1 rfl inX2 1 (by decide) kw_65 rfl dX2_compareWith_5 ?_
  refine va_mmin C0.1 C0.2.1 (hml.trans hl.1.symm) C0.2.2.1 (C0.2.2.2.1 _ kw_288) (C0.2.2.2.1 _ kw_289) (C0.2.2.2.1 _ kw_33) (C0.2.2.2.1 _ kw_290) (Nat.le_of_ble_eq_true rfl) (Nat.le_of_ble_eq_true rfl) (Nat.le_of_ble_eq_true rfl) (Nat.le_of_ble_eq_true rfl) dX2_compareWith_8 ?_
  refine me_topi (y := nI (min xs.length ys.length)) (nI_min (by omega) (by omega)) ?_
  refine lv_istore_n (lv' := [(2, .int (nI (min xs.length ys.length))), (0, .ref r), (1, .ref r2)]) C0.1 C0.2.1 dX2_compareWith_11 rfl hl (by decide) rfl (fun ls hl => ?_)
  refine lv_iconst (v := 0) C0.1 C0.2.1 dX2_compareWith_12 (by decide) ?_
  refine lv_istore_n (lv' := [(3, .int 0), (2, .int (nI (min xs.length ys.length))), (0, .ref r), (1, .ref r2)]) C0.1 C0.2.1 dX2_compareWith_13 rfl hl (by decide) rfl (fun ls hl => ?_)
  have loop14 : ∀ (n : Nat) (i : Nat), (i ≤ min xs.length ys.length) → (∀ q, q < i → xs.getD q 0 = ys.getD q 0) → (min xs.length ys.length - i) < n → ∀ (ls : Array Slot), lv_has ls 4 [(3, .int (nI i)), (2, .int (nI (min xs.length ys.length))), (0, .ref r), (1, .ref r2)] → W p l e ({ frames := 1, cells := 0, slots := 0, locals := 21 }) s m ([.ref r, .ref r2] : List Value).toArray below meth c s.heap [] 0 0 (MQ below (vp_Si (fun z => z = cmpL xs ys)) ([.ref r, .ref r2] : List Value).toArray s 0 0 (fun _ => False)) (F0 m 14 ls []) := by
    intro n
    induction n with
    | zero => intro i _ _ hz; exact absurd hz (Nat.not_lt_zero _)
    | succ n ih14 =>
      intro i hil heq hn14  ls  hl
      refine lv_iload_n C0.1 C0.2.1 dX2_compareWith_14 rfl (lv_at hl 0 rfl) ?_
      refine lv_iload_n C0.1 C0.2.1 dX2_compareWith_15 rfl (lv_at hl 1 rfl) ?_
      refine lv_icmp_ge (tgt := 56) C0.1 C0.2.1 dX2_compareWith_16 (by decide) (fun c1 => ?_) (fun c1 => ?_)
      · have d1 : (min xs.length ys.length) ≤ i := (nI_leI (a := (min xs.length ys.length)) (b := i) (by omega) (by omega)).mp c1
        refine lv_aload_n C0.1 C0.2.1 dX2_compareWith_56 rfl (lv_at hl 2 rfl) ?_
        refine me_get C0 hP h1 rfl inX2 1 (by decide) kw_65 rfl dX2_compareWith_57 ?_
        refine lv_aload_n C0.1 C0.2.1 dX2_compareWith_60 rfl (lv_at hl 3 rfl) ?_
        refine me_get C0 hP g1 rfl inX2 1 (by decide) kw_65 rfl dX2_compareWith_61 ?_
        refine me_cSi (n := 2) C0 hml hP hS (c_J6_compare l G B0 w (nI xs.length) (nI ys.length)) ⟨kw_293, kw_46, kw_291, ⟨by decide, by decide, by decide +kernel⟩, ⟨rfl, rfl⟩, ⟨Nat.le_of_ble_eq_true rfl, Nat.le_of_ble_eq_true rfl⟩⟩ kw_292 rfl hl.1 rfl (Nat.le_of_ble_eq_true rfl) ⟨Nat.le_of_ble_eq_true rfl, Nat.le_of_ble_eq_true rfl⟩ dX2_compareWith_64 (fun r2 hr2 => ?_)
        exact me_iret C0.1 C0.2.1 B.returns B.notSynchronized rfl rfl (by rw [hr2]; exact (cmpL_end xs ys (by omega) (by omega) (fun q hq => heq q (by omega))).symm) dX2_compareWith_67
      · have d1 : i < (min xs.length ys.length) := Nat.not_le.mp (fun h => c1 (nI_le (a := (min xs.length ys.length)) (b := i) h (by omega)))
        refine lv_aload_n C0.1 C0.2.1 dX2_compareWith_19 rfl (lv_at hl 2 rfl) ?_
        refine me_get C0 hP h1 rfl inX2 0 (by decide) kw_64 rfl dX2_compareWith_20 ?_
        refine lv_iload_n C0.1 C0.2.1 dX2_compareWith_23 rfl (lv_at hl 0 rfl) ?_
        refine me_ialdN C0 hP h2 (i := i) (by omega) (by omega) dX2_compareWith_24 ?_
        refine lv_aload_n C0.1 C0.2.1 dX2_compareWith_25 rfl (lv_at hl 3 rfl) ?_
        refine me_get C0 hP g1 rfl inX2 0 (by decide) kw_64 rfl dX2_compareWith_26 ?_
        refine lv_iload_n C0.1 C0.2.1 dX2_compareWith_29 rfl (lv_at hl 0 rfl) ?_
        refine me_ialdN C0 hP g2 (i := i) (by omega) (by omega) dX2_compareWith_30 ?_
        refine lv_icmp_eq (tgt := 50) C0.1 C0.2.1 dX2_compareWith_31 (by decide) (fun c3 => ?_) (fun c3 => ?_)
        · have hxy : xs.getD i 0 = ys.getD i 0 := (hf i (by omega)).symm.trans (c3.trans (gf i (by omega)))
          refine lv_iinc (v := nI (i + 1)) (lv' := [(3, .int (nI (i + 1))), (2, .int (nI (min xs.length ys.length))), (0, .ref r), (1, .ref r2)]) C0.1 C0.2.1 dX2_compareWith_50 hl (k := 0) rfl (nI_add i 1) (by decide) rfl (fun ls hl => ?_)
          refine lv_goto (tgt := 14) C0.1 C0.2.1 dX2_compareWith_53 (by decide) ?_
          exact ih14 (i + 1) (by omega) (lt_s heq hxy) (by omega) _ (lv_sub hl [0, 1, 2, 3] rfl)
        · have hxy : ¬ xs.getD i 0 = ys.getD i 0 := fun h => c3 ((hf i (by omega)).trans (h.trans (gf i (by omega)).symm))
          refine lv_aload_n C0.1 C0.2.1 dX2_compareWith_34 rfl (lv_at hl 2 rfl) ?_
          refine me_get C0 hP h1 rfl inX2 0 (by decide) kw_64 rfl dX2_compareWith_35 ?_
          refine lv_iload_n C0.1 C0.2.1 dX2_compareWith_38 rfl (lv_at hl 0 rfl) ?_
          refine me_ialdN C0 hP h2 (i := i) (by omega) (by omega) dX2_compareWith_39 ?_
          refine lv_aload_n C0.1 C0.2.1 dX2_compareWith_40 rfl (lv_at hl 3 rfl) ?_
          refine me_get C0 hP g1 rfl inX2 0 (by decide) kw_64 rfl dX2_compareWith_41 ?_
          refine lv_iload_n C0.1 C0.2.1 dX2_compareWith_44 rfl (lv_at hl 0 rfl) ?_
          refine me_ialdN C0 hP g2 (i := i) (by omega) (by omega) dX2_compareWith_45 ?_
          refine me_cSi (n := 2) C0 hml hP hS (c_J6_compare l G B0 w (f i) (f2 i)) ⟨kw_293, kw_46, kw_291, ⟨by decide, by decide, by decide +kernel⟩, ⟨rfl, rfl⟩, ⟨Nat.le_of_ble_eq_true rfl, Nat.le_of_ble_eq_true rfl⟩⟩ kw_292 rfl hl.1 rfl (Nat.le_of_ble_eq_true rfl) ⟨Nat.le_of_ble_eq_true rfl, Nat.le_of_ble_eq_true rfl⟩ dX2_compareWith_46 (fun r4 hr4 => ?_)
          exact me_iret C0.1 C0.2.1 B.returns B.notSynchronized rfl rfl (by rw [hr4, hf i (by omega), gf i (by omega)]; exact (cmpL_at i xs ys (by omega) (by omega) heq hxy).symm) dX2_compareWith_49
  exact loop14 (min xs.length ys.length - 0 + 1) 0 (Nat.zero_le _) (fun q hq => absurd hq (Nat.not_lt_zero q)) (Nat.lt_succ_self _) _ (lv_sub hl [0, 1, 2, 3] rfl)
end
section
def octOf (x : Int32) : Int32 := if 128 ≤ x then (if 2048 ≤ x then (if 65536 ≤ x then 4 else 3) else 2) else 1
set_option maxHeartbeats 4000000 in
set_option maxRecDepth 100000 in
/-- octetsOf -/
theorem c_X3_octetsOf (l : Launch) (G : me_G) (B0 : Nat) (w : Me) (x : Int32) : CtI l yX3_octetsOf (Cond.code yX3_octetsOf cX3_octetsOf 1 (some .int)) ({ frames := 0, cells := 0, slots := 0, locals := 0 }) G B0 w [.int x] (fun z => z = octOf x) := by
  refine Met.ofW (cc := cX3_octetsOf) (maxL := 1) (ret := (some .int)) (by decide) rfl ?_
  intro p e s m args below meth c s₁ B hml hv
  obtain ⟨rfl, hK, hP, hKq, hBs⟩ := hv
  have hts := fun w h => atoms_spec (ws := Cond.code yX3_octetsOf cX3_octetsOf 1 (some .int) :: tbG) B.pre w (List.mem_cons_of_mem _ h)
  have hown : s.vm.findClass RX3 = some m.cls := findClass_of_methodNamed B.named
  have C0 : Cx G B0 p s m _ c cX3_octetsOf RX3 := ⟨B.exec, B.bytes, hown, hts, hK, hKq, hBs⟩
  have hS : va_S (me_A B0) s.heap s.heap [] := va_S.rf
  have hl := lv_entry ([.int x]) (n := 1) (Nat.le_of_ble_eq_true rfl)
  rw [lg_entry_eq]
  generalize (lg_sl ([.int x]) ++ List.replicate (1 - (lg_sl ([.int x])).length) Slot.unset).toArray = ls at hl ⊢
  have hl : lv_has ls 1 [(0, .int x)] := hl
  refine lv_iload_n C0.1 C0.2.1 dX3_octetsOf_0 rfl (lv_at hl 0 rfl) ?_
  refine lv_sipush (v := 128) C0.1 C0.2.1 dX3_octetsOf_1 (by decide) ?_
  refine lv_icmp_ge (tgt := 9) C0.1 C0.2.1 dX3_octetsOf_4 (by decide) (fun c1 => ?_) (fun c1 => ?_)
  · refine lv_iload_n C0.1 C0.2.1 dX3_octetsOf_9 rfl (lv_at hl 0 rfl) ?_
    refine lv_sipush (v := 2048) C0.1 C0.2.1 dX3_octetsOf_10 (by decide) ?_
    refine lv_icmp_ge (tgt := 18) C0.1 C0.2.1 dX3_octetsOf_13 (by decide) (fun c2 => ?_) (fun c2 => ?_)
    · refine lv_iload_n C0.1 C0.2.1 dX3_octetsOf_18 rfl (lv_at hl 0 rfl) ?_
      refine lv_ldc (v := 65536) C0.1 C0.2.1 C0.2.2.1 (C0.2.2.2.1 _ kw_161) dX3_octetsOf_19 ?_
      refine lv_icmp_ge (tgt := 28) C0.1 C0.2.1 dX3_octetsOf_21 (by decide) (fun c3 => ?_) (fun c3 => ?_)
      · refine lv_iconst (v := 4) C0.1 C0.2.1 dX3_octetsOf_28 (by decide) ?_
        exact me_iret C0.1 C0.2.1 B.returns B.notSynchronized rfl rfl (by unfold octOf; rw [if_pos c1, if_pos c2, if_pos c3]) dX3_octetsOf_29
      · refine lv_iconst (v := 3) C0.1 C0.2.1 dX3_octetsOf_24 (by decide) ?_
        refine lv_goto (tgt := 29) C0.1 C0.2.1 dX3_octetsOf_25 (by decide) ?_
        exact me_iret C0.1 C0.2.1 B.returns B.notSynchronized rfl rfl (by unfold octOf; rw [if_pos c1, if_pos c2, if_neg c3]) dX3_octetsOf_29
    · refine lv_iconst (v := 2) C0.1 C0.2.1 dX3_octetsOf_16 (by decide) ?_
      exact me_iret C0.1 C0.2.1 B.returns B.notSynchronized rfl rfl (by unfold octOf; rw [if_pos c1, if_neg c2]) dX3_octetsOf_17
  · refine lv_iconst (v := 1) C0.1 C0.2.1 dX3_octetsOf_7 (by decide) ?_
    exact me_iret C0.1 C0.2.1 B.returns B.notSynchronized rfl rfl (by unfold octOf; rw [if_neg c1]) dX3_octetsOf_8

def octMore_62 (x : Int32) : Int32 := (-1)
def octMore_44 (x : Int32) : Int32 := if x < 240 then (octMore_62 x) else if 244 < x then (octMore_62 x) else 3
def octMore_28 (x : Int32) : Int32 := if x < 224 then (octMore_44 x) else if 239 < x then (octMore_44 x) else 2
def octMore_12 (x : Int32) : Int32 := if x < 194 then (octMore_28 x) else if 223 < x then (octMore_28 x) else 1
def octMore (x : Int32) : Int32 := if x < 0 then (octMore_12 x) else if 127 < x then (octMore_12 x) else 0
set_option maxHeartbeats 4000000 in
set_option maxRecDepth 100000 in
/-- octetsMore -/
theorem c_X3_octetsMore (l : Launch) (G : me_G) (B0 : Nat) (w : Me) (x : Int32) : CtI l yX3_octetsMore (Cond.code yX3_octetsMore cX3_octetsMore 1 (some .int)) ({ frames := 0, cells := 0, slots := 0, locals := 0 }) G B0 w [.int x] (fun z => z = octMore x) := by
  refine Met.ofW (cc := cX3_octetsMore) (maxL := 1) (ret := (some .int)) (by decide) rfl ?_
  intro p e s m args below meth c s₁ B hml hv
  obtain ⟨rfl, hK, hP, hKq, hBs⟩ := hv
  have hts := fun w h => atoms_spec (ws := Cond.code yX3_octetsMore cX3_octetsMore 1 (some .int) :: tbG) B.pre w (List.mem_cons_of_mem _ h)
  have hown : s.vm.findClass RX3 = some m.cls := findClass_of_methodNamed B.named
  have C0 : Cx G B0 p s m _ c cX3_octetsMore RX3 := ⟨B.exec, B.bytes, hown, hts, hK, hKq, hBs⟩
  have hS : va_S (me_A B0) s.heap s.heap [] := va_S.rf
  have hl := lv_entry ([.int x]) (n := 1) (Nat.le_of_ble_eq_true rfl)
  rw [lg_entry_eq]
  generalize (lg_sl ([.int x]) ++ List.replicate (1 - (lg_sl ([.int x])).length) Slot.unset).toArray = ls at hl ⊢
  have hl : lv_has ls 1 [(0, .int x)] := hl
  have j_octMore_62 : ∀ (ls : Array Slot), lv_has ls 1 [(0, .int x)] → octMore x = octMore_62 x → W p l e ({ frames := 0, cells := 0, slots := 0, locals := 0 }) s m ([.int x] : List Value).toArray below meth c s.heap [] 0 0 (MQ below (vp_Si (fun z => z = octMore x)) ([.int x] : List Value).toArray s 0 0 (fun _ => False)) (F0 m 62 ls []) := by
    intro ls hl h_octMore_62
    refine lv_iconst (v := (-1)) C0.1 C0.2.1 dX3_octetsMore_62 (by decide) ?_
    exact me_iret C0.1 C0.2.1 B.returns B.notSynchronized rfl rfl (by rw [h_octMore_62]; unfold octMore_62; rfl) dX3_octetsMore_63
  have j_octMore_44 : ∀ (ls : Array Slot), lv_has ls 1 [(0, .int x)] → octMore x = octMore_44 x → W p l e ({ frames := 0, cells := 0, slots := 0, locals := 0 }) s m ([.int x] : List Value).toArray below meth c s.heap [] 0 0 (MQ below (vp_Si (fun z => z = octMore x)) ([.int x] : List Value).toArray s 0 0 (fun _ => False)) (F0 m 44 ls []) := by
    intro ls hl h_octMore_44
    refine lv_iload_n C0.1 C0.2.1 dX3_octetsMore_44 rfl (lv_at hl 0 rfl) ?_
    refine lv_sipush (v := 240) C0.1 C0.2.1 dX3_octetsMore_45 (by decide) ?_
    refine lv_icmp_lt (tgt := 62) C0.1 C0.2.1 dX3_octetsMore_48 (by decide) (fun c1 => ?_) (fun c1 => ?_)
    · exact j_octMore_62 ls hl (by rw [h_octMore_44]; unfold octMore_44; rw [if_pos c1])
    · refine lv_iload_n C0.1 C0.2.1 dX3_octetsMore_51 rfl (lv_at hl 0 rfl) ?_
      refine lv_sipush (v := 244) C0.1 C0.2.1 dX3_octetsMore_52 (by decide) ?_
      refine lv_icmp_gt (tgt := 62) C0.1 C0.2.1 dX3_octetsMore_55 (by decide) (fun c2 => ?_) (fun c2 => ?_)
      · exact j_octMore_62 ls hl (by rw [h_octMore_44]; unfold octMore_44; rw [if_neg c1, if_pos c2])
      · refine lv_iconst (v := 3) C0.1 C0.2.1 dX3_octetsMore_58 (by decide) ?_
        refine lv_goto (tgt := 63) C0.1 C0.2.1 dX3_octetsMore_59 (by decide) ?_
        exact me_iret C0.1 C0.2.1 B.returns B.notSynchronized rfl rfl (by rw [h_octMore_44]; unfold octMore_44; rw [if_neg c1, if_neg c2]) dX3_octetsMore_63
  have j_octMore_28 : ∀ (ls : Array Slot), lv_has ls 1 [(0, .int x)] → octMore x = octMore_28 x → W p l e ({ frames := 0, cells := 0, slots := 0, locals := 0 }) s m ([.int x] : List Value).toArray below meth c s.heap [] 0 0 (MQ below (vp_Si (fun z => z = octMore x)) ([.int x] : List Value).toArray s 0 0 (fun _ => False)) (F0 m 28 ls []) := by
    intro ls hl h_octMore_28
    refine lv_iload_n C0.1 C0.2.1 dX3_octetsMore_28 rfl (lv_at hl 0 rfl) ?_
    refine lv_sipush (v := 224) C0.1 C0.2.1 dX3_octetsMore_29 (by decide) ?_
    refine lv_icmp_lt (tgt := 44) C0.1 C0.2.1 dX3_octetsMore_32 (by decide) (fun c3 => ?_) (fun c3 => ?_)
    · exact j_octMore_44 ls hl (by rw [h_octMore_28]; unfold octMore_28; rw [if_pos c3])
    · refine lv_iload_n C0.1 C0.2.1 dX3_octetsMore_35 rfl (lv_at hl 0 rfl) ?_
      refine lv_sipush (v := 239) C0.1 C0.2.1 dX3_octetsMore_36 (by decide) ?_
      refine lv_icmp_gt (tgt := 44) C0.1 C0.2.1 dX3_octetsMore_39 (by decide) (fun c4 => ?_) (fun c4 => ?_)
      · exact j_octMore_44 ls hl (by rw [h_octMore_28]; unfold octMore_28; rw [if_neg c3, if_pos c4])
      · refine lv_iconst (v := 2) C0.1 C0.2.1 dX3_octetsMore_42 (by decide) ?_
        exact me_iret C0.1 C0.2.1 B.returns B.notSynchronized rfl rfl (by rw [h_octMore_28]; unfold octMore_28; rw [if_neg c3, if_neg c4]) dX3_octetsMore_43
  have j_octMore_12 : ∀ (ls : Array Slot), lv_has ls 1 [(0, .int x)] → octMore x = octMore_12 x → W p l e ({ frames := 0, cells := 0, slots := 0, locals := 0 }) s m ([.int x] : List Value).toArray below meth c s.heap [] 0 0 (MQ below (vp_Si (fun z => z = octMore x)) ([.int x] : List Value).toArray s 0 0 (fun _ => False)) (F0 m 12 ls []) := by
    intro ls hl h_octMore_12
    refine lv_iload_n C0.1 C0.2.1 dX3_octetsMore_12 rfl (lv_at hl 0 rfl) ?_
    refine lv_sipush (v := 194) C0.1 C0.2.1 dX3_octetsMore_13 (by decide) ?_
    refine lv_icmp_lt (tgt := 28) C0.1 C0.2.1 dX3_octetsMore_16 (by decide) (fun c5 => ?_) (fun c5 => ?_)
    · exact j_octMore_28 ls hl (by rw [h_octMore_12]; unfold octMore_12; rw [if_pos c5])
    · refine lv_iload_n C0.1 C0.2.1 dX3_octetsMore_19 rfl (lv_at hl 0 rfl) ?_
      refine lv_sipush (v := 223) C0.1 C0.2.1 dX3_octetsMore_20 (by decide) ?_
      refine lv_icmp_gt (tgt := 28) C0.1 C0.2.1 dX3_octetsMore_23 (by decide) (fun c6 => ?_) (fun c6 => ?_)
      · exact j_octMore_28 ls hl (by rw [h_octMore_12]; unfold octMore_12; rw [if_neg c5, if_pos c6])
      · refine lv_iconst (v := 1) C0.1 C0.2.1 dX3_octetsMore_26 (by decide) ?_
        exact me_iret C0.1 C0.2.1 B.returns B.notSynchronized rfl rfl (by rw [h_octMore_12]; unfold octMore_12; rw [if_neg c5, if_neg c6]) dX3_octetsMore_27
  refine lv_iload_n C0.1 C0.2.1 dX3_octetsMore_0 rfl (lv_at hl 0 rfl) ?_
  refine lv_if_lt (tgt := 12) C0.1 C0.2.1 dX3_octetsMore_1 (by decide) (fun c7 => ?_) (fun c7 => ?_)
  · exact j_octMore_12 ls hl (by unfold octMore; rw [if_pos c7])
  · refine lv_iload_n C0.1 C0.2.1 dX3_octetsMore_4 rfl (lv_at hl 0 rfl) ?_
    refine lv_bipush (v := 127) C0.1 C0.2.1 dX3_octetsMore_5 (by decide) ?_
    refine lv_icmp_gt (tgt := 12) C0.1 C0.2.1 dX3_octetsMore_7 (by decide) (fun c8 => ?_) (fun c8 => ?_)
    · exact j_octMore_12 ls hl (by unfold octMore; rw [if_neg c7, if_pos c8])
    · refine lv_iconst (v := 0) C0.1 C0.2.1 dX3_octetsMore_10 (by decide) ?_
      exact me_iret C0.1 C0.2.1 B.returns B.notSynchronized rfl rfl (by unfold octMore; rw [if_neg c7, if_neg c8]) dX3_octetsMore_11

def mkCls_43 (x : Int32) : Int32 := 202
def mkCls_18 (x : Int32) : Int32 := if x = 803 then 220 else if x = 807 then (mkCls_43 x) else if x = 808 then (mkCls_43 x) else 0
def mkCls (x : Int32) : Int32 := if x < 768 then (mkCls_18 x) else if 783 < x then (mkCls_18 x) else 230
set_option maxHeartbeats 4000000 in
set_option maxRecDepth 100000 in
/-- markClass -/
theorem c_X0_markClass (l : Launch) (G : me_G) (B0 : Nat) (w : Me) (x : Int32) : CtI l yX0_markClass (Cond.code yX0_markClass cX0_markClass 1 (some .int)) ({ frames := 0, cells := 0, slots := 0, locals := 0 }) G B0 w [.int x] (fun z => z = mkCls x) := by
  refine Met.ofW (cc := cX0_markClass) (maxL := 1) (ret := (some .int)) (by decide) rfl ?_
  intro p e s m args below meth c s₁ B hml hv
  obtain ⟨rfl, hK, hP, hKq, hBs⟩ := hv
  have hts := fun w h => atoms_spec (ws := Cond.code yX0_markClass cX0_markClass 1 (some .int) :: tbG) B.pre w (List.mem_cons_of_mem _ h)
  have hown : s.vm.findClass RX0 = some m.cls := findClass_of_methodNamed B.named
  have C0 : Cx G B0 p s m _ c cX0_markClass RX0 := ⟨B.exec, B.bytes, hown, hts, hK, hKq, hBs⟩
  have hS : va_S (me_A B0) s.heap s.heap [] := va_S.rf
  have hl := lv_entry ([.int x]) (n := 1) (Nat.le_of_ble_eq_true rfl)
  rw [lg_entry_eq]
  generalize (lg_sl ([.int x]) ++ List.replicate (1 - (lg_sl ([.int x])).length) Slot.unset).toArray = ls at hl ⊢
  have hl : lv_has ls 1 [(0, .int x)] := hl
  have j_mkCls_43 : ∀ (ls : Array Slot), lv_has ls 1 [(0, .int x)] → mkCls x = mkCls_43 x → W p l e ({ frames := 0, cells := 0, slots := 0, locals := 0 }) s m ([.int x] : List Value).toArray below meth c s.heap [] 0 0 (MQ below (vp_Si (fun z => z = mkCls x)) ([.int x] : List Value).toArray s 0 0 (fun _ => False)) (F0 m 43 ls []) := by
    intro ls hl h_mkCls_43
    refine lv_sipush (v := 202) C0.1 C0.2.1 dX0_markClass_43 (by decide) ?_
    refine lv_goto (tgt := 50) C0.1 C0.2.1 dX0_markClass_46 (by decide) ?_
    exact me_iret C0.1 C0.2.1 B.returns B.notSynchronized rfl rfl (by rw [h_mkCls_43]; unfold mkCls_43; rfl) dX0_markClass_50
  have j_mkCls_18 : ∀ (ls : Array Slot), lv_has ls 1 [(0, .int x)] → mkCls x = mkCls_18 x → W p l e ({ frames := 0, cells := 0, slots := 0, locals := 0 }) s m ([.int x] : List Value).toArray below meth c s.heap [] 0 0 (MQ below (vp_Si (fun z => z = mkCls x)) ([.int x] : List Value).toArray s 0 0 (fun _ => False)) (F0 m 18 ls []) := by
    intro ls hl h_mkCls_18
    refine lv_iload_n C0.1 C0.2.1 dX0_markClass_18 rfl (lv_at hl 0 rfl) ?_
    refine lv_sipush (v := 803) C0.1 C0.2.1 dX0_markClass_19 (by decide) ?_
    refine lv_icmp_ne (tgt := 29) C0.1 C0.2.1 dX0_markClass_22 (by decide) (fun c1 => ?_) (fun c1 => ?_)
    · refine lv_iload_n C0.1 C0.2.1 dX0_markClass_29 rfl (lv_at hl 0 rfl) ?_
      refine lv_sipush (v := 807) C0.1 C0.2.1 dX0_markClass_30 (by decide) ?_
      refine lv_icmp_eq (tgt := 43) C0.1 C0.2.1 dX0_markClass_33 (by decide) (fun c2 => ?_) (fun c2 => ?_)
      · exact j_mkCls_43 ls hl (by rw [h_mkCls_18]; unfold mkCls_18; rw [if_neg c1, if_pos c2])
      · refine lv_iload_n C0.1 C0.2.1 dX0_markClass_36 rfl (lv_at hl 0 rfl) ?_
        refine lv_sipush (v := 808) C0.1 C0.2.1 dX0_markClass_37 (by decide) ?_
        refine lv_icmp_ne (tgt := 49) C0.1 C0.2.1 dX0_markClass_40 (by decide) (fun c3 => ?_) (fun c3 => ?_)
        · refine lv_iconst (v := 0) C0.1 C0.2.1 dX0_markClass_49 (by decide) ?_
          exact me_iret C0.1 C0.2.1 B.returns B.notSynchronized rfl rfl (by rw [h_mkCls_18]; unfold mkCls_18; rw [if_neg c1, if_neg c2, if_neg c3]) dX0_markClass_50
        · exact j_mkCls_43 ls hl (by rw [h_mkCls_18]; unfold mkCls_18; rw [if_neg c1, if_neg c2, if_pos c3])
    · refine lv_sipush (v := 220) C0.1 C0.2.1 dX0_markClass_25 (by decide) ?_
      exact me_iret C0.1 C0.2.1 B.returns B.notSynchronized rfl rfl (by rw [h_mkCls_18]; unfold mkCls_18; rw [if_pos c1]) dX0_markClass_28
  refine lv_iload_n C0.1 C0.2.1 dX0_markClass_0 rfl (lv_at hl 0 rfl) ?_
  refine lv_sipush (v := 768) C0.1 C0.2.1 dX0_markClass_1 (by decide) ?_
  refine lv_icmp_lt (tgt := 18) C0.1 C0.2.1 dX0_markClass_4 (by decide) (fun c4 => ?_) (fun c4 => ?_)
  · exact j_mkCls_18 ls hl (by unfold mkCls; rw [if_pos c4])
  · refine lv_iload_n C0.1 C0.2.1 dX0_markClass_7 rfl (lv_at hl 0 rfl) ?_
    refine lv_sipush (v := 783) C0.1 C0.2.1 dX0_markClass_8 (by decide) ?_
    refine lv_icmp_gt (tgt := 18) C0.1 C0.2.1 dX0_markClass_11 (by decide) (fun c5 => ?_) (fun c5 => ?_)
    · exact j_mkCls_18 ls hl (by unfold mkCls; rw [if_neg c4, if_pos c5])
    · refine lv_sipush (v := 230) C0.1 C0.2.1 dX0_markClass_14 (by decide) ?_
      exact me_iret C0.1 C0.2.1 B.returns B.notSynchronized rfl rfl (by unfold mkCls; rw [if_neg c4, if_neg c5]) dX0_markClass_17

def smL_37 (x : Int32) : Int32 := if x = 181 then 956 else x
def smL_33 (x : Int32) : Int32 := x + 32
def smL_12 (x : Int32) : Int32 := if x < 192 then (smL_37 x) else if 222 < x then (smL_37 x) else if x = 215 then (smL_37 x) else smL_33 x
def smL (x : Int32) : Int32 := if x < 65 then (smL_12 x) else if x ≤ 90 then (smL_33 x) else smL_12 x
set_option maxHeartbeats 4000000 in
set_option maxRecDepth 100000 in
/-- smallLatin -/
theorem c_X0_smallLatin (l : Launch) (G : me_G) (B0 : Nat) (w : Me) (x : Int32) : CtI l yX0_smallLatin (Cond.code yX0_smallLatin cX0_smallLatin 2 (some .int)) ({ frames := 0, cells := 0, slots := 0, locals := 0 }) G B0 w [.int x] (fun z => z = smL x) := by
  refine Met.ofW (cc := cX0_smallLatin) (maxL := 2) (ret := (some .int)) (by decide) rfl ?_
  intro p e s m args below meth c s₁ B hml hv
  obtain ⟨rfl, hK, hP, hKq, hBs⟩ := hv
  have hts := fun w h => atoms_spec (ws := Cond.code yX0_smallLatin cX0_smallLatin 2 (some .int) :: tbG) B.pre w (List.mem_cons_of_mem _ h)
  have hown : s.vm.findClass RX0 = some m.cls := findClass_of_methodNamed B.named
  have C0 : Cx G B0 p s m _ c cX0_smallLatin RX0 := ⟨B.exec, B.bytes, hown, hts, hK, hKq, hBs⟩
  have hS : va_S (me_A B0) s.heap s.heap [] := va_S.rf
  have hl := lv_entry ([.int x]) (n := 2) (Nat.le_of_ble_eq_true rfl)
  rw [lg_entry_eq]
  generalize (lg_sl ([.int x]) ++ List.replicate (2 - (lg_sl ([.int x])).length) Slot.unset).toArray = ls at hl ⊢
  have hl : lv_has ls 2 [(0, .int x)] := hl
  have j_smL_37 : ∀ (ls : Array Slot), lv_has ls 2 [(0, .int x)] → smL x = smL_37 x → W p l e ({ frames := 0, cells := 0, slots := 0, locals := 0 }) s m ([.int x] : List Value).toArray below meth c s.heap [] 0 0 (MQ below (vp_Si (fun z => z = smL x)) ([.int x] : List Value).toArray s 0 0 (fun _ => False)) (F0 m 37 ls []) := by
    intro ls hl h_smL_37
    refine lv_iconst (v := 0) C0.1 C0.2.1 dX0_smallLatin_37 (by decide) ?_
    refine lv_istore_n (lv' := [(1, .int 0), (0, .int x)]) C0.1 C0.2.1 dX0_smallLatin_38 rfl hl (by decide) rfl (fun ls hl => ?_)
    refine lv_iload_n C0.1 C0.2.1 dX0_smallLatin_39 rfl (lv_at hl 0 rfl) ?_
    refine lv_if_eq (tgt := 48) C0.1 C0.2.1 dX0_smallLatin_40 (by decide) (fun c => ?_) (fun c => absurd c (by decide))
    refine lv_iload_n C0.1 C0.2.1 dX0_smallLatin_48 rfl (lv_at hl 1 rfl) ?_
    refine lv_sipush (v := 181) C0.1 C0.2.1 dX0_smallLatin_49 (by decide) ?_
    refine lv_icmp_ne (tgt := 61) C0.1 C0.2.1 dX0_smallLatin_52 (by decide) (fun c2 => ?_) (fun c2 => ?_)
    · refine lv_iload_n C0.1 C0.2.1 dX0_smallLatin_61 rfl (lv_at hl 1 rfl) ?_
      exact me_iret C0.1 C0.2.1 B.returns B.notSynchronized rfl rfl (by rw [h_smL_37]; unfold smL_37; rw [if_neg c2]) dX0_smallLatin_62
    · refine lv_sipush (v := 956) C0.1 C0.2.1 dX0_smallLatin_55 (by decide) ?_
      refine lv_goto (tgt := 62) C0.1 C0.2.1 dX0_smallLatin_58 (by decide) ?_
      exact me_iret C0.1 C0.2.1 B.returns B.notSynchronized rfl rfl (by rw [h_smL_37]; unfold smL_37; rw [if_pos c2]) dX0_smallLatin_62
  have j_smL_33 : ∀ (ls : Array Slot), lv_has ls 2 [(0, .int x)] → smL x = smL_33 x → W p l e ({ frames := 0, cells := 0, slots := 0, locals := 0 }) s m ([.int x] : List Value).toArray below meth c s.heap [] 0 0 (MQ below (vp_Si (fun z => z = smL x)) ([.int x] : List Value).toArray s 0 0 (fun _ => False)) (F0 m 33 ls []) := by
    intro ls hl h_smL_33
    refine lv_iconst (v := 1) C0.1 C0.2.1 dX0_smallLatin_33 (by decide) ?_
    refine lv_goto (tgt := 38) C0.1 C0.2.1 dX0_smallLatin_34 (by decide) ?_
    refine lv_istore_n (lv' := [(1, .int 1), (0, .int x)]) C0.1 C0.2.1 dX0_smallLatin_38 rfl hl (by decide) rfl (fun ls hl => ?_)
    refine lv_iload_n C0.1 C0.2.1 dX0_smallLatin_39 rfl (lv_at hl 0 rfl) ?_
    refine lv_if_eq (tgt := 48) C0.1 C0.2.1 dX0_smallLatin_40 (by decide) (fun c => absurd c (by decide)) (fun c => ?_)
    refine lv_iload_n C0.1 C0.2.1 dX0_smallLatin_43 rfl (lv_at hl 1 rfl) ?_
    refine lv_bipush (v := 32) C0.1 C0.2.1 dX0_smallLatin_44 (by decide) ?_
    refine lv_iadd C0.1 C0.2.1 dX0_smallLatin_46 ?_
    exact me_iret C0.1 C0.2.1 B.returns B.notSynchronized rfl rfl (by rw [h_smL_33]; unfold smL_33; rfl) dX0_smallLatin_47
  have j_smL_12 : ∀ (ls : Array Slot), lv_has ls 2 [(0, .int x)] → smL x = smL_12 x → W p l e ({ frames := 0, cells := 0, slots := 0, locals := 0 }) s m ([.int x] : List Value).toArray below meth c s.heap [] 0 0 (MQ below (vp_Si (fun z => z = smL x)) ([.int x] : List Value).toArray s 0 0 (fun _ => False)) (F0 m 12 ls []) := by
    intro ls hl h_smL_12
    refine lv_iload_n C0.1 C0.2.1 dX0_smallLatin_12 rfl (lv_at hl 0 rfl) ?_
    refine lv_sipush (v := 192) C0.1 C0.2.1 dX0_smallLatin_13 (by decide) ?_
    refine lv_icmp_lt (tgt := 37) C0.1 C0.2.1 dX0_smallLatin_16 (by decide) (fun c4 => ?_) (fun c4 => ?_)
    · exact j_smL_37 ls hl (by rw [h_smL_12]; unfold smL_12; rw [if_pos c4])
    · refine lv_iload_n C0.1 C0.2.1 dX0_smallLatin_19 rfl (lv_at hl 0 rfl) ?_
      refine lv_sipush (v := 222) C0.1 C0.2.1 dX0_smallLatin_20 (by decide) ?_
      refine lv_icmp_gt (tgt := 37) C0.1 C0.2.1 dX0_smallLatin_23 (by decide) (fun c5 => ?_) (fun c5 => ?_)
      · exact j_smL_37 ls hl (by rw [h_smL_12]; unfold smL_12; rw [if_neg c4, if_pos c5])
      · refine lv_iload_n C0.1 C0.2.1 dX0_smallLatin_26 rfl (lv_at hl 0 rfl) ?_
        refine lv_sipush (v := 215) C0.1 C0.2.1 dX0_smallLatin_27 (by decide) ?_
        refine lv_icmp_eq (tgt := 37) C0.1 C0.2.1 dX0_smallLatin_30 (by decide) (fun c6 => ?_) (fun c6 => ?_)
        · exact j_smL_37 ls hl (by rw [h_smL_12]; unfold smL_12; rw [if_neg c4, if_neg c5, if_pos c6])
        · exact j_smL_33 ls hl (by rw [h_smL_12]; unfold smL_12; rw [if_neg c4, if_neg c5, if_neg c6])
  refine lv_iload_n C0.1 C0.2.1 dX0_smallLatin_0 rfl (lv_at hl 0 rfl) ?_
  refine lv_bipush (v := 65) C0.1 C0.2.1 dX0_smallLatin_1 (by decide) ?_
  refine lv_icmp_lt (tgt := 12) C0.1 C0.2.1 dX0_smallLatin_3 (by decide) (fun c7 => ?_) (fun c7 => ?_)
  · exact j_smL_12 ls hl (by unfold smL; rw [if_pos c7])
  · refine lv_iload_n C0.1 C0.2.1 dX0_smallLatin_6 rfl (lv_at hl 0 rfl) ?_
    refine lv_bipush (v := 90) C0.1 C0.2.1 dX0_smallLatin_7 (by decide) ?_
    refine lv_icmp_le (tgt := 33) C0.1 C0.2.1 dX0_smallLatin_9 (by decide) (fun c8 => ?_) (fun c8 => ?_)
    · exact j_smL_33 ls hl (by unfold smL; rw [if_neg c7, if_pos c8])
    · exact j_smL_12 ls hl (by unfold smL; rw [if_neg c7, if_neg c8])

def smE_98 (x : Int32) : Int32 := x
def smE_94 (x : Int32) : Int32 := x + 1
def smE_80 (x : Int32) : Int32 := if x < 377 then (smE_98 x) else if 382 < x then (smE_98 x) else smE_94 x
def smE_62 (x : Int32) : Int32 := x
def smE_58 (x : Int32) : Int32 := x + 1
def smE (x : Int32) : Int32 := if x = 376 then 255 else if x = 383 then 115 else if (x - x / 2 * 2) = 0 then (if x ≤ 303 then (smE_58 x) else if x < 330 then (smE_62 x) else if 375 < x then (smE_62 x) else smE_58 x) else if x < 313 then (smE_80 x) else if x ≤ 328 then (smE_94 x) else smE_80 x
set_option maxHeartbeats 4000000 in
set_option maxRecDepth 100000 in
/-- smallLatinExtended -/
theorem c_X0_smallLatinExtended (l : Launch) (G : me_G) (B0 : Nat) (w : Me) (x : Int32) : CtI l yX0_smallLatinExtended (Cond.code yX0_smallLatinExtended cX0_smallLatinExtended 3 (some .int)) ({ frames := 0, cells := 0, slots := 0, locals := 0 }) G B0 w [.int x] (fun z => z = smE x) := by
  refine Met.ofW (cc := cX0_smallLatinExtended) (maxL := 3) (ret := (some .int)) (by decide) rfl ?_
  intro p e s m args below meth c s₁ B hml hv
  obtain ⟨rfl, hK, hP, hKq, hBs⟩ := hv
  have hts := fun w h => atoms_spec (ws := Cond.code yX0_smallLatinExtended cX0_smallLatinExtended 3 (some .int) :: tbG) B.pre w (List.mem_cons_of_mem _ h)
  have hown : s.vm.findClass RX0 = some m.cls := findClass_of_methodNamed B.named
  have C0 : Cx G B0 p s m _ c cX0_smallLatinExtended RX0 := ⟨B.exec, B.bytes, hown, hts, hK, hKq, hBs⟩
  have hS : va_S (me_A B0) s.heap s.heap [] := va_S.rf
  have hl := lv_entry ([.int x]) (n := 3) (Nat.le_of_ble_eq_true rfl)
  rw [lg_entry_eq]
  generalize (lg_sl ([.int x]) ++ List.replicate (3 - (lg_sl ([.int x])).length) Slot.unset).toArray = ls at hl ⊢
  have hl : lv_has ls 3 [(0, .int x)] := hl
  have j_smE_98 : ∀ (ls : Array Slot), lv_has ls 3 [(1, .int 0), (0, .int x)] → smE x = smE_98 x → W p l e ({ frames := 0, cells := 0, slots := 0, locals := 0 }) s m ([.int x] : List Value).toArray below meth c s.heap [] 0 0 (MQ below (vp_Si (fun z => z = smE x)) ([.int x] : List Value).toArray s 0 0 (fun _ => False)) (F0 m 98 ls []) := by
    intro ls hl h_smE_98
    refine lv_iconst (v := 0) C0.1 C0.2.1 dX0_smallLatinExtended_98 (by decide) ?_
    refine lv_istore_n (lv' := [(2, .int 0), (1, .int 0), (0, .int x)]) C0.1 C0.2.1 dX0_smallLatinExtended_99 rfl hl (by decide) rfl (fun ls hl => ?_)
    refine lv_iload_n C0.1 C0.2.1 dX0_smallLatinExtended_100 rfl (lv_at hl 0 rfl) ?_
    refine lv_if_eq (tgt := 110) C0.1 C0.2.1 dX0_smallLatinExtended_101 (by decide) (fun c => ?_) (fun c => absurd c (by decide))
    refine lv_iload_n C0.1 C0.2.1 dX0_smallLatinExtended_110 rfl (lv_at hl 2 rfl) ?_
    exact me_iret C0.1 C0.2.1 B.returns B.notSynchronized rfl rfl (by rw [h_smE_98]; unfold smE_98; rfl) dX0_smallLatinExtended_111
  have j_smE_94 : ∀ (ls : Array Slot), lv_has ls 3 [(1, .int 0), (0, .int x)] → smE x = smE_94 x → W p l e ({ frames := 0, cells := 0, slots := 0, locals := 0 }) s m ([.int x] : List Value).toArray below meth c s.heap [] 0 0 (MQ below (vp_Si (fun z => z = smE x)) ([.int x] : List Value).toArray s 0 0 (fun _ => False)) (F0 m 94 ls []) := by
    intro ls hl h_smE_94
    refine lv_iconst (v := 1) C0.1 C0.2.1 dX0_smallLatinExtended_94 (by decide) ?_
    refine lv_goto (tgt := 99) C0.1 C0.2.1 dX0_smallLatinExtended_95 (by decide) ?_
    refine lv_istore_n (lv' := [(2, .int 1), (1, .int 0), (0, .int x)]) C0.1 C0.2.1 dX0_smallLatinExtended_99 rfl hl (by decide) rfl (fun ls hl => ?_)
    refine lv_iload_n C0.1 C0.2.1 dX0_smallLatinExtended_100 rfl (lv_at hl 0 rfl) ?_
    refine lv_if_eq (tgt := 110) C0.1 C0.2.1 dX0_smallLatinExtended_101 (by decide) (fun c => absurd c (by decide)) (fun c => ?_)
    refine lv_iload_n C0.1 C0.2.1 dX0_smallLatinExtended_104 rfl (lv_at hl 2 rfl) ?_
    refine lv_iconst (v := 1) C0.1 C0.2.1 dX0_smallLatinExtended_105 (by decide) ?_
    refine lv_iadd C0.1 C0.2.1 dX0_smallLatinExtended_106 ?_
    refine lv_goto (tgt := 111) C0.1 C0.2.1 dX0_smallLatinExtended_107 (by decide) ?_
    exact me_iret C0.1 C0.2.1 B.returns B.notSynchronized rfl rfl (by rw [h_smE_94]; unfold smE_94; rfl) dX0_smallLatinExtended_111
  have j_smE_80 : ∀ (ls : Array Slot), lv_has ls 3 [(1, .int 0), (0, .int x)] → smE x = smE_80 x → W p l e ({ frames := 0, cells := 0, slots := 0, locals := 0 }) s m ([.int x] : List Value).toArray below meth c s.heap [] 0 0 (MQ below (vp_Si (fun z => z = smE x)) ([.int x] : List Value).toArray s 0 0 (fun _ => False)) (F0 m 80 ls []) := by
    intro ls hl h_smE_80
    refine lv_iload_n C0.1 C0.2.1 dX0_smallLatinExtended_80 rfl (lv_at hl 1 rfl) ?_
    refine lv_sipush (v := 377) C0.1 C0.2.1 dX0_smallLatinExtended_81 (by decide) ?_
    refine lv_icmp_lt (tgt := 98) C0.1 C0.2.1 dX0_smallLatinExtended_84 (by decide) (fun c3 => ?_) (fun c3 => ?_)
    · exact j_smE_98 ls hl (by rw [h_smE_80]; unfold smE_80; rw [if_pos c3])
    · refine lv_iload_n C0.1 C0.2.1 dX0_smallLatinExtended_87 rfl (lv_at hl 1 rfl) ?_
      refine lv_sipush (v := 382) C0.1 C0.2.1 dX0_smallLatinExtended_88 (by decide) ?_
      refine lv_icmp_gt (tgt := 98) C0.1 C0.2.1 dX0_smallLatinExtended_91 (by decide) (fun c4 => ?_) (fun c4 => ?_)
      · exact j_smE_98 ls hl (by rw [h_smE_80]; unfold smE_80; rw [if_neg c3, if_pos c4])
      · exact j_smE_94 ls hl (by rw [h_smE_80]; unfold smE_80; rw [if_neg c3, if_neg c4])
  have j_smE_62 : ∀ (ls : Array Slot), lv_has ls 3 [(1, .int 1), (0, .int x)] → smE x = smE_62 x → W p l e ({ frames := 0, cells := 0, slots := 0, locals := 0 }) s m ([.int x] : List Value).toArray below meth c s.heap [] 0 0 (MQ below (vp_Si (fun z => z = smE x)) ([.int x] : List Value).toArray s 0 0 (fun _ => False)) (F0 m 62 ls []) := by
    intro ls hl h_smE_62
    refine lv_iconst (v := 0) C0.1 C0.2.1 dX0_smallLatinExtended_62 (by decide) ?_
    refine lv_goto (tgt := 99) C0.1 C0.2.1 dX0_smallLatinExtended_63 (by decide) ?_
    refine lv_istore_n (lv' := [(2, .int 0), (1, .int 1), (0, .int x)]) C0.1 C0.2.1 dX0_smallLatinExtended_99 rfl hl (by decide) rfl (fun ls hl => ?_)
    refine lv_iload_n C0.1 C0.2.1 dX0_smallLatinExtended_100 rfl (lv_at hl 0 rfl) ?_
    refine lv_if_eq (tgt := 110) C0.1 C0.2.1 dX0_smallLatinExtended_101 (by decide) (fun c => ?_) (fun c => absurd c (by decide))
    refine lv_iload_n C0.1 C0.2.1 dX0_smallLatinExtended_110 rfl (lv_at hl 2 rfl) ?_
    exact me_iret C0.1 C0.2.1 B.returns B.notSynchronized rfl rfl (by rw [h_smE_62]; unfold smE_62; rfl) dX0_smallLatinExtended_111
  have j_smE_58 : ∀ (ls : Array Slot), lv_has ls 3 [(1, .int 1), (0, .int x)] → smE x = smE_58 x → W p l e ({ frames := 0, cells := 0, slots := 0, locals := 0 }) s m ([.int x] : List Value).toArray below meth c s.heap [] 0 0 (MQ below (vp_Si (fun z => z = smE x)) ([.int x] : List Value).toArray s 0 0 (fun _ => False)) (F0 m 58 ls []) := by
    intro ls hl h_smE_58
    refine lv_iconst (v := 1) C0.1 C0.2.1 dX0_smallLatinExtended_58 (by decide) ?_
    refine lv_goto (tgt := 99) C0.1 C0.2.1 dX0_smallLatinExtended_59 (by decide) ?_
    refine lv_istore_n (lv' := [(2, .int 1), (1, .int 1), (0, .int x)]) C0.1 C0.2.1 dX0_smallLatinExtended_99 rfl hl (by decide) rfl (fun ls hl => ?_)
    refine lv_iload_n C0.1 C0.2.1 dX0_smallLatinExtended_100 rfl (lv_at hl 0 rfl) ?_
    refine lv_if_eq (tgt := 110) C0.1 C0.2.1 dX0_smallLatinExtended_101 (by decide) (fun c => absurd c (by decide)) (fun c => ?_)
    refine lv_iload_n C0.1 C0.2.1 dX0_smallLatinExtended_104 rfl (lv_at hl 2 rfl) ?_
    refine lv_iconst (v := 1) C0.1 C0.2.1 dX0_smallLatinExtended_105 (by decide) ?_
    refine lv_iadd C0.1 C0.2.1 dX0_smallLatinExtended_106 ?_
    refine lv_goto (tgt := 111) C0.1 C0.2.1 dX0_smallLatinExtended_107 (by decide) ?_
    exact me_iret C0.1 C0.2.1 B.returns B.notSynchronized rfl rfl (by rw [h_smE_58]; unfold smE_58; rfl) dX0_smallLatinExtended_111
  refine lv_iload_n C0.1 C0.2.1 dX0_smallLatinExtended_0 rfl (lv_at hl 0 rfl) ?_
  refine lv_sipush (v := 376) C0.1 C0.2.1 dX0_smallLatinExtended_1 (by decide) ?_
  refine lv_icmp_ne (tgt := 11) C0.1 C0.2.1 dX0_smallLatinExtended_4 (by decide) (fun c7 => ?_) (fun c7 => ?_)
  · refine lv_iload_n C0.1 C0.2.1 dX0_smallLatinExtended_11 rfl (lv_at hl 0 rfl) ?_
    refine lv_sipush (v := 383) C0.1 C0.2.1 dX0_smallLatinExtended_12 (by decide) ?_
    refine lv_icmp_ne (tgt := 21) C0.1 C0.2.1 dX0_smallLatinExtended_15 (by decide) (fun c8 => ?_) (fun c8 => ?_)
    · refine lv_iload_n C0.1 C0.2.1 dX0_smallLatinExtended_21 rfl (lv_at hl 0 rfl) ?_
      refine lv_iconst (v := 2) C0.1 C0.2.1 dX0_smallLatinExtended_22 (by decide) ?_
      refine lv_irem C0.1 C0.2.1 dX0_smallLatinExtended_23 (by decide) ?_
      refine lv_if_ne (tgt := 31) C0.1 C0.2.1 dX0_smallLatinExtended_24 (by decide) (fun c9 => ?_) (fun c9 => ?_)
      · refine lv_iconst (v := 0) C0.1 C0.2.1 dX0_smallLatinExtended_31 (by decide) ?_
        refine lv_istore_n (lv' := [(1, .int 0), (0, .int x)]) C0.1 C0.2.1 dX0_smallLatinExtended_32 rfl hl (by decide) rfl (fun ls hl => ?_)
        refine lv_iload_n C0.1 C0.2.1 dX0_smallLatinExtended_33 rfl (lv_at hl 0 rfl) ?_
        refine lv_if_eq (tgt := 66) C0.1 C0.2.1 dX0_smallLatinExtended_34 (by decide) (fun c => ?_) (fun c => absurd c (by decide))
        refine lv_iload_n C0.1 C0.2.1 dX0_smallLatinExtended_66 rfl (lv_at hl 1 rfl) ?_
        refine lv_sipush (v := 313) C0.1 C0.2.1 dX0_smallLatinExtended_67 (by decide) ?_
        refine lv_icmp_lt (tgt := 80) C0.1 C0.2.1 dX0_smallLatinExtended_70 (by decide) (fun c11 => ?_) (fun c11 => ?_)
        · exact j_smE_80 ls hl (by unfold smE; rw [if_neg c7, if_neg c8, if_neg c9, if_pos c11])
        · refine lv_iload_n C0.1 C0.2.1 dX0_smallLatinExtended_73 rfl (lv_at hl 1 rfl) ?_
          refine lv_sipush (v := 328) C0.1 C0.2.1 dX0_smallLatinExtended_74 (by decide) ?_
          refine lv_icmp_le (tgt := 94) C0.1 C0.2.1 dX0_smallLatinExtended_77 (by decide) (fun c12 => ?_) (fun c12 => ?_)
          · exact j_smE_94 ls hl (by unfold smE; rw [if_neg c7, if_neg c8, if_neg c9, if_neg c11, if_pos c12])
          · exact j_smE_80 ls hl (by unfold smE; rw [if_neg c7, if_neg c8, if_neg c9, if_neg c11, if_neg c12])
      · refine lv_iconst (v := 1) C0.1 C0.2.1 dX0_smallLatinExtended_27 (by decide) ?_
        refine lv_goto (tgt := 32) C0.1 C0.2.1 dX0_smallLatinExtended_28 (by decide) ?_
        refine lv_istore_n (lv' := [(1, .int 1), (0, .int x)]) C0.1 C0.2.1 dX0_smallLatinExtended_32 rfl hl (by decide) rfl (fun ls hl => ?_)
        refine lv_iload_n C0.1 C0.2.1 dX0_smallLatinExtended_33 rfl (lv_at hl 0 rfl) ?_
        refine lv_if_eq (tgt := 66) C0.1 C0.2.1 dX0_smallLatinExtended_34 (by decide) (fun c => absurd c (by decide)) (fun c => ?_)
        refine lv_iload_n C0.1 C0.2.1 dX0_smallLatinExtended_37 rfl (lv_at hl 1 rfl) ?_
        refine lv_sipush (v := 303) C0.1 C0.2.1 dX0_smallLatinExtended_38 (by decide) ?_
        refine lv_icmp_le (tgt := 58) C0.1 C0.2.1 dX0_smallLatinExtended_41 (by decide) (fun c14 => ?_) (fun c14 => ?_)
        · exact j_smE_58 ls hl (by unfold smE; rw [if_neg c7, if_neg c8, if_pos c9, if_pos c14])
        · refine lv_iload_n C0.1 C0.2.1 dX0_smallLatinExtended_44 rfl (lv_at hl 1 rfl) ?_
          refine lv_sipush (v := 330) C0.1 C0.2.1 dX0_smallLatinExtended_45 (by decide) ?_
          refine lv_icmp_lt (tgt := 62) C0.1 C0.2.1 dX0_smallLatinExtended_48 (by decide) (fun c15 => ?_) (fun c15 => ?_)
          · exact j_smE_62 ls hl (by unfold smE; rw [if_neg c7, if_neg c8, if_pos c9, if_neg c14, if_pos c15])
          · refine lv_iload_n C0.1 C0.2.1 dX0_smallLatinExtended_51 rfl (lv_at hl 1 rfl) ?_
            refine lv_sipush (v := 375) C0.1 C0.2.1 dX0_smallLatinExtended_52 (by decide) ?_
            refine lv_icmp_gt (tgt := 62) C0.1 C0.2.1 dX0_smallLatinExtended_55 (by decide) (fun c16 => ?_) (fun c16 => ?_)
            · exact j_smE_62 ls hl (by unfold smE; rw [if_neg c7, if_neg c8, if_pos c9, if_neg c14, if_neg c15, if_pos c16])
            · exact j_smE_58 ls hl (by unfold smE; rw [if_neg c7, if_neg c8, if_pos c9, if_neg c14, if_neg c15, if_neg c16])
    · refine lv_bipush (v := 115) C0.1 C0.2.1 dX0_smallLatinExtended_18 (by decide) ?_
      exact me_iret C0.1 C0.2.1 B.returns B.notSynchronized rfl rfl (by unfold smE; rw [if_neg c7, if_pos c8]) dX0_smallLatinExtended_20
  · refine lv_sipush (v := 255) C0.1 C0.2.1 dX0_smallLatinExtended_7 (by decide) ?_
    exact me_iret C0.1 C0.2.1 B.returns B.notSynchronized rfl rfl (by unfold smE; rw [if_pos c7]) dX0_smallLatinExtended_10

def smA_116 (x : Int32) : Int32 := x
def smA_80a (x : Int32) : Int32 := if x < 1024 then (smA_116 x) else if 1039 < x then (smA_116 x) else x + 80
def smA_80b (x : Int32) : Int32 := x + 32
def smA_60 (x : Int32) : Int32 := if x < 1040 then (smA_80a x) else if 1071 < x then (smA_80a x) else x + 32
def smA (x : Int32) : Int32 := if 256 ≤ x then (if 384 ≤ x then (if x = 962 then 963 else if x < 913 then (smA_60 x) else if 939 < x then (smA_60 x) else if x = 930 then (smA_60 x) else if x < 1040 then (smA_80b x) else if 1071 < x then (smA_80b x) else x + 32) else smE x) else smL x
set_option maxHeartbeats 4000000 in
set_option maxRecDepth 100000 in
/-- small -/
theorem c_X0_small (l : Launch) (G : me_G) (B0 : Nat) (w : Me) (x : Int32) : CtI l yX0_small (Cond.code yX0_small cX0_small 3 (some .int)) ({ frames := 1, cells := 0, slots := 0, locals := 22 }) G B0 w [.int x] (fun z => z = smA x) := by
  refine Met.ofW (cc := cX0_small) (maxL := 3) (ret := (some .int)) (by decide) rfl ?_
  intro p e s m args below meth c s₁ B hml hv
  obtain ⟨rfl, hK, hP, hKq, hBs⟩ := hv
  have hts := fun w h => atoms_spec (ws := Cond.code yX0_small cX0_small 3 (some .int) :: tbG) B.pre w (List.mem_cons_of_mem _ h)
  have hown : s.vm.findClass RX0 = some m.cls := findClass_of_methodNamed B.named
  have C0 : Cx G B0 p s m _ c cX0_small RX0 := ⟨B.exec, B.bytes, hown, hts, hK, hKq, hBs⟩
  have hS : va_S (me_A B0) s.heap s.heap [] := va_S.rf
  have hl := lv_entry ([.int x]) (n := 3) (Nat.le_of_ble_eq_true rfl)
  rw [lg_entry_eq]
  generalize (lg_sl ([.int x]) ++ List.replicate (3 - (lg_sl ([.int x])).length) Slot.unset).toArray = ls at hl ⊢
  have hl : lv_has ls 3 [(0, .int x)] := hl
  have j_smA_116 : ∀ (ls : Array Slot), lv_has ls 3 [(2, .int 0), (1, .int 0), (0, .int x)] → smA x = smA_116 x → W p l e ({ frames := 1, cells := 0, slots := 0, locals := 22 }) s m ([.int x] : List Value).toArray below meth c s.heap [] 0 0 (MQ below (vp_Si (fun z => z = smA x)) ([.int x] : List Value).toArray s 0 0 (fun _ => False)) (F0 m 116 ls []) := by
    intro ls hl h_smA_116
    refine lv_iload_n C0.1 C0.2.1 dX0_small_116 rfl (lv_at hl 2 rfl) ?_
    exact me_iret C0.1 C0.2.1 B.returns B.notSynchronized rfl rfl (by rw [h_smA_116]; unfold smA_116; rfl) dX0_small_117
  have j_smA_80a : ∀ (ls : Array Slot), lv_has ls 3 [(1, .int 0), (0, .int x)] → smA x = smA_80a x → W p l e ({ frames := 1, cells := 0, slots := 0, locals := 22 }) s m ([.int x] : List Value).toArray below meth c s.heap [] 0 0 (MQ below (vp_Si (fun z => z = smA x)) ([.int x] : List Value).toArray s 0 0 (fun _ => False)) (F0 m 80 ls []) := by
    intro ls hl h_smA_80a
    refine lv_iconst (v := 0) C0.1 C0.2.1 dX0_small_80 (by decide) ?_
    refine lv_istore_n (lv' := [(2, .int 0), (1, .int 0), (0, .int x)]) C0.1 C0.2.1 dX0_small_81 rfl hl (by decide) rfl (fun ls hl => ?_)
    refine lv_iload_n C0.1 C0.2.1 dX0_small_82 rfl (lv_at hl 1 rfl) ?_
    refine lv_if_ne (tgt := 90) C0.1 C0.2.1 dX0_small_83 (by decide) (fun c => absurd c (by decide)) (fun c => ?_)
    refine lv_iload_n C0.1 C0.2.1 dX0_small_86 rfl (lv_at hl 0 rfl) ?_
    refine lv_if_eq (tgt := 95) C0.1 C0.2.1 dX0_small_87 (by decide) (fun c => ?_) (fun c => absurd c (by decide))
    refine lv_iload_n C0.1 C0.2.1 dX0_small_95 rfl (lv_at hl 2 rfl) ?_
    refine lv_sipush (v := 1024) C0.1 C0.2.1 dX0_small_96 (by decide) ?_
    refine lv_icmp_lt (tgt := 116) C0.1 C0.2.1 dX0_small_99 (by decide) (fun c3 => ?_) (fun c3 => ?_)
    · exact j_smA_116 ls hl (by rw [h_smA_80a]; unfold smA_80a; rw [if_pos c3])
    · refine lv_iload_n C0.1 C0.2.1 dX0_small_102 rfl (lv_at hl 2 rfl) ?_
      refine lv_sipush (v := 1039) C0.1 C0.2.1 dX0_small_103 (by decide) ?_
      refine lv_icmp_gt (tgt := 116) C0.1 C0.2.1 dX0_small_106 (by decide) (fun c4 => ?_) (fun c4 => ?_)
      · exact j_smA_116 ls hl (by rw [h_smA_80a]; unfold smA_80a; rw [if_neg c3, if_pos c4])
      · refine lv_iload_n C0.1 C0.2.1 dX0_small_109 rfl (lv_at hl 2 rfl) ?_
        refine lv_bipush (v := 80) C0.1 C0.2.1 dX0_small_110 (by decide) ?_
        refine lv_iadd C0.1 C0.2.1 dX0_small_112 ?_
        refine lv_goto (tgt := 117) C0.1 C0.2.1 dX0_small_113 (by decide) ?_
        exact me_iret C0.1 C0.2.1 B.returns B.notSynchronized rfl rfl (by rw [h_smA_80a]; unfold smA_80a; rw [if_neg c3, if_neg c4]) dX0_small_117
  have j_smA_80b : ∀ (ls : Array Slot), lv_has ls 3 [(1, .int 1), (0, .int x)] → smA x = smA_80b x → W p l e ({ frames := 1, cells := 0, slots := 0, locals := 22 }) s m ([.int x] : List Value).toArray below meth c s.heap [] 0 0 (MQ below (vp_Si (fun z => z = smA x)) ([.int x] : List Value).toArray s 0 0 (fun _ => False)) (F0 m 80 ls []) := by
    intro ls hl h_smA_80b
    refine lv_iconst (v := 0) C0.1 C0.2.1 dX0_small_80 (by decide) ?_
    refine lv_istore_n (lv' := [(2, .int 0), (1, .int 1), (0, .int x)]) C0.1 C0.2.1 dX0_small_81 rfl hl (by decide) rfl (fun ls hl => ?_)
    refine lv_iload_n C0.1 C0.2.1 dX0_small_82 rfl (lv_at hl 1 rfl) ?_
    refine lv_if_ne (tgt := 90) C0.1 C0.2.1 dX0_small_83 (by decide) (fun c => ?_) (fun c => absurd c (by decide))
    refine lv_iload_n C0.1 C0.2.1 dX0_small_90 rfl (lv_at hl 2 rfl) ?_
    refine lv_bipush (v := 32) C0.1 C0.2.1 dX0_small_91 (by decide) ?_
    refine lv_iadd C0.1 C0.2.1 dX0_small_93 ?_
    exact me_iret C0.1 C0.2.1 B.returns B.notSynchronized rfl rfl (by rw [h_smA_80b]; unfold smA_80b; rfl) dX0_small_94
  have j_smA_60 : ∀ (ls : Array Slot), lv_has ls 3 [(0, .int x)] → smA x = smA_60 x → W p l e ({ frames := 1, cells := 0, slots := 0, locals := 22 }) s m ([.int x] : List Value).toArray below meth c s.heap [] 0 0 (MQ below (vp_Si (fun z => z = smA x)) ([.int x] : List Value).toArray s 0 0 (fun _ => False)) (F0 m 60 ls []) := by
    intro ls hl h_smA_60
    refine lv_iconst (v := 0) C0.1 C0.2.1 dX0_small_60 (by decide) ?_
    refine lv_istore_n (lv' := [(1, .int 0), (0, .int x)]) C0.1 C0.2.1 dX0_small_61 rfl hl (by decide) rfl (fun ls hl => ?_)
    refine lv_iload_n C0.1 C0.2.1 dX0_small_62 rfl (lv_at hl 1 rfl) ?_
    refine lv_sipush (v := 1040) C0.1 C0.2.1 dX0_small_63 (by decide) ?_
    refine lv_icmp_lt (tgt := 80) C0.1 C0.2.1 dX0_small_66 (by decide) (fun c6 => ?_) (fun c6 => ?_)
    · exact j_smA_80a ls hl (by rw [h_smA_60]; unfold smA_60; rw [if_pos c6])
    · refine lv_iload_n C0.1 C0.2.1 dX0_small_69 rfl (lv_at hl 1 rfl) ?_
      refine lv_sipush (v := 1071) C0.1 C0.2.1 dX0_small_70 (by decide) ?_
      refine lv_icmp_gt (tgt := 80) C0.1 C0.2.1 dX0_small_73 (by decide) (fun c7 => ?_) (fun c7 => ?_)
      · exact j_smA_80a ls hl (by rw [h_smA_60]; unfold smA_60; rw [if_neg c6, if_pos c7])
      · refine lv_iconst (v := 1) C0.1 C0.2.1 dX0_small_76 (by decide) ?_
        refine lv_goto (tgt := 81) C0.1 C0.2.1 dX0_small_77 (by decide) ?_
        refine lv_istore_n (lv' := [(2, .int 1), (1, .int 0), (0, .int x)]) C0.1 C0.2.1 dX0_small_81 rfl hl (by decide) rfl (fun ls hl => ?_)
        refine lv_iload_n C0.1 C0.2.1 dX0_small_82 rfl (lv_at hl 1 rfl) ?_
        refine lv_if_ne (tgt := 90) C0.1 C0.2.1 dX0_small_83 (by decide) (fun c => absurd c (by decide)) (fun c => ?_)
        refine lv_iload_n C0.1 C0.2.1 dX0_small_86 rfl (lv_at hl 0 rfl) ?_
        refine lv_if_eq (tgt := 95) C0.1 C0.2.1 dX0_small_87 (by decide) (fun c => absurd c (by decide)) (fun c => ?_)
        refine lv_iload_n C0.1 C0.2.1 dX0_small_90 rfl (lv_at hl 2 rfl) ?_
        refine lv_bipush (v := 32) C0.1 C0.2.1 dX0_small_91 (by decide) ?_
        refine lv_iadd C0.1 C0.2.1 dX0_small_93 ?_
        exact me_iret C0.1 C0.2.1 B.returns B.notSynchronized rfl rfl (by rw [h_smA_60]; unfold smA_60; rw [if_neg c6, if_neg c7]) dX0_small_94
  refine lv_iload_n C0.1 C0.2.1 dX0_small_0 rfl (lv_at hl 0 rfl) ?_
  refine lv_sipush (v := 256) C0.1 C0.2.1 dX0_small_1 (by decide) ?_
  refine lv_icmp_ge (tgt := 12) C0.1 C0.2.1 dX0_small_4 (by decide) (fun c10 => ?_) (fun c10 => ?_)
  · refine lv_iload_n C0.1 C0.2.1 dX0_small_12 rfl (lv_at hl 0 rfl) ?_
    refine lv_sipush (v := 384) C0.1 C0.2.1 dX0_small_13 (by decide) ?_
    refine lv_icmp_ge (tgt := 24) C0.1 C0.2.1 dX0_small_16 (by decide) (fun c11 => ?_) (fun c11 => ?_)
    · refine lv_iload_n C0.1 C0.2.1 dX0_small_24 rfl (lv_at hl 0 rfl) ?_
      refine lv_sipush (v := 962) C0.1 C0.2.1 dX0_small_25 (by decide) ?_
      refine lv_icmp_ne (tgt := 35) C0.1 C0.2.1 dX0_small_28 (by decide) (fun c12 => ?_) (fun c12 => ?_)
      · refine lv_iload_n C0.1 C0.2.1 dX0_small_35 rfl (lv_at hl 0 rfl) ?_
        refine lv_sipush (v := 913) C0.1 C0.2.1 dX0_small_36 (by decide) ?_
        refine lv_icmp_lt (tgt := 60) C0.1 C0.2.1 dX0_small_39 (by decide) (fun c13 => ?_) (fun c13 => ?_)
        · exact j_smA_60 ls hl (by unfold smA; rw [if_pos c10, if_pos c11, if_neg c12, if_pos c13])
        · refine lv_iload_n C0.1 C0.2.1 dX0_small_42 rfl (lv_at hl 0 rfl) ?_
          refine lv_sipush (v := 939) C0.1 C0.2.1 dX0_small_43 (by decide) ?_
          refine lv_icmp_gt (tgt := 60) C0.1 C0.2.1 dX0_small_46 (by decide) (fun c14 => ?_) (fun c14 => ?_)
          · exact j_smA_60 ls hl (by unfold smA; rw [if_pos c10, if_pos c11, if_neg c12, if_neg c13, if_pos c14])
          · refine lv_iload_n C0.1 C0.2.1 dX0_small_49 rfl (lv_at hl 0 rfl) ?_
            refine lv_sipush (v := 930) C0.1 C0.2.1 dX0_small_50 (by decide) ?_
            refine lv_icmp_eq (tgt := 60) C0.1 C0.2.1 dX0_small_53 (by decide) (fun c15 => ?_) (fun c15 => ?_)
            · exact j_smA_60 ls hl (by unfold smA; rw [if_pos c10, if_pos c11, if_neg c12, if_neg c13, if_neg c14, if_pos c15])
            · refine lv_iconst (v := 1) C0.1 C0.2.1 dX0_small_56 (by decide) ?_
              refine lv_goto (tgt := 61) C0.1 C0.2.1 dX0_small_57 (by decide) ?_
              refine lv_istore_n (lv' := [(1, .int 1), (0, .int x)]) C0.1 C0.2.1 dX0_small_61 rfl hl (by decide) rfl (fun ls hl => ?_)
              refine lv_iload_n C0.1 C0.2.1 dX0_small_62 rfl (lv_at hl 1 rfl) ?_
              refine lv_sipush (v := 1040) C0.1 C0.2.1 dX0_small_63 (by decide) ?_
              refine lv_icmp_lt (tgt := 80) C0.1 C0.2.1 dX0_small_66 (by decide) (fun c16 => ?_) (fun c16 => ?_)
              · exact j_smA_80b ls hl (by unfold smA; rw [if_pos c10, if_pos c11, if_neg c12, if_neg c13, if_neg c14, if_neg c15, if_pos c16])
              · refine lv_iload_n C0.1 C0.2.1 dX0_small_69 rfl (lv_at hl 1 rfl) ?_
                refine lv_sipush (v := 1071) C0.1 C0.2.1 dX0_small_70 (by decide) ?_
                refine lv_icmp_gt (tgt := 80) C0.1 C0.2.1 dX0_small_73 (by decide) (fun c17 => ?_) (fun c17 => ?_)
                · exact j_smA_80b ls hl (by unfold smA; rw [if_pos c10, if_pos c11, if_neg c12, if_neg c13, if_neg c14, if_neg c15, if_neg c16, if_pos c17])
                · refine lv_iconst (v := 1) C0.1 C0.2.1 dX0_small_76 (by decide) ?_
                  refine lv_goto (tgt := 81) C0.1 C0.2.1 dX0_small_77 (by decide) ?_
                  refine lv_istore_n (lv' := [(2, .int 1), (1, .int 1), (0, .int x)]) C0.1 C0.2.1 dX0_small_81 rfl hl (by decide) rfl (fun ls hl => ?_)
                  refine lv_iload_n C0.1 C0.2.1 dX0_small_82 rfl (lv_at hl 1 rfl) ?_
                  refine lv_if_ne (tgt := 90) C0.1 C0.2.1 dX0_small_83 (by decide) (fun c => ?_) (fun c => absurd c (by decide))
                  refine lv_iload_n C0.1 C0.2.1 dX0_small_90 rfl (lv_at hl 2 rfl) ?_
                  refine lv_bipush (v := 32) C0.1 C0.2.1 dX0_small_91 (by decide) ?_
                  refine lv_iadd C0.1 C0.2.1 dX0_small_93 ?_
                  exact me_iret C0.1 C0.2.1 B.returns B.notSynchronized rfl rfl (by unfold smA; rw [if_pos c10, if_pos c11, if_neg c12, if_neg c13, if_neg c14, if_neg c15, if_neg c16, if_neg c17]) dX0_small_94
      · refine lv_sipush (v := 963) C0.1 C0.2.1 dX0_small_31 (by decide) ?_
        exact me_iret C0.1 C0.2.1 B.returns B.notSynchronized rfl rfl (by unfold smA; rw [if_pos c10, if_pos c11, if_pos c12]) dX0_small_34
    · refine lv_iload_n C0.1 C0.2.1 dX0_small_19 rfl (lv_at hl 0 rfl) ?_
      refine me_cSi (n := 1) C0 hml hP hS (c_X0_smallLatinExtended l G B0 w x) ⟨kw_232, kw_41, kw_230, ⟨by decide, by decide, by decide +kernel⟩, ⟨rfl, rfl⟩, ⟨Nat.le_of_ble_eq_true rfl, Nat.le_of_ble_eq_true rfl⟩⟩ kw_231 rfl hl.1 rfl (Nat.le_of_ble_eq_true rfl) ⟨Nat.le_of_ble_eq_true rfl, Nat.le_of_ble_eq_true rfl⟩ dX0_small_20 (fun r19 hr19 => ?_)
      subst hr19
      exact me_iret C0.1 C0.2.1 B.returns B.notSynchronized rfl rfl (by unfold smA; rw [if_pos c10, if_neg c11]) dX0_small_23
  · refine lv_iload_n C0.1 C0.2.1 dX0_small_7 rfl (lv_at hl 0 rfl) ?_
    refine me_cSi (n := 1) C0 hml hP hS (c_X0_smallLatin l G B0 w x) ⟨kw_229, kw_41, kw_227, ⟨by decide, by decide, by decide +kernel⟩, ⟨rfl, rfl⟩, ⟨Nat.le_of_ble_eq_true rfl, Nat.le_of_ble_eq_true rfl⟩⟩ kw_228 rfl hl.1 rfl (Nat.le_of_ble_eq_true rfl) ⟨Nat.le_of_ble_eq_true rfl, Nat.le_of_ble_eq_true rfl⟩ dX0_small_8 (fun r20 hr20 => ?_)
    subst hr20
    exact me_iret C0.1 C0.2.1 B.returns B.notSynchronized rfl rfl (by unfold smA; rw [if_neg c10]) dX0_small_11

def mkOf (x : Int32) : Int32 := if 52 ≤ x then (if x = 52 then 776 else if x = 53 then 778 else 807) else (768 + x) - 48
set_option maxHeartbeats 4000000 in
set_option maxRecDepth 100000 in
/-- markOf -/
theorem c_X5_markOf (l : Launch) (G : me_G) (B0 : Nat) (w : Me) (x : Int32) : CtI l yX5_markOf (Cond.code yX5_markOf cX5_markOf 1 (some .int)) ({ frames := 0, cells := 0, slots := 0, locals := 0 }) G B0 w [.int x] (fun z => z = mkOf x) := by
  refine Met.ofW (cc := cX5_markOf) (maxL := 1) (ret := (some .int)) (by decide) rfl ?_
  intro p e s m args below meth c s₁ B hml hv
  obtain ⟨rfl, hK, hP, hKq, hBs⟩ := hv
  have hts := fun w h => atoms_spec (ws := Cond.code yX5_markOf cX5_markOf 1 (some .int) :: tbG) B.pre w (List.mem_cons_of_mem _ h)
  have hown : s.vm.findClass RX5 = some m.cls := findClass_of_methodNamed B.named
  have C0 : Cx G B0 p s m _ c cX5_markOf RX5 := ⟨B.exec, B.bytes, hown, hts, hK, hKq, hBs⟩
  have hS : va_S (me_A B0) s.heap s.heap [] := va_S.rf
  have hl := lv_entry ([.int x]) (n := 1) (Nat.le_of_ble_eq_true rfl)
  rw [lg_entry_eq]
  generalize (lg_sl ([.int x]) ++ List.replicate (1 - (lg_sl ([.int x])).length) Slot.unset).toArray = ls at hl ⊢
  have hl : lv_has ls 1 [(0, .int x)] := hl
  refine lv_iload_n C0.1 C0.2.1 dX5_markOf_0 rfl (lv_at hl 0 rfl) ?_
  refine lv_bipush (v := 52) C0.1 C0.2.1 dX5_markOf_1 (by decide) ?_
  refine lv_icmp_ge (tgt := 17) C0.1 C0.2.1 dX5_markOf_3 (by decide) (fun c1 => ?_) (fun c1 => ?_)
  · refine lv_iload_n C0.1 C0.2.1 dX5_markOf_17 rfl (lv_at hl 0 rfl) ?_
    refine lv_bipush (v := 52) C0.1 C0.2.1 dX5_markOf_18 (by decide) ?_
    refine lv_icmp_ne (tgt := 29) C0.1 C0.2.1 dX5_markOf_20 (by decide) (fun c2 => ?_) (fun c2 => ?_)
    · refine lv_iload_n C0.1 C0.2.1 dX5_markOf_29 rfl (lv_at hl 0 rfl) ?_
      refine lv_bipush (v := 53) C0.1 C0.2.1 dX5_markOf_30 (by decide) ?_
      refine lv_icmp_ne (tgt := 41) C0.1 C0.2.1 dX5_markOf_32 (by decide) (fun c3 => ?_) (fun c3 => ?_)
      · refine lv_sipush (v := 807) C0.1 C0.2.1 dX5_markOf_41 (by decide) ?_
        exact me_iret C0.1 C0.2.1 B.returns B.notSynchronized rfl rfl (by unfold mkOf; rw [if_pos c1, if_neg c2, if_neg c3]) dX5_markOf_44
      · refine lv_sipush (v := 778) C0.1 C0.2.1 dX5_markOf_35 (by decide) ?_
        refine lv_goto (tgt := 44) C0.1 C0.2.1 dX5_markOf_38 (by decide) ?_
        exact me_iret C0.1 C0.2.1 B.returns B.notSynchronized rfl rfl (by unfold mkOf; rw [if_pos c1, if_neg c2, if_pos c3]) dX5_markOf_44
    · refine lv_sipush (v := 776) C0.1 C0.2.1 dX5_markOf_23 (by decide) ?_
      refine lv_goto (tgt := 44) C0.1 C0.2.1 dX5_markOf_26 (by decide) ?_
      exact me_iret C0.1 C0.2.1 B.returns B.notSynchronized rfl rfl (by unfold mkOf; rw [if_pos c1, if_pos c2]) dX5_markOf_44
  · refine lv_sipush (v := 768) C0.1 C0.2.1 dX5_markOf_6 (by decide) ?_
    refine lv_iload_n C0.1 C0.2.1 dX5_markOf_9 rfl (lv_at hl 0 rfl) ?_
    refine lv_iadd C0.1 C0.2.1 dX5_markOf_10 ?_
    refine lv_bipush (v := 48) C0.1 C0.2.1 dX5_markOf_11 (by decide) ?_
    refine lv_isub C0.1 C0.2.1 dX5_markOf_13 ?_
    refine lv_goto (tgt := 44) C0.1 C0.2.1 dX5_markOf_14 (by decide) ?_
    exact me_iret C0.1 C0.2.1 B.returns B.notSynchronized rfl rfl (by unfold mkOf; rw [if_neg c1]) dX5_markOf_44

def smR_177 (x : Int32) : Int32 := if x = 376 then 255 else if x = 962 then 963 else if x = 181 then 956 else if x = 383 then 115 else x
def smR_158 (x : Int32) : Int32 := if x < 1024 then (smR_177 x) else if 1039 < x then (smR_177 x) else x + 80
def smR_143 (x : Int32) : Int32 := if (x - x / 2 * 2) = 1 then (x + 1) else x
def smR_129 (x : Int32) : Int32 := if x < 377 then (smR_158 x) else if 382 < x then (smR_158 x) else smR_143 x
def smR_115 (x : Int32) : Int32 := if x < 313 then (smR_129 x) else if x ≤ 328 then (smR_143 x) else smR_129 x
def smR_101 (x : Int32) : Int32 := if (x - x / 2 * 2) = 0 then (x + 1) else x
def smR_87 (x : Int32) : Int32 := if x < 330 then (smR_115 x) else if 375 < x then (smR_115 x) else smR_101 x
def smR_73 (x : Int32) : Int32 := if x < 256 then (smR_87 x) else if x ≤ 303 then (smR_101 x) else smR_87 x
def smR_68 (x : Int32) : Int32 := x + 32
def smR_54 (x : Int32) : Int32 := if x < 1040 then (smR_73 x) else if 1071 < x then (smR_73 x) else smR_68 x
def smR_33 (x : Int32) : Int32 := if x < 913 then (smR_54 x) else if 939 < x then (smR_54 x) else if x = 930 then (smR_54 x) else smR_68 x
def smR_12 (x : Int32) : Int32 := if x < 192 then (smR_33 x) else if 222 < x then (smR_33 x) else if x = 215 then (smR_33 x) else smR_68 x
def smR (x : Int32) : Int32 := if x < 65 then (smR_12 x) else if x ≤ 90 then (smR_68 x) else smR_12 x
set_option maxHeartbeats 4000000 in
set_option maxRecDepth 100000 in
/-- small, the reference's -/
theorem c_X5_small (l : Launch) (G : me_G) (B0 : Nat) (w : Me) (x : Int32) : CtI l yX5_small (Cond.code yX5_small cX5_small 1 (some .int)) ({ frames := 0, cells := 0, slots := 0, locals := 0 }) G B0 w [.int x] (fun z => z = smR x) := by
  refine Met.ofW (cc := cX5_small) (maxL := 1) (ret := (some .int)) (by decide) rfl ?_
  intro p e s m args below meth c s₁ B hml hv
  obtain ⟨rfl, hK, hP, hKq, hBs⟩ := hv
  have hts := fun w h => atoms_spec (ws := Cond.code yX5_small cX5_small 1 (some .int) :: tbG) B.pre w (List.mem_cons_of_mem _ h)
  have hown : s.vm.findClass RX5 = some m.cls := findClass_of_methodNamed B.named
  have C0 : Cx G B0 p s m _ c cX5_small RX5 := ⟨B.exec, B.bytes, hown, hts, hK, hKq, hBs⟩
  have hS : va_S (me_A B0) s.heap s.heap [] := va_S.rf
  have hl := lv_entry ([.int x]) (n := 1) (Nat.le_of_ble_eq_true rfl)
  rw [lg_entry_eq]
  generalize (lg_sl ([.int x]) ++ List.replicate (1 - (lg_sl ([.int x])).length) Slot.unset).toArray = ls at hl ⊢
  have hl : lv_has ls 1 [(0, .int x)] := hl
  have j_smR_177 : ∀ (ls : Array Slot), lv_has ls 1 [(0, .int x)] → smR x = smR_177 x → W p l e ({ frames := 0, cells := 0, slots := 0, locals := 0 }) s m ([.int x] : List Value).toArray below meth c s.heap [] 0 0 (MQ below (vp_Si (fun z => z = smR x)) ([.int x] : List Value).toArray s 0 0 (fun _ => False)) (F0 m 177 ls []) := by
    intro ls hl h_smR_177
    refine lv_iload_n C0.1 C0.2.1 dX5_small_177 rfl (lv_at hl 0 rfl) ?_
    refine lv_sipush (v := 376) C0.1 C0.2.1 dX5_small_178 (by decide) ?_
    refine lv_icmp_ne (tgt := 190) C0.1 C0.2.1 dX5_small_181 (by decide) (fun c1 => ?_) (fun c1 => ?_)
    · refine lv_iload_n C0.1 C0.2.1 dX5_small_190 rfl (lv_at hl 0 rfl) ?_
      refine lv_sipush (v := 962) C0.1 C0.2.1 dX5_small_191 (by decide) ?_
      refine lv_icmp_ne (tgt := 203) C0.1 C0.2.1 dX5_small_194 (by decide) (fun c2 => ?_) (fun c2 => ?_)
      · refine lv_iload_n C0.1 C0.2.1 dX5_small_203 rfl (lv_at hl 0 rfl) ?_
        refine lv_sipush (v := 181) C0.1 C0.2.1 dX5_small_204 (by decide) ?_
        refine lv_icmp_ne (tgt := 216) C0.1 C0.2.1 dX5_small_207 (by decide) (fun c3 => ?_) (fun c3 => ?_)
        · refine lv_iload_n C0.1 C0.2.1 dX5_small_216 rfl (lv_at hl 0 rfl) ?_
          refine lv_sipush (v := 383) C0.1 C0.2.1 dX5_small_217 (by decide) ?_
          refine lv_icmp_ne (tgt := 228) C0.1 C0.2.1 dX5_small_220 (by decide) (fun c4 => ?_) (fun c4 => ?_)
          · refine lv_iload_n C0.1 C0.2.1 dX5_small_228 rfl (lv_at hl 0 rfl) ?_
            exact me_iret C0.1 C0.2.1 B.returns B.notSynchronized rfl rfl (by rw [h_smR_177]; unfold smR_177; rw [if_neg c1, if_neg c2, if_neg c3, if_neg c4]) dX5_small_229
          · refine lv_bipush (v := 115) C0.1 C0.2.1 dX5_small_223 (by decide) ?_
            refine lv_goto (tgt := 229) C0.1 C0.2.1 dX5_small_225 (by decide) ?_
            exact me_iret C0.1 C0.2.1 B.returns B.notSynchronized rfl rfl (by rw [h_smR_177]; unfold smR_177; rw [if_neg c1, if_neg c2, if_neg c3, if_pos c4]) dX5_small_229
        · refine lv_sipush (v := 956) C0.1 C0.2.1 dX5_small_210 (by decide) ?_
          refine lv_goto (tgt := 229) C0.1 C0.2.1 dX5_small_213 (by decide) ?_
          exact me_iret C0.1 C0.2.1 B.returns B.notSynchronized rfl rfl (by rw [h_smR_177]; unfold smR_177; rw [if_neg c1, if_neg c2, if_pos c3]) dX5_small_229
      · refine lv_sipush (v := 963) C0.1 C0.2.1 dX5_small_197 (by decide) ?_
        refine lv_goto (tgt := 229) C0.1 C0.2.1 dX5_small_200 (by decide) ?_
        exact me_iret C0.1 C0.2.1 B.returns B.notSynchronized rfl rfl (by rw [h_smR_177]; unfold smR_177; rw [if_neg c1, if_pos c2]) dX5_small_229
    · refine lv_sipush (v := 255) C0.1 C0.2.1 dX5_small_184 (by decide) ?_
      refine lv_goto (tgt := 229) C0.1 C0.2.1 dX5_small_187 (by decide) ?_
      exact me_iret C0.1 C0.2.1 B.returns B.notSynchronized rfl rfl (by rw [h_smR_177]; unfold smR_177; rw [if_pos c1]) dX5_small_229
  have j_smR_158 : ∀ (ls : Array Slot), lv_has ls 1 [(0, .int x)] → smR x = smR_158 x → W p l e ({ frames := 0, cells := 0, slots := 0, locals := 0 }) s m ([.int x] : List Value).toArray below meth c s.heap [] 0 0 (MQ below (vp_Si (fun z => z = smR x)) ([.int x] : List Value).toArray s 0 0 (fun _ => False)) (F0 m 158 ls []) := by
    intro ls hl h_smR_158
    refine lv_iload_n C0.1 C0.2.1 dX5_small_158 rfl (lv_at hl 0 rfl) ?_
    refine lv_sipush (v := 1024) C0.1 C0.2.1 dX5_small_159 (by decide) ?_
    refine lv_icmp_lt (tgt := 177) C0.1 C0.2.1 dX5_small_162 (by decide) (fun c5 => ?_) (fun c5 => ?_)
    · exact j_smR_177 ls hl (by rw [h_smR_158]; unfold smR_158; rw [if_pos c5])
    · refine lv_iload_n C0.1 C0.2.1 dX5_small_165 rfl (lv_at hl 0 rfl) ?_
      refine lv_sipush (v := 1039) C0.1 C0.2.1 dX5_small_166 (by decide) ?_
      refine lv_icmp_gt (tgt := 177) C0.1 C0.2.1 dX5_small_169 (by decide) (fun c6 => ?_) (fun c6 => ?_)
      · exact j_smR_177 ls hl (by rw [h_smR_158]; unfold smR_158; rw [if_neg c5, if_pos c6])
      · refine lv_iload_n C0.1 C0.2.1 dX5_small_172 rfl (lv_at hl 0 rfl) ?_
        refine lv_bipush (v := 80) C0.1 C0.2.1 dX5_small_173 (by decide) ?_
        refine lv_iadd C0.1 C0.2.1 dX5_small_175 ?_
        exact me_iret C0.1 C0.2.1 B.returns B.notSynchronized rfl rfl (by rw [h_smR_158]; unfold smR_158; rw [if_neg c5, if_neg c6]) dX5_small_176
  have j_smR_143 : ∀ (ls : Array Slot), lv_has ls 1 [(0, .int x)] → smR x = smR_143 x → W p l e ({ frames := 0, cells := 0, slots := 0, locals := 0 }) s m ([.int x] : List Value).toArray below meth c s.heap [] 0 0 (MQ below (vp_Si (fun z => z = smR x)) ([.int x] : List Value).toArray s 0 0 (fun _ => False)) (F0 m 143 ls []) := by
    intro ls hl h_smR_143
    refine lv_iload_n C0.1 C0.2.1 dX5_small_143 rfl (lv_at hl 0 rfl) ?_
    refine lv_iconst (v := 2) C0.1 C0.2.1 dX5_small_144 (by decide) ?_
    refine lv_irem C0.1 C0.2.1 dX5_small_145 (by decide) ?_
    refine lv_iconst (v := 1) C0.1 C0.2.1 dX5_small_146 (by decide) ?_
    refine lv_icmp_ne (tgt := 156) C0.1 C0.2.1 dX5_small_147 (by decide) (fun c7 => ?_) (fun c7 => ?_)
    · refine lv_iload_n C0.1 C0.2.1 dX5_small_156 rfl (lv_at hl 0 rfl) ?_
      exact me_iret C0.1 C0.2.1 B.returns B.notSynchronized rfl rfl (by rw [h_smR_143]; unfold smR_143; rw [if_neg c7]) dX5_small_157
    · refine lv_iload_n C0.1 C0.2.1 dX5_small_150 rfl (lv_at hl 0 rfl) ?_
      refine lv_iconst (v := 1) C0.1 C0.2.1 dX5_small_151 (by decide) ?_
      refine lv_iadd C0.1 C0.2.1 dX5_small_152 ?_
      refine lv_goto (tgt := 157) C0.1 C0.2.1 dX5_small_153 (by decide) ?_
      exact me_iret C0.1 C0.2.1 B.returns B.notSynchronized rfl rfl (by rw [h_smR_143]; unfold smR_143; rw [if_pos c7]) dX5_small_157
  have j_smR_129 : ∀ (ls : Array Slot), lv_has ls 1 [(0, .int x)] → smR x = smR_129 x → W p l e ({ frames := 0, cells := 0, slots := 0, locals := 0 }) s m ([.int x] : List Value).toArray below meth c s.heap [] 0 0 (MQ below (vp_Si (fun z => z = smR x)) ([.int x] : List Value).toArray s 0 0 (fun _ => False)) (F0 m 129 ls []) := by
    intro ls hl h_smR_129
    refine lv_iload_n C0.1 C0.2.1 dX5_small_129 rfl (lv_at hl 0 rfl) ?_
    refine lv_sipush (v := 377) C0.1 C0.2.1 dX5_small_130 (by decide) ?_
    refine lv_icmp_lt (tgt := 158) C0.1 C0.2.1 dX5_small_133 (by decide) (fun c8 => ?_) (fun c8 => ?_)
    · exact j_smR_158 ls hl (by rw [h_smR_129]; unfold smR_129; rw [if_pos c8])
    · refine lv_iload_n C0.1 C0.2.1 dX5_small_136 rfl (lv_at hl 0 rfl) ?_
      refine lv_sipush (v := 382) C0.1 C0.2.1 dX5_small_137 (by decide) ?_
      refine lv_icmp_gt (tgt := 158) C0.1 C0.2.1 dX5_small_140 (by decide) (fun c9 => ?_) (fun c9 => ?_)
      · exact j_smR_158 ls hl (by rw [h_smR_129]; unfold smR_129; rw [if_neg c8, if_pos c9])
      · exact j_smR_143 ls hl (by rw [h_smR_129]; unfold smR_129; rw [if_neg c8, if_neg c9])
  have j_smR_115 : ∀ (ls : Array Slot), lv_has ls 1 [(0, .int x)] → smR x = smR_115 x → W p l e ({ frames := 0, cells := 0, slots := 0, locals := 0 }) s m ([.int x] : List Value).toArray below meth c s.heap [] 0 0 (MQ below (vp_Si (fun z => z = smR x)) ([.int x] : List Value).toArray s 0 0 (fun _ => False)) (F0 m 115 ls []) := by
    intro ls hl h_smR_115
    refine lv_iload_n C0.1 C0.2.1 dX5_small_115 rfl (lv_at hl 0 rfl) ?_
    refine lv_sipush (v := 313) C0.1 C0.2.1 dX5_small_116 (by decide) ?_
    refine lv_icmp_lt (tgt := 129) C0.1 C0.2.1 dX5_small_119 (by decide) (fun c10 => ?_) (fun c10 => ?_)
    · exact j_smR_129 ls hl (by rw [h_smR_115]; unfold smR_115; rw [if_pos c10])
    · refine lv_iload_n C0.1 C0.2.1 dX5_small_122 rfl (lv_at hl 0 rfl) ?_
      refine lv_sipush (v := 328) C0.1 C0.2.1 dX5_small_123 (by decide) ?_
      refine lv_icmp_le (tgt := 143) C0.1 C0.2.1 dX5_small_126 (by decide) (fun c11 => ?_) (fun c11 => ?_)
      · exact j_smR_143 ls hl (by rw [h_smR_115]; unfold smR_115; rw [if_neg c10, if_pos c11])
      · exact j_smR_129 ls hl (by rw [h_smR_115]; unfold smR_115; rw [if_neg c10, if_neg c11])
  have j_smR_101 : ∀ (ls : Array Slot), lv_has ls 1 [(0, .int x)] → smR x = smR_101 x → W p l e ({ frames := 0, cells := 0, slots := 0, locals := 0 }) s m ([.int x] : List Value).toArray below meth c s.heap [] 0 0 (MQ below (vp_Si (fun z => z = smR x)) ([.int x] : List Value).toArray s 0 0 (fun _ => False)) (F0 m 101 ls []) := by
    intro ls hl h_smR_101
    refine lv_iload_n C0.1 C0.2.1 dX5_small_101 rfl (lv_at hl 0 rfl) ?_
    refine lv_iconst (v := 2) C0.1 C0.2.1 dX5_small_102 (by decide) ?_
    refine lv_irem C0.1 C0.2.1 dX5_small_103 (by decide) ?_
    refine lv_if_ne (tgt := 113) C0.1 C0.2.1 dX5_small_104 (by decide) (fun c12 => ?_) (fun c12 => ?_)
    · refine lv_iload_n C0.1 C0.2.1 dX5_small_113 rfl (lv_at hl 0 rfl) ?_
      exact me_iret C0.1 C0.2.1 B.returns B.notSynchronized rfl rfl (by rw [h_smR_101]; unfold smR_101; rw [if_neg c12]) dX5_small_114
    · refine lv_iload_n C0.1 C0.2.1 dX5_small_107 rfl (lv_at hl 0 rfl) ?_
      refine lv_iconst (v := 1) C0.1 C0.2.1 dX5_small_108 (by decide) ?_
      refine lv_iadd C0.1 C0.2.1 dX5_small_109 ?_
      refine lv_goto (tgt := 114) C0.1 C0.2.1 dX5_small_110 (by decide) ?_
      exact me_iret C0.1 C0.2.1 B.returns B.notSynchronized rfl rfl (by rw [h_smR_101]; unfold smR_101; rw [if_pos c12]) dX5_small_114
  have j_smR_87 : ∀ (ls : Array Slot), lv_has ls 1 [(0, .int x)] → smR x = smR_87 x → W p l e ({ frames := 0, cells := 0, slots := 0, locals := 0 }) s m ([.int x] : List Value).toArray below meth c s.heap [] 0 0 (MQ below (vp_Si (fun z => z = smR x)) ([.int x] : List Value).toArray s 0 0 (fun _ => False)) (F0 m 87 ls []) := by
    intro ls hl h_smR_87
    refine lv_iload_n C0.1 C0.2.1 dX5_small_87 rfl (lv_at hl 0 rfl) ?_
    refine lv_sipush (v := 330) C0.1 C0.2.1 dX5_small_88 (by decide) ?_
    refine lv_icmp_lt (tgt := 115) C0.1 C0.2.1 dX5_small_91 (by decide) (fun c13 => ?_) (fun c13 => ?_)
    · exact j_smR_115 ls hl (by rw [h_smR_87]; unfold smR_87; rw [if_pos c13])
    · refine lv_iload_n C0.1 C0.2.1 dX5_small_94 rfl (lv_at hl 0 rfl) ?_
      refine lv_sipush (v := 375) C0.1 C0.2.1 dX5_small_95 (by decide) ?_
      refine lv_icmp_gt (tgt := 115) C0.1 C0.2.1 dX5_small_98 (by decide) (fun c14 => ?_) (fun c14 => ?_)
      · exact j_smR_115 ls hl (by rw [h_smR_87]; unfold smR_87; rw [if_neg c13, if_pos c14])
      · exact j_smR_101 ls hl (by rw [h_smR_87]; unfold smR_87; rw [if_neg c13, if_neg c14])
  have j_smR_73 : ∀ (ls : Array Slot), lv_has ls 1 [(0, .int x)] → smR x = smR_73 x → W p l e ({ frames := 0, cells := 0, slots := 0, locals := 0 }) s m ([.int x] : List Value).toArray below meth c s.heap [] 0 0 (MQ below (vp_Si (fun z => z = smR x)) ([.int x] : List Value).toArray s 0 0 (fun _ => False)) (F0 m 73 ls []) := by
    intro ls hl h_smR_73
    refine lv_iload_n C0.1 C0.2.1 dX5_small_73 rfl (lv_at hl 0 rfl) ?_
    refine lv_sipush (v := 256) C0.1 C0.2.1 dX5_small_74 (by decide) ?_
    refine lv_icmp_lt (tgt := 87) C0.1 C0.2.1 dX5_small_77 (by decide) (fun c15 => ?_) (fun c15 => ?_)
    · exact j_smR_87 ls hl (by rw [h_smR_73]; unfold smR_73; rw [if_pos c15])
    · refine lv_iload_n C0.1 C0.2.1 dX5_small_80 rfl (lv_at hl 0 rfl) ?_
      refine lv_sipush (v := 303) C0.1 C0.2.1 dX5_small_81 (by decide) ?_
      refine lv_icmp_le (tgt := 101) C0.1 C0.2.1 dX5_small_84 (by decide) (fun c16 => ?_) (fun c16 => ?_)
      · exact j_smR_101 ls hl (by rw [h_smR_73]; unfold smR_73; rw [if_neg c15, if_pos c16])
      · exact j_smR_87 ls hl (by rw [h_smR_73]; unfold smR_73; rw [if_neg c15, if_neg c16])
  have j_smR_68 : ∀ (ls : Array Slot), lv_has ls 1 [(0, .int x)] → smR x = smR_68 x → W p l e ({ frames := 0, cells := 0, slots := 0, locals := 0 }) s m ([.int x] : List Value).toArray below meth c s.heap [] 0 0 (MQ below (vp_Si (fun z => z = smR x)) ([.int x] : List Value).toArray s 0 0 (fun _ => False)) (F0 m 68 ls []) := by
    intro ls hl h_smR_68
    refine lv_iload_n C0.1 C0.2.1 dX5_small_68 rfl (lv_at hl 0 rfl) ?_
    refine lv_bipush (v := 32) C0.1 C0.2.1 dX5_small_69 (by decide) ?_
    refine lv_iadd C0.1 C0.2.1 dX5_small_71 ?_
    exact me_iret C0.1 C0.2.1 B.returns B.notSynchronized rfl rfl (by rw [h_smR_68]; unfold smR_68; rfl) dX5_small_72
  have j_smR_54 : ∀ (ls : Array Slot), lv_has ls 1 [(0, .int x)] → smR x = smR_54 x → W p l e ({ frames := 0, cells := 0, slots := 0, locals := 0 }) s m ([.int x] : List Value).toArray below meth c s.heap [] 0 0 (MQ below (vp_Si (fun z => z = smR x)) ([.int x] : List Value).toArray s 0 0 (fun _ => False)) (F0 m 54 ls []) := by
    intro ls hl h_smR_54
    refine lv_iload_n C0.1 C0.2.1 dX5_small_54 rfl (lv_at hl 0 rfl) ?_
    refine lv_sipush (v := 1040) C0.1 C0.2.1 dX5_small_55 (by decide) ?_
    refine lv_icmp_lt (tgt := 73) C0.1 C0.2.1 dX5_small_58 (by decide) (fun c17 => ?_) (fun c17 => ?_)
    · exact j_smR_73 ls hl (by rw [h_smR_54]; unfold smR_54; rw [if_pos c17])
    · refine lv_iload_n C0.1 C0.2.1 dX5_small_61 rfl (lv_at hl 0 rfl) ?_
      refine lv_sipush (v := 1071) C0.1 C0.2.1 dX5_small_62 (by decide) ?_
      refine lv_icmp_gt (tgt := 73) C0.1 C0.2.1 dX5_small_65 (by decide) (fun c18 => ?_) (fun c18 => ?_)
      · exact j_smR_73 ls hl (by rw [h_smR_54]; unfold smR_54; rw [if_neg c17, if_pos c18])
      · exact j_smR_68 ls hl (by rw [h_smR_54]; unfold smR_54; rw [if_neg c17, if_neg c18])
  have j_smR_33 : ∀ (ls : Array Slot), lv_has ls 1 [(0, .int x)] → smR x = smR_33 x → W p l e ({ frames := 0, cells := 0, slots := 0, locals := 0 }) s m ([.int x] : List Value).toArray below meth c s.heap [] 0 0 (MQ below (vp_Si (fun z => z = smR x)) ([.int x] : List Value).toArray s 0 0 (fun _ => False)) (F0 m 33 ls []) := by
    intro ls hl h_smR_33
    refine lv_iload_n C0.1 C0.2.1 dX5_small_33 rfl (lv_at hl 0 rfl) ?_
    refine lv_sipush (v := 913) C0.1 C0.2.1 dX5_small_34 (by decide) ?_
    refine lv_icmp_lt (tgt := 54) C0.1 C0.2.1 dX5_small_37 (by decide) (fun c19 => ?_) (fun c19 => ?_)
    · exact j_smR_54 ls hl (by rw [h_smR_33]; unfold smR_33; rw [if_pos c19])
    · refine lv_iload_n C0.1 C0.2.1 dX5_small_40 rfl (lv_at hl 0 rfl) ?_
      refine lv_sipush (v := 939) C0.1 C0.2.1 dX5_small_41 (by decide) ?_
      refine lv_icmp_gt (tgt := 54) C0.1 C0.2.1 dX5_small_44 (by decide) (fun c20 => ?_) (fun c20 => ?_)
      · exact j_smR_54 ls hl (by rw [h_smR_33]; unfold smR_33; rw [if_neg c19, if_pos c20])
      · refine lv_iload_n C0.1 C0.2.1 dX5_small_47 rfl (lv_at hl 0 rfl) ?_
        refine lv_sipush (v := 930) C0.1 C0.2.1 dX5_small_48 (by decide) ?_
        refine lv_icmp_ne (tgt := 68) C0.1 C0.2.1 dX5_small_51 (by decide) (fun c21 => ?_) (fun c21 => ?_)
        · exact j_smR_68 ls hl (by rw [h_smR_33]; unfold smR_33; rw [if_neg c19, if_neg c20, if_neg c21])
        · exact j_smR_54 ls hl (by rw [h_smR_33]; unfold smR_33; rw [if_neg c19, if_neg c20, if_pos c21])
  have j_smR_12 : ∀ (ls : Array Slot), lv_has ls 1 [(0, .int x)] → smR x = smR_12 x → W p l e ({ frames := 0, cells := 0, slots := 0, locals := 0 }) s m ([.int x] : List Value).toArray below meth c s.heap [] 0 0 (MQ below (vp_Si (fun z => z = smR x)) ([.int x] : List Value).toArray s 0 0 (fun _ => False)) (F0 m 12 ls []) := by
    intro ls hl h_smR_12
    refine lv_iload_n C0.1 C0.2.1 dX5_small_12 rfl (lv_at hl 0 rfl) ?_
    refine lv_sipush (v := 192) C0.1 C0.2.1 dX5_small_13 (by decide) ?_
    refine lv_icmp_lt (tgt := 33) C0.1 C0.2.1 dX5_small_16 (by decide) (fun c22 => ?_) (fun c22 => ?_)
    · exact j_smR_33 ls hl (by rw [h_smR_12]; unfold smR_12; rw [if_pos c22])
    · refine lv_iload_n C0.1 C0.2.1 dX5_small_19 rfl (lv_at hl 0 rfl) ?_
      refine lv_sipush (v := 222) C0.1 C0.2.1 dX5_small_20 (by decide) ?_
      refine lv_icmp_gt (tgt := 33) C0.1 C0.2.1 dX5_small_23 (by decide) (fun c23 => ?_) (fun c23 => ?_)
      · exact j_smR_33 ls hl (by rw [h_smR_12]; unfold smR_12; rw [if_neg c22, if_pos c23])
      · refine lv_iload_n C0.1 C0.2.1 dX5_small_26 rfl (lv_at hl 0 rfl) ?_
        refine lv_sipush (v := 215) C0.1 C0.2.1 dX5_small_27 (by decide) ?_
        refine lv_icmp_ne (tgt := 68) C0.1 C0.2.1 dX5_small_30 (by decide) (fun c24 => ?_) (fun c24 => ?_)
        · exact j_smR_68 ls hl (by rw [h_smR_12]; unfold smR_12; rw [if_neg c22, if_neg c23, if_neg c24])
        · exact j_smR_33 ls hl (by rw [h_smR_12]; unfold smR_12; rw [if_neg c22, if_neg c23, if_pos c24])
  refine lv_iload_n C0.1 C0.2.1 dX5_small_0 rfl (lv_at hl 0 rfl) ?_
  refine lv_bipush (v := 65) C0.1 C0.2.1 dX5_small_1 (by decide) ?_
  refine lv_icmp_lt (tgt := 12) C0.1 C0.2.1 dX5_small_3 (by decide) (fun c25 => ?_) (fun c25 => ?_)
  · exact j_smR_12 ls hl (by unfold smR; rw [if_pos c25])
  · refine lv_iload_n C0.1 C0.2.1 dX5_small_6 rfl (lv_at hl 0 rfl) ?_
    refine lv_bipush (v := 90) C0.1 C0.2.1 dX5_small_7 (by decide) ?_
    refine lv_icmp_le (tgt := 68) C0.1 C0.2.1 dX5_small_9 (by decide) (fun c26 => ?_) (fun c26 => ?_)
    · exact j_smR_68 ls hl (by unfold smR; rw [if_neg c25, if_pos c26])
    · exact j_smR_12 ls hl (by unfold smR; rw [if_neg c25, if_neg c26])

def mkClsR_47 (x : Int32) : Int32 := 202
def mkClsR_20 (x : Int32) : Int32 := if x = 803 then 220 else if x = 807 then (mkClsR_47 x) else if x = 808 then (mkClsR_47 x) else 0
def mkClsR (x : Int32) : Int32 := if x < 768 then (mkClsR_20 x) else if 783 < x then (mkClsR_20 x) else 230
set_option maxHeartbeats 4000000 in
set_option maxRecDepth 100000 in
/-- classOf -/
theorem c_X5_classOf (l : Launch) (G : me_G) (B0 : Nat) (w : Me) (x : Int32) : CtI l yX5_classOf (Cond.code yX5_classOf cX5_classOf 1 (some .int)) ({ frames := 0, cells := 0, slots := 0, locals := 0 }) G B0 w [.int x] (fun z => z = mkClsR x) := by
  refine Met.ofW (cc := cX5_classOf) (maxL := 1) (ret := (some .int)) (by decide) rfl ?_
  intro p e s m args below meth c s₁ B hml hv
  obtain ⟨rfl, hK, hP, hKq, hBs⟩ := hv
  have hts := fun w h => atoms_spec (ws := Cond.code yX5_classOf cX5_classOf 1 (some .int) :: tbG) B.pre w (List.mem_cons_of_mem _ h)
  have hown : s.vm.findClass RX5 = some m.cls := findClass_of_methodNamed B.named
  have C0 : Cx G B0 p s m _ c cX5_classOf RX5 := ⟨B.exec, B.bytes, hown, hts, hK, hKq, hBs⟩
  have hS : va_S (me_A B0) s.heap s.heap [] := va_S.rf
  have hl := lv_entry ([.int x]) (n := 1) (Nat.le_of_ble_eq_true rfl)
  rw [lg_entry_eq]
  generalize (lg_sl ([.int x]) ++ List.replicate (1 - (lg_sl ([.int x])).length) Slot.unset).toArray = ls at hl ⊢
  have hl : lv_has ls 1 [(0, .int x)] := hl
  have j_mkClsR_47 : ∀ (ls : Array Slot), lv_has ls 1 [(0, .int x)] → mkClsR x = mkClsR_47 x → W p l e ({ frames := 0, cells := 0, slots := 0, locals := 0 }) s m ([.int x] : List Value).toArray below meth c s.heap [] 0 0 (MQ below (vp_Si (fun z => z = mkClsR x)) ([.int x] : List Value).toArray s 0 0 (fun _ => False)) (F0 m 47 ls []) := by
    intro ls hl h_mkClsR_47
    refine lv_sipush (v := 202) C0.1 C0.2.1 dX5_classOf_47 (by decide) ?_
    refine lv_goto (tgt := 54) C0.1 C0.2.1 dX5_classOf_50 (by decide) ?_
    exact me_iret C0.1 C0.2.1 B.returns B.notSynchronized rfl rfl (by rw [h_mkClsR_47]; unfold mkClsR_47; rfl) dX5_classOf_54
  have j_mkClsR_20 : ∀ (ls : Array Slot), lv_has ls 1 [(0, .int x)] → mkClsR x = mkClsR_20 x → W p l e ({ frames := 0, cells := 0, slots := 0, locals := 0 }) s m ([.int x] : List Value).toArray below meth c s.heap [] 0 0 (MQ below (vp_Si (fun z => z = mkClsR x)) ([.int x] : List Value).toArray s 0 0 (fun _ => False)) (F0 m 20 ls []) := by
    intro ls hl h_mkClsR_20
    refine lv_iload_n C0.1 C0.2.1 dX5_classOf_20 rfl (lv_at hl 0 rfl) ?_
    refine lv_sipush (v := 803) C0.1 C0.2.1 dX5_classOf_21 (by decide) ?_
    refine lv_icmp_ne (tgt := 33) C0.1 C0.2.1 dX5_classOf_24 (by decide) (fun c1 => ?_) (fun c1 => ?_)
    · refine lv_iload_n C0.1 C0.2.1 dX5_classOf_33 rfl (lv_at hl 0 rfl) ?_
      refine lv_sipush (v := 807) C0.1 C0.2.1 dX5_classOf_34 (by decide) ?_
      refine lv_icmp_eq (tgt := 47) C0.1 C0.2.1 dX5_classOf_37 (by decide) (fun c2 => ?_) (fun c2 => ?_)
      · exact j_mkClsR_47 ls hl (by rw [h_mkClsR_20]; unfold mkClsR_20; rw [if_neg c1, if_pos c2])
      · refine lv_iload_n C0.1 C0.2.1 dX5_classOf_40 rfl (lv_at hl 0 rfl) ?_
        refine lv_sipush (v := 808) C0.1 C0.2.1 dX5_classOf_41 (by decide) ?_
        refine lv_icmp_ne (tgt := 53) C0.1 C0.2.1 dX5_classOf_44 (by decide) (fun c3 => ?_) (fun c3 => ?_)
        · refine lv_iconst (v := 0) C0.1 C0.2.1 dX5_classOf_53 (by decide) ?_
          exact me_iret C0.1 C0.2.1 B.returns B.notSynchronized rfl rfl (by rw [h_mkClsR_20]; unfold mkClsR_20; rw [if_neg c1, if_neg c2, if_neg c3]) dX5_classOf_54
        · exact j_mkClsR_47 ls hl (by rw [h_mkClsR_20]; unfold mkClsR_20; rw [if_neg c1, if_neg c2, if_pos c3])
    · refine lv_sipush (v := 220) C0.1 C0.2.1 dX5_classOf_27 (by decide) ?_
      refine lv_goto (tgt := 54) C0.1 C0.2.1 dX5_classOf_30 (by decide) ?_
      exact me_iret C0.1 C0.2.1 B.returns B.notSynchronized rfl rfl (by rw [h_mkClsR_20]; unfold mkClsR_20; rw [if_pos c1]) dX5_classOf_54
  refine lv_iload_n C0.1 C0.2.1 dX5_classOf_0 rfl (lv_at hl 0 rfl) ?_
  refine lv_sipush (v := 768) C0.1 C0.2.1 dX5_classOf_1 (by decide) ?_
  refine lv_icmp_lt (tgt := 20) C0.1 C0.2.1 dX5_classOf_4 (by decide) (fun c4 => ?_) (fun c4 => ?_)
  · exact j_mkClsR_20 ls hl (by unfold mkClsR; rw [if_pos c4])
  · refine lv_iload_n C0.1 C0.2.1 dX5_classOf_7 rfl (lv_at hl 0 rfl) ?_
    refine lv_sipush (v := 783) C0.1 C0.2.1 dX5_classOf_8 (by decide) ?_
    refine lv_icmp_gt (tgt := 20) C0.1 C0.2.1 dX5_classOf_11 (by decide) (fun c5 => ?_) (fun c5 => ?_)
    · exact j_mkClsR_20 ls hl (by unfold mkClsR; rw [if_neg c4, if_pos c5])
    · refine lv_sipush (v := 230) C0.1 C0.2.1 dX5_classOf_14 (by decide) ?_
      refine lv_goto (tgt := 54) C0.1 C0.2.1 dX5_classOf_17 (by decide) ?_
      exact me_iret C0.1 C0.2.1 B.returns B.notSynchronized rfl rfl (by unfold mkClsR; rw [if_neg c4, if_neg c5]) dX5_classOf_54
end
section
/-- the octets are . or .. alone -/
abbrev isD (xs : List Int32) (f t : Nat) : Prop := (t - f = 1 ∨ t - f = 2) ∧ xs.getD f 0 = 46 ∧ xs.getD (t - 1) 0 = 46
/-- octets more, joined to a point -/
def conts : List Int32 → Nat → Int32 → Option Int32
  | _, 0, v => some v
  | [], _ + 1, _ => none
  | d :: ds, n + 1, v => if d < 128 then none else if d ≤ 191 then conts ds n ((v <<< ((6 : Int32) &&& 31)) ||| (d &&& 63)) else none
theorem drop_c {xs : List Int32} {j : Nat} (h : j < xs.length) : xs.drop j = xs.getD j 0 :: xs.drop (j + 1) := by
  rw [List.drop_eq_getElem_cons h, List.getD_eq_getElem?_getD, List.getElem?_eq_getElem h]; rfl
theorem conts_s {xs : List Int32} {j n : Nat} {v : Int32} (h : j < xs.length) : conts (xs.drop j) (n + 1) v = if xs.getD j 0 < 128 then none else if xs.getD j 0 ≤ 191 then conts (xs.drop (j + 1)) n ((v <<< ((6 : Int32) &&& 31)) ||| (xs.getD j 0 &&& 63)) else none := by
  rw [drop_c h, conts]
theorem conts_0 {l : List Int32} {v : Int32} : conts l 0 v = some v := by cases l <;> rfl
/-- a point that is refused though its octets are -/
abbrev bad (v : Int32) (k : Nat) : Prop := (¬ v < 55296 ∧ ¬ 57343 < v) ∨ 1114111 < v ∨ ¬ octOf v = nI (k + 1)
def hd (x : Int32) (k : Nat) : Int32 := if k = 0 then x else x &&& ((63 : Int32) >>> (nI k &&& 31))
def ptK (xs : List Int32) (place to k : Nat) (x : Int32) : Int32 := if to ≤ place + k then -1 else match conts (xs.drop (place + 1)) k (hd x k) with
  | none => -1
  | some v => if bad v k then -1 else v
/-- the point that begins at a place and ends before another one; -1 when none does -/
def ptC (xs : List Int32) (place to : Nat) : Int32 := if octMore (xs.getD place 0) < 0 then -1 else ptK xs place to (octMore (xs.getD place 0)).toNatClampNeg (xs.getD place 0)
theorem octMore_r (x : Int32) : octMore x = -1 ∨ octMore x = nI 0 ∨ octMore x = nI 1 ∨ octMore x = nI 2 ∨ octMore x = nI 3 := by
  unfold octMore octMore_12 octMore_28 octMore_44 octMore_62
  repeat' split
  all_goals first | exact Or.inl rfl | exact Or.inr (Or.inl rfl) | exact Or.inr (Or.inr (Or.inl rfl)) | exact Or.inr (Or.inr (Or.inr (Or.inl rfl))) | exact Or.inr (Or.inr (Or.inr (Or.inr rfl)))
theorem octMore_k {x r : Int32} (hr : r = octMore x) (h : ¬ r < 0) : ∃ k : Nat, k ≤ 3 ∧ r = nI k := by
  rcases octMore_r x with e | e | e | e | e
  · exact absurd (by rw [hr, e]; decide) h
  · exact ⟨0, by omega, by rw [hr, e]⟩
  · exact ⟨1, by omega, by rw [hr, e]⟩
  · exact ⟨2, by omega, by rw [hr, e]⟩
  · exact ⟨3, by omega, by rw [hr, e]⟩
theorem ptC_k {xs : List Int32} {place to k : Nat} {x : Int32} (hx : x = xs.getD place 0) (hk : nI k = octMore x) (h3 : k ≤ 3) : ptC xs place to = ptK xs place to k x := by
  unfold ptC
  rw [← hx, ← hk, if_neg (nI_pos (by omega)), nI_clamp (by omega)]
theorem ptC_n {xs : List Int32} {place to : Nat} {x r : Int32} (hx : x = xs.getD place 0) (hr : r = octMore x) (h : r < 0) : ptC xs place to = -1 := by
  unfold ptC
  rw [← hx, ← hr, if_pos h]
theorem ptK_n {xs : List Int32} {place to k : Nat} {x : Int32} (h : ¬ to ≤ place + k) (hc : conts (xs.drop (place + 1)) k (hd x k) = none) : ptK xs place to k x = -1 := by
  unfold ptK; rw [if_neg h, hc]
theorem ptK_s {xs : List Int32} {place to k : Nat} {x v : Int32} (h : ¬ to ≤ place + k) (hc : conts (xs.drop (place + 1)) k (hd x k) = some v) : ptK xs place to k x = if bad v k then -1 else v := by
  unfold ptK; rw [if_neg h, hc]
/-- where a text is wrong, from place b on; -1 when it is right -/
def wrF (xs : List Int32) (to : Nat) : Nat → Nat → Int32
  | 0, _ => -1
  | n + 1, b => if to ≤ b then -1 else if ptC xs b to = -1 then nI b else wrF xs to n (b + (octOf (ptC xs b to)).toNatClampNeg)
theorem octOf_r (x : Int32) : ∃ k : Nat, 1 ≤ k ∧ k ≤ 4 ∧ octOf x = nI k := by
  unfold octOf
  repeat' split
  · exact ⟨4, by omega, by omega, rfl⟩
  · exact ⟨3, by omega, by omega, rfl⟩
  · exact ⟨2, by omega, by omega, rfl⟩
  · exact ⟨1, by omega, by omega, rfl⟩
theorem wrF_more (xs : List Int32) (to : Nat) : ∀ (n b m : Nat), to - b < n → n ≤ m → wrF xs to n b = wrF xs to m b
  | 0, _, _, h, _ => by omega
  | n + 1, b, 0, _, h => by omega
  | n + 1, b, m + 1, h, h2 => by
    obtain ⟨k, k1, k4, k3⟩ := octOf_r (ptC xs b to)
    unfold wrF
    by_cases h3 : to ≤ b
    · rw [if_pos h3, if_pos h3]
    · rw [if_neg h3, if_neg h3]
      by_cases h4 : ptC xs b to = -1
      · rw [if_pos h4, if_pos h4]
      · rw [if_neg h4, if_neg h4, k3, nI_clamp (by omega)]
        exact wrF_more xs to n (b + k) m (by omega) (by omega)
def wr (xs : List Int32) (to b : Nat) : Int32 := wrF xs to (to - b + 1) b
theorem wr_end {xs : List Int32} {to b : Nat} (h : to ≤ b) : wr xs to b = -1 := by unfold wr wrF; rw [if_pos h]
theorem wr_bad {xs : List Int32} {to b : Nat} (h : ¬ to ≤ b) (h2 : ptC xs b to = -1) : wr xs to b = nI b := by unfold wr wrF; rw [if_neg h, if_pos h2]
theorem wr_go {xs : List Int32} {to b k : Nat} (h : ¬ to ≤ b) (h2 : ¬ ptC xs b to = -1) (hk : octOf (ptC xs b to) = nI k) (h4 : k < 100) : wr xs to b = wr xs to (b + k) := by
  obtain ⟨k', k1, k2, k3⟩ := octOf_r (ptC xs b to)
  have e : k = k' := (nI_eq (by omega) (by omega)).mp (hk.symm.trans k3)
  subst e
  unfold wr
  rw [wrF, if_neg h, if_neg h2, hk, nI_clamp (by omega)]
  exact (wrF_more xs to _ _ _ (by omega) (by omega)).symm
end
section
set_option maxHeartbeats 4000000 in
set_option maxRecDepth 100000 in
/-- isDots(from, to) -/
theorem c_X3_isDots (l : Launch) (G : me_G) (B0 : Nat) (w : Me) (r b cap : Nat) (xs : List Int32) (hR : Rw G w r b cap xs) (f t : Nat) (hft : f ≤ t) (ht : t ≤ xs.length) : CtI l yX3_isDots (Cond.code yX3_isDots cX3_isDots 4 (some .boolean)) ({ frames := 1, cells := 0, slots := 0, locals := 21 }) G B0 w [.ref r, .int (nI f), .int (nI t)] (fun z => z = if isD xs f t then 1 else 0) := by
  refine Met.ofW (cc := cX3_isDots) (maxL := 4) (ret := (some .boolean)) (by decide) rfl ?_
  intro p e s m args below meth c s₁ B hml hv
  obtain ⟨rfl, hK, hP, hKq, hBs⟩ := hv
  have hts := fun w h => atoms_spec (ws := Cond.code yX3_isDots cX3_isDots 4 (some .boolean) :: tbG) B.pre w (List.mem_cons_of_mem _ h)
  have hown : s.vm.findClass RX3 = some m.cls := findClass_of_methodNamed B.named
  have C0 : Cx G B0 p s m _ c cX3_isDots RX3 := ⟨B.exec, B.bytes, hown, hts, hK, hKq, hBs⟩
  have hS : va_S (me_A B0) s.heap s.heap [] := va_S.rf
  have hl := lv_entry ([.ref r, .int (nI f), .int (nI t)]) (n := 4) (Nat.le_of_ble_eq_true rfl)
  rw [lg_entry_eq]
  generalize (lg_sl ([.ref r, .int (nI f), .int (nI t)]) ++ List.replicate (4 - (lg_sl ([.ref r, .int (nI f), .int (nI t)])).length) Slot.unset).toArray = ls at hl ⊢
  have hl : lv_has ls 4 [(0, .ref r), (1, .int (nI f)), (2, .int (nI t))] := hl
  have hlen := hR.len
  refine lv_iload_n C0.1 C0.2.1 dX3_isDots_0 rfl (lv_at hl 2 rfl) ?_
  refine lv_iload_n C0.1 C0.2.1 dX3_isDots_1 rfl (lv_at hl 1 rfl) ?_
  refine lv_isub C0.1 C0.2.1 dX3_isDots_2 ?_
  refine me_topi (y := nI (t - f)) (pk_sub (a := t) (b := f) (by omega)) ?_
  refine lv_istore_n (lv' := [(3, .int (nI (t - f))), (0, .ref r), (1, .int (nI f)), (2, .int (nI t))]) C0.1 C0.2.1 dX3_isDots_3 rfl hl (by decide) rfl (fun ls hl => ?_)
  refine lv_iload_n C0.1 C0.2.1 dX3_isDots_4 rfl (lv_at hl 0 rfl) ?_
  refine lv_iconst (v := 1) C0.1 C0.2.1 dX3_isDots_5 (by decide) ?_
  refine lv_icmp_eq (tgt := 14) C0.1 C0.2.1 dX3_isDots_6 (by decide) (fun c1 => ?_) (fun c1 => ?_)
  · have d1 : (t - f) = 1 := (nI_eq (a := (t - f)) (b := 1) (by omega) (by omega)).mp c1
    refine lv_aload_n C0.1 C0.2.1 dX3_isDots_14 rfl (lv_at hl 1 rfl) ?_
    refine lv_iload_n C0.1 C0.2.1 dX3_isDots_15 rfl (lv_at hl 2 rfl) ?_
    refine me_cVi (n := 1) C0 hml hP hS (c_X2_at l G B0 w r b cap xs hR (nI f)) ⟨kw_151, kw_32, kw_148, ⟨by decide, by decide, by decide +kernel⟩, ⟨rfl, rfl⟩, ⟨Nat.le_of_ble_eq_true rfl, Nat.le_of_ble_eq_true rfl⟩⟩ kw_149 kw_150 hR.1 rfl rfl hl.1 rfl (Nat.le_of_ble_eq_true rfl) ⟨Nat.le_of_ble_eq_true rfl, Nat.le_of_ble_eq_true rfl⟩ dX3_isDots_16 (fun r2 hr2 => ?_)
    rw [ra_nat (by omega) (by omega)] at hr2
    refine lv_bipush (v := 46) C0.1 C0.2.1 dX3_isDots_19 (by decide) ?_
    refine lv_icmp_ne (tgt := 40) C0.1 C0.2.1 dX3_isDots_21 (by decide) (fun c3 => ?_) (fun c3 => ?_)
    · refine lv_iconst (v := 0) C0.1 C0.2.1 dX3_isDots_40 (by decide) ?_
      exact me_zret C0.1 C0.2.1 B.returns B.notSynchronized narrow_b0 rfl rfl ((if_neg (fun h => c3 (hr2.trans h.2.1))).symm) dX3_isDots_41
    · refine lv_aload_n C0.1 C0.2.1 dX3_isDots_24 rfl (lv_at hl 1 rfl) ?_
      refine lv_iload_n C0.1 C0.2.1 dX3_isDots_25 rfl (lv_at hl 3 rfl) ?_
      refine lv_iconst (v := 1) C0.1 C0.2.1 dX3_isDots_26 (by decide) ?_
      refine lv_isub C0.1 C0.2.1 dX3_isDots_27 ?_
      refine me_topi (y := nI (t - 1)) (pk_sub (a := t) (b := 1) (by omega)) ?_
      refine me_cVi (n := 1) C0 hml hP hS (c_X2_at l G B0 w r b cap xs hR (nI (t - 1))) ⟨kw_151, kw_32, kw_148, ⟨by decide, by decide, by decide +kernel⟩, ⟨rfl, rfl⟩, ⟨Nat.le_of_ble_eq_true rfl, Nat.le_of_ble_eq_true rfl⟩⟩ kw_149 kw_150 hR.1 rfl rfl hl.1 rfl (Nat.le_of_ble_eq_true rfl) ⟨Nat.le_of_ble_eq_true rfl, Nat.le_of_ble_eq_true rfl⟩ dX3_isDots_28 (fun r4 hr4 => ?_)
      rw [ra_nat (by omega) (by omega)] at hr4
      refine lv_bipush (v := 46) C0.1 C0.2.1 dX3_isDots_31 (by decide) ?_
      refine lv_icmp_ne (tgt := 40) C0.1 C0.2.1 dX3_isDots_33 (by decide) (fun c5 => ?_) (fun c5 => ?_)
      · refine lv_iconst (v := 0) C0.1 C0.2.1 dX3_isDots_40 (by decide) ?_
        exact me_zret C0.1 C0.2.1 B.returns B.notSynchronized narrow_b0 rfl rfl ((if_neg (fun h => c5 (hr4.trans h.2.2))).symm) dX3_isDots_41
      · refine lv_iconst (v := 1) C0.1 C0.2.1 dX3_isDots_36 (by decide) ?_
        refine lv_goto (tgt := 41) C0.1 C0.2.1 dX3_isDots_37 (by decide) ?_
        exact me_zret C0.1 C0.2.1 B.returns B.notSynchronized narrow_b1 rfl rfl ((if_pos ⟨by omega, hr2.symm.trans c3, hr4.symm.trans c5⟩).symm) dX3_isDots_41
  · have d1 : (t - f) ≠ 1 := fun h => c1 (congrArg nI h)
    refine lv_iload_n C0.1 C0.2.1 dX3_isDots_9 rfl (lv_at hl 0 rfl) ?_
    refine lv_iconst (v := 2) C0.1 C0.2.1 dX3_isDots_10 (by decide) ?_
    refine lv_icmp_ne (tgt := 40) C0.1 C0.2.1 dX3_isDots_11 (by decide) (fun c6 => ?_) (fun c6 => ?_)
    · have d6 : (t - f) ≠ 2 := fun h => c6 (congrArg nI h)
      refine lv_iconst (v := 0) C0.1 C0.2.1 dX3_isDots_40 (by decide) ?_
      exact me_zret C0.1 C0.2.1 B.returns B.notSynchronized narrow_b0 rfl rfl ((if_neg (fun h => by have := h.1; omega)).symm) dX3_isDots_41
    · have d6 : (t - f) = 2 := (nI_eq (a := (t - f)) (b := 2) (by omega) (by omega)).mp c6
      refine lv_aload_n C0.1 C0.2.1 dX3_isDots_14 rfl (lv_at hl 1 rfl) ?_
      refine lv_iload_n C0.1 C0.2.1 dX3_isDots_15 rfl (lv_at hl 2 rfl) ?_
      refine me_cVi (n := 1) C0 hml hP hS (c_X2_at l G B0 w r b cap xs hR (nI f)) ⟨kw_151, kw_32, kw_148, ⟨by decide, by decide, by decide +kernel⟩, ⟨rfl, rfl⟩, ⟨Nat.le_of_ble_eq_true rfl, Nat.le_of_ble_eq_true rfl⟩⟩ kw_149 kw_150 hR.1 rfl rfl hl.1 rfl (Nat.le_of_ble_eq_true rfl) ⟨Nat.le_of_ble_eq_true rfl, Nat.le_of_ble_eq_true rfl⟩ dX3_isDots_16 (fun r7 hr7 => ?_)
      rw [ra_nat (by omega) (by omega)] at hr7
      refine lv_bipush (v := 46) C0.1 C0.2.1 dX3_isDots_19 (by decide) ?_
      refine lv_icmp_ne (tgt := 40) C0.1 C0.2.1 dX3_isDots_21 (by decide) (fun c8 => ?_) (fun c8 => ?_)
      · refine lv_iconst (v := 0) C0.1 C0.2.1 dX3_isDots_40 (by decide) ?_
        exact me_zret C0.1 C0.2.1 B.returns B.notSynchronized narrow_b0 rfl rfl ((if_neg (fun h => c8 (hr7.trans h.2.1))).symm) dX3_isDots_41
      · refine lv_aload_n C0.1 C0.2.1 dX3_isDots_24 rfl (lv_at hl 1 rfl) ?_
        refine lv_iload_n C0.1 C0.2.1 dX3_isDots_25 rfl (lv_at hl 3 rfl) ?_
        refine lv_iconst (v := 1) C0.1 C0.2.1 dX3_isDots_26 (by decide) ?_
        refine lv_isub C0.1 C0.2.1 dX3_isDots_27 ?_
        refine me_topi (y := nI (t - 1)) (pk_sub (a := t) (b := 1) (by omega)) ?_
        refine me_cVi (n := 1) C0 hml hP hS (c_X2_at l G B0 w r b cap xs hR (nI (t - 1))) ⟨kw_151, kw_32, kw_148, ⟨by decide, by decide, by decide +kernel⟩, ⟨rfl, rfl⟩, ⟨Nat.le_of_ble_eq_true rfl, Nat.le_of_ble_eq_true rfl⟩⟩ kw_149 kw_150 hR.1 rfl rfl hl.1 rfl (Nat.le_of_ble_eq_true rfl) ⟨Nat.le_of_ble_eq_true rfl, Nat.le_of_ble_eq_true rfl⟩ dX3_isDots_28 (fun r9 hr9 => ?_)
        rw [ra_nat (by omega) (by omega)] at hr9
        refine lv_bipush (v := 46) C0.1 C0.2.1 dX3_isDots_31 (by decide) ?_
        refine lv_icmp_ne (tgt := 40) C0.1 C0.2.1 dX3_isDots_33 (by decide) (fun c10 => ?_) (fun c10 => ?_)
        · refine lv_iconst (v := 0) C0.1 C0.2.1 dX3_isDots_40 (by decide) ?_
          exact me_zret C0.1 C0.2.1 B.returns B.notSynchronized narrow_b0 rfl rfl ((if_neg (fun h => c10 (hr9.trans h.2.2))).symm) dX3_isDots_41
        · refine lv_iconst (v := 1) C0.1 C0.2.1 dX3_isDots_36 (by decide) ?_
          refine lv_goto (tgt := 41) C0.1 C0.2.1 dX3_isDots_37 (by decide) ?_
          exact me_zret C0.1 C0.2.1 B.returns B.notSynchronized narrow_b1 rfl rfl ((if_pos ⟨by omega, hr7.symm.trans c8, hr9.symm.trans c10⟩).symm) dX3_isDots_41

set_option maxHeartbeats 4000000 in
set_option maxRecDepth 100000 in
/-- pointAt(place, to) -/
theorem c_X3_pointAt (l : Launch) (G : me_G) (B0 : Nat) (w : Me) (r b cap : Nat) (xs : List Int32) (hR : Rw G w r b cap xs) (place t : Nat) (hpl : place < t) (ht : t ≤ xs.length) : CtI l yX3_pointAt (Cond.code yX3_pointAt cX3_pointAt 8 (some .int)) ({ frames := 1, cells := 0, slots := 0, locals := 21 }) G B0 w [.ref r, .int (nI place), .int (nI t)] (fun z => z = ptC xs place t) := by
  refine Met.ofW (cc := cX3_pointAt) (maxL := 8) (ret := (some .int)) (by decide) rfl ?_
  intro p e s m args below meth c s₁ B hml hv
  obtain ⟨rfl, hK, hP, hKq, hBs⟩ := hv
  have hts := fun w h => atoms_spec (ws := Cond.code yX3_pointAt cX3_pointAt 8 (some .int) :: tbG) B.pre w (List.mem_cons_of_mem _ h)
  have hown : s.vm.findClass RX3 = some m.cls := findClass_of_methodNamed B.named
  have C0 : Cx G B0 p s m _ c cX3_pointAt RX3 := ⟨B.exec, B.bytes, hown, hts, hK, hKq, hBs⟩
  have hS : va_S (me_A B0) s.heap s.heap [] := va_S.rf
  have hl := lv_entry ([.ref r, .int (nI place), .int (nI t)]) (n := 8) (Nat.le_of_ble_eq_true rfl)
  rw [lg_entry_eq]
  generalize (lg_sl ([.ref r, .int (nI place), .int (nI t)]) ++ List.replicate (8 - (lg_sl ([.ref r, .int (nI place), .int (nI t)])).length) Slot.unset).toArray = ls at hl ⊢
  have hl : lv_has ls 8 [(0, .ref r), (1, .int (nI place)), (2, .int (nI t))] := hl
  have hlen := hR.len
  refine lv_aload_n C0.1 C0.2.1 dX3_pointAt_0 rfl (lv_at hl 0 rfl) ?_
  refine lv_iload_n C0.1 C0.2.1 dX3_pointAt_1 rfl (lv_at hl 1 rfl) ?_
  refine me_cVi (n := 1) C0 hml hP hS (c_X2_at l G B0 w r b cap xs hR (nI place)) ⟨kw_151, kw_32, kw_148, ⟨by decide, by decide, by decide +kernel⟩, ⟨rfl, rfl⟩, ⟨Nat.le_of_ble_eq_true rfl, Nat.le_of_ble_eq_true rfl⟩⟩ kw_149 kw_150 hR.1 rfl rfl hl.1 rfl (Nat.le_of_ble_eq_true rfl) ⟨Nat.le_of_ble_eq_true rfl, Nat.le_of_ble_eq_true rfl⟩ dX3_pointAt_2 (fun r1 hr1 => ?_)
  rw [ra_nat (by omega) (by omega)] at hr1
  refine lv_istore_n (lv' := [(3, .int r1), (0, .ref r), (1, .int (nI place)), (2, .int (nI t))]) C0.1 C0.2.1 dX3_pointAt_5 rfl hl (by decide) rfl (fun ls hl => ?_)
  refine lv_iload_n C0.1 C0.2.1 dX3_pointAt_6 rfl (lv_at hl 0 rfl) ?_
  refine me_cSi (n := 1) C0 hml hP hS (c_X3_octetsMore l G B0 w r1) ⟨kw_154, kw_40, kw_152, ⟨by decide, by decide, by decide +kernel⟩, ⟨rfl, rfl⟩, ⟨Nat.le_of_ble_eq_true rfl, Nat.le_of_ble_eq_true rfl⟩⟩ kw_153 rfl hl.1 rfl (Nat.le_of_ble_eq_true rfl) ⟨Nat.le_of_ble_eq_true rfl, Nat.le_of_ble_eq_true rfl⟩ dX3_pointAt_7 (fun r2 hr2 => ?_)
  refine lv_istore (lv' := [(4, .int r2), (3, .int r1), (0, .ref r), (1, .int (nI place)), (2, .int (nI t))]) C0.1 C0.2.1 dX3_pointAt_10 hl (by decide) rfl (fun ls hl => ?_)
  refine lv_iload C0.1 C0.2.1 dX3_pointAt_12 (lv_at hl 0 rfl) ?_
  refine lv_if_lt (tgt := 25) C0.1 C0.2.1 dX3_pointAt_14 (by decide) (fun c3 => ?_) (fun c3 => ?_)
  · refine lv_iconst (v := (-1)) C0.1 C0.2.1 dX3_pointAt_25 (by decide) ?_
    exact me_iret C0.1 C0.2.1 B.returns B.notSynchronized rfl rfl ((ptC_n hr1 hr2 c3).symm) dX3_pointAt_26
  · obtain ⟨k, hk3, rfl⟩ := octMore_k hr2 c3
    have hpt := ptC_k (to := t) hr1 hr2 hk3
    refine lv_iload_n C0.1 C0.2.1 dX3_pointAt_17 rfl (lv_at hl 3 rfl) ?_
    refine lv_iload C0.1 C0.2.1 dX3_pointAt_18 (lv_at hl 0 rfl) ?_
    refine lv_iadd C0.1 C0.2.1 dX3_pointAt_20 ?_
    refine me_topi (y := nI (place + k)) (nI_add place k) ?_
    refine lv_iload_n C0.1 C0.2.1 dX3_pointAt_21 rfl (lv_at hl 4 rfl) ?_
    refine lv_icmp_lt (tgt := 27) C0.1 C0.2.1 dX3_pointAt_22 (by decide) (fun c4 => ?_) (fun c4 => ?_)
    · have d4 : (place + k) < t := (nI_ltI (a := (place + k)) (b := t) (by omega) (by omega)).mp c4
      refine lv_iload C0.1 C0.2.1 dX3_pointAt_27 (lv_at hl 0 rfl) ?_
      refine lv_if_ne (tgt := 36) C0.1 C0.2.1 dX3_pointAt_29 (by decide) (fun c5 => ?_) (fun c5 => ?_)
      · have d5 : k ≠ 0 := fun h => c5 (congrArg nI h)
        refine lv_iload_n C0.1 C0.2.1 dX3_pointAt_36 rfl (lv_at hl 1 rfl) ?_
        refine lv_bipush (v := 63) C0.1 C0.2.1 dX3_pointAt_37 (by decide) ?_
        refine lv_iload C0.1 C0.2.1 dX3_pointAt_39 (lv_at hl 0 rfl) ?_
        refine lv_ishr C0.1 C0.2.1 dX3_pointAt_41 ?_
        refine lv_iand C0.1 C0.2.1 dX3_pointAt_42 ?_
        refine lv_istore (lv' := [(5, .int (r1 &&& (63 >>> ((nI k) &&& 31)))), (4, .int (nI k)), (3, .int r1), (0, .ref r), (1, .int (nI place)), (2, .int (nI t))]) C0.1 C0.2.1 dX3_pointAt_43 hl (by decide) rfl (fun ls hl => ?_)
        refine lv_iconst (v := 1) C0.1 C0.2.1 dX3_pointAt_45 (by decide) ?_
        refine lv_istore (lv' := [(6, .int 1), (5, .int (r1 &&& (63 >>> ((nI k) &&& 31)))), (4, .int (nI k)), (3, .int r1), (0, .ref r), (1, .int (nI place)), (2, .int (nI t))]) C0.1 C0.2.1 dX3_pointAt_46 hl (by decide) rfl (fun ls hl => ?_)
        have loop48 : ∀ (n : Nat) (i : Nat) (v : Int32), (1 ≤ i) → (i ≤ k + 1) → (conts (xs.drop (place + 1)) k (hd r1 k) = conts (xs.drop (place + i)) (k + 1 - i) v) → (k + 1 - i) < n → ∀ (ls : Array Slot), lv_has ls 8 [(6, .int (nI i)), (5, .int v), (4, .int (nI k)), (3, .int r1), (0, .ref r), (1, .int (nI place)), (2, .int (nI t))] → W p l e ({ frames := 1, cells := 0, slots := 0, locals := 21 }) s m ([.ref r, .int (nI place), .int (nI t)] : List Value).toArray below meth c s.heap [] 0 0 (MQ below (vp_Si (fun z => z = ptC xs place t)) ([.ref r, .int (nI place), .int (nI t)] : List Value).toArray s 0 0 (fun _ => False)) (F0 m 48 ls []) := by
          intro n
          induction n with
          | zero => intro i v _ _ _ hz; exact absurd hz (Nat.not_lt_zero _)
          | succ n ih48 =>
            intro i v hi1 hik hcv hn48  ls  hl
            refine lv_iload C0.1 C0.2.1 dX3_pointAt_48 (lv_at hl 0 rfl) ?_
            refine lv_iload C0.1 C0.2.1 dX3_pointAt_50 (lv_at hl 2 rfl) ?_
            refine lv_icmp_gt (tgt := 102) C0.1 C0.2.1 dX3_pointAt_52 (by decide) (fun c6 => ?_) (fun c6 => ?_)
            · have d6 : k < i := (nI_ltI (a := k) (b := i) (by omega) (by omega)).mp c6
              refine lv_iload C0.1 C0.2.1 dX3_pointAt_102 (lv_at hl 1 rfl) ?_
              refine lv_ldc (v := 55296) C0.1 C0.2.1 C0.2.2.1 (C0.2.2.2.1 _ kw_155) dX3_pointAt_104 ?_
              refine lv_icmp_lt (tgt := 120) C0.1 C0.2.1 dX3_pointAt_106 (by decide) (fun c7 => ?_) (fun c7 => ?_)
              · refine lv_iconst (v := 0) C0.1 C0.2.1 dX3_pointAt_120 (by decide) ?_
                refine lv_istore (lv' := [(6, .int 0), (5, .int v), (4, .int (nI k)), (3, .int r1), (0, .ref r), (1, .int (nI place)), (2, .int (nI t))]) C0.1 C0.2.1 dX3_pointAt_121 hl (by decide) rfl (fun ls hl => ?_)
                refine lv_iload C0.1 C0.2.1 dX3_pointAt_123 (lv_at hl 0 rfl) ?_
                refine lv_if_ne (tgt := 147) C0.1 C0.2.1 dX3_pointAt_125 (by decide) (fun c => absurd c (by decide)) (fun c => ?_)
                refine lv_iload C0.1 C0.2.1 dX3_pointAt_128 (lv_at hl 1 rfl) ?_
                refine lv_ldc (v := 1114111) C0.1 C0.2.1 C0.2.2.1 (C0.2.2.2.1 _ kw_157) dX3_pointAt_130 ?_
                refine lv_icmp_gt (tgt := 147) C0.1 C0.2.1 dX3_pointAt_132 (by decide) (fun c9 => ?_) (fun c9 => ?_)
                · refine lv_iconst (v := (-1)) C0.1 C0.2.1 dX3_pointAt_147 (by decide) ?_
                  exact me_iret C0.1 C0.2.1 B.returns B.notSynchronized rfl rfl (by rw [hpt, ptK_s (xs := xs) (place := place) (to := t) (k := k) (x := r1) (v := v) (by omega) (by rw [hcv, show k + 1 - i = 0 by omega, conts_0]), if_pos (Or.inr (Or.inl c9))]) dX3_pointAt_148
                · refine lv_iload C0.1 C0.2.1 dX3_pointAt_135 (lv_at hl 1 rfl) ?_
                  refine me_cSi (n := 1) C0 hml hP hS (c_X3_octetsOf l G B0 w v) ⟨kw_160, kw_40, kw_158, ⟨by decide, by decide, by decide +kernel⟩, ⟨rfl, rfl⟩, ⟨Nat.le_of_ble_eq_true rfl, Nat.le_of_ble_eq_true rfl⟩⟩ kw_159 rfl hl.1 rfl (Nat.le_of_ble_eq_true rfl) ⟨Nat.le_of_ble_eq_true rfl, Nat.le_of_ble_eq_true rfl⟩ dX3_pointAt_137 (fun r10 hr10 => ?_)
                  subst hr10
                  refine lv_iload C0.1 C0.2.1 dX3_pointAt_140 (lv_at hl 2 rfl) ?_
                  refine lv_iconst (v := 1) C0.1 C0.2.1 dX3_pointAt_142 (by decide) ?_
                  refine lv_iadd C0.1 C0.2.1 dX3_pointAt_143 ?_
                  refine me_topi (y := nI (k + 1)) (nI_add k 1) ?_
                  refine lv_icmp_eq (tgt := 149) C0.1 C0.2.1 dX3_pointAt_144 (by decide) (fun c11 => ?_) (fun c11 => ?_)
                  · refine lv_iload C0.1 C0.2.1 dX3_pointAt_149 (lv_at hl 1 rfl) ?_
                    exact me_iret C0.1 C0.2.1 B.returns B.notSynchronized rfl rfl (by rw [hpt, ptK_s (xs := xs) (place := place) (to := t) (k := k) (x := r1) (v := v) (by omega) (by rw [hcv, show k + 1 - i = 0 by omega, conts_0]), if_neg (fun h => h.elim (fun h => absurd c7 h.1) (fun h => h.elim c9 (fun h => h c11)))]) dX3_pointAt_151
                  · refine lv_iconst (v := (-1)) C0.1 C0.2.1 dX3_pointAt_147 (by decide) ?_
                    exact me_iret C0.1 C0.2.1 B.returns B.notSynchronized rfl rfl (by rw [hpt, ptK_s (xs := xs) (place := place) (to := t) (k := k) (x := r1) (v := v) (by omega) (by rw [hcv, show k + 1 - i = 0 by omega, conts_0]), if_pos (Or.inr (Or.inr c11))]) dX3_pointAt_148
              · refine lv_iload C0.1 C0.2.1 dX3_pointAt_109 (lv_at hl 1 rfl) ?_
                refine lv_ldc (v := 57343) C0.1 C0.2.1 C0.2.2.1 (C0.2.2.2.1 _ kw_156) dX3_pointAt_111 ?_
                refine lv_icmp_gt (tgt := 120) C0.1 C0.2.1 dX3_pointAt_113 (by decide) (fun c12 => ?_) (fun c12 => ?_)
                · refine lv_iconst (v := 0) C0.1 C0.2.1 dX3_pointAt_120 (by decide) ?_
                  refine lv_istore (lv' := [(6, .int 0), (5, .int v), (4, .int (nI k)), (3, .int r1), (0, .ref r), (1, .int (nI place)), (2, .int (nI t))]) C0.1 C0.2.1 dX3_pointAt_121 hl (by decide) rfl (fun ls hl => ?_)
                  refine lv_iload C0.1 C0.2.1 dX3_pointAt_123 (lv_at hl 0 rfl) ?_
                  refine lv_if_ne (tgt := 147) C0.1 C0.2.1 dX3_pointAt_125 (by decide) (fun c => absurd c (by decide)) (fun c => ?_)
                  refine lv_iload C0.1 C0.2.1 dX3_pointAt_128 (lv_at hl 1 rfl) ?_
                  refine lv_ldc (v := 1114111) C0.1 C0.2.1 C0.2.2.1 (C0.2.2.2.1 _ kw_157) dX3_pointAt_130 ?_
                  refine lv_icmp_gt (tgt := 147) C0.1 C0.2.1 dX3_pointAt_132 (by decide) (fun c14 => ?_) (fun c14 => ?_)
                  · refine lv_iconst (v := (-1)) C0.1 C0.2.1 dX3_pointAt_147 (by decide) ?_
                    exact me_iret C0.1 C0.2.1 B.returns B.notSynchronized rfl rfl (by rw [hpt, ptK_s (xs := xs) (place := place) (to := t) (k := k) (x := r1) (v := v) (by omega) (by rw [hcv, show k + 1 - i = 0 by omega, conts_0]), if_pos (Or.inr (Or.inl c14))]) dX3_pointAt_148
                  · refine lv_iload C0.1 C0.2.1 dX3_pointAt_135 (lv_at hl 1 rfl) ?_
                    refine me_cSi (n := 1) C0 hml hP hS (c_X3_octetsOf l G B0 w v) ⟨kw_160, kw_40, kw_158, ⟨by decide, by decide, by decide +kernel⟩, ⟨rfl, rfl⟩, ⟨Nat.le_of_ble_eq_true rfl, Nat.le_of_ble_eq_true rfl⟩⟩ kw_159 rfl hl.1 rfl (Nat.le_of_ble_eq_true rfl) ⟨Nat.le_of_ble_eq_true rfl, Nat.le_of_ble_eq_true rfl⟩ dX3_pointAt_137 (fun r15 hr15 => ?_)
                    subst hr15
                    refine lv_iload C0.1 C0.2.1 dX3_pointAt_140 (lv_at hl 2 rfl) ?_
                    refine lv_iconst (v := 1) C0.1 C0.2.1 dX3_pointAt_142 (by decide) ?_
                    refine lv_iadd C0.1 C0.2.1 dX3_pointAt_143 ?_
                    refine me_topi (y := nI (k + 1)) (nI_add k 1) ?_
                    refine lv_icmp_eq (tgt := 149) C0.1 C0.2.1 dX3_pointAt_144 (by decide) (fun c16 => ?_) (fun c16 => ?_)
                    · refine lv_iload C0.1 C0.2.1 dX3_pointAt_149 (lv_at hl 1 rfl) ?_
                      exact me_iret C0.1 C0.2.1 B.returns B.notSynchronized rfl rfl (by rw [hpt, ptK_s (xs := xs) (place := place) (to := t) (k := k) (x := r1) (v := v) (by omega) (by rw [hcv, show k + 1 - i = 0 by omega, conts_0]), if_neg (fun h => h.elim (fun h => absurd c12 h.2) (fun h => h.elim c14 (fun h => h c16)))]) dX3_pointAt_151
                    · refine lv_iconst (v := (-1)) C0.1 C0.2.1 dX3_pointAt_147 (by decide) ?_
                      exact me_iret C0.1 C0.2.1 B.returns B.notSynchronized rfl rfl (by rw [hpt, ptK_s (xs := xs) (place := place) (to := t) (k := k) (x := r1) (v := v) (by omega) (by rw [hcv, show k + 1 - i = 0 by omega, conts_0]), if_pos (Or.inr (Or.inr c16))]) dX3_pointAt_148
                · refine lv_iconst (v := 1) C0.1 C0.2.1 dX3_pointAt_116 (by decide) ?_
                  refine lv_goto (tgt := 121) C0.1 C0.2.1 dX3_pointAt_117 (by decide) ?_
                  refine lv_istore (lv' := [(6, .int 1), (5, .int v), (4, .int (nI k)), (3, .int r1), (0, .ref r), (1, .int (nI place)), (2, .int (nI t))]) C0.1 C0.2.1 dX3_pointAt_121 hl (by decide) rfl (fun ls hl => ?_)
                  refine lv_iload C0.1 C0.2.1 dX3_pointAt_123 (lv_at hl 0 rfl) ?_
                  refine lv_if_ne (tgt := 147) C0.1 C0.2.1 dX3_pointAt_125 (by decide) (fun c => ?_) (fun c => absurd c (by decide))
                  refine lv_iconst (v := (-1)) C0.1 C0.2.1 dX3_pointAt_147 (by decide) ?_
                  exact me_iret C0.1 C0.2.1 B.returns B.notSynchronized rfl rfl (by rw [hpt, ptK_s (xs := xs) (place := place) (to := t) (k := k) (x := r1) (v := v) (by omega) (by rw [hcv, show k + 1 - i = 0 by omega, conts_0]), if_pos (Or.inl ⟨c7, c12⟩)]) dX3_pointAt_148
            · have d6 : i ≤ k := Nat.not_lt.mp (fun h => c6 (nI_lt (a := k) (b := i) h (by omega)))
              refine lv_aload_n C0.1 C0.2.1 dX3_pointAt_55 rfl (lv_at hl 4 rfl) ?_
              refine lv_iload_n C0.1 C0.2.1 dX3_pointAt_56 rfl (lv_at hl 5 rfl) ?_
              refine lv_iload C0.1 C0.2.1 dX3_pointAt_57 (lv_at hl 0 rfl) ?_
              refine lv_iadd C0.1 C0.2.1 dX3_pointAt_59 ?_
              refine me_topi (y := nI (place + i)) (nI_add place i) ?_
              refine me_cVi (n := 1) C0 hml hP hS (c_X2_at l G B0 w r b cap xs hR (nI (place + i))) ⟨kw_151, kw_32, kw_148, ⟨by decide, by decide, by decide +kernel⟩, ⟨rfl, rfl⟩, ⟨Nat.le_of_ble_eq_true rfl, Nat.le_of_ble_eq_true rfl⟩⟩ kw_149 kw_150 hR.1 rfl rfl hl.1 rfl (Nat.le_of_ble_eq_true rfl) ⟨Nat.le_of_ble_eq_true rfl, Nat.le_of_ble_eq_true rfl⟩ dX3_pointAt_60 (fun r18 hr18 => ?_)
              rw [ra_nat (by omega) (by omega)] at hr18
              refine lv_istore (lv' := [(7, .int r18), (6, .int (nI i)), (5, .int v), (4, .int (nI k)), (3, .int r1), (0, .ref r), (1, .int (nI place)), (2, .int (nI t))]) C0.1 C0.2.1 dX3_pointAt_63 hl (by decide) rfl (fun ls hl => ?_)
              refine lv_iload C0.1 C0.2.1 dX3_pointAt_65 (lv_at hl 0 rfl) ?_
              refine lv_sipush (v := 128) C0.1 C0.2.1 dX3_pointAt_67 (by decide) ?_
              refine lv_icmp_lt (tgt := 81) C0.1 C0.2.1 dX3_pointAt_70 (by decide) (fun c19 => ?_) (fun c19 => ?_)
              · refine lv_iconst (v := (-1)) C0.1 C0.2.1 dX3_pointAt_81 (by decide) ?_
                exact me_iret C0.1 C0.2.1 B.returns B.notSynchronized rfl rfl (by rw [hpt]; exact (ptK_n (by omega) (by rw [hcv, show k + 1 - i = (k + 1 - (i + 1)) + 1 by omega, conts_s (by omega), ← hr18, if_pos c19])).symm) dX3_pointAt_82
              · refine lv_iload C0.1 C0.2.1 dX3_pointAt_73 (lv_at hl 0 rfl) ?_
                refine lv_sipush (v := 191) C0.1 C0.2.1 dX3_pointAt_75 (by decide) ?_
                refine lv_icmp_le (tgt := 83) C0.1 C0.2.1 dX3_pointAt_78 (by decide) (fun c20 => ?_) (fun c20 => ?_)
                · refine lv_iload C0.1 C0.2.1 dX3_pointAt_83 (lv_at hl 2 rfl) ?_
                  refine lv_bipush (v := 6) C0.1 C0.2.1 dX3_pointAt_85 (by decide) ?_
                  refine lv_ishl C0.1 C0.2.1 dX3_pointAt_87 ?_
                  refine lv_iload C0.1 C0.2.1 dX3_pointAt_88 (lv_at hl 0 rfl) ?_
                  refine lv_bipush (v := 63) C0.1 C0.2.1 dX3_pointAt_90 (by decide) ?_
                  refine lv_iand C0.1 C0.2.1 dX3_pointAt_92 ?_
                  refine lv_ior C0.1 C0.2.1 dX3_pointAt_93 ?_
                  refine lv_istore (lv' := [(5, .int ((v <<< (6 &&& 31)) ||| (r18 &&& 63))), (7, .int r18), (6, .int (nI i)), (4, .int (nI k)), (3, .int r1), (0, .ref r), (1, .int (nI place)), (2, .int (nI t))]) C0.1 C0.2.1 dX3_pointAt_94 hl (by decide) rfl (fun ls hl => ?_)
                  refine lv_iinc (v := nI (i + 1)) (lv' := [(6, .int (nI (i + 1))), (5, .int ((v <<< (6 &&& 31)) ||| (r18 &&& 63))), (7, .int r18), (4, .int (nI k)), (3, .int r1), (0, .ref r), (1, .int (nI place)), (2, .int (nI t))]) C0.1 C0.2.1 dX3_pointAt_96 hl (k := 2) rfl (nI_add i 1) (by decide) rfl (fun ls hl => ?_)
                  refine lv_goto (tgt := 48) C0.1 C0.2.1 dX3_pointAt_99 (by decide) ?_
                  exact ih48 (i + 1) _ (by omega) (by omega) (by rw [hcv, show k + 1 - i = (k + 1 - (i + 1)) + 1 by omega, conts_s (by omega), ← hr18, if_neg c19, if_pos c20]; rfl) (by omega) _ (lv_sub hl [0, 1, 3, 4, 5, 6, 7] rfl)
                · refine lv_iconst (v := (-1)) C0.1 C0.2.1 dX3_pointAt_81 (by decide) ?_
                  exact me_iret C0.1 C0.2.1 B.returns B.notSynchronized rfl rfl (by rw [hpt]; exact (ptK_n (by omega) (by rw [hcv, show k + 1 - i = (k + 1 - (i + 1)) + 1 by omega, conts_s (by omega), ← hr18, if_neg c19, if_neg c20])).symm) dX3_pointAt_82
        exact loop48 (k + 1 - 1 + 1) 1 _ (Nat.le_refl 1) (by omega) (by rw [Nat.add_sub_cancel]; unfold hd; rw [if_neg (by omega)]) (Nat.lt_succ_self _) _ (lv_sub hl [0, 1, 2, 3, 4, 5, 6] rfl)
      · have d5 : k = 0 := (nI_eq (a := k) (b := 0) (by omega) (by omega)).mp c5
        refine lv_iload_n C0.1 C0.2.1 dX3_pointAt_32 rfl (lv_at hl 1 rfl) ?_
        refine lv_goto (tgt := 43) C0.1 C0.2.1 dX3_pointAt_33 (by decide) ?_
        refine lv_istore (lv' := [(5, .int r1), (4, .int (nI k)), (3, .int r1), (0, .ref r), (1, .int (nI place)), (2, .int (nI t))]) C0.1 C0.2.1 dX3_pointAt_43 hl (by decide) rfl (fun ls hl => ?_)
        refine lv_iconst (v := 1) C0.1 C0.2.1 dX3_pointAt_45 (by decide) ?_
        refine lv_istore (lv' := [(6, .int 1), (5, .int r1), (4, .int (nI k)), (3, .int r1), (0, .ref r), (1, .int (nI place)), (2, .int (nI t))]) C0.1 C0.2.1 dX3_pointAt_46 hl (by decide) rfl (fun ls hl => ?_)
        have loop48 : ∀ (n : Nat) (i : Nat) (v : Int32), (1 ≤ i) → (i ≤ k + 1) → (conts (xs.drop (place + 1)) k (hd r1 k) = conts (xs.drop (place + i)) (k + 1 - i) v) → (k + 1 - i) < n → ∀ (ls : Array Slot), lv_has ls 8 [(6, .int (nI i)), (5, .int v), (4, .int (nI k)), (3, .int r1), (0, .ref r), (1, .int (nI place)), (2, .int (nI t))] → W p l e ({ frames := 1, cells := 0, slots := 0, locals := 21 }) s m ([.ref r, .int (nI place), .int (nI t)] : List Value).toArray below meth c s.heap [] 0 0 (MQ below (vp_Si (fun z => z = ptC xs place t)) ([.ref r, .int (nI place), .int (nI t)] : List Value).toArray s 0 0 (fun _ => False)) (F0 m 48 ls []) := by
          intro n
          induction n with
          | zero => intro i v _ _ _ hz; exact absurd hz (Nat.not_lt_zero _)
          | succ n ih48 =>
            intro i v hi1 hik hcv hn48  ls  hl
            refine lv_iload C0.1 C0.2.1 dX3_pointAt_48 (lv_at hl 0 rfl) ?_
            refine lv_iload C0.1 C0.2.1 dX3_pointAt_50 (lv_at hl 2 rfl) ?_
            refine lv_icmp_gt (tgt := 102) C0.1 C0.2.1 dX3_pointAt_52 (by decide) (fun c21 => ?_) (fun c21 => ?_)
            · have d21 : k < i := (nI_ltI (a := k) (b := i) (by omega) (by omega)).mp c21
              refine lv_iload C0.1 C0.2.1 dX3_pointAt_102 (lv_at hl 1 rfl) ?_
              refine lv_ldc (v := 55296) C0.1 C0.2.1 C0.2.2.1 (C0.2.2.2.1 _ kw_155) dX3_pointAt_104 ?_
              refine lv_icmp_lt (tgt := 120) C0.1 C0.2.1 dX3_pointAt_106 (by decide) (fun c22 => ?_) (fun c22 => ?_)
              · refine lv_iconst (v := 0) C0.1 C0.2.1 dX3_pointAt_120 (by decide) ?_
                refine lv_istore (lv' := [(6, .int 0), (5, .int v), (4, .int (nI k)), (3, .int r1), (0, .ref r), (1, .int (nI place)), (2, .int (nI t))]) C0.1 C0.2.1 dX3_pointAt_121 hl (by decide) rfl (fun ls hl => ?_)
                refine lv_iload C0.1 C0.2.1 dX3_pointAt_123 (lv_at hl 0 rfl) ?_
                refine lv_if_ne (tgt := 147) C0.1 C0.2.1 dX3_pointAt_125 (by decide) (fun c => absurd c (by decide)) (fun c => ?_)
                refine lv_iload C0.1 C0.2.1 dX3_pointAt_128 (lv_at hl 1 rfl) ?_
                refine lv_ldc (v := 1114111) C0.1 C0.2.1 C0.2.2.1 (C0.2.2.2.1 _ kw_157) dX3_pointAt_130 ?_
                refine lv_icmp_gt (tgt := 147) C0.1 C0.2.1 dX3_pointAt_132 (by decide) (fun c24 => ?_) (fun c24 => ?_)
                · refine lv_iconst (v := (-1)) C0.1 C0.2.1 dX3_pointAt_147 (by decide) ?_
                  exact me_iret C0.1 C0.2.1 B.returns B.notSynchronized rfl rfl (by rw [hpt, ptK_s (xs := xs) (place := place) (to := t) (k := k) (x := r1) (v := v) (by omega) (by rw [hcv, show k + 1 - i = 0 by omega, conts_0]), if_pos (Or.inr (Or.inl c24))]) dX3_pointAt_148
                · refine lv_iload C0.1 C0.2.1 dX3_pointAt_135 (lv_at hl 1 rfl) ?_
                  refine me_cSi (n := 1) C0 hml hP hS (c_X3_octetsOf l G B0 w v) ⟨kw_160, kw_40, kw_158, ⟨by decide, by decide, by decide +kernel⟩, ⟨rfl, rfl⟩, ⟨Nat.le_of_ble_eq_true rfl, Nat.le_of_ble_eq_true rfl⟩⟩ kw_159 rfl hl.1 rfl (Nat.le_of_ble_eq_true rfl) ⟨Nat.le_of_ble_eq_true rfl, Nat.le_of_ble_eq_true rfl⟩ dX3_pointAt_137 (fun r25 hr25 => ?_)
                  subst hr25
                  refine lv_iload C0.1 C0.2.1 dX3_pointAt_140 (lv_at hl 2 rfl) ?_
                  refine lv_iconst (v := 1) C0.1 C0.2.1 dX3_pointAt_142 (by decide) ?_
                  refine lv_iadd C0.1 C0.2.1 dX3_pointAt_143 ?_
                  refine me_topi (y := nI (k + 1)) (nI_add k 1) ?_
                  refine lv_icmp_eq (tgt := 149) C0.1 C0.2.1 dX3_pointAt_144 (by decide) (fun c26 => ?_) (fun c26 => ?_)
                  · refine lv_iload C0.1 C0.2.1 dX3_pointAt_149 (lv_at hl 1 rfl) ?_
                    exact me_iret C0.1 C0.2.1 B.returns B.notSynchronized rfl rfl (by rw [hpt, ptK_s (xs := xs) (place := place) (to := t) (k := k) (x := r1) (v := v) (by omega) (by rw [hcv, show k + 1 - i = 0 by omega, conts_0]), if_neg (fun h => h.elim (fun h => absurd c22 h.1) (fun h => h.elim c24 (fun h => h c26)))]) dX3_pointAt_151
                  · refine lv_iconst (v := (-1)) C0.1 C0.2.1 dX3_pointAt_147 (by decide) ?_
                    exact me_iret C0.1 C0.2.1 B.returns B.notSynchronized rfl rfl (by rw [hpt, ptK_s (xs := xs) (place := place) (to := t) (k := k) (x := r1) (v := v) (by omega) (by rw [hcv, show k + 1 - i = 0 by omega, conts_0]), if_pos (Or.inr (Or.inr c26))]) dX3_pointAt_148
              · refine lv_iload C0.1 C0.2.1 dX3_pointAt_109 (lv_at hl 1 rfl) ?_
                refine lv_ldc (v := 57343) C0.1 C0.2.1 C0.2.2.1 (C0.2.2.2.1 _ kw_156) dX3_pointAt_111 ?_
                refine lv_icmp_gt (tgt := 120) C0.1 C0.2.1 dX3_pointAt_113 (by decide) (fun c27 => ?_) (fun c27 => ?_)
                · refine lv_iconst (v := 0) C0.1 C0.2.1 dX3_pointAt_120 (by decide) ?_
                  refine lv_istore (lv' := [(6, .int 0), (5, .int v), (4, .int (nI k)), (3, .int r1), (0, .ref r), (1, .int (nI place)), (2, .int (nI t))]) C0.1 C0.2.1 dX3_pointAt_121 hl (by decide) rfl (fun ls hl => ?_)
                  refine lv_iload C0.1 C0.2.1 dX3_pointAt_123 (lv_at hl 0 rfl) ?_
                  refine lv_if_ne (tgt := 147) C0.1 C0.2.1 dX3_pointAt_125 (by decide) (fun c => absurd c (by decide)) (fun c => ?_)
                  refine lv_iload C0.1 C0.2.1 dX3_pointAt_128 (lv_at hl 1 rfl) ?_
                  refine lv_ldc (v := 1114111) C0.1 C0.2.1 C0.2.2.1 (C0.2.2.2.1 _ kw_157) dX3_pointAt_130 ?_
                  refine lv_icmp_gt (tgt := 147) C0.1 C0.2.1 dX3_pointAt_132 (by decide) (fun c29 => ?_) (fun c29 => ?_)
                  · refine lv_iconst (v := (-1)) C0.1 C0.2.1 dX3_pointAt_147 (by decide) ?_
                    exact me_iret C0.1 C0.2.1 B.returns B.notSynchronized rfl rfl (by rw [hpt, ptK_s (xs := xs) (place := place) (to := t) (k := k) (x := r1) (v := v) (by omega) (by rw [hcv, show k + 1 - i = 0 by omega, conts_0]), if_pos (Or.inr (Or.inl c29))]) dX3_pointAt_148
                  · refine lv_iload C0.1 C0.2.1 dX3_pointAt_135 (lv_at hl 1 rfl) ?_
                    refine me_cSi (n := 1) C0 hml hP hS (c_X3_octetsOf l G B0 w v) ⟨kw_160, kw_40, kw_158, ⟨by decide, by decide, by decide +kernel⟩, ⟨rfl, rfl⟩, ⟨Nat.le_of_ble_eq_true rfl, Nat.le_of_ble_eq_true rfl⟩⟩ kw_159 rfl hl.1 rfl (Nat.le_of_ble_eq_true rfl) ⟨Nat.le_of_ble_eq_true rfl, Nat.le_of_ble_eq_true rfl⟩ dX3_pointAt_137 (fun r30 hr30 => ?_)
                    subst hr30
                    refine lv_iload C0.1 C0.2.1 dX3_pointAt_140 (lv_at hl 2 rfl) ?_
                    refine lv_iconst (v := 1) C0.1 C0.2.1 dX3_pointAt_142 (by decide) ?_
                    refine lv_iadd C0.1 C0.2.1 dX3_pointAt_143 ?_
                    refine me_topi (y := nI (k + 1)) (nI_add k 1) ?_
                    refine lv_icmp_eq (tgt := 149) C0.1 C0.2.1 dX3_pointAt_144 (by decide) (fun c31 => ?_) (fun c31 => ?_)
                    · refine lv_iload C0.1 C0.2.1 dX3_pointAt_149 (lv_at hl 1 rfl) ?_
                      exact me_iret C0.1 C0.2.1 B.returns B.notSynchronized rfl rfl (by rw [hpt, ptK_s (xs := xs) (place := place) (to := t) (k := k) (x := r1) (v := v) (by omega) (by rw [hcv, show k + 1 - i = 0 by omega, conts_0]), if_neg (fun h => h.elim (fun h => absurd c27 h.2) (fun h => h.elim c29 (fun h => h c31)))]) dX3_pointAt_151
                    · refine lv_iconst (v := (-1)) C0.1 C0.2.1 dX3_pointAt_147 (by decide) ?_
                      exact me_iret C0.1 C0.2.1 B.returns B.notSynchronized rfl rfl (by rw [hpt, ptK_s (xs := xs) (place := place) (to := t) (k := k) (x := r1) (v := v) (by omega) (by rw [hcv, show k + 1 - i = 0 by omega, conts_0]), if_pos (Or.inr (Or.inr c31))]) dX3_pointAt_148
                · refine lv_iconst (v := 1) C0.1 C0.2.1 dX3_pointAt_116 (by decide) ?_
                  refine lv_goto (tgt := 121) C0.1 C0.2.1 dX3_pointAt_117 (by decide) ?_
                  refine lv_istore (lv' := [(6, .int 1), (5, .int v), (4, .int (nI k)), (3, .int r1), (0, .ref r), (1, .int (nI place)), (2, .int (nI t))]) C0.1 C0.2.1 dX3_pointAt_121 hl (by decide) rfl (fun ls hl => ?_)
                  refine lv_iload C0.1 C0.2.1 dX3_pointAt_123 (lv_at hl 0 rfl) ?_
                  refine lv_if_ne (tgt := 147) C0.1 C0.2.1 dX3_pointAt_125 (by decide) (fun c => ?_) (fun c => absurd c (by decide))
                  refine lv_iconst (v := (-1)) C0.1 C0.2.1 dX3_pointAt_147 (by decide) ?_
                  exact me_iret C0.1 C0.2.1 B.returns B.notSynchronized rfl rfl (by rw [hpt, ptK_s (xs := xs) (place := place) (to := t) (k := k) (x := r1) (v := v) (by omega) (by rw [hcv, show k + 1 - i = 0 by omega, conts_0]), if_pos (Or.inl ⟨c22, c27⟩)]) dX3_pointAt_148
            · have d21 : i ≤ k := Nat.not_lt.mp (fun h => c21 (nI_lt (a := k) (b := i) h (by omega)))
              refine lv_aload_n C0.1 C0.2.1 dX3_pointAt_55 rfl (lv_at hl 4 rfl) ?_
              refine lv_iload_n C0.1 C0.2.1 dX3_pointAt_56 rfl (lv_at hl 5 rfl) ?_
              refine lv_iload C0.1 C0.2.1 dX3_pointAt_57 (lv_at hl 0 rfl) ?_
              refine lv_iadd C0.1 C0.2.1 dX3_pointAt_59 ?_
              refine me_topi (y := nI (place + i)) (nI_add place i) ?_
              refine me_cVi (n := 1) C0 hml hP hS (c_X2_at l G B0 w r b cap xs hR (nI (place + i))) ⟨kw_151, kw_32, kw_148, ⟨by decide, by decide, by decide +kernel⟩, ⟨rfl, rfl⟩, ⟨Nat.le_of_ble_eq_true rfl, Nat.le_of_ble_eq_true rfl⟩⟩ kw_149 kw_150 hR.1 rfl rfl hl.1 rfl (Nat.le_of_ble_eq_true rfl) ⟨Nat.le_of_ble_eq_true rfl, Nat.le_of_ble_eq_true rfl⟩ dX3_pointAt_60 (fun r33 hr33 => ?_)
              rw [ra_nat (by omega) (by omega)] at hr33
              refine lv_istore (lv' := [(7, .int r33), (6, .int (nI i)), (5, .int v), (4, .int (nI k)), (3, .int r1), (0, .ref r), (1, .int (nI place)), (2, .int (nI t))]) C0.1 C0.2.1 dX3_pointAt_63 hl (by decide) rfl (fun ls hl => ?_)
              refine lv_iload C0.1 C0.2.1 dX3_pointAt_65 (lv_at hl 0 rfl) ?_
              refine lv_sipush (v := 128) C0.1 C0.2.1 dX3_pointAt_67 (by decide) ?_
              refine lv_icmp_lt (tgt := 81) C0.1 C0.2.1 dX3_pointAt_70 (by decide) (fun c34 => ?_) (fun c34 => ?_)
              · refine lv_iconst (v := (-1)) C0.1 C0.2.1 dX3_pointAt_81 (by decide) ?_
                exact me_iret C0.1 C0.2.1 B.returns B.notSynchronized rfl rfl (by rw [hpt]; exact (ptK_n (by omega) (by rw [hcv, show k + 1 - i = (k + 1 - (i + 1)) + 1 by omega, conts_s (by omega), ← hr33, if_pos c34])).symm) dX3_pointAt_82
              · refine lv_iload C0.1 C0.2.1 dX3_pointAt_73 (lv_at hl 0 rfl) ?_
                refine lv_sipush (v := 191) C0.1 C0.2.1 dX3_pointAt_75 (by decide) ?_
                refine lv_icmp_le (tgt := 83) C0.1 C0.2.1 dX3_pointAt_78 (by decide) (fun c35 => ?_) (fun c35 => ?_)
                · refine lv_iload C0.1 C0.2.1 dX3_pointAt_83 (lv_at hl 2 rfl) ?_
                  refine lv_bipush (v := 6) C0.1 C0.2.1 dX3_pointAt_85 (by decide) ?_
                  refine lv_ishl C0.1 C0.2.1 dX3_pointAt_87 ?_
                  refine lv_iload C0.1 C0.2.1 dX3_pointAt_88 (lv_at hl 0 rfl) ?_
                  refine lv_bipush (v := 63) C0.1 C0.2.1 dX3_pointAt_90 (by decide) ?_
                  refine lv_iand C0.1 C0.2.1 dX3_pointAt_92 ?_
                  refine lv_ior C0.1 C0.2.1 dX3_pointAt_93 ?_
                  refine lv_istore (lv' := [(5, .int ((v <<< (6 &&& 31)) ||| (r33 &&& 63))), (7, .int r33), (6, .int (nI i)), (4, .int (nI k)), (3, .int r1), (0, .ref r), (1, .int (nI place)), (2, .int (nI t))]) C0.1 C0.2.1 dX3_pointAt_94 hl (by decide) rfl (fun ls hl => ?_)
                  refine lv_iinc (v := nI (i + 1)) (lv' := [(6, .int (nI (i + 1))), (5, .int ((v <<< (6 &&& 31)) ||| (r33 &&& 63))), (7, .int r33), (4, .int (nI k)), (3, .int r1), (0, .ref r), (1, .int (nI place)), (2, .int (nI t))]) C0.1 C0.2.1 dX3_pointAt_96 hl (k := 2) rfl (nI_add i 1) (by decide) rfl (fun ls hl => ?_)
                  refine lv_goto (tgt := 48) C0.1 C0.2.1 dX3_pointAt_99 (by decide) ?_
                  exact ih48 (i + 1) _ (by omega) (by omega) (by rw [hcv, show k + 1 - i = (k + 1 - (i + 1)) + 1 by omega, conts_s (by omega), ← hr33, if_neg c34, if_pos c35]; rfl) (by omega) _ (lv_sub hl [0, 1, 3, 4, 5, 6, 7] rfl)
                · refine lv_iconst (v := (-1)) C0.1 C0.2.1 dX3_pointAt_81 (by decide) ?_
                  exact me_iret C0.1 C0.2.1 B.returns B.notSynchronized rfl rfl (by rw [hpt]; exact (ptK_n (by omega) (by rw [hcv, show k + 1 - i = (k + 1 - (i + 1)) + 1 by omega, conts_s (by omega), ← hr33, if_neg c34, if_neg c35])).symm) dX3_pointAt_82
        exact loop48 (k + 1 - 1 + 1) 1 _ (Nat.le_refl 1) (by omega) (by rw [Nat.add_sub_cancel]; unfold hd; rw [if_pos (by omega)]) (Nat.lt_succ_self _) _ (lv_sub hl [0, 1, 2, 3, 4, 5, 6] rfl)
    · have d4 : t ≤ (place + k) := Nat.not_lt.mp (fun h => c4 (nI_lt (a := (place + k)) (b := t) h (by omega)))
      refine lv_iconst (v := (-1)) C0.1 C0.2.1 dX3_pointAt_25 (by decide) ?_
      exact me_iret C0.1 C0.2.1 B.returns B.notSynchronized rfl rfl (by rw [hpt]; unfold ptK; rw [if_pos (by omega)]) dX3_pointAt_26

set_option maxHeartbeats 4000000 in
set_option maxRecDepth 100000 in
/-- wrongPlace(from, to) -/
theorem c_X3_wrongPlace (l : Launch) (G : me_G) (B0 : Nat) (w : Me) (r b cap : Nat) (xs : List Int32) (hR : Rw G w r b cap xs) (f t : Nat) (hft : f ≤ t) (ht : t ≤ xs.length) : CtI l yX3_wrongPlace (Cond.code yX3_wrongPlace cX3_wrongPlace 6 (some .int)) ({ frames := 2, cells := 0, slots := 0, locals := 48 }) G B0 w [.ref r, .int (nI f), .int (nI t)] (fun z => z = wr xs t f) := by
  refine Met.ofW (cc := cX3_wrongPlace) (maxL := 6) (ret := (some .int)) (by decide) rfl ?_
  intro p e s m args below meth c s₁ B hml hv
  obtain ⟨rfl, hK, hP, hKq, hBs⟩ := hv
  have hts := fun w h => atoms_spec (ws := Cond.code yX3_wrongPlace cX3_wrongPlace 6 (some .int) :: tbG) B.pre w (List.mem_cons_of_mem _ h)
  have hown : s.vm.findClass RX3 = some m.cls := findClass_of_methodNamed B.named
  have C0 : Cx G B0 p s m _ c cX3_wrongPlace RX3 := ⟨B.exec, B.bytes, hown, hts, hK, hKq, hBs⟩
  have hS : va_S (me_A B0) s.heap s.heap [] := va_S.rf
  have hl := lv_entry ([.ref r, .int (nI f), .int (nI t)]) (n := 6) (Nat.le_of_ble_eq_true rfl)
  rw [lg_entry_eq]
  generalize (lg_sl ([.ref r, .int (nI f), .int (nI t)]) ++ List.replicate (6 - (lg_sl ([.ref r, .int (nI f), .int (nI t)])).length) Slot.unset).toArray = ls at hl ⊢
  have hl : lv_has ls 6 [(0, .ref r), (1, .int (nI f)), (2, .int (nI t))] := hl
  have hlen := hR.len
  refine lv_iload_n C0.1 C0.2.1 dX3_wrongPlace_0 rfl (lv_at hl 1 rfl) ?_
  refine lv_istore_n (lv' := [(3, .int (nI f)), (0, .ref r), (1, .int (nI f)), (2, .int (nI t))]) C0.1 C0.2.1 dX3_wrongPlace_1 rfl hl (by decide) rfl (fun ls hl => ?_)
  refine lv_iload_n C0.1 C0.2.1 dX3_wrongPlace_2 rfl (lv_at hl 2 rfl) ?_
  refine lv_istore (lv' := [(4, .int (nI f)), (3, .int (nI f)), (0, .ref r), (1, .int (nI f)), (2, .int (nI t))]) C0.1 C0.2.1 dX3_wrongPlace_3 hl (by decide) rfl (fun ls hl => ?_)
  have loop5 : ∀ (n : Nat) (i q : Nat), (f ≤ i) → (i ≤ t) → (i ≤ q) → (q ≤ t + 4) → (wr xs t f = wr xs t q) → (t - i) < n → ∀ (ls : Array Slot), lv_has ls 6 [(4, .int (nI i)), (3, .int (nI q)), (0, .ref r), (1, .int (nI f)), (2, .int (nI t))] → W p l e ({ frames := 2, cells := 0, slots := 0, locals := 48 }) s m ([.ref r, .int (nI f), .int (nI t)] : List Value).toArray below meth c s.heap [] 0 0 (MQ below (vp_Si (fun z => z = wr xs t f)) ([.ref r, .int (nI f), .int (nI t)] : List Value).toArray s 0 0 (fun _ => False)) (F0 m 5 ls []) := by
    intro n
    induction n with
    | zero => intro i q _ _ _ _ _ hz; exact absurd hz (Nat.not_lt_zero _)
    | succ n ih5 =>
      intro i q hif hit hiq hqq hwr hn5  ls  hl
      refine lv_iload C0.1 C0.2.1 dX3_wrongPlace_5 (lv_at hl 0 rfl) ?_
      refine lv_iload_n C0.1 C0.2.1 dX3_wrongPlace_7 rfl (lv_at hl 4 rfl) ?_
      refine lv_icmp_ge (tgt := 49) C0.1 C0.2.1 dX3_wrongPlace_8 (by decide) (fun c1 => ?_) (fun c1 => ?_)
      · have d1 : t ≤ i := (nI_leI (a := t) (b := i) (by omega) (by omega)).mp c1
        refine lv_iconst (v := (-1)) C0.1 C0.2.1 dX3_wrongPlace_49 (by decide) ?_
        exact me_iret C0.1 C0.2.1 B.returns B.notSynchronized rfl rfl (by rw [hwr]; exact (wr_end (by omega)).symm) dX3_wrongPlace_50
      · have d1 : i < t := Nat.not_le.mp (fun h => c1 (nI_le (a := t) (b := i) h (by omega)))
        refine lv_iload C0.1 C0.2.1 dX3_wrongPlace_11 (lv_at hl 0 rfl) ?_
        refine lv_iload_n C0.1 C0.2.1 dX3_wrongPlace_13 rfl (lv_at hl 1 rfl) ?_
        refine lv_icmp_ne (tgt := 43) C0.1 C0.2.1 dX3_wrongPlace_14 (by decide) (fun c2 => ?_) (fun c2 => ?_)
        · have d2 : i ≠ q := fun h => c2 (congrArg nI h)
          refine lv_iinc (v := nI (i + 1)) (lv' := [(4, .int (nI (i + 1))), (3, .int (nI q)), (0, .ref r), (1, .int (nI f)), (2, .int (nI t))]) C0.1 C0.2.1 dX3_wrongPlace_43 hl (k := 0) rfl (nI_add i 1) (by decide) rfl (fun ls hl => ?_)
          refine lv_goto (tgt := 5) C0.1 C0.2.1 dX3_wrongPlace_46 (by decide) ?_
          exact ih5 (i + 1) q (by omega) (by omega) (by omega) (by omega) hwr (by omega) _ (lv_sub hl [0, 1, 2, 3, 4] rfl)
        · have d2 : i = q := (nI_eq (a := i) (b := q) (by omega) (by omega)).mp c2
          subst d2
          refine lv_aload_n C0.1 C0.2.1 dX3_wrongPlace_17 rfl (lv_at hl 2 rfl) ?_
          refine lv_iload C0.1 C0.2.1 dX3_wrongPlace_18 (lv_at hl 0 rfl) ?_
          refine lv_iload_n C0.1 C0.2.1 dX3_wrongPlace_20 rfl (lv_at hl 4 rfl) ?_
          refine me_cSi (n := 3) C0 hml hP hS (c_X3_pointAt l G B0 w r b cap xs hR i t (by omega) ht) ⟨kw_147, kw_40, kw_145, ⟨by decide, by decide, by decide +kernel⟩, ⟨rfl, rfl⟩, ⟨Nat.le_of_ble_eq_true rfl, Nat.le_of_ble_eq_true rfl⟩⟩ kw_146 rfl hl.1 rfl (Nat.le_of_ble_eq_true rfl) ⟨Nat.le_of_ble_eq_true rfl, Nat.le_of_ble_eq_true rfl⟩ dX3_wrongPlace_21 (fun r3 hr3 => ?_)
          refine lv_istore (lv' := [(5, .int r3), (4, .int (nI i)), (3, .int (nI i)), (0, .ref r), (1, .int (nI f)), (2, .int (nI t))]) C0.1 C0.2.1 dX3_wrongPlace_24 hl (by decide) rfl (fun ls hl => ?_)
          refine lv_iload C0.1 C0.2.1 dX3_wrongPlace_26 (lv_at hl 0 rfl) ?_
          refine lv_iconst (v := (-1)) C0.1 C0.2.1 dX3_wrongPlace_28 (by decide) ?_
          refine lv_icmp_ne (tgt := 35) C0.1 C0.2.1 dX3_wrongPlace_29 (by decide) (fun c4 => ?_) (fun c4 => ?_)
          · refine lv_iload_n C0.1 C0.2.1 dX3_wrongPlace_35 rfl (lv_at hl 2 rfl) ?_
            refine lv_iload C0.1 C0.2.1 dX3_wrongPlace_36 (lv_at hl 0 rfl) ?_
            refine me_cSi (n := 1) C0 hml hP hS (c_X3_octetsOf l G B0 w r3) ⟨kw_160, kw_40, kw_158, ⟨by decide, by decide, by decide +kernel⟩, ⟨rfl, rfl⟩, ⟨Nat.le_of_ble_eq_true rfl, Nat.le_of_ble_eq_true rfl⟩⟩ kw_159 rfl hl.1 rfl (Nat.le_of_ble_eq_true rfl) ⟨Nat.le_of_ble_eq_true rfl, Nat.le_of_ble_eq_true rfl⟩ dX3_wrongPlace_38 (fun r5 hr5 => ?_)
            obtain ⟨ko, ko1, ko4, hko⟩ := octOf_r (ptC xs i t)
            rw [hr3, hko] at hr5
            subst hr5
            refine lv_iadd C0.1 C0.2.1 dX3_wrongPlace_41 ?_
            refine me_topi (y := nI (i + ko)) (nI_add i ko) ?_
            refine lv_istore_n (lv' := [(3, .int (nI (i + ko))), (5, .int r3), (4, .int (nI i)), (0, .ref r), (1, .int (nI f)), (2, .int (nI t))]) C0.1 C0.2.1 dX3_wrongPlace_42 rfl hl (by decide) rfl (fun ls hl => ?_)
            refine lv_iinc (v := nI (i + 1)) (lv' := [(4, .int (nI (i + 1))), (3, .int (nI (i + ko))), (5, .int r3), (0, .ref r), (1, .int (nI f)), (2, .int (nI t))]) C0.1 C0.2.1 dX3_wrongPlace_43 hl (k := 2) rfl (nI_add i 1) (by decide) rfl (fun ls hl => ?_)
            refine lv_goto (tgt := 5) C0.1 C0.2.1 dX3_wrongPlace_46 (by decide) ?_
            exact ih5 (i + 1) (i + ko) (by omega) (by omega) (by omega) (by omega) (by rw [hwr]; exact wr_go (by omega) (fun h => c4 (hr3.trans h)) hko (by omega)) (by omega) _ (lv_sub hl [0, 1, 3, 4, 5] rfl)
          · refine lv_iload C0.1 C0.2.1 dX3_wrongPlace_32 (lv_at hl 1 rfl) ?_
            exact me_iret C0.1 C0.2.1 B.returns B.notSynchronized rfl rfl (by rw [hwr]; exact (wr_bad (by omega) (hr3.symm.trans c4)).symm) dX3_wrongPlace_34
  exact loop5 (t - f + 1) f f (Nat.le_refl _) hft (Nat.le_refl _) (by omega) rfl (Nat.lt_succ_self _) _ (lv_sub hl [0, 1, 2, 3, 4] rfl)
end
section
theorem kq_lens : ∀ i, i < 6 → kq_len.getD i 0 < 100 ∧ (kq_byt.getD i []).length = kq_len.getD i 0 := by decide +kernel
/-- charAt of a constant -/
def kch (i k : Nat) : Int32 := (kq_byt.getD i []).getD k 0 &&& 255
theorem sh0 (n : Nat) (h : n < 2 ^ 31) : nI n >>> ((0 : Int32) &&& 31) = nI n := sc_shr0 h
end
section
set_option maxHeartbeats 4000000 in
set_option maxRecDepth 100000 in
/-- String.coder of a constant -/
theorem c_J0_coder (l : Launch) (G : me_G) (B0 : Nat) (w : Me) (i : Nat) (hi : i < 6) : CtI l yJ0_coder_7d493 (Cond.code yJ0_coder_7d493 cJ0_coder_7d493 1 (some .byte)) ({ frames := 0, cells := 0, slots := 0, locals := 0 }) G B0 w [.ref (G.2.2.1 i)] (fun z => z = 0) := by
  refine va_MetF (cc := cJ0_coder_7d493) (maxL := 1) (ret := (some .byte)) (by decide) rfl ?_
  intro p e s m args below meth c s₁ B hml hv
  obtain ⟨rfl, hK, hP, hKq, hBs⟩ := hv
  have hts := fun w h => atoms_spec (ws := Cond.code yJ0_coder_7d493 cJ0_coder_7d493 1 (some .byte) :: tbG) B.pre w (List.mem_cons_of_mem _ h)
  have hown : s.vm.findClass RJ0 = some m.cls := findClass_of_methodNamed B.named
  have C0 : Cx G B0 p s m _ c cJ0_coder_7d493 RJ0 := ⟨B.exec, B.bytes, hown, hts, hK, hKq, hBs⟩
  have hS : va_S (me_A B0) s.heap s.heap [] := va_S.rf
  have hl := lv_entry ([.ref (G.2.2.1 i)]) (n := 1) (Nat.le_of_ble_eq_true rfl)
  rw [lg_entry_eq]
  generalize (lg_sl ([.ref (G.2.2.1 i)]) ++ List.replicate (1 - (lg_sl ([.ref (G.2.2.1 i)])).length) Slot.unset).toArray = ls at hl ⊢
  have hl : lv_has ls 1 [(0, .ref (G.2.2.1 i))] := hl
  refine va_gets C0.1 C0.2.1 hKq.2.2.2.1.1 hS C0.2.2.1 (C0.2.2.2.1 _ kw_184) (fun _ h => h) dJ0_coder_7d493_0 ?_
  refine lv_if_eq (tgt := 13) C0.1 C0.2.1 dJ0_coder_7d493_3 (by decide) (fun c => absurd c (by decide)) (fun c => ?_)
  refine lv_aload_n C0.1 C0.2.1 dJ0_coder_7d493_6 rfl (lv_at hl 0 rfl) ?_
  refine vk_getf C0.1 C0.2.1 (hKq.1.1 i hi).2.1 hS C0.2.2.1 (C0.2.2.2.1 _ kw_695) (fun _ h => h) dJ0_coder_7d493_7 ?_
  refine lv_goto (tgt := 14) C0.1 C0.2.1 dJ0_coder_7d493_10 (by decide) ?_
  exact me_zret C0.1 C0.2.1 B.returns B.notSynchronized rfl rfl rfl (rfl) dJ0_coder_7d493_14

set_option maxHeartbeats 4000000 in
set_option maxRecDepth 100000 in
/-- String.isLatin1 of a constant -/
theorem c_J0_isLatin1 (l : Launch) (G : me_G) (B0 : Nat) (w : Me) (i : Nat) (hi : i < 6) : CtI l yJ0_isLatin1_aae02 (Cond.code yJ0_isLatin1_aae02 cJ0_isLatin1_aae02 1 (some .boolean)) ({ frames := 0, cells := 0, slots := 0, locals := 0 }) G B0 w [.ref (G.2.2.1 i)] (fun z => z = 1) := by
  refine va_MetF (cc := cJ0_isLatin1_aae02) (maxL := 1) (ret := (some .boolean)) (by decide) rfl ?_
  intro p e s m args below meth c s₁ B hml hv
  obtain ⟨rfl, hK, hP, hKq, hBs⟩ := hv
  have hts := fun w h => atoms_spec (ws := Cond.code yJ0_isLatin1_aae02 cJ0_isLatin1_aae02 1 (some .boolean) :: tbG) B.pre w (List.mem_cons_of_mem _ h)
  have hown : s.vm.findClass RJ0 = some m.cls := findClass_of_methodNamed B.named
  have C0 : Cx G B0 p s m _ c cJ0_isLatin1_aae02 RJ0 := ⟨B.exec, B.bytes, hown, hts, hK, hKq, hBs⟩
  have hS : va_S (me_A B0) s.heap s.heap [] := va_S.rf
  have hl := lv_entry ([.ref (G.2.2.1 i)]) (n := 1) (Nat.le_of_ble_eq_true rfl)
  rw [lg_entry_eq]
  generalize (lg_sl ([.ref (G.2.2.1 i)]) ++ List.replicate (1 - (lg_sl ([.ref (G.2.2.1 i)])).length) Slot.unset).toArray = ls at hl ⊢
  have hl : lv_has ls 1 [(0, .ref (G.2.2.1 i))] := hl
  refine va_gets C0.1 C0.2.1 hKq.2.2.2.1.1 hS C0.2.2.1 (C0.2.2.2.1 _ kw_184) (fun _ h => h) dJ0_isLatin1_aae02_0 ?_
  refine lv_if_eq (tgt := 17) C0.1 C0.2.1 dJ0_isLatin1_aae02_3 (by decide) (fun c => absurd c (by decide)) (fun c => ?_)
  refine lv_aload_n C0.1 C0.2.1 dJ0_isLatin1_aae02_6 rfl (lv_at hl 0 rfl) ?_
  refine vk_getf C0.1 C0.2.1 (hKq.1.1 i hi).2.1 hS C0.2.2.1 (C0.2.2.2.1 _ kw_695) (fun _ h => h) dJ0_isLatin1_aae02_7 ?_
  refine lv_if_ne (tgt := 17) C0.1 C0.2.1 dJ0_isLatin1_aae02_10 (by decide) (fun c => absurd c (by decide)) (fun c => ?_)
  refine lv_iconst (v := 1) C0.1 C0.2.1 dJ0_isLatin1_aae02_13 (by decide) ?_
  refine lv_goto (tgt := 18) C0.1 C0.2.1 dJ0_isLatin1_aae02_14 (by decide) ?_
  exact me_zret C0.1 C0.2.1 B.returns B.notSynchronized rfl rfl rfl (rfl) dJ0_isLatin1_aae02_18

set_option maxHeartbeats 4000000 in
set_option maxRecDepth 100000 in
/-- String.length of a constant -/
theorem c_J0_length (l : Launch) (G : me_G) (B0 : Nat) (w : Me) (i : Nat) (hi : i < 6) : CtI l yJ0_length_8abf5 (Cond.code yJ0_length_8abf5 cJ0_length_8abf5 1 (some .int)) ({ frames := 1, cells := 0, slots := 0, locals := 20 }) G B0 w [.ref (G.2.2.1 i)] (fun z => z = nI (kq_len.getD i 0)) := by
  refine va_MetF (cc := cJ0_length_8abf5) (maxL := 1) (ret := (some .int)) (by decide) rfl ?_
  intro p e s m args below meth c s₁ B hml hv
  obtain ⟨rfl, hK, hP, hKq, hBs⟩ := hv
  have hts := fun w h => atoms_spec (ws := Cond.code yJ0_length_8abf5 cJ0_length_8abf5 1 (some .int) :: tbG) B.pre w (List.mem_cons_of_mem _ h)
  have hown : s.vm.findClass RJ0 = some m.cls := findClass_of_methodNamed B.named
  have C0 : Cx G B0 p s m _ c cJ0_length_8abf5 RJ0 := ⟨B.exec, B.bytes, hown, hts, hK, hKq, hBs⟩
  have hS : va_S (me_A B0) s.heap s.heap [] := va_S.rf
  have hl := lv_entry ([.ref (G.2.2.1 i)]) (n := 1) (Nat.le_of_ble_eq_true rfl)
  rw [lg_entry_eq]
  generalize (lg_sl ([.ref (G.2.2.1 i)]) ++ List.replicate (1 - (lg_sl ([.ref (G.2.2.1 i)])).length) Slot.unset).toArray = ls at hl ⊢
  have hl : lv_has ls 1 [(0, .ref (G.2.2.1 i))] := hl
  refine lv_aload_n C0.1 C0.2.1 dJ0_length_8abf5_0 rfl (lv_at hl 0 rfl) ?_
  refine vk_getf C0.1 C0.2.1 (hKq.1.1 i hi).2.2.1 hS C0.2.2.1 (C0.2.2.2.1 _ kw_694) (fun _ h => h) dJ0_length_8abf5_1 ?_
  refine va_tlen C0.1 C0.2.1 (hKq.1.1 i hi).2.2.2 hS (v := nI (kq_len.getD i 0)) rfl dJ0_length_8abf5_4 ?_
  refine lv_aload_n C0.1 C0.2.1 dJ0_length_8abf5_5 rfl (lv_at hl 0 rfl) ?_
  refine me_cVk (n := 0) C0 hml hP hS (c_J0_coder l G B0 w i hi) ⟨kw_183, kw_42, kw_180, ⟨by decide, by decide, by decide +kernel⟩, ⟨rfl, rfl⟩, ⟨Nat.le_of_ble_eq_true rfl, Nat.le_of_ble_eq_true rfl⟩⟩ kw_181 kw_182 (vk_recv hKq.1 hi hS) rfl hl.1 rfl (Nat.le_of_ble_eq_true rfl) ⟨Nat.le_of_ble_eq_true rfl, Nat.le_of_ble_eq_true rfl⟩ dJ0_length_8abf5_6 (fun r1 hr1 => ?_)
  subst hr1
  refine lv_ishr C0.1 C0.2.1 dJ0_length_8abf5_9 ?_
  exact me_iret C0.1 C0.2.1 B.returns B.notSynchronized rfl rfl (sh0 _ (by have := (kq_lens i hi).1; omega)) dJ0_length_8abf5_10

set_option maxHeartbeats 4000000 in
set_option maxRecDepth 100000 in
/-- Preconditions.checkIndex, within -/
theorem c_J3_checkIndexN (l : Launch) (G : me_G) (B0 : Nat) (w : Me) (k n : Nat) (hk : k < n) (hn : n < 2 ^ 31) : CtI l yJ3_checkIndex_8e157 (Cond.code yJ3_checkIndex_8e157 cJ3_checkIndex_8e157 3 (some .int)) ({ frames := 0, cells := 0, slots := 0, locals := 0 }) G B0 w [.int (nI k), .int (nI n), .null] (fun z => z = nI k) := by
  refine va_MetF (cc := cJ3_checkIndex_8e157) (maxL := 3) (ret := (some .int)) (by decide) rfl ?_
  intro p e s m args below meth c s₁ B hml hv
  obtain ⟨rfl, hK, hP, hKq, hBs⟩ := hv
  have hts := fun w h => atoms_spec (ws := Cond.code yJ3_checkIndex_8e157 cJ3_checkIndex_8e157 3 (some .int) :: tbG) B.pre w (List.mem_cons_of_mem _ h)
  have hown : s.vm.findClass RJ3 = some m.cls := findClass_of_methodNamed B.named
  have C0 : Cx G B0 p s m _ c cJ3_checkIndex_8e157 RJ3 := ⟨B.exec, B.bytes, hown, hts, hK, hKq, hBs⟩
  have hS : va_S (me_A B0) s.heap s.heap [] := va_S.rf
  have hl := lv_entry ([.int (nI k), .int (nI n), .null]) (n := 3) (Nat.le_of_ble_eq_true rfl)
  rw [lg_entry_eq]
  generalize (lg_sl ([.int (nI k), .int (nI n), .null]) ++ List.replicate (3 - (lg_sl ([.int (nI k), .int (nI n), .null])).length) Slot.unset).toArray = ls at hl ⊢
  have hl : lv_has ls 3 [(0, .int (nI k)), (1, .int (nI n)), (2, .null)] := hl
  refine lv_iload_n C0.1 C0.2.1 dJ3_checkIndex_8e157_0 rfl (lv_at hl 0 rfl) ?_
  refine lv_if_lt (tgt := 9) C0.1 C0.2.1 dJ3_checkIndex_8e157_1 (by decide) (fun c1 => ?_) (fun c1 => ?_)
  · have d1 : k < 0 := (nI_ltI (a := k) (b := 0) (by omega) (by omega)).mp c1
    exact absurd c1 (nI_pos (by omega))
  · have d1 : 0 ≤ k := Nat.not_lt.mp (fun h => c1 (nI_lt (a := k) (b := 0) h (by omega)))
    refine lv_iload_n C0.1 C0.2.1 dJ3_checkIndex_8e157_4 rfl (lv_at hl 0 rfl) ?_
    refine lv_iload_n C0.1 C0.2.1 dJ3_checkIndex_8e157_5 rfl (lv_at hl 1 rfl) ?_
    refine lv_icmp_lt (tgt := 16) C0.1 C0.2.1 dJ3_checkIndex_8e157_6 (by decide) (fun c2 => ?_) (fun c2 => ?_)
    · have d2 : k < n := (nI_ltI (a := k) (b := n) (by omega) (by omega)).mp c2
      refine lv_iload_n C0.1 C0.2.1 dJ3_checkIndex_8e157_16 rfl (lv_at hl 0 rfl) ?_
      exact me_iret C0.1 C0.2.1 B.returns B.notSynchronized rfl rfl (rfl) dJ3_checkIndex_8e157_17
    · have d2 : n ≤ k := Nat.not_lt.mp (fun h => c2 (nI_lt (a := k) (b := n) h (by omega)))
      exact absurd d2 (by omega)

set_option maxHeartbeats 4000000 in
set_option maxRecDepth 100000 in
/-- Preconditions.checkIndex, within -/
theorem c_J3_checkIndexR (l : Launch) (G : me_G) (B0 : Nat) (w : Me) (k n : Nat) (hk : k < n) (hn : n < 2 ^ 31) (t : Nat) : CtI l yJ3_checkIndex_8e157 (Cond.code yJ3_checkIndex_8e157 cJ3_checkIndex_8e157 3 (some .int)) ({ frames := 0, cells := 0, slots := 0, locals := 0 }) G B0 w [.int (nI k), .int (nI n), .ref t] (fun z => z = nI k) := by
  refine va_MetF (cc := cJ3_checkIndex_8e157) (maxL := 3) (ret := (some .int)) (by decide) rfl ?_
  intro p e s m args below meth c s₁ B hml hv
  obtain ⟨rfl, hK, hP, hKq, hBs⟩ := hv
  have hts := fun w h => atoms_spec (ws := Cond.code yJ3_checkIndex_8e157 cJ3_checkIndex_8e157 3 (some .int) :: tbG) B.pre w (List.mem_cons_of_mem _ h)
  have hown : s.vm.findClass RJ3 = some m.cls := findClass_of_methodNamed B.named
  have C0 : Cx G B0 p s m _ c cJ3_checkIndex_8e157 RJ3 := ⟨B.exec, B.bytes, hown, hts, hK, hKq, hBs⟩
  have hS : va_S (me_A B0) s.heap s.heap [] := va_S.rf
  have hl := lv_entry ([.int (nI k), .int (nI n), .ref t]) (n := 3) (Nat.le_of_ble_eq_true rfl)
  rw [lg_entry_eq]
  generalize (lg_sl ([.int (nI k), .int (nI n), .ref t]) ++ List.replicate (3 - (lg_sl ([.int (nI k), .int (nI n), .ref t])).length) Slot.unset).toArray = ls at hl ⊢
  have hl : lv_has ls 3 [(0, .int (nI k)), (1, .int (nI n)), (2, .ref t)] := hl
  refine lv_iload_n C0.1 C0.2.1 dJ3_checkIndex_8e157_0 rfl (lv_at hl 0 rfl) ?_
  refine lv_if_lt (tgt := 9) C0.1 C0.2.1 dJ3_checkIndex_8e157_1 (by decide) (fun c1 => ?_) (fun c1 => ?_)
  · have d1 : k < 0 := (nI_ltI (a := k) (b := 0) (by omega) (by omega)).mp c1
    exact absurd c1 (nI_pos (by omega))
  · have d1 : 0 ≤ k := Nat.not_lt.mp (fun h => c1 (nI_lt (a := k) (b := 0) h (by omega)))
    refine lv_iload_n C0.1 C0.2.1 dJ3_checkIndex_8e157_4 rfl (lv_at hl 0 rfl) ?_
    refine lv_iload_n C0.1 C0.2.1 dJ3_checkIndex_8e157_5 rfl (lv_at hl 1 rfl) ?_
    refine lv_icmp_lt (tgt := 16) C0.1 C0.2.1 dJ3_checkIndex_8e157_6 (by decide) (fun c2 => ?_) (fun c2 => ?_)
    · have d2 : k < n := (nI_ltI (a := k) (b := n) (by omega) (by omega)).mp c2
      refine lv_iload_n C0.1 C0.2.1 dJ3_checkIndex_8e157_16 rfl (lv_at hl 0 rfl) ?_
      exact me_iret C0.1 C0.2.1 B.returns B.notSynchronized rfl rfl (rfl) dJ3_checkIndex_8e157_17
    · have d2 : n ≤ k := Nat.not_lt.mp (fun h => c2 (nI_lt (a := k) (b := n) h (by omega)))
      exact absurd d2 (by omega)

set_option maxHeartbeats 4000000 in
set_option maxRecDepth 100000 in
/-- String.checkIndex, within -/
theorem c_J0_checkIndex (l : Launch) (G : me_G) (B0 : Nat) (w : Me) (k n : Nat) (hk : k < n) (hn : n < 2 ^ 31) : CtWV l yJ0_checkIndex_df160 (Cond.code yJ0_checkIndex_df160 cJ0_checkIndex_df160 2 none) ({ frames := 1, cells := 0, slots := 0, locals := 22 }) G B0 w [.int (nI k), .int (nI n)] (fun w' => w' = w) 0 0 := by
  refine va_MetF (cc := cJ0_checkIndex_df160) (maxL := 2) (ret := none) (by decide) rfl ?_
  intro p e s m args below meth c s₁ B hml hv
  obtain ⟨rfl, hK, hP, hKq, hBs⟩ := hv
  have hts := fun w h => atoms_spec (ws := Cond.code yJ0_checkIndex_df160 cJ0_checkIndex_df160 2 none :: tbG) B.pre w (List.mem_cons_of_mem _ h)
  have hown : s.vm.findClass RJ0 = some m.cls := findClass_of_methodNamed B.named
  have C0 : Cx G B0 p s m _ c cJ0_checkIndex_df160 RJ0 := ⟨B.exec, B.bytes, hown, hts, hK, hKq, hBs⟩
  have hS : va_S (me_A B0) s.heap s.heap [] := va_S.rf
  have hl := lv_entry ([.int (nI k), .int (nI n)]) (n := 2) (Nat.le_of_ble_eq_true rfl)
  rw [lg_entry_eq]
  generalize (lg_sl ([.int (nI k), .int (nI n)]) ++ List.replicate (2 - (lg_sl ([.int (nI k), .int (nI n)])).length) Slot.unset).toArray = ls at hl ⊢
  have hl : lv_has ls 2 [(0, .int (nI k)), (1, .int (nI n))] := hl
  refine lv_iload_n C0.1 C0.2.1 dJ0_checkIndex_df160_0 rfl (lv_at hl 0 rfl) ?_
  refine lv_iload_n C0.1 C0.2.1 dJ0_checkIndex_df160_1 rfl (lv_at hl 1 rfl) ?_
  rcases hKq.2.2.2.1.2 with hz | ⟨tz, hz⟩
  · refine va_gets C0.1 C0.2.1 hz hS C0.2.2.1 (C0.2.2.2.1 _ kw_200) (fun _ h => h) dJ0_checkIndex_df160_2 ?_
    refine me_cSi (n := 3) C0 hml hP hS (c_J3_checkIndexN l G B0 w k n hk hn) ⟨kw_204, kw_44, kw_202, ⟨by decide, by decide, by decide +kernel⟩, ⟨rfl, rfl⟩, ⟨Nat.le_of_ble_eq_true rfl, Nat.le_of_ble_eq_true rfl⟩⟩ kw_203 rfl hl.1 rfl (Nat.le_of_ble_eq_true rfl) ⟨Nat.le_of_ble_eq_true rfl, Nat.le_of_ble_eq_true rfl⟩ dJ0_checkIndex_df160_5 (fun r1 hr1 => ?_)
    refine lv_pop C0.1 C0.2.1 dJ0_checkIndex_df160_8 rfl ?_
    exact me_wvret _ C0.1 C0.2.1 B.returns B.notSynchronized hP hS (Nat.le_of_ble_eq_true rfl) (Nat.le_of_ble_eq_true rfl) (rfl) dJ0_checkIndex_df160_9
  · refine va_gets C0.1 C0.2.1 hz hS C0.2.2.1 (C0.2.2.2.1 _ kw_200) (fun _ h => h) dJ0_checkIndex_df160_2 ?_
    refine me_cSi (n := 3) C0 hml hP hS (c_J3_checkIndexR l G B0 w k n hk hn tz) ⟨kw_204, kw_44, kw_202, ⟨by decide, by decide, by decide +kernel⟩, ⟨rfl, rfl⟩, ⟨Nat.le_of_ble_eq_true rfl, Nat.le_of_ble_eq_true rfl⟩⟩ kw_203 rfl hl.1 rfl (Nat.le_of_ble_eq_true rfl) ⟨Nat.le_of_ble_eq_true rfl, Nat.le_of_ble_eq_true rfl⟩ dJ0_checkIndex_df160_5 (fun r2 hr2 => ?_)
    refine lv_pop C0.1 C0.2.1 dJ0_checkIndex_df160_8 rfl ?_
    exact me_wvret _ C0.1 C0.2.1 B.returns B.notSynchronized hP hS (Nat.le_of_ble_eq_true rfl) (Nat.le_of_ble_eq_true rfl) (rfl) dJ0_checkIndex_df160_9

set_option maxHeartbeats 4000000 in
set_option maxRecDepth 100000 in
/-- StringLatin1.charAt of a constant -/
theorem c_J1_charAt (l : Launch) (G : me_G) (B0 : Nat) (w : Me) (i : Nat) (hi : i < 6) (k : Nat) (hk : k < kq_len.getD i 0) : CtWI l yJ1_charAt_3b067 (Cond.code yJ1_charAt_3b067 cJ1_charAt_3b067 2 (some .char)) ({ frames := 2, cells := 0, slots := 0, locals := 43 }) G B0 w [.ref (G.2.2.2.1 i), .int (nI k)] (fun z w' => z = kch i k ∧ w' = w) 0 0 := by
  refine va_MetF (cc := cJ1_charAt_3b067) (maxL := 2) (ret := (some .char)) (by decide) rfl ?_
  intro p e s m args below meth c s₁ B hml hv
  obtain ⟨rfl, hK, hP, hKq, hBs⟩ := hv
  have hts := fun w h => atoms_spec (ws := Cond.code yJ1_charAt_3b067 cJ1_charAt_3b067 2 (some .char) :: tbG) B.pre w (List.mem_cons_of_mem _ h)
  have hown : s.vm.findClass RJ1 = some m.cls := findClass_of_methodNamed B.named
  have C0 : Cx G B0 p s m _ c cJ1_charAt_3b067 RJ1 := ⟨B.exec, B.bytes, hown, hts, hK, hKq, hBs⟩
  have hS : va_S (me_A B0) s.heap s.heap [] := va_S.rf
  have hl := lv_entry ([.ref (G.2.2.2.1 i), .int (nI k)]) (n := 2) (Nat.le_of_ble_eq_true rfl)
  rw [lg_entry_eq]
  generalize (lg_sl ([.ref (G.2.2.2.1 i), .int (nI k)]) ++ List.replicate (2 - (lg_sl ([.ref (G.2.2.2.1 i), .int (nI k)])).length) Slot.unset).toArray = ls at hl ⊢
  have hl : lv_has ls 2 [(0, .ref (G.2.2.2.1 i)), (1, .int (nI k))] := hl
  have hk1 := kq_lens i hi
  refine lv_iload_n C0.1 C0.2.1 dJ1_charAt_3b067_0 rfl (lv_at hl 1 rfl) ?_
  refine lv_aload_n C0.1 C0.2.1 dJ1_charAt_3b067_1 rfl (lv_at hl 0 rfl) ?_
  refine va_tlen C0.1 C0.2.1 (hKq.1.1 i hi).2.2.2 hS (v := nI (kq_len.getD i 0)) rfl dJ1_charAt_3b067_2 ?_
  refine me_cSwv (n := 2) C0 hml hP hS (c_J0_checkIndex l G B0 w k (kq_len.getD i 0) hk (by omega)) ⟨kw_199, kw_42, kw_197, ⟨by decide, by decide, by decide +kernel⟩, ⟨rfl, rfl⟩, ⟨Nat.le_of_ble_eq_true rfl, Nat.le_of_ble_eq_true rfl⟩⟩ kw_198 rfl hl.1 rfl (Nat.le_of_ble_eq_true rfl) ⟨Nat.le_of_ble_eq_true rfl, Nat.le_of_ble_eq_true rfl⟩ dJ1_charAt_3b067_3 (fun w1 H locs hw1 hP hS => ?_)
  rw [hw1] at hP
  refine lv_aload_n C0.1 C0.2.1 dJ1_charAt_3b067_6 rfl (lv_at hl 0 rfl) ?_
  refine lv_iload_n C0.1 C0.2.1 dJ1_charAt_3b067_7 rfl (lv_at hl 1 rfl) ?_
  refine va_tb C0.1 C0.2.1 (hKq.1.1 i hi).2.2.2 hS (vp_in_nI (by omega) (by omega)) (v := .int ((kq_byt.getD i []).getD k 0)) (by rw [nI_clamp (by omega)]) dJ1_charAt_3b067_8 ?_
  refine lv_sipush (v := 255) C0.1 C0.2.1 dJ1_charAt_3b067_9 (by decide) ?_
  refine lv_iand C0.1 C0.2.1 dJ1_charAt_3b067_12 ?_
  refine lv_i2c C0.1 C0.2.1 dJ1_charAt_3b067_13 rfl ?_
  exact me_wzret _ C0.1 C0.2.1 B.returns B.notSynchronized (pk_nc _) hP hS (Nat.le_of_ble_eq_true rfl) (Nat.le_of_ble_eq_true rfl) (⟨sc_c2 _, rfl⟩) dJ1_charAt_3b067_14

set_option maxHeartbeats 4000000 in
set_option maxRecDepth 100000 in
/-- String.charAt of a constant -/
theorem c_J0_charAt (l : Launch) (G : me_G) (B0 : Nat) (w : Me) (i : Nat) (hi : i < 6) (k : Nat) (hk : k < kq_len.getD i 0) : CtWI l yJ0_charAt_5068e (Cond.code yJ0_charAt_5068e cJ0_charAt_5068e 2 (some .char)) ({ frames := 3, cells := 0, slots := 0, locals := 64 }) G B0 w [.ref (G.2.2.1 i), .int (nI k)] (fun z w' => z = kch i k ∧ w' = w) 0 0 := by
  refine va_MetF (cc := cJ0_charAt_5068e) (maxL := 2) (ret := (some .char)) (by decide) rfl ?_
  intro p e s m args below meth c s₁ B hml hv
  obtain ⟨rfl, hK, hP, hKq, hBs⟩ := hv
  have hts := fun w h => atoms_spec (ws := Cond.code yJ0_charAt_5068e cJ0_charAt_5068e 2 (some .char) :: tbG) B.pre w (List.mem_cons_of_mem _ h)
  have hown : s.vm.findClass RJ0 = some m.cls := findClass_of_methodNamed B.named
  have C0 : Cx G B0 p s m _ c cJ0_charAt_5068e RJ0 := ⟨B.exec, B.bytes, hown, hts, hK, hKq, hBs⟩
  have hS : va_S (me_A B0) s.heap s.heap [] := va_S.rf
  have hl := lv_entry ([.ref (G.2.2.1 i), .int (nI k)]) (n := 2) (Nat.le_of_ble_eq_true rfl)
  rw [lg_entry_eq]
  generalize (lg_sl ([.ref (G.2.2.1 i), .int (nI k)]) ++ List.replicate (2 - (lg_sl ([.ref (G.2.2.1 i), .int (nI k)])).length) Slot.unset).toArray = ls at hl ⊢
  have hl : lv_has ls 2 [(0, .ref (G.2.2.1 i)), (1, .int (nI k))] := hl
  have hk1 := kq_lens i hi
  refine lv_aload_n C0.1 C0.2.1 dJ0_charAt_5068e_0 rfl (lv_at hl 0 rfl) ?_
  refine me_cVk (n := 0) C0 hml hP hS (c_J0_isLatin1 l G B0 w i hi) ⟨kw_193, kw_42, kw_190, ⟨by decide, by decide, by decide +kernel⟩, ⟨rfl, rfl⟩, ⟨Nat.le_of_ble_eq_true rfl, Nat.le_of_ble_eq_true rfl⟩⟩ kw_191 kw_192 (vk_recv hKq.1 hi hS) rfl hl.1 rfl (Nat.le_of_ble_eq_true rfl) ⟨Nat.le_of_ble_eq_true rfl, Nat.le_of_ble_eq_true rfl⟩ dJ0_charAt_5068e_1 (fun r1 hr1 => ?_)
  subst hr1
  refine lv_if_eq (tgt := 16) C0.1 C0.2.1 dJ0_charAt_5068e_4 (by decide) (fun c => absurd c (by decide)) (fun c => ?_)
  refine lv_aload_n C0.1 C0.2.1 dJ0_charAt_5068e_7 rfl (lv_at hl 0 rfl) ?_
  refine vk_getf C0.1 C0.2.1 (hKq.1.1 i hi).2.2.1 hS C0.2.2.1 (C0.2.2.2.1 _ kw_694) (fun _ h => h) dJ0_charAt_5068e_8 ?_
  refine lv_iload_n C0.1 C0.2.1 dJ0_charAt_5068e_11 rfl (lv_at hl 1 rfl) ?_
  refine me_cSwi (n := 2) C0 hml hP hS (c_J1_charAt l G B0 w i hi k hk) ⟨kw_196, kw_43, kw_194, ⟨by decide, by decide, by decide +kernel⟩, ⟨rfl, rfl⟩, ⟨Nat.le_of_ble_eq_true rfl, Nat.le_of_ble_eq_true rfl⟩⟩ kw_195 rfl hl.1 rfl (Nat.le_of_ble_eq_true rfl) ⟨Nat.le_of_ble_eq_true rfl, Nat.le_of_ble_eq_true rfl⟩ dJ0_charAt_5068e_12 (fun r3 w3 H locs hw3 hP hS => ?_)
  obtain ⟨hz1, hz2⟩ := hw3
  rw [hz2] at hP
  exact me_wzret _ C0.1 C0.2.1 B.returns B.notSynchronized (by rw [hz1]; exact sc_nar _) hP hS (Nat.le_of_ble_eq_true rfl) (Nat.le_of_ble_eq_true rfl) (⟨hz1, rfl⟩) dJ0_charAt_5068e_15
end
section
/-- markStep(i), i within the text -/
def kstep (i : Nat) : Int32 := if kch 1 i - 48 < 0 then 0 else if kch 1 i - 48 < nI 7 then kq_steps.getD (kch 1 i - 48).toNatClampNeg 0 else 0
/-- where a mark goes -/
def plc (xs : List Int32) (own : Int32) : Nat → Nat
  | 0 => 0
  | n + 1 => if own ≤ 0 then n + 1 else if mkCls (xs.getD n 0) ≤ own then n + 1 else plc xs own n
theorem plc_le (xs : List Int32) (own : Int32) : ∀ n, plc xs own n ≤ n
  | 0 => Nat.le_refl 0
  | n + 1 => by
    unfold plc
    split
    · exact Nat.le_refl _
    · split
      · exact Nat.le_refl _
      · exact Nat.le_succ_of_le (plc_le xs own n)
theorem plc_own {xs : List Int32} {own : Int32} (h : own ≤ 0) : ∀ n, plc xs own n = n
  | 0 => rfl
  | n + 1 => by unfold plc; rw [if_pos h]
theorem plc_stop {xs : List Int32} {own : Int32} {i : Nat} (h0 : 0 < i) (h : mkCls (xs.getD (i - 1) 0) ≤ own) : plc xs own i = i := by
  obtain ⟨n, rfl⟩ : ∃ n, i = n + 1 := ⟨i - 1, by omega⟩
  rw [Nat.add_sub_cancel] at h
  unfold plc
  split
  · rfl
  · first | rfl | rw [if_pos h]
theorem plc_go {xs : List Int32} {own : Int32} {i : Nat} (h0 : 0 < i) (h1 : ¬ own ≤ 0) (h : ¬ mkCls (xs.getD (i - 1) 0) ≤ own) : plc xs own i = plc xs own (i - 1) := by
  obtain ⟨n, rfl⟩ : ∃ n, i = n + 1 := ⟨i - 1, by omega⟩
  rw [Nat.add_sub_cancel] at h
  rw [plc, if_neg h1, if_neg h, Nat.add_sub_cancel]
/-- addInOrder -/
def inOrd (cap : Nat) (xs : List Int32) (p : Int32) : List Int32 := rIns cap xs (plc xs (mkCls p) xs.length) p
/-- addFolded -/
def foldPt (cap : Nat) (xs : List Int32) (p : Int32) : List Int32 :=
  if p - 192 < 0 then inOrd cap xs (smA p) else if nI 64 ≤ p - 192 then inOrd cap xs (smA p) else if kch 0 (p - 192).toNatClampNeg = 95 then inOrd cap xs (smA p)
  else inOrd cap (inOrd cap xs (smA (kch 0 (p - 192).toNatClampNeg))) (768 + kstep (p - 192).toNatClampNeg)
/-- foldInto, n places from i on -/
def fldN (cap : Nat) (ys : List Int32) (t : Nat) : Nat → Nat → List Int32 → List Int32
  | 0, _, acc => acc
  | n + 1, i, acc => fldN cap ys t n (i + 1) (if ptC ys i t = -1 then acc else foldPt cap acc (ptC ys i t))
theorem fldN_s {cap : Nat} {ys : List Int32} {t i : Nat} {acc : List Int32} (h : i < t) : fldN cap ys t (t - i) i acc = fldN cap ys t (t - (i + 1)) (i + 1) (if ptC ys i t = -1 then acc else foldPt cap acc (ptC ys i t)) := by
  rw [show t - i = (t - (i + 1)) + 1 by omega, fldN]
theorem Ch.rf {w : Me} {r b : Nat} : Ch w w r b := fun _ _ _ => rfl
theorem Ch.tr {w w1 w2 : Me} {r b : Nat} (h1 : Ch w w1 r b) (h2 : Ch w1 w2 r b) : Ch w w2 r b := fun q a c => (h2 q a c).trans (h1 q a c)
theorem Ch.rw {G : me_G} {w w' : Me} {r b r2 b2 cap : Nat} {ys : List Int32} (h : Ch w w' r b) (hR : Rw G w r2 b2 cap ys) (n1 : r2 ≠ r) (n2 : r2 ≠ b) (n3 : b2 ≠ r) (n4 : b2 ≠ b) : Rw G w' r2 b2 cap ys := hR.of (h r2 n1 n2) (h b2 n3 n4)
end
section
set_option maxHeartbeats 4000000 in
set_option maxRecDepth 100000 in
/-- markStep(i), within the text -/
theorem c_X0_markStep (l : Launch) (G : me_G) (B0 : Nat) (w : Me) (i : Nat) (hi64 : i < 64) : CtWI l yX0_markStep (Cond.code yX0_markStep cX0_markStep 2 (some .int)) ({ frames := 4, cells := 0, slots := 0, locals := 85 }) G B0 w [.int (nI i)] (fun z w' => z = kstep i ∧ w' = w) 0 0 := by
  refine Met.ofW (cc := cX0_markStep) (maxL := 2) (ret := (some .int)) (by decide) rfl ?_
  intro p e s m args below meth c s₁ B hml hv
  obtain ⟨rfl, hK, hP, hKq, hBs⟩ := hv
  have hts := fun w h => atoms_spec (ws := Cond.code yX0_markStep cX0_markStep 2 (some .int) :: tbG) B.pre w (List.mem_cons_of_mem _ h)
  have hown : s.vm.findClass RX0 = some m.cls := findClass_of_methodNamed B.named
  have C0 : Cx G B0 p s m _ c cX0_markStep RX0 := ⟨B.exec, B.bytes, hown, hts, hK, hKq, hBs⟩
  have hS : va_S (me_A B0) s.heap s.heap [] := va_S.rf
  have hl := lv_entry ([.int (nI i)]) (n := 2) (Nat.le_of_ble_eq_true rfl)
  rw [lg_entry_eq]
  generalize (lg_sl ([.int (nI i)]) ++ List.replicate (2 - (lg_sl ([.int (nI i)])).length) Slot.unset).toArray = ls at hl ⊢
  have hl : lv_has ls 2 [(0, .int (nI i))] := hl
  refine lv_iload_n C0.1 C0.2.1 dX0_markStep_0 rfl (lv_at hl 0 rfl) ?_
  refine lv_if_lt (tgt := 13) C0.1 C0.2.1 dX0_markStep_1 (by decide) (fun c1 => ?_) (fun c1 => ?_)
  · have d1 : i < 0 := (nI_ltI (a := i) (b := 0) (by omega) (by omega)).mp c1
    exact absurd c1 (nI_pos (by omega))
  · have d1 : 0 ≤ i := Nat.not_lt.mp (fun h => c1 (nI_lt (a := i) (b := 0) h (by omega)))
    refine lv_iload_n C0.1 C0.2.1 dX0_markStep_4 rfl (lv_at hl 0 rfl) ?_
    refine va_ldcS C0.1 C0.2.1 C0.2.2.1 hKq.2.1.2.1 dX0_markStep_5 ?_
    refine me_cVk (n := 0) C0 hml hP hS (c_J0_length l G B0 w 1 (by decide)) ⟨kw_179, kw_42, kw_176, ⟨by decide, by decide, by decide +kernel⟩, ⟨rfl, rfl⟩, ⟨Nat.le_of_ble_eq_true rfl, Nat.le_of_ble_eq_true rfl⟩⟩ kw_177 kw_178 (vk_recv hKq.1 (by decide) hS) rfl hl.1 rfl (Nat.le_of_ble_eq_true rfl) ⟨Nat.le_of_ble_eq_true rfl, Nat.le_of_ble_eq_true rfl⟩ dX0_markStep_7 (fun r2 hr2 => ?_)
    have hr2 : r2 = nI 64 := hr2
    subst hr2
    refine lv_icmp_lt (tgt := 15) C0.1 C0.2.1 dX0_markStep_10 (by decide) (fun c3 => ?_) (fun c3 => ?_)
    · have d3 : i < 64 := (nI_ltI (a := i) (b := 64) (by omega) (by omega)).mp c3
      refine va_ldcS C0.1 C0.2.1 C0.2.2.1 hKq.2.1.2.1 dX0_markStep_15 ?_
      refine lv_iload_n C0.1 C0.2.1 dX0_markStep_17 rfl (lv_at hl 0 rfl) ?_
      refine me_cVkw (n := 1) C0 hml hP hS (c_J0_charAt l G B0 w 1 (by decide) i (by show i < 64; omega)) ⟨kw_189, kw_42, kw_186, ⟨by decide, by decide, by decide +kernel⟩, ⟨rfl, rfl⟩, ⟨Nat.le_of_ble_eq_true rfl, Nat.le_of_ble_eq_true rfl⟩⟩ kw_187 kw_188 (vk_recv hKq.1 (by decide) hS) rfl hl.1 rfl (Nat.le_of_ble_eq_true rfl) ⟨Nat.le_of_ble_eq_true rfl, Nat.le_of_ble_eq_true rfl⟩ dX0_markStep_18 (fun r4 w4 H locs hw4 hP hS => ?_)
      obtain ⟨hzr4, hyr4⟩ := hw4
      rw [hyr4] at hP
      subst hzr4
      refine lv_bipush (v := 48) C0.1 C0.2.1 dX0_markStep_21 (by decide) ?_
      refine lv_isub C0.1 C0.2.1 dX0_markStep_23 ?_
      refine lv_istore_n (lv' := [(1, .int ((kch 1 i) - 48)), (0, .int (nI i))]) C0.1 C0.2.1 dX0_markStep_24 rfl hl (by decide) rfl (fun ls hl => ?_)
      refine lv_iload_n C0.1 C0.2.1 dX0_markStep_25 rfl (lv_at hl 0 rfl) ?_
      refine lv_if_lt (tgt := 37) C0.1 C0.2.1 dX0_markStep_26 (by decide) (fun c5 => ?_) (fun c5 => ?_)
      · refine lv_iconst (v := 0) C0.1 C0.2.1 dX0_markStep_37 (by decide) ?_
        refine lv_goto (tgt := 46) C0.1 C0.2.1 dX0_markStep_38 (by decide) ?_
        exact me_wiret _ C0.1 C0.2.1 B.returns B.notSynchronized hP hS (Nat.le_of_ble_eq_true rfl) (Nat.le_of_ble_eq_true rfl) (⟨by unfold kstep; rw [if_pos c5], rfl⟩) dX0_markStep_46
      · refine lv_iload_n C0.1 C0.2.1 dX0_markStep_29 rfl (lv_at hl 0 rfl) ?_
        refine va_gets C0.1 C0.2.1 hKq.2.2.1.1 hS C0.2.2.1 (C0.2.2.2.1 _ kw_249) (fun _ h => h) dX0_markStep_30 ?_
        refine va_tlen C0.1 C0.2.1 hKq.2.2.1.2 hS (v := nI 7) rfl dX0_markStep_33 ?_
        refine lv_icmp_lt (tgt := 41) C0.1 C0.2.1 dX0_markStep_34 (by decide) (fun c6 => ?_) (fun c6 => ?_)
        · refine va_gets C0.1 C0.2.1 hKq.2.2.1.1 hS C0.2.2.1 (C0.2.2.2.1 _ kw_249) (fun _ h => h) dX0_markStep_41 ?_
          refine lv_iload_n C0.1 C0.2.1 dX0_markStep_44 rfl (lv_at hl 0 rfl) ?_
          refine va_ti C0.1 C0.2.1 hKq.2.2.1.2 hS (ix_lt (n := 7) c5 c6 (Nat.le_refl 7) (by omega)) (v := .int (kq_steps.getD ((kch 1 i) - 48).toNatClampNeg 0)) rfl dX0_markStep_45 ?_
          exact me_wiret _ C0.1 C0.2.1 B.returns B.notSynchronized hP hS (Nat.le_of_ble_eq_true rfl) (Nat.le_of_ble_eq_true rfl) (⟨by unfold kstep; rw [if_neg c5, if_pos c6], rfl⟩) dX0_markStep_46
        · refine lv_iconst (v := 0) C0.1 C0.2.1 dX0_markStep_37 (by decide) ?_
          refine lv_goto (tgt := 46) C0.1 C0.2.1 dX0_markStep_38 (by decide) ?_
          exact me_wiret _ C0.1 C0.2.1 B.returns B.notSynchronized hP hS (Nat.le_of_ble_eq_true rfl) (Nat.le_of_ble_eq_true rfl) (⟨by unfold kstep; rw [if_neg c5, if_neg c6], rfl⟩) dX0_markStep_46
    · have d3 : 64 ≤ i := Nat.not_lt.mp (fun h => c3 (nI_lt (a := i) (b := 64) h (by omega)))
      exact absurd d3 (by omega)

set_option maxHeartbeats 4000000 in
set_option maxRecDepth 100000 in
/-- addInOrder(point) -/
theorem c_X0_addInOrder (l : Launch) (G : me_G) (B0 : Nat) (w : Me) (r b cap : Nat) (xs : List Int32) (hR : Rw G w r b cap xs) (hBr : B0 ≤ r) (hBb : B0 ≤ b) (p0 : Int32) : CtWV l yX0_addInOrder (Cond.code yX0_addInOrder cX0_addInOrder 4 none) ({ frames := 1, cells := 0, slots := 0, locals := 23 }) G B0 w [.ref r, .int p0] (fun w' => Rw G w' r b cap (inOrd cap xs p0) ∧ Ch w w' r b) 0 0 := by
  refine Met.ofW (cc := cX0_addInOrder) (maxL := 4) (ret := none) (by decide) rfl ?_
  intro p e s m args below meth c s₁ B hml hv
  obtain ⟨rfl, hK, hP, hKq, hBs⟩ := hv
  have hts := fun w h => atoms_spec (ws := Cond.code yX0_addInOrder cX0_addInOrder 4 none :: tbG) B.pre w (List.mem_cons_of_mem _ h)
  have hown : s.vm.findClass RX0 = some m.cls := findClass_of_methodNamed B.named
  have C0 : Cx G B0 p s m _ c cX0_addInOrder RX0 := ⟨B.exec, B.bytes, hown, hts, hK, hKq, hBs⟩
  have hS : va_S (me_A B0) s.heap s.heap [] := va_S.rf
  have hl := lv_entry ([.ref r, .int p0]) (n := 4) (Nat.le_of_ble_eq_true rfl)
  rw [lg_entry_eq]
  generalize (lg_sl ([.ref r, .int p0]) ++ List.replicate (4 - (lg_sl ([.ref r, .int p0])).length) Slot.unset).toArray = ls at hl ⊢
  have hl : lv_has ls 4 [(0, .ref r), (1, .int p0)] := hl
  have hlen := hR.len
  refine lv_iload_n C0.1 C0.2.1 dX0_addInOrder_0 rfl (lv_at hl 1 rfl) ?_
  refine me_cSi (n := 1) C0 hml hP hS (c_X0_markClass l G B0 w p0) ⟨kw_238, kw_41, kw_236, ⟨by decide, by decide, by decide +kernel⟩, ⟨rfl, rfl⟩, ⟨Nat.le_of_ble_eq_true rfl, Nat.le_of_ble_eq_true rfl⟩⟩ kw_237 rfl hl.1 rfl (Nat.le_of_ble_eq_true rfl) ⟨Nat.le_of_ble_eq_true rfl, Nat.le_of_ble_eq_true rfl⟩ dX0_addInOrder_1 (fun r1 hr1 => ?_)
  subst hr1
  refine lv_istore_n (lv' := [(2, .int (mkCls p0)), (0, .ref r), (1, .int p0)]) C0.1 C0.2.1 dX0_addInOrder_4 rfl hl (by decide) rfl (fun ls hl => ?_)
  refine lv_aload_n C0.1 C0.2.1 dX0_addInOrder_5 rfl (lv_at hl 1 rfl) ?_
  refine me_cVi (n := 0) C0 hml hP hS (c_X2_size l G B0 w r b cap xs hR) ⟨kw_141, kw_32, kw_239, ⟨by decide, by decide, by decide +kernel⟩, ⟨rfl, rfl⟩, ⟨Nat.le_of_ble_eq_true rfl, Nat.le_of_ble_eq_true rfl⟩⟩ kw_139 kw_140 hR.1 rfl rfl hl.1 rfl (Nat.le_of_ble_eq_true rfl) ⟨Nat.le_of_ble_eq_true rfl, Nat.le_of_ble_eq_true rfl⟩ dX0_addInOrder_6 (fun r2 hr2 => ?_)
  subst hr2
  refine lv_istore_n (lv' := [(3, .int (nI xs.length)), (2, .int (mkCls p0)), (0, .ref r), (1, .int p0)]) C0.1 C0.2.1 dX0_addInOrder_9 rfl hl (by decide) rfl (fun ls hl => ?_)
  have loop10 : ∀ (n : Nat) (i : Nat), (i ≤ xs.length) → (plc xs (mkCls p0) xs.length = plc xs (mkCls p0) i) → i < n → ∀ (ls : Array Slot), lv_has ls 4 [(3, .int (nI i)), (2, .int (mkCls p0)), (0, .ref r), (1, .int p0)] → W p l e ({ frames := 1, cells := 0, slots := 0, locals := 23 }) s m ([.ref r, .int p0] : List Value).toArray below meth c s.heap [] 0 0 (MQ below (va_Qv (fun w' => Rw G w' r b cap (inOrd cap xs p0) ∧ Ch w w' r b) (me_W G) (me_A B0)) ([.ref r, .int p0] : List Value).toArray s 0 0 (me_A B0)) (F0 m 10 ls []) := by
    intro n
    induction n with
    | zero => intro i _ _ hz; exact absurd hz (Nat.not_lt_zero _)
    | succ n ih10 =>
      intro i hil hpl hn10  ls  hl
      refine lv_iload_n C0.1 C0.2.1 dX0_addInOrder_10 rfl (lv_at hl 1 rfl) ?_
      refine lv_if_le (tgt := 38) C0.1 C0.2.1 dX0_addInOrder_11 (by decide) (fun c3 => ?_) (fun c3 => ?_)
      · refine lv_aload_n C0.1 C0.2.1 dX0_addInOrder_38 rfl (lv_at hl 2 rfl) ?_
        refine lv_iload_n C0.1 C0.2.1 dX0_addInOrder_39 rfl (lv_at hl 0 rfl) ?_
        refine lv_iload_n C0.1 C0.2.1 dX0_addInOrder_40 rfl (lv_at hl 3 rfl) ?_
        refine me_cVwv (n := 2) C0 hml hP hS (c_X2_insert l G B0 w r b cap xs hR hBr hBb i (by omega) p0) ⟨kw_244, kw_32, kw_241, ⟨by decide, by decide, by decide +kernel⟩, ⟨rfl, rfl⟩, ⟨Nat.le_of_ble_eq_true rfl, Nat.le_of_ble_eq_true rfl⟩⟩ kw_242 kw_243 hR.1 rfl rfl hl.1 rfl (Nat.le_of_ble_eq_true rfl) ⟨Nat.le_of_ble_eq_true rfl, Nat.le_of_ble_eq_true rfl⟩ dX0_addInOrder_41 (fun w4 H locs hw4 hP hS => ?_)
        exact me_wvret _ C0.1 C0.2.1 B.returns B.notSynchronized hP hS (Nat.le_of_ble_eq_true rfl) (Nat.le_of_ble_eq_true rfl) (by have he : i = plc xs (mkCls p0) xs.length := (hpl.trans (plc_own c3 i)).symm; unfold inOrd; rw [← he]; exact hw4) dX0_addInOrder_44
      · refine lv_iload_n C0.1 C0.2.1 dX0_addInOrder_14 rfl (lv_at hl 0 rfl) ?_
        refine lv_if_le (tgt := 38) C0.1 C0.2.1 dX0_addInOrder_15 (by decide) (fun c5 => ?_) (fun c5 => ?_)
        · have d5 : i ≤ 0 := (nI_leI (a := i) (b := 0) (by omega) (by omega)).mp c5
          refine lv_aload_n C0.1 C0.2.1 dX0_addInOrder_38 rfl (lv_at hl 2 rfl) ?_
          refine lv_iload_n C0.1 C0.2.1 dX0_addInOrder_39 rfl (lv_at hl 0 rfl) ?_
          refine lv_iload_n C0.1 C0.2.1 dX0_addInOrder_40 rfl (lv_at hl 3 rfl) ?_
          refine me_cVwv (n := 2) C0 hml hP hS (c_X2_insert l G B0 w r b cap xs hR hBr hBb i (by omega) p0) ⟨kw_244, kw_32, kw_241, ⟨by decide, by decide, by decide +kernel⟩, ⟨rfl, rfl⟩, ⟨Nat.le_of_ble_eq_true rfl, Nat.le_of_ble_eq_true rfl⟩⟩ kw_242 kw_243 hR.1 rfl rfl hl.1 rfl (Nat.le_of_ble_eq_true rfl) ⟨Nat.le_of_ble_eq_true rfl, Nat.le_of_ble_eq_true rfl⟩ dX0_addInOrder_41 (fun w6 H locs hw6 hP hS => ?_)
          exact me_wvret _ C0.1 C0.2.1 B.returns B.notSynchronized hP hS (Nat.le_of_ble_eq_true rfl) (Nat.le_of_ble_eq_true rfl) (by have he : i = plc xs (mkCls p0) xs.length := (hpl.trans ((show plc xs (mkCls p0) i = i by rw [show i = 0 by omega]; rfl))).symm; unfold inOrd; rw [← he]; exact hw6) dX0_addInOrder_44
        · have d5 : 0 < i := Nat.not_le.mp (fun h => c5 (nI_le (a := i) (b := 0) h (by omega)))
          refine lv_aload_n C0.1 C0.2.1 dX0_addInOrder_18 rfl (lv_at hl 2 rfl) ?_
          refine lv_iload_n C0.1 C0.2.1 dX0_addInOrder_19 rfl (lv_at hl 0 rfl) ?_
          refine lv_iconst (v := 1) C0.1 C0.2.1 dX0_addInOrder_20 (by decide) ?_
          refine lv_isub C0.1 C0.2.1 dX0_addInOrder_21 ?_
          refine me_topi (y := nI (i - 1)) (pk_sub (a := i) (b := 1) (by omega)) ?_
          refine me_cVi (n := 1) C0 hml hP hS (c_X2_at l G B0 w r b cap xs hR (nI (i - 1))) ⟨kw_151, kw_32, kw_240, ⟨by decide, by decide, by decide +kernel⟩, ⟨rfl, rfl⟩, ⟨Nat.le_of_ble_eq_true rfl, Nat.le_of_ble_eq_true rfl⟩⟩ kw_149 kw_150 hR.1 rfl rfl hl.1 rfl (Nat.le_of_ble_eq_true rfl) ⟨Nat.le_of_ble_eq_true rfl, Nat.le_of_ble_eq_true rfl⟩ dX0_addInOrder_22 (fun r7 hr7 => ?_)
          rw [ra_nat (by omega) (by omega)] at hr7
          subst hr7
          refine me_cSi (n := 1) C0 hml hP hS (c_X0_markClass l G B0 w (xs.getD (i - 1) 0)) ⟨kw_238, kw_41, kw_236, ⟨by decide, by decide, by decide +kernel⟩, ⟨rfl, rfl⟩, ⟨Nat.le_of_ble_eq_true rfl, Nat.le_of_ble_eq_true rfl⟩⟩ kw_237 rfl hl.1 rfl (Nat.le_of_ble_eq_true rfl) ⟨Nat.le_of_ble_eq_true rfl, Nat.le_of_ble_eq_true rfl⟩ dX0_addInOrder_25 (fun r8 hr8 => ?_)
          subst hr8
          refine lv_iload_n C0.1 C0.2.1 dX0_addInOrder_28 rfl (lv_at hl 1 rfl) ?_
          refine lv_icmp_le (tgt := 38) C0.1 C0.2.1 dX0_addInOrder_29 (by decide) (fun c9 => ?_) (fun c9 => ?_)
          · refine lv_aload_n C0.1 C0.2.1 dX0_addInOrder_38 rfl (lv_at hl 2 rfl) ?_
            refine lv_iload_n C0.1 C0.2.1 dX0_addInOrder_39 rfl (lv_at hl 0 rfl) ?_
            refine lv_iload_n C0.1 C0.2.1 dX0_addInOrder_40 rfl (lv_at hl 3 rfl) ?_
            refine me_cVwv (n := 2) C0 hml hP hS (c_X2_insert l G B0 w r b cap xs hR hBr hBb i (by omega) p0) ⟨kw_244, kw_32, kw_241, ⟨by decide, by decide, by decide +kernel⟩, ⟨rfl, rfl⟩, ⟨Nat.le_of_ble_eq_true rfl, Nat.le_of_ble_eq_true rfl⟩⟩ kw_242 kw_243 hR.1 rfl rfl hl.1 rfl (Nat.le_of_ble_eq_true rfl) ⟨Nat.le_of_ble_eq_true rfl, Nat.le_of_ble_eq_true rfl⟩ dX0_addInOrder_41 (fun w10 H locs hw10 hP hS => ?_)
            exact me_wvret _ C0.1 C0.2.1 B.returns B.notSynchronized hP hS (Nat.le_of_ble_eq_true rfl) (Nat.le_of_ble_eq_true rfl) (by have he : i = plc xs (mkCls p0) xs.length := (hpl.trans (plc_stop (by omega) c9)).symm; unfold inOrd; rw [← he]; exact hw10) dX0_addInOrder_44
          · refine lv_iinc (v := nI (i - 1)) (lv' := [(3, .int (nI (i - 1))), (2, .int (mkCls p0)), (0, .ref r), (1, .int p0)]) C0.1 C0.2.1 dX0_addInOrder_32 hl (k := 0) rfl (sb_m1 (by omega)) (by decide) rfl (fun ls hl => ?_)
            refine lv_goto (tgt := 10) C0.1 C0.2.1 dX0_addInOrder_35 (by decide) ?_
            exact ih10 (i - 1) (by omega) (by rw [hpl]; exact plc_go (by omega) c3 c9) (by omega) _ (lv_sub hl [0, 1, 2, 3] rfl)
  exact loop10 (xs.length + 1) xs.length (Nat.le_refl _) rfl (Nat.lt_succ_self _) _ (lv_sub hl [0, 1, 2, 3] rfl)

set_option maxHeartbeats 4000000 in
set_option maxRecDepth 100000 in
/-- addFolded(point) -/
theorem c_X0_addFolded (l : Launch) (G : me_G) (B0 : Nat) (w : Me) (r b cap : Nat) (xs : List Int32) (hR : Rw G w r b cap xs) (hBr : B0 ≤ r) (hBb : B0 ≤ b) (x : Int32) : CtWV l yX0_addFolded (Cond.code yX0_addFolded cX0_addFolded 4 none) ({ frames := 5, cells := 0, slots := 0, locals := 106 }) G B0 w [.ref r, .int x] (fun w' => Rw G w' r b cap (foldPt cap xs x) ∧ Ch w w' r b) 0 0 := by
  refine Met.ofW (cc := cX0_addFolded) (maxL := 4) (ret := none) (by decide) rfl ?_
  intro p e s m args below meth c s₁ B hml hv
  obtain ⟨rfl, hK, hP, hKq, hBs⟩ := hv
  have hts := fun w h => atoms_spec (ws := Cond.code yX0_addFolded cX0_addFolded 4 none :: tbG) B.pre w (List.mem_cons_of_mem _ h)
  have hown : s.vm.findClass RX0 = some m.cls := findClass_of_methodNamed B.named
  have C0 : Cx G B0 p s m _ c cX0_addFolded RX0 := ⟨B.exec, B.bytes, hown, hts, hK, hKq, hBs⟩
  have hS : va_S (me_A B0) s.heap s.heap [] := va_S.rf
  have hl := lv_entry ([.ref r, .int x]) (n := 4) (Nat.le_of_ble_eq_true rfl)
  rw [lg_entry_eq]
  generalize (lg_sl ([.ref r, .int x]) ++ List.replicate (4 - (lg_sl ([.ref r, .int x])).length) Slot.unset).toArray = ls at hl ⊢
  have hl : lv_has ls 4 [(0, .ref r), (1, .int x)] := hl
  have hlen := hR.len
  refine lv_iload_n C0.1 C0.2.1 dX0_addFolded_0 rfl (lv_at hl 1 rfl) ?_
  refine lv_sipush (v := 192) C0.1 C0.2.1 dX0_addFolded_1 (by decide) ?_
  refine lv_isub C0.1 C0.2.1 dX0_addFolded_4 ?_
  refine lv_topi (fun z hz => ?_)
  refine lv_istore_n (lv' := [(2, .int z), (0, .ref r), (1, .int x)]) C0.1 C0.2.1 dX0_addFolded_5 rfl hl (by decide) rfl (fun ls hl => ?_)
  refine lv_iload_n C0.1 C0.2.1 dX0_addFolded_6 rfl (lv_at hl 0 rfl) ?_
  refine lv_if_lt (tgt := 34) C0.1 C0.2.1 dX0_addFolded_7 (by decide) (fun c1 => ?_) (fun c1 => ?_)
  · refine lv_iconst (v := 0) C0.1 C0.2.1 dX0_addFolded_34 (by decide) ?_
    refine lv_istore_n (lv' := [(3, .int 0), (2, .int z), (0, .ref r), (1, .int x)]) C0.1 C0.2.1 dX0_addFolded_35 rfl hl (by decide) rfl (fun ls hl => ?_)
    refine lv_iload_n C0.1 C0.2.1 dX0_addFolded_36 rfl (lv_at hl 0 rfl) ?_
    refine lv_if_ne (tgt := 49) C0.1 C0.2.1 dX0_addFolded_37 (by decide) (fun c => absurd c (by decide)) (fun c => ?_)
    refine lv_aload_n C0.1 C0.2.1 dX0_addFolded_40 rfl (lv_at hl 2 rfl) ?_
    refine lv_iload_n C0.1 C0.2.1 dX0_addFolded_41 rfl (lv_at hl 3 rfl) ?_
    refine me_cSi (n := 1) C0 hml hP hS (c_X0_small l G B0 w x) ⟨kw_226, kw_41, kw_224, ⟨by decide, by decide, by decide +kernel⟩, ⟨rfl, rfl⟩, ⟨Nat.le_of_ble_eq_true rfl, Nat.le_of_ble_eq_true rfl⟩⟩ kw_225 rfl hl.1 rfl (Nat.le_of_ble_eq_true rfl) ⟨Nat.le_of_ble_eq_true rfl, Nat.le_of_ble_eq_true rfl⟩ dX0_addFolded_42 (fun r3 hr3 => ?_)
    subst hr3
    refine me_cSwv (n := 2) C0 hml hP hS (c_X0_addInOrder l G B0 w r b cap xs hR hBr hBb (smA x)) ⟨kw_235, kw_41, kw_233, ⟨by decide, by decide, by decide +kernel⟩, ⟨rfl, rfl⟩, ⟨Nat.le_of_ble_eq_true rfl, Nat.le_of_ble_eq_true rfl⟩⟩ kw_234 rfl hl.1 rfl (Nat.le_of_ble_eq_true rfl) ⟨Nat.le_of_ble_eq_true rfl, Nat.le_of_ble_eq_true rfl⟩ dX0_addFolded_45 (fun w4 H locs hw4 hP hS => ?_)
    exact me_wvret _ C0.1 C0.2.1 B.returns B.notSynchronized hP hS (Nat.le_of_ble_eq_true rfl) (Nat.le_of_ble_eq_true rfl) (by unfold foldPt; rw [if_pos (hz ▸ c1)]; exact hw4) dX0_addFolded_48
  · refine lv_iload_n C0.1 C0.2.1 dX0_addFolded_10 rfl (lv_at hl 0 rfl) ?_
    refine va_ldcS C0.1 C0.2.1 C0.2.2.1 hKq.2.1.1 dX0_addFolded_11 ?_
    refine me_cVk (n := 0) C0 hml hP hS (c_J0_length l G B0 w 0 (by decide)) ⟨kw_179, kw_42, kw_176, ⟨by decide, by decide, by decide +kernel⟩, ⟨rfl, rfl⟩, ⟨Nat.le_of_ble_eq_true rfl, Nat.le_of_ble_eq_true rfl⟩⟩ kw_177 kw_178 (vk_recv hKq.1 (by decide) hS) rfl hl.1 rfl (Nat.le_of_ble_eq_true rfl) ⟨Nat.le_of_ble_eq_true rfl, Nat.le_of_ble_eq_true rfl⟩ dX0_addFolded_13 (fun r5 hr5 => ?_)
    have hr5 : r5 = nI 64 := hr5
    subst hr5
    refine lv_icmp_ge (tgt := 34) C0.1 C0.2.1 dX0_addFolded_16 (by decide) (fun c6 => ?_) (fun c6 => ?_)
    · refine lv_iconst (v := 0) C0.1 C0.2.1 dX0_addFolded_34 (by decide) ?_
      refine lv_istore_n (lv' := [(3, .int 0), (2, .int z), (0, .ref r), (1, .int x)]) C0.1 C0.2.1 dX0_addFolded_35 rfl hl (by decide) rfl (fun ls hl => ?_)
      refine lv_iload_n C0.1 C0.2.1 dX0_addFolded_36 rfl (lv_at hl 0 rfl) ?_
      refine lv_if_ne (tgt := 49) C0.1 C0.2.1 dX0_addFolded_37 (by decide) (fun c => absurd c (by decide)) (fun c => ?_)
      refine lv_aload_n C0.1 C0.2.1 dX0_addFolded_40 rfl (lv_at hl 2 rfl) ?_
      refine lv_iload_n C0.1 C0.2.1 dX0_addFolded_41 rfl (lv_at hl 3 rfl) ?_
      refine me_cSi (n := 1) C0 hml hP hS (c_X0_small l G B0 w x) ⟨kw_226, kw_41, kw_224, ⟨by decide, by decide, by decide +kernel⟩, ⟨rfl, rfl⟩, ⟨Nat.le_of_ble_eq_true rfl, Nat.le_of_ble_eq_true rfl⟩⟩ kw_225 rfl hl.1 rfl (Nat.le_of_ble_eq_true rfl) ⟨Nat.le_of_ble_eq_true rfl, Nat.le_of_ble_eq_true rfl⟩ dX0_addFolded_42 (fun r8 hr8 => ?_)
      subst hr8
      refine me_cSwv (n := 2) C0 hml hP hS (c_X0_addInOrder l G B0 w r b cap xs hR hBr hBb (smA x)) ⟨kw_235, kw_41, kw_233, ⟨by decide, by decide, by decide +kernel⟩, ⟨rfl, rfl⟩, ⟨Nat.le_of_ble_eq_true rfl, Nat.le_of_ble_eq_true rfl⟩⟩ kw_234 rfl hl.1 rfl (Nat.le_of_ble_eq_true rfl) ⟨Nat.le_of_ble_eq_true rfl, Nat.le_of_ble_eq_true rfl⟩ dX0_addFolded_45 (fun w9 H locs hw9 hP hS => ?_)
      exact me_wvret _ C0.1 C0.2.1 B.returns B.notSynchronized hP hS (Nat.le_of_ble_eq_true rfl) (Nat.le_of_ble_eq_true rfl) (by unfold foldPt; rw [if_neg (hz ▸ c1), if_pos (hz ▸ c6)]; exact hw9) dX0_addFolded_48
    · obtain ⟨k, hk64, rfl⟩ : ∃ k : Nat, k < 64 ∧ z = nI k := by obtain ⟨h1, h2⟩ := nI_lt_of (n := 64) (by omega) c1 (Int32.not_le.mp c6); exact ⟨_, h1, h2⟩
      have hzk : (x - 192).toNatClampNeg = k := by rw [← hz]; exact nI_clamp (by omega)
      refine va_ldcS C0.1 C0.2.1 C0.2.2.1 hKq.2.1.1 dX0_addFolded_19 ?_
      refine lv_iload_n C0.1 C0.2.1 dX0_addFolded_21 rfl (lv_at hl 0 rfl) ?_
      refine me_cVkw (n := 1) C0 hml hP hS (c_J0_charAt l G B0 w 0 (by decide) k (by show k < 64; omega)) ⟨kw_189, kw_42, kw_186, ⟨by decide, by decide, by decide +kernel⟩, ⟨rfl, rfl⟩, ⟨Nat.le_of_ble_eq_true rfl, Nat.le_of_ble_eq_true rfl⟩⟩ kw_187 kw_188 (vk_recv hKq.1 (by decide) hS) rfl hl.1 rfl (Nat.le_of_ble_eq_true rfl) ⟨Nat.le_of_ble_eq_true rfl, Nat.le_of_ble_eq_true rfl⟩ dX0_addFolded_22 (fun r10 w10 H locs hw10 hP hS => ?_)
      obtain ⟨hzr10, hyr10⟩ := hw10
      rw [hyr10] at hP
      subst hzr10
      refine lv_bipush (v := 95) C0.1 C0.2.1 dX0_addFolded_25 (by decide) ?_
      refine lv_icmp_eq (tgt := 34) C0.1 C0.2.1 dX0_addFolded_27 (by decide) (fun c11 => ?_) (fun c11 => ?_)
      · refine lv_iconst (v := 0) C0.1 C0.2.1 dX0_addFolded_34 (by decide) ?_
        refine lv_istore_n (lv' := [(3, .int 0), (2, .int (nI k)), (0, .ref r), (1, .int x)]) C0.1 C0.2.1 dX0_addFolded_35 rfl hl (by decide) rfl (fun ls hl => ?_)
        refine lv_iload_n C0.1 C0.2.1 dX0_addFolded_36 rfl (lv_at hl 0 rfl) ?_
        refine lv_if_ne (tgt := 49) C0.1 C0.2.1 dX0_addFolded_37 (by decide) (fun c => absurd c (by decide)) (fun c => ?_)
        refine lv_aload_n C0.1 C0.2.1 dX0_addFolded_40 rfl (lv_at hl 2 rfl) ?_
        refine lv_iload_n C0.1 C0.2.1 dX0_addFolded_41 rfl (lv_at hl 3 rfl) ?_
        refine me_cSi (n := 1) C0 hml hP hS (c_X0_small l G B0 w x) ⟨kw_226, kw_41, kw_224, ⟨by decide, by decide, by decide +kernel⟩, ⟨rfl, rfl⟩, ⟨Nat.le_of_ble_eq_true rfl, Nat.le_of_ble_eq_true rfl⟩⟩ kw_225 rfl hl.1 rfl (Nat.le_of_ble_eq_true rfl) ⟨Nat.le_of_ble_eq_true rfl, Nat.le_of_ble_eq_true rfl⟩ dX0_addFolded_42 (fun r13 hr13 => ?_)
        subst hr13
        refine me_cSwv (n := 2) C0 hml hP hS (c_X0_addInOrder l G B0 w r b cap xs hR hBr hBb (smA x)) ⟨kw_235, kw_41, kw_233, ⟨by decide, by decide, by decide +kernel⟩, ⟨rfl, rfl⟩, ⟨Nat.le_of_ble_eq_true rfl, Nat.le_of_ble_eq_true rfl⟩⟩ kw_234 rfl hl.1 rfl (Nat.le_of_ble_eq_true rfl) ⟨Nat.le_of_ble_eq_true rfl, Nat.le_of_ble_eq_true rfl⟩ dX0_addFolded_45 (fun w14 H locs hw14 hP hS => ?_)
        exact me_wvret _ C0.1 C0.2.1 B.returns B.notSynchronized hP hS (Nat.le_of_ble_eq_true rfl) (Nat.le_of_ble_eq_true rfl) (by unfold foldPt; rw [if_neg (hz ▸ c1), if_neg (hz ▸ c6), if_pos (by rw [hzk]; exact c11)]; exact hw14) dX0_addFolded_48
      · refine lv_iconst (v := 1) C0.1 C0.2.1 dX0_addFolded_30 (by decide) ?_
        refine lv_goto (tgt := 35) C0.1 C0.2.1 dX0_addFolded_31 (by decide) ?_
        refine lv_istore_n (lv' := [(3, .int 1), (2, .int (nI k)), (0, .ref r), (1, .int x)]) C0.1 C0.2.1 dX0_addFolded_35 rfl hl (by decide) rfl (fun ls hl => ?_)
        refine lv_iload_n C0.1 C0.2.1 dX0_addFolded_36 rfl (lv_at hl 0 rfl) ?_
        refine lv_if_ne (tgt := 49) C0.1 C0.2.1 dX0_addFolded_37 (by decide) (fun c => ?_) (fun c => absurd c (by decide))
        refine lv_aload_n C0.1 C0.2.1 dX0_addFolded_49 rfl (lv_at hl 2 rfl) ?_
        refine va_ldcS C0.1 C0.2.1 C0.2.2.1 hKq.2.1.1 dX0_addFolded_50 ?_
        refine lv_iload_n C0.1 C0.2.1 dX0_addFolded_52 rfl (lv_at hl 1 rfl) ?_
        refine me_cVkw (n := 1) C0 hml hP hS (c_J0_charAt l G B0 w 0 (by decide) k (by show k < 64; omega)) ⟨kw_189, kw_42, kw_186, ⟨by decide, by decide, by decide +kernel⟩, ⟨rfl, rfl⟩, ⟨Nat.le_of_ble_eq_true rfl, Nat.le_of_ble_eq_true rfl⟩⟩ kw_187 kw_188 (vk_recv hKq.1 (by decide) hS) rfl hl.1 rfl (Nat.le_of_ble_eq_true rfl) ⟨Nat.le_of_ble_eq_true rfl, Nat.le_of_ble_eq_true rfl⟩ dX0_addFolded_53 (fun r16 w16 H locs hw16 hP hS => ?_)
        obtain ⟨hzr16, hyr16⟩ := hw16
        rw [hyr16] at hP
        subst hzr16
        refine me_cSi (n := 1) C0 hml hP hS (c_X0_small l G B0 w (kch 0 k)) ⟨kw_226, kw_41, kw_224, ⟨by decide, by decide, by decide +kernel⟩, ⟨rfl, rfl⟩, ⟨Nat.le_of_ble_eq_true rfl, Nat.le_of_ble_eq_true rfl⟩⟩ kw_225 rfl hl.1 rfl (Nat.le_of_ble_eq_true rfl) ⟨Nat.le_of_ble_eq_true rfl, Nat.le_of_ble_eq_true rfl⟩ dX0_addFolded_56 (fun r17 hr17 => ?_)
        subst hr17
        refine me_cSwv (n := 2) C0 hml hP hS (c_X0_addInOrder l G B0 w r b cap xs hR hBr hBb (smA (kch 0 k))) ⟨kw_235, kw_41, kw_233, ⟨by decide, by decide, by decide +kernel⟩, ⟨rfl, rfl⟩, ⟨Nat.le_of_ble_eq_true rfl, Nat.le_of_ble_eq_true rfl⟩⟩ kw_234 rfl hl.1 rfl (Nat.le_of_ble_eq_true rfl) ⟨Nat.le_of_ble_eq_true rfl, Nat.le_of_ble_eq_true rfl⟩ dX0_addFolded_59 (fun w18 H locs hw18 hP hS => ?_)
        refine lv_aload_n C0.1 C0.2.1 dX0_addFolded_62 rfl (lv_at hl 2 rfl) ?_
        refine lv_sipush (v := 768) C0.1 C0.2.1 dX0_addFolded_63 (by decide) ?_
        refine lv_iload_n C0.1 C0.2.1 dX0_addFolded_66 rfl (lv_at hl 1 rfl) ?_
        refine me_cSwi (n := 1) C0 hml hP hS (c_X0_markStep l G B0 w18 k hk64) ⟨kw_247, kw_41, kw_245, ⟨by decide, by decide, by decide +kernel⟩, ⟨rfl, rfl⟩, ⟨Nat.le_of_ble_eq_true rfl, Nat.le_of_ble_eq_true rfl⟩⟩ kw_246 rfl hl.1 rfl (Nat.le_of_ble_eq_true rfl) ⟨Nat.le_of_ble_eq_true rfl, Nat.le_of_ble_eq_true rfl⟩ dX0_addFolded_67 (fun r19 w19 H locs hw19 hP hS => ?_)
        obtain ⟨hzr19, hyr19⟩ := hw19
        rw [hyr19] at hP
        subst hzr19
        refine lv_iadd C0.1 C0.2.1 dX0_addFolded_70 ?_
        refine me_cSwv (n := 2) C0 hml hP hS (c_X0_addInOrder l G B0 w18 r b cap _ hw18.1 hBr hBb (768 + (kstep k))) ⟨kw_235, kw_41, kw_233, ⟨by decide, by decide, by decide +kernel⟩, ⟨rfl, rfl⟩, ⟨Nat.le_of_ble_eq_true rfl, Nat.le_of_ble_eq_true rfl⟩⟩ kw_234 rfl hl.1 rfl (Nat.le_of_ble_eq_true rfl) ⟨Nat.le_of_ble_eq_true rfl, Nat.le_of_ble_eq_true rfl⟩ dX0_addFolded_71 (fun w20 H locs hw20 hP hS => ?_)
        exact me_wvret _ C0.1 C0.2.1 B.returns B.notSynchronized hP hS (Nat.le_of_ble_eq_true rfl) (Nat.le_of_ble_eq_true rfl) (by unfold foldPt; rw [if_neg (hz ▸ c1), if_neg (hz ▸ c6), if_neg (by rw [hzk]; exact c11), hzk]; exact ⟨hw20.1, hw18.2.tr hw20.2⟩) dX0_addFolded_74

set_option maxHeartbeats 4000000 in
set_option maxRecDepth 100000 in
/-- foldInto -/
theorem c_X0_foldInto (l : Launch) (G : me_G) (B0 : Nat) (w : Me) (r b cap : Nat) (xs : List Int32) (hR : Rw G w r b cap xs) (r2 b2 cap2 : Nat) (ys : List Int32) (hR2 : Rw G w r2 b2 cap2 ys) (n1 : r2 ≠ r) (n2 : r2 ≠ b) (n3 : b2 ≠ r) (n4 : b2 ≠ b) (hBr : B0 ≤ r) (hBb : B0 ≤ b) (f t : Nat) (hft : f ≤ t) (ht : t ≤ ys.length) : CtWV l yX0_foldInto (Cond.code yX0_foldInto cX0_foldInto 6 none) ({ frames := 6, cells := 0, slots := 0, locals := 129 }) G B0 w [.ref r, .ref r2, .int (nI f), .int (nI t)] (fun w' => Rw G w' r b cap (fldN cap ys t (t - f) f []) ∧ Ch w w' r b) 0 0 := by
  refine Met.ofW (cc := cX0_foldInto) (maxL := 6) (ret := none) (by decide) rfl ?_
  intro p e s m args below meth c s₁ B hml hv
  obtain ⟨rfl, hK, hP, hKq, hBs⟩ := hv
  have hts := fun w h => atoms_spec (ws := Cond.code yX0_foldInto cX0_foldInto 6 none :: tbG) B.pre w (List.mem_cons_of_mem _ h)
  have hown : s.vm.findClass RX0 = some m.cls := findClass_of_methodNamed B.named
  have C0 : Cx G B0 p s m _ c cX0_foldInto RX0 := ⟨B.exec, B.bytes, hown, hts, hK, hKq, hBs⟩
  have hS : va_S (me_A B0) s.heap s.heap [] := va_S.rf
  have hl := lv_entry ([.ref r, .ref r2, .int (nI f), .int (nI t)]) (n := 6) (Nat.le_of_ble_eq_true rfl)
  rw [lg_entry_eq]
  generalize (lg_sl ([.ref r, .ref r2, .int (nI f), .int (nI t)]) ++ List.replicate (6 - (lg_sl ([.ref r, .ref r2, .int (nI f), .int (nI t)])).length) Slot.unset).toArray = ls at hl ⊢
  have hl : lv_has ls 6 [(0, .ref r), (1, .ref r2), (2, .int (nI f)), (3, .int (nI t))] := hl
  have hlen := hR2.len
  refine lv_aload_n C0.1 C0.2.1 dX0_foldInto_0 rfl (lv_at hl 0 rfl) ?_
  refine me_cVwv (n := 0) C0 hml hP hS (c_X2_clear l G B0 w r b cap xs hR hBr hBb) ⟨kw_117, kw_32, kw_170, ⟨by decide, by decide, by decide +kernel⟩, ⟨rfl, rfl⟩, ⟨Nat.le_of_ble_eq_true rfl, Nat.le_of_ble_eq_true rfl⟩⟩ kw_115 kw_116 hR.1 rfl rfl hl.1 rfl (Nat.le_of_ble_eq_true rfl) ⟨Nat.le_of_ble_eq_true rfl, Nat.le_of_ble_eq_true rfl⟩ dX0_foldInto_1 (fun w1 H locs hw1 hP hS => ?_)
  refine lv_iload_n C0.1 C0.2.1 dX0_foldInto_4 rfl (lv_at hl 2 rfl) ?_
  refine lv_istore (lv' := [(4, .int (nI f)), (0, .ref r), (1, .ref r2), (2, .int (nI f)), (3, .int (nI t))]) C0.1 C0.2.1 dX0_foldInto_5 hl (by decide) rfl (fun ls hl => ?_)
  have loop7 : ∀ (n : Nat) (i : Nat) (acc : List Int32) (w1 : Me), (f ≤ i) → (i ≤ t) → (Rw G w1 r b cap acc) → (Ch w w1 r b) → (fldN cap ys t (t - f) f [] = fldN cap ys t (t - i) i acc) → (t - i) < n → ∀ (H : Heap) (locs : List Loc), ∀ (ls : Array Slot), me_P G.1 w1 H → va_S (me_A B0) s.heap H locs → lv_has ls 6 [(4, .int (nI i)), (0, .ref r), (1, .ref r2), (2, .int (nI f)), (3, .int (nI t))] → W p l e ({ frames := 6, cells := 0, slots := 0, locals := 129 }) s m ([.ref r, .ref r2, .int (nI f), .int (nI t)] : List Value).toArray below meth c H locs 0 0 (MQ below (va_Qv (fun w' => Rw G w' r b cap (fldN cap ys t (t - f) f []) ∧ Ch w w' r b) (me_W G) (me_A B0)) ([.ref r, .ref r2, .int (nI f), .int (nI t)] : List Value).toArray s 0 0 (me_A B0)) (F0 m 7 ls []) := by
    intro n
    induction n with
    | zero => intro i acc w1 _ _ _ _ _ hz; exact absurd hz (Nat.not_lt_zero _)
    | succ n ih7 =>
      intro i acc w1 hif hit hR1 hC1 hfl hn7 H locs ls hP hS hl
      have hR2' := hC1.rw hR2 n1 n2 n3 n4
      refine lv_iload C0.1 C0.2.1 dX0_foldInto_7 (lv_at hl 0 rfl) ?_
      refine lv_iload_n C0.1 C0.2.1 dX0_foldInto_9 rfl (lv_at hl 4 rfl) ?_
      refine lv_icmp_ge (tgt := 40) C0.1 C0.2.1 dX0_foldInto_10 (by decide) (fun c2 => ?_) (fun c2 => ?_)
      · have d2 : t ≤ i := (nI_leI (a := t) (b := i) (by omega) (by omega)).mp c2
        exact me_wvret _ C0.1 C0.2.1 B.returns B.notSynchronized hP hS (Nat.le_of_ble_eq_true rfl) (Nat.le_of_ble_eq_true rfl) (by rw [hfl, show t - i = 0 by omega]; exact ⟨hR1, hC1⟩) dX0_foldInto_40
      · have d2 : i < t := Nat.not_le.mp (fun h => c2 (nI_le (a := t) (b := i) h (by omega)))
        refine lv_aload_n C0.1 C0.2.1 dX0_foldInto_13 rfl (lv_at hl 2 rfl) ?_
        refine lv_iload C0.1 C0.2.1 dX0_foldInto_14 (lv_at hl 0 rfl) ?_
        refine lv_iload_n C0.1 C0.2.1 dX0_foldInto_16 rfl (lv_at hl 4 rfl) ?_
        refine me_cSi (n := 3) C0 hml hP hS (c_X3_pointAt l G B0 w1 r2 b2 cap2 ys hR2' i t (by omega) ht) ⟨kw_147, kw_40, kw_171, ⟨by decide, by decide, by decide +kernel⟩, ⟨rfl, rfl⟩, ⟨Nat.le_of_ble_eq_true rfl, Nat.le_of_ble_eq_true rfl⟩⟩ kw_146 rfl hl.1 rfl (Nat.le_of_ble_eq_true rfl) ⟨Nat.le_of_ble_eq_true rfl, Nat.le_of_ble_eq_true rfl⟩ dX0_foldInto_17 (fun r3 hr3 => ?_)
        refine lv_istore (lv' := [(5, .int r3), (4, .int (nI i)), (0, .ref r), (1, .ref r2), (2, .int (nI f)), (3, .int (nI t))]) C0.1 C0.2.1 dX0_foldInto_20 hl (by decide) rfl (fun ls hl => ?_)
        refine lv_iload C0.1 C0.2.1 dX0_foldInto_22 (lv_at hl 0 rfl) ?_
        refine lv_iconst (v := (-1)) C0.1 C0.2.1 dX0_foldInto_24 (by decide) ?_
        refine lv_icmp_eq (tgt := 34) C0.1 C0.2.1 dX0_foldInto_25 (by decide) (fun c4 => ?_) (fun c4 => ?_)
        · refine lv_iinc (v := nI (i + 1)) (lv' := [(4, .int (nI (i + 1))), (5, .int r3), (0, .ref r), (1, .ref r2), (2, .int (nI f)), (3, .int (nI t))]) C0.1 C0.2.1 dX0_foldInto_34 hl (k := 1) rfl (nI_add i 1) (by decide) rfl (fun ls hl => ?_)
          refine lv_goto (tgt := 7) C0.1 C0.2.1 dX0_foldInto_37 (by decide) ?_
          exact ih7 (i + 1) _ _ (by omega) (by omega) hR1 hC1 (by rw [hfl, fldN_s (by omega), if_pos (hr3.symm.trans c4)]) (by omega) _ _ _ hP hS (lv_sub hl [0, 2, 3, 4, 5] rfl)
        · refine lv_aload_n C0.1 C0.2.1 dX0_foldInto_28 rfl (lv_at hl 2 rfl) ?_
          refine lv_iload C0.1 C0.2.1 dX0_foldInto_29 (lv_at hl 0 rfl) ?_
          refine me_cSwv (n := 2) C0 hml hP hS (c_X0_addFolded l G B0 w1 r b cap acc hR1 hBr hBb r3) ⟨kw_174, kw_41, kw_172, ⟨by decide, by decide, by decide +kernel⟩, ⟨rfl, rfl⟩, ⟨Nat.le_of_ble_eq_true rfl, Nat.le_of_ble_eq_true rfl⟩⟩ kw_173 rfl hl.1 rfl (Nat.le_of_ble_eq_true rfl) ⟨Nat.le_of_ble_eq_true rfl, Nat.le_of_ble_eq_true rfl⟩ dX0_foldInto_31 (fun w5 H locs hw5 hP hS => ?_)
          refine lv_iinc (v := nI (i + 1)) (lv' := [(4, .int (nI (i + 1))), (5, .int r3), (0, .ref r), (1, .ref r2), (2, .int (nI f)), (3, .int (nI t))]) C0.1 C0.2.1 dX0_foldInto_34 hl (k := 1) rfl (nI_add i 1) (by decide) rfl (fun ls hl => ?_)
          refine lv_goto (tgt := 7) C0.1 C0.2.1 dX0_foldInto_37 (by decide) ?_
          exact ih7 (i + 1) _ _ (by omega) (by omega) hw5.1 (hC1.tr hw5.2) (by rw [hfl, fldN_s (by omega), if_neg (fun h => c4 (hr3.trans h)), ← hr3]) (by omega) _ _ _ hP hS (lv_sub hl [0, 2, 3, 4, 5] rfl)
  exact loop7 (t - f + 1) f [] _ (Nat.le_refl _) hft hw1.1 hw1.2 rfl (Nat.lt_succ_self _) _ _ _ hP hS (lv_sub hl [0, 1, 2, 3, 4] rfl)
end
section
/-! THE REFERENCE: its object o, its arrays a k (k the field's place), what they hold (F k), its numbers (z k) -/
def uF (F : Nat → Nat → Int32) (k : Nat) (f : Nat → Int32) : Nat → Nat → Int32 := fun i => if i = k then f else F i
theorem uF_s {F : Nat → Nat → Int32} {k : Nat} {f : Nat → Int32} : uF F k f k = f := by simp [uF]
theorem uF_n {F : Nat → Nat → Int32} {k i : Nat} {f : Nat → Int32} (h : i ≠ k) : uF F k f i = F i := by simp [uF, h]
def mdN : Nat → Nat
  | 5 => 12000
  | 7 => 12000
  | 9 => 8000
  | 11 => 400
  | 18 => 400
  | _ => 200
def mdE (G : me_G) : Nat → (Nat → Int32) → va_E
  | 2, f => eZ G 200 f
  | 3, f => eZ G 200 f
  | 0, f => eI G 200 f
  | 4, f => eI G 200 f
  | 5, f => eI G 12000 f
  | 6, f => eI G 200 f
  | 7, f => eI G 12000 f
  | 8, f => eI G 200 f
  | 9, f => eI G 8000 f
  | 10, f => eI G 200 f
  | 11, f => eI G 400 f
  | 14, f => eI G 200 f
  | 16, f => eI G 200 f
  | 18, f => eI G 400 f
  | _, f => eI G 200 f
abbrev mdA : List Nat := [0, 2, 3, 4, 5, 6, 7, 8, 9, 10, 11, 14, 16, 18, 20]
abbrev mdI : List Nat := [0, 4, 5, 6, 7, 8, 9, 10, 11, 14, 16, 18, 20]
abbrev mdZ : List Nat := [2, 3]
abbrev mdNum : List Nat := [1, 12, 13, 15, 17, 19]
abbrev mdL (a : Nat → Nat) (z : Nat → Int32) : List Value := [.ref (a 0), .int (z 1), .ref (a 2), .ref (a 3), .ref (a 4), .ref (a 5), .ref (a 6), .ref (a 7), .ref (a 8), .ref (a 9), .ref (a 10), .ref (a 11), .int (z 12), .int (z 13), .ref (a 14), .int (z 15), .ref (a 16), .int (z 17), .ref (a 18), .int (z 19), .ref (a 20)]
def MD (G : me_G) (B : Nat) (w : Me) (o : Nat) (a : Nat → Nat) (F : Nat → Nat → Int32) (z : Nat → Int32) : Prop :=
  w o = some (eO 3 (mdL a z)) ∧ (∀ k ∈ mdA, w (a k) = some (mdE G k (F k))) ∧ (∀ k ∈ mdA, a k ≠ o) ∧ (∀ i ∈ mdA, ∀ j ∈ mdA, a i = a j → i = j) ∧ B ≤ o ∧ ∀ k ∈ mdA, B ≤ a k
/-- nothing but the reference's own cells has changed -/
def MF (w w' : Me) (o : Nat) (a : Nat → Nat) : Prop := ∀ q, q ≠ o → (∀ k ∈ mdA, q ≠ a k) → w' q = w q
theorem MF.rf {w : Me} {o : Nat} {a : Nat → Nat} : MF w w o a := fun _ _ _ => rfl
theorem MF.tr {w w1 w2 : Me} {o : Nat} {a : Nat → Nat} (h1 : MF w w1 o a) (h2 : MF w1 w2 o a) : MF w w2 o a := fun q x y => (h2 q x y).trans (h1 q x y)
theorem mdI_A : ∀ k ∈ mdI, k ∈ mdA := by decide
theorem mdZ_A : ∀ k ∈ mdZ, k ∈ mdA := by decide
theorem mdI_E (G : me_G) (f : Nat → Int32) : ∀ k ∈ mdI, mdE G k f = eI G (mdN k) f := by
  intro k hk
  simp only [mdI, List.mem_cons, List.not_mem_nil, or_false] at hk
  rcases hk with rfl | rfl | rfl | rfl | rfl | rfl | rfl | rfl | rfl | rfl | rfl | rfl | rfl <;> rfl
theorem mdZ_E (G : me_G) (f : Nat → Int32) : ∀ k ∈ mdZ, mdE G k f = eZ G 200 f := by
  intro k hk
  simp only [mdZ, List.mem_cons, List.not_mem_nil, or_false] at hk
  rcases hk with rfl | rfl <;> rfl
theorem MD.seti {G : me_G} {B : Nat} {w : Me} {o : Nat} {a : Nat → Nat} {F : Nat → Nat → Int32} {z : Nat → Int32} (h : MD G B w o a F z) {k : Nat} (hk : k ∈ mdA) (f : Nat → Int32) : MD G B (me_u w (a k) (mdE G k f)) o a (uF F k f) z := by
  obtain ⟨h1, h2, h3, h4, h5, h6⟩ := h
  refine ⟨(me_un (Ne.symm (h3 k hk))).trans h1, fun i hi => ?_, h3, h4, h5, h6⟩
  by_cases e : i = k
  · subst e; rw [me_us, uF_s]
  · rw [me_un (fun q => e (h4 i hi k hk q)), uF_n e]; exact h2 i hi
theorem MD.setz {G : me_G} {B : Nat} {w : Me} {o : Nat} {a : Nat → Nat} {F : Nat → Nat → Int32} {z : Nat → Int32} (h : MD G B w o a F z) (z' : Nat → Int32) : MD G B (me_u w o (eO 3 (mdL a z'))) o a F z' := by
  obtain ⟨h1, h2, h3, h4, h5, h6⟩ := h
  exact ⟨me_us _ _ _, fun i hi => (me_un (h3 i hi)).trans (h2 i hi), h3, h4, h5, h6⟩
section MDR
variable {p : Program} {l : Launch} {e : Env} {R : Room} {s : State} {m : MethodId} {args : Array Value} {below : List Frame} {meth : Method} {c : Code} {H : Heap} {locs : List Loc} {cells slots : Nat} {Q : State → Prop}
variable {cc : ByteArray} {pc : Nat} {ls : Array Slot} {rest : List Value} {G : me_G} {w0 w : Me} {o B : Nat} {a : Nat → Nat} {F : Nat → Nat → Int32} {z : Nat → Int32} {own : String}
theorem md_iald (C0 : Cx G B p s m args c cc own) (hP : me_P G.1 w H) (hM : MD G B w o a F z) (k : Nat) (hk : k ∈ mdI) {i : Nat} (hi : i < mdN k) (hdg : decode cc pc = .ok (.iaload, 1))
    (kk : W p l e R s m args below meth c H locs cells slots Q (F0 m (pc + 1) ls (.int (F k i) :: rest))) : W p l e R s m args below meth c H locs cells slots Q (F0 m pc ls (.int (nI i) :: .ref (a k) :: rest)) :=
  me_ialdN C0 hP ((hM.2.1 k (mdI_A k hk)).trans (by rw [mdI_E G _ k hk])) hi (by have : mdN k ≤ 12000 := (by unfold mdN; split <;> omega); omega) hdg kk
theorem md_zald (C0 : Cx G B p s m args c cc own) (hP : me_P G.1 w H) (hM : MD G B w o a F z) (k : Nat) (hk : k ∈ mdZ) {i : Nat} (hi : i < 200) (hdg : decode cc pc = .ok (.baload, 1))
    (kk : W p l e R s m args below meth c H locs cells slots Q (F0 m (pc + 1) ls (.int (F k i) :: rest))) : W p l e R s m args below meth c H locs cells slots Q (F0 m pc ls (.int (nI i) :: .ref (a k) :: rest)) :=
  me_zaldN C0 hP ((hM.2.1 k (mdZ_A k hk)).trans (by rw [mdZ_E G _ k hk])) hi (by omega) hdg kk
theorem md_iast (C0 : Cx G B p s m args c cc own) (hP : me_P G.1 w H) (hS : va_S (me_A B) s.heap H locs) (hM : MD G B w o a F z) (hF : MF w0 w o a) (k : Nat) (hk : k ∈ mdI) {i : Nat} {x : Int32} (hi : i < mdN k) (hdg : decode cc pc = .ok (.iastore, 1))
    (kk : ∀ (w : Me) (F' : Nat → Nat → Int32) (H : Heap) (locs : List Loc), F' = uF F k (upd (F k) i x) → MD G B w o a F' z → MF w0 w o a → me_P G.1 w H → va_S (me_A B) s.heap H locs → W p l e R s m args below meth c H locs cells slots Q (F0 m (pc + 1) ls rest)) : W p l e R s m args below meth c H locs cells slots Q (F0 m pc ls (.int x :: .int (nI i) :: .ref (a k) :: rest)) := by
  have hA := mdI_A k hk
  refine me_iastN C0 hP hS (hM.2.2.2.2.2 k hA) ((hM.2.1 k hA).trans (by rw [mdI_E G _ k hk])) hi (by have : mdN k ≤ 12000 := (by unfold mdN; split <;> omega); omega) hdg (fun H locs hP hS => ?_)
  have h2 := hM.seti hA (upd (F k) i x)
  rw [mdI_E G _ k hk] at h2
  exact kk _ _ H locs rfl h2 (hF.tr (fun q _ y => me_un (y k hA))) hP hS
theorem md_zast (C0 : Cx G B p s m args c cc own) (hP : me_P G.1 w H) (hS : va_S (me_A B) s.heap H locs) (hM : MD G B w o a F z) (hF : MF w0 w o a) (k : Nat) (hk : k ∈ mdZ) {i : Nat} {x : Int32} (hi : i < 200) (hx : narrow .boolean (.int x) = .int x) (hdg : decode cc pc = .ok (.bastore, 1))
    (kk : ∀ (w : Me) (F' : Nat → Nat → Int32) (H : Heap) (locs : List Loc), F' = uF F k (upd (F k) i x) → MD G B w o a F' z → MF w0 w o a → me_P G.1 w H → va_S (me_A B) s.heap H locs → W p l e R s m args below meth c H locs cells slots Q (F0 m (pc + 1) ls rest)) : W p l e R s m args below meth c H locs cells slots Q (F0 m pc ls (.int x :: .int (nI i) :: .ref (a k) :: rest)) := by
  have hA : k ∈ mdA := mdZ_A k hk
  refine me_zastN C0 hP hS (hM.2.2.2.2.2 k hA) ((hM.2.1 k hA).trans (by rw [mdZ_E G _ k hk])) hi (by omega) hx hdg (fun H locs hP hS => ?_)
  have h2 := hM.seti hA (upd (F k) i x)
  rw [mdZ_E G _ k hk] at h2
  exact kk _ _ H locs rfl h2 (hF.tr (fun q _ y => me_un (y k hA))) hP hS
theorem md_get (C0 : Cx G B p s m args c cc own) (hP : me_P G.1 w H) (hM : MD G B w o a F z) (k : Nat) (hk : k < 21) {index : Nat} (hlink : Cond.fieldLink own index (TX5 k).1 (TX5 k).2.1 (TX5 k).2.2.1 ∈ tbG) {v : Value} (hv : (mdL a z)[k]? = some v) (hdg : decode cc pc = .ok (.getfield index, 3))
    (kk : W p l e R s m args below meth c H locs cells slots Q (F0 m (pc + 3) ls (v :: rest))) : W p l e R s m args below meth c H locs cells slots Q (F0 m pc ls (.ref o :: rest)) :=
  me_get C0 hP hM.1 rfl inX5 k hk hlink hv hdg kk
theorem md_put (C0 : Cx G B p s m args c cc own) (hP : me_P G.1 w H) (hS : va_S (me_A B) s.heap H locs) (hM : MD G B w o a F z) (hF : MF w0 w o a) (k : Nat) (hk : k < 21) {index : Nat} (hlink : Cond.fieldLink own index (TX5 k).1 (TX5 k).2.1 (TX5 k).2.2.1 ∈ tbG) (hfin : (TX5 k).2.2.2 = false) (ht : tyX5 k = .int) {x : Int32} (hset : (mdL a z).set k (.int x) = mdL a (upd z k x)) (hdg : decode cc pc = .ok (.putfield index, 3))
    (kk : ∀ (w : Me) (z' : Nat → Int32) (H : Heap) (locs : List Loc), z' = upd z k x → MD G B w o a F z' → MF w0 w o a → me_P G.1 w H → va_S (me_A B) s.heap H locs → W p l e R s m args below meth c H locs cells slots Q (F0 m (pc + 3) ls rest)) : W p l e R s m args below meth c H locs cells slots Q (F0 m pc ls (.int x :: .ref o :: rest)) := by
  refine me_put C0 hP hS hM.2.2.2.2.1 hM.1 rfl inX5 tyX5 tyX5_ok nmX5 k hk hlink hfin (by rw [ht]; rfl) (by rw [ht]; rfl) hk hdg (fun H locs hP hS => ?_)
  rw [hset] at hP
  exact kk _ _ H locs rfl (hM.setz _) (hF.tr (fun q x _ => me_un x)) hP hS
end MDR
/-- a row of the reference: array ka, its size kz -/
def Ls (F : Nat → Nat → Int32) (z : Nat → Int32) (ka kz cap : Nat) (xs : List Int32) : Prop := z kz = nI xs.length ∧ xs.length ≤ cap ∧ ∀ i, i < xs.length → F ka i = xs.getD i 0
theorem Ls.of {F F' : Nat → Nat → Int32} {z z' : Nat → Int32} {ka kz cap : Nat} {xs : List Int32} (h : Ls F z ka kz cap xs) (h1 : F' ka = F ka) (h2 : z' kz = z kz) : Ls F' z' ka kz cap xs := ⟨h2.trans h.1, h.2.1, fun i hi => (congrFun h1 i).trans (h.2.2 i hi)⟩
theorem Ls.nil {F : Nat → Nat → Int32} {z : Nat → Int32} {ka kz cap : Nat} (h : z kz = 0) : Ls F z ka kz cap [] := ⟨h, Nat.zero_le _, fun i hi => absurd hi (Nat.not_lt_zero i)⟩
/-- all arrays but these, all numbers but these, are as they were -/
def SameF (F F' : Nat → Nat → Int32) (ks : List Nat) : Prop := ∀ k, k ∉ ks → F' k = F k
def SameZ (z z' : Nat → Int32) (ks : List Nat) : Prop := ∀ k, k ∉ ks → z' k = z k
theorem SameF.rf {F : Nat → Nat → Int32} {ks : List Nat} : SameF F F ks := fun _ _ => rfl
theorem SameZ.rf {z : Nat → Int32} {ks : List Nat} : SameZ z z ks := fun _ _ => rfl
theorem SameF.wr {F F1 F2 : Nat → Nat → Int32} {ks : List Nat} {k : Nat} {f : Nat → Int32} (h : SameF F F1 ks) (e : F2 = uF F1 k f) (hk : k ∈ ks) : SameF F F2 ks := fun i hi => by
  have hik : i ≠ k := fun q => hi (by rw [q]; exact hk)
  rw [e, uF_n hik]; exact h i hi
theorem SameZ.wr {z z1 z2 : Nat → Int32} {ks : List Nat} {k : Nat} {x : Int32} (h : SameZ z z1 ks) (e : z2 = upd z1 k x) (hk : k ∈ ks) : SameZ z z2 ks := fun i hi => by
  have hik : i ≠ k := fun q => hi (by rw [q]; exact hk)
  rw [e, upd_ne hik]; exact h i hi
theorem SameF.tr {F F1 F2 : Nat → Nat → Int32} {ks ks1 : List Nat} (h : SameF F F1 ks) (h1 : SameF F1 F2 ks1) (hs : ∀ k ∈ ks1, k ∈ ks) : SameF F F2 ks := fun i hi => (h1 i (fun q => hi (hs i q))).trans (h i hi)
theorem SameZ.tr {z z1 z2 : Nat → Int32} {ks ks1 : List Nat} (h : SameZ z z1 ks) (h1 : SameZ z1 z2 ks1) (hs : ∀ k ∈ ks1, k ∈ ks) : SameZ z z2 ks := fun i hi => (h1 i (fun q => hi (hs i q))).trans (h i hi)
theorem SameF.up {F F1 : Nat → Nat → Int32} {ks ks1 : List Nat} (h : SameF F F1 ks1) (hs : ∀ k ∈ ks1, k ∈ ks) : SameF F F1 ks := fun i hi => h i (fun q => hi (hs i q))
theorem SameZ.up {z z1 : Nat → Int32} {ks ks1 : List Nat} (h : SameZ z z1 ks1) (hs : ∀ k ∈ ks1, k ∈ ks) : SameZ z z1 ks := fun i hi => h i (fun q => hi (hs i q))
end
section
set_option maxHeartbeats 4000000 in
set_option maxRecDepth 100000 in
/-- thrown() -/
theorem c_X5_thrown (l : Launch) (G : me_G) (B0 : Nat) (w : Me) (o : Nat) (a : Nat → Nat) (F : Nat → Nat → Int32) (z : Nat → Int32) (hM : MD G B0 w o a F z) : CtI l yX5_thrown (Cond.code yX5_thrown cX5_thrown 1 (some .int)) ({ frames := 0, cells := 0, slots := 0, locals := 0 }) G B0 w [.ref o] (fun r => r = z 13) := by
  refine Met.ofW (cc := cX5_thrown) (maxL := 1) (ret := (some .int)) (by decide) rfl ?_
  intro p e s m args below meth c s₁ B hml hv
  obtain ⟨rfl, hK, hP, hKq, hBs⟩ := hv
  have hts := fun w h => atoms_spec (ws := Cond.code yX5_thrown cX5_thrown 1 (some .int) :: tbG) B.pre w (List.mem_cons_of_mem _ h)
  have hown : s.vm.findClass RX5 = some m.cls := findClass_of_methodNamed B.named
  have C0 : Cx G B0 p s m _ c cX5_thrown RX5 := ⟨B.exec, B.bytes, hown, hts, hK, hKq, hBs⟩
  have hS : va_S (me_A B0) s.heap s.heap [] := va_S.rf
  have hl := lv_entry ([.ref o]) (n := 1) (Nat.le_of_ble_eq_true rfl)
  rw [lg_entry_eq]
  generalize (lg_sl ([.ref o]) ++ List.replicate (1 - (lg_sl ([.ref o])).length) Slot.unset).toArray = ls at hl ⊢
  have hl : lv_has ls 1 [(0, .ref o)] := hl
  refine lv_aload_n C0.1 C0.2.1 dX5_thrown_0 rfl (lv_at hl 0 rfl) ?_
  refine md_get C0 hP hM 13 (by decide) kw_490 (v := .int (z 13)) rfl dX5_thrown_1 ?_
  exact me_iret C0.1 C0.2.1 B.returns B.notSynchronized rfl rfl (rfl) dX5_thrown_4

set_option maxHeartbeats 4000000 in
set_option maxRecDepth 100000 in
/-- takeTape() -/
theorem c_X5_takeTape (l : Launch) (G : me_G) (B0 : Nat) (w : Me) (o : Nat) (a : Nat → Nat) (F : Nat → Nat → Int32) (z : Nat → Int32) (hM : MD G B0 w o a F z) (T : List Int32) (hT : Ls F z 0 1 200 T) : CtWV l yX5_takeTape (Cond.code yX5_takeTape cX5_takeTape 2 none) ({ frames := 0, cells := 0, slots := 0, locals := 0 }) G B0 w [.ref o] (fun w' => ∃ (F' : Nat → Nat → Int32) (z' : Nat → Int32), MD G B0 w' o a F' z' ∧ MF w w' o a ∧ SameF F F' [14] ∧ SameZ z z' [1, 15] ∧ Ls F' z' 14 15 200 T ∧ Ls F' z' 0 1 200 []) 0 0 := by
  refine Met.ofW (cc := cX5_takeTape) (maxL := 2) (ret := none) (by decide) rfl ?_
  intro p e s m args below meth c s₁ B hml hv
  obtain ⟨rfl, hK, hP, hKq, hBs⟩ := hv
  have hts := fun w h => atoms_spec (ws := Cond.code yX5_takeTape cX5_takeTape 2 none :: tbG) B.pre w (List.mem_cons_of_mem _ h)
  have hown : s.vm.findClass RX5 = some m.cls := findClass_of_methodNamed B.named
  have C0 : Cx G B0 p s m _ c cX5_takeTape RX5 := ⟨B.exec, B.bytes, hown, hts, hK, hKq, hBs⟩
  have hS : va_S (me_A B0) s.heap s.heap [] := va_S.rf
  have hl := lv_entry ([.ref o]) (n := 2) (Nat.le_of_ble_eq_true rfl)
  rw [lg_entry_eq]
  generalize (lg_sl ([.ref o]) ++ List.replicate (2 - (lg_sl ([.ref o])).length) Slot.unset).toArray = ls at hl ⊢
  have hl : lv_has ls 2 [(0, .ref o)] := hl
  have hMF : MF w w o a := MF.rf
  have hTl := hT.2.1
  refine lv_aload_n C0.1 C0.2.1 dX5_takeTape_0 rfl (lv_at hl 0 rfl) ?_
  refine lv_aload_n C0.1 C0.2.1 dX5_takeTape_1 rfl (lv_at hl 0 rfl) ?_
  refine md_get C0 hP hM 1 (by decide) kw_478 (v := .int (nI T.length)) (by show some (Value.int (z 1)) = _; rw [hT.1]) dX5_takeTape_2 ?_
  refine md_put C0 hP hS hM hMF 15 (by decide) kw_492 rfl rfl rfl dX5_takeTape_5 (fun w1 z1 H locs hz1 hM hMF hP hS => ?_)
  have hz1_1 : z1 1 = nI T.length := by rw [hz1, upd_ne (by decide)]; exact hT.1
  have hz1_15 : z1 15 = nI T.length := by rw [hz1, upd_eq]
  refine lv_iconst (v := 0) C0.1 C0.2.1 dX5_takeTape_8 (by decide) ?_
  refine lv_istore_n (lv' := [(1, .int 0), (0, .ref o)]) C0.1 C0.2.1 dX5_takeTape_9 rfl hl (by decide) rfl (fun ls hl => ?_)
  have loop10 : ∀ (n : Nat) (i : Nat) (w1 : Me) (F1 : Nat → Nat → Int32), (i ≤ T.length) → (MD G B0 w1 o a F1 z1) → (MF w w1 o a) → (SameF F F1 [14]) → (∀ q, q < i → F1 14 q = T.getD q 0) → (T.length - i) < n → ∀ (H : Heap) (locs : List Loc), ∀ (ls : Array Slot), me_P G.1 w1 H → va_S (me_A B0) s.heap H locs → lv_has ls 2 [(1, .int (nI i)), (0, .ref o)] → W p l e ({ frames := 0, cells := 0, slots := 0, locals := 0 }) s m ([.ref o] : List Value).toArray below meth c H locs 0 0 (MQ below (va_Qv (fun w' => ∃ (F' : Nat → Nat → Int32) (z' : Nat → Int32), MD G B0 w' o a F' z' ∧ MF w w' o a ∧ SameF F F' [14] ∧ SameZ z z' [1, 15] ∧ Ls F' z' 14 15 200 T ∧ Ls F' z' 0 1 200 []) (me_W G) (me_A B0)) ([.ref o] : List Value).toArray s 0 0 (me_A B0)) (F0 m 10 ls []) := by
    intro n
    induction n with
    | zero => intro i w1 F1 _ _ _ _ _ hz; exact absurd hz (Nat.not_lt_zero _)
    | succ n ih10 =>
      intro i w1 F1 hil hM hMF hsF hlo hn10 H locs ls hP hS hl
      refine lv_iload_n C0.1 C0.2.1 dX5_takeTape_10 rfl (lv_at hl 0 rfl) ?_
      refine lv_aload_n C0.1 C0.2.1 dX5_takeTape_11 rfl (lv_at hl 1 rfl) ?_
      refine md_get C0 hP hM 1 (by decide) kw_478 (v := .int (nI T.length)) (by show some (Value.int (z1 1)) = _; rw [hz1_1]) dX5_takeTape_12 ?_
      refine lv_icmp_ge (tgt := 36) C0.1 C0.2.1 dX5_takeTape_15 (by decide) (fun c2 => ?_) (fun c2 => ?_)
      · have d2 : T.length ≤ i := (nI_leI (a := T.length) (b := i) (by omega) (by omega)).mp c2
        refine lv_aload_n C0.1 C0.2.1 dX5_takeTape_36 rfl (lv_at hl 1 rfl) ?_
        refine lv_iconst (v := 0) C0.1 C0.2.1 dX5_takeTape_37 (by decide) ?_
        refine md_put C0 hP hS hM hMF 1 (by decide) kw_478 rfl rfl rfl dX5_takeTape_38 (fun w3 z3 H locs hz3 hM hMF hP hS => ?_)
        have hz3_15 : z3 15 = nI T.length := by rw [hz3, upd_ne (by decide)]; exact hz1_15
        have hz3_1 : z3 1 = 0 := by rw [hz3, upd_eq]
        exact me_wvret _ C0.1 C0.2.1 B.returns B.notSynchronized hP hS (Nat.le_of_ble_eq_true rfl) (Nat.le_of_ble_eq_true rfl) (⟨F1, z3, hM, hMF, hsF, ((SameZ.rf.wr hz1 (by decide)).wr hz3 (by decide)), ⟨hz3_15, by omega, fun q hq => hlo q (by omega)⟩, Ls.nil hz3_1⟩) dX5_takeTape_41
      · have d2 : i < T.length := Nat.not_le.mp (fun h => c2 (nI_le (a := T.length) (b := i) h (by omega)))
        refine lv_aload_n C0.1 C0.2.1 dX5_takeTape_18 rfl (lv_at hl 1 rfl) ?_
        refine md_get C0 hP hM 14 (by decide) kw_491 (v := .ref ((a 14))) rfl dX5_takeTape_19 ?_
        refine lv_iload_n C0.1 C0.2.1 dX5_takeTape_22 rfl (lv_at hl 0 rfl) ?_
        refine lv_aload_n C0.1 C0.2.1 dX5_takeTape_23 rfl (lv_at hl 1 rfl) ?_
        refine md_get C0 hP hM 0 (by decide) kw_477 (v := .ref ((a 0))) rfl dX5_takeTape_24 ?_
        refine lv_iload_n C0.1 C0.2.1 dX5_takeTape_27 rfl (lv_at hl 0 rfl) ?_
        refine md_iald C0 hP hM 0 (by decide) (i := i) (by show i < 200; omega) dX5_takeTape_28 ?_
        refine md_iast C0 hP hS hM hMF 14 (by decide) (i := i) (by show i < 200; omega) dX5_takeTape_29 (fun w4 F4 H locs hF4 hM hMF hP hS => ?_)
        refine lv_iinc (v := nI (i + 1)) (lv' := [(1, .int (nI (i + 1))), (0, .ref o)]) C0.1 C0.2.1 dX5_takeTape_30 hl (k := 0) rfl (nI_add i 1) (by decide) rfl (fun ls hl => ?_)
        refine lv_goto (tgt := 10) C0.1 C0.2.1 dX5_takeTape_33 (by decide) ?_
        exact ih10 (i + 1) _ _ (by omega) hM hMF (hsF.wr hF4 (by decide)) (by rw [hF4, uF_s]; exact lt_s (fun q hq => by rw [upd_ne (by omega)]; exact hlo q hq) (by rw [upd_eq, hsF 0 (by decide)]; exact hT.2.2 i (by omega))) (by omega) _ _ _ hP hS (lv_sub hl [0, 1] rfl)
  exact loop10 (T.length - 0 + 1) 0 _ _ (Nat.zero_le _) hM hMF SameF.rf (fun q hq => absurd hq (Nat.not_lt_zero q)) (Nat.lt_succ_self _) _ _ _ hP hS (lv_sub hl [0, 1] rfl)
end
