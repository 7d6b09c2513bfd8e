section
-- ===== PART A: goes FIRST, ahead of the names: the tables' words, and 'selects' of the private methods out of them =====
/-- a private method of a class that the tables say can be made, by its rows of tables_1 -/
def lw_okq (q : MethodName × Nat) : Prop := (q.1.cls ≠ "java/lang/invoke/MethodHandle" ∧ q.1.cls ≠ "java/lang/invoke/VarHandle") ∧ Cond.instantiable q.1.cls q.2 ∈ tables_1 ∧ Cond.privateMethod q.1 ∈ tables_1 ∧ Cond.instanceMethod q.1 ∈ tables_1
theorem lw_p0 : lw_okq (⟨"BagRows", "receptacleOf", "(I)LBagRows$Receptacle;"⟩, 6) := ⟨⟨by decide +kernel, by decide +kernel⟩, List.mem_of_getElem? (i := 8) (by decide +kernel), List.mem_of_getElem? (i := 122) (by decide +kernel), List.mem_of_getElem? (i := 123) (by decide +kernel)⟩
theorem lw_p1 : lw_okq (⟨"BagRows", "isThing", "(I)Z"⟩, 6) := ⟨⟨by decide +kernel, by decide +kernel⟩, List.mem_of_getElem? (i := 8) (by decide +kernel), List.mem_of_getElem? (i := 126) (by decide +kernel), List.mem_of_getElem? (i := 127) (by decide +kernel)⟩
theorem lw_p2 : lw_okq (⟨"BagRows", "isShut", "(I)Z"⟩, 6) := ⟨⟨by decide +kernel, by decide +kernel⟩, List.mem_of_getElem? (i := 8) (by decide +kernel), List.mem_of_getElem? (i := 133) (by decide +kernel), List.mem_of_getElem? (i := 134) (by decide +kernel)⟩
theorem lw_p3 : lw_okq (⟨"BagRows", "holderOf", "(I)I"⟩, 6) := ⟨⟨by decide +kernel, by decide +kernel⟩, List.mem_of_getElem? (i := 8) (by decide +kernel), List.mem_of_getElem? (i := 137) (by decide +kernel), List.mem_of_getElem? (i := 138) (by decide +kernel)⟩
theorem lw_p4 : lw_okq (⟨"BagRows", "isLesser", "(ILBagRows$Receptacle;)Z"⟩, 6) := ⟨⟨by decide +kernel, by decide +kernel⟩, List.mem_of_getElem? (i := 8) (by decide +kernel), List.mem_of_getElem? (i := 141) (by decide +kernel), List.mem_of_getElem? (i := 142) (by decide +kernel)⟩
theorem lw_p5 : lw_okq (⟨"BagRows", "placeOf", "(I)I"⟩, 6) := ⟨⟨by decide +kernel, by decide +kernel⟩, List.mem_of_getElem? (i := 8) (by decide +kernel), List.mem_of_getElem? (i := 145) (by decide +kernel), List.mem_of_getElem? (i := 146) (by decide +kernel)⟩
theorem lw_p6 : lw_okq (⟨"BagRows", "putIn", "(LBagRows$Receptacle;II)V"⟩, 6) := ⟨⟨by decide +kernel, by decide +kernel⟩, List.mem_of_getElem? (i := 8) (by decide +kernel), List.mem_of_getElem? (i := 153) (by decide +kernel), List.mem_of_getElem? (i := 154) (by decide +kernel)⟩
theorem lw_p7 : lw_okq (⟨"BagRows", "setHolder", "(II)V"⟩, 6) := ⟨⟨by decide +kernel, by decide +kernel⟩, List.mem_of_getElem? (i := 8) (by decide +kernel), List.mem_of_getElem? (i := 161) (by decide +kernel), List.mem_of_getElem? (i := 162) (by decide +kernel)⟩
theorem lw_p8 : lw_okq (⟨"BagRows", "takeOut", "(I)V"⟩, 6) := ⟨⟨by decide +kernel, by decide +kernel⟩, List.mem_of_getElem? (i := 8) (by decide +kernel), List.mem_of_getElem? (i := 169) (by decide +kernel), List.mem_of_getElem? (i := 170) (by decide +kernel)⟩
theorem lw_p9 : lw_okq (⟨"BagRows", "setOwnPlace", "(II)V"⟩, 6) := ⟨⟨by decide +kernel, by decide +kernel⟩, List.mem_of_getElem? (i := 8) (by decide +kernel), List.mem_of_getElem? (i := 173) (by decide +kernel), List.mem_of_getElem? (i := 174) (by decide +kernel)⟩
theorem lw_p10 : lw_okq (⟨"BagRows", "foundExtra", "(LBagRows$Receptacle;II)I"⟩, 6) := ⟨⟨by decide +kernel, by decide +kernel⟩, List.mem_of_getElem? (i := 8) (by decide +kernel), List.mem_of_getElem? (i := 245) (by decide +kernel), List.mem_of_getElem? (i := 246) (by decide +kernel)⟩
theorem lw_p11 : lw_okq (⟨"BagRows", "weightOf", "(I)J"⟩, 6) := ⟨⟨by decide +kernel, by decide +kernel⟩, List.mem_of_getElem? (i := 8) (by decide +kernel), List.mem_of_getElem? (i := 266) (by decide +kernel), List.mem_of_getElem? (i := 267) (by decide +kernel)⟩
theorem lw_p12 : lw_okq (⟨"BagRows", "isWithin", "(II)Z"⟩, 6) := ⟨⟨by decide +kernel, by decide +kernel⟩, List.mem_of_getElem? (i := 8) (by decide +kernel), List.mem_of_getElem? (i := 270) (by decide +kernel), List.mem_of_getElem? (i := 271) (by decide +kernel)⟩
theorem lw_p13 : lw_okq (⟨"BagRows", "thingsOf", "(I)I"⟩, 6) := ⟨⟨by decide +kernel, by decide +kernel⟩, List.mem_of_getElem? (i := 8) (by decide +kernel), List.mem_of_getElem? (i := 289) (by decide +kernel), List.mem_of_getElem? (i := 290) (by decide +kernel)⟩
theorem lw_p14 : lw_okq (⟨"BagRowsModel", "isBag", "(I)Z"⟩, 23) := ⟨⟨by decide +kernel, by decide +kernel⟩, List.mem_of_getElem? (i := 306) (by decide +kernel), List.mem_of_getElem? (i := 392) (by decide +kernel), List.mem_of_getElem? (i := 393) (by decide +kernel)⟩
theorem lw_p15 : lw_okq (⟨"BagRowsModel", "isThing", "(I)Z"⟩, 23) := ⟨⟨by decide +kernel, by decide +kernel⟩, List.mem_of_getElem? (i := 306) (by decide +kernel), List.mem_of_getElem? (i := 396) (by decide +kernel), List.mem_of_getElem? (i := 397) (by decide +kernel)⟩
def lw_privs_1 : List (MethodName × Nat) := [(⟨"BagRows", "receptacleOf", "(I)LBagRows$Receptacle;"⟩, 6), (⟨"BagRows", "isThing", "(I)Z"⟩, 6), (⟨"BagRows", "isShut", "(I)Z"⟩, 6), (⟨"BagRows", "holderOf", "(I)I"⟩, 6), (⟨"BagRows", "isLesser", "(ILBagRows$Receptacle;)Z"⟩, 6), (⟨"BagRows", "placeOf", "(I)I"⟩, 6), (⟨"BagRows", "putIn", "(LBagRows$Receptacle;II)V"⟩, 6), (⟨"BagRows", "setHolder", "(II)V"⟩, 6), (⟨"BagRows", "takeOut", "(I)V"⟩, 6), (⟨"BagRows", "setOwnPlace", "(II)V"⟩, 6), (⟨"BagRows", "foundExtra", "(LBagRows$Receptacle;II)I"⟩, 6), (⟨"BagRows", "weightOf", "(I)J"⟩, 6), (⟨"BagRows", "isWithin", "(II)Z"⟩, 6), (⟨"BagRows", "thingsOf", "(I)I"⟩, 6), (⟨"BagRowsModel", "isBag", "(I)Z"⟩, 23), (⟨"BagRowsModel", "isThing", "(I)Z"⟩, 23)]
theorem lw_r1 : ∀ q ∈ lw_privs_1, lw_okq q := List.forall_mem_cons.mpr ⟨lw_p0, List.forall_mem_cons.mpr ⟨lw_p1, List.forall_mem_cons.mpr ⟨lw_p2, List.forall_mem_cons.mpr ⟨lw_p3, List.forall_mem_cons.mpr ⟨lw_p4, List.forall_mem_cons.mpr ⟨lw_p5, List.forall_mem_cons.mpr ⟨lw_p6, List.forall_mem_cons.mpr ⟨lw_p7, List.forall_mem_cons.mpr ⟨lw_p8, List.forall_mem_cons.mpr ⟨lw_p9, List.forall_mem_cons.mpr ⟨lw_p10, List.forall_mem_cons.mpr ⟨lw_p11, List.forall_mem_cons.mpr ⟨lw_p12, List.forall_mem_cons.mpr ⟨lw_p13, List.forall_mem_cons.mpr ⟨lw_p14, List.forall_mem_cons.mpr ⟨lw_p15, fun _ h => absurd h List.not_mem_nil⟩⟩⟩⟩⟩⟩⟩⟩⟩⟩⟩⟩⟩⟩⟩⟩
theorem lw_p16 : lw_okq (⟨"BagRowsModel", "isShutIn", "(I)Z"⟩, 23) := ⟨⟨by decide +kernel, by decide +kernel⟩, List.mem_of_getElem? (i := 306) (by decide +kernel), List.mem_of_getElem? (i := 400) (by decide +kernel), List.mem_of_getElem? (i := 401) (by decide +kernel)⟩
theorem lw_p17 : lw_okq (⟨"BagRowsModel", "outer", "(I)I"⟩, 23) := ⟨⟨by decide +kernel, by decide +kernel⟩, List.mem_of_getElem? (i := 306) (by decide +kernel), List.mem_of_getElem? (i := 404) (by decide +kernel), List.mem_of_getElem? (i := 405) (by decide +kernel)⟩
theorem lw_p18 : lw_okq (⟨"BagRowsModel", "kindOf", "(I)I"⟩, 23) := ⟨⟨by decide +kernel, by decide +kernel⟩, List.mem_of_getElem? (i := 306) (by decide +kernel), List.mem_of_getElem? (i := 408) (by decide +kernel), List.mem_of_getElem? (i := 409) (by decide +kernel)⟩
theorem lw_p19 : lw_okq (⟨"BagRowsModel", "count", "(I)I"⟩, 23) := ⟨⟨by decide +kernel, by decide +kernel⟩, List.mem_of_getElem? (i := 306) (by decide +kernel), List.mem_of_getElem? (i := 412) (by decide +kernel), List.mem_of_getElem? (i := 413) (by decide +kernel)⟩
theorem lw_p20 : lw_okq (⟨"BagRowsModel", "put", "(II)V"⟩, 23) := ⟨⟨by decide +kernel, by decide +kernel⟩, List.mem_of_getElem? (i := 306) (by decide +kernel), List.mem_of_getElem? (i := 416) (by decide +kernel), List.mem_of_getElem? (i := 417) (by decide +kernel)⟩
theorem lw_p21 : lw_okq (⟨"BagRowsModel", "addNote", "()V"⟩, 23) := ⟨⟨by decide +kernel, by decide +kernel⟩, List.mem_of_getElem? (i := 306) (by decide +kernel), List.mem_of_getElem? (i := 433) (by decide +kernel), List.mem_of_getElem? (i := 434) (by decide +kernel)⟩
theorem lw_p22 : lw_okq (⟨"BagRowsModel", "liesIn", "(II)Z"⟩, 23) := ⟨⟨by decide +kernel, by decide +kernel⟩, List.mem_of_getElem? (i := 306) (by decide +kernel), List.mem_of_getElem? (i := 442) (by decide +kernel), List.mem_of_getElem? (i := 443) (by decide +kernel)⟩
theorem lw_p23 : lw_okq (⟨"BagRowsModel", "listPlace", "(II)I"⟩, 23) := ⟨⟨by decide +kernel, by decide +kernel⟩, List.mem_of_getElem? (i := 306) (by decide +kernel), List.mem_of_getElem? (i := 446) (by decide +kernel), List.mem_of_getElem? (i := 447) (by decide +kernel)⟩
theorem lw_p24 : lw_okq (⟨"BagRowsModel", "isExtra", "(II)Z"⟩, 23) := ⟨⟨by decide +kernel, by decide +kernel⟩, List.mem_of_getElem? (i := 306) (by decide +kernel), List.mem_of_getElem? (i := 450) (by decide +kernel), List.mem_of_getElem? (i := 451) (by decide +kernel)⟩
theorem lw_p25 : lw_okq (⟨"BagRowsModel", "bring", "(II)I"⟩, 23) := ⟨⟨by decide +kernel, by decide +kernel⟩, List.mem_of_getElem? (i := 306) (by decide +kernel), List.mem_of_getElem? (i := 454) (by decide +kernel), List.mem_of_getElem? (i := 455) (by decide +kernel)⟩
theorem lw_p26 : lw_okq (⟨"BagRowsModel", "difference", "(III)I"⟩, 23) := ⟨⟨by decide +kernel, by decide +kernel⟩, List.mem_of_getElem? (i := 306) (by decide +kernel), List.mem_of_getElem? (i := 462) (by decide +kernel), List.mem_of_getElem? (i := 463) (by decide +kernel)⟩
theorem lw_p27 : lw_okq (⟨"BagRowsModel", "pick", "(IIJ)I"⟩, 23) := ⟨⟨by decide +kernel, by decide +kernel⟩, List.mem_of_getElem? (i := 306) (by decide +kernel), List.mem_of_getElem? (i := 466) (by decide +kernel), List.mem_of_getElem? (i := 467) (by decide +kernel)⟩
theorem lw_p28 : lw_okq (⟨"BagRowsModel", "own", "(I)J"⟩, 23) := ⟨⟨by decide +kernel, by decide +kernel⟩, List.mem_of_getElem? (i := 306) (by decide +kernel), List.mem_of_getElem? (i := 478) (by decide +kernel), List.mem_of_getElem? (i := 479) (by decide +kernel)⟩
def lw_privs_2 : List (MethodName × Nat) := [(⟨"BagRowsModel", "isShutIn", "(I)Z"⟩, 23), (⟨"BagRowsModel", "outer", "(I)I"⟩, 23), (⟨"BagRowsModel", "kindOf", "(I)I"⟩, 23), (⟨"BagRowsModel", "count", "(I)I"⟩, 23), (⟨"BagRowsModel", "put", "(II)V"⟩, 23), (⟨"BagRowsModel", "addNote", "()V"⟩, 23), (⟨"BagRowsModel", "liesIn", "(II)Z"⟩, 23), (⟨"BagRowsModel", "listPlace", "(II)I"⟩, 23), (⟨"BagRowsModel", "isExtra", "(II)Z"⟩, 23), (⟨"BagRowsModel", "bring", "(II)I"⟩, 23), (⟨"BagRowsModel", "difference", "(III)I"⟩, 23), (⟨"BagRowsModel", "pick", "(IIJ)I"⟩, 23), (⟨"BagRowsModel", "own", "(I)J"⟩, 23)]
theorem lw_r2 : ∀ q ∈ lw_privs_2, lw_okq q := List.forall_mem_cons.mpr ⟨lw_p16, List.forall_mem_cons.mpr ⟨lw_p17, List.forall_mem_cons.mpr ⟨lw_p18, List.forall_mem_cons.mpr ⟨lw_p19, List.forall_mem_cons.mpr ⟨lw_p20, List.forall_mem_cons.mpr ⟨lw_p21, List.forall_mem_cons.mpr ⟨lw_p22, List.forall_mem_cons.mpr ⟨lw_p23, List.forall_mem_cons.mpr ⟨lw_p24, List.forall_mem_cons.mpr ⟨lw_p25, List.forall_mem_cons.mpr ⟨lw_p26, List.forall_mem_cons.mpr ⟨lw_p27, List.forall_mem_cons.mpr ⟨lw_p28, fun _ h => absurd h List.not_mem_nil⟩⟩⟩⟩⟩⟩⟩⟩⟩⟩⟩⟩⟩
def lw_privs : List (MethodName × Nat) := lw_privs_1 ++ (lw_privs_2)
def lw_tbl : List Cond := k2_sels lw_privs ++ tables_1
theorem lw_privs_ok : ∀ q ∈ lw_privs, lw_okq q := by
  show ∀ q ∈ lw_privs_1 ++ (lw_privs_2), lw_okq q
  exact List.forall_mem_append.mpr ⟨lw_r1, lw_r2⟩
-- ===== end of PART A; then your names; then what follows =====
def RX0 : String := "BagRows$Notes"
def TX0 : u_T := fun k => match k with
  | 0 => ("BagRows$Notes", "dueTimes", "[J", true)
  | 1 => ("BagRows$Notes", "count", "I", false)
  | _ => ("BagRows$Notes", "told", "I", false)
def tyX0 : Nat → FieldType := fun k => match k with
  | 0 => .array .long
  | 1 => .int
  | _ => .int
abbrev wsX00 : List Cond := u_ws RX0 TX0 3
theorem nmX0 : ∀ a, a < 3 → ∀ b, b < 3 → a ≠ b → (TX0 a).2.1 ≠ (TX0 b).2.1 := by decide +kernel
theorem tyX0_ok : ∀ k, k < 3 → parseFieldDescriptor (TX0 k).2.2.1 = some (tyX0 k) := by decide +kernel
abbrev cX0_init : ByteArray := prog_2_method_1_code
def yX0_init : MethodName := ⟨RX0, "<init>", "()V"⟩
abbrev cX0_add : ByteArray := prog_2_method_2_code
def yX0_add : MethodName := ⟨RX0, "add", "(J)V"⟩
abbrev cX0_tellUntil : ByteArray := prog_2_method_3_code
def yX0_tellUntil : MethodName := ⟨RX0, "tellUntil", "(J)I"⟩
def RX1 : String := "BagRows$Receptacle"
def TX1 : u_T := fun k => match k with
  | 0 => ("BagRows$Receptacle", "kind", "I", true)
  | 1 => ("BagRows$Receptacle", "closed", "Z", false)
  | 2 => ("BagRows$Receptacle", "everClosed", "Z", false)
  | 3 => ("BagRows$Receptacle", "seal", "J", false)
  | 4 => ("BagRows$Receptacle", "closer", "I", false)
  | 5 => ("BagRows$Receptacle", "content", "LBagRows$Row;", true)
  | 6 => ("BagRows$Receptacle", "list", "LBagRows$Row;", true)
  | 7 => ("BagRows$Receptacle", "wrongSeals", "LBagRows$Row;", true)
  | 8 => ("BagRows$Receptacle", "wrongWeighings", "LBagRows$Row;", true)
  | 9 => ("BagRows$Receptacle", "missing", "LBagRows$Row;", true)
  | _ => ("BagRows$Receptacle", "extras", "LBagRows$Row;", true)
def tyX1 : Nat → FieldType := fun k => match k with
  | 0 => .int
  | 1 => .boolean
  | 2 => .boolean
  | 3 => .long
  | 4 => .int
  | 5 => .object "BagRows$Row"
  | 6 => .object "BagRows$Row"
  | 7 => .object "BagRows$Row"
  | 8 => .object "BagRows$Row"
  | 9 => .object "BagRows$Row"
  | _ => .object "BagRows$Row"
abbrev wsX10 : List Cond := u_ws RX1 TX1 11
theorem nmX1 : ∀ a, a < 11 → ∀ b, b < 11 → a ≠ b → (TX1 a).2.1 ≠ (TX1 b).2.1 := by decide +kernel
theorem tyX1_ok : ∀ k, k < 11 → parseFieldDescriptor (TX1 k).2.2.1 = some (tyX1 k) := by decide +kernel
abbrev cX1_init : ByteArray := prog_3_method_1_code
def yX1_init : MethodName := ⟨RX1, "<init>", "(I)V"⟩
abbrev cX1_shut : ByteArray := prog_3_method_2_code
def yX1_shut : MethodName := ⟨RX1, "shut", "(JI)V"⟩
abbrev cX1_mayBeOpenedBy : ByteArray := prog_3_method_3_code
def yX1_mayBeOpenedBy : MethodName := ⟨RX1, "mayBeOpenedBy", "(II)Z"⟩
abbrev cX1_unseal : ByteArray := prog_3_method_4_code
def yX1_unseal : MethodName := ⟨RX1, "unseal", "(J)Z"⟩
abbrev cX1_isChecked : ByteArray := prog_3_method_5_code
def yX1_isChecked : MethodName := ⟨RX1, "isChecked", "()Z"⟩
abbrev cX1_differencesOf : ByteArray := prog_3_method_6_code
def yX1_differencesOf : MethodName := ⟨RX1, "differencesOf", "(I)LBagRows$Row;"⟩
def RX2 : String := "BagRows$Row"
def TX2 : u_T := fun k => match k with
  | 0 => ("BagRows$Row", "numbers", "[I", true)
  | _ => ("BagRows$Row", "size", "I", false)
def tyX2 : Nat → FieldType := fun k => match k with
  | 0 => .array .int
  | _ => .int
abbrev wsX20 : List Cond := u_ws RX2 TX2 2
theorem nmX2 : ∀ a, a < 2 → ∀ b, b < 2 → a ≠ b → (TX2 a).2.1 ≠ (TX2 b).2.1 := by decide +kernel
theorem tyX2_ok : ∀ k, k < 2 → parseFieldDescriptor (TX2 k).2.2.1 = some (tyX2 k) := by decide +kernel
abbrev cX2_init : ByteArray := prog_4_method_1_code
def yX2_init : MethodName := ⟨RX2, "<init>", "(I)V"⟩
abbrev cX2_size : ByteArray := prog_4_method_2_code
def yX2_size : MethodName := ⟨RX2, "size", "()I"⟩
abbrev cX2_isFull : ByteArray := prog_4_method_3_code
def yX2_isFull : MethodName := ⟨RX2, "isFull", "()Z"⟩
abbrev cX2_at : ByteArray := prog_4_method_4_code
def yX2_at : MethodName := ⟨RX2, "at", "(I)I"⟩
abbrev cX2_holds : ByteArray := prog_4_method_5_code
def yX2_holds : MethodName := ⟨RX2, "holds", "(I)Z"⟩
abbrev cX2_append : ByteArray := prog_4_method_6_code
def yX2_append : MethodName := ⟨RX2, "append", "(I)V"⟩
abbrev cX2_remove : ByteArray := prog_4_method_7_code
def yX2_remove : MethodName := ⟨RX2, "remove", "(I)V"⟩
abbrev cX2_clear : ByteArray := prog_4_method_8_code
def yX2_clear : MethodName := ⟨RX2, "clear", "()V"⟩
abbrev cX2_becomeLike : ByteArray := prog_4_method_9_code
def yX2_becomeLike : MethodName := ⟨RX2, "becomeLike", "(LBagRows$Row;)V"⟩
def RX3 : String := "BagRows"
def TX3 : u_T := fun k => match k with
  | 0 => ("BagRows", "receptacles", "[LBagRows$Receptacle;", true)
  | 1 => ("BagRows", "receptacleCount", "I", false)
  | 2 => ("BagRows", "holders", "[I", true)
  | 3 => ("BagRows", "ownPlaces", "[I", true)
  | 4 => ("BagRows", "notes", "LBagRows$Notes;", true)
  | _ => ("BagRows", "time", "J", false)
def tyX3 : Nat → FieldType := fun k => match k with
  | 0 => .array (.object "BagRows$Receptacle")
  | 1 => .int
  | 2 => .array .int
  | 3 => .array .int
  | 4 => .object "BagRows$Notes"
  | _ => .long
abbrev wsX30 : List Cond := u_ws RX3 TX3 6
theorem nmX3 : ∀ a, a < 6 → ∀ b, b < 6 → a ≠ b → (TX3 a).2.1 ≠ (TX3 b).2.1 := by decide +kernel
theorem tyX3_ok : ∀ k, k < 6 → parseFieldDescriptor (TX3 k).2.2.1 = some (tyX3 k) := by decide +kernel
abbrev cX3_init : ByteArray := prog_1_method_1_code
def yX3_init : MethodName := ⟨RX3, "<init>", "()V"⟩
abbrev cX3_bag : ByteArray := prog_1_method_2_code
def yX3_bag : MethodName := ⟨RX3, "bag", "(I)I"⟩
abbrev cX3_into : ByteArray := prog_1_method_3_code
def yX3_into : MethodName := ⟨RX3, "into", "(II)I"⟩
abbrev cX3_take : ByteArray := prog_1_method_4_code
def yX3_take : MethodName := ⟨RX3, "take", "(I)I"⟩
abbrev cX3_close : ByteArray := prog_1_method_5_code
def yX3_close : MethodName := ⟨RX3, "close", "(IJI)I"⟩
abbrev cX3_open : ByteArray := prog_1_method_6_code
def yX3_open : MethodName := ⟨RX3, "open", "(IJII)I"⟩
abbrev cX3_found : ByteArray := prog_1_method_7_code
def yX3_found : MethodName := ⟨RX3, "found", "(II)I"⟩
abbrev cX3_differ : ByteArray := prog_1_method_8_code
def yX3_differ : MethodName := ⟨RX3, "differ", "(III)I"⟩
abbrev cX3_inside : ByteArray := prog_1_method_9_code
def yX3_inside : MethodName := ⟨RX3, "inside", "(I)I"⟩
abbrev cX3_weight : ByteArray := prog_1_method_10_code
def yX3_weight : MethodName := ⟨RX3, "weight", "(IJ)I"⟩
abbrev cX3_document : ByteArray := prog_1_method_11_code
def yX3_document : MethodName := ⟨RX3, "document", "(II)I"⟩
abbrev cX3_move : ByteArray := prog_1_method_12_code
def yX3_move : MethodName := ⟨RX3, "move", "(II)I"⟩
abbrev cX3_place : ByteArray := prog_1_method_13_code
def yX3_place : MethodName := ⟨RX3, "place", "(I)I"⟩
abbrev cX3_tick : ByteArray := prog_1_method_14_code
def yX3_tick : MethodName := ⟨RX3, "tick", "(J)I"⟩
abbrev cX3_isSeal : ByteArray := prog_1_method_15_code
def yX3_isSeal : MethodName := ⟨RX3, "isSeal", "(J)Z"⟩
abbrev cX3_isPerson : ByteArray := prog_1_method_16_code
def yX3_isPerson : MethodName := ⟨RX3, "isPerson", "(I)Z"⟩
abbrev cX3_isItem : ByteArray := prog_1_method_17_code
def yX3_isItem : MethodName := ⟨RX3, "isItem", "(I)Z"⟩
abbrev cX3_isThing : ByteArray := prog_1_method_18_code
def yX3_isThing : MethodName := ⟨RX3, "isThing", "(I)Z"⟩
abbrev cX3_receptacleOf : ByteArray := prog_1_method_19_code
def yX3_receptacleOf : MethodName := ⟨RX3, "receptacleOf", "(I)LBagRows$Receptacle;"⟩
abbrev cX3_holderOf : ByteArray := prog_1_method_20_code
def yX3_holderOf : MethodName := ⟨RX3, "holderOf", "(I)I"⟩
abbrev cX3_setHolder : ByteArray := prog_1_method_21_code
def yX3_setHolder : MethodName := ⟨RX3, "setHolder", "(II)V"⟩
abbrev cX3_setOwnPlace : ByteArray := prog_1_method_22_code
def yX3_setOwnPlace : MethodName := ⟨RX3, "setOwnPlace", "(II)V"⟩
abbrev cX3_placeOf : ByteArray := prog_1_method_23_code
def yX3_placeOf : MethodName := ⟨RX3, "placeOf", "(I)I"⟩
abbrev cX3_isShut : ByteArray := prog_1_method_24_code
def yX3_isShut : MethodName := ⟨RX3, "isShut", "(I)Z"⟩
abbrev cX3_isWithin : ByteArray := prog_1_method_25_code
def yX3_isWithin : MethodName := ⟨RX3, "isWithin", "(II)Z"⟩
abbrev cX3_isLesser : ByteArray := prog_1_method_26_code
def yX3_isLesser : MethodName := ⟨RX3, "isLesser", "(ILBagRows$Receptacle;)Z"⟩
abbrev cX3_putIn : ByteArray := prog_1_method_27_code
def yX3_putIn : MethodName := ⟨RX3, "putIn", "(LBagRows$Receptacle;II)V"⟩
abbrev cX3_takeOut : ByteArray := prog_1_method_28_code
def yX3_takeOut : MethodName := ⟨RX3, "takeOut", "(I)V"⟩
abbrev cX3_foundExtra : ByteArray := prog_1_method_29_code
def yX3_foundExtra : MethodName := ⟨RX3, "foundExtra", "(LBagRows$Receptacle;II)I"⟩
abbrev cX3_weightOf : ByteArray := prog_1_method_30_code
def yX3_weightOf : MethodName := ⟨RX3, "weightOf", "(I)J"⟩
abbrev cX3_weightOfItems : ByteArray := prog_1_method_31_code
def yX3_weightOfItems : MethodName := ⟨RX3, "weightOfItems", "(LBagRows$Row;)J"⟩
abbrev cX3_thingsOf : ByteArray := prog_1_method_32_code
def yX3_thingsOf : MethodName := ⟨RX3, "thingsOf", "(I)I"⟩
def RX4 : String := "BagRowsModel"
def TX4 : u_T := fun k => match k with
  | 0 => ("BagRowsModel", "thrown", "I", false)
  | 1 => ("BagRowsModel", "in", "[I", true)
  | 2 => ("BagRowsModel", "since", "[I", true)
  | 3 => ("BagRowsModel", "place", "[I", true)
  | 4 => ("BagRowsModel", "turns", "I", false)
  | 5 => ("BagRowsModel", "bags", "I", false)
  | 6 => ("BagRowsModel", "kind", "[I", true)
  | 7 => ("BagRowsModel", "closed", "[Z", true)
  | 8 => ("BagRowsModel", "opened", "[Z", true)
  | 9 => ("BagRowsModel", "seal", "[J", true)
  | 10 => ("BagRowsModel", "closer", "[I", true)
  | 11 => ("BagRowsModel", "read", "[J", true)
  | 12 => ("BagRowsModel", "listed", "[I", true)
  | 13 => ("BagRowsModel", "list", "[I", true)
  | 14 => ("BagRowsModel", "seen", "[Z", true)
  | 15 => ("BagRowsModel", "extras", "[I", true)
  | 16 => ("BagRowsModel", "extra", "[I", true)
  | 17 => ("BagRowsModel", "weighed", "[I", true)
  | 18 => ("BagRowsModel", "weighing", "[J", true)
  | 19 => ("BagRowsModel", "now", "J", false)
  | 20 => ("BagRowsModel", "toldUntil", "J", false)
  | 21 => ("BagRowsModel", "notes", "I", false)
  | _ => ("BagRowsModel", "due", "[J", true)
def tyX4 : Nat → FieldType := fun k => match k with
  | 0 => .int
  | 1 => .array .int
  | 2 => .array .int
  | 3 => .array .int
  | 4 => .int
  | 5 => .int
  | 6 => .array .int
  | 7 => .array .boolean
  | 8 => .array .boolean
  | 9 => .array .long
  | 10 => .array .int
  | 11 => .array .long
  | 12 => .array .int
  | 13 => .array .int
  | 14 => .array .boolean
  | 15 => .array .int
  | 16 => .array .int
  | 17 => .array .int
  | 18 => .array .long
  | 19 => .long
  | 20 => .long
  | 21 => .int
  | _ => .array .long
abbrev wsX40 : List Cond := u_ws RX4 TX4 23
theorem nmX4 : ∀ a, a < 23 → ∀ b, b < 23 → a ≠ b → (TX4 a).2.1 ≠ (TX4 b).2.1 := by decide +kernel
theorem tyX4_ok : ∀ k, k < 23 → parseFieldDescriptor (TX4 k).2.2.1 = some (tyX4 k) := by decide +kernel
abbrev cX4_init : ByteArray := prog_6_method_1_code
def yX4_init : MethodName := ⟨RX4, "<init>", "()V"⟩
abbrev cX4_isBag : ByteArray := prog_6_method_3_code
def yX4_isBag : MethodName := ⟨RX4, "isBag", "(I)Z"⟩
abbrev cX4_isThing : ByteArray := prog_6_method_4_code
def yX4_isThing : MethodName := ⟨RX4, "isThing", "(I)Z"⟩
abbrev cX4_kindOf : ByteArray := prog_6_method_5_code
def yX4_kindOf : MethodName := ⟨RX4, "kindOf", "(I)I"⟩
abbrev cX4_outer : ByteArray := prog_6_method_6_code
def yX4_outer : MethodName := ⟨RX4, "outer", "(I)I"⟩
abbrev cX4_liesIn : ByteArray := prog_6_method_7_code
def yX4_liesIn : MethodName := ⟨RX4, "liesIn", "(II)Z"⟩
abbrev cX4_isShutIn : ByteArray := prog_6_method_8_code
def yX4_isShutIn : MethodName := ⟨RX4, "isShutIn", "(I)Z"⟩
abbrev cX4_count : ByteArray := prog_6_method_9_code
def yX4_count : MethodName := ⟨RX4, "count", "(I)I"⟩
abbrev cX4_put : ByteArray := prog_6_method_10_code
def yX4_put : MethodName := ⟨RX4, "put", "(II)V"⟩
abbrev cX4_addNote : ByteArray := prog_6_method_11_code
def yX4_addNote : MethodName := ⟨RX4, "addNote", "()V"⟩
abbrev cX4_bag : ByteArray := prog_6_method_12_code
def yX4_bag : MethodName := ⟨RX4, "bag", "(I)I"⟩
abbrev cX4_into : ByteArray := prog_6_method_13_code
def yX4_into : MethodName := ⟨RX4, "into", "(II)I"⟩
abbrev cX4_take : ByteArray := prog_6_method_14_code
def yX4_take : MethodName := ⟨RX4, "take", "(I)I"⟩
abbrev cX4_close : ByteArray := prog_6_method_15_code
def yX4_close : MethodName := ⟨RX4, "close", "(IJI)I"⟩
abbrev cX4_open : ByteArray := prog_6_method_16_code
def yX4_open : MethodName := ⟨RX4, "open", "(IJII)I"⟩
abbrev cX4_listPlace : ByteArray := prog_6_method_17_code
def yX4_listPlace : MethodName := ⟨RX4, "listPlace", "(II)I"⟩
abbrev cX4_isExtra : ByteArray := prog_6_method_18_code
def yX4_isExtra : MethodName := ⟨RX4, "isExtra", "(II)Z"⟩
abbrev cX4_bring : ByteArray := prog_6_method_19_code
def yX4_bring : MethodName := ⟨RX4, "bring", "(II)I"⟩
abbrev cX4_found : ByteArray := prog_6_method_20_code
def yX4_found : MethodName := ⟨RX4, "found", "(II)I"⟩
abbrev cX4_pick : ByteArray := prog_6_method_21_code
def yX4_pick : MethodName := ⟨RX4, "pick", "(IIJ)I"⟩
abbrev cX4_difference : ByteArray := prog_6_method_22_code
def yX4_difference : MethodName := ⟨RX4, "difference", "(III)I"⟩
abbrev cX4_differ : ByteArray := prog_6_method_23_code
def yX4_differ : MethodName := ⟨RX4, "differ", "(III)I"⟩
abbrev cX4_inside : ByteArray := prog_6_method_24_code
def yX4_inside : MethodName := ⟨RX4, "inside", "(I)I"⟩
abbrev cX4_own : ByteArray := prog_6_method_25_code
def yX4_own : MethodName := ⟨RX4, "own", "(I)J"⟩
abbrev cX4_weight : ByteArray := prog_6_method_26_code
def yX4_weight : MethodName := ⟨RX4, "weight", "(IJ)I"⟩
abbrev cX4_document : ByteArray := prog_6_method_27_code
def yX4_document : MethodName := ⟨RX4, "document", "(II)I"⟩
abbrev cX4_move : ByteArray := prog_6_method_28_code
def yX4_move : MethodName := ⟨RX4, "move", "(II)I"⟩
abbrev cX4_place : ByteArray := prog_6_method_29_code
def yX4_place : MethodName := ⟨RX4, "place", "(I)I"⟩
abbrev cX4_tick : ByteArray := prog_6_method_30_code
def yX4_tick : MethodName := ⟨RX4, "tick", "(J)I"⟩
def RJ9 : String := "java/lang/Math"
abbrev cJ9_abs_067f4 : ByteArray := prog_7_method_61_code
def yJ9_abs_067f4 : MethodName := ⟨RJ9, "abs", "(J)J"⟩
def RL : String := "BagRowsLaw"
abbrev cL_law : ByteArray := code
def yL_law : MethodName := ⟨RL, "law", "([I)Z"⟩
abbrev vwCl : List vw_C := [(RX0, TX0, 3), (RX1, TX1, 11), (RX2, TX2, 2), (RX3, TX3, 6), (RX4, TX4, 23)]
/-- the words of every method: its own code first, then all that the tables say -/
def lw_g : List Cond := lw_tbl.filter goodWord
def wA (y : MethodName) (cc : ByteArray) (maxL : Nat) (ret : Option FieldType) : List Cond := .code y cc maxL ret :: lw_g
theorem qa0 {w : Cond} (i : Nat) (h : (k2_sels lw_privs)[i]? = some w) (g : goodWord w = true) : w ∈ lw_g := List.mem_filter.mpr ⟨List.mem_append_left _ (List.mem_of_getElem? h), g⟩
theorem qa1 {w : Cond} (i : Nat) (h : tables_1_1[i]? = some w) (g : goodWord w = true) : w ∈ lw_g := List.mem_filter.mpr ⟨List.mem_append_right _ (List.mem_append_left _ (List.mem_of_getElem? h)), g⟩
theorem qa2 {w : Cond} (i : Nat) (h : tables_1_2[i]? = some w) (g : goodWord w = true) : w ∈ lw_g := List.mem_filter.mpr ⟨List.mem_append_right _ (List.mem_append_right _ (List.mem_append_left _ (List.mem_of_getElem? h))), g⟩
theorem qa3 {w : Cond} (i : Nat) (h : tables_1_3[i]? = some w) (g : goodWord w = true) : w ∈ lw_g := List.mem_filter.mpr ⟨List.mem_append_right _ (List.mem_append_right _ (List.mem_append_right _ (List.mem_of_getElem? h))), g⟩
theorem q_ao : (Cond.arrayOver (.object RX1)) ∈ lw_tbl := List.mem_append_right _ (List.mem_append_left _ (List.mem_of_getElem? (i := 16) (by decide +kernel)))
theorem q_ini_RL : (Cond.initialized RL) ∈ lw_g := qa1 0 (by decide +kernel) rfl
theorem q_ini_RX3 : (Cond.initialized RX3) ∈ lw_g := qa1 1 (by decide +kernel) rfl
theorem q_ini_RX0 : (Cond.initialized RX0) ∈ lw_g := qa1 2 (by decide +kernel) rfl
theorem q_ini_RX4 : (Cond.initialized RX4) ∈ lw_g := qa1 3 (by decide +kernel) rfl
theorem q_ini_RX1 : (Cond.initialized RX1) ∈ lw_g := qa1 4 (by decide +kernel) rfl
theorem q_ini_RX2 : (Cond.initialized RX2) ∈ lw_g := qa1 5 (by decide +kernel) rfl
theorem q_ini_RJ9 : (Cond.initialized RJ9) ∈ lw_g := qa1 6 (by decide +kernel) rfl
theorem q_cl_RL_7 : (Cond.classLink RL 7 RX3) ∈ lw_g := qa1 7 (by decide +kernel) rfl
theorem q_in_RX3 : (Cond.instantiable RX3 6) ∈ lw_g := qa1 8 (by decide +kernel) rfl
theorem q_ml_RL_9 : (Cond.methodLink RL 9 yX3_init) ∈ lw_g := qa1 9 (by decide +kernel) rfl
theorem q_im_yX3_init : (Cond.instanceMethod yX3_init) ∈ lw_g := qa1 10 (by decide +kernel) rfl
theorem q_co_yX3_init : (Cond.code yX3_init cX3_init 1 none) ∈ lw_g := qa1 11 (by decide +kernel) rfl
theorem q_ml_RX3_3 : (Cond.methodLink RX3 3 objectInit) ∈ lw_g := qa1 12 (by decide +kernel) rfl
theorem q_im_objectInit : (Cond.instanceMethod objectInit) ∈ lw_g := qa1 13 (by decide +kernel) rfl
theorem q_co_objectInit : (Cond.code objectInit ⟨#[0xb1]⟩ 1 none) ∈ lw_g := qa1 14 (by decide +kernel) rfl
theorem q_cl_RX3_9 : (Cond.classLink RX3 9 RX1) ∈ lw_g := qa1 15 (by decide +kernel) rfl
theorem q_cl_RX3_22 : (Cond.classLink RX3 22 RX0) ∈ lw_g := qa1 17 (by decide +kernel) rfl
theorem q_in_RX0 : (Cond.instantiable RX0 3) ∈ lw_g := qa1 18 (by decide +kernel) rfl
theorem q_ml_RX3_24 : (Cond.methodLink RX3 24 yX0_init) ∈ lw_g := qa1 19 (by decide +kernel) rfl
theorem q_im_yX0_init : (Cond.instanceMethod yX0_init) ∈ lw_g := qa1 20 (by decide +kernel) rfl
theorem q_co_yX0_init : (Cond.code yX0_init cX0_init 1 none) ∈ lw_g := qa1 21 (by decide +kernel) rfl
theorem q_ml_RX0_3 : (Cond.methodLink RX0 3 objectInit) ∈ lw_g := qa1 22 (by decide +kernel) rfl
theorem q_fl_RX0_9 : (Cond.fieldLink RX0 9 "BagRows$Notes" "dueTimes" "[J") ∈ lw_g := qa1 23 (by decide +kernel) rfl
theorem q_fl_RX0_15 : (Cond.fieldLink RX0 15 "BagRows$Notes" "count" "I") ∈ lw_g := qa1 24 (by decide +kernel) rfl
theorem q_fl_RX0_19 : (Cond.fieldLink RX0 19 "BagRows$Notes" "told" "I") ∈ lw_g := qa1 25 (by decide +kernel) rfl
theorem q_ac_int : (Cond.arrayClass .int) ∈ lw_g := qa1 33 (by decide +kernel) rfl
theorem q_ac_long : (Cond.arrayClass .long) ∈ lw_g := qa1 34 (by decide +kernel) rfl
theorem q_fl_RX3_11 : (Cond.fieldLink RX3 11 "BagRows" "receptacles" "[LBagRows$Receptacle;") ∈ lw_g := qa1 35 (by decide +kernel) rfl
theorem q_fl_RX3_29 : (Cond.fieldLink RX3 29 "BagRows" "receptacleCount" "I") ∈ lw_g := qa1 36 (by decide +kernel) rfl
theorem q_fl_RX3_15 : (Cond.fieldLink RX3 15 "BagRows" "holders" "[I") ∈ lw_g := qa1 37 (by decide +kernel) rfl
theorem q_fl_RX3_19 : (Cond.fieldLink RX3 19 "BagRows" "ownPlaces" "[I") ∈ lw_g := qa1 38 (by decide +kernel) rfl
theorem q_fl_RX3_25 : (Cond.fieldLink RX3 25 "BagRows" "notes" "LBagRows$Notes;") ∈ lw_g := qa1 39 (by decide +kernel) rfl
theorem q_fl_RX3_104 : (Cond.fieldLink RX3 104 "BagRows" "time" "J") ∈ lw_g := qa1 40 (by decide +kernel) rfl
theorem q_ml_RL_13 : (Cond.methodLink RL 13 yX3_bag) ∈ lw_g := qa1 54 (by decide +kernel) rfl
theorem q_im_yX3_bag : (Cond.instanceMethod yX3_bag) ∈ lw_g := qa1 55 (by decide +kernel) rfl
theorem q_se_yX3_bag : (Cond.selects RX3 yX3_bag yX3_bag) ∈ lw_g := qa1 56 (by decide +kernel) rfl
theorem q_co_yX3_bag : (Cond.code yX3_bag cX3_bag 3 (some .int)) ∈ lw_g := qa1 57 (by decide +kernel) rfl
theorem q_in_RX1 : (Cond.instantiable RX1 11) ∈ lw_g := qa1 58 (by decide +kernel) rfl
theorem q_ml_RX3_33 : (Cond.methodLink RX3 33 yX1_init) ∈ lw_g := qa1 59 (by decide +kernel) rfl
theorem q_im_yX1_init : (Cond.instanceMethod yX1_init) ∈ lw_g := qa1 60 (by decide +kernel) rfl
theorem q_co_yX1_init : (Cond.code yX1_init cX1_init 2 none) ∈ lw_g := qa1 61 (by decide +kernel) rfl
theorem q_ml_RX1_3 : (Cond.methodLink RX1 3 objectInit) ∈ lw_g := qa1 62 (by decide +kernel) rfl
theorem q_cl_RX1_15 : (Cond.classLink RX1 15 RX2) ∈ lw_g := qa1 63 (by decide +kernel) rfl
theorem q_in_RX2 : (Cond.instantiable RX2 2) ∈ lw_g := qa1 64 (by decide +kernel) rfl
theorem q_ml_RX1_17 : (Cond.methodLink RX1 17 yX2_init) ∈ lw_g := qa1 65 (by decide +kernel) rfl
theorem q_im_yX2_init : (Cond.instanceMethod yX2_init) ∈ lw_g := qa1 66 (by decide +kernel) rfl
theorem q_co_yX2_init : (Cond.code yX2_init cX2_init 2 none) ∈ lw_g := qa1 67 (by decide +kernel) rfl
theorem q_ml_RX2_1 : (Cond.methodLink RX2 1 objectInit) ∈ lw_g := qa1 68 (by decide +kernel) rfl
theorem q_fl_RX2_7 : (Cond.fieldLink RX2 7 "BagRows$Row" "numbers" "[I") ∈ lw_g := qa1 69 (by decide +kernel) rfl
theorem q_fl_RX2_13 : (Cond.fieldLink RX2 13 "BagRows$Row" "size" "I") ∈ lw_g := qa1 70 (by decide +kernel) rfl
theorem q_fl_RX1_9 : (Cond.fieldLink RX1 9 "BagRows$Receptacle" "kind" "I") ∈ lw_g := qa1 76 (by decide +kernel) rfl
theorem q_fl_RX3_176 : (Cond.fieldLink RX3 176 "BagRows$Receptacle" "kind" "I") ∈ lw_g := qa1 77 (by decide +kernel) rfl
theorem q_fl_RX1_39 : (Cond.fieldLink RX1 39 "BagRows$Receptacle" "closed" "Z") ∈ lw_g := qa1 78 (by decide +kernel) rfl
theorem q_fl_RX3_93 : (Cond.fieldLink RX3 93 "BagRows$Receptacle" "closed" "Z") ∈ lw_g := qa1 79 (by decide +kernel) rfl
theorem q_fl_RX1_43 : (Cond.fieldLink RX1 43 "BagRows$Receptacle" "everClosed" "Z") ∈ lw_g := qa1 80 (by decide +kernel) rfl
theorem q_fl_RX1_46 : (Cond.fieldLink RX1 46 "BagRows$Receptacle" "seal" "J") ∈ lw_g := qa1 81 (by decide +kernel) rfl
theorem q_fl_RX1_50 : (Cond.fieldLink RX1 50 "BagRows$Receptacle" "closer" "I") ∈ lw_g := qa1 82 (by decide +kernel) rfl
theorem q_fl_RX1_20 : (Cond.fieldLink RX1 20 "BagRows$Receptacle" "content" "LBagRows$Row;") ∈ lw_g := qa1 83 (by decide +kernel) rfl
theorem q_fl_RX3_58 : (Cond.fieldLink RX3 58 "BagRows$Receptacle" "content" "LBagRows$Row;") ∈ lw_g := qa1 84 (by decide +kernel) rfl
theorem q_fl_RX1_24 : (Cond.fieldLink RX1 24 "BagRows$Receptacle" "list" "LBagRows$Row;") ∈ lw_g := qa1 85 (by decide +kernel) rfl
theorem q_fl_RX3_86 : (Cond.fieldLink RX3 86 "BagRows$Receptacle" "list" "LBagRows$Row;") ∈ lw_g := qa1 86 (by decide +kernel) rfl
theorem q_fl_RX1_27 : (Cond.fieldLink RX1 27 "BagRows$Receptacle" "wrongSeals" "LBagRows$Row;") ∈ lw_g := qa1 87 (by decide +kernel) rfl
theorem q_fl_RX1_30 : (Cond.fieldLink RX1 30 "BagRows$Receptacle" "wrongWeighings" "LBagRows$Row;") ∈ lw_g := qa1 88 (by decide +kernel) rfl
theorem q_fl_RX3_154 : (Cond.fieldLink RX3 154 "BagRows$Receptacle" "wrongWeighings" "LBagRows$Row;") ∈ lw_g := qa1 89 (by decide +kernel) rfl
theorem q_fl_RX1_33 : (Cond.fieldLink RX1 33 "BagRows$Receptacle" "missing" "LBagRows$Row;") ∈ lw_g := qa1 90 (by decide +kernel) rfl
theorem q_fl_RX3_120 : (Cond.fieldLink RX3 120 "BagRows$Receptacle" "missing" "LBagRows$Row;") ∈ lw_g := qa1 91 (by decide +kernel) rfl
theorem q_fl_RX1_36 : (Cond.fieldLink RX1 36 "BagRows$Receptacle" "extras" "LBagRows$Row;") ∈ lw_g := qa1 92 (by decide +kernel) rfl
theorem q_fl_RX3_126 : (Cond.fieldLink RX3 126 "BagRows$Receptacle" "extras" "LBagRows$Row;") ∈ lw_g := qa1 93 (by decide +kernel) rfl
theorem q_ml_RL_18 : (Cond.methodLink RL 18 yX3_into) ∈ lw_g := qa1 117 (by decide +kernel) rfl
theorem q_im_yX3_into : (Cond.instanceMethod yX3_into) ∈ lw_g := qa1 118 (by decide +kernel) rfl
theorem q_se_yX3_into : (Cond.selects RX3 yX3_into yX3_into) ∈ lw_g := qa1 119 (by decide +kernel) rfl
theorem q_co_yX3_into : (Cond.code yX3_into cX3_into 4 (some .int)) ∈ lw_g := qa1 120 (by decide +kernel) rfl
theorem q_ml_RX3_36 : (Cond.methodLink RX3 36 yX3_receptacleOf) ∈ lw_g := qa1 121 (by decide +kernel) rfl
theorem q_im_yX3_receptacleOf : (Cond.instanceMethod yX3_receptacleOf) ∈ lw_g := qa1 123 (by decide +kernel) rfl
theorem q_co_yX3_receptacleOf : (Cond.code yX3_receptacleOf cX3_receptacleOf 3 (some (.object "BagRows$Receptacle"))) ∈ lw_g := qa1 124 (by decide +kernel) rfl
theorem q_ml_RX3_40 : (Cond.methodLink RX3 40 yX3_isThing) ∈ lw_g := qa1 125 (by decide +kernel) rfl
theorem q_im_yX3_isThing : (Cond.instanceMethod yX3_isThing) ∈ lw_g := qa1 127 (by decide +kernel) rfl
theorem q_co_yX3_isThing : (Cond.code yX3_isThing cX3_isThing 2 (some .boolean)) ∈ lw_g := qa1 128 (by decide +kernel) rfl
theorem q_ml_RX3_173 : (Cond.methodLink RX3 173 yX3_isItem) ∈ lw_g := qa1 129 (by decide +kernel) rfl
theorem q_st_yX3_isItem : (Cond.static yX3_isItem) ∈ lw_g := qa1 130 (by decide +kernel) rfl
theorem q_co_yX3_isItem : (Cond.code yX3_isItem cX3_isItem 1 (some .boolean)) ∈ lw_g := qa1 131 (by decide +kernel) rfl
theorem q_ml_RX3_44 : (Cond.methodLink RX3 44 yX3_isShut) ∈ lw_g := qa1 132 (by decide +kernel) rfl
theorem q_im_yX3_isShut : (Cond.instanceMethod yX3_isShut) ∈ lw_g := qa1 134 (by decide +kernel) rfl
theorem q_co_yX3_isShut : (Cond.code yX3_isShut cX3_isShut 5 (some .boolean)) ∈ lw_g := qa1 135 (by decide +kernel) rfl
theorem q_ml_RX3_47 : (Cond.methodLink RX3 47 yX3_holderOf) ∈ lw_g := qa1 136 (by decide +kernel) rfl
theorem q_im_yX3_holderOf : (Cond.instanceMethod yX3_holderOf) ∈ lw_g := qa1 138 (by decide +kernel) rfl
theorem q_co_yX3_holderOf : (Cond.code yX3_holderOf cX3_holderOf 2 (some .int)) ∈ lw_g := qa1 139 (by decide +kernel) rfl
theorem q_ml_RX3_51 : (Cond.methodLink RX3 51 yX3_isLesser) ∈ lw_g := qa1 140 (by decide +kernel) rfl
theorem q_im_yX3_isLesser : (Cond.instanceMethod yX3_isLesser) ∈ lw_g := qa1 142 (by decide +kernel) rfl
theorem q_co_yX3_isLesser : (Cond.code yX3_isLesser cX3_isLesser 5 (some .boolean)) ∈ lw_g := qa1 143 (by decide +kernel) rfl
theorem q_ml_RX3_55 : (Cond.methodLink RX3 55 yX3_placeOf) ∈ lw_g := qa1 144 (by decide +kernel) rfl
theorem q_im_yX3_placeOf : (Cond.instanceMethod yX3_placeOf) ∈ lw_g := qa1 146 (by decide +kernel) rfl
theorem q_co_yX3_placeOf : (Cond.code yX3_placeOf cX3_placeOf 4 (some .int)) ∈ lw_g := qa1 147 (by decide +kernel) rfl
theorem q_ml_RX3_62 : (Cond.methodLink RX3 62 yX2_isFull) ∈ lw_g := qa1 148 (by decide +kernel) rfl
theorem q_im_yX2_isFull : (Cond.instanceMethod yX2_isFull) ∈ lw_g := qa1 149 (by decide +kernel) rfl
theorem q_se_yX2_isFull : (Cond.selects RX2 yX2_isFull yX2_isFull) ∈ lw_g := qa1 150 (by decide +kernel) rfl
theorem q_co_yX2_isFull : (Cond.code yX2_isFull cX2_isFull 1 (some .boolean)) ∈ lw_g := qa1 151 (by decide +kernel) rfl
theorem q_ml_RX3_68 : (Cond.methodLink RX3 68 yX3_putIn) ∈ lw_g := qa1 152 (by decide +kernel) rfl
theorem q_im_yX3_putIn : (Cond.instanceMethod yX3_putIn) ∈ lw_g := qa1 154 (by decide +kernel) rfl
theorem q_co_yX3_putIn : (Cond.code yX3_putIn cX3_putIn 4 none) ∈ lw_g := qa1 155 (by decide +kernel) rfl
theorem q_ml_RX3_157 : (Cond.methodLink RX3 157 yX2_append) ∈ lw_g := qa1 156 (by decide +kernel) rfl
theorem q_im_yX2_append : (Cond.instanceMethod yX2_append) ∈ lw_g := qa1 157 (by decide +kernel) rfl
theorem q_se_yX2_append : (Cond.selects RX2 yX2_append yX2_append) ∈ lw_g := qa1 158 (by decide +kernel) rfl
theorem q_co_yX2_append : (Cond.code yX2_append cX2_append 2 none) ∈ lw_g := qa1 159 (by decide +kernel) rfl
theorem q_ml_RX3_179 : (Cond.methodLink RX3 179 yX3_setHolder) ∈ lw_g := qa1 160 (by decide +kernel) rfl
theorem q_im_yX3_setHolder : (Cond.instanceMethod yX3_setHolder) ∈ lw_g := qa1 162 (by decide +kernel) rfl
theorem q_co_yX3_setHolder : (Cond.code yX3_setHolder cX3_setHolder 3 none) ∈ lw_g := qa1 163 (by decide +kernel) rfl
theorem q_ml_RL_23 : (Cond.methodLink RL 23 yX3_take) ∈ lw_g := qa1 164 (by decide +kernel) rfl
theorem q_im_yX3_take : (Cond.instanceMethod yX3_take) ∈ lw_g := qa1 165 (by decide +kernel) rfl
theorem q_se_yX3_take : (Cond.selects RX3 yX3_take yX3_take) ∈ lw_g := qa1 166 (by decide +kernel) rfl
theorem q_co_yX3_take : (Cond.code yX3_take cX3_take 3 (some .int)) ∈ lw_g := qa1 167 (by decide +kernel) rfl
theorem q_ml_RX3_72 : (Cond.methodLink RX3 72 yX3_takeOut) ∈ lw_g := qa1 168 (by decide +kernel) rfl
theorem q_im_yX3_takeOut : (Cond.instanceMethod yX3_takeOut) ∈ lw_g := qa1 170 (by decide +kernel) rfl
theorem q_co_yX3_takeOut : (Cond.code yX3_takeOut cX3_takeOut 3 none) ∈ lw_g := qa1 171 (by decide +kernel) rfl
theorem q_ml_RX3_160 : (Cond.methodLink RX3 160 yX3_setOwnPlace) ∈ lw_g := qa1 172 (by decide +kernel) rfl
theorem q_im_yX3_setOwnPlace : (Cond.instanceMethod yX3_setOwnPlace) ∈ lw_g := qa1 174 (by decide +kernel) rfl
theorem q_co_yX3_setOwnPlace : (Cond.code yX3_setOwnPlace cX3_setOwnPlace 3 none) ∈ lw_g := qa1 175 (by decide +kernel) rfl
theorem q_ml_RX3_123 : (Cond.methodLink RX3 123 yX2_remove) ∈ lw_g := qa1 176 (by decide +kernel) rfl
theorem q_im_yX2_remove : (Cond.instanceMethod yX2_remove) ∈ lw_g := qa1 177 (by decide +kernel) rfl
theorem q_se_yX2_remove : (Cond.selects RX2 yX2_remove yX2_remove) ∈ lw_g := qa1 178 (by decide +kernel) rfl
theorem q_co_yX2_remove : (Cond.code yX2_remove cX2_remove 4 none) ∈ lw_g := qa1 179 (by decide +kernel) rfl
theorem q_ml_RL_29 : (Cond.methodLink RL 29 yX3_close) ∈ lw_g := qa1 180 (by decide +kernel) rfl
theorem q_im_yX3_close : (Cond.instanceMethod yX3_close) ∈ lw_g := qa1 181 (by decide +kernel) rfl
theorem q_se_yX3_close : (Cond.selects RX3 yX3_close yX3_close) ∈ lw_g := qa1 182 (by decide +kernel) rfl
theorem q_co_yX3_close : (Cond.code yX3_close cX3_close 6 (some .int)) ∈ lw_g := qa1 183 (by decide +kernel) rfl
theorem q_ml_RX3_75 : (Cond.methodLink RX3 75 yX3_isSeal) ∈ lw_g := qa1 184 (by decide +kernel) rfl
theorem q_st_yX3_isSeal : (Cond.static yX3_isSeal) ∈ lw_g := qa1 185 (by decide +kernel) rfl
theorem q_co_yX3_isSeal : (Cond.code yX3_isSeal cX3_isSeal 2 (some .boolean)) ∈ lw_g := qa1 186 (by decide +kernel) rfl
theorem q_kl_RX3_140 : (Cond.constantLong RX3 140 (1000000000)) ∈ lw_g := qa1 187 (by decide +kernel) rfl
theorem q_ml_RX3_79 : (Cond.methodLink RX3 79 yX3_isPerson) ∈ lw_g := qa1 188 (by decide +kernel) rfl
theorem q_st_yX3_isPerson : (Cond.static yX3_isPerson) ∈ lw_g := qa1 189 (by decide +kernel) rfl
theorem q_co_yX3_isPerson : (Cond.code yX3_isPerson cX3_isPerson 1 (some .boolean)) ∈ lw_g := qa1 190 (by decide +kernel) rfl
theorem q_ml_RX3_82 : (Cond.methodLink RX3 82 yX1_shut) ∈ lw_g := qa1 191 (by decide +kernel) rfl
theorem q_im_yX1_shut : (Cond.instanceMethod yX1_shut) ∈ lw_g := qa1 192 (by decide +kernel) rfl
theorem q_se_yX1_shut : (Cond.selects RX1 yX1_shut yX1_shut) ∈ lw_g := qa1 193 (by decide +kernel) rfl
theorem q_co_yX1_shut : (Cond.code yX1_shut cX1_shut 4 none) ∈ lw_g := qa1 194 (by decide +kernel) rfl
theorem q_ml_RX1_53 : (Cond.methodLink RX1 53 yX2_becomeLike) ∈ lw_g := qa1 195 (by decide +kernel) rfl
theorem q_im_yX2_becomeLike : (Cond.instanceMethod yX2_becomeLike) ∈ lw_g := qa1 196 (by decide +kernel) rfl
theorem q_se_yX2_becomeLike : (Cond.selects RX2 yX2_becomeLike yX2_becomeLike) ∈ lw_g := qa1 197 (by decide +kernel) rfl
theorem q_co_yX2_becomeLike : (Cond.code yX2_becomeLike cX2_becomeLike 3 none) ∈ lw_g := qa1 198 (by decide +kernel) rfl
theorem q_ml_RX2_17 : (Cond.methodLink RX2 17 yX2_clear) ∈ lw_g := qa1 199 (by decide +kernel) rfl
theorem q_im_yX2_clear : (Cond.instanceMethod yX2_clear) ∈ lw_g := qa1 200 (by decide +kernel) rfl
theorem q_se_yX2_clear : (Cond.selects RX2 yX2_clear yX2_clear) ∈ lw_g := qa1 201 (by decide +kernel) rfl
theorem q_co_yX2_clear : (Cond.code yX2_clear cX2_clear 1 none) ∈ lw_g := qa1 202 (by decide +kernel) rfl
theorem q_ml_RX2_20 : (Cond.methodLink RX2 20 yX2_size) ∈ lw_g := qa1 203 (by decide +kernel) rfl
theorem q_im_yX2_size : (Cond.instanceMethod yX2_size) ∈ lw_g := qa1 204 (by decide +kernel) rfl
theorem q_se_yX2_size : (Cond.selects RX2 yX2_size yX2_size) ∈ lw_g := qa1 205 (by decide +kernel) rfl
theorem q_co_yX2_size : (Cond.code yX2_size cX2_size 1 (some .int)) ∈ lw_g := qa1 206 (by decide +kernel) rfl
theorem q_ml_RX2_23 : (Cond.methodLink RX2 23 yX2_at) ∈ lw_g := qa1 207 (by decide +kernel) rfl
theorem q_im_yX2_at : (Cond.instanceMethod yX2_at) ∈ lw_g := qa1 208 (by decide +kernel) rfl
theorem q_se_yX2_at : (Cond.selects RX2 yX2_at yX2_at) ∈ lw_g := qa1 209 (by decide +kernel) rfl
theorem q_co_yX2_at : (Cond.code yX2_at cX2_at 2 (some .int)) ∈ lw_g := qa1 210 (by decide +kernel) rfl
theorem q_ml_RX2_27 : (Cond.methodLink RX2 27 yX2_append) ∈ lw_g := qa1 211 (by decide +kernel) rfl
theorem q_ml_RX1_57 : (Cond.methodLink RX1 57 yX2_clear) ∈ lw_g := qa1 212 (by decide +kernel) rfl
theorem q_ml_RX3_89 : (Cond.methodLink RX3 89 yX2_size) ∈ lw_g := qa1 213 (by decide +kernel) rfl
theorem q_ml_RL_34 : (Cond.methodLink RL 34 yX3_open) ∈ lw_g := qa1 214 (by decide +kernel) rfl
theorem q_im_yX3_open : (Cond.instanceMethod yX3_open) ∈ lw_g := qa1 215 (by decide +kernel) rfl
theorem q_se_yX3_open : (Cond.selects RX3 yX3_open yX3_open) ∈ lw_g := qa1 216 (by decide +kernel) rfl
theorem q_co_yX3_open : (Cond.code yX3_open cX3_open 7 (some .int)) ∈ lw_g := qa1 217 (by decide +kernel) rfl
theorem q_ml_RX3_97 : (Cond.methodLink RX3 97 yX1_mayBeOpenedBy) ∈ lw_g := qa1 218 (by decide +kernel) rfl
theorem q_im_yX1_mayBeOpenedBy : (Cond.instanceMethod yX1_mayBeOpenedBy) ∈ lw_g := qa1 219 (by decide +kernel) rfl
theorem q_se_yX1_mayBeOpenedBy : (Cond.selects RX1 yX1_mayBeOpenedBy yX1_mayBeOpenedBy) ∈ lw_g := qa1 220 (by decide +kernel) rfl
theorem q_co_yX1_mayBeOpenedBy : (Cond.code yX1_mayBeOpenedBy cX1_mayBeOpenedBy 3 (some .boolean)) ∈ lw_g := qa1 221 (by decide +kernel) rfl
theorem q_ml_RX3_101 : (Cond.methodLink RX3 101 yX1_unseal) ∈ lw_g := qa1 222 (by decide +kernel) rfl
theorem q_im_yX1_unseal : (Cond.instanceMethod yX1_unseal) ∈ lw_g := qa1 223 (by decide +kernel) rfl
theorem q_se_yX1_unseal : (Cond.selects RX1 yX1_unseal yX1_unseal) ∈ lw_g := qa1 224 (by decide +kernel) rfl
theorem q_co_yX1_unseal : (Cond.code yX1_unseal cX1_unseal 3 (some .boolean)) ∈ lw_g := qa1 225 (by decide +kernel) rfl
theorem q_ml_RX1_60 : (Cond.methodLink RX1 60 yX2_append) ∈ lw_g := qa1 226 (by decide +kernel) rfl
theorem q_kl_RX3_108 : (Cond.constantLong RX3 108 (100)) ∈ lw_g := qa1 227 (by decide +kernel) rfl
theorem q_ml_RX3_110 : (Cond.methodLink RX3 110 yX0_add) ∈ lw_g := qa1 228 (by decide +kernel) rfl
theorem q_im_yX0_add : (Cond.instanceMethod yX0_add) ∈ lw_g := qa1 229 (by decide +kernel) rfl
theorem q_se_yX0_add : (Cond.selects RX0 yX0_add yX0_add) ∈ lw_g := qa1 230 (by decide +kernel) rfl
theorem q_co_yX0_add : (Cond.code yX0_add cX0_add 3 none) ∈ lw_g := qa1 231 (by decide +kernel) rfl
theorem q_ml_RL_39 : (Cond.methodLink RL 39 yX3_found) ∈ lw_g := qa1 232 (by decide +kernel) rfl
theorem q_im_yX3_found : (Cond.instanceMethod yX3_found) ∈ lw_g := qa1 233 (by decide +kernel) rfl
theorem q_se_yX3_found : (Cond.selects RX3 yX3_found yX3_found) ∈ lw_g := qa1 234 (by decide +kernel) rfl
theorem q_co_yX3_found : (Cond.code yX3_found cX3_found 4 (some .int)) ∈ lw_g := qa1 235 (by decide +kernel) rfl
theorem q_ml_RX3_114 : (Cond.methodLink RX3 114 yX1_isChecked) ∈ lw_g := qa1 236 (by decide +kernel) rfl
theorem q_im_yX1_isChecked : (Cond.instanceMethod yX1_isChecked) ∈ lw_g := qa1 237 (by decide +kernel) rfl
theorem q_se_yX1_isChecked : (Cond.selects RX1 yX1_isChecked yX1_isChecked) ∈ lw_g := qa1 238 (by decide +kernel) rfl
theorem q_co_yX1_isChecked : (Cond.code yX1_isChecked cX1_isChecked 1 (some .boolean)) ∈ lw_g := qa1 239 (by decide +kernel) rfl
theorem q_ml_RX3_117 : (Cond.methodLink RX3 117 yX2_holds) ∈ lw_g := qa2 0 (by decide +kernel) rfl
theorem q_im_yX2_holds : (Cond.instanceMethod yX2_holds) ∈ lw_g := qa2 1 (by decide +kernel) rfl
theorem q_se_yX2_holds : (Cond.selects RX2 yX2_holds yX2_holds) ∈ lw_g := qa2 2 (by decide +kernel) rfl
theorem q_co_yX2_holds : (Cond.code yX2_holds cX2_holds 3 (some .boolean)) ∈ lw_g := qa2 3 (by decide +kernel) rfl
theorem q_ml_RX3_129 : (Cond.methodLink RX3 129 yX3_foundExtra) ∈ lw_g := qa2 4 (by decide +kernel) rfl
theorem q_im_yX3_foundExtra : (Cond.instanceMethod yX3_foundExtra) ∈ lw_g := qa2 6 (by decide +kernel) rfl
theorem q_co_yX3_foundExtra : (Cond.code yX3_foundExtra cX3_foundExtra 5 (some .int)) ∈ lw_g := qa2 7 (by decide +kernel) rfl
theorem q_ml_RL_43 : (Cond.methodLink RL 43 yX3_differ) ∈ lw_g := qa2 8 (by decide +kernel) rfl
theorem q_im_yX3_differ : (Cond.instanceMethod yX3_differ) ∈ lw_g := qa2 9 (by decide +kernel) rfl
theorem q_se_yX3_differ : (Cond.selects RX3 yX3_differ yX3_differ) ∈ lw_g := qa2 10 (by decide +kernel) rfl
theorem q_co_yX3_differ : (Cond.code yX3_differ cX3_differ 8 (some .int)) ∈ lw_g := qa2 11 (by decide +kernel) rfl
theorem q_ml_RX3_133 : (Cond.methodLink RX3 133 yX1_differencesOf) ∈ lw_g := qa2 12 (by decide +kernel) rfl
theorem q_im_yX1_differencesOf : (Cond.instanceMethod yX1_differencesOf) ∈ lw_g := qa2 13 (by decide +kernel) rfl
theorem q_se_yX1_differencesOf : (Cond.selects RX1 yX1_differencesOf yX1_differencesOf) ∈ lw_g := qa2 14 (by decide +kernel) rfl
theorem q_co_yX1_differencesOf : (Cond.code yX1_differencesOf cX1_differencesOf 2 (some (.object "BagRows$Row"))) ∈ lw_g := qa2 15 (by decide +kernel) rfl
theorem q_ml_RX3_137 : (Cond.methodLink RX3 137 yX2_at) ∈ lw_g := qa2 16 (by decide +kernel) rfl
theorem q_ml_RL_48 : (Cond.methodLink RL 48 yX3_inside) ∈ lw_g := qa2 17 (by decide +kernel) rfl
theorem q_im_yX3_inside : (Cond.instanceMethod yX3_inside) ∈ lw_g := qa2 18 (by decide +kernel) rfl
theorem q_se_yX3_inside : (Cond.selects RX3 yX3_inside yX3_inside) ∈ lw_g := qa2 19 (by decide +kernel) rfl
theorem q_co_yX3_inside : (Cond.code yX3_inside cX3_inside 2 (some .int)) ∈ lw_g := qa2 20 (by decide +kernel) rfl
theorem q_ml_RL_52 : (Cond.methodLink RL 52 yX3_weight) ∈ lw_g := qa2 21 (by decide +kernel) rfl
theorem q_im_yX3_weight : (Cond.instanceMethod yX3_weight) ∈ lw_g := qa2 22 (by decide +kernel) rfl
theorem q_se_yX3_weight : (Cond.selects RX3 yX3_weight yX3_weight) ∈ lw_g := qa2 23 (by decide +kernel) rfl
theorem q_co_yX3_weight : (Cond.code yX3_weight cX3_weight 7 (some .int)) ∈ lw_g := qa2 24 (by decide +kernel) rfl
theorem q_ml_RX3_142 : (Cond.methodLink RX3 142 yX3_weightOf) ∈ lw_g := qa2 25 (by decide +kernel) rfl
theorem q_im_yX3_weightOf : (Cond.instanceMethod yX3_weightOf) ∈ lw_g := qa2 27 (by decide +kernel) rfl
theorem q_co_yX3_weightOf : (Cond.code yX3_weightOf cX3_weightOf 6 (some .long)) ∈ lw_g := qa2 28 (by decide +kernel) rfl
theorem q_ml_RX3_182 : (Cond.methodLink RX3 182 yX3_isWithin) ∈ lw_g := qa2 29 (by decide +kernel) rfl
theorem q_im_yX3_isWithin : (Cond.instanceMethod yX3_isWithin) ∈ lw_g := qa2 31 (by decide +kernel) rfl
theorem q_co_yX3_isWithin : (Cond.code yX3_isWithin cX3_isWithin 5 (some .boolean)) ∈ lw_g := qa2 32 (by decide +kernel) rfl
theorem q_ml_RX3_185 : (Cond.methodLink RX3 185 yX3_weightOfItems) ∈ lw_g := qa2 33 (by decide +kernel) rfl
theorem q_st_yX3_weightOfItems : (Cond.static yX3_weightOfItems) ∈ lw_g := qa2 34 (by decide +kernel) rfl
theorem q_co_yX3_weightOfItems : (Cond.code yX3_weightOfItems cX3_weightOfItems 5 (some .long)) ∈ lw_g := qa2 35 (by decide +kernel) rfl
theorem q_ml_RX3_146 : (Cond.methodLink RX3 146 yJ9_abs_067f4) ∈ lw_g := qa2 36 (by decide +kernel) rfl
theorem q_st_Lib_MathLoose_abs_long_x : (Cond.static Lib.MathLoose.abs_long.x) ∈ lw_g := qa2 37 (by decide +kernel) rfl
theorem q_co_mabs : (Cond.code Lib.MathLoose.abs_long.x Lib.MathLoose.abs_long.code 2 (some .long)) ∈ lw_g := qa2 38 (by decide +kernel) rfl
theorem q_kl_RX3_152 : (Cond.constantLong RX3 152 (50)) ∈ lw_g := qa2 39 (by decide +kernel) rfl
theorem q_ml_RL_57 : (Cond.methodLink RL 57 yX3_document) ∈ lw_g := qa2 40 (by decide +kernel) rfl
theorem q_im_yX3_document : (Cond.instanceMethod yX3_document) ∈ lw_g := qa2 41 (by decide +kernel) rfl
theorem q_se_yX3_document : (Cond.selects RX3 yX3_document yX3_document) ∈ lw_g := qa2 42 (by decide +kernel) rfl
theorem q_co_yX3_document : (Cond.code yX3_document cX3_document 4 (some .int)) ∈ lw_g := qa2 43 (by decide +kernel) rfl
theorem q_ml_RL_61 : (Cond.methodLink RL 61 yX3_move) ∈ lw_g := qa2 44 (by decide +kernel) rfl
theorem q_im_yX3_move : (Cond.instanceMethod yX3_move) ∈ lw_g := qa2 45 (by decide +kernel) rfl
theorem q_se_yX3_move : (Cond.selects RX3 yX3_move yX3_move) ∈ lw_g := qa2 46 (by decide +kernel) rfl
theorem q_co_yX3_move : (Cond.code yX3_move cX3_move 4 (some .int)) ∈ lw_g := qa2 47 (by decide +kernel) rfl
theorem q_ml_RX3_164 : (Cond.methodLink RX3 164 yX3_thingsOf) ∈ lw_g := qa2 48 (by decide +kernel) rfl
theorem q_im_yX3_thingsOf : (Cond.instanceMethod yX3_thingsOf) ∈ lw_g := qa2 50 (by decide +kernel) rfl
theorem q_co_yX3_thingsOf : (Cond.code yX3_thingsOf cX3_thingsOf 5 (some .int)) ∈ lw_g := qa2 51 (by decide +kernel) rfl
theorem q_ml_RL_65 : (Cond.methodLink RL 65 yX3_place) ∈ lw_g := qa2 52 (by decide +kernel) rfl
theorem q_im_yX3_place : (Cond.instanceMethod yX3_place) ∈ lw_g := qa2 53 (by decide +kernel) rfl
theorem q_se_yX3_place : (Cond.selects RX3 yX3_place yX3_place) ∈ lw_g := qa2 54 (by decide +kernel) rfl
theorem q_co_yX3_place : (Cond.code yX3_place cX3_place 2 (some .int)) ∈ lw_g := qa2 55 (by decide +kernel) rfl
theorem q_ml_RL_69 : (Cond.methodLink RL 69 yX3_tick) ∈ lw_g := qa2 56 (by decide +kernel) rfl
theorem q_im_yX3_tick : (Cond.instanceMethod yX3_tick) ∈ lw_g := qa2 57 (by decide +kernel) rfl
theorem q_se_yX3_tick : (Cond.selects RX3 yX3_tick yX3_tick) ∈ lw_g := qa2 58 (by decide +kernel) rfl
theorem q_co_yX3_tick : (Cond.code yX3_tick cX3_tick 3 (some .int)) ∈ lw_g := qa2 59 (by decide +kernel) rfl
theorem q_kl_RX3_167 : (Cond.constantLong RX3 167 (1000000000000)) ∈ lw_g := qa2 60 (by decide +kernel) rfl
theorem q_ml_RX3_169 : (Cond.methodLink RX3 169 yX0_tellUntil) ∈ lw_g := qa2 61 (by decide +kernel) rfl
theorem q_im_yX0_tellUntil : (Cond.instanceMethod yX0_tellUntil) ∈ lw_g := qa2 62 (by decide +kernel) rfl
theorem q_se_yX0_tellUntil : (Cond.selects RX0 yX0_tellUntil yX0_tellUntil) ∈ lw_g := qa2 63 (by decide +kernel) rfl
theorem q_co_yX0_tellUntil : (Cond.code yX0_tellUntil cX0_tellUntil 5 (some .int)) ∈ lw_g := qa2 64 (by decide +kernel) rfl
theorem q_cl_RL_10 : (Cond.classLink RL 10 RX4) ∈ lw_g := qa2 65 (by decide +kernel) rfl
theorem q_in_RX4 : (Cond.instantiable RX4 23) ∈ lw_g := qa2 66 (by decide +kernel) rfl
theorem q_ml_RL_12 : (Cond.methodLink RL 12 yX4_init) ∈ lw_g := qa2 67 (by decide +kernel) rfl
theorem q_im_yX4_init : (Cond.instanceMethod yX4_init) ∈ lw_g := qa2 68 (by decide +kernel) rfl
theorem q_co_yX4_init : (Cond.code yX4_init cX4_init 1 none) ∈ lw_g := qa2 69 (by decide +kernel) rfl
theorem q_ml_RX4_1 : (Cond.methodLink RX4 1 objectInit) ∈ lw_g := qa2 70 (by decide +kernel) rfl
theorem q_kl_RX4_60 : (Cond.constantLong RX4 60 (-1)) ∈ lw_g := qa2 71 (by decide +kernel) rfl
theorem q_fl_RX4_69 : (Cond.fieldLink RX4 69 "BagRowsModel" "thrown" "I") ∈ lw_g := qa2 72 (by decide +kernel) rfl
theorem q_fl_RX4_7 : (Cond.fieldLink RX4 7 "BagRowsModel" "in" "[I") ∈ lw_g := qa2 73 (by decide +kernel) rfl
theorem q_fl_RX4_13 : (Cond.fieldLink RX4 13 "BagRowsModel" "since" "[I") ∈ lw_g := qa2 74 (by decide +kernel) rfl
theorem q_fl_RX4_16 : (Cond.fieldLink RX4 16 "BagRowsModel" "place" "[I") ∈ lw_g := qa2 75 (by decide +kernel) rfl
theorem q_fl_RX4_84 : (Cond.fieldLink RX4 84 "BagRowsModel" "turns" "I") ∈ lw_g := qa2 76 (by decide +kernel) rfl
theorem q_fl_RX4_73 : (Cond.fieldLink RX4 73 "BagRowsModel" "bags" "I") ∈ lw_g := qa2 77 (by decide +kernel) rfl
theorem q_fl_RX4_19 : (Cond.fieldLink RX4 19 "BagRowsModel" "kind" "[I") ∈ lw_g := qa2 78 (by decide +kernel) rfl
theorem q_fl_RX4_22 : (Cond.fieldLink RX4 22 "BagRowsModel" "closed" "[Z") ∈ lw_g := qa2 79 (by decide +kernel) rfl
theorem q_fl_RX4_26 : (Cond.fieldLink RX4 26 "BagRowsModel" "opened" "[Z") ∈ lw_g := qa2 80 (by decide +kernel) rfl
theorem q_fl_RX4_29 : (Cond.fieldLink RX4 29 "BagRowsModel" "seal" "[J") ∈ lw_g := qa2 81 (by decide +kernel) rfl
theorem q_fl_RX4_33 : (Cond.fieldLink RX4 33 "BagRowsModel" "closer" "[I") ∈ lw_g := qa2 82 (by decide +kernel) rfl
theorem q_fl_RX4_36 : (Cond.fieldLink RX4 36 "BagRowsModel" "read" "[J") ∈ lw_g := qa2 83 (by decide +kernel) rfl
theorem q_fl_RX4_39 : (Cond.fieldLink RX4 39 "BagRowsModel" "listed" "[I") ∈ lw_g := qa2 84 (by decide +kernel) rfl
theorem q_fl_RX4_42 : (Cond.fieldLink RX4 42 "BagRowsModel" "list" "[I") ∈ lw_g := qa2 85 (by decide +kernel) rfl
theorem q_fl_RX4_45 : (Cond.fieldLink RX4 45 "BagRowsModel" "seen" "[Z") ∈ lw_g := qa2 86 (by decide +kernel) rfl
theorem q_fl_RX4_48 : (Cond.fieldLink RX4 48 "BagRowsModel" "extras" "[I") ∈ lw_g := qa2 87 (by decide +kernel) rfl
theorem q_fl_RX4_51 : (Cond.fieldLink RX4 51 "BagRowsModel" "extra" "[I") ∈ lw_g := qa2 88 (by decide +kernel) rfl
theorem q_fl_RX4_54 : (Cond.fieldLink RX4 54 "BagRowsModel" "weighed" "[I") ∈ lw_g := qa2 89 (by decide +kernel) rfl
theorem q_fl_RX4_57 : (Cond.fieldLink RX4 57 "BagRowsModel" "weighing" "[J") ∈ lw_g := qa2 90 (by decide +kernel) rfl
theorem q_fl_RX4_90 : (Cond.fieldLink RX4 90 "BagRowsModel" "now" "J") ∈ lw_g := qa2 91 (by decide +kernel) rfl
theorem q_fl_RX4_62 : (Cond.fieldLink RX4 62 "BagRowsModel" "toldUntil" "J") ∈ lw_g := qa2 92 (by decide +kernel) rfl
theorem q_fl_RX4_87 : (Cond.fieldLink RX4 87 "BagRowsModel" "notes" "I") ∈ lw_g := qa2 93 (by decide +kernel) rfl
theorem q_fl_RX4_66 : (Cond.fieldLink RX4 66 "BagRowsModel" "due" "[J") ∈ lw_g := qa2 94 (by decide +kernel) rfl
theorem q_ac_boolean : (Cond.arrayClass .boolean) ∈ lw_g := qa2 142 (by decide +kernel) rfl
theorem q_ml_RL_17 : (Cond.methodLink RL 17 yX4_bag) ∈ lw_g := qa2 143 (by decide +kernel) rfl
theorem q_im_yX4_bag : (Cond.instanceMethod yX4_bag) ∈ lw_g := qa2 144 (by decide +kernel) rfl
theorem q_se_yX4_bag : (Cond.selects RX4 yX4_bag yX4_bag) ∈ lw_g := qa2 145 (by decide +kernel) rfl
theorem q_co_yX4_bag : (Cond.code yX4_bag cX4_bag 2 (some .int)) ∈ lw_g := qa2 146 (by decide +kernel) rfl
theorem q_ml_RL_22 : (Cond.methodLink RL 22 yX4_into) ∈ lw_g := qa2 147 (by decide +kernel) rfl
theorem q_im_yX4_into : (Cond.instanceMethod yX4_into) ∈ lw_g := qa2 148 (by decide +kernel) rfl
theorem q_se_yX4_into : (Cond.selects RX4 yX4_into yX4_into) ∈ lw_g := qa2 149 (by decide +kernel) rfl
theorem q_co_yX4_into : (Cond.code yX4_into cX4_into 3 (some .int)) ∈ lw_g := qa2 150 (by decide +kernel) rfl
theorem q_ml_RX4_76 : (Cond.methodLink RX4 76 yX4_isBag) ∈ lw_g := qa2 151 (by decide +kernel) rfl
theorem q_im_yX4_isBag : (Cond.instanceMethod yX4_isBag) ∈ lw_g := qa2 153 (by decide +kernel) rfl
theorem q_co_yX4_isBag : (Cond.code yX4_isBag cX4_isBag 2 (some .boolean)) ∈ lw_g := qa2 154 (by decide +kernel) rfl
theorem q_ml_RX4_95 : (Cond.methodLink RX4 95 yX4_isThing) ∈ lw_g := qa2 155 (by decide +kernel) rfl
theorem q_im_yX4_isThing : (Cond.instanceMethod yX4_isThing) ∈ lw_g := qa2 157 (by decide +kernel) rfl
theorem q_co_yX4_isThing : (Cond.code yX4_isThing cX4_isThing 2 (some .boolean)) ∈ lw_g := qa2 158 (by decide +kernel) rfl
theorem q_ml_RX4_98 : (Cond.methodLink RX4 98 yX4_isShutIn) ∈ lw_g := qa2 159 (by decide +kernel) rfl
theorem q_im_yX4_isShutIn : (Cond.instanceMethod yX4_isShutIn) ∈ lw_g := qa2 161 (by decide +kernel) rfl
theorem q_co_yX4_isShutIn : (Cond.code yX4_isShutIn cX4_isShutIn 4 (some .boolean)) ∈ lw_g := qa2 162 (by decide +kernel) rfl
theorem q_ml_RX4_80 : (Cond.methodLink RX4 80 yX4_outer) ∈ lw_g := qa2 163 (by decide +kernel) rfl
theorem q_im_yX4_outer : (Cond.instanceMethod yX4_outer) ∈ lw_g := qa2 165 (by decide +kernel) rfl
theorem q_co_yX4_outer : (Cond.code yX4_outer cX4_outer 2 (some .int)) ∈ lw_g := qa2 166 (by decide +kernel) rfl
theorem q_ml_RX4_101 : (Cond.methodLink RX4 101 yX4_kindOf) ∈ lw_g := qa2 167 (by decide +kernel) rfl
theorem q_im_yX4_kindOf : (Cond.instanceMethod yX4_kindOf) ∈ lw_g := qa2 169 (by decide +kernel) rfl
theorem q_co_yX4_kindOf : (Cond.code yX4_kindOf cX4_kindOf 2 (some .int)) ∈ lw_g := qa2 170 (by decide +kernel) rfl
theorem q_ml_RX4_104 : (Cond.methodLink RX4 104 yX4_count) ∈ lw_g := qa2 171 (by decide +kernel) rfl
theorem q_im_yX4_count : (Cond.instanceMethod yX4_count) ∈ lw_g := qa2 173 (by decide +kernel) rfl
theorem q_co_yX4_count : (Cond.code yX4_count cX4_count 4 (some .int)) ∈ lw_g := qa2 174 (by decide +kernel) rfl
theorem q_ml_RX4_107 : (Cond.methodLink RX4 107 yX4_put) ∈ lw_g := qa2 175 (by decide +kernel) rfl
theorem q_im_yX4_put : (Cond.instanceMethod yX4_put) ∈ lw_g := qa2 177 (by decide +kernel) rfl
theorem q_co_yX4_put : (Cond.code yX4_put cX4_put 3 none) ∈ lw_g := qa2 178 (by decide +kernel) rfl
theorem q_ml_RL_26 : (Cond.methodLink RL 26 yX4_take) ∈ lw_g := qa2 179 (by decide +kernel) rfl
theorem q_im_yX4_take : (Cond.instanceMethod yX4_take) ∈ lw_g := qa2 180 (by decide +kernel) rfl
theorem q_se_yX4_take : (Cond.selects RX4 yX4_take yX4_take) ∈ lw_g := qa2 181 (by decide +kernel) rfl
theorem q_co_yX4_take : (Cond.code yX4_take cX4_take 3 (some .int)) ∈ lw_g := qa2 182 (by decide +kernel) rfl
theorem q_ml_RL_33 : (Cond.methodLink RL 33 yX4_close) ∈ lw_g := qa2 183 (by decide +kernel) rfl
theorem q_im_yX4_close : (Cond.instanceMethod yX4_close) ∈ lw_g := qa2 184 (by decide +kernel) rfl
theorem q_se_yX4_close : (Cond.selects RX4 yX4_close yX4_close) ∈ lw_g := qa2 185 (by decide +kernel) rfl
theorem q_co_yX4_close : (Cond.code yX4_close cX4_close 12 (some .int)) ∈ lw_g := qa2 186 (by decide +kernel) rfl
theorem q_kl_RX4_111 : (Cond.constantLong RX4 111 (1000000000)) ∈ lw_g := qa2 187 (by decide +kernel) rfl
theorem q_ml_RL_38 : (Cond.methodLink RL 38 yX4_open) ∈ lw_g := qa2 188 (by decide +kernel) rfl
theorem q_im_yX4_open : (Cond.instanceMethod yX4_open) ∈ lw_g := qa2 189 (by decide +kernel) rfl
theorem q_se_yX4_open : (Cond.selects RX4 yX4_open yX4_open) ∈ lw_g := qa2 190 (by decide +kernel) rfl
theorem q_co_yX4_open : (Cond.code yX4_open cX4_open 9 (some .int)) ∈ lw_g := qa2 191 (by decide +kernel) rfl
theorem q_ml_RX4_113 : (Cond.methodLink RX4 113 yX4_addNote) ∈ lw_g := qa2 192 (by decide +kernel) rfl
theorem q_im_yX4_addNote : (Cond.instanceMethod yX4_addNote) ∈ lw_g := qa2 194 (by decide +kernel) rfl
theorem q_co_yX4_addNote : (Cond.code yX4_addNote cX4_addNote 1 none) ∈ lw_g := qa2 195 (by decide +kernel) rfl
theorem q_kl_RX4_93 : (Cond.constantLong RX4 93 (100)) ∈ lw_g := qa2 196 (by decide +kernel) rfl
theorem q_ml_RL_42 : (Cond.methodLink RL 42 yX4_found) ∈ lw_g := qa2 197 (by decide +kernel) rfl
theorem q_im_yX4_found : (Cond.instanceMethod yX4_found) ∈ lw_g := qa2 198 (by decide +kernel) rfl
theorem q_se_yX4_found : (Cond.selects RX4 yX4_found yX4_found) ∈ lw_g := qa2 199 (by decide +kernel) rfl
theorem q_co_yX4_found : (Cond.code yX4_found cX4_found 6 (some .int)) ∈ lw_g := qa2 200 (by decide +kernel) rfl
theorem q_ml_RX4_116 : (Cond.methodLink RX4 116 yX4_liesIn) ∈ lw_g := qa2 201 (by decide +kernel) rfl
theorem q_im_yX4_liesIn : (Cond.instanceMethod yX4_liesIn) ∈ lw_g := qa2 203 (by decide +kernel) rfl
theorem q_co_yX4_liesIn : (Cond.code yX4_liesIn cX4_liesIn 5 (some .boolean)) ∈ lw_g := qa2 204 (by decide +kernel) rfl
theorem q_ml_RX4_120 : (Cond.methodLink RX4 120 yX4_listPlace) ∈ lw_g := qa2 205 (by decide +kernel) rfl
theorem q_im_yX4_listPlace : (Cond.instanceMethod yX4_listPlace) ∈ lw_g := qa2 207 (by decide +kernel) rfl
theorem q_co_yX4_listPlace : (Cond.code yX4_listPlace cX4_listPlace 5 (some .int)) ∈ lw_g := qa2 208 (by decide +kernel) rfl
theorem q_ml_RX4_124 : (Cond.methodLink RX4 124 yX4_isExtra) ∈ lw_g := qa2 209 (by decide +kernel) rfl
theorem q_im_yX4_isExtra : (Cond.instanceMethod yX4_isExtra) ∈ lw_g := qa2 211 (by decide +kernel) rfl
theorem q_co_yX4_isExtra : (Cond.code yX4_isExtra cX4_isExtra 5 (some .boolean)) ∈ lw_g := qa2 212 (by decide +kernel) rfl
theorem q_ml_RX4_127 : (Cond.methodLink RX4 127 yX4_bring) ∈ lw_g := qa2 213 (by decide +kernel) rfl
theorem q_im_yX4_bring : (Cond.instanceMethod yX4_bring) ∈ lw_g := qa2 215 (by decide +kernel) rfl
theorem q_co_yX4_bring : (Cond.code yX4_bring cX4_bring 5 (some .int)) ∈ lw_g := qa2 216 (by decide +kernel) rfl
theorem q_ml_RL_47 : (Cond.methodLink RL 47 yX4_differ) ∈ lw_g := qa2 217 (by decide +kernel) rfl
theorem q_im_yX4_differ : (Cond.instanceMethod yX4_differ) ∈ lw_g := qa2 218 (by decide +kernel) rfl
theorem q_se_yX4_differ : (Cond.selects RX4 yX4_differ yX4_differ) ∈ lw_g := qa2 219 (by decide +kernel) rfl
theorem q_co_yX4_differ : (Cond.code yX4_differ cX4_differ 4 (some .int)) ∈ lw_g := qa2 220 (by decide +kernel) rfl
theorem q_ml_RX4_134 : (Cond.methodLink RX4 134 yX4_difference) ∈ lw_g := qa2 221 (by decide +kernel) rfl
theorem q_im_yX4_difference : (Cond.instanceMethod yX4_difference) ∈ lw_g := qa2 223 (by decide +kernel) rfl
theorem q_co_yX4_difference : (Cond.code yX4_difference cX4_difference 6 (some .int)) ∈ lw_g := qa2 224 (by decide +kernel) rfl
theorem q_ml_RX4_130 : (Cond.methodLink RX4 130 yX4_pick) ∈ lw_g := qa2 225 (by decide +kernel) rfl
theorem q_im_yX4_pick : (Cond.instanceMethod yX4_pick) ∈ lw_g := qa2 227 (by decide +kernel) rfl
theorem q_co_yX4_pick : (Cond.code yX4_pick cX4_pick 5 (some .int)) ∈ lw_g := qa2 228 (by decide +kernel) rfl
theorem q_ml_RL_51 : (Cond.methodLink RL 51 yX4_inside) ∈ lw_g := qa2 229 (by decide +kernel) rfl
theorem q_im_yX4_inside : (Cond.instanceMethod yX4_inside) ∈ lw_g := qa2 230 (by decide +kernel) rfl
theorem q_se_yX4_inside : (Cond.selects RX4 yX4_inside yX4_inside) ∈ lw_g := qa2 231 (by decide +kernel) rfl
theorem q_co_yX4_inside : (Cond.code yX4_inside cX4_inside 2 (some .int)) ∈ lw_g := qa2 232 (by decide +kernel) rfl
theorem q_ml_RL_56 : (Cond.methodLink RL 56 yX4_weight) ∈ lw_g := qa2 233 (by decide +kernel) rfl
theorem q_im_yX4_weight : (Cond.instanceMethod yX4_weight) ∈ lw_g := qa2 234 (by decide +kernel) rfl
theorem q_se_yX4_weight : (Cond.selects RX4 yX4_weight yX4_weight) ∈ lw_g := qa2 235 (by decide +kernel) rfl
theorem q_co_yX4_weight : (Cond.code yX4_weight cX4_weight 9 (some .int)) ∈ lw_g := qa2 236 (by decide +kernel) rfl
theorem q_ml_RX4_142 : (Cond.methodLink RX4 142 yX4_own) ∈ lw_g := qa2 237 (by decide +kernel) rfl
theorem q_im_yX4_own : (Cond.instanceMethod yX4_own) ∈ lw_g := qa2 239 (by decide +kernel) rfl
theorem q_co_yX4_own : (Cond.code yX4_own cX4_own 2 (some .long)) ∈ lw_g := qa3 0 (by decide +kernel) rfl
theorem q_kl_RX4_138 : (Cond.constantLong RX4 138 (5)) ∈ lw_g := qa3 1 (by decide +kernel) rfl
theorem q_kl_RX4_140 : (Cond.constantLong RX4 140 (10)) ∈ lw_g := qa3 2 (by decide +kernel) rfl
theorem q_kl_RX4_146 : (Cond.constantLong RX4 146 (50)) ∈ lw_g := qa3 3 (by decide +kernel) rfl
theorem q_ml_RL_60 : (Cond.methodLink RL 60 yX4_document) ∈ lw_g := qa3 4 (by decide +kernel) rfl
theorem q_im_yX4_document : (Cond.instanceMethod yX4_document) ∈ lw_g := qa3 5 (by decide +kernel) rfl
theorem q_se_yX4_document : (Cond.selects RX4 yX4_document yX4_document) ∈ lw_g := qa3 6 (by decide +kernel) rfl
theorem q_co_yX4_document : (Cond.code yX4_document cX4_document 3 (some .int)) ∈ lw_g := qa3 7 (by decide +kernel) rfl
theorem q_ml_RL_64 : (Cond.methodLink RL 64 yX4_move) ∈ lw_g := qa3 8 (by decide +kernel) rfl
theorem q_im_yX4_move : (Cond.instanceMethod yX4_move) ∈ lw_g := qa3 9 (by decide +kernel) rfl
theorem q_se_yX4_move : (Cond.selects RX4 yX4_move yX4_move) ∈ lw_g := qa3 10 (by decide +kernel) rfl
theorem q_co_yX4_move : (Cond.code yX4_move cX4_move 3 (some .int)) ∈ lw_g := qa3 11 (by decide +kernel) rfl
theorem q_ml_RL_68 : (Cond.methodLink RL 68 yX4_place) ∈ lw_g := qa3 12 (by decide +kernel) rfl
theorem q_im_yX4_place : (Cond.instanceMethod yX4_place) ∈ lw_g := qa3 13 (by decide +kernel) rfl
theorem q_se_yX4_place : (Cond.selects RX4 yX4_place yX4_place) ∈ lw_g := qa3 14 (by decide +kernel) rfl
theorem q_co_yX4_place : (Cond.code yX4_place cX4_place 2 (some .int)) ∈ lw_g := qa3 15 (by decide +kernel) rfl
theorem q_ml_RL_73 : (Cond.methodLink RL 73 yX4_tick) ∈ lw_g := qa3 16 (by decide +kernel) rfl
theorem q_im_yX4_tick : (Cond.instanceMethod yX4_tick) ∈ lw_g := qa3 17 (by decide +kernel) rfl
theorem q_se_yX4_tick : (Cond.selects RX4 yX4_tick yX4_tick) ∈ lw_g := qa3 18 (by decide +kernel) rfl
theorem q_co_yX4_tick : (Cond.code yX4_tick cX4_tick 5 (some .int)) ∈ lw_g := qa3 19 (by decide +kernel) rfl
theorem q_kl_RX4_148 : (Cond.constantLong RX4 148 (1000000000000)) ∈ lw_g := qa3 20 (by decide +kernel) rfl
theorem q_kl_RL_27 : (Cond.constantLong RL 27 (4294967295)) ∈ lw_g := qa3 21 (by decide +kernel) rfl
theorem q_se_yX3_receptacleOf : (Cond.selects RX3 yX3_receptacleOf yX3_receptacleOf) ∈ lw_g := qa0 0 (by decide +kernel) rfl
theorem q_se_yX3_isThing : (Cond.selects RX3 yX3_isThing yX3_isThing) ∈ lw_g := qa0 1 (by decide +kernel) rfl
theorem q_se_yX3_isShut : (Cond.selects RX3 yX3_isShut yX3_isShut) ∈ lw_g := qa0 2 (by decide +kernel) rfl
theorem q_se_yX3_holderOf : (Cond.selects RX3 yX3_holderOf yX3_holderOf) ∈ lw_g := qa0 3 (by decide +kernel) rfl
theorem q_se_yX3_isLesser : (Cond.selects RX3 yX3_isLesser yX3_isLesser) ∈ lw_g := qa0 4 (by decide +kernel) rfl
theorem q_se_yX3_placeOf : (Cond.selects RX3 yX3_placeOf yX3_placeOf) ∈ lw_g := qa0 5 (by decide +kernel) rfl
theorem q_se_yX3_putIn : (Cond.selects RX3 yX3_putIn yX3_putIn) ∈ lw_g := qa0 6 (by decide +kernel) rfl
theorem q_se_yX3_setHolder : (Cond.selects RX3 yX3_setHolder yX3_setHolder) ∈ lw_g := qa0 7 (by decide +kernel) rfl
theorem q_se_yX3_takeOut : (Cond.selects RX3 yX3_takeOut yX3_takeOut) ∈ lw_g := qa0 8 (by decide +kernel) rfl
theorem q_se_yX3_setOwnPlace : (Cond.selects RX3 yX3_setOwnPlace yX3_setOwnPlace) ∈ lw_g := qa0 9 (by decide +kernel) rfl
theorem q_se_yX3_foundExtra : (Cond.selects RX3 yX3_foundExtra yX3_foundExtra) ∈ lw_g := qa0 10 (by decide +kernel) rfl
theorem q_se_yX3_weightOf : (Cond.selects RX3 yX3_weightOf yX3_weightOf) ∈ lw_g := qa0 11 (by decide +kernel) rfl
theorem q_se_yX3_isWithin : (Cond.selects RX3 yX3_isWithin yX3_isWithin) ∈ lw_g := qa0 12 (by decide +kernel) rfl
theorem q_se_yX3_thingsOf : (Cond.selects RX3 yX3_thingsOf yX3_thingsOf) ∈ lw_g := qa0 13 (by decide +kernel) rfl
theorem q_se_yX4_isBag : (Cond.selects RX4 yX4_isBag yX4_isBag) ∈ lw_g := qa0 14 (by decide +kernel) rfl
theorem q_se_yX4_isThing : (Cond.selects RX4 yX4_isThing yX4_isThing) ∈ lw_g := qa0 15 (by decide +kernel) rfl
theorem q_se_yX4_isShutIn : (Cond.selects RX4 yX4_isShutIn yX4_isShutIn) ∈ lw_g := qa0 16 (by decide +kernel) rfl
theorem q_se_yX4_outer : (Cond.selects RX4 yX4_outer yX4_outer) ∈ lw_g := qa0 17 (by decide +kernel) rfl
theorem q_se_yX4_kindOf : (Cond.selects RX4 yX4_kindOf yX4_kindOf) ∈ lw_g := qa0 18 (by decide +kernel) rfl
theorem q_se_yX4_count : (Cond.selects RX4 yX4_count yX4_count) ∈ lw_g := qa0 19 (by decide +kernel) rfl
theorem q_se_yX4_put : (Cond.selects RX4 yX4_put yX4_put) ∈ lw_g := qa0 20 (by decide +kernel) rfl
theorem q_se_yX4_addNote : (Cond.selects RX4 yX4_addNote yX4_addNote) ∈ lw_g := qa0 21 (by decide +kernel) rfl
theorem q_se_yX4_liesIn : (Cond.selects RX4 yX4_liesIn yX4_liesIn) ∈ lw_g := qa0 22 (by decide +kernel) rfl
theorem q_se_yX4_listPlace : (Cond.selects RX4 yX4_listPlace yX4_listPlace) ∈ lw_g := qa0 23 (by decide +kernel) rfl
theorem q_se_yX4_isExtra : (Cond.selects RX4 yX4_isExtra yX4_isExtra) ∈ lw_g := qa0 24 (by decide +kernel) rfl
theorem q_se_yX4_bring : (Cond.selects RX4 yX4_bring yX4_bring) ∈ lw_g := qa0 25 (by decide +kernel) rfl
theorem q_se_yX4_difference : (Cond.selects RX4 yX4_difference yX4_difference) ∈ lw_g := qa0 26 (by decide +kernel) rfl
theorem q_se_yX4_pick : (Cond.selects RX4 yX4_pick yX4_pick) ∈ lw_g := qa0 27 (by decide +kernel) rfl
theorem q_se_yX4_own : (Cond.selects RX4 yX4_own yX4_own) ∈ lw_g := qa0 28 (by decide +kernel) rfl
set_option maxRecDepth 20000 in
theorem inX0 : ∀ w ∈ wsX00, w ∈ lw_g := by
  have h : wsX00 = ([55, 57, 59] : List Nat).filterMap (fun i => lw_tbl[i]?) := by decide +kernel
  intro w hw
  rw [h] at hw
  obtain ⟨i, -, hi⟩ := List.mem_filterMap.mp hw
  exact List.mem_filter.mpr ⟨List.mem_of_getElem? hi, List.all_eq_true.mp (show wsX00.all goodWord = true by decide +kernel) w (by rw [h]; exact hw)⟩
set_option maxRecDepth 20000 in
theorem inX1 : ∀ w ∈ wsX10, w ∈ lw_g := by
  have h : wsX10 = ([123, 125, 127, 129, 131, 133, 135, 137, 139, 141, 143] : List Nat).filterMap (fun i => lw_tbl[i]?) := by decide +kernel
  intro w hw
  rw [h] at hw
  obtain ⟨i, -, hi⟩ := List.mem_filterMap.mp hw
  exact List.mem_filter.mpr ⟨List.mem_of_getElem? hi, List.all_eq_true.mp (show wsX10.all goodWord = true by decide +kernel) w (by rw [h]; exact hw)⟩
set_option maxRecDepth 20000 in
theorem inX2 : ∀ w ∈ wsX20, w ∈ lw_g := by
  have h : wsX20 = ([100, 102] : List Nat).filterMap (fun i => lw_tbl[i]?) := by decide +kernel
  intro w hw
  rw [h] at hw
  obtain ⟨i, -, hi⟩ := List.mem_filterMap.mp hw
  exact List.mem_filter.mpr ⟨List.mem_of_getElem? hi, List.all_eq_true.mp (show wsX20.all goodWord = true by decide +kernel) w (by rw [h]; exact hw)⟩
set_option maxRecDepth 20000 in
theorem inX3 : ∀ w ∈ wsX30, w ∈ lw_g := by
  have h : wsX30 = ([70, 72, 74, 76, 78, 80] : List Nat).filterMap (fun i => lw_tbl[i]?) := by decide +kernel
  intro w hw
  rw [h] at hw
  obtain ⟨i, -, hi⟩ := List.mem_filterMap.mp hw
  exact List.mem_filter.mpr ⟨List.mem_of_getElem? hi, List.all_eq_true.mp (show wsX30.all goodWord = true by decide +kernel) w (by rw [h]; exact hw)⟩
set_option maxRecDepth 20000 in
theorem inX4 : ∀ w ∈ wsX40, w ∈ lw_g := by
  have h : wsX40 = ([364, 366, 368, 370, 372, 374, 376, 378, 380, 382, 384, 386, 388, 390, 392, 394, 396, 398, 400, 402, 404, 406, 408] : List Nat).filterMap (fun i => lw_tbl[i]?) := by decide +kernel
  intro w hw
  rw [h] at hw
  obtain ⟨i, -, hi⟩ := List.mem_filterMap.mp hw
  exact List.mem_filter.mpr ⟨List.mem_of_getElem? hi, List.all_eq_true.mp (show wsX40.all goodWord = true by decide +kernel) w (by rw [h]; exact hw)⟩
theorem lw_good : lw_g.all goodWord = true := List.all_eq_true.mpr fun w h => (List.mem_filter.mp h).2
theorem gK : ∀ w ∈ lw_g, w ∈ lw_g ∧ ((w.onTables && w.keeps) = true ∨ ∃ ty, w = .arrayClass ty) := fun w h => ⟨h, good_of_word (List.all_eq_true.mp lw_good w h)⟩
theorem gV {own C : String} {idx maxL : Nat} {y : MethodName} {cc : ByteArray} {ret : Option FieldType} (h1 : Cond.methodLink own idx y ∈ lw_g) (h2 : Cond.instanceMethod y ∈ lw_g) (h3 : Cond.selects C y y ∈ lw_g) (h4 : Cond.initialized C ∈ lw_g) (h5 : Cond.code y cc maxL ret ∈ lw_g) : GoodIn lw_g (wsV own idx C y (wA y cc maxL ret)) := by
  intro w hw
  simp only [wsV, wA, List.mem_append, List.mem_cons, List.not_mem_nil, or_false] at hw
  rcases hw with (rfl | rfl | rfl | rfl) | (rfl | h)
  · exact gK _ h1
  · exact gK _ h2
  · exact gK _ h3
  · exact gK _ h4
  · exact gK _ h5
  · exact gK _ h
theorem gI {maxL : Nat} {y : MethodName} {cc : ByteArray} {ret : Option FieldType} (h5 : Cond.code y cc maxL ret ∈ lw_g) : GoodIn lw_g (wA y cc maxL ret) := by
  intro w hw
  simp only [wA, List.mem_cons] at hw
  rcases hw with rfl | h
  · exact gK _ h5
  · exact gK _ h
theorem gS {own : String} {idx maxL : Nat} {y : MethodName} {cc : ByteArray} {ret : Option FieldType} (h1 : Cond.methodLink own idx y ∈ lw_g) (h2 : Cond.static y ∈ lw_g) (h4 : Cond.initialized own ∈ lw_g) (h5 : Cond.code y cc maxL ret ∈ lw_g) : GoodIn lw_g (wsS own idx y (wA y cc maxL ret)) := by
  intro w hw
  simp only [wsS, wA, List.mem_append, List.mem_cons, List.not_mem_nil, or_false] at hw
  rcases hw with (rfl | rfl | rfl) | (rfl | h)
  · exact gK _ h1
  · exact gK _ h2
  · exact gK _ h4
  · exact gK _ h5
  · exact gK _ h
/-- what a call of a method needs of the words -/
def MI (y : MethodName) (C : String) (cc : ByteArray) (maxL : Nat) (ret : Option FieldType) (n : Nat) : Prop := Cond.instanceMethod y ∈ lw_g ∧ Cond.selects C y y ∈ lw_g ∧ Cond.initialized C ∈ lw_g ∧ Cond.code y cc maxL ret ∈ lw_g ∧ y.cls = C ∧ y.cls ≠ "java/lang/invoke/MethodHandle" ∧ y.cls ≠ "java/lang/invoke/VarHandle" ∧ (parseMethodDescriptor y.desc).map (fun d => d.parameters.length) = some n
def MS (y : MethodName) (C : String) (cc : ByteArray) (maxL : Nat) (ret : Option FieldType) (n : Nat) : Prop := Cond.static y ∈ lw_g ∧ Cond.initialized C ∈ lw_g ∧ Cond.code y cc maxL ret ∈ lw_g ∧ y.cls = C ∧ y.cls ≠ "java/lang/invoke/MethodHandle" ∧ y.cls ≠ "java/lang/invoke/VarHandle" ∧ (parseMethodDescriptor y.desc).map (fun d => d.parameters.length) = some n
def MN (y : MethodName) (C : String) (cc : ByteArray) (maxL : Nat) (n : Nat) : Prop := Cond.instanceMethod y ∈ lw_g ∧ Cond.initialized C ∈ lw_g ∧ Cond.code y cc maxL none ∈ lw_g ∧ y.name = "<init>" ∧ y.cls ≠ "java/lang/invoke/MethodHandle" ∧ y.cls ≠ "java/lang/invoke/VarHandle" ∧ (parseMethodDescriptor y.desc).map (fun d => d.parameters.length) = some n
theorem mi_X3_init : MN yX3_init RX3 cX3_init 1 0 := ⟨q_im_yX3_init, q_ini_RX3, q_co_yX3_init, by decide +kernel, by decide +kernel, by decide +kernel, by decide +kernel⟩
theorem mi_X0_init : MN yX0_init RX0 cX0_init 1 0 := ⟨q_im_yX0_init, q_ini_RX0, q_co_yX0_init, by decide +kernel, by decide +kernel, by decide +kernel, by decide +kernel⟩
theorem mi_X3_bag : MI yX3_bag RX3 cX3_bag 3 (some .int) 1 := ⟨q_im_yX3_bag, q_se_yX3_bag, q_ini_RX3, q_co_yX3_bag, by decide +kernel, by decide +kernel, by decide +kernel, by decide +kernel⟩
theorem mi_X1_init : MN yX1_init RX1 cX1_init 2 1 := ⟨q_im_yX1_init, q_ini_RX1, q_co_yX1_init, by decide +kernel, by decide +kernel, by decide +kernel, by decide +kernel⟩
theorem mi_X2_init : MN yX2_init RX2 cX2_init 2 1 := ⟨q_im_yX2_init, q_ini_RX2, q_co_yX2_init, by decide +kernel, by decide +kernel, by decide +kernel, by decide +kernel⟩
theorem mi_X3_into : MI yX3_into RX3 cX3_into 4 (some .int) 2 := ⟨q_im_yX3_into, q_se_yX3_into, q_ini_RX3, q_co_yX3_into, by decide +kernel, by decide +kernel, by decide +kernel, by decide +kernel⟩
theorem mi_X3_receptacleOf : MI yX3_receptacleOf RX3 cX3_receptacleOf 3 (some (.object "BagRows$Receptacle")) 1 := ⟨q_im_yX3_receptacleOf, q_se_yX3_receptacleOf, q_ini_RX3, q_co_yX3_receptacleOf, by decide +kernel, by decide +kernel, by decide +kernel, by decide +kernel⟩
theorem mi_X3_isThing : MI yX3_isThing RX3 cX3_isThing 2 (some .boolean) 1 := ⟨q_im_yX3_isThing, q_se_yX3_isThing, q_ini_RX3, q_co_yX3_isThing, by decide +kernel, by decide +kernel, by decide +kernel, by decide +kernel⟩
theorem mi_X3_isItem : MS yX3_isItem RX3 cX3_isItem 1 (some .boolean) 1 := ⟨q_st_yX3_isItem, q_ini_RX3, q_co_yX3_isItem, by decide +kernel, by decide +kernel, by decide +kernel, by decide +kernel⟩
theorem mi_X3_isShut : MI yX3_isShut RX3 cX3_isShut 5 (some .boolean) 1 := ⟨q_im_yX3_isShut, q_se_yX3_isShut, q_ini_RX3, q_co_yX3_isShut, by decide +kernel, by decide +kernel, by decide +kernel, by decide +kernel⟩
theorem mi_X3_holderOf : MI yX3_holderOf RX3 cX3_holderOf 2 (some .int) 1 := ⟨q_im_yX3_holderOf, q_se_yX3_holderOf, q_ini_RX3, q_co_yX3_holderOf, by decide +kernel, by decide +kernel, by decide +kernel, by decide +kernel⟩
theorem mi_X3_isLesser : MI yX3_isLesser RX3 cX3_isLesser 5 (some .boolean) 2 := ⟨q_im_yX3_isLesser, q_se_yX3_isLesser, q_ini_RX3, q_co_yX3_isLesser, by decide +kernel, by decide +kernel, by decide +kernel, by decide +kernel⟩
theorem mi_X3_placeOf : MI yX3_placeOf RX3 cX3_placeOf 4 (some .int) 1 := ⟨q_im_yX3_placeOf, q_se_yX3_placeOf, q_ini_RX3, q_co_yX3_placeOf, by decide +kernel, by decide +kernel, by decide +kernel, by decide +kernel⟩
theorem mi_X2_isFull : MI yX2_isFull RX2 cX2_isFull 1 (some .boolean) 0 := ⟨q_im_yX2_isFull, q_se_yX2_isFull, q_ini_RX2, q_co_yX2_isFull, by decide +kernel, by decide +kernel, by decide +kernel, by decide +kernel⟩
theorem mi_X3_putIn : MI yX3_putIn RX3 cX3_putIn 4 none 3 := ⟨q_im_yX3_putIn, q_se_yX3_putIn, q_ini_RX3, q_co_yX3_putIn, by decide +kernel, by decide +kernel, by decide +kernel, by decide +kernel⟩
theorem mi_X2_append : MI yX2_append RX2 cX2_append 2 none 1 := ⟨q_im_yX2_append, q_se_yX2_append, q_ini_RX2, q_co_yX2_append, by decide +kernel, by decide +kernel, by decide +kernel, by decide +kernel⟩
theorem mi_X3_setHolder : MI yX3_setHolder RX3 cX3_setHolder 3 none 2 := ⟨q_im_yX3_setHolder, q_se_yX3_setHolder, q_ini_RX3, q_co_yX3_setHolder, by decide +kernel, by decide +kernel, by decide +kernel, by decide +kernel⟩
theorem mi_X3_take : MI yX3_take RX3 cX3_take 3 (some .int) 1 := ⟨q_im_yX3_take, q_se_yX3_take, q_ini_RX3, q_co_yX3_take, by decide +kernel, by decide +kernel, by decide +kernel, by decide +kernel⟩
theorem mi_X3_takeOut : MI yX3_takeOut RX3 cX3_takeOut 3 none 1 := ⟨q_im_yX3_takeOut, q_se_yX3_takeOut, q_ini_RX3, q_co_yX3_takeOut, by decide +kernel, by decide +kernel, by decide +kernel, by decide +kernel⟩
theorem mi_X3_setOwnPlace : MI yX3_setOwnPlace RX3 cX3_setOwnPlace 3 none 2 := ⟨q_im_yX3_setOwnPlace, q_se_yX3_setOwnPlace, q_ini_RX3, q_co_yX3_setOwnPlace, by decide +kernel, by decide +kernel, by decide +kernel, by decide +kernel⟩
theorem mi_X2_remove : MI yX2_remove RX2 cX2_remove 4 none 1 := ⟨q_im_yX2_remove, q_se_yX2_remove, q_ini_RX2, q_co_yX2_remove, by decide +kernel, by decide +kernel, by decide +kernel, by decide +kernel⟩
theorem mi_X3_close : MI yX3_close RX3 cX3_close 6 (some .int) 3 := ⟨q_im_yX3_close, q_se_yX3_close, q_ini_RX3, q_co_yX3_close, by decide +kernel, by decide +kernel, by decide +kernel, by decide +kernel⟩
theorem mi_X3_isSeal : MS yX3_isSeal RX3 cX3_isSeal 2 (some .boolean) 1 := ⟨q_st_yX3_isSeal, q_ini_RX3, q_co_yX3_isSeal, by decide +kernel, by decide +kernel, by decide +kernel, by decide +kernel⟩
theorem mi_X3_isPerson : MS yX3_isPerson RX3 cX3_isPerson 1 (some .boolean) 1 := ⟨q_st_yX3_isPerson, q_ini_RX3, q_co_yX3_isPerson, by decide +kernel, by decide +kernel, by decide +kernel, by decide +kernel⟩
theorem mi_X1_shut : MI yX1_shut RX1 cX1_shut 4 none 2 := ⟨q_im_yX1_shut, q_se_yX1_shut, q_ini_RX1, q_co_yX1_shut, by decide +kernel, by decide +kernel, by decide +kernel, by decide +kernel⟩
theorem mi_X2_becomeLike : MI yX2_becomeLike RX2 cX2_becomeLike 3 none 1 := ⟨q_im_yX2_becomeLike, q_se_yX2_becomeLike, q_ini_RX2, q_co_yX2_becomeLike, by decide +kernel, by decide +kernel, by decide +kernel, by decide +kernel⟩
theorem mi_X2_clear : MI yX2_clear RX2 cX2_clear 1 none 0 := ⟨q_im_yX2_clear, q_se_yX2_clear, q_ini_RX2, q_co_yX2_clear, by decide +kernel, by decide +kernel, by decide +kernel, by decide +kernel⟩
theorem mi_X2_size : MI yX2_size RX2 cX2_size 1 (some .int) 0 := ⟨q_im_yX2_size, q_se_yX2_size, q_ini_RX2, q_co_yX2_size, by decide +kernel, by decide +kernel, by decide +kernel, by decide +kernel⟩
theorem mi_X2_at : MI yX2_at RX2 cX2_at 2 (some .int) 1 := ⟨q_im_yX2_at, q_se_yX2_at, q_ini_RX2, q_co_yX2_at, by decide +kernel, by decide +kernel, by decide +kernel, by decide +kernel⟩
theorem mi_X3_open : MI yX3_open RX3 cX3_open 7 (some .int) 4 := ⟨q_im_yX3_open, q_se_yX3_open, q_ini_RX3, q_co_yX3_open, by decide +kernel, by decide +kernel, by decide +kernel, by decide +kernel⟩
theorem mi_X1_mayBeOpenedBy : MI yX1_mayBeOpenedBy RX1 cX1_mayBeOpenedBy 3 (some .boolean) 2 := ⟨q_im_yX1_mayBeOpenedBy, q_se_yX1_mayBeOpenedBy, q_ini_RX1, q_co_yX1_mayBeOpenedBy, by decide +kernel, by decide +kernel, by decide +kernel, by decide +kernel⟩
theorem mi_X1_unseal : MI yX1_unseal RX1 cX1_unseal 3 (some .boolean) 1 := ⟨q_im_yX1_unseal, q_se_yX1_unseal, q_ini_RX1, q_co_yX1_unseal, by decide +kernel, by decide +kernel, by decide +kernel, by decide +kernel⟩
theorem mi_X0_add : MI yX0_add RX0 cX0_add 3 none 1 := ⟨q_im_yX0_add, q_se_yX0_add, q_ini_RX0, q_co_yX0_add, by decide +kernel, by decide +kernel, by decide +kernel, by decide +kernel⟩
theorem mi_X3_found : MI yX3_found RX3 cX3_found 4 (some .int) 2 := ⟨q_im_yX3_found, q_se_yX3_found, q_ini_RX3, q_co_yX3_found, by decide +kernel, by decide +kernel, by decide +kernel, by decide +kernel⟩
theorem mi_X1_isChecked : MI yX1_isChecked RX1 cX1_isChecked 1 (some .boolean) 0 := ⟨q_im_yX1_isChecked, q_se_yX1_isChecked, q_ini_RX1, q_co_yX1_isChecked, by decide +kernel, by decide +kernel, by decide +kernel, by decide +kernel⟩
theorem mi_X2_holds : MI yX2_holds RX2 cX2_holds 3 (some .boolean) 1 := ⟨q_im_yX2_holds, q_se_yX2_holds, q_ini_RX2, q_co_yX2_holds, by decide +kernel, by decide +kernel, by decide +kernel, by decide +kernel⟩
theorem mi_X3_foundExtra : MI yX3_foundExtra RX3 cX3_foundExtra 5 (some .int) 3 := ⟨q_im_yX3_foundExtra, q_se_yX3_foundExtra, q_ini_RX3, q_co_yX3_foundExtra, by decide +kernel, by decide +kernel, by decide +kernel, by decide +kernel⟩
theorem mi_X3_differ : MI yX3_differ RX3 cX3_differ 8 (some .int) 3 := ⟨q_im_yX3_differ, q_se_yX3_differ, q_ini_RX3, q_co_yX3_differ, by decide +kernel, by decide +kernel, by decide +kernel, by decide +kernel⟩
theorem mi_X1_differencesOf : MI yX1_differencesOf RX1 cX1_differencesOf 2 (some (.object "BagRows$Row")) 1 := ⟨q_im_yX1_differencesOf, q_se_yX1_differencesOf, q_ini_RX1, q_co_yX1_differencesOf, by decide +kernel, by decide +kernel, by decide +kernel, by decide +kernel⟩
theorem mi_X3_inside : MI yX3_inside RX3 cX3_inside 2 (some .int) 1 := ⟨q_im_yX3_inside, q_se_yX3_inside, q_ini_RX3, q_co_yX3_inside, by decide +kernel, by decide +kernel, by decide +kernel, by decide +kernel⟩
theorem mi_X3_weight : MI yX3_weight RX3 cX3_weight 7 (some .int) 2 := ⟨q_im_yX3_weight, q_se_yX3_weight, q_ini_RX3, q_co_yX3_weight, by decide +kernel, by decide +kernel, by decide +kernel, by decide +kernel⟩
theorem mi_X3_weightOf : MI yX3_weightOf RX3 cX3_weightOf 6 (some .long) 1 := ⟨q_im_yX3_weightOf, q_se_yX3_weightOf, q_ini_RX3, q_co_yX3_weightOf, by decide +kernel, by decide +kernel, by decide +kernel, by decide +kernel⟩
theorem mi_X3_isWithin : MI yX3_isWithin RX3 cX3_isWithin 5 (some .boolean) 2 := ⟨q_im_yX3_isWithin, q_se_yX3_isWithin, q_ini_RX3, q_co_yX3_isWithin, by decide +kernel, by decide +kernel, by decide +kernel, by decide +kernel⟩
theorem mi_X3_weightOfItems : MS yX3_weightOfItems RX3 cX3_weightOfItems 5 (some .long) 1 := ⟨q_st_yX3_weightOfItems, q_ini_RX3, q_co_yX3_weightOfItems, by decide +kernel, by decide +kernel, by decide +kernel, by decide +kernel⟩
theorem mi_X3_document : MI yX3_document RX3 cX3_document 4 (some .int) 2 := ⟨q_im_yX3_document, q_se_yX3_document, q_ini_RX3, q_co_yX3_document, by decide +kernel, by decide +kernel, by decide +kernel, by decide +kernel⟩
theorem mi_X3_move : MI yX3_move RX3 cX3_move 4 (some .int) 2 := ⟨q_im_yX3_move, q_se_yX3_move, q_ini_RX3, q_co_yX3_move, by decide +kernel, by decide +kernel, by decide +kernel, by decide +kernel⟩
theorem mi_X3_thingsOf : MI yX3_thingsOf RX3 cX3_thingsOf 5 (some .int) 1 := ⟨q_im_yX3_thingsOf, q_se_yX3_thingsOf, q_ini_RX3, q_co_yX3_thingsOf, by decide +kernel, by decide +kernel, by decide +kernel, by decide +kernel⟩
theorem mi_X3_place : MI yX3_place RX3 cX3_place 2 (some .int) 1 := ⟨q_im_yX3_place, q_se_yX3_place, q_ini_RX3, q_co_yX3_place, by decide +kernel, by decide +kernel, by decide +kernel, by decide +kernel⟩
theorem mi_X3_tick : MI yX3_tick RX3 cX3_tick 3 (some .int) 1 := ⟨q_im_yX3_tick, q_se_yX3_tick, q_ini_RX3, q_co_yX3_tick, by decide +kernel, by decide +kernel, by decide +kernel, by decide +kernel⟩
theorem mi_X0_tellUntil : MI yX0_tellUntil RX0 cX0_tellUntil 5 (some .int) 1 := ⟨q_im_yX0_tellUntil, q_se_yX0_tellUntil, q_ini_RX0, q_co_yX0_tellUntil, by decide +kernel, by decide +kernel, by decide +kernel, by decide +kernel⟩
theorem mi_X4_init : MN yX4_init RX4 cX4_init 1 0 := ⟨q_im_yX4_init, q_ini_RX4, q_co_yX4_init, by decide +kernel, by decide +kernel, by decide +kernel, by decide +kernel⟩
theorem mi_X4_bag : MI yX4_bag RX4 cX4_bag 2 (some .int) 1 := ⟨q_im_yX4_bag, q_se_yX4_bag, q_ini_RX4, q_co_yX4_bag, by decide +kernel, by decide +kernel, by decide +kernel, by decide +kernel⟩
theorem mi_X4_into : MI yX4_into RX4 cX4_into 3 (some .int) 2 := ⟨q_im_yX4_into, q_se_yX4_into, q_ini_RX4, q_co_yX4_into, by decide +kernel, by decide +kernel, by decide +kernel, by decide +kernel⟩
theorem mi_X4_isBag : MI yX4_isBag RX4 cX4_isBag 2 (some .boolean) 1 := ⟨q_im_yX4_isBag, q_se_yX4_isBag, q_ini_RX4, q_co_yX4_isBag, by decide +kernel, by decide +kernel, by decide +kernel, by decide +kernel⟩
theorem mi_X4_isThing : MI yX4_isThing RX4 cX4_isThing 2 (some .boolean) 1 := ⟨q_im_yX4_isThing, q_se_yX4_isThing, q_ini_RX4, q_co_yX4_isThing, by decide +kernel, by decide +kernel, by decide +kernel, by decide +kernel⟩
theorem mi_X4_isShutIn : MI yX4_isShutIn RX4 cX4_isShutIn 4 (some .boolean) 1 := ⟨q_im_yX4_isShutIn, q_se_yX4_isShutIn, q_ini_RX4, q_co_yX4_isShutIn, by decide +kernel, by decide +kernel, by decide +kernel, by decide +kernel⟩
theorem mi_X4_outer : MI yX4_outer RX4 cX4_outer 2 (some .int) 1 := ⟨q_im_yX4_outer, q_se_yX4_outer, q_ini_RX4, q_co_yX4_outer, by decide +kernel, by decide +kernel, by decide +kernel, by decide +kernel⟩
theorem mi_X4_kindOf : MI yX4_kindOf RX4 cX4_kindOf 2 (some .int) 1 := ⟨q_im_yX4_kindOf, q_se_yX4_kindOf, q_ini_RX4, q_co_yX4_kindOf, by decide +kernel, by decide +kernel, by decide +kernel, by decide +kernel⟩
theorem mi_X4_count : MI yX4_count RX4 cX4_count 4 (some .int) 1 := ⟨q_im_yX4_count, q_se_yX4_count, q_ini_RX4, q_co_yX4_count, by decide +kernel, by decide +kernel, by decide +kernel, by decide +kernel⟩
theorem mi_X4_put : MI yX4_put RX4 cX4_put 3 none 2 := ⟨q_im_yX4_put, q_se_yX4_put, q_ini_RX4, q_co_yX4_put, by decide +kernel, by decide +kernel, by decide +kernel, by decide +kernel⟩
theorem mi_X4_take : MI yX4_take RX4 cX4_take 3 (some .int) 1 := ⟨q_im_yX4_take, q_se_yX4_take, q_ini_RX4, q_co_yX4_take, by decide +kernel, by decide +kernel, by decide +kernel, by decide +kernel⟩
theorem mi_X4_close : MI yX4_close RX4 cX4_close 12 (some .int) 3 := ⟨q_im_yX4_close, q_se_yX4_close, q_ini_RX4, q_co_yX4_close, by decide +kernel, by decide +kernel, by decide +kernel, by decide +kernel⟩
theorem mi_X4_open : MI yX4_open RX4 cX4_open 9 (some .int) 4 := ⟨q_im_yX4_open, q_se_yX4_open, q_ini_RX4, q_co_yX4_open, by decide +kernel, by decide +kernel, by decide +kernel, by decide +kernel⟩
theorem mi_X4_addNote : MI yX4_addNote RX4 cX4_addNote 1 none 0 := ⟨q_im_yX4_addNote, q_se_yX4_addNote, q_ini_RX4, q_co_yX4_addNote, by decide +kernel, by decide +kernel, by decide +kernel, by decide +kernel⟩
theorem mi_X4_found : MI yX4_found RX4 cX4_found 6 (some .int) 2 := ⟨q_im_yX4_found, q_se_yX4_found, q_ini_RX4, q_co_yX4_found, by decide +kernel, by decide +kernel, by decide +kernel, by decide +kernel⟩
theorem mi_X4_liesIn : MI yX4_liesIn RX4 cX4_liesIn 5 (some .boolean) 2 := ⟨q_im_yX4_liesIn, q_se_yX4_liesIn, q_ini_RX4, q_co_yX4_liesIn, by decide +kernel, by decide +kernel, by decide +kernel, by decide +kernel⟩
theorem mi_X4_listPlace : MI yX4_listPlace RX4 cX4_listPlace 5 (some .int) 2 := ⟨q_im_yX4_listPlace, q_se_yX4_listPlace, q_ini_RX4, q_co_yX4_listPlace, by decide +kernel, by decide +kernel, by decide +kernel, by decide +kernel⟩
theorem mi_X4_isExtra : MI yX4_isExtra RX4 cX4_isExtra 5 (some .boolean) 2 := ⟨q_im_yX4_isExtra, q_se_yX4_isExtra, q_ini_RX4, q_co_yX4_isExtra, by decide +kernel, by decide +kernel, by decide +kernel, by decide +kernel⟩
theorem mi_X4_bring : MI yX4_bring RX4 cX4_bring 5 (some .int) 2 := ⟨q_im_yX4_bring, q_se_yX4_bring, q_ini_RX4, q_co_yX4_bring, by decide +kernel, by decide +kernel, by decide +kernel, by decide +kernel⟩
theorem mi_X4_differ : MI yX4_differ RX4 cX4_differ 4 (some .int) 3 := ⟨q_im_yX4_differ, q_se_yX4_differ, q_ini_RX4, q_co_yX4_differ, by decide +kernel, by decide +kernel, by decide +kernel, by decide +kernel⟩
theorem mi_X4_difference : MI yX4_difference RX4 cX4_difference 6 (some .int) 3 := ⟨q_im_yX4_difference, q_se_yX4_difference, q_ini_RX4, q_co_yX4_difference, by decide +kernel, by decide +kernel, by decide +kernel, by decide +kernel⟩
theorem mi_X4_pick : MI yX4_pick RX4 cX4_pick 5 (some .int) 3 := ⟨q_im_yX4_pick, q_se_yX4_pick, q_ini_RX4, q_co_yX4_pick, by decide +kernel, by decide +kernel, by decide +kernel, by decide +kernel⟩
theorem mi_X4_inside : MI yX4_inside RX4 cX4_inside 2 (some .int) 1 := ⟨q_im_yX4_inside, q_se_yX4_inside, q_ini_RX4, q_co_yX4_inside, by decide +kernel, by decide +kernel, by decide +kernel, by decide +kernel⟩
theorem mi_X4_weight : MI yX4_weight RX4 cX4_weight 9 (some .int) 2 := ⟨q_im_yX4_weight, q_se_yX4_weight, q_ini_RX4, q_co_yX4_weight, by decide +kernel, by decide +kernel, by decide +kernel, by decide +kernel⟩
theorem mi_X4_own : MI yX4_own RX4 cX4_own 2 (some .long) 1 := ⟨q_im_yX4_own, q_se_yX4_own, q_ini_RX4, q_co_yX4_own, by decide +kernel, by decide +kernel, by decide +kernel, by decide +kernel⟩
theorem mi_X4_document : MI yX4_document RX4 cX4_document 3 (some .int) 2 := ⟨q_im_yX4_document, q_se_yX4_document, q_ini_RX4, q_co_yX4_document, by decide +kernel, by decide +kernel, by decide +kernel, by decide +kernel⟩
theorem mi_X4_move : MI yX4_move RX4 cX4_move 3 (some .int) 2 := ⟨q_im_yX4_move, q_se_yX4_move, q_ini_RX4, q_co_yX4_move, by decide +kernel, by decide +kernel, by decide +kernel, by decide +kernel⟩
theorem mi_X4_place : MI yX4_place RX4 cX4_place 2 (some .int) 1 := ⟨q_im_yX4_place, q_se_yX4_place, q_ini_RX4, q_co_yX4_place, by decide +kernel, by decide +kernel, by decide +kernel, by decide +kernel⟩
theorem mi_X4_tick : MI yX4_tick RX4 cX4_tick 5 (some .int) 1 := ⟨q_im_yX4_tick, q_se_yX4_tick, q_ini_RX4, q_co_yX4_tick, by decide +kernel, by decide +kernel, by decide +kernel, by decide +kernel⟩
end
section
theorem dX0_init_0 : decode cX0_init 0 = .ok (.aload_n 0, 1) := by decide +kernel
theorem dX0_init_1 : decode cX0_init 1 = .ok (.invokespecial 3, 3) := by decide +kernel
theorem dX0_init_4 : decode cX0_init 4 = .ok (.aload_n 0, 1) := by decide +kernel
theorem dX0_init_5 : decode cX0_init 5 = .ok (.sipush 512, 3) := by decide +kernel
theorem dX0_init_8 : decode cX0_init 8 = .ok (.newarray .long, 2) := by decide +kernel
theorem dX0_init_10 : decode cX0_init 10 = .ok (.putfield 9, 3) := by decide +kernel
theorem dX0_init_13 : decode cX0_init 13 = .ok (.return_, 1) := by decide +kernel
theorem dX0_add_0 : decode cX0_add 0 = .ok (.aload_n 0, 1) := by decide +kernel
theorem dX0_add_1 : decode cX0_add 1 = .ok (.getfield 15, 3) := by decide +kernel
theorem dX0_add_4 : decode cX0_add 4 = .ok (.ifCond .lt 35, 3) := by decide +kernel
theorem dX0_add_7 : decode cX0_add 7 = .ok (.aload_n 0, 1) := by decide +kernel
theorem dX0_add_8 : decode cX0_add 8 = .ok (.getfield 15, 3) := by decide +kernel
theorem dX0_add_11 : decode cX0_add 11 = .ok (.aload_n 0, 1) := by decide +kernel
theorem dX0_add_12 : decode cX0_add 12 = .ok (.getfield 9, 3) := by decide +kernel
theorem dX0_add_15 : decode cX0_add 15 = .ok (.arraylength, 1) := by decide +kernel
theorem dX0_add_16 : decode cX0_add 16 = .ok (.if_icmp .ge 23, 3) := by decide +kernel
theorem dX0_add_19 : decode cX0_add 19 = .ok (.aload_n 0, 1) := by decide +kernel
theorem dX0_add_20 : decode cX0_add 20 = .ok (.getfield 9, 3) := by decide +kernel
theorem dX0_add_23 : decode cX0_add 23 = .ok (.aload_n 0, 1) := by decide +kernel
theorem dX0_add_24 : decode cX0_add 24 = .ok (.getfield 15, 3) := by decide +kernel
theorem dX0_add_27 : decode cX0_add 27 = .ok (.lload_n 1, 1) := by decide +kernel
theorem dX0_add_28 : decode cX0_add 28 = .ok (.lastore, 1) := by decide +kernel
theorem dX0_add_29 : decode cX0_add 29 = .ok (.aload_n 0, 1) := by decide +kernel
theorem dX0_add_30 : decode cX0_add 30 = .ok (.dup, 1) := by decide +kernel
theorem dX0_add_31 : decode cX0_add 31 = .ok (.getfield 15, 3) := by decide +kernel
theorem dX0_add_34 : decode cX0_add 34 = .ok (.iconst 1, 1) := by decide +kernel
theorem dX0_add_35 : decode cX0_add 35 = .ok (.iadd, 1) := by decide +kernel
theorem dX0_add_36 : decode cX0_add 36 = .ok (.putfield 15, 3) := by decide +kernel
theorem dX0_add_39 : decode cX0_add 39 = .ok (.return_, 1) := by decide +kernel
theorem dX0_tellUntil_0 : decode cX0_tellUntil 0 = .ok (.aload_n 0, 1) := by decide +kernel
theorem dX0_tellUntil_1 : decode cX0_tellUntil 1 = .ok (.getfield 19, 3) := by decide +kernel
theorem dX0_tellUntil_4 : decode cX0_tellUntil 4 = .ok (.istore_n 3, 1) := by decide +kernel
theorem dX0_tellUntil_5 : decode cX0_tellUntil 5 = .ok (.iload_n 3, 1) := by decide +kernel
theorem dX0_tellUntil_6 : decode cX0_tellUntil 6 = .ok (.istore 4, 2) := by decide +kernel
theorem dX0_tellUntil_8 : decode cX0_tellUntil 8 = .ok (.iload 4, 2) := by decide +kernel
theorem dX0_tellUntil_10 : decode cX0_tellUntil 10 = .ok (.ifCond .lt 48, 3) := by decide +kernel
theorem dX0_tellUntil_13 : decode cX0_tellUntil 13 = .ok (.iload 4, 2) := by decide +kernel
theorem dX0_tellUntil_15 : decode cX0_tellUntil 15 = .ok (.aload_n 0, 1) := by decide +kernel
theorem dX0_tellUntil_16 : decode cX0_tellUntil 16 = .ok (.getfield 15, 3) := by decide +kernel
theorem dX0_tellUntil_19 : decode cX0_tellUntil 19 = .ok (.if_icmp .ge 39, 3) := by decide +kernel
theorem dX0_tellUntil_22 : decode cX0_tellUntil 22 = .ok (.iload 4, 2) := by decide +kernel
theorem dX0_tellUntil_24 : decode cX0_tellUntil 24 = .ok (.aload_n 0, 1) := by decide +kernel
theorem dX0_tellUntil_25 : decode cX0_tellUntil 25 = .ok (.getfield 9, 3) := by decide +kernel
theorem dX0_tellUntil_28 : decode cX0_tellUntil 28 = .ok (.arraylength, 1) := by decide +kernel
theorem dX0_tellUntil_29 : decode cX0_tellUntil 29 = .ok (.if_icmp .ge 29, 3) := by decide +kernel
theorem dX0_tellUntil_32 : decode cX0_tellUntil 32 = .ok (.aload_n 0, 1) := by decide +kernel
theorem dX0_tellUntil_33 : decode cX0_tellUntil 33 = .ok (.getfield 9, 3) := by decide +kernel
theorem dX0_tellUntil_36 : decode cX0_tellUntil 36 = .ok (.iload 4, 2) := by decide +kernel
theorem dX0_tellUntil_38 : decode cX0_tellUntil 38 = .ok (.laload, 1) := by decide +kernel
theorem dX0_tellUntil_39 : decode cX0_tellUntil 39 = .ok (.lload_n 1, 1) := by decide +kernel
theorem dX0_tellUntil_40 : decode cX0_tellUntil 40 = .ok (.lcmp, 1) := by decide +kernel
theorem dX0_tellUntil_41 : decode cX0_tellUntil 41 = .ok (.ifCond .gt 17, 3) := by decide +kernel
theorem dX0_tellUntil_44 : decode cX0_tellUntil 44 = .ok (.aload_n 0, 1) := by decide +kernel
theorem dX0_tellUntil_45 : decode cX0_tellUntil 45 = .ok (.iload 4, 2) := by decide +kernel
theorem dX0_tellUntil_47 : decode cX0_tellUntil 47 = .ok (.iconst 1, 1) := by decide +kernel
theorem dX0_tellUntil_48 : decode cX0_tellUntil 48 = .ok (.iadd, 1) := by decide +kernel
theorem dX0_tellUntil_49 : decode cX0_tellUntil 49 = .ok (.putfield 19, 3) := by decide +kernel
theorem dX0_tellUntil_52 : decode cX0_tellUntil 52 = .ok (.iinc 4 1, 3) := by decide +kernel
theorem dX0_tellUntil_55 : decode cX0_tellUntil 55 = .ok (.goto (-47), 3) := by decide +kernel
theorem dX0_tellUntil_58 : decode cX0_tellUntil 58 = .ok (.aload_n 0, 1) := by decide +kernel
theorem dX0_tellUntil_59 : decode cX0_tellUntil 59 = .ok (.getfield 19, 3) := by decide +kernel
theorem dX0_tellUntil_62 : decode cX0_tellUntil 62 = .ok (.iload_n 3, 1) := by decide +kernel
theorem dX0_tellUntil_63 : decode cX0_tellUntil 63 = .ok (.isub, 1) := by decide +kernel
theorem dX0_tellUntil_64 : decode cX0_tellUntil 64 = .ok (.ireturn, 1) := by decide +kernel
theorem dX1_init_0 : decode cX1_init 0 = .ok (.aload_n 0, 1) := by decide +kernel
theorem dX1_init_1 : decode cX1_init 1 = .ok (.invokespecial 3, 3) := by decide +kernel
theorem dX1_init_4 : decode cX1_init 4 = .ok (.aload_n 0, 1) := by decide +kernel
theorem dX1_init_5 : decode cX1_init 5 = .ok (.iload_n 1, 1) := by decide +kernel
theorem dX1_init_6 : decode cX1_init 6 = .ok (.putfield 9, 3) := by decide +kernel
theorem dX1_init_9 : decode cX1_init 9 = .ok (.aload_n 0, 1) := by decide +kernel
theorem dX1_init_10 : decode cX1_init 10 = .ok (.new 15, 3) := by decide +kernel
theorem dX1_init_13 : decode cX1_init 13 = .ok (.dup, 1) := by decide +kernel
theorem dX1_init_14 : decode cX1_init 14 = .ok (.bipush 12, 2) := by decide +kernel
theorem dX1_init_16 : decode cX1_init 16 = .ok (.invokespecial 17, 3) := by decide +kernel
theorem dX1_init_19 : decode cX1_init 19 = .ok (.putfield 20, 3) := by decide +kernel
theorem dX1_init_22 : decode cX1_init 22 = .ok (.aload_n 0, 1) := by decide +kernel
theorem dX1_init_23 : decode cX1_init 23 = .ok (.new 15, 3) := by decide +kernel
theorem dX1_init_26 : decode cX1_init 26 = .ok (.dup, 1) := by decide +kernel
theorem dX1_init_27 : decode cX1_init 27 = .ok (.bipush 12, 2) := by decide +kernel
theorem dX1_init_29 : decode cX1_init 29 = .ok (.invokespecial 17, 3) := by decide +kernel
theorem dX1_init_32 : decode cX1_init 32 = .ok (.putfield 24, 3) := by decide +kernel
theorem dX1_init_35 : decode cX1_init 35 = .ok (.aload_n 0, 1) := by decide +kernel
theorem dX1_init_36 : decode cX1_init 36 = .ok (.new 15, 3) := by decide +kernel
theorem dX1_init_39 : decode cX1_init 39 = .ok (.dup, 1) := by decide +kernel
theorem dX1_init_40 : decode cX1_init 40 = .ok (.iconst 1, 1) := by decide +kernel
theorem dX1_init_41 : decode cX1_init 41 = .ok (.invokespecial 17, 3) := by decide +kernel
theorem dX1_init_44 : decode cX1_init 44 = .ok (.putfield 27, 3) := by decide +kernel
theorem dX1_init_47 : decode cX1_init 47 = .ok (.aload_n 0, 1) := by decide +kernel
theorem dX1_init_48 : decode cX1_init 48 = .ok (.new 15, 3) := by decide +kernel
theorem dX1_init_51 : decode cX1_init 51 = .ok (.dup, 1) := by decide +kernel
theorem dX1_init_52 : decode cX1_init 52 = .ok (.bipush 6, 2) := by decide +kernel
theorem dX1_init_54 : decode cX1_init 54 = .ok (.invokespecial 17, 3) := by decide +kernel
theorem dX1_init_57 : decode cX1_init 57 = .ok (.putfield 30, 3) := by decide +kernel
theorem dX1_init_60 : decode cX1_init 60 = .ok (.aload_n 0, 1) := by decide +kernel
theorem dX1_init_61 : decode cX1_init 61 = .ok (.new 15, 3) := by decide +kernel
theorem dX1_init_64 : decode cX1_init 64 = .ok (.dup, 1) := by decide +kernel
theorem dX1_init_65 : decode cX1_init 65 = .ok (.bipush 12, 2) := by decide +kernel
theorem dX1_init_67 : decode cX1_init 67 = .ok (.invokespecial 17, 3) := by decide +kernel
theorem dX1_init_70 : decode cX1_init 70 = .ok (.putfield 33, 3) := by decide +kernel
theorem dX1_init_73 : decode cX1_init 73 = .ok (.aload_n 0, 1) := by decide +kernel
theorem dX1_init_74 : decode cX1_init 74 = .ok (.new 15, 3) := by decide +kernel
theorem dX1_init_77 : decode cX1_init 77 = .ok (.dup, 1) := by decide +kernel
theorem dX1_init_78 : decode cX1_init 78 = .ok (.bipush 12, 2) := by decide +kernel
theorem dX1_init_80 : decode cX1_init 80 = .ok (.invokespecial 17, 3) := by decide +kernel
theorem dX1_init_83 : decode cX1_init 83 = .ok (.putfield 36, 3) := by decide +kernel
theorem dX1_init_86 : decode cX1_init 86 = .ok (.return_, 1) := by decide +kernel
theorem dX1_shut_0 : decode cX1_shut 0 = .ok (.aload_n 0, 1) := by decide +kernel
theorem dX1_shut_1 : decode cX1_shut 1 = .ok (.iconst 1, 1) := by decide +kernel
theorem dX1_shut_2 : decode cX1_shut 2 = .ok (.putfield 39, 3) := by decide +kernel
theorem dX1_shut_5 : decode cX1_shut 5 = .ok (.aload_n 0, 1) := by decide +kernel
theorem dX1_shut_6 : decode cX1_shut 6 = .ok (.iconst 1, 1) := by decide +kernel
theorem dX1_shut_7 : decode cX1_shut 7 = .ok (.putfield 43, 3) := by decide +kernel
theorem dX1_shut_10 : decode cX1_shut 10 = .ok (.aload_n 0, 1) := by decide +kernel
theorem dX1_shut_11 : decode cX1_shut 11 = .ok (.lload_n 1, 1) := by decide +kernel
theorem dX1_shut_12 : decode cX1_shut 12 = .ok (.putfield 46, 3) := by decide +kernel
theorem dX1_shut_15 : decode cX1_shut 15 = .ok (.aload_n 0, 1) := by decide +kernel
theorem dX1_shut_16 : decode cX1_shut 16 = .ok (.iload_n 3, 1) := by decide +kernel
theorem dX1_shut_17 : decode cX1_shut 17 = .ok (.putfield 50, 3) := by decide +kernel
theorem dX1_shut_20 : decode cX1_shut 20 = .ok (.aload_n 0, 1) := by decide +kernel
theorem dX1_shut_21 : decode cX1_shut 21 = .ok (.getfield 24, 3) := by decide +kernel
theorem dX1_shut_24 : decode cX1_shut 24 = .ok (.aload_n 0, 1) := by decide +kernel
theorem dX1_shut_25 : decode cX1_shut 25 = .ok (.getfield 20, 3) := by decide +kernel
theorem dX1_shut_28 : decode cX1_shut 28 = .ok (.invokevirtual 53, 3) := by decide +kernel
theorem dX1_shut_31 : decode cX1_shut 31 = .ok (.aload_n 0, 1) := by decide +kernel
theorem dX1_shut_32 : decode cX1_shut 32 = .ok (.getfield 30, 3) := by decide +kernel
theorem dX1_shut_35 : decode cX1_shut 35 = .ok (.invokevirtual 57, 3) := by decide +kernel
theorem dX1_shut_38 : decode cX1_shut 38 = .ok (.return_, 1) := by decide +kernel
theorem dX1_mayBeOpenedBy_0 : decode cX1_mayBeOpenedBy 0 = .ok (.aload_n 0, 1) := by decide +kernel
theorem dX1_mayBeOpenedBy_1 : decode cX1_mayBeOpenedBy 1 = .ok (.getfield 9, 3) := by decide +kernel
theorem dX1_mayBeOpenedBy_4 : decode cX1_mayBeOpenedBy 4 = .ok (.iconst 2, 1) := by decide +kernel
theorem dX1_mayBeOpenedBy_5 : decode cX1_mayBeOpenedBy 5 = .ok (.if_icmp .lt 19, 3) := by decide +kernel
theorem dX1_mayBeOpenedBy_8 : decode cX1_mayBeOpenedBy 8 = .ok (.iload_n 2, 1) := by decide +kernel
theorem dX1_mayBeOpenedBy_9 : decode cX1_mayBeOpenedBy 9 = .ok (.iconst (-1), 1) := by decide +kernel
theorem dX1_mayBeOpenedBy_10 : decode cX1_mayBeOpenedBy 10 = .ok (.if_icmp .eq 12, 3) := by decide +kernel
theorem dX1_mayBeOpenedBy_13 : decode cX1_mayBeOpenedBy 13 = .ok (.iload_n 1, 1) := by decide +kernel
theorem dX1_mayBeOpenedBy_14 : decode cX1_mayBeOpenedBy 14 = .ok (.iload_n 2, 1) := by decide +kernel
theorem dX1_mayBeOpenedBy_15 : decode cX1_mayBeOpenedBy 15 = .ok (.if_icmp .eq 7, 3) := by decide +kernel
theorem dX1_mayBeOpenedBy_18 : decode cX1_mayBeOpenedBy 18 = .ok (.iconst 1, 1) := by decide +kernel
theorem dX1_mayBeOpenedBy_19 : decode cX1_mayBeOpenedBy 19 = .ok (.goto 4, 3) := by decide +kernel
theorem dX1_mayBeOpenedBy_22 : decode cX1_mayBeOpenedBy 22 = .ok (.iconst 0, 1) := by decide +kernel
theorem dX1_mayBeOpenedBy_23 : decode cX1_mayBeOpenedBy 23 = .ok (.ireturn, 1) := by decide +kernel
theorem dX1_mayBeOpenedBy_24 : decode cX1_mayBeOpenedBy 24 = .ok (.iload_n 2, 1) := by decide +kernel
theorem dX1_mayBeOpenedBy_25 : decode cX1_mayBeOpenedBy 25 = .ok (.iconst (-1), 1) := by decide +kernel
theorem dX1_mayBeOpenedBy_26 : decode cX1_mayBeOpenedBy 26 = .ok (.if_icmp .ne 15, 3) := by decide +kernel
theorem dX1_mayBeOpenedBy_29 : decode cX1_mayBeOpenedBy 29 = .ok (.iload_n 1, 1) := by decide +kernel
theorem dX1_mayBeOpenedBy_30 : decode cX1_mayBeOpenedBy 30 = .ok (.aload_n 0, 1) := by decide +kernel
theorem dX1_mayBeOpenedBy_31 : decode cX1_mayBeOpenedBy 31 = .ok (.getfield 50, 3) := by decide +kernel
theorem dX1_mayBeOpenedBy_34 : decode cX1_mayBeOpenedBy 34 = .ok (.if_icmp .eq 7, 3) := by decide +kernel
theorem dX1_mayBeOpenedBy_37 : decode cX1_mayBeOpenedBy 37 = .ok (.iconst 1, 1) := by decide +kernel
theorem dX1_mayBeOpenedBy_38 : decode cX1_mayBeOpenedBy 38 = .ok (.goto 4, 3) := by decide +kernel
theorem dX1_mayBeOpenedBy_41 : decode cX1_mayBeOpenedBy 41 = .ok (.iconst 0, 1) := by decide +kernel
theorem dX1_mayBeOpenedBy_42 : decode cX1_mayBeOpenedBy 42 = .ok (.ireturn, 1) := by decide +kernel
theorem dX1_unseal_0 : decode cX1_unseal 0 = .ok (.aload_n 0, 1) := by decide +kernel
theorem dX1_unseal_1 : decode cX1_unseal 1 = .ok (.iconst 0, 1) := by decide +kernel
theorem dX1_unseal_2 : decode cX1_unseal 2 = .ok (.putfield 39, 3) := by decide +kernel
theorem dX1_unseal_5 : decode cX1_unseal 5 = .ok (.aload_n 0, 1) := by decide +kernel
theorem dX1_unseal_6 : decode cX1_unseal 6 = .ok (.getfield 27, 3) := by decide +kernel
theorem dX1_unseal_9 : decode cX1_unseal 9 = .ok (.invokevirtual 57, 3) := by decide +kernel
theorem dX1_unseal_12 : decode cX1_unseal 12 = .ok (.aload_n 0, 1) := by decide +kernel
theorem dX1_unseal_13 : decode cX1_unseal 13 = .ok (.getfield 33, 3) := by decide +kernel
theorem dX1_unseal_16 : decode cX1_unseal 16 = .ok (.aload_n 0, 1) := by decide +kernel
theorem dX1_unseal_17 : decode cX1_unseal 17 = .ok (.getfield 24, 3) := by decide +kernel
theorem dX1_unseal_20 : decode cX1_unseal 20 = .ok (.invokevirtual 53, 3) := by decide +kernel
theorem dX1_unseal_23 : decode cX1_unseal 23 = .ok (.aload_n 0, 1) := by decide +kernel
theorem dX1_unseal_24 : decode cX1_unseal 24 = .ok (.getfield 36, 3) := by decide +kernel
theorem dX1_unseal_27 : decode cX1_unseal 27 = .ok (.invokevirtual 57, 3) := by decide +kernel
theorem dX1_unseal_30 : decode cX1_unseal 30 = .ok (.lload_n 1, 1) := by decide +kernel
theorem dX1_unseal_31 : decode cX1_unseal 31 = .ok (.aload_n 0, 1) := by decide +kernel
theorem dX1_unseal_32 : decode cX1_unseal 32 = .ok (.getfield 46, 3) := by decide +kernel
theorem dX1_unseal_35 : decode cX1_unseal 35 = .ok (.lcmp, 1) := by decide +kernel
theorem dX1_unseal_36 : decode cX1_unseal 36 = .ok (.ifCond .ne 5, 3) := by decide +kernel
theorem dX1_unseal_39 : decode cX1_unseal 39 = .ok (.iconst 1, 1) := by decide +kernel
theorem dX1_unseal_40 : decode cX1_unseal 40 = .ok (.ireturn, 1) := by decide +kernel
theorem dX1_unseal_41 : decode cX1_unseal 41 = .ok (.aload_n 0, 1) := by decide +kernel
theorem dX1_unseal_42 : decode cX1_unseal 42 = .ok (.getfield 27, 3) := by decide +kernel
theorem dX1_unseal_45 : decode cX1_unseal 45 = .ok (.lload_n 1, 1) := by decide +kernel
theorem dX1_unseal_46 : decode cX1_unseal 46 = .ok (.l2i, 1) := by decide +kernel
theorem dX1_unseal_47 : decode cX1_unseal 47 = .ok (.invokevirtual 60, 3) := by decide +kernel
theorem dX1_unseal_50 : decode cX1_unseal 50 = .ok (.iconst 0, 1) := by decide +kernel
theorem dX1_unseal_51 : decode cX1_unseal 51 = .ok (.ireturn, 1) := by decide +kernel
theorem dX1_isChecked_0 : decode cX1_isChecked 0 = .ok (.aload_n 0, 1) := by decide +kernel
theorem dX1_isChecked_1 : decode cX1_isChecked 1 = .ok (.getfield 39, 3) := by decide +kernel
theorem dX1_isChecked_4 : decode cX1_isChecked 4 = .ok (.ifCond .ne 14, 3) := by decide +kernel
theorem dX1_isChecked_7 : decode cX1_isChecked 7 = .ok (.aload_n 0, 1) := by decide +kernel
theorem dX1_isChecked_8 : decode cX1_isChecked 8 = .ok (.getfield 43, 3) := by decide +kernel
theorem dX1_isChecked_11 : decode cX1_isChecked 11 = .ok (.ifCond .eq 7, 3) := by decide +kernel
theorem dX1_isChecked_14 : decode cX1_isChecked 14 = .ok (.iconst 1, 1) := by decide +kernel
theorem dX1_isChecked_15 : decode cX1_isChecked 15 = .ok (.goto 4, 3) := by decide +kernel
theorem dX1_isChecked_18 : decode cX1_isChecked 18 = .ok (.iconst 0, 1) := by decide +kernel
theorem dX1_isChecked_19 : decode cX1_isChecked 19 = .ok (.ireturn, 1) := by decide +kernel
theorem dX1_differencesOf_0 : decode cX1_differencesOf 0 = .ok (.iload_n 1, 1) := by decide +kernel
theorem dX1_differencesOf_1 : decode cX1_differencesOf 1 = .ok (.tableswitch 42 0 2 #[27, 32, 37], 27) := by decide +kernel
theorem dX1_differencesOf_28 : decode cX1_differencesOf 28 = .ok (.aload_n 0, 1) := by decide +kernel
theorem dX1_differencesOf_29 : decode cX1_differencesOf 29 = .ok (.getfield 27, 3) := by decide +kernel
theorem dX1_differencesOf_32 : decode cX1_differencesOf 32 = .ok (.areturn, 1) := by decide +kernel
theorem dX1_differencesOf_33 : decode cX1_differencesOf 33 = .ok (.aload_n 0, 1) := by decide +kernel
theorem dX1_differencesOf_34 : decode cX1_differencesOf 34 = .ok (.getfield 30, 3) := by decide +kernel
theorem dX1_differencesOf_37 : decode cX1_differencesOf 37 = .ok (.areturn, 1) := by decide +kernel
theorem dX1_differencesOf_38 : decode cX1_differencesOf 38 = .ok (.aload_n 0, 1) := by decide +kernel
theorem dX1_differencesOf_39 : decode cX1_differencesOf 39 = .ok (.getfield 33, 3) := by decide +kernel
theorem dX1_differencesOf_42 : decode cX1_differencesOf 42 = .ok (.areturn, 1) := by decide +kernel
theorem dX1_differencesOf_43 : decode cX1_differencesOf 43 = .ok (.aload_n 0, 1) := by decide +kernel
theorem dX1_differencesOf_44 : decode cX1_differencesOf 44 = .ok (.getfield 36, 3) := by decide +kernel
theorem dX1_differencesOf_47 : decode cX1_differencesOf 47 = .ok (.areturn, 1) := by decide +kernel
theorem dX2_init_0 : decode cX2_init 0 = .ok (.aload_n 0, 1) := by decide +kernel
theorem dX2_init_1 : decode cX2_init 1 = .ok (.invokespecial 1, 3) := by decide +kernel
theorem dX2_init_4 : decode cX2_init 4 = .ok (.aload_n 0, 1) := by decide +kernel
theorem dX2_init_5 : decode cX2_init 5 = .ok (.iload_n 1, 1) := by decide +kernel
theorem dX2_init_6 : decode cX2_init 6 = .ok (.ifCond .ge 7, 3) := by decide +kernel
theorem dX2_init_9 : decode cX2_init 9 = .ok (.iconst 0, 1) := by decide +kernel
theorem dX2_init_10 : decode cX2_init 10 = .ok (.goto 4, 3) := by decide +kernel
theorem dX2_init_13 : decode cX2_init 13 = .ok (.iload_n 1, 1) := by decide +kernel
theorem dX2_init_14 : decode cX2_init 14 = .ok (.newarray .int, 2) := by decide +kernel
theorem dX2_init_16 : decode cX2_init 16 = .ok (.putfield 7, 3) := by decide +kernel
theorem dX2_init_19 : decode cX2_init 19 = .ok (.return_, 1) := by decide +kernel
theorem dX2_size_0 : decode cX2_size 0 = .ok (.aload_n 0, 1) := by decide +kernel
theorem dX2_size_1 : decode cX2_size 1 = .ok (.getfield 13, 3) := by decide +kernel
theorem dX2_size_4 : decode cX2_size 4 = .ok (.ireturn, 1) := by decide +kernel
theorem dX2_isFull_0 : decode cX2_isFull 0 = .ok (.aload_n 0, 1) := by decide +kernel
theorem dX2_isFull_1 : decode cX2_isFull 1 = .ok (.getfield 13, 3) := by decide +kernel
theorem dX2_isFull_4 : decode cX2_isFull 4 = .ok (.aload_n 0, 1) := by decide +kernel
theorem dX2_isFull_5 : decode cX2_isFull 5 = .ok (.getfield 7, 3) := by decide +kernel
theorem dX2_isFull_8 : decode cX2_isFull 8 = .ok (.arraylength, 1) := by decide +kernel
theorem dX2_isFull_9 : decode cX2_isFull 9 = .ok (.if_icmp .lt 7, 3) := by decide +kernel
theorem dX2_isFull_12 : decode cX2_isFull 12 = .ok (.iconst 1, 1) := by decide +kernel
theorem dX2_isFull_13 : decode cX2_isFull 13 = .ok (.goto 4, 3) := by decide +kernel
theorem dX2_isFull_16 : decode cX2_isFull 16 = .ok (.iconst 0, 1) := by decide +kernel
theorem dX2_isFull_17 : decode cX2_isFull 17 = .ok (.ireturn, 1) := by decide +kernel
theorem dX2_at_0 : decode cX2_at 0 = .ok (.iload_n 1, 1) := by decide +kernel
theorem dX2_at_1 : decode cX2_at 1 = .ok (.ifCond .lt 29, 3) := by decide +kernel
theorem dX2_at_4 : decode cX2_at 4 = .ok (.iload_n 1, 1) := by decide +kernel
theorem dX2_at_5 : decode cX2_at 5 = .ok (.aload_n 0, 1) := by decide +kernel
theorem dX2_at_6 : decode cX2_at 6 = .ok (.getfield 13, 3) := by decide +kernel
theorem dX2_at_9 : decode cX2_at 9 = .ok (.if_icmp .ge 21, 3) := by decide +kernel
theorem dX2_at_12 : decode cX2_at 12 = .ok (.iload_n 1, 1) := by decide +kernel
theorem dX2_at_13 : decode cX2_at 13 = .ok (.aload_n 0, 1) := by decide +kernel
theorem dX2_at_14 : decode cX2_at 14 = .ok (.getfield 7, 3) := by decide +kernel
theorem dX2_at_17 : decode cX2_at 17 = .ok (.arraylength, 1) := by decide +kernel
theorem dX2_at_18 : decode cX2_at 18 = .ok (.if_icmp .ge 12, 3) := by decide +kernel
theorem dX2_at_21 : decode cX2_at 21 = .ok (.aload_n 0, 1) := by decide +kernel
theorem dX2_at_22 : decode cX2_at 22 = .ok (.getfield 7, 3) := by decide +kernel
theorem dX2_at_25 : decode cX2_at 25 = .ok (.iload_n 1, 1) := by decide +kernel
theorem dX2_at_26 : decode cX2_at 26 = .ok (.iaload, 1) := by decide +kernel
theorem dX2_at_27 : decode cX2_at 27 = .ok (.goto 4, 3) := by decide +kernel
theorem dX2_at_30 : decode cX2_at 30 = .ok (.iconst 0, 1) := by decide +kernel
theorem dX2_at_31 : decode cX2_at 31 = .ok (.ireturn, 1) := by decide +kernel
theorem dX2_holds_0 : decode cX2_holds 0 = .ok (.iconst 0, 1) := by decide +kernel
theorem dX2_holds_1 : decode cX2_holds 1 = .ok (.istore_n 2, 1) := by decide +kernel
theorem dX2_holds_2 : decode cX2_holds 2 = .ok (.iload_n 2, 1) := by decide +kernel
theorem dX2_holds_3 : decode cX2_holds 3 = .ok (.aload_n 0, 1) := by decide +kernel
theorem dX2_holds_4 : decode cX2_holds 4 = .ok (.getfield 13, 3) := by decide +kernel
theorem dX2_holds_7 : decode cX2_holds 7 = .ok (.if_icmp .ge 30, 3) := by decide +kernel
theorem dX2_holds_10 : decode cX2_holds 10 = .ok (.iload_n 2, 1) := by decide +kernel
theorem dX2_holds_11 : decode cX2_holds 11 = .ok (.aload_n 0, 1) := by decide +kernel
theorem dX2_holds_12 : decode cX2_holds 12 = .ok (.getfield 7, 3) := by decide +kernel
theorem dX2_holds_15 : decode cX2_holds 15 = .ok (.arraylength, 1) := by decide +kernel
theorem dX2_holds_16 : decode cX2_holds 16 = .ok (.if_icmp .ge 21, 3) := by decide +kernel
theorem dX2_holds_19 : decode cX2_holds 19 = .ok (.aload_n 0, 1) := by decide +kernel
theorem dX2_holds_20 : decode cX2_holds 20 = .ok (.getfield 7, 3) := by decide +kernel
theorem dX2_holds_23 : decode cX2_holds 23 = .ok (.iload_n 2, 1) := by decide +kernel
theorem dX2_holds_24 : decode cX2_holds 24 = .ok (.iaload, 1) := by decide +kernel
theorem dX2_holds_25 : decode cX2_holds 25 = .ok (.iload_n 1, 1) := by decide +kernel
theorem dX2_holds_26 : decode cX2_holds 26 = .ok (.if_icmp .ne 5, 3) := by decide +kernel
theorem dX2_holds_29 : decode cX2_holds 29 = .ok (.iconst 1, 1) := by decide +kernel
theorem dX2_holds_30 : decode cX2_holds 30 = .ok (.ireturn, 1) := by decide +kernel
theorem dX2_holds_31 : decode cX2_holds 31 = .ok (.iinc 2 1, 3) := by decide +kernel
theorem dX2_holds_34 : decode cX2_holds 34 = .ok (.goto (-32), 3) := by decide +kernel
theorem dX2_holds_37 : decode cX2_holds 37 = .ok (.iconst 0, 1) := by decide +kernel
theorem dX2_holds_38 : decode cX2_holds 38 = .ok (.ireturn, 1) := by decide +kernel
theorem dX2_append_0 : decode cX2_append 0 = .ok (.aload_n 0, 1) := by decide +kernel
theorem dX2_append_1 : decode cX2_append 1 = .ok (.getfield 13, 3) := by decide +kernel
theorem dX2_append_4 : decode cX2_append 4 = .ok (.ifCond .lt 35, 3) := by decide +kernel
theorem dX2_append_7 : decode cX2_append 7 = .ok (.aload_n 0, 1) := by decide +kernel
theorem dX2_append_8 : decode cX2_append 8 = .ok (.getfield 13, 3) := by decide +kernel
theorem dX2_append_11 : decode cX2_append 11 = .ok (.aload_n 0, 1) := by decide +kernel
theorem dX2_append_12 : decode cX2_append 12 = .ok (.getfield 7, 3) := by decide +kernel
theorem dX2_append_15 : decode cX2_append 15 = .ok (.arraylength, 1) := by decide +kernel
theorem dX2_append_16 : decode cX2_append 16 = .ok (.if_icmp .ge 23, 3) := by decide +kernel
theorem dX2_append_19 : decode cX2_append 19 = .ok (.aload_n 0, 1) := by decide +kernel
theorem dX2_append_20 : decode cX2_append 20 = .ok (.getfield 7, 3) := by decide +kernel
theorem dX2_append_23 : decode cX2_append 23 = .ok (.aload_n 0, 1) := by decide +kernel
theorem dX2_append_24 : decode cX2_append 24 = .ok (.getfield 13, 3) := by decide +kernel
theorem dX2_append_27 : decode cX2_append 27 = .ok (.iload_n 1, 1) := by decide +kernel
theorem dX2_append_28 : decode cX2_append 28 = .ok (.iastore, 1) := by decide +kernel
theorem dX2_append_29 : decode cX2_append 29 = .ok (.aload_n 0, 1) := by decide +kernel
theorem dX2_append_30 : decode cX2_append 30 = .ok (.dup, 1) := by decide +kernel
theorem dX2_append_31 : decode cX2_append 31 = .ok (.getfield 13, 3) := by decide +kernel
theorem dX2_append_34 : decode cX2_append 34 = .ok (.iconst 1, 1) := by decide +kernel
theorem dX2_append_35 : decode cX2_append 35 = .ok (.iadd, 1) := by decide +kernel
theorem dX2_append_36 : decode cX2_append 36 = .ok (.putfield 13, 3) := by decide +kernel
theorem dX2_append_39 : decode cX2_append 39 = .ok (.return_, 1) := by decide +kernel
theorem dX2_remove_0 : decode cX2_remove 0 = .ok (.iconst 0, 1) := by decide +kernel
theorem dX2_remove_1 : decode cX2_remove 1 = .ok (.istore_n 2, 1) := by decide +kernel
theorem dX2_remove_2 : decode cX2_remove 2 = .ok (.iconst 0, 1) := by decide +kernel
theorem dX2_remove_3 : decode cX2_remove 3 = .ok (.istore_n 3, 1) := by decide +kernel
theorem dX2_remove_4 : decode cX2_remove 4 = .ok (.iload_n 3, 1) := by decide +kernel
theorem dX2_remove_5 : decode cX2_remove 5 = .ok (.aload_n 0, 1) := by decide +kernel
theorem dX2_remove_6 : decode cX2_remove 6 = .ok (.getfield 13, 3) := by decide +kernel
theorem dX2_remove_9 : decode cX2_remove 9 = .ok (.if_icmp .ge 48, 3) := by decide +kernel
theorem dX2_remove_12 : decode cX2_remove 12 = .ok (.iload_n 3, 1) := by decide +kernel
theorem dX2_remove_13 : decode cX2_remove 13 = .ok (.aload_n 0, 1) := by decide +kernel
theorem dX2_remove_14 : decode cX2_remove 14 = .ok (.getfield 7, 3) := by decide +kernel
theorem dX2_remove_17 : decode cX2_remove 17 = .ok (.arraylength, 1) := by decide +kernel
theorem dX2_remove_18 : decode cX2_remove 18 = .ok (.if_icmp .ge 39, 3) := by decide +kernel
theorem dX2_remove_21 : decode cX2_remove 21 = .ok (.aload_n 0, 1) := by decide +kernel
theorem dX2_remove_22 : decode cX2_remove 22 = .ok (.getfield 7, 3) := by decide +kernel
theorem dX2_remove_25 : decode cX2_remove 25 = .ok (.iload_n 3, 1) := by decide +kernel
theorem dX2_remove_26 : decode cX2_remove 26 = .ok (.iaload, 1) := by decide +kernel
theorem dX2_remove_27 : decode cX2_remove 27 = .ok (.iload_n 1, 1) := by decide +kernel
theorem dX2_remove_28 : decode cX2_remove 28 = .ok (.if_icmp .eq 23, 3) := by decide +kernel
theorem dX2_remove_31 : decode cX2_remove 31 = .ok (.iload_n 2, 1) := by decide +kernel
theorem dX2_remove_32 : decode cX2_remove 32 = .ok (.iload_n 3, 1) := by decide +kernel
theorem dX2_remove_33 : decode cX2_remove 33 = .ok (.if_icmp .gt 18, 3) := by decide +kernel
theorem dX2_remove_36 : decode cX2_remove 36 = .ok (.aload_n 0, 1) := by decide +kernel
theorem dX2_remove_37 : decode cX2_remove 37 = .ok (.getfield 7, 3) := by decide +kernel
theorem dX2_remove_40 : decode cX2_remove 40 = .ok (.iload_n 2, 1) := by decide +kernel
theorem dX2_remove_41 : decode cX2_remove 41 = .ok (.aload_n 0, 1) := by decide +kernel
theorem dX2_remove_42 : decode cX2_remove 42 = .ok (.getfield 7, 3) := by decide +kernel
theorem dX2_remove_45 : decode cX2_remove 45 = .ok (.iload_n 3, 1) := by decide +kernel
theorem dX2_remove_46 : decode cX2_remove 46 = .ok (.iaload, 1) := by decide +kernel
theorem dX2_remove_47 : decode cX2_remove 47 = .ok (.iastore, 1) := by decide +kernel
theorem dX2_remove_48 : decode cX2_remove 48 = .ok (.iinc 2 1, 3) := by decide +kernel
theorem dX2_remove_51 : decode cX2_remove 51 = .ok (.iinc 3 1, 3) := by decide +kernel
theorem dX2_remove_54 : decode cX2_remove 54 = .ok (.goto (-50), 3) := by decide +kernel
theorem dX2_remove_57 : decode cX2_remove 57 = .ok (.aload_n 0, 1) := by decide +kernel
theorem dX2_remove_58 : decode cX2_remove 58 = .ok (.iload_n 2, 1) := by decide +kernel
theorem dX2_remove_59 : decode cX2_remove 59 = .ok (.putfield 13, 3) := by decide +kernel
theorem dX2_remove_62 : decode cX2_remove 62 = .ok (.return_, 1) := by decide +kernel
theorem dX2_clear_0 : decode cX2_clear 0 = .ok (.aload_n 0, 1) := by decide +kernel
theorem dX2_clear_1 : decode cX2_clear 1 = .ok (.iconst 0, 1) := by decide +kernel
theorem dX2_clear_2 : decode cX2_clear 2 = .ok (.putfield 13, 3) := by decide +kernel
theorem dX2_clear_5 : decode cX2_clear 5 = .ok (.return_, 1) := by decide +kernel
theorem dX2_becomeLike_0 : decode cX2_becomeLike 0 = .ok (.aload_n 0, 1) := by decide +kernel
theorem dX2_becomeLike_1 : decode cX2_becomeLike 1 = .ok (.invokevirtual 17, 3) := by decide +kernel
theorem dX2_becomeLike_4 : decode cX2_becomeLike 4 = .ok (.iconst 0, 1) := by decide +kernel
theorem dX2_becomeLike_5 : decode cX2_becomeLike 5 = .ok (.istore_n 2, 1) := by decide +kernel
theorem dX2_becomeLike_6 : decode cX2_becomeLike 6 = .ok (.iload_n 2, 1) := by decide +kernel
theorem dX2_becomeLike_7 : decode cX2_becomeLike 7 = .ok (.aload_n 1, 1) := by decide +kernel
theorem dX2_becomeLike_8 : decode cX2_becomeLike 8 = .ok (.invokevirtual 20, 3) := by decide +kernel
theorem dX2_becomeLike_11 : decode cX2_becomeLike 11 = .ok (.if_icmp .ge 18, 3) := by decide +kernel
theorem dX2_becomeLike_14 : decode cX2_becomeLike 14 = .ok (.aload_n 0, 1) := by decide +kernel
theorem dX2_becomeLike_15 : decode cX2_becomeLike 15 = .ok (.aload_n 1, 1) := by decide +kernel
theorem dX2_becomeLike_16 : decode cX2_becomeLike 16 = .ok (.iload_n 2, 1) := by decide +kernel
theorem dX2_becomeLike_17 : decode cX2_becomeLike 17 = .ok (.invokevirtual 23, 3) := by decide +kernel
theorem dX2_becomeLike_20 : decode cX2_becomeLike 20 = .ok (.invokevirtual 27, 3) := by decide +kernel
theorem dX2_becomeLike_23 : decode cX2_becomeLike 23 = .ok (.iinc 2 1, 3) := by decide +kernel
theorem dX2_becomeLike_26 : decode cX2_becomeLike 26 = .ok (.goto (-20), 3) := by decide +kernel
theorem dX2_becomeLike_29 : decode cX2_becomeLike 29 = .ok (.return_, 1) := by decide +kernel
theorem dX3_init_0 : decode cX3_init 0 = .ok (.aload_n 0, 1) := by decide +kernel
theorem dX3_init_1 : decode cX3_init 1 = .ok (.invokespecial 3, 3) := by decide +kernel
theorem dX3_init_4 : decode cX3_init 4 = .ok (.aload_n 0, 1) := by decide +kernel
theorem dX3_init_5 : decode cX3_init 5 = .ok (.bipush 60, 2) := by decide +kernel
theorem dX3_init_7 : decode cX3_init 7 = .ok (.anewarray 9, 3) := by decide +kernel
theorem dX3_init_10 : decode cX3_init 10 = .ok (.putfield 11, 3) := by decide +kernel
theorem dX3_init_13 : decode cX3_init 13 = .ok (.aload_n 0, 1) := by decide +kernel
theorem dX3_init_14 : decode cX3_init 14 = .ok (.sipush 1061, 3) := by decide +kernel
theorem dX3_init_17 : decode cX3_init 17 = .ok (.newarray .int, 2) := by decide +kernel
theorem dX3_init_19 : decode cX3_init 19 = .ok (.putfield 15, 3) := by decide +kernel
theorem dX3_init_22 : decode cX3_init 22 = .ok (.aload_n 0, 1) := by decide +kernel
theorem dX3_init_23 : decode cX3_init 23 = .ok (.sipush 1061, 3) := by decide +kernel
theorem dX3_init_26 : decode cX3_init 26 = .ok (.newarray .int, 2) := by decide +kernel
theorem dX3_init_28 : decode cX3_init 28 = .ok (.putfield 19, 3) := by decide +kernel
theorem dX3_init_31 : decode cX3_init 31 = .ok (.aload_n 0, 1) := by decide +kernel
theorem dX3_init_32 : decode cX3_init 32 = .ok (.new 22, 3) := by decide +kernel
theorem dX3_init_35 : decode cX3_init 35 = .ok (.dup, 1) := by decide +kernel
theorem dX3_init_36 : decode cX3_init 36 = .ok (.invokespecial 24, 3) := by decide +kernel
theorem dX3_init_39 : decode cX3_init 39 = .ok (.putfield 25, 3) := by decide +kernel
theorem dX3_init_42 : decode cX3_init 42 = .ok (.return_, 1) := by decide +kernel
theorem dX3_bag_0 : decode cX3_bag 0 = .ok (.iload_n 1, 1) := by decide +kernel
theorem dX3_bag_1 : decode cX3_bag 1 = .ok (.ifCond .lt 8, 3) := by decide +kernel
theorem dX3_bag_4 : decode cX3_bag 4 = .ok (.iload_n 1, 1) := by decide +kernel
theorem dX3_bag_5 : decode cX3_bag 5 = .ok (.iconst 3, 1) := by decide +kernel
theorem dX3_bag_6 : decode cX3_bag 6 = .ok (.if_icmp .le 6, 3) := by decide +kernel
theorem dX3_bag_9 : decode cX3_bag 9 = .ok (.bipush (-12), 2) := by decide +kernel
theorem dX3_bag_11 : decode cX3_bag 11 = .ok (.ireturn, 1) := by decide +kernel
theorem dX3_bag_12 : decode cX3_bag 12 = .ok (.aload_n 0, 1) := by decide +kernel
theorem dX3_bag_13 : decode cX3_bag 13 = .ok (.getfield 29, 3) := by decide +kernel
theorem dX3_bag_16 : decode cX3_bag 16 = .ok (.istore_n 2, 1) := by decide +kernel
theorem dX3_bag_17 : decode cX3_bag 17 = .ok (.iload_n 2, 1) := by decide +kernel
theorem dX3_bag_18 : decode cX3_bag 18 = .ok (.ifCond .lt 12, 3) := by decide +kernel
theorem dX3_bag_21 : decode cX3_bag 21 = .ok (.iload_n 2, 1) := by decide +kernel
theorem dX3_bag_22 : decode cX3_bag 22 = .ok (.aload_n 0, 1) := by decide +kernel
theorem dX3_bag_23 : decode cX3_bag 23 = .ok (.getfield 11, 3) := by decide +kernel
theorem dX3_bag_26 : decode cX3_bag 26 = .ok (.arraylength, 1) := by decide +kernel
theorem dX3_bag_27 : decode cX3_bag 27 = .ok (.if_icmp .lt 6, 3) := by decide +kernel
theorem dX3_bag_30 : decode cX3_bag 30 = .ok (.bipush (-14), 2) := by decide +kernel
theorem dX3_bag_32 : decode cX3_bag 32 = .ok (.ireturn, 1) := by decide +kernel
theorem dX3_bag_33 : decode cX3_bag 33 = .ok (.aload_n 0, 1) := by decide +kernel
theorem dX3_bag_34 : decode cX3_bag 34 = .ok (.getfield 11, 3) := by decide +kernel
theorem dX3_bag_37 : decode cX3_bag 37 = .ok (.iload_n 2, 1) := by decide +kernel
theorem dX3_bag_38 : decode cX3_bag 38 = .ok (.new 9, 3) := by decide +kernel
theorem dX3_bag_41 : decode cX3_bag 41 = .ok (.dup, 1) := by decide +kernel
theorem dX3_bag_42 : decode cX3_bag 42 = .ok (.iload_n 1, 1) := by decide +kernel
theorem dX3_bag_43 : decode cX3_bag 43 = .ok (.invokespecial 33, 3) := by decide +kernel
theorem dX3_bag_46 : decode cX3_bag 46 = .ok (.aastore, 1) := by decide +kernel
theorem dX3_bag_47 : decode cX3_bag 47 = .ok (.aload_n 0, 1) := by decide +kernel
theorem dX3_bag_48 : decode cX3_bag 48 = .ok (.iload_n 2, 1) := by decide +kernel
theorem dX3_bag_49 : decode cX3_bag 49 = .ok (.iconst 1, 1) := by decide +kernel
theorem dX3_bag_50 : decode cX3_bag 50 = .ok (.iadd, 1) := by decide +kernel
theorem dX3_bag_51 : decode cX3_bag 51 = .ok (.putfield 29, 3) := by decide +kernel
theorem dX3_bag_54 : decode cX3_bag 54 = .ok (.sipush 1000, 3) := by decide +kernel
theorem dX3_bag_57 : decode cX3_bag 57 = .ok (.aload_n 0, 1) := by decide +kernel
theorem dX3_bag_58 : decode cX3_bag 58 = .ok (.getfield 29, 3) := by decide +kernel
theorem dX3_bag_61 : decode cX3_bag 61 = .ok (.iadd, 1) := by decide +kernel
theorem dX3_bag_62 : decode cX3_bag 62 = .ok (.ireturn, 1) := by decide +kernel
theorem dX3_into_0 : decode cX3_into 0 = .ok (.aload_n 0, 1) := by decide +kernel
theorem dX3_into_1 : decode cX3_into 1 = .ok (.iload_n 1, 1) := by decide +kernel
theorem dX3_into_2 : decode cX3_into 2 = .ok (.invokevirtual 36, 3) := by decide +kernel
theorem dX3_into_5 : decode cX3_into 5 = .ok (.astore_n 3, 1) := by decide +kernel
theorem dX3_into_6 : decode cX3_into 6 = .ok (.aload_n 3, 1) := by decide +kernel
theorem dX3_into_7 : decode cX3_into 7 = .ok (.ifnull 11, 3) := by decide +kernel
theorem dX3_into_10 : decode cX3_into 10 = .ok (.aload_n 0, 1) := by decide +kernel
theorem dX3_into_11 : decode cX3_into 11 = .ok (.iload_n 2, 1) := by decide +kernel
theorem dX3_into_12 : decode cX3_into 12 = .ok (.invokevirtual 40, 3) := by decide +kernel
theorem dX3_into_15 : decode cX3_into 15 = .ok (.ifCond .ne 6, 3) := by decide +kernel
theorem dX3_into_18 : decode cX3_into 18 = .ok (.bipush (-11), 2) := by decide +kernel
theorem dX3_into_20 : decode cX3_into 20 = .ok (.ireturn, 1) := by decide +kernel
theorem dX3_into_21 : decode cX3_into 21 = .ok (.aload_n 0, 1) := by decide +kernel
theorem dX3_into_22 : decode cX3_into 22 = .ok (.iload_n 1, 1) := by decide +kernel
theorem dX3_into_23 : decode cX3_into 23 = .ok (.invokevirtual 44, 3) := by decide +kernel
theorem dX3_into_26 : decode cX3_into 26 = .ok (.ifCond .ne 33, 3) := by decide +kernel
theorem dX3_into_29 : decode cX3_into 29 = .ok (.aload_n 0, 1) := by decide +kernel
theorem dX3_into_30 : decode cX3_into 30 = .ok (.iload_n 2, 1) := by decide +kernel
theorem dX3_into_31 : decode cX3_into 31 = .ok (.invokevirtual 47, 3) := by decide +kernel
theorem dX3_into_34 : decode cX3_into 34 = .ok (.ifCond .ne 25, 3) := by decide +kernel
theorem dX3_into_37 : decode cX3_into 37 = .ok (.aload_n 0, 1) := by decide +kernel
theorem dX3_into_38 : decode cX3_into 38 = .ok (.iload_n 2, 1) := by decide +kernel
theorem dX3_into_39 : decode cX3_into 39 = .ok (.aload_n 3, 1) := by decide +kernel
theorem dX3_into_40 : decode cX3_into 40 = .ok (.invokevirtual 51, 3) := by decide +kernel
theorem dX3_into_43 : decode cX3_into 43 = .ok (.ifCond .eq 16, 3) := by decide +kernel
theorem dX3_into_46 : decode cX3_into 46 = .ok (.aload_n 0, 1) := by decide +kernel
theorem dX3_into_47 : decode cX3_into 47 = .ok (.iload_n 2, 1) := by decide +kernel
theorem dX3_into_48 : decode cX3_into 48 = .ok (.invokevirtual 55, 3) := by decide +kernel
theorem dX3_into_51 : decode cX3_into 51 = .ok (.aload_n 0, 1) := by decide +kernel
theorem dX3_into_52 : decode cX3_into 52 = .ok (.iload_n 1, 1) := by decide +kernel
theorem dX3_into_53 : decode cX3_into 53 = .ok (.invokevirtual 55, 3) := by decide +kernel
theorem dX3_into_56 : decode cX3_into 56 = .ok (.if_icmp .eq 6, 3) := by decide +kernel
theorem dX3_into_59 : decode cX3_into 59 = .ok (.bipush (-13), 2) := by decide +kernel
theorem dX3_into_61 : decode cX3_into 61 = .ok (.ireturn, 1) := by decide +kernel
theorem dX3_into_62 : decode cX3_into 62 = .ok (.aload_n 3, 1) := by decide +kernel
theorem dX3_into_63 : decode cX3_into 63 = .ok (.getfield 58, 3) := by decide +kernel
theorem dX3_into_66 : decode cX3_into 66 = .ok (.invokevirtual 62, 3) := by decide +kernel
theorem dX3_into_69 : decode cX3_into 69 = .ok (.ifCond .eq 6, 3) := by decide +kernel
theorem dX3_into_72 : decode cX3_into 72 = .ok (.bipush (-14), 2) := by decide +kernel
theorem dX3_into_74 : decode cX3_into 74 = .ok (.ireturn, 1) := by decide +kernel
theorem dX3_into_75 : decode cX3_into 75 = .ok (.aload_n 0, 1) := by decide +kernel
theorem dX3_into_76 : decode cX3_into 76 = .ok (.aload_n 3, 1) := by decide +kernel
theorem dX3_into_77 : decode cX3_into 77 = .ok (.iload_n 1, 1) := by decide +kernel
theorem dX3_into_78 : decode cX3_into 78 = .ok (.iload_n 2, 1) := by decide +kernel
theorem dX3_into_79 : decode cX3_into 79 = .ok (.invokevirtual 68, 3) := by decide +kernel
theorem dX3_into_82 : decode cX3_into 82 = .ok (.iconst 1, 1) := by decide +kernel
theorem dX3_into_83 : decode cX3_into 83 = .ok (.ireturn, 1) := by decide +kernel
theorem dX3_take_0 : decode cX3_take 0 = .ok (.aload_n 0, 1) := by decide +kernel
theorem dX3_take_1 : decode cX3_take 1 = .ok (.iload_n 1, 1) := by decide +kernel
theorem dX3_take_2 : decode cX3_take 2 = .ok (.invokevirtual 40, 3) := by decide +kernel
theorem dX3_take_5 : decode cX3_take 5 = .ok (.ifCond .ne 6, 3) := by decide +kernel
theorem dX3_take_8 : decode cX3_take 8 = .ok (.bipush (-11), 2) := by decide +kernel
theorem dX3_take_10 : decode cX3_take 10 = .ok (.ireturn, 1) := by decide +kernel
theorem dX3_take_11 : decode cX3_take 11 = .ok (.aload_n 0, 1) := by decide +kernel
theorem dX3_take_12 : decode cX3_take 12 = .ok (.iload_n 1, 1) := by decide +kernel
theorem dX3_take_13 : decode cX3_take 13 = .ok (.invokevirtual 47, 3) := by decide +kernel
theorem dX3_take_16 : decode cX3_take 16 = .ok (.istore_n 2, 1) := by decide +kernel
theorem dX3_take_17 : decode cX3_take 17 = .ok (.iload_n 2, 1) := by decide +kernel
theorem dX3_take_18 : decode cX3_take 18 = .ok (.ifCond .eq 11, 3) := by decide +kernel
theorem dX3_take_21 : decode cX3_take 21 = .ok (.aload_n 0, 1) := by decide +kernel
theorem dX3_take_22 : decode cX3_take 22 = .ok (.iload_n 2, 1) := by decide +kernel
theorem dX3_take_23 : decode cX3_take 23 = .ok (.invokevirtual 44, 3) := by decide +kernel
theorem dX3_take_26 : decode cX3_take 26 = .ok (.ifCond .eq 6, 3) := by decide +kernel
theorem dX3_take_29 : decode cX3_take 29 = .ok (.bipush (-13), 2) := by decide +kernel
theorem dX3_take_31 : decode cX3_take 31 = .ok (.ireturn, 1) := by decide +kernel
theorem dX3_take_32 : decode cX3_take 32 = .ok (.aload_n 0, 1) := by decide +kernel
theorem dX3_take_33 : decode cX3_take 33 = .ok (.iload_n 1, 1) := by decide +kernel
theorem dX3_take_34 : decode cX3_take 34 = .ok (.invokevirtual 72, 3) := by decide +kernel
theorem dX3_take_37 : decode cX3_take 37 = .ok (.iload_n 2, 1) := by decide +kernel
theorem dX3_take_38 : decode cX3_take 38 = .ok (.ireturn, 1) := by decide +kernel
theorem dX3_close_0 : decode cX3_close 0 = .ok (.aload_n 0, 1) := by decide +kernel
theorem dX3_close_1 : decode cX3_close 1 = .ok (.iload_n 1, 1) := by decide +kernel
theorem dX3_close_2 : decode cX3_close 2 = .ok (.invokevirtual 36, 3) := by decide +kernel
theorem dX3_close_5 : decode cX3_close 5 = .ok (.astore 5, 2) := by decide +kernel
theorem dX3_close_7 : decode cX3_close 7 = .ok (.aload 5, 2) := by decide +kernel
theorem dX3_close_9 : decode cX3_close 9 = .ok (.ifnonnull 6, 3) := by decide +kernel
theorem dX3_close_12 : decode cX3_close 12 = .ok (.bipush (-11), 2) := by decide +kernel
theorem dX3_close_14 : decode cX3_close 14 = .ok (.ireturn, 1) := by decide +kernel
theorem dX3_close_15 : decode cX3_close 15 = .ok (.lload_n 2, 1) := by decide +kernel
theorem dX3_close_16 : decode cX3_close 16 = .ok (.invokestatic 75, 3) := by decide +kernel
theorem dX3_close_19 : decode cX3_close 19 = .ok (.ifCond .eq 11, 3) := by decide +kernel
theorem dX3_close_22 : decode cX3_close 22 = .ok (.iload 4, 2) := by decide +kernel
theorem dX3_close_24 : decode cX3_close 24 = .ok (.invokestatic 79, 3) := by decide +kernel
theorem dX3_close_27 : decode cX3_close 27 = .ok (.ifCond .ne 6, 3) := by decide +kernel
theorem dX3_close_30 : decode cX3_close 30 = .ok (.bipush (-12), 2) := by decide +kernel
theorem dX3_close_32 : decode cX3_close 32 = .ok (.ireturn, 1) := by decide +kernel
theorem dX3_close_33 : decode cX3_close 33 = .ok (.aload_n 0, 1) := by decide +kernel
theorem dX3_close_34 : decode cX3_close 34 = .ok (.iload_n 1, 1) := by decide +kernel
theorem dX3_close_35 : decode cX3_close 35 = .ok (.invokevirtual 44, 3) := by decide +kernel
theorem dX3_close_38 : decode cX3_close 38 = .ok (.ifCond .eq 6, 3) := by decide +kernel
theorem dX3_close_41 : decode cX3_close 41 = .ok (.bipush (-13), 2) := by decide +kernel
theorem dX3_close_43 : decode cX3_close 43 = .ok (.ireturn, 1) := by decide +kernel
theorem dX3_close_44 : decode cX3_close 44 = .ok (.aload 5, 2) := by decide +kernel
theorem dX3_close_46 : decode cX3_close 46 = .ok (.lload_n 2, 1) := by decide +kernel
theorem dX3_close_47 : decode cX3_close 47 = .ok (.iload 4, 2) := by decide +kernel
theorem dX3_close_49 : decode cX3_close 49 = .ok (.invokevirtual 82, 3) := by decide +kernel
theorem dX3_close_52 : decode cX3_close 52 = .ok (.aload 5, 2) := by decide +kernel
theorem dX3_close_54 : decode cX3_close 54 = .ok (.getfield 86, 3) := by decide +kernel
theorem dX3_close_57 : decode cX3_close 57 = .ok (.invokevirtual 89, 3) := by decide +kernel
theorem dX3_close_60 : decode cX3_close 60 = .ok (.ireturn, 1) := by decide +kernel
theorem dX3_open_0 : decode cX3_open 0 = .ok (.aload_n 0, 1) := by decide +kernel
theorem dX3_open_1 : decode cX3_open 1 = .ok (.iload_n 1, 1) := by decide +kernel
theorem dX3_open_2 : decode cX3_open 2 = .ok (.invokevirtual 36, 3) := by decide +kernel
theorem dX3_open_5 : decode cX3_open 5 = .ok (.astore 6, 2) := by decide +kernel
theorem dX3_open_7 : decode cX3_open 7 = .ok (.aload 6, 2) := by decide +kernel
theorem dX3_open_9 : decode cX3_open 9 = .ok (.ifnonnull 6, 3) := by decide +kernel
theorem dX3_open_12 : decode cX3_open 12 = .ok (.bipush (-11), 2) := by decide +kernel
theorem dX3_open_14 : decode cX3_open 14 = .ok (.ireturn, 1) := by decide +kernel
theorem dX3_open_15 : decode cX3_open 15 = .ok (.lload_n 2, 1) := by decide +kernel
theorem dX3_open_16 : decode cX3_open 16 = .ok (.invokestatic 75, 3) := by decide +kernel
theorem dX3_open_19 : decode cX3_open 19 = .ok (.ifCond .eq 25, 3) := by decide +kernel
theorem dX3_open_22 : decode cX3_open 22 = .ok (.iload 4, 2) := by decide +kernel
theorem dX3_open_24 : decode cX3_open 24 = .ok (.invokestatic 79, 3) := by decide +kernel
theorem dX3_open_27 : decode cX3_open 27 = .ok (.ifCond .eq 17, 3) := by decide +kernel
theorem dX3_open_30 : decode cX3_open 30 = .ok (.iload 5, 2) := by decide +kernel
theorem dX3_open_32 : decode cX3_open 32 = .ok (.iconst (-1), 1) := by decide +kernel
theorem dX3_open_33 : decode cX3_open 33 = .ok (.if_icmp .eq 14, 3) := by decide +kernel
theorem dX3_open_36 : decode cX3_open 36 = .ok (.iload 5, 2) := by decide +kernel
theorem dX3_open_38 : decode cX3_open 38 = .ok (.invokestatic 79, 3) := by decide +kernel
theorem dX3_open_41 : decode cX3_open 41 = .ok (.ifCond .ne 6, 3) := by decide +kernel
theorem dX3_open_44 : decode cX3_open 44 = .ok (.bipush (-12), 2) := by decide +kernel
theorem dX3_open_46 : decode cX3_open 46 = .ok (.ireturn, 1) := by decide +kernel
theorem dX3_open_47 : decode cX3_open 47 = .ok (.aload 6, 2) := by decide +kernel
theorem dX3_open_49 : decode cX3_open 49 = .ok (.getfield 93, 3) := by decide +kernel
theorem dX3_open_52 : decode cX3_open 52 = .ok (.ifCond .eq 27, 3) := by decide +kernel
theorem dX3_open_55 : decode cX3_open 55 = .ok (.aload_n 0, 1) := by decide +kernel
theorem dX3_open_56 : decode cX3_open 56 = .ok (.aload_n 0, 1) := by decide +kernel
theorem dX3_open_57 : decode cX3_open 57 = .ok (.iload_n 1, 1) := by decide +kernel
theorem dX3_open_58 : decode cX3_open 58 = .ok (.invokevirtual 47, 3) := by decide +kernel
theorem dX3_open_61 : decode cX3_open 61 = .ok (.invokevirtual 44, 3) := by decide +kernel
theorem dX3_open_64 : decode cX3_open 64 = .ok (.ifCond .ne 15, 3) := by decide +kernel
theorem dX3_open_67 : decode cX3_open 67 = .ok (.aload 6, 2) := by decide +kernel
theorem dX3_open_69 : decode cX3_open 69 = .ok (.iload 4, 2) := by decide +kernel
theorem dX3_open_71 : decode cX3_open 71 = .ok (.iload 5, 2) := by decide +kernel
theorem dX3_open_73 : decode cX3_open 73 = .ok (.invokevirtual 97, 3) := by decide +kernel
theorem dX3_open_76 : decode cX3_open 76 = .ok (.ifCond .ne 6, 3) := by decide +kernel
theorem dX3_open_79 : decode cX3_open 79 = .ok (.bipush (-13), 2) := by decide +kernel
theorem dX3_open_81 : decode cX3_open 81 = .ok (.ireturn, 1) := by decide +kernel
theorem dX3_open_82 : decode cX3_open 82 = .ok (.aload 6, 2) := by decide +kernel
theorem dX3_open_84 : decode cX3_open 84 = .ok (.lload_n 2, 1) := by decide +kernel
theorem dX3_open_85 : decode cX3_open 85 = .ok (.invokevirtual 101, 3) := by decide +kernel
theorem dX3_open_88 : decode cX3_open 88 = .ok (.ifCond .eq 5, 3) := by decide +kernel
theorem dX3_open_91 : decode cX3_open 91 = .ok (.iconst 1, 1) := by decide +kernel
theorem dX3_open_92 : decode cX3_open 92 = .ok (.ireturn, 1) := by decide +kernel
theorem dX3_open_93 : decode cX3_open 93 = .ok (.aload_n 0, 1) := by decide +kernel
theorem dX3_open_94 : decode cX3_open 94 = .ok (.getfield 25, 3) := by decide +kernel
theorem dX3_open_97 : decode cX3_open 97 = .ok (.aload_n 0, 1) := by decide +kernel
theorem dX3_open_98 : decode cX3_open 98 = .ok (.getfield 104, 3) := by decide +kernel
theorem dX3_open_101 : decode cX3_open 101 = .ok (.ldc2_w 108, 3) := by decide +kernel
theorem dX3_open_104 : decode cX3_open 104 = .ok (.ladd, 1) := by decide +kernel
theorem dX3_open_105 : decode cX3_open 105 = .ok (.invokevirtual 110, 3) := by decide +kernel
theorem dX3_open_108 : decode cX3_open 108 = .ok (.iconst (-1), 1) := by decide +kernel
theorem dX3_open_109 : decode cX3_open 109 = .ok (.ireturn, 1) := by decide +kernel
theorem dX3_found_0 : decode cX3_found 0 = .ok (.aload_n 0, 1) := by decide +kernel
theorem dX3_found_1 : decode cX3_found 1 = .ok (.iload_n 1, 1) := by decide +kernel
theorem dX3_found_2 : decode cX3_found 2 = .ok (.invokevirtual 36, 3) := by decide +kernel
theorem dX3_found_5 : decode cX3_found 5 = .ok (.astore_n 3, 1) := by decide +kernel
theorem dX3_found_6 : decode cX3_found 6 = .ok (.aload_n 3, 1) := by decide +kernel
theorem dX3_found_7 : decode cX3_found 7 = .ok (.ifnull 11, 3) := by decide +kernel
theorem dX3_found_10 : decode cX3_found 10 = .ok (.aload_n 0, 1) := by decide +kernel
theorem dX3_found_11 : decode cX3_found 11 = .ok (.iload_n 2, 1) := by decide +kernel
theorem dX3_found_12 : decode cX3_found 12 = .ok (.invokevirtual 40, 3) := by decide +kernel
theorem dX3_found_15 : decode cX3_found 15 = .ok (.ifCond .ne 6, 3) := by decide +kernel
theorem dX3_found_18 : decode cX3_found 18 = .ok (.bipush (-11), 2) := by decide +kernel
theorem dX3_found_20 : decode cX3_found 20 = .ok (.ireturn, 1) := by decide +kernel
theorem dX3_found_21 : decode cX3_found 21 = .ok (.aload_n 3, 1) := by decide +kernel
theorem dX3_found_22 : decode cX3_found 22 = .ok (.invokevirtual 114, 3) := by decide +kernel
theorem dX3_found_25 : decode cX3_found 25 = .ok (.ifCond .eq 12, 3) := by decide +kernel
theorem dX3_found_28 : decode cX3_found 28 = .ok (.aload_n 0, 1) := by decide +kernel
theorem dX3_found_29 : decode cX3_found 29 = .ok (.iload_n 2, 1) := by decide +kernel
theorem dX3_found_30 : decode cX3_found 30 = .ok (.aload_n 3, 1) := by decide +kernel
theorem dX3_found_31 : decode cX3_found 31 = .ok (.invokevirtual 51, 3) := by decide +kernel
theorem dX3_found_34 : decode cX3_found 34 = .ok (.ifCond .ne 6, 3) := by decide +kernel
theorem dX3_found_37 : decode cX3_found 37 = .ok (.bipush (-13), 2) := by decide +kernel
theorem dX3_found_39 : decode cX3_found 39 = .ok (.ireturn, 1) := by decide +kernel
theorem dX3_found_40 : decode cX3_found 40 = .ok (.aload_n 3, 1) := by decide +kernel
theorem dX3_found_41 : decode cX3_found 41 = .ok (.getfield 86, 3) := by decide +kernel
theorem dX3_found_44 : decode cX3_found 44 = .ok (.iload_n 2, 1) := by decide +kernel
theorem dX3_found_45 : decode cX3_found 45 = .ok (.invokevirtual 117, 3) := by decide +kernel
theorem dX3_found_48 : decode cX3_found 48 = .ok (.ifCond .eq 13, 3) := by decide +kernel
theorem dX3_found_51 : decode cX3_found 51 = .ok (.aload_n 3, 1) := by decide +kernel
theorem dX3_found_52 : decode cX3_found 52 = .ok (.getfield 120, 3) := by decide +kernel
theorem dX3_found_55 : decode cX3_found 55 = .ok (.iload_n 2, 1) := by decide +kernel
theorem dX3_found_56 : decode cX3_found 56 = .ok (.invokevirtual 123, 3) := by decide +kernel
theorem dX3_found_59 : decode cX3_found 59 = .ok (.iconst 1, 1) := by decide +kernel
theorem dX3_found_60 : decode cX3_found 60 = .ok (.ireturn, 1) := by decide +kernel
theorem dX3_found_61 : decode cX3_found 61 = .ok (.aload_n 3, 1) := by decide +kernel
theorem dX3_found_62 : decode cX3_found 62 = .ok (.getfield 126, 3) := by decide +kernel
theorem dX3_found_65 : decode cX3_found 65 = .ok (.iload_n 2, 1) := by decide +kernel
theorem dX3_found_66 : decode cX3_found 66 = .ok (.invokevirtual 117, 3) := by decide +kernel
theorem dX3_found_69 : decode cX3_found 69 = .ok (.ifCond .eq 5, 3) := by decide +kernel
theorem dX3_found_72 : decode cX3_found 72 = .ok (.iconst 0, 1) := by decide +kernel
theorem dX3_found_73 : decode cX3_found 73 = .ok (.ireturn, 1) := by decide +kernel
theorem dX3_found_74 : decode cX3_found 74 = .ok (.aload_n 0, 1) := by decide +kernel
theorem dX3_found_75 : decode cX3_found 75 = .ok (.aload_n 3, 1) := by decide +kernel
theorem dX3_found_76 : decode cX3_found 76 = .ok (.iload_n 1, 1) := by decide +kernel
theorem dX3_found_77 : decode cX3_found 77 = .ok (.iload_n 2, 1) := by decide +kernel
theorem dX3_found_78 : decode cX3_found 78 = .ok (.invokevirtual 129, 3) := by decide +kernel
theorem dX3_found_81 : decode cX3_found 81 = .ok (.ireturn, 1) := by decide +kernel
theorem dX3_differ_0 : decode cX3_differ 0 = .ok (.aload_n 0, 1) := by decide +kernel
theorem dX3_differ_1 : decode cX3_differ 1 = .ok (.iload_n 1, 1) := by decide +kernel
theorem dX3_differ_2 : decode cX3_differ 2 = .ok (.invokevirtual 36, 3) := by decide +kernel
theorem dX3_differ_5 : decode cX3_differ 5 = .ok (.astore 4, 2) := by decide +kernel
theorem dX3_differ_7 : decode cX3_differ 7 = .ok (.aload 4, 2) := by decide +kernel
theorem dX3_differ_9 : decode cX3_differ 9 = .ok (.ifnonnull 6, 3) := by decide +kernel
theorem dX3_differ_12 : decode cX3_differ 12 = .ok (.bipush (-11), 2) := by decide +kernel
theorem dX3_differ_14 : decode cX3_differ 14 = .ok (.ireturn, 1) := by decide +kernel
theorem dX3_differ_15 : decode cX3_differ 15 = .ok (.iload_n 3, 1) := by decide +kernel
theorem dX3_differ_16 : decode cX3_differ 16 = .ok (.ifCond .eq 11, 3) := by decide +kernel
theorem dX3_differ_19 : decode cX3_differ 19 = .ok (.iload_n 3, 1) := by decide +kernel
theorem dX3_differ_20 : decode cX3_differ 20 = .ok (.iconst 1, 1) := by decide +kernel
theorem dX3_differ_21 : decode cX3_differ 21 = .ok (.if_icmp .eq 6, 3) := by decide +kernel
theorem dX3_differ_24 : decode cX3_differ 24 = .ok (.bipush (-12), 2) := by decide +kernel
theorem dX3_differ_26 : decode cX3_differ 26 = .ok (.ireturn, 1) := by decide +kernel
theorem dX3_differ_27 : decode cX3_differ 27 = .ok (.aload 4, 2) := by decide +kernel
theorem dX3_differ_29 : decode cX3_differ 29 = .ok (.invokevirtual 114, 3) := by decide +kernel
theorem dX3_differ_32 : decode cX3_differ 32 = .ok (.ifCond .ne 6, 3) := by decide +kernel
theorem dX3_differ_35 : decode cX3_differ 35 = .ok (.bipush (-13), 2) := by decide +kernel
theorem dX3_differ_37 : decode cX3_differ 37 = .ok (.ireturn, 1) := by decide +kernel
theorem dX3_differ_38 : decode cX3_differ 38 = .ok (.iload_n 2, 1) := by decide +kernel
theorem dX3_differ_39 : decode cX3_differ 39 = .ok (.istore 5, 2) := by decide +kernel
theorem dX3_differ_41 : decode cX3_differ 41 = .ok (.iconst 0, 1) := by decide +kernel
theorem dX3_differ_42 : decode cX3_differ 42 = .ok (.istore 6, 2) := by decide +kernel
theorem dX3_differ_44 : decode cX3_differ 44 = .ok (.iload 6, 2) := by decide +kernel
theorem dX3_differ_46 : decode cX3_differ 46 = .ok (.iconst 3, 1) := by decide +kernel
theorem dX3_differ_47 : decode cX3_differ 47 = .ok (.if_icmp .gt 60, 3) := by decide +kernel
theorem dX3_differ_50 : decode cX3_differ 50 = .ok (.iload 5, 2) := by decide +kernel
theorem dX3_differ_52 : decode cX3_differ 52 = .ok (.ifCond .lt 55, 3) := by decide +kernel
theorem dX3_differ_55 : decode cX3_differ 55 = .ok (.aload 4, 2) := by decide +kernel
theorem dX3_differ_57 : decode cX3_differ 57 = .ok (.iload 6, 2) := by decide +kernel
theorem dX3_differ_59 : decode cX3_differ 59 = .ok (.invokevirtual 133, 3) := by decide +kernel
theorem dX3_differ_62 : decode cX3_differ 62 = .ok (.astore 7, 2) := by decide +kernel
theorem dX3_differ_64 : decode cX3_differ 64 = .ok (.iload 5, 2) := by decide +kernel
theorem dX3_differ_66 : decode cX3_differ 66 = .ok (.aload 7, 2) := by decide +kernel
theorem dX3_differ_68 : decode cX3_differ 68 = .ok (.invokevirtual 89, 3) := by decide +kernel
theorem dX3_differ_71 : decode cX3_differ 71 = .ok (.if_icmp .ge 20, 3) := by decide +kernel
theorem dX3_differ_74 : decode cX3_differ 74 = .ok (.iload_n 3, 1) := by decide +kernel
theorem dX3_differ_75 : decode cX3_differ 75 = .ok (.ifCond .ne 8, 3) := by decide +kernel
theorem dX3_differ_78 : decode cX3_differ 78 = .ok (.iload 6, 2) := by decide +kernel
theorem dX3_differ_80 : decode cX3_differ 80 = .ok (.goto 10, 3) := by decide +kernel
theorem dX3_differ_83 : decode cX3_differ 83 = .ok (.aload 7, 2) := by decide +kernel
theorem dX3_differ_85 : decode cX3_differ 85 = .ok (.iload 5, 2) := by decide +kernel
theorem dX3_differ_87 : decode cX3_differ 87 = .ok (.invokevirtual 137, 3) := by decide +kernel
theorem dX3_differ_90 : decode cX3_differ 90 = .ok (.ireturn, 1) := by decide +kernel
theorem dX3_differ_91 : decode cX3_differ 91 = .ok (.iload 5, 2) := by decide +kernel
theorem dX3_differ_93 : decode cX3_differ 93 = .ok (.aload 7, 2) := by decide +kernel
theorem dX3_differ_95 : decode cX3_differ 95 = .ok (.invokevirtual 89, 3) := by decide +kernel
theorem dX3_differ_98 : decode cX3_differ 98 = .ok (.isub, 1) := by decide +kernel
theorem dX3_differ_99 : decode cX3_differ 99 = .ok (.istore 5, 2) := by decide +kernel
theorem dX3_differ_101 : decode cX3_differ 101 = .ok (.iinc 6 1, 3) := by decide +kernel
theorem dX3_differ_104 : decode cX3_differ 104 = .ok (.goto (-60), 3) := by decide +kernel
theorem dX3_differ_107 : decode cX3_differ 107 = .ok (.iconst (-1), 1) := by decide +kernel
theorem dX3_differ_108 : decode cX3_differ 108 = .ok (.ireturn, 1) := by decide +kernel
theorem dX3_inside_0 : decode cX3_inside 0 = .ok (.aload_n 0, 1) := by decide +kernel
theorem dX3_inside_1 : decode cX3_inside 1 = .ok (.iload_n 1, 1) := by decide +kernel
theorem dX3_inside_2 : decode cX3_inside 2 = .ok (.invokevirtual 40, 3) := by decide +kernel
theorem dX3_inside_5 : decode cX3_inside 5 = .ok (.ifCond .eq 11, 3) := by decide +kernel
theorem dX3_inside_8 : decode cX3_inside 8 = .ok (.aload_n 0, 1) := by decide +kernel
theorem dX3_inside_9 : decode cX3_inside 9 = .ok (.iload_n 1, 1) := by decide +kernel
theorem dX3_inside_10 : decode cX3_inside 10 = .ok (.invokevirtual 47, 3) := by decide +kernel
theorem dX3_inside_13 : decode cX3_inside 13 = .ok (.goto 5, 3) := by decide +kernel
theorem dX3_inside_16 : decode cX3_inside 16 = .ok (.bipush (-11), 2) := by decide +kernel
theorem dX3_inside_18 : decode cX3_inside 18 = .ok (.ireturn, 1) := by decide +kernel
theorem dX3_weight_0 : decode cX3_weight 0 = .ok (.aload_n 0, 1) := by decide +kernel
theorem dX3_weight_1 : decode cX3_weight 1 = .ok (.iload_n 1, 1) := by decide +kernel
theorem dX3_weight_2 : decode cX3_weight 2 = .ok (.invokevirtual 36, 3) := by decide +kernel
theorem dX3_weight_5 : decode cX3_weight 5 = .ok (.astore 4, 2) := by decide +kernel
theorem dX3_weight_7 : decode cX3_weight 7 = .ok (.aload 4, 2) := by decide +kernel
theorem dX3_weight_9 : decode cX3_weight 9 = .ok (.ifnonnull 6, 3) := by decide +kernel
theorem dX3_weight_12 : decode cX3_weight 12 = .ok (.bipush (-11), 2) := by decide +kernel
theorem dX3_weight_14 : decode cX3_weight 14 = .ok (.ireturn, 1) := by decide +kernel
theorem dX3_weight_15 : decode cX3_weight 15 = .ok (.lload_n 2, 1) := by decide +kernel
theorem dX3_weight_16 : decode cX3_weight 16 = .ok (.lconst 0, 1) := by decide +kernel
theorem dX3_weight_17 : decode cX3_weight 17 = .ok (.lcmp, 1) := by decide +kernel
theorem dX3_weight_18 : decode cX3_weight 18 = .ok (.ifCond .lt 11, 3) := by decide +kernel
theorem dX3_weight_21 : decode cX3_weight 21 = .ok (.lload_n 2, 1) := by decide +kernel
theorem dX3_weight_22 : decode cX3_weight 22 = .ok (.ldc2_w 140, 3) := by decide +kernel
theorem dX3_weight_25 : decode cX3_weight 25 = .ok (.lcmp, 1) := by decide +kernel
theorem dX3_weight_26 : decode cX3_weight 26 = .ok (.ifCond .le 6, 3) := by decide +kernel
theorem dX3_weight_29 : decode cX3_weight 29 = .ok (.bipush (-12), 2) := by decide +kernel
theorem dX3_weight_31 : decode cX3_weight 31 = .ok (.ireturn, 1) := by decide +kernel
theorem dX3_weight_32 : decode cX3_weight 32 = .ok (.aload_n 0, 1) := by decide +kernel
theorem dX3_weight_33 : decode cX3_weight 33 = .ok (.iload_n 1, 1) := by decide +kernel
theorem dX3_weight_34 : decode cX3_weight 34 = .ok (.invokevirtual 142, 3) := by decide +kernel
theorem dX3_weight_37 : decode cX3_weight 37 = .ok (.lstore 5, 2) := by decide +kernel
theorem dX3_weight_39 : decode cX3_weight 39 = .ok (.lload_n 2, 1) := by decide +kernel
theorem dX3_weight_40 : decode cX3_weight 40 = .ok (.lload 5, 2) := by decide +kernel
theorem dX3_weight_42 : decode cX3_weight 42 = .ok (.lsub, 1) := by decide +kernel
theorem dX3_weight_43 : decode cX3_weight 43 = .ok (.invokestatic 146, 3) := by decide +kernel
theorem dX3_weight_46 : decode cX3_weight 46 = .ok (.lload 5, 2) := by decide +kernel
theorem dX3_weight_48 : decode cX3_weight 48 = .ok (.ldc2_w 152, 3) := by decide +kernel
theorem dX3_weight_51 : decode cX3_weight 51 = .ok (.ldiv, 1) := by decide +kernel
theorem dX3_weight_52 : decode cX3_weight 52 = .ok (.lcmp, 1) := by decide +kernel
theorem dX3_weight_53 : decode cX3_weight 53 = .ok (.ifCond .gt 5, 3) := by decide +kernel
theorem dX3_weight_56 : decode cX3_weight 56 = .ok (.iconst 1, 1) := by decide +kernel
theorem dX3_weight_57 : decode cX3_weight 57 = .ok (.ireturn, 1) := by decide +kernel
theorem dX3_weight_58 : decode cX3_weight 58 = .ok (.aload 4, 2) := by decide +kernel
theorem dX3_weight_60 : decode cX3_weight 60 = .ok (.getfield 154, 3) := by decide +kernel
theorem dX3_weight_63 : decode cX3_weight 63 = .ok (.lload_n 2, 1) := by decide +kernel
theorem dX3_weight_64 : decode cX3_weight 64 = .ok (.l2i, 1) := by decide +kernel
theorem dX3_weight_65 : decode cX3_weight 65 = .ok (.invokevirtual 157, 3) := by decide +kernel
theorem dX3_weight_68 : decode cX3_weight 68 = .ok (.aload_n 0, 1) := by decide +kernel
theorem dX3_weight_69 : decode cX3_weight 69 = .ok (.getfield 25, 3) := by decide +kernel
theorem dX3_weight_72 : decode cX3_weight 72 = .ok (.aload_n 0, 1) := by decide +kernel
theorem dX3_weight_73 : decode cX3_weight 73 = .ok (.getfield 104, 3) := by decide +kernel
theorem dX3_weight_76 : decode cX3_weight 76 = .ok (.ldc2_w 108, 3) := by decide +kernel
theorem dX3_weight_79 : decode cX3_weight 79 = .ok (.ladd, 1) := by decide +kernel
theorem dX3_weight_80 : decode cX3_weight 80 = .ok (.invokevirtual 110, 3) := by decide +kernel
theorem dX3_weight_83 : decode cX3_weight 83 = .ok (.iconst 0, 1) := by decide +kernel
theorem dX3_weight_84 : decode cX3_weight 84 = .ok (.ireturn, 1) := by decide +kernel
theorem dX3_document_0 : decode cX3_document 0 = .ok (.aload_n 0, 1) := by decide +kernel
theorem dX3_document_1 : decode cX3_document 1 = .ok (.iload_n 1, 1) := by decide +kernel
theorem dX3_document_2 : decode cX3_document 2 = .ok (.invokevirtual 36, 3) := by decide +kernel
theorem dX3_document_5 : decode cX3_document 5 = .ok (.astore_n 3, 1) := by decide +kernel
theorem dX3_document_6 : decode cX3_document 6 = .ok (.aload_n 3, 1) := by decide +kernel
theorem dX3_document_7 : decode cX3_document 7 = .ok (.ifnonnull 8, 3) := by decide +kernel
theorem dX3_document_10 : decode cX3_document 10 = .ok (.bipush (-11), 2) := by decide +kernel
theorem dX3_document_12 : decode cX3_document 12 = .ok (.goto 11, 3) := by decide +kernel
theorem dX3_document_15 : decode cX3_document 15 = .ok (.aload_n 3, 1) := by decide +kernel
theorem dX3_document_16 : decode cX3_document 16 = .ok (.getfield 86, 3) := by decide +kernel
theorem dX3_document_19 : decode cX3_document 19 = .ok (.iload_n 2, 1) := by decide +kernel
theorem dX3_document_20 : decode cX3_document 20 = .ok (.invokevirtual 137, 3) := by decide +kernel
theorem dX3_document_23 : decode cX3_document 23 = .ok (.ireturn, 1) := by decide +kernel
theorem dX3_move_0 : decode cX3_move 0 = .ok (.aload_n 0, 1) := by decide +kernel
theorem dX3_move_1 : decode cX3_move 1 = .ok (.iload_n 1, 1) := by decide +kernel
theorem dX3_move_2 : decode cX3_move 2 = .ok (.invokevirtual 36, 3) := by decide +kernel
theorem dX3_move_5 : decode cX3_move 5 = .ok (.astore_n 3, 1) := by decide +kernel
theorem dX3_move_6 : decode cX3_move 6 = .ok (.aload_n 3, 1) := by decide +kernel
theorem dX3_move_7 : decode cX3_move 7 = .ok (.ifnonnull 6, 3) := by decide +kernel
theorem dX3_move_10 : decode cX3_move 10 = .ok (.bipush (-11), 2) := by decide +kernel
theorem dX3_move_12 : decode cX3_move 12 = .ok (.ireturn, 1) := by decide +kernel
theorem dX3_move_13 : decode cX3_move 13 = .ok (.iload_n 2, 1) := by decide +kernel
theorem dX3_move_14 : decode cX3_move 14 = .ok (.ifCond .lt 9, 3) := by decide +kernel
theorem dX3_move_17 : decode cX3_move 17 = .ok (.iload_n 2, 1) := by decide +kernel
theorem dX3_move_18 : decode cX3_move 18 = .ok (.bipush 9, 2) := by decide +kernel
theorem dX3_move_20 : decode cX3_move 20 = .ok (.if_icmp .le 6, 3) := by decide +kernel
theorem dX3_move_23 : decode cX3_move 23 = .ok (.bipush (-12), 2) := by decide +kernel
theorem dX3_move_25 : decode cX3_move 25 = .ok (.ireturn, 1) := by decide +kernel
theorem dX3_move_26 : decode cX3_move 26 = .ok (.aload_n 3, 1) := by decide +kernel
theorem dX3_move_27 : decode cX3_move 27 = .ok (.getfield 93, 3) := by decide +kernel
theorem dX3_move_30 : decode cX3_move 30 = .ok (.ifCond .eq 11, 3) := by decide +kernel
theorem dX3_move_33 : decode cX3_move 33 = .ok (.aload_n 0, 1) := by decide +kernel
theorem dX3_move_34 : decode cX3_move 34 = .ok (.iload_n 1, 1) := by decide +kernel
theorem dX3_move_35 : decode cX3_move 35 = .ok (.invokevirtual 47, 3) := by decide +kernel
theorem dX3_move_38 : decode cX3_move 38 = .ok (.ifCond .eq 6, 3) := by decide +kernel
theorem dX3_move_41 : decode cX3_move 41 = .ok (.bipush (-13), 2) := by decide +kernel
theorem dX3_move_43 : decode cX3_move 43 = .ok (.ireturn, 1) := by decide +kernel
theorem dX3_move_44 : decode cX3_move 44 = .ok (.aload_n 0, 1) := by decide +kernel
theorem dX3_move_45 : decode cX3_move 45 = .ok (.iload_n 1, 1) := by decide +kernel
theorem dX3_move_46 : decode cX3_move 46 = .ok (.iload_n 2, 1) := by decide +kernel
theorem dX3_move_47 : decode cX3_move 47 = .ok (.invokevirtual 160, 3) := by decide +kernel
theorem dX3_move_50 : decode cX3_move 50 = .ok (.aload_n 0, 1) := by decide +kernel
theorem dX3_move_51 : decode cX3_move 51 = .ok (.iload_n 1, 1) := by decide +kernel
theorem dX3_move_52 : decode cX3_move 52 = .ok (.invokevirtual 164, 3) := by decide +kernel
theorem dX3_move_55 : decode cX3_move 55 = .ok (.ireturn, 1) := by decide +kernel
theorem dX3_place_0 : decode cX3_place 0 = .ok (.aload_n 0, 1) := by decide +kernel
theorem dX3_place_1 : decode cX3_place 1 = .ok (.iload_n 1, 1) := by decide +kernel
theorem dX3_place_2 : decode cX3_place 2 = .ok (.invokevirtual 40, 3) := by decide +kernel
theorem dX3_place_5 : decode cX3_place 5 = .ok (.ifCond .eq 11, 3) := by decide +kernel
theorem dX3_place_8 : decode cX3_place 8 = .ok (.aload_n 0, 1) := by decide +kernel
theorem dX3_place_9 : decode cX3_place 9 = .ok (.iload_n 1, 1) := by decide +kernel
theorem dX3_place_10 : decode cX3_place 10 = .ok (.invokevirtual 55, 3) := by decide +kernel
theorem dX3_place_13 : decode cX3_place 13 = .ok (.goto 5, 3) := by decide +kernel
theorem dX3_place_16 : decode cX3_place 16 = .ok (.bipush (-11), 2) := by decide +kernel
theorem dX3_place_18 : decode cX3_place 18 = .ok (.ireturn, 1) := by decide +kernel
theorem dX3_tick_0 : decode cX3_tick 0 = .ok (.lload_n 1, 1) := by decide +kernel
theorem dX3_tick_1 : decode cX3_tick 1 = .ok (.aload_n 0, 1) := by decide +kernel
theorem dX3_tick_2 : decode cX3_tick 2 = .ok (.getfield 104, 3) := by decide +kernel
theorem dX3_tick_5 : decode cX3_tick 5 = .ok (.lcmp, 1) := by decide +kernel
theorem dX3_tick_6 : decode cX3_tick 6 = .ok (.ifCond .lt 11, 3) := by decide +kernel
theorem dX3_tick_9 : decode cX3_tick 9 = .ok (.lload_n 1, 1) := by decide +kernel
theorem dX3_tick_10 : decode cX3_tick 10 = .ok (.ldc2_w 167, 3) := by decide +kernel
theorem dX3_tick_13 : decode cX3_tick 13 = .ok (.lcmp, 1) := by decide +kernel
theorem dX3_tick_14 : decode cX3_tick 14 = .ok (.ifCond .le 6, 3) := by decide +kernel
theorem dX3_tick_17 : decode cX3_tick 17 = .ok (.bipush (-12), 2) := by decide +kernel
theorem dX3_tick_19 : decode cX3_tick 19 = .ok (.ireturn, 1) := by decide +kernel
theorem dX3_tick_20 : decode cX3_tick 20 = .ok (.aload_n 0, 1) := by decide +kernel
theorem dX3_tick_21 : decode cX3_tick 21 = .ok (.lload_n 1, 1) := by decide +kernel
theorem dX3_tick_22 : decode cX3_tick 22 = .ok (.putfield 104, 3) := by decide +kernel
theorem dX3_tick_25 : decode cX3_tick 25 = .ok (.aload_n 0, 1) := by decide +kernel
theorem dX3_tick_26 : decode cX3_tick 26 = .ok (.getfield 25, 3) := by decide +kernel
theorem dX3_tick_29 : decode cX3_tick 29 = .ok (.lload_n 1, 1) := by decide +kernel
theorem dX3_tick_30 : decode cX3_tick 30 = .ok (.invokevirtual 169, 3) := by decide +kernel
theorem dX3_tick_33 : decode cX3_tick 33 = .ok (.ireturn, 1) := by decide +kernel
theorem dX3_isSeal_0 : decode cX3_isSeal 0 = .ok (.lload_n 0, 1) := by decide +kernel
theorem dX3_isSeal_1 : decode cX3_isSeal 1 = .ok (.lconst 1, 1) := by decide +kernel
theorem dX3_isSeal_2 : decode cX3_isSeal 2 = .ok (.lcmp, 1) := by decide +kernel
theorem dX3_isSeal_3 : decode cX3_isSeal 3 = .ok (.ifCond .lt 15, 3) := by decide +kernel
theorem dX3_isSeal_6 : decode cX3_isSeal 6 = .ok (.lload_n 0, 1) := by decide +kernel
theorem dX3_isSeal_7 : decode cX3_isSeal 7 = .ok (.ldc2_w 140, 3) := by decide +kernel
theorem dX3_isSeal_10 : decode cX3_isSeal 10 = .ok (.lcmp, 1) := by decide +kernel
theorem dX3_isSeal_11 : decode cX3_isSeal 11 = .ok (.ifCond .gt 7, 3) := by decide +kernel
theorem dX3_isSeal_14 : decode cX3_isSeal 14 = .ok (.iconst 1, 1) := by decide +kernel
theorem dX3_isSeal_15 : decode cX3_isSeal 15 = .ok (.goto 4, 3) := by decide +kernel
theorem dX3_isSeal_18 : decode cX3_isSeal 18 = .ok (.iconst 0, 1) := by decide +kernel
theorem dX3_isSeal_19 : decode cX3_isSeal 19 = .ok (.ireturn, 1) := by decide +kernel
theorem dX3_isPerson_0 : decode cX3_isPerson 0 = .ok (.iload_n 0, 1) := by decide +kernel
theorem dX3_isPerson_1 : decode cX3_isPerson 1 = .ok (.ifCond .lt 13, 3) := by decide +kernel
theorem dX3_isPerson_4 : decode cX3_isPerson 4 = .ok (.iload_n 0, 1) := by decide +kernel
theorem dX3_isPerson_5 : decode cX3_isPerson 5 = .ok (.bipush 49, 2) := by decide +kernel
theorem dX3_isPerson_7 : decode cX3_isPerson 7 = .ok (.if_icmp .gt 7, 3) := by decide +kernel
theorem dX3_isPerson_10 : decode cX3_isPerson 10 = .ok (.iconst 1, 1) := by decide +kernel
theorem dX3_isPerson_11 : decode cX3_isPerson 11 = .ok (.goto 4, 3) := by decide +kernel
theorem dX3_isPerson_14 : decode cX3_isPerson 14 = .ok (.iconst 0, 1) := by decide +kernel
theorem dX3_isPerson_15 : decode cX3_isPerson 15 = .ok (.ireturn, 1) := by decide +kernel
theorem dX3_isItem_0 : decode cX3_isItem 0 = .ok (.iload_n 0, 1) := by decide +kernel
theorem dX3_isItem_1 : decode cX3_isItem 1 = .ok (.iconst 1, 1) := by decide +kernel
theorem dX3_isItem_2 : decode cX3_isItem 2 = .ok (.if_icmp .lt 14, 3) := by decide +kernel
theorem dX3_isItem_5 : decode cX3_isItem 5 = .ok (.iload_n 0, 1) := by decide +kernel
theorem dX3_isItem_6 : decode cX3_isItem 6 = .ok (.sipush 999, 3) := by decide +kernel
theorem dX3_isItem_9 : decode cX3_isItem 9 = .ok (.if_icmp .gt 7, 3) := by decide +kernel
theorem dX3_isItem_12 : decode cX3_isItem 12 = .ok (.iconst 1, 1) := by decide +kernel
theorem dX3_isItem_13 : decode cX3_isItem 13 = .ok (.goto 4, 3) := by decide +kernel
theorem dX3_isItem_16 : decode cX3_isItem 16 = .ok (.iconst 0, 1) := by decide +kernel
theorem dX3_isItem_17 : decode cX3_isItem 17 = .ok (.ireturn, 1) := by decide +kernel
theorem dX3_isThing_0 : decode cX3_isThing 0 = .ok (.iload_n 1, 1) := by decide +kernel
theorem dX3_isThing_1 : decode cX3_isThing 1 = .ok (.invokestatic 173, 3) := by decide +kernel
theorem dX3_isThing_4 : decode cX3_isThing 4 = .ok (.ifCond .ne 11, 3) := by decide +kernel
theorem dX3_isThing_7 : decode cX3_isThing 7 = .ok (.aload_n 0, 1) := by decide +kernel
theorem dX3_isThing_8 : decode cX3_isThing 8 = .ok (.iload_n 1, 1) := by decide +kernel
theorem dX3_isThing_9 : decode cX3_isThing 9 = .ok (.invokevirtual 36, 3) := by decide +kernel
theorem dX3_isThing_12 : decode cX3_isThing 12 = .ok (.ifnull 7, 3) := by decide +kernel
theorem dX3_isThing_15 : decode cX3_isThing 15 = .ok (.iconst 1, 1) := by decide +kernel
theorem dX3_isThing_16 : decode cX3_isThing 16 = .ok (.goto 4, 3) := by decide +kernel
theorem dX3_isThing_19 : decode cX3_isThing 19 = .ok (.iconst 0, 1) := by decide +kernel
theorem dX3_isThing_20 : decode cX3_isThing 20 = .ok (.ireturn, 1) := by decide +kernel
theorem dX3_receptacleOf_0 : decode cX3_receptacleOf 0 = .ok (.iload_n 1, 1) := by decide +kernel
theorem dX3_receptacleOf_1 : decode cX3_receptacleOf 1 = .ok (.sipush 1000, 3) := by decide +kernel
theorem dX3_receptacleOf_4 : decode cX3_receptacleOf 4 = .ok (.if_icmp .gt 5, 3) := by decide +kernel
theorem dX3_receptacleOf_7 : decode cX3_receptacleOf 7 = .ok (.aconst_null, 1) := by decide +kernel
theorem dX3_receptacleOf_8 : decode cX3_receptacleOf 8 = .ok (.areturn, 1) := by decide +kernel
theorem dX3_receptacleOf_9 : decode cX3_receptacleOf 9 = .ok (.iload_n 1, 1) := by decide +kernel
theorem dX3_receptacleOf_10 : decode cX3_receptacleOf 10 = .ok (.sipush 1000, 3) := by decide +kernel
theorem dX3_receptacleOf_13 : decode cX3_receptacleOf 13 = .ok (.isub, 1) := by decide +kernel
theorem dX3_receptacleOf_14 : decode cX3_receptacleOf 14 = .ok (.iconst 1, 1) := by decide +kernel
theorem dX3_receptacleOf_15 : decode cX3_receptacleOf 15 = .ok (.isub, 1) := by decide +kernel
theorem dX3_receptacleOf_16 : decode cX3_receptacleOf 16 = .ok (.istore_n 2, 1) := by decide +kernel
theorem dX3_receptacleOf_17 : decode cX3_receptacleOf 17 = .ok (.iload_n 2, 1) := by decide +kernel
theorem dX3_receptacleOf_18 : decode cX3_receptacleOf 18 = .ok (.aload_n 0, 1) := by decide +kernel
theorem dX3_receptacleOf_19 : decode cX3_receptacleOf 19 = .ok (.getfield 11, 3) := by decide +kernel
theorem dX3_receptacleOf_22 : decode cX3_receptacleOf 22 = .ok (.arraylength, 1) := by decide +kernel
theorem dX3_receptacleOf_23 : decode cX3_receptacleOf 23 = .ok (.if_icmp .ge 12, 3) := by decide +kernel
theorem dX3_receptacleOf_26 : decode cX3_receptacleOf 26 = .ok (.aload_n 0, 1) := by decide +kernel
theorem dX3_receptacleOf_27 : decode cX3_receptacleOf 27 = .ok (.getfield 11, 3) := by decide +kernel
theorem dX3_receptacleOf_30 : decode cX3_receptacleOf 30 = .ok (.iload_n 2, 1) := by decide +kernel
theorem dX3_receptacleOf_31 : decode cX3_receptacleOf 31 = .ok (.aaload, 1) := by decide +kernel
theorem dX3_receptacleOf_32 : decode cX3_receptacleOf 32 = .ok (.goto 4, 3) := by decide +kernel
theorem dX3_receptacleOf_35 : decode cX3_receptacleOf 35 = .ok (.aconst_null, 1) := by decide +kernel
theorem dX3_receptacleOf_36 : decode cX3_receptacleOf 36 = .ok (.areturn, 1) := by decide +kernel
theorem dX3_holderOf_0 : decode cX3_holderOf 0 = .ok (.iload_n 1, 1) := by decide +kernel
theorem dX3_holderOf_1 : decode cX3_holderOf 1 = .ok (.ifCond .lt 21, 3) := by decide +kernel
theorem dX3_holderOf_4 : decode cX3_holderOf 4 = .ok (.iload_n 1, 1) := by decide +kernel
theorem dX3_holderOf_5 : decode cX3_holderOf 5 = .ok (.aload_n 0, 1) := by decide +kernel
theorem dX3_holderOf_6 : decode cX3_holderOf 6 = .ok (.getfield 15, 3) := by decide +kernel
theorem dX3_holderOf_9 : decode cX3_holderOf 9 = .ok (.arraylength, 1) := by decide +kernel
theorem dX3_holderOf_10 : decode cX3_holderOf 10 = .ok (.if_icmp .ge 12, 3) := by decide +kernel
theorem dX3_holderOf_13 : decode cX3_holderOf 13 = .ok (.aload_n 0, 1) := by decide +kernel
theorem dX3_holderOf_14 : decode cX3_holderOf 14 = .ok (.getfield 15, 3) := by decide +kernel
theorem dX3_holderOf_17 : decode cX3_holderOf 17 = .ok (.iload_n 1, 1) := by decide +kernel
theorem dX3_holderOf_18 : decode cX3_holderOf 18 = .ok (.iaload, 1) := by decide +kernel
theorem dX3_holderOf_19 : decode cX3_holderOf 19 = .ok (.goto 4, 3) := by decide +kernel
theorem dX3_holderOf_22 : decode cX3_holderOf 22 = .ok (.iconst 0, 1) := by decide +kernel
theorem dX3_holderOf_23 : decode cX3_holderOf 23 = .ok (.ireturn, 1) := by decide +kernel
theorem dX3_setHolder_0 : decode cX3_setHolder 0 = .ok (.iload_n 1, 1) := by decide +kernel
theorem dX3_setHolder_1 : decode cX3_setHolder 1 = .ok (.ifCond .lt 19, 3) := by decide +kernel
theorem dX3_setHolder_4 : decode cX3_setHolder 4 = .ok (.iload_n 1, 1) := by decide +kernel
theorem dX3_setHolder_5 : decode cX3_setHolder 5 = .ok (.aload_n 0, 1) := by decide +kernel
theorem dX3_setHolder_6 : decode cX3_setHolder 6 = .ok (.getfield 15, 3) := by decide +kernel
theorem dX3_setHolder_9 : decode cX3_setHolder 9 = .ok (.arraylength, 1) := by decide +kernel
theorem dX3_setHolder_10 : decode cX3_setHolder 10 = .ok (.if_icmp .ge 10, 3) := by decide +kernel
theorem dX3_setHolder_13 : decode cX3_setHolder 13 = .ok (.aload_n 0, 1) := by decide +kernel
theorem dX3_setHolder_14 : decode cX3_setHolder 14 = .ok (.getfield 15, 3) := by decide +kernel
theorem dX3_setHolder_17 : decode cX3_setHolder 17 = .ok (.iload_n 1, 1) := by decide +kernel
theorem dX3_setHolder_18 : decode cX3_setHolder 18 = .ok (.iload_n 2, 1) := by decide +kernel
theorem dX3_setHolder_19 : decode cX3_setHolder 19 = .ok (.iastore, 1) := by decide +kernel
theorem dX3_setHolder_20 : decode cX3_setHolder 20 = .ok (.return_, 1) := by decide +kernel
theorem dX3_setOwnPlace_0 : decode cX3_setOwnPlace 0 = .ok (.iload_n 1, 1) := by decide +kernel
theorem dX3_setOwnPlace_1 : decode cX3_setOwnPlace 1 = .ok (.ifCond .lt 19, 3) := by decide +kernel
theorem dX3_setOwnPlace_4 : decode cX3_setOwnPlace 4 = .ok (.iload_n 1, 1) := by decide +kernel
theorem dX3_setOwnPlace_5 : decode cX3_setOwnPlace 5 = .ok (.aload_n 0, 1) := by decide +kernel
theorem dX3_setOwnPlace_6 : decode cX3_setOwnPlace 6 = .ok (.getfield 19, 3) := by decide +kernel
theorem dX3_setOwnPlace_9 : decode cX3_setOwnPlace 9 = .ok (.arraylength, 1) := by decide +kernel
theorem dX3_setOwnPlace_10 : decode cX3_setOwnPlace 10 = .ok (.if_icmp .ge 10, 3) := by decide +kernel
theorem dX3_setOwnPlace_13 : decode cX3_setOwnPlace 13 = .ok (.aload_n 0, 1) := by decide +kernel
theorem dX3_setOwnPlace_14 : decode cX3_setOwnPlace 14 = .ok (.getfield 19, 3) := by decide +kernel
theorem dX3_setOwnPlace_17 : decode cX3_setOwnPlace 17 = .ok (.iload_n 1, 1) := by decide +kernel
theorem dX3_setOwnPlace_18 : decode cX3_setOwnPlace 18 = .ok (.iload_n 2, 1) := by decide +kernel
theorem dX3_setOwnPlace_19 : decode cX3_setOwnPlace 19 = .ok (.iastore, 1) := by decide +kernel
theorem dX3_setOwnPlace_20 : decode cX3_setOwnPlace 20 = .ok (.return_, 1) := by decide +kernel
theorem dX3_placeOf_0 : decode cX3_placeOf 0 = .ok (.iload_n 1, 1) := by decide +kernel
theorem dX3_placeOf_1 : decode cX3_placeOf 1 = .ok (.istore_n 2, 1) := by decide +kernel
theorem dX3_placeOf_2 : decode cX3_placeOf 2 = .ok (.iconst 0, 1) := by decide +kernel
theorem dX3_placeOf_3 : decode cX3_placeOf 3 = .ok (.istore_n 3, 1) := by decide +kernel
theorem dX3_placeOf_4 : decode cX3_placeOf 4 = .ok (.iload_n 3, 1) := by decide +kernel
theorem dX3_placeOf_5 : decode cX3_placeOf 5 = .ok (.bipush 60, 2) := by decide +kernel
theorem dX3_placeOf_7 : decode cX3_placeOf 7 = .ok (.if_icmp .ge 23, 3) := by decide +kernel
theorem dX3_placeOf_10 : decode cX3_placeOf 10 = .ok (.aload_n 0, 1) := by decide +kernel
theorem dX3_placeOf_11 : decode cX3_placeOf 11 = .ok (.iload_n 2, 1) := by decide +kernel
theorem dX3_placeOf_12 : decode cX3_placeOf 12 = .ok (.invokevirtual 47, 3) := by decide +kernel
theorem dX3_placeOf_15 : decode cX3_placeOf 15 = .ok (.ifCond .eq 15, 3) := by decide +kernel
theorem dX3_placeOf_18 : decode cX3_placeOf 18 = .ok (.aload_n 0, 1) := by decide +kernel
theorem dX3_placeOf_19 : decode cX3_placeOf 19 = .ok (.iload_n 2, 1) := by decide +kernel
theorem dX3_placeOf_20 : decode cX3_placeOf 20 = .ok (.invokevirtual 47, 3) := by decide +kernel
theorem dX3_placeOf_23 : decode cX3_placeOf 23 = .ok (.istore_n 2, 1) := by decide +kernel
theorem dX3_placeOf_24 : decode cX3_placeOf 24 = .ok (.iinc 3 1, 3) := by decide +kernel
theorem dX3_placeOf_27 : decode cX3_placeOf 27 = .ok (.goto (-23), 3) := by decide +kernel
theorem dX3_placeOf_30 : decode cX3_placeOf 30 = .ok (.iload_n 2, 1) := by decide +kernel
theorem dX3_placeOf_31 : decode cX3_placeOf 31 = .ok (.ifCond .lt 21, 3) := by decide +kernel
theorem dX3_placeOf_34 : decode cX3_placeOf 34 = .ok (.iload_n 2, 1) := by decide +kernel
theorem dX3_placeOf_35 : decode cX3_placeOf 35 = .ok (.aload_n 0, 1) := by decide +kernel
theorem dX3_placeOf_36 : decode cX3_placeOf 36 = .ok (.getfield 19, 3) := by decide +kernel
theorem dX3_placeOf_39 : decode cX3_placeOf 39 = .ok (.arraylength, 1) := by decide +kernel
theorem dX3_placeOf_40 : decode cX3_placeOf 40 = .ok (.if_icmp .ge 12, 3) := by decide +kernel
theorem dX3_placeOf_43 : decode cX3_placeOf 43 = .ok (.aload_n 0, 1) := by decide +kernel
theorem dX3_placeOf_44 : decode cX3_placeOf 44 = .ok (.getfield 19, 3) := by decide +kernel
theorem dX3_placeOf_47 : decode cX3_placeOf 47 = .ok (.iload_n 2, 1) := by decide +kernel
theorem dX3_placeOf_48 : decode cX3_placeOf 48 = .ok (.iaload, 1) := by decide +kernel
theorem dX3_placeOf_49 : decode cX3_placeOf 49 = .ok (.goto 4, 3) := by decide +kernel
theorem dX3_placeOf_52 : decode cX3_placeOf 52 = .ok (.iconst 0, 1) := by decide +kernel
theorem dX3_placeOf_53 : decode cX3_placeOf 53 = .ok (.ireturn, 1) := by decide +kernel
theorem dX3_isShut_0 : decode cX3_isShut 0 = .ok (.iload_n 1, 1) := by decide +kernel
theorem dX3_isShut_1 : decode cX3_isShut 1 = .ok (.istore_n 2, 1) := by decide +kernel
theorem dX3_isShut_2 : decode cX3_isShut 2 = .ok (.iconst 0, 1) := by decide +kernel
theorem dX3_isShut_3 : decode cX3_isShut 3 = .ok (.istore_n 3, 1) := by decide +kernel
theorem dX3_isShut_4 : decode cX3_isShut 4 = .ok (.iload_n 3, 1) := by decide +kernel
theorem dX3_isShut_5 : decode cX3_isShut 5 = .ok (.bipush 60, 2) := by decide +kernel
theorem dX3_isShut_7 : decode cX3_isShut 7 = .ok (.if_icmp .gt 41, 3) := by decide +kernel
theorem dX3_isShut_10 : decode cX3_isShut 10 = .ok (.iload_n 2, 1) := by decide +kernel
theorem dX3_isShut_11 : decode cX3_isShut 11 = .ok (.ifCond .eq 37, 3) := by decide +kernel
theorem dX3_isShut_14 : decode cX3_isShut 14 = .ok (.aload_n 0, 1) := by decide +kernel
theorem dX3_isShut_15 : decode cX3_isShut 15 = .ok (.iload_n 2, 1) := by decide +kernel
theorem dX3_isShut_16 : decode cX3_isShut 16 = .ok (.invokevirtual 36, 3) := by decide +kernel
theorem dX3_isShut_19 : decode cX3_isShut 19 = .ok (.astore 4, 2) := by decide +kernel
theorem dX3_isShut_21 : decode cX3_isShut 21 = .ok (.aload 4, 2) := by decide +kernel
theorem dX3_isShut_23 : decode cX3_isShut 23 = .ok (.ifnull 13, 3) := by decide +kernel
theorem dX3_isShut_26 : decode cX3_isShut 26 = .ok (.aload 4, 2) := by decide +kernel
theorem dX3_isShut_28 : decode cX3_isShut 28 = .ok (.getfield 93, 3) := by decide +kernel
theorem dX3_isShut_31 : decode cX3_isShut 31 = .ok (.ifCond .eq 5, 3) := by decide +kernel
theorem dX3_isShut_34 : decode cX3_isShut 34 = .ok (.iconst 1, 1) := by decide +kernel
theorem dX3_isShut_35 : decode cX3_isShut 35 = .ok (.ireturn, 1) := by decide +kernel
theorem dX3_isShut_36 : decode cX3_isShut 36 = .ok (.aload_n 0, 1) := by decide +kernel
theorem dX3_isShut_37 : decode cX3_isShut 37 = .ok (.iload_n 2, 1) := by decide +kernel
theorem dX3_isShut_38 : decode cX3_isShut 38 = .ok (.invokevirtual 47, 3) := by decide +kernel
theorem dX3_isShut_41 : decode cX3_isShut 41 = .ok (.istore_n 2, 1) := by decide +kernel
theorem dX3_isShut_42 : decode cX3_isShut 42 = .ok (.iinc 3 1, 3) := by decide +kernel
theorem dX3_isShut_45 : decode cX3_isShut 45 = .ok (.goto (-41), 3) := by decide +kernel
theorem dX3_isShut_48 : decode cX3_isShut 48 = .ok (.iconst 0, 1) := by decide +kernel
theorem dX3_isShut_49 : decode cX3_isShut 49 = .ok (.ireturn, 1) := by decide +kernel
theorem dX3_isWithin_0 : decode cX3_isWithin 0 = .ok (.iload_n 1, 1) := by decide +kernel
theorem dX3_isWithin_1 : decode cX3_isWithin 1 = .ok (.istore_n 3, 1) := by decide +kernel
theorem dX3_isWithin_2 : decode cX3_isWithin 2 = .ok (.iconst 0, 1) := by decide +kernel
theorem dX3_isWithin_3 : decode cX3_isWithin 3 = .ok (.istore 4, 2) := by decide +kernel
theorem dX3_isWithin_5 : decode cX3_isWithin 5 = .ok (.iload 4, 2) := by decide +kernel
theorem dX3_isWithin_7 : decode cX3_isWithin 7 = .ok (.bipush 60, 2) := by decide +kernel
theorem dX3_isWithin_9 : decode cX3_isWithin 9 = .ok (.if_icmp .gt 26, 3) := by decide +kernel
theorem dX3_isWithin_12 : decode cX3_isWithin 12 = .ok (.iload_n 3, 1) := by decide +kernel
theorem dX3_isWithin_13 : decode cX3_isWithin 13 = .ok (.ifCond .eq 22, 3) := by decide +kernel
theorem dX3_isWithin_16 : decode cX3_isWithin 16 = .ok (.iload_n 3, 1) := by decide +kernel
theorem dX3_isWithin_17 : decode cX3_isWithin 17 = .ok (.iload_n 2, 1) := by decide +kernel
theorem dX3_isWithin_18 : decode cX3_isWithin 18 = .ok (.if_icmp .ne 5, 3) := by decide +kernel
theorem dX3_isWithin_21 : decode cX3_isWithin 21 = .ok (.iconst 1, 1) := by decide +kernel
theorem dX3_isWithin_22 : decode cX3_isWithin 22 = .ok (.ireturn, 1) := by decide +kernel
theorem dX3_isWithin_23 : decode cX3_isWithin 23 = .ok (.aload_n 0, 1) := by decide +kernel
theorem dX3_isWithin_24 : decode cX3_isWithin 24 = .ok (.iload_n 3, 1) := by decide +kernel
theorem dX3_isWithin_25 : decode cX3_isWithin 25 = .ok (.invokevirtual 47, 3) := by decide +kernel
theorem dX3_isWithin_28 : decode cX3_isWithin 28 = .ok (.istore_n 3, 1) := by decide +kernel
theorem dX3_isWithin_29 : decode cX3_isWithin 29 = .ok (.iinc 4 1, 3) := by decide +kernel
theorem dX3_isWithin_32 : decode cX3_isWithin 32 = .ok (.goto (-27), 3) := by decide +kernel
theorem dX3_isWithin_35 : decode cX3_isWithin 35 = .ok (.iconst 0, 1) := by decide +kernel
theorem dX3_isWithin_36 : decode cX3_isWithin 36 = .ok (.ireturn, 1) := by decide +kernel
theorem dX3_isLesser_0 : decode cX3_isLesser 0 = .ok (.aload_n 0, 1) := by decide +kernel
theorem dX3_isLesser_1 : decode cX3_isLesser 1 = .ok (.iload_n 1, 1) := by decide +kernel
theorem dX3_isLesser_2 : decode cX3_isLesser 2 = .ok (.invokevirtual 36, 3) := by decide +kernel
theorem dX3_isLesser_5 : decode cX3_isLesser 5 = .ok (.astore_n 3, 1) := by decide +kernel
theorem dX3_isLesser_6 : decode cX3_isLesser 6 = .ok (.aload_n 3, 1) := by decide +kernel
theorem dX3_isLesser_7 : decode cX3_isLesser 7 = .ok (.ifnonnull 7, 3) := by decide +kernel
theorem dX3_isLesser_10 : decode cX3_isLesser 10 = .ok (.iconst (-1), 1) := by decide +kernel
theorem dX3_isLesser_11 : decode cX3_isLesser 11 = .ok (.goto 7, 3) := by decide +kernel
theorem dX3_isLesser_14 : decode cX3_isLesser 14 = .ok (.aload_n 3, 1) := by decide +kernel
theorem dX3_isLesser_15 : decode cX3_isLesser 15 = .ok (.getfield 176, 3) := by decide +kernel
theorem dX3_isLesser_18 : decode cX3_isLesser 18 = .ok (.istore 4, 2) := by decide +kernel
theorem dX3_isLesser_20 : decode cX3_isLesser 20 = .ok (.iload 4, 2) := by decide +kernel
theorem dX3_isLesser_22 : decode cX3_isLesser 22 = .ok (.aload_n 2, 1) := by decide +kernel
theorem dX3_isLesser_23 : decode cX3_isLesser 23 = .ok (.getfield 176, 3) := by decide +kernel
theorem dX3_isLesser_26 : decode cX3_isLesser 26 = .ok (.if_icmp .ge 7, 3) := by decide +kernel
theorem dX3_isLesser_29 : decode cX3_isLesser 29 = .ok (.iconst 1, 1) := by decide +kernel
theorem dX3_isLesser_30 : decode cX3_isLesser 30 = .ok (.goto 4, 3) := by decide +kernel
theorem dX3_isLesser_33 : decode cX3_isLesser 33 = .ok (.iconst 0, 1) := by decide +kernel
theorem dX3_isLesser_34 : decode cX3_isLesser 34 = .ok (.ireturn, 1) := by decide +kernel
theorem dX3_putIn_0 : decode cX3_putIn 0 = .ok (.aload_n 1, 1) := by decide +kernel
theorem dX3_putIn_1 : decode cX3_putIn 1 = .ok (.getfield 58, 3) := by decide +kernel
theorem dX3_putIn_4 : decode cX3_putIn 4 = .ok (.iload_n 3, 1) := by decide +kernel
theorem dX3_putIn_5 : decode cX3_putIn 5 = .ok (.invokevirtual 157, 3) := by decide +kernel
theorem dX3_putIn_8 : decode cX3_putIn 8 = .ok (.aload_n 0, 1) := by decide +kernel
theorem dX3_putIn_9 : decode cX3_putIn 9 = .ok (.iload_n 3, 1) := by decide +kernel
theorem dX3_putIn_10 : decode cX3_putIn 10 = .ok (.iload_n 2, 1) := by decide +kernel
theorem dX3_putIn_11 : decode cX3_putIn 11 = .ok (.invokevirtual 179, 3) := by decide +kernel
theorem dX3_putIn_14 : decode cX3_putIn 14 = .ok (.return_, 1) := by decide +kernel
theorem dX3_takeOut_0 : decode cX3_takeOut 0 = .ok (.aload_n 0, 1) := by decide +kernel
theorem dX3_takeOut_1 : decode cX3_takeOut 1 = .ok (.aload_n 0, 1) := by decide +kernel
theorem dX3_takeOut_2 : decode cX3_takeOut 2 = .ok (.iload_n 1, 1) := by decide +kernel
theorem dX3_takeOut_3 : decode cX3_takeOut 3 = .ok (.invokevirtual 47, 3) := by decide +kernel
theorem dX3_takeOut_6 : decode cX3_takeOut 6 = .ok (.invokevirtual 36, 3) := by decide +kernel
theorem dX3_takeOut_9 : decode cX3_takeOut 9 = .ok (.astore_n 2, 1) := by decide +kernel
theorem dX3_takeOut_10 : decode cX3_takeOut 10 = .ok (.aload_n 2, 1) := by decide +kernel
theorem dX3_takeOut_11 : decode cX3_takeOut 11 = .ok (.ifnull 27, 3) := by decide +kernel
theorem dX3_takeOut_14 : decode cX3_takeOut 14 = .ok (.aload_n 0, 1) := by decide +kernel
theorem dX3_takeOut_15 : decode cX3_takeOut 15 = .ok (.iload_n 1, 1) := by decide +kernel
theorem dX3_takeOut_16 : decode cX3_takeOut 16 = .ok (.aload_n 0, 1) := by decide +kernel
theorem dX3_takeOut_17 : decode cX3_takeOut 17 = .ok (.iload_n 1, 1) := by decide +kernel
theorem dX3_takeOut_18 : decode cX3_takeOut 18 = .ok (.invokevirtual 55, 3) := by decide +kernel
theorem dX3_takeOut_21 : decode cX3_takeOut 21 = .ok (.invokevirtual 160, 3) := by decide +kernel
theorem dX3_takeOut_24 : decode cX3_takeOut 24 = .ok (.aload_n 2, 1) := by decide +kernel
theorem dX3_takeOut_25 : decode cX3_takeOut 25 = .ok (.getfield 58, 3) := by decide +kernel
theorem dX3_takeOut_28 : decode cX3_takeOut 28 = .ok (.iload_n 1, 1) := by decide +kernel
theorem dX3_takeOut_29 : decode cX3_takeOut 29 = .ok (.invokevirtual 123, 3) := by decide +kernel
theorem dX3_takeOut_32 : decode cX3_takeOut 32 = .ok (.aload_n 0, 1) := by decide +kernel
theorem dX3_takeOut_33 : decode cX3_takeOut 33 = .ok (.iload_n 1, 1) := by decide +kernel
theorem dX3_takeOut_34 : decode cX3_takeOut 34 = .ok (.iconst 0, 1) := by decide +kernel
theorem dX3_takeOut_35 : decode cX3_takeOut 35 = .ok (.invokevirtual 179, 3) := by decide +kernel
theorem dX3_takeOut_38 : decode cX3_takeOut 38 = .ok (.return_, 1) := by decide +kernel
theorem dX3_foundExtra_0 : decode cX3_foundExtra 0 = .ok (.aload_n 0, 1) := by decide +kernel
theorem dX3_foundExtra_1 : decode cX3_foundExtra 1 = .ok (.iload_n 3, 1) := by decide +kernel
theorem dX3_foundExtra_2 : decode cX3_foundExtra 2 = .ok (.invokevirtual 47, 3) := by decide +kernel
theorem dX3_foundExtra_5 : decode cX3_foundExtra 5 = .ok (.iload_n 2, 1) := by decide +kernel
theorem dX3_foundExtra_6 : decode cX3_foundExtra 6 = .ok (.if_icmp .eq 7, 3) := by decide +kernel
theorem dX3_foundExtra_9 : decode cX3_foundExtra 9 = .ok (.iconst 1, 1) := by decide +kernel
theorem dX3_foundExtra_10 : decode cX3_foundExtra 10 = .ok (.goto 4, 3) := by decide +kernel
theorem dX3_foundExtra_13 : decode cX3_foundExtra 13 = .ok (.iconst 0, 1) := by decide +kernel
theorem dX3_foundExtra_14 : decode cX3_foundExtra 14 = .ok (.istore 4, 2) := by decide +kernel
theorem dX3_foundExtra_16 : decode cX3_foundExtra 16 = .ok (.aload_n 1, 1) := by decide +kernel
theorem dX3_foundExtra_17 : decode cX3_foundExtra 17 = .ok (.getfield 126, 3) := by decide +kernel
theorem dX3_foundExtra_20 : decode cX3_foundExtra 20 = .ok (.invokevirtual 62, 3) := by decide +kernel
theorem dX3_foundExtra_23 : decode cX3_foundExtra 23 = .ok (.ifCond .ne 18, 3) := by decide +kernel
theorem dX3_foundExtra_26 : decode cX3_foundExtra 26 = .ok (.iload 4, 2) := by decide +kernel
theorem dX3_foundExtra_28 : decode cX3_foundExtra 28 = .ok (.ifCond .eq 16, 3) := by decide +kernel
theorem dX3_foundExtra_31 : decode cX3_foundExtra 31 = .ok (.aload_n 1, 1) := by decide +kernel
theorem dX3_foundExtra_32 : decode cX3_foundExtra 32 = .ok (.getfield 58, 3) := by decide +kernel
theorem dX3_foundExtra_35 : decode cX3_foundExtra 35 = .ok (.invokevirtual 62, 3) := by decide +kernel
theorem dX3_foundExtra_38 : decode cX3_foundExtra 38 = .ok (.ifCond .eq 6, 3) := by decide +kernel
theorem dX3_foundExtra_41 : decode cX3_foundExtra 41 = .ok (.bipush (-14), 2) := by decide +kernel
theorem dX3_foundExtra_43 : decode cX3_foundExtra 43 = .ok (.ireturn, 1) := by decide +kernel
theorem dX3_foundExtra_44 : decode cX3_foundExtra 44 = .ok (.iload 4, 2) := by decide +kernel
theorem dX3_foundExtra_46 : decode cX3_foundExtra 46 = .ok (.ifCond .eq 15, 3) := by decide +kernel
theorem dX3_foundExtra_49 : decode cX3_foundExtra 49 = .ok (.aload_n 0, 1) := by decide +kernel
theorem dX3_foundExtra_50 : decode cX3_foundExtra 50 = .ok (.iload_n 3, 1) := by decide +kernel
theorem dX3_foundExtra_51 : decode cX3_foundExtra 51 = .ok (.invokevirtual 72, 3) := by decide +kernel
theorem dX3_foundExtra_54 : decode cX3_foundExtra 54 = .ok (.aload_n 0, 1) := by decide +kernel
theorem dX3_foundExtra_55 : decode cX3_foundExtra 55 = .ok (.aload_n 1, 1) := by decide +kernel
theorem dX3_foundExtra_56 : decode cX3_foundExtra 56 = .ok (.iload_n 2, 1) := by decide +kernel
theorem dX3_foundExtra_57 : decode cX3_foundExtra 57 = .ok (.iload_n 3, 1) := by decide +kernel
theorem dX3_foundExtra_58 : decode cX3_foundExtra 58 = .ok (.invokevirtual 68, 3) := by decide +kernel
theorem dX3_foundExtra_61 : decode cX3_foundExtra 61 = .ok (.aload_n 1, 1) := by decide +kernel
theorem dX3_foundExtra_62 : decode cX3_foundExtra 62 = .ok (.getfield 126, 3) := by decide +kernel
theorem dX3_foundExtra_65 : decode cX3_foundExtra 65 = .ok (.iload_n 3, 1) := by decide +kernel
theorem dX3_foundExtra_66 : decode cX3_foundExtra 66 = .ok (.invokevirtual 157, 3) := by decide +kernel
theorem dX3_foundExtra_69 : decode cX3_foundExtra 69 = .ok (.aload_n 0, 1) := by decide +kernel
theorem dX3_foundExtra_70 : decode cX3_foundExtra 70 = .ok (.getfield 25, 3) := by decide +kernel
theorem dX3_foundExtra_73 : decode cX3_foundExtra 73 = .ok (.aload_n 0, 1) := by decide +kernel
theorem dX3_foundExtra_74 : decode cX3_foundExtra 74 = .ok (.getfield 104, 3) := by decide +kernel
theorem dX3_foundExtra_77 : decode cX3_foundExtra 77 = .ok (.ldc2_w 108, 3) := by decide +kernel
theorem dX3_foundExtra_80 : decode cX3_foundExtra 80 = .ok (.ladd, 1) := by decide +kernel
theorem dX3_foundExtra_81 : decode cX3_foundExtra 81 = .ok (.invokevirtual 110, 3) := by decide +kernel
theorem dX3_foundExtra_84 : decode cX3_foundExtra 84 = .ok (.iconst 0, 1) := by decide +kernel
theorem dX3_foundExtra_85 : decode cX3_foundExtra 85 = .ok (.ireturn, 1) := by decide +kernel
theorem dX3_weightOf_0 : decode cX3_weightOf 0 = .ok (.lconst 0, 1) := by decide +kernel
theorem dX3_weightOf_1 : decode cX3_weightOf 1 = .ok (.lstore_n 2, 1) := by decide +kernel
theorem dX3_weightOf_2 : decode cX3_weightOf 2 = .ok (.iconst 0, 1) := by decide +kernel
theorem dX3_weightOf_3 : decode cX3_weightOf 3 = .ok (.istore 4, 2) := by decide +kernel
theorem dX3_weightOf_5 : decode cX3_weightOf 5 = .ok (.iload 4, 2) := by decide +kernel
theorem dX3_weightOf_7 : decode cX3_weightOf 7 = .ok (.aload_n 0, 1) := by decide +kernel
theorem dX3_weightOf_8 : decode cX3_weightOf 8 = .ok (.getfield 29, 3) := by decide +kernel
theorem dX3_weightOf_11 : decode cX3_weightOf 11 = .ok (.if_icmp .ge 73, 3) := by decide +kernel
theorem dX3_weightOf_14 : decode cX3_weightOf 14 = .ok (.iload 4, 2) := by decide +kernel
theorem dX3_weightOf_16 : decode cX3_weightOf 16 = .ok (.aload_n 0, 1) := by decide +kernel
theorem dX3_weightOf_17 : decode cX3_weightOf 17 = .ok (.getfield 11, 3) := by decide +kernel
theorem dX3_weightOf_20 : decode cX3_weightOf 20 = .ok (.arraylength, 1) := by decide +kernel
theorem dX3_weightOf_21 : decode cX3_weightOf 21 = .ok (.if_icmp .ge 63, 3) := by decide +kernel
theorem dX3_weightOf_24 : decode cX3_weightOf 24 = .ok (.aload_n 0, 1) := by decide +kernel
theorem dX3_weightOf_25 : decode cX3_weightOf 25 = .ok (.getfield 11, 3) := by decide +kernel
theorem dX3_weightOf_28 : decode cX3_weightOf 28 = .ok (.iload 4, 2) := by decide +kernel
theorem dX3_weightOf_30 : decode cX3_weightOf 30 = .ok (.aaload, 1) := by decide +kernel
theorem dX3_weightOf_31 : decode cX3_weightOf 31 = .ok (.astore 5, 2) := by decide +kernel
theorem dX3_weightOf_33 : decode cX3_weightOf 33 = .ok (.aload 5, 2) := by decide +kernel
theorem dX3_weightOf_35 : decode cX3_weightOf 35 = .ok (.ifnull 43, 3) := by decide +kernel
theorem dX3_weightOf_38 : decode cX3_weightOf 38 = .ok (.aload_n 0, 1) := by decide +kernel
theorem dX3_weightOf_39 : decode cX3_weightOf 39 = .ok (.sipush 1001, 3) := by decide +kernel
theorem dX3_weightOf_42 : decode cX3_weightOf 42 = .ok (.iload 4, 2) := by decide +kernel
theorem dX3_weightOf_44 : decode cX3_weightOf 44 = .ok (.iadd, 1) := by decide +kernel
theorem dX3_weightOf_45 : decode cX3_weightOf 45 = .ok (.iload_n 1, 1) := by decide +kernel
theorem dX3_weightOf_46 : decode cX3_weightOf 46 = .ok (.invokevirtual 182, 3) := by decide +kernel
theorem dX3_weightOf_49 : decode cX3_weightOf 49 = .ok (.ifCond .eq 29, 3) := by decide +kernel
theorem dX3_weightOf_52 : decode cX3_weightOf 52 = .ok (.lload_n 2, 1) := by decide +kernel
theorem dX3_weightOf_53 : decode cX3_weightOf 53 = .ok (.ldc2_w 108, 3) := by decide +kernel
theorem dX3_weightOf_56 : decode cX3_weightOf 56 = .ok (.aload 5, 2) := by decide +kernel
theorem dX3_weightOf_58 : decode cX3_weightOf 58 = .ok (.getfield 176, 3) := by decide +kernel
theorem dX3_weightOf_61 : decode cX3_weightOf 61 = .ok (.i2l, 1) := by decide +kernel
theorem dX3_weightOf_62 : decode cX3_weightOf 62 = .ok (.lmul, 1) := by decide +kernel
theorem dX3_weightOf_63 : decode cX3_weightOf 63 = .ok (.ldc2_w 108, 3) := by decide +kernel
theorem dX3_weightOf_66 : decode cX3_weightOf 66 = .ok (.ladd, 1) := by decide +kernel
theorem dX3_weightOf_67 : decode cX3_weightOf 67 = .ok (.aload 5, 2) := by decide +kernel
theorem dX3_weightOf_69 : decode cX3_weightOf 69 = .ok (.getfield 58, 3) := by decide +kernel
theorem dX3_weightOf_72 : decode cX3_weightOf 72 = .ok (.invokestatic 185, 3) := by decide +kernel
theorem dX3_weightOf_75 : decode cX3_weightOf 75 = .ok (.ladd, 1) := by decide +kernel
theorem dX3_weightOf_76 : decode cX3_weightOf 76 = .ok (.ladd, 1) := by decide +kernel
theorem dX3_weightOf_77 : decode cX3_weightOf 77 = .ok (.lstore_n 2, 1) := by decide +kernel
theorem dX3_weightOf_78 : decode cX3_weightOf 78 = .ok (.iinc 4 1, 3) := by decide +kernel
theorem dX3_weightOf_81 : decode cX3_weightOf 81 = .ok (.goto (-76), 3) := by decide +kernel
theorem dX3_weightOf_84 : decode cX3_weightOf 84 = .ok (.lload_n 2, 1) := by decide +kernel
theorem dX3_weightOf_85 : decode cX3_weightOf 85 = .ok (.lreturn, 1) := by decide +kernel
theorem dX3_weightOfItems_0 : decode cX3_weightOfItems 0 = .ok (.lconst 0, 1) := by decide +kernel
theorem dX3_weightOfItems_1 : decode cX3_weightOfItems 1 = .ok (.lstore_n 1, 1) := by decide +kernel
theorem dX3_weightOfItems_2 : decode cX3_weightOfItems 2 = .ok (.iconst 0, 1) := by decide +kernel
theorem dX3_weightOfItems_3 : decode cX3_weightOfItems 3 = .ok (.istore_n 3, 1) := by decide +kernel
theorem dX3_weightOfItems_4 : decode cX3_weightOfItems 4 = .ok (.iload_n 3, 1) := by decide +kernel
theorem dX3_weightOfItems_5 : decode cX3_weightOfItems 5 = .ok (.aload_n 0, 1) := by decide +kernel
theorem dX3_weightOfItems_6 : decode cX3_weightOfItems 6 = .ok (.invokevirtual 89, 3) := by decide +kernel
theorem dX3_weightOfItems_9 : decode cX3_weightOfItems 9 = .ok (.if_icmp .ge 38, 3) := by decide +kernel
theorem dX3_weightOfItems_12 : decode cX3_weightOfItems 12 = .ok (.aload_n 0, 1) := by decide +kernel
theorem dX3_weightOfItems_13 : decode cX3_weightOfItems 13 = .ok (.iload_n 3, 1) := by decide +kernel
theorem dX3_weightOfItems_14 : decode cX3_weightOfItems 14 = .ok (.invokevirtual 137, 3) := by decide +kernel
theorem dX3_weightOfItems_17 : decode cX3_weightOfItems 17 = .ok (.istore 4, 2) := by decide +kernel
theorem dX3_weightOfItems_19 : decode cX3_weightOfItems 19 = .ok (.iload 4, 2) := by decide +kernel
theorem dX3_weightOfItems_21 : decode cX3_weightOfItems 21 = .ok (.invokestatic 173, 3) := by decide +kernel
theorem dX3_weightOfItems_24 : decode cX3_weightOfItems 24 = .ok (.ifCond .eq 17, 3) := by decide +kernel
theorem dX3_weightOfItems_27 : decode cX3_weightOfItems 27 = .ok (.lload_n 1, 1) := by decide +kernel
theorem dX3_weightOfItems_28 : decode cX3_weightOfItems 28 = .ok (.iconst 5, 1) := by decide +kernel
theorem dX3_weightOfItems_29 : decode cX3_weightOfItems 29 = .ok (.bipush 10, 2) := by decide +kernel
theorem dX3_weightOfItems_31 : decode cX3_weightOfItems 31 = .ok (.iload 4, 2) := by decide +kernel
theorem dX3_weightOfItems_33 : decode cX3_weightOfItems 33 = .ok (.bipush 50, 2) := by decide +kernel
theorem dX3_weightOfItems_35 : decode cX3_weightOfItems 35 = .ok (.irem, 1) := by decide +kernel
theorem dX3_weightOfItems_36 : decode cX3_weightOfItems 36 = .ok (.imul, 1) := by decide +kernel
theorem dX3_weightOfItems_37 : decode cX3_weightOfItems 37 = .ok (.iadd, 1) := by decide +kernel
theorem dX3_weightOfItems_38 : decode cX3_weightOfItems 38 = .ok (.i2l, 1) := by decide +kernel
theorem dX3_weightOfItems_39 : decode cX3_weightOfItems 39 = .ok (.ladd, 1) := by decide +kernel
theorem dX3_weightOfItems_40 : decode cX3_weightOfItems 40 = .ok (.lstore_n 1, 1) := by decide +kernel
theorem dX3_weightOfItems_41 : decode cX3_weightOfItems 41 = .ok (.iinc 3 1, 3) := by decide +kernel
theorem dX3_weightOfItems_44 : decode cX3_weightOfItems 44 = .ok (.goto (-40), 3) := by decide +kernel
theorem dX3_weightOfItems_47 : decode cX3_weightOfItems 47 = .ok (.lload_n 1, 1) := by decide +kernel
theorem dX3_weightOfItems_48 : decode cX3_weightOfItems 48 = .ok (.lreturn, 1) := by decide +kernel
theorem dX3_thingsOf_0 : decode cX3_thingsOf 0 = .ok (.iconst 1, 1) := by decide +kernel
theorem dX3_thingsOf_1 : decode cX3_thingsOf 1 = .ok (.istore_n 2, 1) := by decide +kernel
theorem dX3_thingsOf_2 : decode cX3_thingsOf 2 = .ok (.iconst 0, 1) := by decide +kernel
theorem dX3_thingsOf_3 : decode cX3_thingsOf 3 = .ok (.istore_n 3, 1) := by decide +kernel
theorem dX3_thingsOf_4 : decode cX3_thingsOf 4 = .ok (.iload_n 3, 1) := by decide +kernel
theorem dX3_thingsOf_5 : decode cX3_thingsOf 5 = .ok (.aload_n 0, 1) := by decide +kernel
theorem dX3_thingsOf_6 : decode cX3_thingsOf 6 = .ok (.getfield 29, 3) := by decide +kernel
theorem dX3_thingsOf_9 : decode cX3_thingsOf 9 = .ok (.if_icmp .ge 55, 3) := by decide +kernel
theorem dX3_thingsOf_12 : decode cX3_thingsOf 12 = .ok (.iload_n 3, 1) := by decide +kernel
theorem dX3_thingsOf_13 : decode cX3_thingsOf 13 = .ok (.aload_n 0, 1) := by decide +kernel
theorem dX3_thingsOf_14 : decode cX3_thingsOf 14 = .ok (.getfield 11, 3) := by decide +kernel
theorem dX3_thingsOf_17 : decode cX3_thingsOf 17 = .ok (.arraylength, 1) := by decide +kernel
theorem dX3_thingsOf_18 : decode cX3_thingsOf 18 = .ok (.if_icmp .ge 46, 3) := by decide +kernel
theorem dX3_thingsOf_21 : decode cX3_thingsOf 21 = .ok (.aload_n 0, 1) := by decide +kernel
theorem dX3_thingsOf_22 : decode cX3_thingsOf 22 = .ok (.getfield 11, 3) := by decide +kernel
theorem dX3_thingsOf_25 : decode cX3_thingsOf 25 = .ok (.iload_n 3, 1) := by decide +kernel
theorem dX3_thingsOf_26 : decode cX3_thingsOf 26 = .ok (.aaload, 1) := by decide +kernel
theorem dX3_thingsOf_27 : decode cX3_thingsOf 27 = .ok (.astore 4, 2) := by decide +kernel
theorem dX3_thingsOf_29 : decode cX3_thingsOf 29 = .ok (.aload 4, 2) := by decide +kernel
theorem dX3_thingsOf_31 : decode cX3_thingsOf 31 = .ok (.ifnull 27, 3) := by decide +kernel
theorem dX3_thingsOf_34 : decode cX3_thingsOf 34 = .ok (.aload_n 0, 1) := by decide +kernel
theorem dX3_thingsOf_35 : decode cX3_thingsOf 35 = .ok (.sipush 1001, 3) := by decide +kernel
theorem dX3_thingsOf_38 : decode cX3_thingsOf 38 = .ok (.iload_n 3, 1) := by decide +kernel
theorem dX3_thingsOf_39 : decode cX3_thingsOf 39 = .ok (.iadd, 1) := by decide +kernel
theorem dX3_thingsOf_40 : decode cX3_thingsOf 40 = .ok (.iload_n 1, 1) := by decide +kernel
theorem dX3_thingsOf_41 : decode cX3_thingsOf 41 = .ok (.invokevirtual 182, 3) := by decide +kernel
theorem dX3_thingsOf_44 : decode cX3_thingsOf 44 = .ok (.ifCond .eq 14, 3) := by decide +kernel
theorem dX3_thingsOf_47 : decode cX3_thingsOf 47 = .ok (.iload_n 2, 1) := by decide +kernel
theorem dX3_thingsOf_48 : decode cX3_thingsOf 48 = .ok (.aload 4, 2) := by decide +kernel
theorem dX3_thingsOf_50 : decode cX3_thingsOf 50 = .ok (.getfield 58, 3) := by decide +kernel
theorem dX3_thingsOf_53 : decode cX3_thingsOf 53 = .ok (.invokevirtual 89, 3) := by decide +kernel
theorem dX3_thingsOf_56 : decode cX3_thingsOf 56 = .ok (.iadd, 1) := by decide +kernel
theorem dX3_thingsOf_57 : decode cX3_thingsOf 57 = .ok (.istore_n 2, 1) := by decide +kernel
theorem dX3_thingsOf_58 : decode cX3_thingsOf 58 = .ok (.iinc 3 1, 3) := by decide +kernel
theorem dX3_thingsOf_61 : decode cX3_thingsOf 61 = .ok (.goto (-57), 3) := by decide +kernel
theorem dX3_thingsOf_64 : decode cX3_thingsOf 64 = .ok (.iload_n 2, 1) := by decide +kernel
theorem dX3_thingsOf_65 : decode cX3_thingsOf 65 = .ok (.ireturn, 1) := by decide +kernel
end
section
theorem dX4_init_0 : decode cX4_init 0 = .ok (.aload_n 0, 1) := by decide +kernel
theorem dX4_init_1 : decode cX4_init 1 = .ok (.invokespecial 1, 3) := by decide +kernel
theorem dX4_init_4 : decode cX4_init 4 = .ok (.aload_n 0, 1) := by decide +kernel
theorem dX4_init_5 : decode cX4_init 5 = .ok (.sipush 1061, 3) := by decide +kernel
theorem dX4_init_8 : decode cX4_init 8 = .ok (.newarray .int, 2) := by decide +kernel
theorem dX4_init_10 : decode cX4_init 10 = .ok (.putfield 7, 3) := by decide +kernel
theorem dX4_init_13 : decode cX4_init 13 = .ok (.aload_n 0, 1) := by decide +kernel
theorem dX4_init_14 : decode cX4_init 14 = .ok (.sipush 1061, 3) := by decide +kernel
theorem dX4_init_17 : decode cX4_init 17 = .ok (.newarray .int, 2) := by decide +kernel
theorem dX4_init_19 : decode cX4_init 19 = .ok (.putfield 13, 3) := by decide +kernel
theorem dX4_init_22 : decode cX4_init 22 = .ok (.aload_n 0, 1) := by decide +kernel
theorem dX4_init_23 : decode cX4_init 23 = .ok (.sipush 1061, 3) := by decide +kernel
theorem dX4_init_26 : decode cX4_init 26 = .ok (.newarray .int, 2) := by decide +kernel
theorem dX4_init_28 : decode cX4_init 28 = .ok (.putfield 16, 3) := by decide +kernel
theorem dX4_init_31 : decode cX4_init 31 = .ok (.aload_n 0, 1) := by decide +kernel
theorem dX4_init_32 : decode cX4_init 32 = .ok (.bipush 60, 2) := by decide +kernel
theorem dX4_init_34 : decode cX4_init 34 = .ok (.newarray .int, 2) := by decide +kernel
theorem dX4_init_36 : decode cX4_init 36 = .ok (.putfield 19, 3) := by decide +kernel
theorem dX4_init_39 : decode cX4_init 39 = .ok (.aload_n 0, 1) := by decide +kernel
theorem dX4_init_40 : decode cX4_init 40 = .ok (.bipush 60, 2) := by decide +kernel
theorem dX4_init_42 : decode cX4_init 42 = .ok (.newarray .boolean, 2) := by decide +kernel
theorem dX4_init_44 : decode cX4_init 44 = .ok (.putfield 22, 3) := by decide +kernel
theorem dX4_init_47 : decode cX4_init 47 = .ok (.aload_n 0, 1) := by decide +kernel
theorem dX4_init_48 : decode cX4_init 48 = .ok (.bipush 60, 2) := by decide +kernel
theorem dX4_init_50 : decode cX4_init 50 = .ok (.newarray .boolean, 2) := by decide +kernel
theorem dX4_init_52 : decode cX4_init 52 = .ok (.putfield 26, 3) := by decide +kernel
theorem dX4_init_55 : decode cX4_init 55 = .ok (.aload_n 0, 1) := by decide +kernel
theorem dX4_init_56 : decode cX4_init 56 = .ok (.bipush 60, 2) := by decide +kernel
theorem dX4_init_58 : decode cX4_init 58 = .ok (.newarray .long, 2) := by decide +kernel
theorem dX4_init_60 : decode cX4_init 60 = .ok (.putfield 29, 3) := by decide +kernel
theorem dX4_init_63 : decode cX4_init 63 = .ok (.aload_n 0, 1) := by decide +kernel
theorem dX4_init_64 : decode cX4_init 64 = .ok (.bipush 60, 2) := by decide +kernel
theorem dX4_init_66 : decode cX4_init 66 = .ok (.newarray .int, 2) := by decide +kernel
theorem dX4_init_68 : decode cX4_init 68 = .ok (.putfield 33, 3) := by decide +kernel
theorem dX4_init_71 : decode cX4_init 71 = .ok (.aload_n 0, 1) := by decide +kernel
theorem dX4_init_72 : decode cX4_init 72 = .ok (.bipush 60, 2) := by decide +kernel
theorem dX4_init_74 : decode cX4_init 74 = .ok (.newarray .long, 2) := by decide +kernel
theorem dX4_init_76 : decode cX4_init 76 = .ok (.putfield 36, 3) := by decide +kernel
theorem dX4_init_79 : decode cX4_init 79 = .ok (.aload_n 0, 1) := by decide +kernel
theorem dX4_init_80 : decode cX4_init 80 = .ok (.bipush 60, 2) := by decide +kernel
theorem dX4_init_82 : decode cX4_init 82 = .ok (.newarray .int, 2) := by decide +kernel
theorem dX4_init_84 : decode cX4_init 84 = .ok (.putfield 39, 3) := by decide +kernel
theorem dX4_init_87 : decode cX4_init 87 = .ok (.aload_n 0, 1) := by decide +kernel
theorem dX4_init_88 : decode cX4_init 88 = .ok (.sipush 720, 3) := by decide +kernel
theorem dX4_init_91 : decode cX4_init 91 = .ok (.newarray .int, 2) := by decide +kernel
theorem dX4_init_93 : decode cX4_init 93 = .ok (.putfield 42, 3) := by decide +kernel
theorem dX4_init_96 : decode cX4_init 96 = .ok (.aload_n 0, 1) := by decide +kernel
theorem dX4_init_97 : decode cX4_init 97 = .ok (.sipush 720, 3) := by decide +kernel
theorem dX4_init_100 : decode cX4_init 100 = .ok (.newarray .boolean, 2) := by decide +kernel
theorem dX4_init_102 : decode cX4_init 102 = .ok (.putfield 45, 3) := by decide +kernel
theorem dX4_init_105 : decode cX4_init 105 = .ok (.aload_n 0, 1) := by decide +kernel
theorem dX4_init_106 : decode cX4_init 106 = .ok (.bipush 60, 2) := by decide +kernel
theorem dX4_init_108 : decode cX4_init 108 = .ok (.newarray .int, 2) := by decide +kernel
theorem dX4_init_110 : decode cX4_init 110 = .ok (.putfield 48, 3) := by decide +kernel
theorem dX4_init_113 : decode cX4_init 113 = .ok (.aload_n 0, 1) := by decide +kernel
theorem dX4_init_114 : decode cX4_init 114 = .ok (.sipush 720, 3) := by decide +kernel
theorem dX4_init_117 : decode cX4_init 117 = .ok (.newarray .int, 2) := by decide +kernel
theorem dX4_init_119 : decode cX4_init 119 = .ok (.putfield 51, 3) := by decide +kernel
theorem dX4_init_122 : decode cX4_init 122 = .ok (.aload_n 0, 1) := by decide +kernel
theorem dX4_init_123 : decode cX4_init 123 = .ok (.bipush 60, 2) := by decide +kernel
theorem dX4_init_125 : decode cX4_init 125 = .ok (.newarray .int, 2) := by decide +kernel
theorem dX4_init_127 : decode cX4_init 127 = .ok (.putfield 54, 3) := by decide +kernel
theorem dX4_init_130 : decode cX4_init 130 = .ok (.aload_n 0, 1) := by decide +kernel
theorem dX4_init_131 : decode cX4_init 131 = .ok (.sipush 360, 3) := by decide +kernel
theorem dX4_init_134 : decode cX4_init 134 = .ok (.newarray .long, 2) := by decide +kernel
theorem dX4_init_136 : decode cX4_init 136 = .ok (.putfield 57, 3) := by decide +kernel
theorem dX4_init_139 : decode cX4_init 139 = .ok (.aload_n 0, 1) := by decide +kernel
theorem dX4_init_140 : decode cX4_init 140 = .ok (.ldc2_w 60, 3) := by decide +kernel
theorem dX4_init_143 : decode cX4_init 143 = .ok (.putfield 62, 3) := by decide +kernel
theorem dX4_init_146 : decode cX4_init 146 = .ok (.aload_n 0, 1) := by decide +kernel
theorem dX4_init_147 : decode cX4_init 147 = .ok (.sipush 2000, 3) := by decide +kernel
theorem dX4_init_150 : decode cX4_init 150 = .ok (.newarray .long, 2) := by decide +kernel
theorem dX4_init_152 : decode cX4_init 152 = .ok (.putfield 66, 3) := by decide +kernel
theorem dX4_init_155 : decode cX4_init 155 = .ok (.return_, 1) := by decide +kernel
theorem dX4_isBag_0 : decode cX4_isBag 0 = .ok (.iload_n 1, 1) := by decide +kernel
theorem dX4_isBag_1 : decode cX4_isBag 1 = .ok (.sipush 1000, 3) := by decide +kernel
theorem dX4_isBag_4 : decode cX4_isBag 4 = .ok (.if_icmp .le 19, 3) := by decide +kernel
theorem dX4_isBag_7 : decode cX4_isBag 7 = .ok (.iload_n 1, 1) := by decide +kernel
theorem dX4_isBag_8 : decode cX4_isBag 8 = .ok (.sipush 1000, 3) := by decide +kernel
theorem dX4_isBag_11 : decode cX4_isBag 11 = .ok (.aload_n 0, 1) := by decide +kernel
theorem dX4_isBag_12 : decode cX4_isBag 12 = .ok (.getfield 73, 3) := by decide +kernel
theorem dX4_isBag_15 : decode cX4_isBag 15 = .ok (.iadd, 1) := by decide +kernel
theorem dX4_isBag_16 : decode cX4_isBag 16 = .ok (.if_icmp .gt 7, 3) := by decide +kernel
theorem dX4_isBag_19 : decode cX4_isBag 19 = .ok (.iconst 1, 1) := by decide +kernel
theorem dX4_isBag_20 : decode cX4_isBag 20 = .ok (.goto 4, 3) := by decide +kernel
theorem dX4_isBag_23 : decode cX4_isBag 23 = .ok (.iconst 0, 1) := by decide +kernel
theorem dX4_isBag_24 : decode cX4_isBag 24 = .ok (.ireturn, 1) := by decide +kernel
theorem dX4_isThing_0 : decode cX4_isThing 0 = .ok (.iload_n 1, 1) := by decide +kernel
theorem dX4_isThing_1 : decode cX4_isThing 1 = .ok (.ifCond .le 10, 3) := by decide +kernel
theorem dX4_isThing_4 : decode cX4_isThing 4 = .ok (.iload_n 1, 1) := by decide +kernel
theorem dX4_isThing_5 : decode cX4_isThing 5 = .ok (.sipush 1000, 3) := by decide +kernel
theorem dX4_isThing_8 : decode cX4_isThing 8 = .ok (.if_icmp .lt 11, 3) := by decide +kernel
theorem dX4_isThing_11 : decode cX4_isThing 11 = .ok (.aload_n 0, 1) := by decide +kernel
theorem dX4_isThing_12 : decode cX4_isThing 12 = .ok (.iload_n 1, 1) := by decide +kernel
theorem dX4_isThing_13 : decode cX4_isThing 13 = .ok (.invokevirtual 76, 3) := by decide +kernel
theorem dX4_isThing_16 : decode cX4_isThing 16 = .ok (.ifCond .eq 7, 3) := by decide +kernel
theorem dX4_isThing_19 : decode cX4_isThing 19 = .ok (.iconst 1, 1) := by decide +kernel
theorem dX4_isThing_20 : decode cX4_isThing 20 = .ok (.goto 4, 3) := by decide +kernel
theorem dX4_isThing_23 : decode cX4_isThing 23 = .ok (.iconst 0, 1) := by decide +kernel
theorem dX4_isThing_24 : decode cX4_isThing 24 = .ok (.ireturn, 1) := by decide +kernel
theorem dX4_kindOf_0 : decode cX4_kindOf 0 = .ok (.iload_n 1, 1) := by decide +kernel
theorem dX4_kindOf_1 : decode cX4_kindOf 1 = .ok (.sipush 1000, 3) := by decide +kernel
theorem dX4_kindOf_4 : decode cX4_kindOf 4 = .ok (.if_icmp .le 16, 3) := by decide +kernel
theorem dX4_kindOf_7 : decode cX4_kindOf 7 = .ok (.aload_n 0, 1) := by decide +kernel
theorem dX4_kindOf_8 : decode cX4_kindOf 8 = .ok (.getfield 19, 3) := by decide +kernel
theorem dX4_kindOf_11 : decode cX4_kindOf 11 = .ok (.iload_n 1, 1) := by decide +kernel
theorem dX4_kindOf_12 : decode cX4_kindOf 12 = .ok (.sipush 1001, 3) := by decide +kernel
theorem dX4_kindOf_15 : decode cX4_kindOf 15 = .ok (.isub, 1) := by decide +kernel
theorem dX4_kindOf_16 : decode cX4_kindOf 16 = .ok (.iaload, 1) := by decide +kernel
theorem dX4_kindOf_17 : decode cX4_kindOf 17 = .ok (.goto 4, 3) := by decide +kernel
theorem dX4_kindOf_20 : decode cX4_kindOf 20 = .ok (.iconst (-1), 1) := by decide +kernel
theorem dX4_kindOf_21 : decode cX4_kindOf 21 = .ok (.ireturn, 1) := by decide +kernel
theorem dX4_outer_0 : decode cX4_outer 0 = .ok (.aload_n 0, 1) := by decide +kernel
theorem dX4_outer_1 : decode cX4_outer 1 = .ok (.getfield 7, 3) := by decide +kernel
theorem dX4_outer_4 : decode cX4_outer 4 = .ok (.iload_n 1, 1) := by decide +kernel
theorem dX4_outer_5 : decode cX4_outer 5 = .ok (.iaload, 1) := by decide +kernel
theorem dX4_outer_6 : decode cX4_outer 6 = .ok (.ireturn, 1) := by decide +kernel
theorem dX4_liesIn_0 : decode cX4_liesIn 0 = .ok (.iconst 0, 1) := by decide +kernel
theorem dX4_liesIn_1 : decode cX4_liesIn 1 = .ok (.istore_n 3, 1) := by decide +kernel
theorem dX4_liesIn_2 : decode cX4_liesIn 2 = .ok (.aload_n 0, 1) := by decide +kernel
theorem dX4_liesIn_3 : decode cX4_liesIn 3 = .ok (.getfield 7, 3) := by decide +kernel
theorem dX4_liesIn_6 : decode cX4_liesIn 6 = .ok (.iload_n 1, 1) := by decide +kernel
theorem dX4_liesIn_7 : decode cX4_liesIn 7 = .ok (.iaload, 1) := by decide +kernel
theorem dX4_liesIn_8 : decode cX4_liesIn 8 = .ok (.istore 4, 2) := by decide +kernel
theorem dX4_liesIn_10 : decode cX4_liesIn 10 = .ok (.iload 4, 2) := by decide +kernel
theorem dX4_liesIn_12 : decode cX4_liesIn 12 = .ok (.ifCond .eq 30, 3) := by decide +kernel
theorem dX4_liesIn_15 : decode cX4_liesIn 15 = .ok (.iload_n 3, 1) := by decide +kernel
theorem dX4_liesIn_16 : decode cX4_liesIn 16 = .ok (.ifCond .ne 9, 3) := by decide +kernel
theorem dX4_liesIn_19 : decode cX4_liesIn 19 = .ok (.iload 4, 2) := by decide +kernel
theorem dX4_liesIn_21 : decode cX4_liesIn 21 = .ok (.iload_n 2, 1) := by decide +kernel
theorem dX4_liesIn_22 : decode cX4_liesIn 22 = .ok (.if_icmp .ne 7, 3) := by decide +kernel
theorem dX4_liesIn_25 : decode cX4_liesIn 25 = .ok (.iconst 1, 1) := by decide +kernel
theorem dX4_liesIn_26 : decode cX4_liesIn 26 = .ok (.goto 4, 3) := by decide +kernel
theorem dX4_liesIn_29 : decode cX4_liesIn 29 = .ok (.iconst 0, 1) := by decide +kernel
theorem dX4_liesIn_30 : decode cX4_liesIn 30 = .ok (.istore_n 3, 1) := by decide +kernel
theorem dX4_liesIn_31 : decode cX4_liesIn 31 = .ok (.aload_n 0, 1) := by decide +kernel
theorem dX4_liesIn_32 : decode cX4_liesIn 32 = .ok (.iload 4, 2) := by decide +kernel
theorem dX4_liesIn_34 : decode cX4_liesIn 34 = .ok (.invokevirtual 80, 3) := by decide +kernel
theorem dX4_liesIn_37 : decode cX4_liesIn 37 = .ok (.istore 4, 2) := by decide +kernel
theorem dX4_liesIn_39 : decode cX4_liesIn 39 = .ok (.goto (-29), 3) := by decide +kernel
theorem dX4_liesIn_42 : decode cX4_liesIn 42 = .ok (.iload_n 3, 1) := by decide +kernel
theorem dX4_liesIn_43 : decode cX4_liesIn 43 = .ok (.ireturn, 1) := by decide +kernel
theorem dX4_isShutIn_0 : decode cX4_isShutIn 0 = .ok (.iconst 0, 1) := by decide +kernel
theorem dX4_isShutIn_1 : decode cX4_isShutIn 1 = .ok (.istore_n 2, 1) := by decide +kernel
theorem dX4_isShutIn_2 : decode cX4_isShutIn 2 = .ok (.aload_n 0, 1) := by decide +kernel
theorem dX4_isShutIn_3 : decode cX4_isShutIn 3 = .ok (.getfield 7, 3) := by decide +kernel
theorem dX4_isShutIn_6 : decode cX4_isShutIn 6 = .ok (.iload_n 1, 1) := by decide +kernel
theorem dX4_isShutIn_7 : decode cX4_isShutIn 7 = .ok (.iaload, 1) := by decide +kernel
theorem dX4_isShutIn_8 : decode cX4_isShutIn 8 = .ok (.istore_n 3, 1) := by decide +kernel
theorem dX4_isShutIn_9 : decode cX4_isShutIn 9 = .ok (.iload_n 3, 1) := by decide +kernel
theorem dX4_isShutIn_10 : decode cX4_isShutIn 10 = .ok (.ifCond .eq 35, 3) := by decide +kernel
theorem dX4_isShutIn_13 : decode cX4_isShutIn 13 = .ok (.iload_n 2, 1) := by decide +kernel
theorem dX4_isShutIn_14 : decode cX4_isShutIn 14 = .ok (.ifCond .ne 16, 3) := by decide +kernel
theorem dX4_isShutIn_17 : decode cX4_isShutIn 17 = .ok (.aload_n 0, 1) := by decide +kernel
theorem dX4_isShutIn_18 : decode cX4_isShutIn 18 = .ok (.getfield 22, 3) := by decide +kernel
theorem dX4_isShutIn_21 : decode cX4_isShutIn 21 = .ok (.iload_n 3, 1) := by decide +kernel
theorem dX4_isShutIn_22 : decode cX4_isShutIn 22 = .ok (.sipush 1001, 3) := by decide +kernel
theorem dX4_isShutIn_25 : decode cX4_isShutIn 25 = .ok (.isub, 1) := by decide +kernel
theorem dX4_isShutIn_26 : decode cX4_isShutIn 26 = .ok (.baload, 1) := by decide +kernel
theorem dX4_isShutIn_27 : decode cX4_isShutIn 27 = .ok (.ifCond .eq 7, 3) := by decide +kernel
theorem dX4_isShutIn_30 : decode cX4_isShutIn 30 = .ok (.iconst 1, 1) := by decide +kernel
theorem dX4_isShutIn_31 : decode cX4_isShutIn 31 = .ok (.goto 4, 3) := by decide +kernel
theorem dX4_isShutIn_34 : decode cX4_isShutIn 34 = .ok (.iconst 0, 1) := by decide +kernel
theorem dX4_isShutIn_35 : decode cX4_isShutIn 35 = .ok (.istore_n 2, 1) := by decide +kernel
theorem dX4_isShutIn_36 : decode cX4_isShutIn 36 = .ok (.aload_n 0, 1) := by decide +kernel
theorem dX4_isShutIn_37 : decode cX4_isShutIn 37 = .ok (.iload_n 3, 1) := by decide +kernel
theorem dX4_isShutIn_38 : decode cX4_isShutIn 38 = .ok (.invokevirtual 80, 3) := by decide +kernel
theorem dX4_isShutIn_41 : decode cX4_isShutIn 41 = .ok (.istore_n 3, 1) := by decide +kernel
theorem dX4_isShutIn_42 : decode cX4_isShutIn 42 = .ok (.goto (-33), 3) := by decide +kernel
theorem dX4_isShutIn_45 : decode cX4_isShutIn 45 = .ok (.iload_n 2, 1) := by decide +kernel
theorem dX4_isShutIn_46 : decode cX4_isShutIn 46 = .ok (.ireturn, 1) := by decide +kernel
theorem dX4_count_0 : decode cX4_count 0 = .ok (.iconst 0, 1) := by decide +kernel
theorem dX4_count_1 : decode cX4_count 1 = .ok (.istore_n 2, 1) := by decide +kernel
theorem dX4_count_2 : decode cX4_count 2 = .ok (.iconst 1, 1) := by decide +kernel
theorem dX4_count_3 : decode cX4_count 3 = .ok (.istore_n 3, 1) := by decide +kernel
theorem dX4_count_4 : decode cX4_count 4 = .ok (.iload_n 3, 1) := by decide +kernel
theorem dX4_count_5 : decode cX4_count 5 = .ok (.sipush 1061, 3) := by decide +kernel
theorem dX4_count_8 : decode cX4_count 8 = .ok (.if_icmp .ge 27, 3) := by decide +kernel
theorem dX4_count_11 : decode cX4_count 11 = .ok (.aload_n 0, 1) := by decide +kernel
theorem dX4_count_12 : decode cX4_count 12 = .ok (.getfield 7, 3) := by decide +kernel
theorem dX4_count_15 : decode cX4_count 15 = .ok (.iload_n 3, 1) := by decide +kernel
theorem dX4_count_16 : decode cX4_count 16 = .ok (.iaload, 1) := by decide +kernel
theorem dX4_count_17 : decode cX4_count 17 = .ok (.iload_n 1, 1) := by decide +kernel
theorem dX4_count_18 : decode cX4_count 18 = .ok (.if_icmp .ne 9, 3) := by decide +kernel
theorem dX4_count_21 : decode cX4_count 21 = .ok (.iload_n 2, 1) := by decide +kernel
theorem dX4_count_22 : decode cX4_count 22 = .ok (.iconst 1, 1) := by decide +kernel
theorem dX4_count_23 : decode cX4_count 23 = .ok (.iadd, 1) := by decide +kernel
theorem dX4_count_24 : decode cX4_count 24 = .ok (.goto 4, 3) := by decide +kernel
theorem dX4_count_27 : decode cX4_count 27 = .ok (.iload_n 2, 1) := by decide +kernel
theorem dX4_count_28 : decode cX4_count 28 = .ok (.istore_n 2, 1) := by decide +kernel
theorem dX4_count_29 : decode cX4_count 29 = .ok (.iinc 3 1, 3) := by decide +kernel
theorem dX4_count_32 : decode cX4_count 32 = .ok (.goto (-28), 3) := by decide +kernel
theorem dX4_count_35 : decode cX4_count 35 = .ok (.iload_n 2, 1) := by decide +kernel
theorem dX4_count_36 : decode cX4_count 36 = .ok (.ireturn, 1) := by decide +kernel
theorem dX4_put_0 : decode cX4_put 0 = .ok (.aload_n 0, 1) := by decide +kernel
theorem dX4_put_1 : decode cX4_put 1 = .ok (.getfield 7, 3) := by decide +kernel
theorem dX4_put_4 : decode cX4_put 4 = .ok (.iload_n 2, 1) := by decide +kernel
theorem dX4_put_5 : decode cX4_put 5 = .ok (.iload_n 1, 1) := by decide +kernel
theorem dX4_put_6 : decode cX4_put 6 = .ok (.iastore, 1) := by decide +kernel
theorem dX4_put_7 : decode cX4_put 7 = .ok (.aload_n 0, 1) := by decide +kernel
theorem dX4_put_8 : decode cX4_put 8 = .ok (.dup, 1) := by decide +kernel
theorem dX4_put_9 : decode cX4_put 9 = .ok (.getfield 84, 3) := by decide +kernel
theorem dX4_put_12 : decode cX4_put 12 = .ok (.iconst 1, 1) := by decide +kernel
theorem dX4_put_13 : decode cX4_put 13 = .ok (.iadd, 1) := by decide +kernel
theorem dX4_put_14 : decode cX4_put 14 = .ok (.putfield 84, 3) := by decide +kernel
theorem dX4_put_17 : decode cX4_put 17 = .ok (.aload_n 0, 1) := by decide +kernel
theorem dX4_put_18 : decode cX4_put 18 = .ok (.getfield 13, 3) := by decide +kernel
theorem dX4_put_21 : decode cX4_put 21 = .ok (.iload_n 2, 1) := by decide +kernel
theorem dX4_put_22 : decode cX4_put 22 = .ok (.aload_n 0, 1) := by decide +kernel
theorem dX4_put_23 : decode cX4_put 23 = .ok (.getfield 84, 3) := by decide +kernel
theorem dX4_put_26 : decode cX4_put 26 = .ok (.iastore, 1) := by decide +kernel
theorem dX4_put_27 : decode cX4_put 27 = .ok (.return_, 1) := by decide +kernel
theorem dX4_addNote_0 : decode cX4_addNote 0 = .ok (.aload_n 0, 1) := by decide +kernel
theorem dX4_addNote_1 : decode cX4_addNote 1 = .ok (.getfield 66, 3) := by decide +kernel
theorem dX4_addNote_4 : decode cX4_addNote 4 = .ok (.aload_n 0, 1) := by decide +kernel
theorem dX4_addNote_5 : decode cX4_addNote 5 = .ok (.getfield 87, 3) := by decide +kernel
theorem dX4_addNote_8 : decode cX4_addNote 8 = .ok (.aload_n 0, 1) := by decide +kernel
theorem dX4_addNote_9 : decode cX4_addNote 9 = .ok (.getfield 90, 3) := by decide +kernel
theorem dX4_addNote_12 : decode cX4_addNote 12 = .ok (.ldc2_w 93, 3) := by decide +kernel
theorem dX4_addNote_15 : decode cX4_addNote 15 = .ok (.ladd, 1) := by decide +kernel
theorem dX4_addNote_16 : decode cX4_addNote 16 = .ok (.lastore, 1) := by decide +kernel
theorem dX4_addNote_17 : decode cX4_addNote 17 = .ok (.aload_n 0, 1) := by decide +kernel
theorem dX4_addNote_18 : decode cX4_addNote 18 = .ok (.dup, 1) := by decide +kernel
theorem dX4_addNote_19 : decode cX4_addNote 19 = .ok (.getfield 87, 3) := by decide +kernel
theorem dX4_addNote_22 : decode cX4_addNote 22 = .ok (.iconst 1, 1) := by decide +kernel
theorem dX4_addNote_23 : decode cX4_addNote 23 = .ok (.iadd, 1) := by decide +kernel
theorem dX4_addNote_24 : decode cX4_addNote 24 = .ok (.putfield 87, 3) := by decide +kernel
theorem dX4_addNote_27 : decode cX4_addNote 27 = .ok (.return_, 1) := by decide +kernel
theorem dX4_bag_0 : decode cX4_bag 0 = .ok (.aload_n 0, 1) := by decide +kernel
theorem dX4_bag_1 : decode cX4_bag 1 = .ok (.iconst 0, 1) := by decide +kernel
theorem dX4_bag_2 : decode cX4_bag 2 = .ok (.putfield 69, 3) := by decide +kernel
theorem dX4_bag_5 : decode cX4_bag 5 = .ok (.iload_n 1, 1) := by decide +kernel
theorem dX4_bag_6 : decode cX4_bag 6 = .ok (.ifCond .lt 8, 3) := by decide +kernel
theorem dX4_bag_9 : decode cX4_bag 9 = .ok (.iload_n 1, 1) := by decide +kernel
theorem dX4_bag_10 : decode cX4_bag 10 = .ok (.iconst 3, 1) := by decide +kernel
theorem dX4_bag_11 : decode cX4_bag 11 = .ok (.if_icmp .le 6, 3) := by decide +kernel
theorem dX4_bag_14 : decode cX4_bag 14 = .ok (.bipush (-12), 2) := by decide +kernel
theorem dX4_bag_16 : decode cX4_bag 16 = .ok (.ireturn, 1) := by decide +kernel
theorem dX4_bag_17 : decode cX4_bag 17 = .ok (.aload_n 0, 1) := by decide +kernel
theorem dX4_bag_18 : decode cX4_bag 18 = .ok (.getfield 73, 3) := by decide +kernel
theorem dX4_bag_21 : decode cX4_bag 21 = .ok (.bipush 60, 2) := by decide +kernel
theorem dX4_bag_23 : decode cX4_bag 23 = .ok (.if_icmp .ne 6, 3) := by decide +kernel
theorem dX4_bag_26 : decode cX4_bag 26 = .ok (.bipush (-14), 2) := by decide +kernel
theorem dX4_bag_28 : decode cX4_bag 28 = .ok (.ireturn, 1) := by decide +kernel
theorem dX4_bag_29 : decode cX4_bag 29 = .ok (.aload_n 0, 1) := by decide +kernel
theorem dX4_bag_30 : decode cX4_bag 30 = .ok (.getfield 19, 3) := by decide +kernel
theorem dX4_bag_33 : decode cX4_bag 33 = .ok (.aload_n 0, 1) := by decide +kernel
theorem dX4_bag_34 : decode cX4_bag 34 = .ok (.getfield 73, 3) := by decide +kernel
theorem dX4_bag_37 : decode cX4_bag 37 = .ok (.iload_n 1, 1) := by decide +kernel
theorem dX4_bag_38 : decode cX4_bag 38 = .ok (.iastore, 1) := by decide +kernel
theorem dX4_bag_39 : decode cX4_bag 39 = .ok (.aload_n 0, 1) := by decide +kernel
theorem dX4_bag_40 : decode cX4_bag 40 = .ok (.dup, 1) := by decide +kernel
theorem dX4_bag_41 : decode cX4_bag 41 = .ok (.getfield 73, 3) := by decide +kernel
theorem dX4_bag_44 : decode cX4_bag 44 = .ok (.iconst 1, 1) := by decide +kernel
theorem dX4_bag_45 : decode cX4_bag 45 = .ok (.iadd, 1) := by decide +kernel
theorem dX4_bag_46 : decode cX4_bag 46 = .ok (.putfield 73, 3) := by decide +kernel
theorem dX4_bag_49 : decode cX4_bag 49 = .ok (.sipush 1000, 3) := by decide +kernel
theorem dX4_bag_52 : decode cX4_bag 52 = .ok (.aload_n 0, 1) := by decide +kernel
theorem dX4_bag_53 : decode cX4_bag 53 = .ok (.getfield 73, 3) := by decide +kernel
theorem dX4_bag_56 : decode cX4_bag 56 = .ok (.iadd, 1) := by decide +kernel
theorem dX4_bag_57 : decode cX4_bag 57 = .ok (.ireturn, 1) := by decide +kernel
theorem dX4_into_0 : decode cX4_into 0 = .ok (.aload_n 0, 1) := by decide +kernel
theorem dX4_into_1 : decode cX4_into 1 = .ok (.iconst 0, 1) := by decide +kernel
theorem dX4_into_2 : decode cX4_into 2 = .ok (.putfield 69, 3) := by decide +kernel
theorem dX4_into_5 : decode cX4_into 5 = .ok (.aload_n 0, 1) := by decide +kernel
theorem dX4_into_6 : decode cX4_into 6 = .ok (.iload_n 1, 1) := by decide +kernel
theorem dX4_into_7 : decode cX4_into 7 = .ok (.invokevirtual 76, 3) := by decide +kernel
theorem dX4_into_10 : decode cX4_into 10 = .ok (.ifCond .eq 11, 3) := by decide +kernel
theorem dX4_into_13 : decode cX4_into 13 = .ok (.aload_n 0, 1) := by decide +kernel
theorem dX4_into_14 : decode cX4_into 14 = .ok (.iload_n 2, 1) := by decide +kernel
theorem dX4_into_15 : decode cX4_into 15 = .ok (.invokevirtual 95, 3) := by decide +kernel
theorem dX4_into_18 : decode cX4_into 18 = .ok (.ifCond .ne 6, 3) := by decide +kernel
theorem dX4_into_21 : decode cX4_into 21 = .ok (.bipush (-11), 2) := by decide +kernel
theorem dX4_into_23 : decode cX4_into 23 = .ok (.ireturn, 1) := by decide +kernel
theorem dX4_into_24 : decode cX4_into 24 = .ok (.aload_n 0, 1) := by decide +kernel
theorem dX4_into_25 : decode cX4_into 25 = .ok (.getfield 22, 3) := by decide +kernel
theorem dX4_into_28 : decode cX4_into 28 = .ok (.iload_n 1, 1) := by decide +kernel
theorem dX4_into_29 : decode cX4_into 29 = .ok (.sipush 1001, 3) := by decide +kernel
theorem dX4_into_32 : decode cX4_into 32 = .ok (.isub, 1) := by decide +kernel
theorem dX4_into_33 : decode cX4_into 33 = .ok (.baload, 1) := by decide +kernel
theorem dX4_into_34 : decode cX4_into 34 = .ok (.ifCond .ne 53, 3) := by decide +kernel
theorem dX4_into_37 : decode cX4_into 37 = .ok (.aload_n 0, 1) := by decide +kernel
theorem dX4_into_38 : decode cX4_into 38 = .ok (.iload_n 1, 1) := by decide +kernel
theorem dX4_into_39 : decode cX4_into 39 = .ok (.invokevirtual 98, 3) := by decide +kernel
theorem dX4_into_42 : decode cX4_into 42 = .ok (.ifCond .ne 45, 3) := by decide +kernel
theorem dX4_into_45 : decode cX4_into 45 = .ok (.aload_n 0, 1) := by decide +kernel
theorem dX4_into_46 : decode cX4_into 46 = .ok (.getfield 7, 3) := by decide +kernel
theorem dX4_into_49 : decode cX4_into 49 = .ok (.iload_n 2, 1) := by decide +kernel
theorem dX4_into_50 : decode cX4_into 50 = .ok (.iaload, 1) := by decide +kernel
theorem dX4_into_51 : decode cX4_into 51 = .ok (.ifCond .ne 36, 3) := by decide +kernel
theorem dX4_into_54 : decode cX4_into 54 = .ok (.iload_n 2, 1) := by decide +kernel
theorem dX4_into_55 : decode cX4_into 55 = .ok (.iload_n 1, 1) := by decide +kernel
theorem dX4_into_56 : decode cX4_into 56 = .ok (.if_icmp .eq 31, 3) := by decide +kernel
theorem dX4_into_59 : decode cX4_into 59 = .ok (.aload_n 0, 1) := by decide +kernel
theorem dX4_into_60 : decode cX4_into 60 = .ok (.iload_n 2, 1) := by decide +kernel
theorem dX4_into_61 : decode cX4_into 61 = .ok (.invokevirtual 101, 3) := by decide +kernel
theorem dX4_into_64 : decode cX4_into 64 = .ok (.aload_n 0, 1) := by decide +kernel
theorem dX4_into_65 : decode cX4_into 65 = .ok (.iload_n 1, 1) := by decide +kernel
theorem dX4_into_66 : decode cX4_into 66 = .ok (.invokevirtual 101, 3) := by decide +kernel
theorem dX4_into_69 : decode cX4_into 69 = .ok (.if_icmp .ge 18, 3) := by decide +kernel
theorem dX4_into_72 : decode cX4_into 72 = .ok (.aload_n 0, 1) := by decide +kernel
theorem dX4_into_73 : decode cX4_into 73 = .ok (.getfield 16, 3) := by decide +kernel
theorem dX4_into_76 : decode cX4_into 76 = .ok (.iload_n 2, 1) := by decide +kernel
theorem dX4_into_77 : decode cX4_into 77 = .ok (.iaload, 1) := by decide +kernel
theorem dX4_into_78 : decode cX4_into 78 = .ok (.aload_n 0, 1) := by decide +kernel
theorem dX4_into_79 : decode cX4_into 79 = .ok (.getfield 16, 3) := by decide +kernel
theorem dX4_into_82 : decode cX4_into 82 = .ok (.iload_n 1, 1) := by decide +kernel
theorem dX4_into_83 : decode cX4_into 83 = .ok (.iaload, 1) := by decide +kernel
theorem dX4_into_84 : decode cX4_into 84 = .ok (.if_icmp .eq 6, 3) := by decide +kernel
theorem dX4_into_87 : decode cX4_into 87 = .ok (.bipush (-13), 2) := by decide +kernel
theorem dX4_into_89 : decode cX4_into 89 = .ok (.ireturn, 1) := by decide +kernel
theorem dX4_into_90 : decode cX4_into 90 = .ok (.aload_n 0, 1) := by decide +kernel
theorem dX4_into_91 : decode cX4_into 91 = .ok (.iload_n 1, 1) := by decide +kernel
theorem dX4_into_92 : decode cX4_into 92 = .ok (.invokevirtual 104, 3) := by decide +kernel
theorem dX4_into_95 : decode cX4_into 95 = .ok (.bipush 12, 2) := by decide +kernel
theorem dX4_into_97 : decode cX4_into 97 = .ok (.if_icmp .ne 6, 3) := by decide +kernel
theorem dX4_into_100 : decode cX4_into 100 = .ok (.bipush (-14), 2) := by decide +kernel
theorem dX4_into_102 : decode cX4_into 102 = .ok (.ireturn, 1) := by decide +kernel
theorem dX4_into_103 : decode cX4_into 103 = .ok (.aload_n 0, 1) := by decide +kernel
theorem dX4_into_104 : decode cX4_into 104 = .ok (.iload_n 1, 1) := by decide +kernel
theorem dX4_into_105 : decode cX4_into 105 = .ok (.iload_n 2, 1) := by decide +kernel
theorem dX4_into_106 : decode cX4_into 106 = .ok (.invokevirtual 107, 3) := by decide +kernel
theorem dX4_into_109 : decode cX4_into 109 = .ok (.iconst 1, 1) := by decide +kernel
theorem dX4_into_110 : decode cX4_into 110 = .ok (.ireturn, 1) := by decide +kernel
theorem dX4_take_0 : decode cX4_take 0 = .ok (.aload_n 0, 1) := by decide +kernel
theorem dX4_take_1 : decode cX4_take 1 = .ok (.iconst 0, 1) := by decide +kernel
theorem dX4_take_2 : decode cX4_take 2 = .ok (.putfield 69, 3) := by decide +kernel
theorem dX4_take_5 : decode cX4_take 5 = .ok (.aload_n 0, 1) := by decide +kernel
theorem dX4_take_6 : decode cX4_take 6 = .ok (.iload_n 1, 1) := by decide +kernel
theorem dX4_take_7 : decode cX4_take 7 = .ok (.invokevirtual 95, 3) := by decide +kernel
theorem dX4_take_10 : decode cX4_take 10 = .ok (.ifCond .ne 6, 3) := by decide +kernel
theorem dX4_take_13 : decode cX4_take 13 = .ok (.bipush (-11), 2) := by decide +kernel
theorem dX4_take_15 : decode cX4_take 15 = .ok (.ireturn, 1) := by decide +kernel
theorem dX4_take_16 : decode cX4_take 16 = .ok (.aload_n 0, 1) := by decide +kernel
theorem dX4_take_17 : decode cX4_take 17 = .ok (.getfield 7, 3) := by decide +kernel
theorem dX4_take_20 : decode cX4_take 20 = .ok (.iload_n 1, 1) := by decide +kernel
theorem dX4_take_21 : decode cX4_take 21 = .ok (.iaload, 1) := by decide +kernel
theorem dX4_take_22 : decode cX4_take 22 = .ok (.ifCond .eq 11, 3) := by decide +kernel
theorem dX4_take_25 : decode cX4_take 25 = .ok (.aload_n 0, 1) := by decide +kernel
theorem dX4_take_26 : decode cX4_take 26 = .ok (.iload_n 1, 1) := by decide +kernel
theorem dX4_take_27 : decode cX4_take 27 = .ok (.invokevirtual 98, 3) := by decide +kernel
theorem dX4_take_30 : decode cX4_take 30 = .ok (.ifCond .eq 6, 3) := by decide +kernel
theorem dX4_take_33 : decode cX4_take 33 = .ok (.bipush (-13), 2) := by decide +kernel
theorem dX4_take_35 : decode cX4_take 35 = .ok (.ireturn, 1) := by decide +kernel
theorem dX4_take_36 : decode cX4_take 36 = .ok (.aload_n 0, 1) := by decide +kernel
theorem dX4_take_37 : decode cX4_take 37 = .ok (.getfield 7, 3) := by decide +kernel
theorem dX4_take_40 : decode cX4_take 40 = .ok (.iload_n 1, 1) := by decide +kernel
theorem dX4_take_41 : decode cX4_take 41 = .ok (.iaload, 1) := by decide +kernel
theorem dX4_take_42 : decode cX4_take 42 = .ok (.istore_n 2, 1) := by decide +kernel
theorem dX4_take_43 : decode cX4_take 43 = .ok (.aload_n 0, 1) := by decide +kernel
theorem dX4_take_44 : decode cX4_take 44 = .ok (.getfield 7, 3) := by decide +kernel
theorem dX4_take_47 : decode cX4_take 47 = .ok (.iload_n 1, 1) := by decide +kernel
theorem dX4_take_48 : decode cX4_take 48 = .ok (.iconst 0, 1) := by decide +kernel
theorem dX4_take_49 : decode cX4_take 49 = .ok (.iastore, 1) := by decide +kernel
theorem dX4_take_50 : decode cX4_take 50 = .ok (.iload_n 2, 1) := by decide +kernel
theorem dX4_take_51 : decode cX4_take 51 = .ok (.ireturn, 1) := by decide +kernel
theorem dX4_close_0 : decode cX4_close 0 = .ok (.aload_n 0, 1) := by decide +kernel
theorem dX4_close_1 : decode cX4_close 1 = .ok (.iconst 0, 1) := by decide +kernel
theorem dX4_close_2 : decode cX4_close 2 = .ok (.putfield 69, 3) := by decide +kernel
theorem dX4_close_5 : decode cX4_close 5 = .ok (.aload_n 0, 1) := by decide +kernel
theorem dX4_close_6 : decode cX4_close 6 = .ok (.iload_n 1, 1) := by decide +kernel
theorem dX4_close_7 : decode cX4_close 7 = .ok (.invokevirtual 76, 3) := by decide +kernel
theorem dX4_close_10 : decode cX4_close 10 = .ok (.ifCond .ne 6, 3) := by decide +kernel
theorem dX4_close_13 : decode cX4_close 13 = .ok (.bipush (-11), 2) := by decide +kernel
theorem dX4_close_15 : decode cX4_close 15 = .ok (.ireturn, 1) := by decide +kernel
theorem dX4_close_16 : decode cX4_close 16 = .ok (.lload_n 2, 1) := by decide +kernel
theorem dX4_close_17 : decode cX4_close 17 = .ok (.lconst 1, 1) := by decide +kernel
theorem dX4_close_18 : decode cX4_close 18 = .ok (.lcmp, 1) := by decide +kernel
theorem dX4_close_19 : decode cX4_close 19 = .ok (.ifCond .lt 23, 3) := by decide +kernel
theorem dX4_close_22 : decode cX4_close 22 = .ok (.lload_n 2, 1) := by decide +kernel
theorem dX4_close_23 : decode cX4_close 23 = .ok (.ldc2_w 111, 3) := by decide +kernel
theorem dX4_close_26 : decode cX4_close 26 = .ok (.lcmp, 1) := by decide +kernel
theorem dX4_close_27 : decode cX4_close 27 = .ok (.ifCond .gt 15, 3) := by decide +kernel
theorem dX4_close_30 : decode cX4_close 30 = .ok (.iload 4, 2) := by decide +kernel
theorem dX4_close_32 : decode cX4_close 32 = .ok (.ifCond .lt 10, 3) := by decide +kernel
theorem dX4_close_35 : decode cX4_close 35 = .ok (.iload 4, 2) := by decide +kernel
theorem dX4_close_37 : decode cX4_close 37 = .ok (.bipush 49, 2) := by decide +kernel
theorem dX4_close_39 : decode cX4_close 39 = .ok (.if_icmp .le 6, 3) := by decide +kernel
theorem dX4_close_42 : decode cX4_close 42 = .ok (.bipush (-12), 2) := by decide +kernel
theorem dX4_close_44 : decode cX4_close 44 = .ok (.ireturn, 1) := by decide +kernel
theorem dX4_close_45 : decode cX4_close 45 = .ok (.iload_n 1, 1) := by decide +kernel
theorem dX4_close_46 : decode cX4_close 46 = .ok (.sipush 1001, 3) := by decide +kernel
theorem dX4_close_49 : decode cX4_close 49 = .ok (.isub, 1) := by decide +kernel
theorem dX4_close_50 : decode cX4_close 50 = .ok (.istore 5, 2) := by decide +kernel
theorem dX4_close_52 : decode cX4_close 52 = .ok (.aload_n 0, 1) := by decide +kernel
theorem dX4_close_53 : decode cX4_close 53 = .ok (.getfield 22, 3) := by decide +kernel
theorem dX4_close_56 : decode cX4_close 56 = .ok (.iload 5, 2) := by decide +kernel
theorem dX4_close_58 : decode cX4_close 58 = .ok (.baload, 1) := by decide +kernel
theorem dX4_close_59 : decode cX4_close 59 = .ok (.ifCond .ne 11, 3) := by decide +kernel
theorem dX4_close_62 : decode cX4_close 62 = .ok (.aload_n 0, 1) := by decide +kernel
theorem dX4_close_63 : decode cX4_close 63 = .ok (.iload_n 1, 1) := by decide +kernel
theorem dX4_close_64 : decode cX4_close 64 = .ok (.invokevirtual 98, 3) := by decide +kernel
theorem dX4_close_67 : decode cX4_close 67 = .ok (.ifCond .eq 6, 3) := by decide +kernel
theorem dX4_close_70 : decode cX4_close 70 = .ok (.bipush (-13), 2) := by decide +kernel
theorem dX4_close_72 : decode cX4_close 72 = .ok (.ireturn, 1) := by decide +kernel
theorem dX4_close_73 : decode cX4_close 73 = .ok (.aload_n 0, 1) := by decide +kernel
theorem dX4_close_74 : decode cX4_close 74 = .ok (.getfield 22, 3) := by decide +kernel
theorem dX4_close_77 : decode cX4_close 77 = .ok (.iload 5, 2) := by decide +kernel
theorem dX4_close_79 : decode cX4_close 79 = .ok (.iconst 1, 1) := by decide +kernel
theorem dX4_close_80 : decode cX4_close 80 = .ok (.bastore, 1) := by decide +kernel
theorem dX4_close_81 : decode cX4_close 81 = .ok (.aload_n 0, 1) := by decide +kernel
theorem dX4_close_82 : decode cX4_close 82 = .ok (.getfield 26, 3) := by decide +kernel
theorem dX4_close_85 : decode cX4_close 85 = .ok (.iload 5, 2) := by decide +kernel
theorem dX4_close_87 : decode cX4_close 87 = .ok (.iconst 0, 1) := by decide +kernel
theorem dX4_close_88 : decode cX4_close 88 = .ok (.bastore, 1) := by decide +kernel
theorem dX4_close_89 : decode cX4_close 89 = .ok (.aload_n 0, 1) := by decide +kernel
theorem dX4_close_90 : decode cX4_close 90 = .ok (.getfield 29, 3) := by decide +kernel
theorem dX4_close_93 : decode cX4_close 93 = .ok (.iload 5, 2) := by decide +kernel
theorem dX4_close_95 : decode cX4_close 95 = .ok (.lload_n 2, 1) := by decide +kernel
theorem dX4_close_96 : decode cX4_close 96 = .ok (.lastore, 1) := by decide +kernel
theorem dX4_close_97 : decode cX4_close 97 = .ok (.aload_n 0, 1) := by decide +kernel
theorem dX4_close_98 : decode cX4_close 98 = .ok (.getfield 33, 3) := by decide +kernel
theorem dX4_close_101 : decode cX4_close 101 = .ok (.iload 5, 2) := by decide +kernel
theorem dX4_close_103 : decode cX4_close 103 = .ok (.iload 4, 2) := by decide +kernel
theorem dX4_close_105 : decode cX4_close 105 = .ok (.iastore, 1) := by decide +kernel
theorem dX4_close_106 : decode cX4_close 106 = .ok (.aload_n 0, 1) := by decide +kernel
theorem dX4_close_107 : decode cX4_close 107 = .ok (.getfield 54, 3) := by decide +kernel
theorem dX4_close_110 : decode cX4_close 110 = .ok (.iload 5, 2) := by decide +kernel
theorem dX4_close_112 : decode cX4_close 112 = .ok (.iconst 0, 1) := by decide +kernel
theorem dX4_close_113 : decode cX4_close 113 = .ok (.iastore, 1) := by decide +kernel
theorem dX4_close_114 : decode cX4_close 114 = .ok (.iconst 0, 1) := by decide +kernel
theorem dX4_close_115 : decode cX4_close 115 = .ok (.istore 6, 2) := by decide +kernel
theorem dX4_close_117 : decode cX4_close 117 = .ok (.iconst 0, 1) := by decide +kernel
theorem dX4_close_118 : decode cX4_close 118 = .ok (.istore 7, 2) := by decide +kernel
theorem dX4_close_120 : decode cX4_close 120 = .ok (.iconst 1, 1) := by decide +kernel
theorem dX4_close_121 : decode cX4_close 121 = .ok (.istore 8, 2) := by decide +kernel
theorem dX4_close_123 : decode cX4_close 123 = .ok (.iload 8, 2) := by decide +kernel
theorem dX4_close_125 : decode cX4_close 125 = .ok (.ifCond .eq 136, 3) := by decide +kernel
theorem dX4_close_128 : decode cX4_close 128 = .ok (.iconst 0, 1) := by decide +kernel
theorem dX4_close_129 : decode cX4_close 129 = .ok (.istore 9, 2) := by decide +kernel
theorem dX4_close_131 : decode cX4_close 131 = .ok (.iconst 1, 1) := by decide +kernel
theorem dX4_close_132 : decode cX4_close 132 = .ok (.istore 10, 2) := by decide +kernel
theorem dX4_close_134 : decode cX4_close 134 = .ok (.iload 10, 2) := by decide +kernel
theorem dX4_close_136 : decode cX4_close 136 = .ok (.sipush 1061, 3) := by decide +kernel
theorem dX4_close_139 : decode cX4_close 139 = .ok (.if_icmp .ge 75, 3) := by decide +kernel
theorem dX4_close_142 : decode cX4_close 142 = .ok (.aload_n 0, 1) := by decide +kernel
theorem dX4_close_143 : decode cX4_close 143 = .ok (.getfield 7, 3) := by decide +kernel
theorem dX4_close_146 : decode cX4_close 146 = .ok (.iload 10, 2) := by decide +kernel
theorem dX4_close_148 : decode cX4_close 148 = .ok (.iaload, 1) := by decide +kernel
theorem dX4_close_149 : decode cX4_close 149 = .ok (.iload_n 1, 1) := by decide +kernel
theorem dX4_close_150 : decode cX4_close 150 = .ok (.if_icmp .ne 19, 3) := by decide +kernel
theorem dX4_close_153 : decode cX4_close 153 = .ok (.aload_n 0, 1) := by decide +kernel
theorem dX4_close_154 : decode cX4_close 154 = .ok (.getfield 13, 3) := by decide +kernel
theorem dX4_close_157 : decode cX4_close 157 = .ok (.iload 10, 2) := by decide +kernel
theorem dX4_close_159 : decode cX4_close 159 = .ok (.iaload, 1) := by decide +kernel
theorem dX4_close_160 : decode cX4_close 160 = .ok (.iload 7, 2) := by decide +kernel
theorem dX4_close_162 : decode cX4_close 162 = .ok (.if_icmp .le 7, 3) := by decide +kernel
theorem dX4_close_165 : decode cX4_close 165 = .ok (.iconst 1, 1) := by decide +kernel
theorem dX4_close_166 : decode cX4_close 166 = .ok (.goto 4, 3) := by decide +kernel
theorem dX4_close_169 : decode cX4_close 169 = .ok (.iconst 0, 1) := by decide +kernel
theorem dX4_close_170 : decode cX4_close 170 = .ok (.istore 11, 2) := by decide +kernel
theorem dX4_close_172 : decode cX4_close 172 = .ok (.iload 11, 2) := by decide +kernel
theorem dX4_close_174 : decode cX4_close 174 = .ok (.ifCond .eq 30, 3) := by decide +kernel
theorem dX4_close_177 : decode cX4_close 177 = .ok (.iload 9, 2) := by decide +kernel
theorem dX4_close_179 : decode cX4_close 179 = .ok (.ifCond .eq 20, 3) := by decide +kernel
theorem dX4_close_182 : decode cX4_close 182 = .ok (.aload_n 0, 1) := by decide +kernel
theorem dX4_close_183 : decode cX4_close 183 = .ok (.getfield 13, 3) := by decide +kernel
theorem dX4_close_186 : decode cX4_close 186 = .ok (.iload 10, 2) := by decide +kernel
theorem dX4_close_188 : decode cX4_close 188 = .ok (.iaload, 1) := by decide +kernel
theorem dX4_close_189 : decode cX4_close 189 = .ok (.aload_n 0, 1) := by decide +kernel
theorem dX4_close_190 : decode cX4_close 190 = .ok (.getfield 13, 3) := by decide +kernel
theorem dX4_close_193 : decode cX4_close 193 = .ok (.iload 9, 2) := by decide +kernel
theorem dX4_close_195 : decode cX4_close 195 = .ok (.iaload, 1) := by decide +kernel
theorem dX4_close_196 : decode cX4_close 196 = .ok (.if_icmp .ge 8, 3) := by decide +kernel
theorem dX4_close_199 : decode cX4_close 199 = .ok (.iload 10, 2) := by decide +kernel
theorem dX4_close_201 : decode cX4_close 201 = .ok (.goto 5, 3) := by decide +kernel
theorem dX4_close_204 : decode cX4_close 204 = .ok (.iload 9, 2) := by decide +kernel
theorem dX4_close_206 : decode cX4_close 206 = .ok (.istore 9, 2) := by decide +kernel
theorem dX4_close_208 : decode cX4_close 208 = .ok (.iinc 10 1, 3) := by decide +kernel
theorem dX4_close_211 : decode cX4_close 211 = .ok (.goto (-77), 3) := by decide +kernel
theorem dX4_close_214 : decode cX4_close 214 = .ok (.iload 9, 2) := by decide +kernel
theorem dX4_close_216 : decode cX4_close 216 = .ok (.ifCond .eq 7, 3) := by decide +kernel
theorem dX4_close_219 : decode cX4_close 219 = .ok (.iconst 1, 1) := by decide +kernel
theorem dX4_close_220 : decode cX4_close 220 = .ok (.goto 4, 3) := by decide +kernel
theorem dX4_close_223 : decode cX4_close 223 = .ok (.iconst 0, 1) := by decide +kernel
theorem dX4_close_224 : decode cX4_close 224 = .ok (.istore 8, 2) := by decide +kernel
theorem dX4_close_226 : decode cX4_close 226 = .ok (.iload 8, 2) := by decide +kernel
theorem dX4_close_228 : decode cX4_close 228 = .ok (.ifCond .eq 30, 3) := by decide +kernel
theorem dX4_close_231 : decode cX4_close 231 = .ok (.aload_n 0, 1) := by decide +kernel
theorem dX4_close_232 : decode cX4_close 232 = .ok (.getfield 42, 3) := by decide +kernel
theorem dX4_close_235 : decode cX4_close 235 = .ok (.bipush 12, 2) := by decide +kernel
theorem dX4_close_237 : decode cX4_close 237 = .ok (.iload 5, 2) := by decide +kernel
theorem dX4_close_239 : decode cX4_close 239 = .ok (.imul, 1) := by decide +kernel
theorem dX4_close_240 : decode cX4_close 240 = .ok (.iload 6, 2) := by decide +kernel
theorem dX4_close_242 : decode cX4_close 242 = .ok (.iadd, 1) := by decide +kernel
theorem dX4_close_243 : decode cX4_close 243 = .ok (.iload 9, 2) := by decide +kernel
theorem dX4_close_245 : decode cX4_close 245 = .ok (.iastore, 1) := by decide +kernel
theorem dX4_close_246 : decode cX4_close 246 = .ok (.aload_n 0, 1) := by decide +kernel
theorem dX4_close_247 : decode cX4_close 247 = .ok (.getfield 13, 3) := by decide +kernel
theorem dX4_close_250 : decode cX4_close 250 = .ok (.iload 9, 2) := by decide +kernel
theorem dX4_close_252 : decode cX4_close 252 = .ok (.iaload, 1) := by decide +kernel
theorem dX4_close_253 : decode cX4_close 253 = .ok (.istore 7, 2) := by decide +kernel
theorem dX4_close_255 : decode cX4_close 255 = .ok (.iinc 6 1, 3) := by decide +kernel
theorem dX4_close_258 : decode cX4_close 258 = .ok (.goto (-135), 3) := by decide +kernel
theorem dX4_close_261 : decode cX4_close 261 = .ok (.aload_n 0, 1) := by decide +kernel
theorem dX4_close_262 : decode cX4_close 262 = .ok (.getfield 39, 3) := by decide +kernel
theorem dX4_close_265 : decode cX4_close 265 = .ok (.iload 5, 2) := by decide +kernel
theorem dX4_close_267 : decode cX4_close 267 = .ok (.iload 6, 2) := by decide +kernel
theorem dX4_close_269 : decode cX4_close 269 = .ok (.iastore, 1) := by decide +kernel
theorem dX4_close_270 : decode cX4_close 270 = .ok (.iload 6, 2) := by decide +kernel
theorem dX4_close_272 : decode cX4_close 272 = .ok (.ireturn, 1) := by decide +kernel
theorem dX4_open_0 : decode cX4_open 0 = .ok (.aload_n 0, 1) := by decide +kernel
theorem dX4_open_1 : decode cX4_open 1 = .ok (.iconst 0, 1) := by decide +kernel
theorem dX4_open_2 : decode cX4_open 2 = .ok (.putfield 69, 3) := by decide +kernel
theorem dX4_open_5 : decode cX4_open 5 = .ok (.aload_n 0, 1) := by decide +kernel
theorem dX4_open_6 : decode cX4_open 6 = .ok (.iload_n 1, 1) := by decide +kernel
theorem dX4_open_7 : decode cX4_open 7 = .ok (.invokevirtual 76, 3) := by decide +kernel
theorem dX4_open_10 : decode cX4_open 10 = .ok (.ifCond .ne 6, 3) := by decide +kernel
theorem dX4_open_13 : decode cX4_open 13 = .ok (.bipush (-11), 2) := by decide +kernel
theorem dX4_open_15 : decode cX4_open 15 = .ok (.ireturn, 1) := by decide +kernel
theorem dX4_open_16 : decode cX4_open 16 = .ok (.lload_n 2, 1) := by decide +kernel
theorem dX4_open_17 : decode cX4_open 17 = .ok (.lconst 1, 1) := by decide +kernel
theorem dX4_open_18 : decode cX4_open 18 = .ok (.lcmp, 1) := by decide +kernel
theorem dX4_open_19 : decode cX4_open 19 = .ok (.ifCond .lt 36, 3) := by decide +kernel
theorem dX4_open_22 : decode cX4_open 22 = .ok (.lload_n 2, 1) := by decide +kernel
theorem dX4_open_23 : decode cX4_open 23 = .ok (.ldc2_w 111, 3) := by decide +kernel
theorem dX4_open_26 : decode cX4_open 26 = .ok (.lcmp, 1) := by decide +kernel
theorem dX4_open_27 : decode cX4_open 27 = .ok (.ifCond .gt 28, 3) := by decide +kernel
theorem dX4_open_30 : decode cX4_open 30 = .ok (.iload 4, 2) := by decide +kernel
theorem dX4_open_32 : decode cX4_open 32 = .ok (.ifCond .lt 23, 3) := by decide +kernel
theorem dX4_open_35 : decode cX4_open 35 = .ok (.iload 4, 2) := by decide +kernel
theorem dX4_open_37 : decode cX4_open 37 = .ok (.bipush 49, 2) := by decide +kernel
theorem dX4_open_39 : decode cX4_open 39 = .ok (.if_icmp .gt 16, 3) := by decide +kernel
theorem dX4_open_42 : decode cX4_open 42 = .ok (.iload 5, 2) := by decide +kernel
theorem dX4_open_44 : decode cX4_open 44 = .ok (.iconst (-1), 1) := by decide +kernel
theorem dX4_open_45 : decode cX4_open 45 = .ok (.if_icmp .lt 10, 3) := by decide +kernel
theorem dX4_open_48 : decode cX4_open 48 = .ok (.iload 5, 2) := by decide +kernel
theorem dX4_open_50 : decode cX4_open 50 = .ok (.bipush 49, 2) := by decide +kernel
theorem dX4_open_52 : decode cX4_open 52 = .ok (.if_icmp .le 6, 3) := by decide +kernel
theorem dX4_open_55 : decode cX4_open 55 = .ok (.bipush (-12), 2) := by decide +kernel
theorem dX4_open_57 : decode cX4_open 57 = .ok (.ireturn, 1) := by decide +kernel
theorem dX4_open_58 : decode cX4_open 58 = .ok (.iload_n 1, 1) := by decide +kernel
theorem dX4_open_59 : decode cX4_open 59 = .ok (.sipush 1001, 3) := by decide +kernel
theorem dX4_open_62 : decode cX4_open 62 = .ok (.isub, 1) := by decide +kernel
theorem dX4_open_63 : decode cX4_open 63 = .ok (.istore 6, 2) := by decide +kernel
theorem dX4_open_65 : decode cX4_open 65 = .ok (.aload_n 0, 1) := by decide +kernel
theorem dX4_open_66 : decode cX4_open 66 = .ok (.getfield 19, 3) := by decide +kernel
theorem dX4_open_69 : decode cX4_open 69 = .ok (.iload 6, 2) := by decide +kernel
theorem dX4_open_71 : decode cX4_open 71 = .ok (.iaload, 1) := by decide +kernel
theorem dX4_open_72 : decode cX4_open 72 = .ok (.iconst 2, 1) := by decide +kernel
theorem dX4_open_73 : decode cX4_open 73 = .ok (.if_icmp .ge 29, 3) := by decide +kernel
theorem dX4_open_76 : decode cX4_open 76 = .ok (.iload 5, 2) := by decide +kernel
theorem dX4_open_78 : decode cX4_open 78 = .ok (.iconst (-1), 1) := by decide +kernel
theorem dX4_open_79 : decode cX4_open 79 = .ok (.if_icmp .ne 19, 3) := by decide +kernel
theorem dX4_open_82 : decode cX4_open 82 = .ok (.iload 4, 2) := by decide +kernel
theorem dX4_open_84 : decode cX4_open 84 = .ok (.aload_n 0, 1) := by decide +kernel
theorem dX4_open_85 : decode cX4_open 85 = .ok (.getfield 33, 3) := by decide +kernel
theorem dX4_open_88 : decode cX4_open 88 = .ok (.iload 6, 2) := by decide +kernel
theorem dX4_open_90 : decode cX4_open 90 = .ok (.iaload, 1) := by decide +kernel
theorem dX4_open_91 : decode cX4_open 91 = .ok (.if_icmp .eq 7, 3) := by decide +kernel
theorem dX4_open_94 : decode cX4_open 94 = .ok (.iconst 1, 1) := by decide +kernel
theorem dX4_open_95 : decode cX4_open 95 = .ok (.goto 25, 3) := by decide +kernel
theorem dX4_open_98 : decode cX4_open 98 = .ok (.iconst 0, 1) := by decide +kernel
theorem dX4_open_99 : decode cX4_open 99 = .ok (.goto 21, 3) := by decide +kernel
theorem dX4_open_102 : decode cX4_open 102 = .ok (.iload 5, 2) := by decide +kernel
theorem dX4_open_104 : decode cX4_open 104 = .ok (.iconst (-1), 1) := by decide +kernel
theorem dX4_open_105 : decode cX4_open 105 = .ok (.if_icmp .eq 14, 3) := by decide +kernel
theorem dX4_open_108 : decode cX4_open 108 = .ok (.iload 4, 2) := by decide +kernel
theorem dX4_open_110 : decode cX4_open 110 = .ok (.iload 5, 2) := by decide +kernel
theorem dX4_open_112 : decode cX4_open 112 = .ok (.if_icmp .eq 7, 3) := by decide +kernel
theorem dX4_open_115 : decode cX4_open 115 = .ok (.iconst 1, 1) := by decide +kernel
theorem dX4_open_116 : decode cX4_open 116 = .ok (.goto 4, 3) := by decide +kernel
theorem dX4_open_119 : decode cX4_open 119 = .ok (.iconst 0, 1) := by decide +kernel
theorem dX4_open_120 : decode cX4_open 120 = .ok (.istore 7, 2) := by decide +kernel
theorem dX4_open_122 : decode cX4_open 122 = .ok (.aload_n 0, 1) := by decide +kernel
theorem dX4_open_123 : decode cX4_open 123 = .ok (.getfield 22, 3) := by decide +kernel
theorem dX4_open_126 : decode cX4_open 126 = .ok (.iload 6, 2) := by decide +kernel
theorem dX4_open_128 : decode cX4_open 128 = .ok (.baload, 1) := by decide +kernel
theorem dX4_open_129 : decode cX4_open 129 = .ok (.ifCond .eq 16, 3) := by decide +kernel
theorem dX4_open_132 : decode cX4_open 132 = .ok (.aload_n 0, 1) := by decide +kernel
theorem dX4_open_133 : decode cX4_open 133 = .ok (.iload_n 1, 1) := by decide +kernel
theorem dX4_open_134 : decode cX4_open 134 = .ok (.invokevirtual 98, 3) := by decide +kernel
theorem dX4_open_137 : decode cX4_open 137 = .ok (.ifCond .ne 8, 3) := by decide +kernel
theorem dX4_open_140 : decode cX4_open 140 = .ok (.iload 7, 2) := by decide +kernel
theorem dX4_open_142 : decode cX4_open 142 = .ok (.ifCond .ne 6, 3) := by decide +kernel
theorem dX4_open_145 : decode cX4_open 145 = .ok (.bipush (-13), 2) := by decide +kernel
theorem dX4_open_147 : decode cX4_open 147 = .ok (.ireturn, 1) := by decide +kernel
theorem dX4_open_148 : decode cX4_open 148 = .ok (.aload_n 0, 1) := by decide +kernel
theorem dX4_open_149 : decode cX4_open 149 = .ok (.getfield 22, 3) := by decide +kernel
theorem dX4_open_152 : decode cX4_open 152 = .ok (.iload 6, 2) := by decide +kernel
theorem dX4_open_154 : decode cX4_open 154 = .ok (.iconst 0, 1) := by decide +kernel
theorem dX4_open_155 : decode cX4_open 155 = .ok (.bastore, 1) := by decide +kernel
theorem dX4_open_156 : decode cX4_open 156 = .ok (.aload_n 0, 1) := by decide +kernel
theorem dX4_open_157 : decode cX4_open 157 = .ok (.getfield 26, 3) := by decide +kernel
theorem dX4_open_160 : decode cX4_open 160 = .ok (.iload 6, 2) := by decide +kernel
theorem dX4_open_162 : decode cX4_open 162 = .ok (.iconst 1, 1) := by decide +kernel
theorem dX4_open_163 : decode cX4_open 163 = .ok (.bastore, 1) := by decide +kernel
theorem dX4_open_164 : decode cX4_open 164 = .ok (.aload_n 0, 1) := by decide +kernel
theorem dX4_open_165 : decode cX4_open 165 = .ok (.getfield 36, 3) := by decide +kernel
theorem dX4_open_168 : decode cX4_open 168 = .ok (.iload 6, 2) := by decide +kernel
theorem dX4_open_170 : decode cX4_open 170 = .ok (.lload_n 2, 1) := by decide +kernel
theorem dX4_open_171 : decode cX4_open 171 = .ok (.lastore, 1) := by decide +kernel
theorem dX4_open_172 : decode cX4_open 172 = .ok (.aload_n 0, 1) := by decide +kernel
theorem dX4_open_173 : decode cX4_open 173 = .ok (.getfield 48, 3) := by decide +kernel
theorem dX4_open_176 : decode cX4_open 176 = .ok (.iload 6, 2) := by decide +kernel
theorem dX4_open_178 : decode cX4_open 178 = .ok (.iconst 0, 1) := by decide +kernel
theorem dX4_open_179 : decode cX4_open 179 = .ok (.iastore, 1) := by decide +kernel
theorem dX4_open_180 : decode cX4_open 180 = .ok (.iconst 0, 1) := by decide +kernel
theorem dX4_open_181 : decode cX4_open 181 = .ok (.istore 8, 2) := by decide +kernel
theorem dX4_open_183 : decode cX4_open 183 = .ok (.iload 8, 2) := by decide +kernel
theorem dX4_open_185 : decode cX4_open 185 = .ok (.bipush 12, 2) := by decide +kernel
theorem dX4_open_187 : decode cX4_open 187 = .ok (.if_icmp .ge 23, 3) := by decide +kernel
theorem dX4_open_190 : decode cX4_open 190 = .ok (.aload_n 0, 1) := by decide +kernel
theorem dX4_open_191 : decode cX4_open 191 = .ok (.getfield 45, 3) := by decide +kernel
theorem dX4_open_194 : decode cX4_open 194 = .ok (.bipush 12, 2) := by decide +kernel
theorem dX4_open_196 : decode cX4_open 196 = .ok (.iload 6, 2) := by decide +kernel
theorem dX4_open_198 : decode cX4_open 198 = .ok (.imul, 1) := by decide +kernel
theorem dX4_open_199 : decode cX4_open 199 = .ok (.iload 8, 2) := by decide +kernel
theorem dX4_open_201 : decode cX4_open 201 = .ok (.iadd, 1) := by decide +kernel
theorem dX4_open_202 : decode cX4_open 202 = .ok (.iconst 0, 1) := by decide +kernel
theorem dX4_open_203 : decode cX4_open 203 = .ok (.bastore, 1) := by decide +kernel
theorem dX4_open_204 : decode cX4_open 204 = .ok (.iinc 8 1, 3) := by decide +kernel
theorem dX4_open_207 : decode cX4_open 207 = .ok (.goto (-24), 3) := by decide +kernel
theorem dX4_open_210 : decode cX4_open 210 = .ok (.lload_n 2, 1) := by decide +kernel
theorem dX4_open_211 : decode cX4_open 211 = .ok (.aload_n 0, 1) := by decide +kernel
theorem dX4_open_212 : decode cX4_open 212 = .ok (.getfield 29, 3) := by decide +kernel
theorem dX4_open_215 : decode cX4_open 215 = .ok (.iload 6, 2) := by decide +kernel
theorem dX4_open_217 : decode cX4_open 217 = .ok (.laload, 1) := by decide +kernel
theorem dX4_open_218 : decode cX4_open 218 = .ok (.lcmp, 1) := by decide +kernel
theorem dX4_open_219 : decode cX4_open 219 = .ok (.ifCond .ne 5, 3) := by decide +kernel
theorem dX4_open_222 : decode cX4_open 222 = .ok (.iconst 1, 1) := by decide +kernel
theorem dX4_open_223 : decode cX4_open 223 = .ok (.ireturn, 1) := by decide +kernel
theorem dX4_open_224 : decode cX4_open 224 = .ok (.aload_n 0, 1) := by decide +kernel
theorem dX4_open_225 : decode cX4_open 225 = .ok (.invokevirtual 113, 3) := by decide +kernel
theorem dX4_open_228 : decode cX4_open 228 = .ok (.iconst (-1), 1) := by decide +kernel
theorem dX4_open_229 : decode cX4_open 229 = .ok (.ireturn, 1) := by decide +kernel
theorem dX4_listPlace_0 : decode cX4_listPlace 0 = .ok (.iconst (-1), 1) := by decide +kernel
theorem dX4_listPlace_1 : decode cX4_listPlace 1 = .ok (.istore_n 3, 1) := by decide +kernel
theorem dX4_listPlace_2 : decode cX4_listPlace 2 = .ok (.iconst 0, 1) := by decide +kernel
theorem dX4_listPlace_3 : decode cX4_listPlace 3 = .ok (.istore 4, 2) := by decide +kernel
theorem dX4_listPlace_5 : decode cX4_listPlace 5 = .ok (.iload 4, 2) := by decide +kernel
theorem dX4_listPlace_7 : decode cX4_listPlace 7 = .ok (.aload_n 0, 1) := by decide +kernel
theorem dX4_listPlace_8 : decode cX4_listPlace 8 = .ok (.getfield 39, 3) := by decide +kernel
theorem dX4_listPlace_11 : decode cX4_listPlace 11 = .ok (.iload_n 1, 1) := by decide +kernel
theorem dX4_listPlace_12 : decode cX4_listPlace 12 = .ok (.iaload, 1) := by decide +kernel
theorem dX4_listPlace_13 : decode cX4_listPlace 13 = .ok (.if_icmp .ge 32, 3) := by decide +kernel
theorem dX4_listPlace_16 : decode cX4_listPlace 16 = .ok (.aload_n 0, 1) := by decide +kernel
theorem dX4_listPlace_17 : decode cX4_listPlace 17 = .ok (.getfield 42, 3) := by decide +kernel
theorem dX4_listPlace_20 : decode cX4_listPlace 20 = .ok (.bipush 12, 2) := by decide +kernel
theorem dX4_listPlace_22 : decode cX4_listPlace 22 = .ok (.iload_n 1, 1) := by decide +kernel
theorem dX4_listPlace_23 : decode cX4_listPlace 23 = .ok (.imul, 1) := by decide +kernel
theorem dX4_listPlace_24 : decode cX4_listPlace 24 = .ok (.iload 4, 2) := by decide +kernel
theorem dX4_listPlace_26 : decode cX4_listPlace 26 = .ok (.iadd, 1) := by decide +kernel
theorem dX4_listPlace_27 : decode cX4_listPlace 27 = .ok (.iaload, 1) := by decide +kernel
theorem dX4_listPlace_28 : decode cX4_listPlace 28 = .ok (.iload_n 2, 1) := by decide +kernel
theorem dX4_listPlace_29 : decode cX4_listPlace 29 = .ok (.if_icmp .ne 8, 3) := by decide +kernel
theorem dX4_listPlace_32 : decode cX4_listPlace 32 = .ok (.iload 4, 2) := by decide +kernel
theorem dX4_listPlace_34 : decode cX4_listPlace 34 = .ok (.goto 4, 3) := by decide +kernel
theorem dX4_listPlace_37 : decode cX4_listPlace 37 = .ok (.iload_n 3, 1) := by decide +kernel
theorem dX4_listPlace_38 : decode cX4_listPlace 38 = .ok (.istore_n 3, 1) := by decide +kernel
theorem dX4_listPlace_39 : decode cX4_listPlace 39 = .ok (.iinc 4 1, 3) := by decide +kernel
theorem dX4_listPlace_42 : decode cX4_listPlace 42 = .ok (.goto (-37), 3) := by decide +kernel
theorem dX4_listPlace_45 : decode cX4_listPlace 45 = .ok (.iload_n 3, 1) := by decide +kernel
theorem dX4_listPlace_46 : decode cX4_listPlace 46 = .ok (.ireturn, 1) := by decide +kernel
theorem dX4_isExtra_0 : decode cX4_isExtra 0 = .ok (.iconst 0, 1) := by decide +kernel
theorem dX4_isExtra_1 : decode cX4_isExtra 1 = .ok (.istore_n 3, 1) := by decide +kernel
theorem dX4_isExtra_2 : decode cX4_isExtra 2 = .ok (.iconst 0, 1) := by decide +kernel
theorem dX4_isExtra_3 : decode cX4_isExtra 3 = .ok (.istore 4, 2) := by decide +kernel
theorem dX4_isExtra_5 : decode cX4_isExtra 5 = .ok (.iload 4, 2) := by decide +kernel
theorem dX4_isExtra_7 : decode cX4_isExtra 7 = .ok (.aload_n 0, 1) := by decide +kernel
theorem dX4_isExtra_8 : decode cX4_isExtra 8 = .ok (.getfield 48, 3) := by decide +kernel
theorem dX4_isExtra_11 : decode cX4_isExtra 11 = .ok (.iload_n 1, 1) := by decide +kernel
theorem dX4_isExtra_12 : decode cX4_isExtra 12 = .ok (.iaload, 1) := by decide +kernel
theorem dX4_isExtra_13 : decode cX4_isExtra 13 = .ok (.if_icmp .ge 35, 3) := by decide +kernel
theorem dX4_isExtra_16 : decode cX4_isExtra 16 = .ok (.iload_n 3, 1) := by decide +kernel
theorem dX4_isExtra_17 : decode cX4_isExtra 17 = .ok (.ifCond .ne 19, 3) := by decide +kernel
theorem dX4_isExtra_20 : decode cX4_isExtra 20 = .ok (.aload_n 0, 1) := by decide +kernel
theorem dX4_isExtra_21 : decode cX4_isExtra 21 = .ok (.getfield 51, 3) := by decide +kernel
theorem dX4_isExtra_24 : decode cX4_isExtra 24 = .ok (.bipush 12, 2) := by decide +kernel
theorem dX4_isExtra_26 : decode cX4_isExtra 26 = .ok (.iload_n 1, 1) := by decide +kernel
theorem dX4_isExtra_27 : decode cX4_isExtra 27 = .ok (.imul, 1) := by decide +kernel
theorem dX4_isExtra_28 : decode cX4_isExtra 28 = .ok (.iload 4, 2) := by decide +kernel
theorem dX4_isExtra_30 : decode cX4_isExtra 30 = .ok (.iadd, 1) := by decide +kernel
theorem dX4_isExtra_31 : decode cX4_isExtra 31 = .ok (.iaload, 1) := by decide +kernel
theorem dX4_isExtra_32 : decode cX4_isExtra 32 = .ok (.iload_n 2, 1) := by decide +kernel
theorem dX4_isExtra_33 : decode cX4_isExtra 33 = .ok (.if_icmp .ne 7, 3) := by decide +kernel
theorem dX4_isExtra_36 : decode cX4_isExtra 36 = .ok (.iconst 1, 1) := by decide +kernel
theorem dX4_isExtra_37 : decode cX4_isExtra 37 = .ok (.goto 4, 3) := by decide +kernel
theorem dX4_isExtra_40 : decode cX4_isExtra 40 = .ok (.iconst 0, 1) := by decide +kernel
theorem dX4_isExtra_41 : decode cX4_isExtra 41 = .ok (.istore_n 3, 1) := by decide +kernel
theorem dX4_isExtra_42 : decode cX4_isExtra 42 = .ok (.iinc 4 1, 3) := by decide +kernel
theorem dX4_isExtra_45 : decode cX4_isExtra 45 = .ok (.goto (-40), 3) := by decide +kernel
theorem dX4_isExtra_48 : decode cX4_isExtra 48 = .ok (.iload_n 3, 1) := by decide +kernel
theorem dX4_isExtra_49 : decode cX4_isExtra 49 = .ok (.ireturn, 1) := by decide +kernel
theorem dX4_bring_0 : decode cX4_bring 0 = .ok (.iconst 0, 1) := by decide +kernel
theorem dX4_bring_1 : decode cX4_bring 1 = .ok (.istore_n 3, 1) := by decide +kernel
theorem dX4_bring_2 : decode cX4_bring 2 = .ok (.iconst 1, 1) := by decide +kernel
theorem dX4_bring_3 : decode cX4_bring 3 = .ok (.istore 4, 2) := by decide +kernel
theorem dX4_bring_5 : decode cX4_bring 5 = .ok (.iload 4, 2) := by decide +kernel
theorem dX4_bring_7 : decode cX4_bring 7 = .ok (.sipush 1061, 3) := by decide +kernel
theorem dX4_bring_10 : decode cX4_bring 10 = .ok (.if_icmp .ge 45, 3) := by decide +kernel
theorem dX4_bring_13 : decode cX4_bring 13 = .ok (.aload_n 0, 1) := by decide +kernel
theorem dX4_bring_14 : decode cX4_bring 14 = .ok (.iload 4, 2) := by decide +kernel
theorem dX4_bring_16 : decode cX4_bring 16 = .ok (.invokevirtual 95, 3) := by decide +kernel
theorem dX4_bring_19 : decode cX4_bring 19 = .ok (.ifCond .eq 30, 3) := by decide +kernel
theorem dX4_bring_22 : decode cX4_bring 22 = .ok (.iload 4, 2) := by decide +kernel
theorem dX4_bring_24 : decode cX4_bring 24 = .ok (.iload_n 1, 1) := by decide +kernel
theorem dX4_bring_25 : decode cX4_bring 25 = .ok (.if_icmp .eq 13, 3) := by decide +kernel
theorem dX4_bring_28 : decode cX4_bring 28 = .ok (.aload_n 0, 1) := by decide +kernel
theorem dX4_bring_29 : decode cX4_bring 29 = .ok (.iload 4, 2) := by decide +kernel
theorem dX4_bring_31 : decode cX4_bring 31 = .ok (.iload_n 1, 1) := by decide +kernel
theorem dX4_bring_32 : decode cX4_bring 32 = .ok (.invokevirtual 116, 3) := by decide +kernel
theorem dX4_bring_35 : decode cX4_bring 35 = .ok (.ifCond .eq 14, 3) := by decide +kernel
theorem dX4_bring_38 : decode cX4_bring 38 = .ok (.aload_n 0, 1) := by decide +kernel
theorem dX4_bring_39 : decode cX4_bring 39 = .ok (.getfield 16, 3) := by decide +kernel
theorem dX4_bring_42 : decode cX4_bring 42 = .ok (.iload 4, 2) := by decide +kernel
theorem dX4_bring_44 : decode cX4_bring 44 = .ok (.iload_n 2, 1) := by decide +kernel
theorem dX4_bring_45 : decode cX4_bring 45 = .ok (.iastore, 1) := by decide +kernel
theorem dX4_bring_46 : decode cX4_bring 46 = .ok (.iinc 3 1, 3) := by decide +kernel
theorem dX4_bring_49 : decode cX4_bring 49 = .ok (.iinc 4 1, 3) := by decide +kernel
theorem dX4_bring_52 : decode cX4_bring 52 = .ok (.goto (-47), 3) := by decide +kernel
theorem dX4_bring_55 : decode cX4_bring 55 = .ok (.iload_n 3, 1) := by decide +kernel
theorem dX4_bring_56 : decode cX4_bring 56 = .ok (.ireturn, 1) := by decide +kernel
theorem dX4_found_0 : decode cX4_found 0 = .ok (.aload_n 0, 1) := by decide +kernel
theorem dX4_found_1 : decode cX4_found 1 = .ok (.iconst 0, 1) := by decide +kernel
theorem dX4_found_2 : decode cX4_found 2 = .ok (.putfield 69, 3) := by decide +kernel
theorem dX4_found_5 : decode cX4_found 5 = .ok (.aload_n 0, 1) := by decide +kernel
theorem dX4_found_6 : decode cX4_found 6 = .ok (.iload_n 1, 1) := by decide +kernel
theorem dX4_found_7 : decode cX4_found 7 = .ok (.invokevirtual 76, 3) := by decide +kernel
theorem dX4_found_10 : decode cX4_found 10 = .ok (.ifCond .eq 11, 3) := by decide +kernel
theorem dX4_found_13 : decode cX4_found 13 = .ok (.aload_n 0, 1) := by decide +kernel
theorem dX4_found_14 : decode cX4_found 14 = .ok (.iload_n 2, 1) := by decide +kernel
theorem dX4_found_15 : decode cX4_found 15 = .ok (.invokevirtual 95, 3) := by decide +kernel
theorem dX4_found_18 : decode cX4_found 18 = .ok (.ifCond .ne 6, 3) := by decide +kernel
theorem dX4_found_21 : decode cX4_found 21 = .ok (.bipush (-11), 2) := by decide +kernel
theorem dX4_found_23 : decode cX4_found 23 = .ok (.ireturn, 1) := by decide +kernel
theorem dX4_found_24 : decode cX4_found 24 = .ok (.iload_n 1, 1) := by decide +kernel
theorem dX4_found_25 : decode cX4_found 25 = .ok (.sipush 1001, 3) := by decide +kernel
theorem dX4_found_28 : decode cX4_found 28 = .ok (.isub, 1) := by decide +kernel
theorem dX4_found_29 : decode cX4_found 29 = .ok (.istore_n 3, 1) := by decide +kernel
theorem dX4_found_30 : decode cX4_found 30 = .ok (.aload_n 0, 1) := by decide +kernel
theorem dX4_found_31 : decode cX4_found 31 = .ok (.getfield 26, 3) := by decide +kernel
theorem dX4_found_34 : decode cX4_found 34 = .ok (.iload_n 3, 1) := by decide +kernel
theorem dX4_found_35 : decode cX4_found 35 = .ok (.baload, 1) := by decide +kernel
theorem dX4_found_36 : decode cX4_found 36 = .ok (.ifCond .eq 30, 3) := by decide +kernel
theorem dX4_found_39 : decode cX4_found 39 = .ok (.iload_n 2, 1) := by decide +kernel
theorem dX4_found_40 : decode cX4_found 40 = .ok (.iload_n 1, 1) := by decide +kernel
theorem dX4_found_41 : decode cX4_found 41 = .ok (.if_icmp .eq 25, 3) := by decide +kernel
theorem dX4_found_44 : decode cX4_found 44 = .ok (.aload_n 0, 1) := by decide +kernel
theorem dX4_found_45 : decode cX4_found 45 = .ok (.iload_n 1, 1) := by decide +kernel
theorem dX4_found_46 : decode cX4_found 46 = .ok (.iload_n 2, 1) := by decide +kernel
theorem dX4_found_47 : decode cX4_found 47 = .ok (.invokevirtual 116, 3) := by decide +kernel
theorem dX4_found_50 : decode cX4_found 50 = .ok (.ifCond .ne 16, 3) := by decide +kernel
theorem dX4_found_53 : decode cX4_found 53 = .ok (.aload_n 0, 1) := by decide +kernel
theorem dX4_found_54 : decode cX4_found 54 = .ok (.iload_n 2, 1) := by decide +kernel
theorem dX4_found_55 : decode cX4_found 55 = .ok (.invokevirtual 101, 3) := by decide +kernel
theorem dX4_found_58 : decode cX4_found 58 = .ok (.aload_n 0, 1) := by decide +kernel
theorem dX4_found_59 : decode cX4_found 59 = .ok (.iload_n 1, 1) := by decide +kernel
theorem dX4_found_60 : decode cX4_found 60 = .ok (.invokevirtual 101, 3) := by decide +kernel
theorem dX4_found_63 : decode cX4_found 63 = .ok (.if_icmp .lt 6, 3) := by decide +kernel
theorem dX4_found_66 : decode cX4_found 66 = .ok (.bipush (-13), 2) := by decide +kernel
theorem dX4_found_68 : decode cX4_found 68 = .ok (.ireturn, 1) := by decide +kernel
theorem dX4_found_69 : decode cX4_found 69 = .ok (.aload_n 0, 1) := by decide +kernel
theorem dX4_found_70 : decode cX4_found 70 = .ok (.iload_n 3, 1) := by decide +kernel
theorem dX4_found_71 : decode cX4_found 71 = .ok (.iload_n 2, 1) := by decide +kernel
theorem dX4_found_72 : decode cX4_found 72 = .ok (.invokevirtual 120, 3) := by decide +kernel
theorem dX4_found_75 : decode cX4_found 75 = .ok (.istore 4, 2) := by decide +kernel
theorem dX4_found_77 : decode cX4_found 77 = .ok (.iload 4, 2) := by decide +kernel
theorem dX4_found_79 : decode cX4_found 79 = .ok (.ifCond .lt 18, 3) := by decide +kernel
theorem dX4_found_82 : decode cX4_found 82 = .ok (.aload_n 0, 1) := by decide +kernel
theorem dX4_found_83 : decode cX4_found 83 = .ok (.getfield 45, 3) := by decide +kernel
theorem dX4_found_86 : decode cX4_found 86 = .ok (.bipush 12, 2) := by decide +kernel
theorem dX4_found_88 : decode cX4_found 88 = .ok (.iload_n 3, 1) := by decide +kernel
theorem dX4_found_89 : decode cX4_found 89 = .ok (.imul, 1) := by decide +kernel
theorem dX4_found_90 : decode cX4_found 90 = .ok (.iload 4, 2) := by decide +kernel
theorem dX4_found_92 : decode cX4_found 92 = .ok (.iadd, 1) := by decide +kernel
theorem dX4_found_93 : decode cX4_found 93 = .ok (.iconst 1, 1) := by decide +kernel
theorem dX4_found_94 : decode cX4_found 94 = .ok (.bastore, 1) := by decide +kernel
theorem dX4_found_95 : decode cX4_found 95 = .ok (.iconst 1, 1) := by decide +kernel
theorem dX4_found_96 : decode cX4_found 96 = .ok (.ireturn, 1) := by decide +kernel
theorem dX4_found_97 : decode cX4_found 97 = .ok (.aload_n 0, 1) := by decide +kernel
theorem dX4_found_98 : decode cX4_found 98 = .ok (.iload_n 3, 1) := by decide +kernel
theorem dX4_found_99 : decode cX4_found 99 = .ok (.iload_n 2, 1) := by decide +kernel
theorem dX4_found_100 : decode cX4_found 100 = .ok (.invokevirtual 124, 3) := by decide +kernel
theorem dX4_found_103 : decode cX4_found 103 = .ok (.ifCond .eq 5, 3) := by decide +kernel
theorem dX4_found_106 : decode cX4_found 106 = .ok (.iconst 0, 1) := by decide +kernel
theorem dX4_found_107 : decode cX4_found 107 = .ok (.ireturn, 1) := by decide +kernel
theorem dX4_found_108 : decode cX4_found 108 = .ok (.aload_n 0, 1) := by decide +kernel
theorem dX4_found_109 : decode cX4_found 109 = .ok (.getfield 48, 3) := by decide +kernel
theorem dX4_found_112 : decode cX4_found 112 = .ok (.iload_n 3, 1) := by decide +kernel
theorem dX4_found_113 : decode cX4_found 113 = .ok (.iaload, 1) := by decide +kernel
theorem dX4_found_114 : decode cX4_found 114 = .ok (.bipush 12, 2) := by decide +kernel
theorem dX4_found_116 : decode cX4_found 116 = .ok (.if_icmp .eq 23, 3) := by decide +kernel
theorem dX4_found_119 : decode cX4_found 119 = .ok (.aload_n 0, 1) := by decide +kernel
theorem dX4_found_120 : decode cX4_found 120 = .ok (.getfield 7, 3) := by decide +kernel
theorem dX4_found_123 : decode cX4_found 123 = .ok (.iload_n 2, 1) := by decide +kernel
theorem dX4_found_124 : decode cX4_found 124 = .ok (.iaload, 1) := by decide +kernel
theorem dX4_found_125 : decode cX4_found 125 = .ok (.iload_n 1, 1) := by decide +kernel
theorem dX4_found_126 : decode cX4_found 126 = .ok (.if_icmp .eq 16, 3) := by decide +kernel
theorem dX4_found_129 : decode cX4_found 129 = .ok (.aload_n 0, 1) := by decide +kernel
theorem dX4_found_130 : decode cX4_found 130 = .ok (.iload_n 1, 1) := by decide +kernel
theorem dX4_found_131 : decode cX4_found 131 = .ok (.invokevirtual 104, 3) := by decide +kernel
theorem dX4_found_134 : decode cX4_found 134 = .ok (.bipush 12, 2) := by decide +kernel
theorem dX4_found_136 : decode cX4_found 136 = .ok (.if_icmp .ne 6, 3) := by decide +kernel
theorem dX4_found_139 : decode cX4_found 139 = .ok (.bipush (-14), 2) := by decide +kernel
theorem dX4_found_141 : decode cX4_found 141 = .ok (.ireturn, 1) := by decide +kernel
theorem dX4_found_142 : decode cX4_found 142 = .ok (.aload_n 0, 1) := by decide +kernel
theorem dX4_found_143 : decode cX4_found 143 = .ok (.getfield 7, 3) := by decide +kernel
theorem dX4_found_146 : decode cX4_found 146 = .ok (.iload_n 2, 1) := by decide +kernel
theorem dX4_found_147 : decode cX4_found 147 = .ok (.iaload, 1) := by decide +kernel
theorem dX4_found_148 : decode cX4_found 148 = .ok (.iload_n 1, 1) := by decide +kernel
theorem dX4_found_149 : decode cX4_found 149 = .ok (.if_icmp .eq 22, 3) := by decide +kernel
theorem dX4_found_152 : decode cX4_found 152 = .ok (.aload_n 0, 1) := by decide +kernel
theorem dX4_found_153 : decode cX4_found 153 = .ok (.iload_n 1, 1) := by decide +kernel
theorem dX4_found_154 : decode cX4_found 154 = .ok (.iload_n 2, 1) := by decide +kernel
theorem dX4_found_155 : decode cX4_found 155 = .ok (.invokevirtual 107, 3) := by decide +kernel
theorem dX4_found_158 : decode cX4_found 158 = .ok (.aload_n 0, 1) := by decide +kernel
theorem dX4_found_159 : decode cX4_found 159 = .ok (.iload_n 2, 1) := by decide +kernel
theorem dX4_found_160 : decode cX4_found 160 = .ok (.aload_n 0, 1) := by decide +kernel
theorem dX4_found_161 : decode cX4_found 161 = .ok (.getfield 16, 3) := by decide +kernel
theorem dX4_found_164 : decode cX4_found 164 = .ok (.iload_n 1, 1) := by decide +kernel
theorem dX4_found_165 : decode cX4_found 165 = .ok (.iaload, 1) := by decide +kernel
theorem dX4_found_166 : decode cX4_found 166 = .ok (.invokevirtual 127, 3) := by decide +kernel
theorem dX4_found_169 : decode cX4_found 169 = .ok (.istore 5, 2) := by decide +kernel
theorem dX4_found_171 : decode cX4_found 171 = .ok (.aload_n 0, 1) := by decide +kernel
theorem dX4_found_172 : decode cX4_found 172 = .ok (.getfield 51, 3) := by decide +kernel
theorem dX4_found_175 : decode cX4_found 175 = .ok (.bipush 12, 2) := by decide +kernel
theorem dX4_found_177 : decode cX4_found 177 = .ok (.iload_n 3, 1) := by decide +kernel
theorem dX4_found_178 : decode cX4_found 178 = .ok (.imul, 1) := by decide +kernel
theorem dX4_found_179 : decode cX4_found 179 = .ok (.aload_n 0, 1) := by decide +kernel
theorem dX4_found_180 : decode cX4_found 180 = .ok (.getfield 48, 3) := by decide +kernel
theorem dX4_found_183 : decode cX4_found 183 = .ok (.iload_n 3, 1) := by decide +kernel
theorem dX4_found_184 : decode cX4_found 184 = .ok (.iaload, 1) := by decide +kernel
theorem dX4_found_185 : decode cX4_found 185 = .ok (.iadd, 1) := by decide +kernel
theorem dX4_found_186 : decode cX4_found 186 = .ok (.iload_n 2, 1) := by decide +kernel
theorem dX4_found_187 : decode cX4_found 187 = .ok (.iastore, 1) := by decide +kernel
theorem dX4_found_188 : decode cX4_found 188 = .ok (.aload_n 0, 1) := by decide +kernel
theorem dX4_found_189 : decode cX4_found 189 = .ok (.getfield 48, 3) := by decide +kernel
theorem dX4_found_192 : decode cX4_found 192 = .ok (.iload_n 3, 1) := by decide +kernel
theorem dX4_found_193 : decode cX4_found 193 = .ok (.dup2, 1) := by decide +kernel
theorem dX4_found_194 : decode cX4_found 194 = .ok (.iaload, 1) := by decide +kernel
theorem dX4_found_195 : decode cX4_found 195 = .ok (.iconst 1, 1) := by decide +kernel
theorem dX4_found_196 : decode cX4_found 196 = .ok (.iadd, 1) := by decide +kernel
theorem dX4_found_197 : decode cX4_found 197 = .ok (.iastore, 1) := by decide +kernel
theorem dX4_found_198 : decode cX4_found 198 = .ok (.aload_n 0, 1) := by decide +kernel
theorem dX4_found_199 : decode cX4_found 199 = .ok (.invokevirtual 113, 3) := by decide +kernel
theorem dX4_found_202 : decode cX4_found 202 = .ok (.iconst 0, 1) := by decide +kernel
theorem dX4_found_203 : decode cX4_found 203 = .ok (.ireturn, 1) := by decide +kernel
theorem dX4_pick_0 : decode cX4_pick 0 = .ok (.iload_n 1, 1) := by decide +kernel
theorem dX4_pick_1 : decode cX4_pick 1 = .ok (.ifCond .ne 7, 3) := by decide +kernel
theorem dX4_pick_4 : decode cX4_pick 4 = .ok (.iload_n 2, 1) := by decide +kernel
theorem dX4_pick_5 : decode cX4_pick 5 = .ok (.goto 5, 3) := by decide +kernel
theorem dX4_pick_8 : decode cX4_pick 8 = .ok (.lload_n 3, 1) := by decide +kernel
theorem dX4_pick_9 : decode cX4_pick 9 = .ok (.l2i, 1) := by decide +kernel
theorem dX4_pick_10 : decode cX4_pick 10 = .ok (.ireturn, 1) := by decide +kernel
theorem dX4_difference_0 : decode cX4_difference 0 = .ok (.iload_n 2, 1) := by decide +kernel
theorem dX4_difference_1 : decode cX4_difference 1 = .ok (.istore 4, 2) := by decide +kernel
theorem dX4_difference_3 : decode cX4_difference 3 = .ok (.aload_n 0, 1) := by decide +kernel
theorem dX4_difference_4 : decode cX4_difference 4 = .ok (.getfield 36, 3) := by decide +kernel
theorem dX4_difference_7 : decode cX4_difference 7 = .ok (.iload_n 1, 1) := by decide +kernel
theorem dX4_difference_8 : decode cX4_difference 8 = .ok (.laload, 1) := by decide +kernel
theorem dX4_difference_9 : decode cX4_difference 9 = .ok (.aload_n 0, 1) := by decide +kernel
theorem dX4_difference_10 : decode cX4_difference 10 = .ok (.getfield 29, 3) := by decide +kernel
theorem dX4_difference_13 : decode cX4_difference 13 = .ok (.iload_n 1, 1) := by decide +kernel
theorem dX4_difference_14 : decode cX4_difference 14 = .ok (.laload, 1) := by decide +kernel
theorem dX4_difference_15 : decode cX4_difference 15 = .ok (.lcmp, 1) := by decide +kernel
theorem dX4_difference_16 : decode cX4_difference 16 = .ok (.ifCond .eq 24, 3) := by decide +kernel
theorem dX4_difference_19 : decode cX4_difference 19 = .ok (.iload 4, 2) := by decide +kernel
theorem dX4_difference_21 : decode cX4_difference 21 = .ok (.ifCond .ne 16, 3) := by decide +kernel
theorem dX4_difference_24 : decode cX4_difference 24 = .ok (.aload_n 0, 1) := by decide +kernel
theorem dX4_difference_25 : decode cX4_difference 25 = .ok (.iload_n 3, 1) := by decide +kernel
theorem dX4_difference_26 : decode cX4_difference 26 = .ok (.iconst 0, 1) := by decide +kernel
theorem dX4_difference_27 : decode cX4_difference 27 = .ok (.aload_n 0, 1) := by decide +kernel
theorem dX4_difference_28 : decode cX4_difference 28 = .ok (.getfield 36, 3) := by decide +kernel
theorem dX4_difference_31 : decode cX4_difference 31 = .ok (.iload_n 1, 1) := by decide +kernel
theorem dX4_difference_32 : decode cX4_difference 32 = .ok (.laload, 1) := by decide +kernel
theorem dX4_difference_33 : decode cX4_difference 33 = .ok (.invokevirtual 130, 3) := by decide +kernel
theorem dX4_difference_36 : decode cX4_difference 36 = .ok (.ireturn, 1) := by decide +kernel
theorem dX4_difference_37 : decode cX4_difference 37 = .ok (.iinc 4 (-1), 3) := by decide +kernel
theorem dX4_difference_40 : decode cX4_difference 40 = .ok (.iload 4, 2) := by decide +kernel
theorem dX4_difference_42 : decode cX4_difference 42 = .ok (.aload_n 0, 1) := by decide +kernel
theorem dX4_difference_43 : decode cX4_difference 43 = .ok (.getfield 54, 3) := by decide +kernel
theorem dX4_difference_46 : decode cX4_difference 46 = .ok (.iload_n 1, 1) := by decide +kernel
theorem dX4_difference_47 : decode cX4_difference 47 = .ok (.iaload, 1) := by decide +kernel
theorem dX4_difference_48 : decode cX4_difference 48 = .ok (.if_icmp .ge 22, 3) := by decide +kernel
theorem dX4_difference_51 : decode cX4_difference 51 = .ok (.aload_n 0, 1) := by decide +kernel
theorem dX4_difference_52 : decode cX4_difference 52 = .ok (.iload_n 3, 1) := by decide +kernel
theorem dX4_difference_53 : decode cX4_difference 53 = .ok (.iconst 1, 1) := by decide +kernel
theorem dX4_difference_54 : decode cX4_difference 54 = .ok (.aload_n 0, 1) := by decide +kernel
theorem dX4_difference_55 : decode cX4_difference 55 = .ok (.getfield 57, 3) := by decide +kernel
theorem dX4_difference_58 : decode cX4_difference 58 = .ok (.bipush 6, 2) := by decide +kernel
theorem dX4_difference_60 : decode cX4_difference 60 = .ok (.iload_n 1, 1) := by decide +kernel
theorem dX4_difference_61 : decode cX4_difference 61 = .ok (.imul, 1) := by decide +kernel
theorem dX4_difference_62 : decode cX4_difference 62 = .ok (.iload 4, 2) := by decide +kernel
theorem dX4_difference_64 : decode cX4_difference 64 = .ok (.iadd, 1) := by decide +kernel
theorem dX4_difference_65 : decode cX4_difference 65 = .ok (.laload, 1) := by decide +kernel
theorem dX4_difference_66 : decode cX4_difference 66 = .ok (.invokevirtual 130, 3) := by decide +kernel
theorem dX4_difference_69 : decode cX4_difference 69 = .ok (.ireturn, 1) := by decide +kernel
theorem dX4_difference_70 : decode cX4_difference 70 = .ok (.iload 4, 2) := by decide +kernel
theorem dX4_difference_72 : decode cX4_difference 72 = .ok (.aload_n 0, 1) := by decide +kernel
theorem dX4_difference_73 : decode cX4_difference 73 = .ok (.getfield 54, 3) := by decide +kernel
theorem dX4_difference_76 : decode cX4_difference 76 = .ok (.iload_n 1, 1) := by decide +kernel
theorem dX4_difference_77 : decode cX4_difference 77 = .ok (.iaload, 1) := by decide +kernel
theorem dX4_difference_78 : decode cX4_difference 78 = .ok (.isub, 1) := by decide +kernel
theorem dX4_difference_79 : decode cX4_difference 79 = .ok (.istore 4, 2) := by decide +kernel
theorem dX4_difference_81 : decode cX4_difference 81 = .ok (.iconst 0, 1) := by decide +kernel
theorem dX4_difference_82 : decode cX4_difference 82 = .ok (.istore 5, 2) := by decide +kernel
theorem dX4_difference_84 : decode cX4_difference 84 = .ok (.iload 5, 2) := by decide +kernel
theorem dX4_difference_86 : decode cX4_difference 86 = .ok (.aload_n 0, 1) := by decide +kernel
theorem dX4_difference_87 : decode cX4_difference 87 = .ok (.getfield 39, 3) := by decide +kernel
theorem dX4_difference_90 : decode cX4_difference 90 = .ok (.iload_n 1, 1) := by decide +kernel
theorem dX4_difference_91 : decode cX4_difference 91 = .ok (.iaload, 1) := by decide +kernel
theorem dX4_difference_92 : decode cX4_difference 92 = .ok (.if_icmp .ge 52, 3) := by decide +kernel
theorem dX4_difference_95 : decode cX4_difference 95 = .ok (.aload_n 0, 1) := by decide +kernel
theorem dX4_difference_96 : decode cX4_difference 96 = .ok (.getfield 45, 3) := by decide +kernel
theorem dX4_difference_99 : decode cX4_difference 99 = .ok (.bipush 12, 2) := by decide +kernel
theorem dX4_difference_101 : decode cX4_difference 101 = .ok (.iload_n 1, 1) := by decide +kernel
theorem dX4_difference_102 : decode cX4_difference 102 = .ok (.imul, 1) := by decide +kernel
theorem dX4_difference_103 : decode cX4_difference 103 = .ok (.iload 5, 2) := by decide +kernel
theorem dX4_difference_105 : decode cX4_difference 105 = .ok (.iadd, 1) := by decide +kernel
theorem dX4_difference_106 : decode cX4_difference 106 = .ok (.baload, 1) := by decide +kernel
theorem dX4_difference_107 : decode cX4_difference 107 = .ok (.ifCond .ne 31, 3) := by decide +kernel
theorem dX4_difference_110 : decode cX4_difference 110 = .ok (.iload 4, 2) := by decide +kernel
theorem dX4_difference_112 : decode cX4_difference 112 = .ok (.ifCond .ne 23, 3) := by decide +kernel
theorem dX4_difference_115 : decode cX4_difference 115 = .ok (.aload_n 0, 1) := by decide +kernel
theorem dX4_difference_116 : decode cX4_difference 116 = .ok (.iload_n 3, 1) := by decide +kernel
theorem dX4_difference_117 : decode cX4_difference 117 = .ok (.iconst 2, 1) := by decide +kernel
theorem dX4_difference_118 : decode cX4_difference 118 = .ok (.aload_n 0, 1) := by decide +kernel
theorem dX4_difference_119 : decode cX4_difference 119 = .ok (.getfield 42, 3) := by decide +kernel
theorem dX4_difference_122 : decode cX4_difference 122 = .ok (.bipush 12, 2) := by decide +kernel
theorem dX4_difference_124 : decode cX4_difference 124 = .ok (.iload_n 1, 1) := by decide +kernel
theorem dX4_difference_125 : decode cX4_difference 125 = .ok (.imul, 1) := by decide +kernel
theorem dX4_difference_126 : decode cX4_difference 126 = .ok (.iload 5, 2) := by decide +kernel
theorem dX4_difference_128 : decode cX4_difference 128 = .ok (.iadd, 1) := by decide +kernel
theorem dX4_difference_129 : decode cX4_difference 129 = .ok (.iaload, 1) := by decide +kernel
theorem dX4_difference_130 : decode cX4_difference 130 = .ok (.i2l, 1) := by decide +kernel
theorem dX4_difference_131 : decode cX4_difference 131 = .ok (.invokevirtual 130, 3) := by decide +kernel
theorem dX4_difference_134 : decode cX4_difference 134 = .ok (.ireturn, 1) := by decide +kernel
theorem dX4_difference_135 : decode cX4_difference 135 = .ok (.iinc 4 (-1), 3) := by decide +kernel
theorem dX4_difference_138 : decode cX4_difference 138 = .ok (.iinc 5 1, 3) := by decide +kernel
theorem dX4_difference_141 : decode cX4_difference 141 = .ok (.goto (-57), 3) := by decide +kernel
theorem dX4_difference_144 : decode cX4_difference 144 = .ok (.iload 4, 2) := by decide +kernel
theorem dX4_difference_146 : decode cX4_difference 146 = .ok (.aload_n 0, 1) := by decide +kernel
theorem dX4_difference_147 : decode cX4_difference 147 = .ok (.getfield 48, 3) := by decide +kernel
theorem dX4_difference_150 : decode cX4_difference 150 = .ok (.iload_n 1, 1) := by decide +kernel
theorem dX4_difference_151 : decode cX4_difference 151 = .ok (.iaload, 1) := by decide +kernel
theorem dX4_difference_152 : decode cX4_difference 152 = .ok (.if_icmp .ge 25, 3) := by decide +kernel
theorem dX4_difference_155 : decode cX4_difference 155 = .ok (.aload_n 0, 1) := by decide +kernel
theorem dX4_difference_156 : decode cX4_difference 156 = .ok (.iload_n 3, 1) := by decide +kernel
theorem dX4_difference_157 : decode cX4_difference 157 = .ok (.iconst 3, 1) := by decide +kernel
theorem dX4_difference_158 : decode cX4_difference 158 = .ok (.aload_n 0, 1) := by decide +kernel
theorem dX4_difference_159 : decode cX4_difference 159 = .ok (.getfield 51, 3) := by decide +kernel
theorem dX4_difference_162 : decode cX4_difference 162 = .ok (.bipush 12, 2) := by decide +kernel
theorem dX4_difference_164 : decode cX4_difference 164 = .ok (.iload_n 1, 1) := by decide +kernel
theorem dX4_difference_165 : decode cX4_difference 165 = .ok (.imul, 1) := by decide +kernel
theorem dX4_difference_166 : decode cX4_difference 166 = .ok (.iload 4, 2) := by decide +kernel
theorem dX4_difference_168 : decode cX4_difference 168 = .ok (.iadd, 1) := by decide +kernel
theorem dX4_difference_169 : decode cX4_difference 169 = .ok (.iaload, 1) := by decide +kernel
theorem dX4_difference_170 : decode cX4_difference 170 = .ok (.i2l, 1) := by decide +kernel
theorem dX4_difference_171 : decode cX4_difference 171 = .ok (.invokevirtual 130, 3) := by decide +kernel
theorem dX4_difference_174 : decode cX4_difference 174 = .ok (.goto 4, 3) := by decide +kernel
theorem dX4_difference_177 : decode cX4_difference 177 = .ok (.iconst (-1), 1) := by decide +kernel
theorem dX4_difference_178 : decode cX4_difference 178 = .ok (.ireturn, 1) := by decide +kernel
theorem dX4_differ_0 : decode cX4_differ 0 = .ok (.aload_n 0, 1) := by decide +kernel
theorem dX4_differ_1 : decode cX4_differ 1 = .ok (.iconst 0, 1) := by decide +kernel
theorem dX4_differ_2 : decode cX4_differ 2 = .ok (.putfield 69, 3) := by decide +kernel
theorem dX4_differ_5 : decode cX4_differ 5 = .ok (.aload_n 0, 1) := by decide +kernel
theorem dX4_differ_6 : decode cX4_differ 6 = .ok (.iload_n 1, 1) := by decide +kernel
theorem dX4_differ_7 : decode cX4_differ 7 = .ok (.invokevirtual 76, 3) := by decide +kernel
theorem dX4_differ_10 : decode cX4_differ 10 = .ok (.ifCond .ne 6, 3) := by decide +kernel
theorem dX4_differ_13 : decode cX4_differ 13 = .ok (.bipush (-11), 2) := by decide +kernel
theorem dX4_differ_15 : decode cX4_differ 15 = .ok (.ireturn, 1) := by decide +kernel
theorem dX4_differ_16 : decode cX4_differ 16 = .ok (.iload_n 3, 1) := by decide +kernel
theorem dX4_differ_17 : decode cX4_differ 17 = .ok (.ifCond .lt 8, 3) := by decide +kernel
theorem dX4_differ_20 : decode cX4_differ 20 = .ok (.iload_n 3, 1) := by decide +kernel
theorem dX4_differ_21 : decode cX4_differ 21 = .ok (.iconst 1, 1) := by decide +kernel
theorem dX4_differ_22 : decode cX4_differ 22 = .ok (.if_icmp .le 6, 3) := by decide +kernel
theorem dX4_differ_25 : decode cX4_differ 25 = .ok (.bipush (-12), 2) := by decide +kernel
theorem dX4_differ_27 : decode cX4_differ 27 = .ok (.ireturn, 1) := by decide +kernel
theorem dX4_differ_28 : decode cX4_differ 28 = .ok (.aload_n 0, 1) := by decide +kernel
theorem dX4_differ_29 : decode cX4_differ 29 = .ok (.getfield 26, 3) := by decide +kernel
theorem dX4_differ_32 : decode cX4_differ 32 = .ok (.iload_n 1, 1) := by decide +kernel
theorem dX4_differ_33 : decode cX4_differ 33 = .ok (.sipush 1001, 3) := by decide +kernel
theorem dX4_differ_36 : decode cX4_differ 36 = .ok (.isub, 1) := by decide +kernel
theorem dX4_differ_37 : decode cX4_differ 37 = .ok (.baload, 1) := by decide +kernel
theorem dX4_differ_38 : decode cX4_differ 38 = .ok (.ifCond .ne 6, 3) := by decide +kernel
theorem dX4_differ_41 : decode cX4_differ 41 = .ok (.bipush (-13), 2) := by decide +kernel
theorem dX4_differ_43 : decode cX4_differ 43 = .ok (.ireturn, 1) := by decide +kernel
theorem dX4_differ_44 : decode cX4_differ 44 = .ok (.iload_n 2, 1) := by decide +kernel
theorem dX4_differ_45 : decode cX4_differ 45 = .ok (.ifCond .ge 7, 3) := by decide +kernel
theorem dX4_differ_48 : decode cX4_differ 48 = .ok (.iconst (-1), 1) := by decide +kernel
theorem dX4_differ_49 : decode cX4_differ 49 = .ok (.goto 14, 3) := by decide +kernel
theorem dX4_differ_52 : decode cX4_differ 52 = .ok (.aload_n 0, 1) := by decide +kernel
theorem dX4_differ_53 : decode cX4_differ 53 = .ok (.iload_n 1, 1) := by decide +kernel
theorem dX4_differ_54 : decode cX4_differ 54 = .ok (.sipush 1001, 3) := by decide +kernel
theorem dX4_differ_57 : decode cX4_differ 57 = .ok (.isub, 1) := by decide +kernel
theorem dX4_differ_58 : decode cX4_differ 58 = .ok (.iload_n 2, 1) := by decide +kernel
theorem dX4_differ_59 : decode cX4_differ 59 = .ok (.iload_n 3, 1) := by decide +kernel
theorem dX4_differ_60 : decode cX4_differ 60 = .ok (.invokevirtual 134, 3) := by decide +kernel
theorem dX4_differ_63 : decode cX4_differ 63 = .ok (.ireturn, 1) := by decide +kernel
theorem dX4_inside_0 : decode cX4_inside 0 = .ok (.aload_n 0, 1) := by decide +kernel
theorem dX4_inside_1 : decode cX4_inside 1 = .ok (.iconst 0, 1) := by decide +kernel
theorem dX4_inside_2 : decode cX4_inside 2 = .ok (.putfield 69, 3) := by decide +kernel
theorem dX4_inside_5 : decode cX4_inside 5 = .ok (.aload_n 0, 1) := by decide +kernel
theorem dX4_inside_6 : decode cX4_inside 6 = .ok (.iload_n 1, 1) := by decide +kernel
theorem dX4_inside_7 : decode cX4_inside 7 = .ok (.invokevirtual 95, 3) := by decide +kernel
theorem dX4_inside_10 : decode cX4_inside 10 = .ok (.ifCond .eq 12, 3) := by decide +kernel
theorem dX4_inside_13 : decode cX4_inside 13 = .ok (.aload_n 0, 1) := by decide +kernel
theorem dX4_inside_14 : decode cX4_inside 14 = .ok (.getfield 7, 3) := by decide +kernel
theorem dX4_inside_17 : decode cX4_inside 17 = .ok (.iload_n 1, 1) := by decide +kernel
theorem dX4_inside_18 : decode cX4_inside 18 = .ok (.iaload, 1) := by decide +kernel
theorem dX4_inside_19 : decode cX4_inside 19 = .ok (.goto 5, 3) := by decide +kernel
theorem dX4_inside_22 : decode cX4_inside 22 = .ok (.bipush (-11), 2) := by decide +kernel
theorem dX4_inside_24 : decode cX4_inside 24 = .ok (.ireturn, 1) := by decide +kernel
theorem dX4_own_0 : decode cX4_own 0 = .ok (.iload_n 1, 1) := by decide +kernel
theorem dX4_own_1 : decode cX4_own 1 = .ok (.sipush 1000, 3) := by decide +kernel
theorem dX4_own_4 : decode cX4_own 4 = .ok (.if_icmp .le 25, 3) := by decide +kernel
theorem dX4_own_7 : decode cX4_own 7 = .ok (.ldc2_w 93, 3) := by decide +kernel
theorem dX4_own_10 : decode cX4_own 10 = .ok (.aload_n 0, 1) := by decide +kernel
theorem dX4_own_11 : decode cX4_own 11 = .ok (.getfield 19, 3) := by decide +kernel
theorem dX4_own_14 : decode cX4_own 14 = .ok (.iload_n 1, 1) := by decide +kernel
theorem dX4_own_15 : decode cX4_own 15 = .ok (.sipush 1001, 3) := by decide +kernel
theorem dX4_own_18 : decode cX4_own 18 = .ok (.isub, 1) := by decide +kernel
theorem dX4_own_19 : decode cX4_own 19 = .ok (.iaload, 1) := by decide +kernel
theorem dX4_own_20 : decode cX4_own 20 = .ok (.i2l, 1) := by decide +kernel
theorem dX4_own_21 : decode cX4_own 21 = .ok (.lmul, 1) := by decide +kernel
theorem dX4_own_22 : decode cX4_own 22 = .ok (.ldc2_w 93, 3) := by decide +kernel
theorem dX4_own_25 : decode cX4_own 25 = .ok (.ladd, 1) := by decide +kernel
theorem dX4_own_26 : decode cX4_own 26 = .ok (.goto 16, 3) := by decide +kernel
theorem dX4_own_29 : decode cX4_own 29 = .ok (.ldc2_w 138, 3) := by decide +kernel
theorem dX4_own_32 : decode cX4_own 32 = .ok (.ldc2_w 140, 3) := by decide +kernel
theorem dX4_own_35 : decode cX4_own 35 = .ok (.iload_n 1, 1) := by decide +kernel
theorem dX4_own_36 : decode cX4_own 36 = .ok (.bipush 50, 2) := by decide +kernel
theorem dX4_own_38 : decode cX4_own 38 = .ok (.irem, 1) := by decide +kernel
theorem dX4_own_39 : decode cX4_own 39 = .ok (.i2l, 1) := by decide +kernel
theorem dX4_own_40 : decode cX4_own 40 = .ok (.lmul, 1) := by decide +kernel
theorem dX4_own_41 : decode cX4_own 41 = .ok (.ladd, 1) := by decide +kernel
theorem dX4_own_42 : decode cX4_own 42 = .ok (.lreturn, 1) := by decide +kernel
theorem dX4_weight_0 : decode cX4_weight 0 = .ok (.aload_n 0, 1) := by decide +kernel
theorem dX4_weight_1 : decode cX4_weight 1 = .ok (.iconst 0, 1) := by decide +kernel
theorem dX4_weight_2 : decode cX4_weight 2 = .ok (.putfield 69, 3) := by decide +kernel
theorem dX4_weight_5 : decode cX4_weight 5 = .ok (.aload_n 0, 1) := by decide +kernel
theorem dX4_weight_6 : decode cX4_weight 6 = .ok (.iload_n 1, 1) := by decide +kernel
theorem dX4_weight_7 : decode cX4_weight 7 = .ok (.invokevirtual 76, 3) := by decide +kernel
theorem dX4_weight_10 : decode cX4_weight 10 = .ok (.ifCond .ne 6, 3) := by decide +kernel
theorem dX4_weight_13 : decode cX4_weight 13 = .ok (.bipush (-11), 2) := by decide +kernel
theorem dX4_weight_15 : decode cX4_weight 15 = .ok (.ireturn, 1) := by decide +kernel
theorem dX4_weight_16 : decode cX4_weight 16 = .ok (.lload_n 2, 1) := by decide +kernel
theorem dX4_weight_17 : decode cX4_weight 17 = .ok (.lconst 0, 1) := by decide +kernel
theorem dX4_weight_18 : decode cX4_weight 18 = .ok (.lcmp, 1) := by decide +kernel
theorem dX4_weight_19 : decode cX4_weight 19 = .ok (.ifCond .lt 11, 3) := by decide +kernel
theorem dX4_weight_22 : decode cX4_weight 22 = .ok (.lload_n 2, 1) := by decide +kernel
theorem dX4_weight_23 : decode cX4_weight 23 = .ok (.ldc2_w 111, 3) := by decide +kernel
theorem dX4_weight_26 : decode cX4_weight 26 = .ok (.lcmp, 1) := by decide +kernel
theorem dX4_weight_27 : decode cX4_weight 27 = .ok (.ifCond .le 6, 3) := by decide +kernel
theorem dX4_weight_30 : decode cX4_weight 30 = .ok (.bipush (-12), 2) := by decide +kernel
theorem dX4_weight_32 : decode cX4_weight 32 = .ok (.ireturn, 1) := by decide +kernel
theorem dX4_weight_33 : decode cX4_weight 33 = .ok (.aload_n 0, 1) := by decide +kernel
theorem dX4_weight_34 : decode cX4_weight 34 = .ok (.iload_n 1, 1) := by decide +kernel
theorem dX4_weight_35 : decode cX4_weight 35 = .ok (.invokevirtual 142, 3) := by decide +kernel
theorem dX4_weight_38 : decode cX4_weight 38 = .ok (.lstore 4, 2) := by decide +kernel
theorem dX4_weight_40 : decode cX4_weight 40 = .ok (.iconst 1, 1) := by decide +kernel
theorem dX4_weight_41 : decode cX4_weight 41 = .ok (.istore 6, 2) := by decide +kernel
theorem dX4_weight_43 : decode cX4_weight 43 = .ok (.iload 6, 2) := by decide +kernel
theorem dX4_weight_45 : decode cX4_weight 45 = .ok (.sipush 1061, 3) := by decide +kernel
theorem dX4_weight_48 : decode cX4_weight 48 = .ok (.if_icmp .ge 35, 3) := by decide +kernel
theorem dX4_weight_51 : decode cX4_weight 51 = .ok (.aload_n 0, 1) := by decide +kernel
theorem dX4_weight_52 : decode cX4_weight 52 = .ok (.iload 6, 2) := by decide +kernel
theorem dX4_weight_54 : decode cX4_weight 54 = .ok (.iload_n 1, 1) := by decide +kernel
theorem dX4_weight_55 : decode cX4_weight 55 = .ok (.invokevirtual 116, 3) := by decide +kernel
theorem dX4_weight_58 : decode cX4_weight 58 = .ok (.ifCond .eq 15, 3) := by decide +kernel
theorem dX4_weight_61 : decode cX4_weight 61 = .ok (.lload 4, 2) := by decide +kernel
theorem dX4_weight_63 : decode cX4_weight 63 = .ok (.aload_n 0, 1) := by decide +kernel
theorem dX4_weight_64 : decode cX4_weight 64 = .ok (.iload 6, 2) := by decide +kernel
theorem dX4_weight_66 : decode cX4_weight 66 = .ok (.invokevirtual 142, 3) := by decide +kernel
theorem dX4_weight_69 : decode cX4_weight 69 = .ok (.ladd, 1) := by decide +kernel
theorem dX4_weight_70 : decode cX4_weight 70 = .ok (.goto 5, 3) := by decide +kernel
theorem dX4_weight_73 : decode cX4_weight 73 = .ok (.lload 4, 2) := by decide +kernel
theorem dX4_weight_75 : decode cX4_weight 75 = .ok (.lstore 4, 2) := by decide +kernel
theorem dX4_weight_77 : decode cX4_weight 77 = .ok (.iinc 6 1, 3) := by decide +kernel
theorem dX4_weight_80 : decode cX4_weight 80 = .ok (.goto (-37), 3) := by decide +kernel
theorem dX4_weight_83 : decode cX4_weight 83 = .ok (.lload_n 2, 1) := by decide +kernel
theorem dX4_weight_84 : decode cX4_weight 84 = .ok (.lload 4, 2) := by decide +kernel
theorem dX4_weight_86 : decode cX4_weight 86 = .ok (.lcmp, 1) := by decide +kernel
theorem dX4_weight_87 : decode cX4_weight 87 = .ok (.ifCond .ge 10, 3) := by decide +kernel
theorem dX4_weight_90 : decode cX4_weight 90 = .ok (.lload 4, 2) := by decide +kernel
theorem dX4_weight_92 : decode cX4_weight 92 = .ok (.lload_n 2, 1) := by decide +kernel
theorem dX4_weight_93 : decode cX4_weight 93 = .ok (.lsub, 1) := by decide +kernel
theorem dX4_weight_94 : decode cX4_weight 94 = .ok (.goto 7, 3) := by decide +kernel
theorem dX4_weight_97 : decode cX4_weight 97 = .ok (.lload_n 2, 1) := by decide +kernel
theorem dX4_weight_98 : decode cX4_weight 98 = .ok (.lload 4, 2) := by decide +kernel
theorem dX4_weight_100 : decode cX4_weight 100 = .ok (.lsub, 1) := by decide +kernel
theorem dX4_weight_101 : decode cX4_weight 101 = .ok (.lstore 6, 2) := by decide +kernel
theorem dX4_weight_103 : decode cX4_weight 103 = .ok (.lload 6, 2) := by decide +kernel
theorem dX4_weight_105 : decode cX4_weight 105 = .ok (.lload 4, 2) := by decide +kernel
theorem dX4_weight_107 : decode cX4_weight 107 = .ok (.ldc2_w 146, 3) := by decide +kernel
theorem dX4_weight_110 : decode cX4_weight 110 = .ok (.ldiv, 1) := by decide +kernel
theorem dX4_weight_111 : decode cX4_weight 111 = .ok (.lcmp, 1) := by decide +kernel
theorem dX4_weight_112 : decode cX4_weight 112 = .ok (.ifCond .gt 5, 3) := by decide +kernel
theorem dX4_weight_115 : decode cX4_weight 115 = .ok (.iconst 1, 1) := by decide +kernel
theorem dX4_weight_116 : decode cX4_weight 116 = .ok (.ireturn, 1) := by decide +kernel
theorem dX4_weight_117 : decode cX4_weight 117 = .ok (.iload_n 1, 1) := by decide +kernel
theorem dX4_weight_118 : decode cX4_weight 118 = .ok (.sipush 1001, 3) := by decide +kernel
theorem dX4_weight_121 : decode cX4_weight 121 = .ok (.isub, 1) := by decide +kernel
theorem dX4_weight_122 : decode cX4_weight 122 = .ok (.istore 8, 2) := by decide +kernel
theorem dX4_weight_124 : decode cX4_weight 124 = .ok (.aload_n 0, 1) := by decide +kernel
theorem dX4_weight_125 : decode cX4_weight 125 = .ok (.getfield 54, 3) := by decide +kernel
theorem dX4_weight_128 : decode cX4_weight 128 = .ok (.iload 8, 2) := by decide +kernel
theorem dX4_weight_130 : decode cX4_weight 130 = .ok (.iaload, 1) := by decide +kernel
theorem dX4_weight_131 : decode cX4_weight 131 = .ok (.bipush 6, 2) := by decide +kernel
theorem dX4_weight_133 : decode cX4_weight 133 = .ok (.if_icmp .ge 33, 3) := by decide +kernel
theorem dX4_weight_136 : decode cX4_weight 136 = .ok (.aload_n 0, 1) := by decide +kernel
theorem dX4_weight_137 : decode cX4_weight 137 = .ok (.getfield 57, 3) := by decide +kernel
theorem dX4_weight_140 : decode cX4_weight 140 = .ok (.bipush 6, 2) := by decide +kernel
theorem dX4_weight_142 : decode cX4_weight 142 = .ok (.iload 8, 2) := by decide +kernel
theorem dX4_weight_144 : decode cX4_weight 144 = .ok (.imul, 1) := by decide +kernel
theorem dX4_weight_145 : decode cX4_weight 145 = .ok (.aload_n 0, 1) := by decide +kernel
theorem dX4_weight_146 : decode cX4_weight 146 = .ok (.getfield 54, 3) := by decide +kernel
theorem dX4_weight_149 : decode cX4_weight 149 = .ok (.iload 8, 2) := by decide +kernel
theorem dX4_weight_151 : decode cX4_weight 151 = .ok (.iaload, 1) := by decide +kernel
theorem dX4_weight_152 : decode cX4_weight 152 = .ok (.iadd, 1) := by decide +kernel
theorem dX4_weight_153 : decode cX4_weight 153 = .ok (.lload_n 2, 1) := by decide +kernel
theorem dX4_weight_154 : decode cX4_weight 154 = .ok (.lastore, 1) := by decide +kernel
theorem dX4_weight_155 : decode cX4_weight 155 = .ok (.aload_n 0, 1) := by decide +kernel
theorem dX4_weight_156 : decode cX4_weight 156 = .ok (.getfield 54, 3) := by decide +kernel
theorem dX4_weight_159 : decode cX4_weight 159 = .ok (.iload 8, 2) := by decide +kernel
theorem dX4_weight_161 : decode cX4_weight 161 = .ok (.dup2, 1) := by decide +kernel
theorem dX4_weight_162 : decode cX4_weight 162 = .ok (.iaload, 1) := by decide +kernel
theorem dX4_weight_163 : decode cX4_weight 163 = .ok (.iconst 1, 1) := by decide +kernel
theorem dX4_weight_164 : decode cX4_weight 164 = .ok (.iadd, 1) := by decide +kernel
theorem dX4_weight_165 : decode cX4_weight 165 = .ok (.iastore, 1) := by decide +kernel
theorem dX4_weight_166 : decode cX4_weight 166 = .ok (.aload_n 0, 1) := by decide +kernel
theorem dX4_weight_167 : decode cX4_weight 167 = .ok (.invokevirtual 113, 3) := by decide +kernel
theorem dX4_weight_170 : decode cX4_weight 170 = .ok (.iconst 0, 1) := by decide +kernel
theorem dX4_weight_171 : decode cX4_weight 171 = .ok (.ireturn, 1) := by decide +kernel
theorem dX4_document_0 : decode cX4_document 0 = .ok (.aload_n 0, 1) := by decide +kernel
theorem dX4_document_1 : decode cX4_document 1 = .ok (.iconst 0, 1) := by decide +kernel
theorem dX4_document_2 : decode cX4_document 2 = .ok (.putfield 69, 3) := by decide +kernel
theorem dX4_document_5 : decode cX4_document 5 = .ok (.aload_n 0, 1) := by decide +kernel
theorem dX4_document_6 : decode cX4_document 6 = .ok (.iload_n 1, 1) := by decide +kernel
theorem dX4_document_7 : decode cX4_document 7 = .ok (.invokevirtual 76, 3) := by decide +kernel
theorem dX4_document_10 : decode cX4_document 10 = .ok (.ifCond .ne 6, 3) := by decide +kernel
theorem dX4_document_13 : decode cX4_document 13 = .ok (.bipush (-11), 2) := by decide +kernel
theorem dX4_document_15 : decode cX4_document 15 = .ok (.ireturn, 1) := by decide +kernel
theorem dX4_document_16 : decode cX4_document 16 = .ok (.iload_n 2, 1) := by decide +kernel
theorem dX4_document_17 : decode cX4_document 17 = .ok (.ifCond .lt 35, 3) := by decide +kernel
theorem dX4_document_20 : decode cX4_document 20 = .ok (.iload_n 2, 1) := by decide +kernel
theorem dX4_document_21 : decode cX4_document 21 = .ok (.aload_n 0, 1) := by decide +kernel
theorem dX4_document_22 : decode cX4_document 22 = .ok (.getfield 39, 3) := by decide +kernel
theorem dX4_document_25 : decode cX4_document 25 = .ok (.iload_n 1, 1) := by decide +kernel
theorem dX4_document_26 : decode cX4_document 26 = .ok (.sipush 1001, 3) := by decide +kernel
theorem dX4_document_29 : decode cX4_document 29 = .ok (.isub, 1) := by decide +kernel
theorem dX4_document_30 : decode cX4_document 30 = .ok (.iaload, 1) := by decide +kernel
theorem dX4_document_31 : decode cX4_document 31 = .ok (.if_icmp .ge 21, 3) := by decide +kernel
theorem dX4_document_34 : decode cX4_document 34 = .ok (.aload_n 0, 1) := by decide +kernel
theorem dX4_document_35 : decode cX4_document 35 = .ok (.getfield 42, 3) := by decide +kernel
theorem dX4_document_38 : decode cX4_document 38 = .ok (.bipush 12, 2) := by decide +kernel
theorem dX4_document_40 : decode cX4_document 40 = .ok (.iload_n 1, 1) := by decide +kernel
theorem dX4_document_41 : decode cX4_document 41 = .ok (.sipush 1001, 3) := by decide +kernel
theorem dX4_document_44 : decode cX4_document 44 = .ok (.isub, 1) := by decide +kernel
theorem dX4_document_45 : decode cX4_document 45 = .ok (.imul, 1) := by decide +kernel
theorem dX4_document_46 : decode cX4_document 46 = .ok (.iload_n 2, 1) := by decide +kernel
theorem dX4_document_47 : decode cX4_document 47 = .ok (.iadd, 1) := by decide +kernel
theorem dX4_document_48 : decode cX4_document 48 = .ok (.iaload, 1) := by decide +kernel
theorem dX4_document_49 : decode cX4_document 49 = .ok (.goto 4, 3) := by decide +kernel
theorem dX4_document_52 : decode cX4_document 52 = .ok (.iconst 0, 1) := by decide +kernel
theorem dX4_document_53 : decode cX4_document 53 = .ok (.ireturn, 1) := by decide +kernel
theorem dX4_move_0 : decode cX4_move 0 = .ok (.aload_n 0, 1) := by decide +kernel
theorem dX4_move_1 : decode cX4_move 1 = .ok (.iconst 0, 1) := by decide +kernel
theorem dX4_move_2 : decode cX4_move 2 = .ok (.putfield 69, 3) := by decide +kernel
theorem dX4_move_5 : decode cX4_move 5 = .ok (.aload_n 0, 1) := by decide +kernel
theorem dX4_move_6 : decode cX4_move 6 = .ok (.iload_n 1, 1) := by decide +kernel
theorem dX4_move_7 : decode cX4_move 7 = .ok (.invokevirtual 76, 3) := by decide +kernel
theorem dX4_move_10 : decode cX4_move 10 = .ok (.ifCond .ne 6, 3) := by decide +kernel
theorem dX4_move_13 : decode cX4_move 13 = .ok (.bipush (-11), 2) := by decide +kernel
theorem dX4_move_15 : decode cX4_move 15 = .ok (.ireturn, 1) := by decide +kernel
theorem dX4_move_16 : decode cX4_move 16 = .ok (.iload_n 2, 1) := by decide +kernel
theorem dX4_move_17 : decode cX4_move 17 = .ok (.ifCond .lt 9, 3) := by decide +kernel
theorem dX4_move_20 : decode cX4_move 20 = .ok (.iload_n 2, 1) := by decide +kernel
theorem dX4_move_21 : decode cX4_move 21 = .ok (.bipush 9, 2) := by decide +kernel
theorem dX4_move_23 : decode cX4_move 23 = .ok (.if_icmp .le 6, 3) := by decide +kernel
theorem dX4_move_26 : decode cX4_move 26 = .ok (.bipush (-12), 2) := by decide +kernel
theorem dX4_move_28 : decode cX4_move 28 = .ok (.ireturn, 1) := by decide +kernel
theorem dX4_move_29 : decode cX4_move 29 = .ok (.aload_n 0, 1) := by decide +kernel
theorem dX4_move_30 : decode cX4_move 30 = .ok (.getfield 22, 3) := by decide +kernel
theorem dX4_move_33 : decode cX4_move 33 = .ok (.iload_n 1, 1) := by decide +kernel
theorem dX4_move_34 : decode cX4_move 34 = .ok (.sipush 1001, 3) := by decide +kernel
theorem dX4_move_37 : decode cX4_move 37 = .ok (.isub, 1) := by decide +kernel
theorem dX4_move_38 : decode cX4_move 38 = .ok (.baload, 1) := by decide +kernel
theorem dX4_move_39 : decode cX4_move 39 = .ok (.ifCond .eq 21, 3) := by decide +kernel
theorem dX4_move_42 : decode cX4_move 42 = .ok (.aload_n 0, 1) := by decide +kernel
theorem dX4_move_43 : decode cX4_move 43 = .ok (.getfield 7, 3) := by decide +kernel
theorem dX4_move_46 : decode cX4_move 46 = .ok (.iload_n 1, 1) := by decide +kernel
theorem dX4_move_47 : decode cX4_move 47 = .ok (.iaload, 1) := by decide +kernel
theorem dX4_move_48 : decode cX4_move 48 = .ok (.ifCond .ne 12, 3) := by decide +kernel
theorem dX4_move_51 : decode cX4_move 51 = .ok (.aload_n 0, 1) := by decide +kernel
theorem dX4_move_52 : decode cX4_move 52 = .ok (.iload_n 1, 1) := by decide +kernel
theorem dX4_move_53 : decode cX4_move 53 = .ok (.iload_n 2, 1) := by decide +kernel
theorem dX4_move_54 : decode cX4_move 54 = .ok (.invokevirtual 127, 3) := by decide +kernel
theorem dX4_move_57 : decode cX4_move 57 = .ok (.goto 5, 3) := by decide +kernel
theorem dX4_move_60 : decode cX4_move 60 = .ok (.bipush (-13), 2) := by decide +kernel
theorem dX4_move_62 : decode cX4_move 62 = .ok (.ireturn, 1) := by decide +kernel
theorem dX4_place_0 : decode cX4_place 0 = .ok (.aload_n 0, 1) := by decide +kernel
theorem dX4_place_1 : decode cX4_place 1 = .ok (.iconst 0, 1) := by decide +kernel
theorem dX4_place_2 : decode cX4_place 2 = .ok (.putfield 69, 3) := by decide +kernel
theorem dX4_place_5 : decode cX4_place 5 = .ok (.aload_n 0, 1) := by decide +kernel
theorem dX4_place_6 : decode cX4_place 6 = .ok (.iload_n 1, 1) := by decide +kernel
theorem dX4_place_7 : decode cX4_place 7 = .ok (.invokevirtual 95, 3) := by decide +kernel
theorem dX4_place_10 : decode cX4_place 10 = .ok (.ifCond .eq 12, 3) := by decide +kernel
theorem dX4_place_13 : decode cX4_place 13 = .ok (.aload_n 0, 1) := by decide +kernel
theorem dX4_place_14 : decode cX4_place 14 = .ok (.getfield 16, 3) := by decide +kernel
theorem dX4_place_17 : decode cX4_place 17 = .ok (.iload_n 1, 1) := by decide +kernel
theorem dX4_place_18 : decode cX4_place 18 = .ok (.iaload, 1) := by decide +kernel
theorem dX4_place_19 : decode cX4_place 19 = .ok (.goto 5, 3) := by decide +kernel
theorem dX4_place_22 : decode cX4_place 22 = .ok (.bipush (-11), 2) := by decide +kernel
theorem dX4_place_24 : decode cX4_place 24 = .ok (.ireturn, 1) := by decide +kernel
theorem dX4_tick_0 : decode cX4_tick 0 = .ok (.aload_n 0, 1) := by decide +kernel
theorem dX4_tick_1 : decode cX4_tick 1 = .ok (.iconst 0, 1) := by decide +kernel
theorem dX4_tick_2 : decode cX4_tick 2 = .ok (.putfield 69, 3) := by decide +kernel
theorem dX4_tick_5 : decode cX4_tick 5 = .ok (.lload_n 1, 1) := by decide +kernel
theorem dX4_tick_6 : decode cX4_tick 6 = .ok (.aload_n 0, 1) := by decide +kernel
theorem dX4_tick_7 : decode cX4_tick 7 = .ok (.getfield 90, 3) := by decide +kernel
theorem dX4_tick_10 : decode cX4_tick 10 = .ok (.lcmp, 1) := by decide +kernel
theorem dX4_tick_11 : decode cX4_tick 11 = .ok (.ifCond .lt 11, 3) := by decide +kernel
theorem dX4_tick_14 : decode cX4_tick 14 = .ok (.lload_n 1, 1) := by decide +kernel
theorem dX4_tick_15 : decode cX4_tick 15 = .ok (.ldc2_w 148, 3) := by decide +kernel
theorem dX4_tick_18 : decode cX4_tick 18 = .ok (.lcmp, 1) := by decide +kernel
theorem dX4_tick_19 : decode cX4_tick 19 = .ok (.ifCond .le 6, 3) := by decide +kernel
theorem dX4_tick_22 : decode cX4_tick 22 = .ok (.bipush (-12), 2) := by decide +kernel
theorem dX4_tick_24 : decode cX4_tick 24 = .ok (.ireturn, 1) := by decide +kernel
theorem dX4_tick_25 : decode cX4_tick 25 = .ok (.aload_n 0, 1) := by decide +kernel
theorem dX4_tick_26 : decode cX4_tick 26 = .ok (.lload_n 1, 1) := by decide +kernel
theorem dX4_tick_27 : decode cX4_tick 27 = .ok (.putfield 90, 3) := by decide +kernel
theorem dX4_tick_30 : decode cX4_tick 30 = .ok (.iconst 0, 1) := by decide +kernel
theorem dX4_tick_31 : decode cX4_tick 31 = .ok (.istore_n 3, 1) := by decide +kernel
theorem dX4_tick_32 : decode cX4_tick 32 = .ok (.iconst 0, 1) := by decide +kernel
theorem dX4_tick_33 : decode cX4_tick 33 = .ok (.istore 4, 2) := by decide +kernel
theorem dX4_tick_35 : decode cX4_tick 35 = .ok (.iload 4, 2) := by decide +kernel
theorem dX4_tick_37 : decode cX4_tick 37 = .ok (.aload_n 0, 1) := by decide +kernel
theorem dX4_tick_38 : decode cX4_tick 38 = .ok (.getfield 87, 3) := by decide +kernel
theorem dX4_tick_41 : decode cX4_tick 41 = .ok (.if_icmp .ge 47, 3) := by decide +kernel
theorem dX4_tick_44 : decode cX4_tick 44 = .ok (.aload_n 0, 1) := by decide +kernel
theorem dX4_tick_45 : decode cX4_tick 45 = .ok (.getfield 66, 3) := by decide +kernel
theorem dX4_tick_48 : decode cX4_tick 48 = .ok (.iload 4, 2) := by decide +kernel
theorem dX4_tick_50 : decode cX4_tick 50 = .ok (.laload, 1) := by decide +kernel
theorem dX4_tick_51 : decode cX4_tick 51 = .ok (.aload_n 0, 1) := by decide +kernel
theorem dX4_tick_52 : decode cX4_tick 52 = .ok (.getfield 62, 3) := by decide +kernel
theorem dX4_tick_55 : decode cX4_tick 55 = .ok (.lcmp, 1) := by decide +kernel
theorem dX4_tick_56 : decode cX4_tick 56 = .ok (.ifCond .le 24, 3) := by decide +kernel
theorem dX4_tick_59 : decode cX4_tick 59 = .ok (.aload_n 0, 1) := by decide +kernel
theorem dX4_tick_60 : decode cX4_tick 60 = .ok (.getfield 66, 3) := by decide +kernel
theorem dX4_tick_63 : decode cX4_tick 63 = .ok (.iload 4, 2) := by decide +kernel
theorem dX4_tick_65 : decode cX4_tick 65 = .ok (.laload, 1) := by decide +kernel
theorem dX4_tick_66 : decode cX4_tick 66 = .ok (.aload_n 0, 1) := by decide +kernel
theorem dX4_tick_67 : decode cX4_tick 67 = .ok (.getfield 90, 3) := by decide +kernel
theorem dX4_tick_70 : decode cX4_tick 70 = .ok (.lcmp, 1) := by decide +kernel
theorem dX4_tick_71 : decode cX4_tick 71 = .ok (.ifCond .gt 9, 3) := by decide +kernel
theorem dX4_tick_74 : decode cX4_tick 74 = .ok (.iload_n 3, 1) := by decide +kernel
theorem dX4_tick_75 : decode cX4_tick 75 = .ok (.iconst 1, 1) := by decide +kernel
theorem dX4_tick_76 : decode cX4_tick 76 = .ok (.iadd, 1) := by decide +kernel
theorem dX4_tick_77 : decode cX4_tick 77 = .ok (.goto 4, 3) := by decide +kernel
theorem dX4_tick_80 : decode cX4_tick 80 = .ok (.iload_n 3, 1) := by decide +kernel
theorem dX4_tick_81 : decode cX4_tick 81 = .ok (.istore_n 3, 1) := by decide +kernel
theorem dX4_tick_82 : decode cX4_tick 82 = .ok (.iinc 4 1, 3) := by decide +kernel
theorem dX4_tick_85 : decode cX4_tick 85 = .ok (.goto (-50), 3) := by decide +kernel
theorem dX4_tick_88 : decode cX4_tick 88 = .ok (.aload_n 0, 1) := by decide +kernel
theorem dX4_tick_89 : decode cX4_tick 89 = .ok (.aload_n 0, 1) := by decide +kernel
theorem dX4_tick_90 : decode cX4_tick 90 = .ok (.getfield 90, 3) := by decide +kernel
theorem dX4_tick_93 : decode cX4_tick 93 = .ok (.putfield 62, 3) := by decide +kernel
theorem dX4_tick_96 : decode cX4_tick 96 = .ok (.iload_n 3, 1) := by decide +kernel
theorem dX4_tick_97 : decode cX4_tick 97 = .ok (.ireturn, 1) := by decide +kernel
end
section
theorem dL_law_0 : decode cL_law 0 = .ok (.new 7, 3) := by decide +kernel
theorem dL_law_3 : decode cL_law 3 = .ok (.dup, 1) := by decide +kernel
theorem dL_law_4 : decode cL_law 4 = .ok (.invokespecial 9, 3) := by decide +kernel
theorem dL_law_7 : decode cL_law 7 = .ok (.astore_n 1, 1) := by decide +kernel
theorem dL_law_8 : decode cL_law 8 = .ok (.new 10, 3) := by decide +kernel
theorem dL_law_11 : decode cL_law 11 = .ok (.dup, 1) := by decide +kernel
theorem dL_law_12 : decode cL_law 12 = .ok (.invokespecial 12, 3) := by decide +kernel
theorem dL_law_15 : decode cL_law 15 = .ok (.astore_n 2, 1) := by decide +kernel
theorem dL_law_16 : decode cL_law 16 = .ok (.iconst 0, 1) := by decide +kernel
theorem dL_law_17 : decode cL_law 17 = .ok (.istore_n 3, 1) := by decide +kernel
theorem dL_law_18 : decode cL_law 18 = .ok (.iload_n 3, 1) := by decide +kernel
theorem dL_law_19 : decode cL_law 19 = .ok (.aload_n 0, 1) := by decide +kernel
theorem dL_law_20 : decode cL_law 20 = .ok (.arraylength, 1) := by decide +kernel
theorem dL_law_21 : decode cL_law 21 = .ok (.bipush 6, 2) := by decide +kernel
theorem dL_law_23 : decode cL_law 23 = .ok (.isub, 1) := by decide +kernel
theorem dL_law_24 : decode cL_law 24 = .ok (.if_icmp .gt 621, 3) := by decide +kernel
theorem dL_law_27 : decode cL_law 27 = .ok (.aload_n 0, 1) := by decide +kernel
theorem dL_law_28 : decode cL_law 28 = .ok (.iload_n 3, 1) := by decide +kernel
theorem dL_law_29 : decode cL_law 29 = .ok (.iaload, 1) := by decide +kernel
theorem dL_law_30 : decode cL_law 30 = .ok (.bipush 15, 2) := by decide +kernel
theorem dL_law_32 : decode cL_law 32 = .ok (.iand, 1) := by decide +kernel
theorem dL_law_33 : decode cL_law 33 = .ok (.tableswitch 606 0 12 #[67, 90, 123, 146, 219, 302, 335, 378, 401, 464, 497, 530, 553], 67) := by decide +kernel
theorem dL_law_100 : decode cL_law 100 = .ok (.aload_n 1, 1) := by decide +kernel
theorem dL_law_101 : decode cL_law 101 = .ok (.aload_n 0, 1) := by decide +kernel
theorem dL_law_102 : decode cL_law 102 = .ok (.iload_n 3, 1) := by decide +kernel
theorem dL_law_103 : decode cL_law 103 = .ok (.iconst 1, 1) := by decide +kernel
theorem dL_law_104 : decode cL_law 104 = .ok (.iadd, 1) := by decide +kernel
theorem dL_law_105 : decode cL_law 105 = .ok (.iaload, 1) := by decide +kernel
theorem dL_law_106 : decode cL_law 106 = .ok (.invokevirtual 13, 3) := by decide +kernel
theorem dL_law_109 : decode cL_law 109 = .ok (.aload_n 2, 1) := by decide +kernel
theorem dL_law_110 : decode cL_law 110 = .ok (.aload_n 0, 1) := by decide +kernel
theorem dL_law_111 : decode cL_law 111 = .ok (.iload_n 3, 1) := by decide +kernel
theorem dL_law_112 : decode cL_law 112 = .ok (.iconst 1, 1) := by decide +kernel
theorem dL_law_113 : decode cL_law 113 = .ok (.iadd, 1) := by decide +kernel
theorem dL_law_114 : decode cL_law 114 = .ok (.iaload, 1) := by decide +kernel
theorem dL_law_115 : decode cL_law 115 = .ok (.invokevirtual 17, 3) := by decide +kernel
theorem dL_law_118 : decode cL_law 118 = .ok (.if_icmp .eq 521, 3) := by decide +kernel
theorem dL_law_121 : decode cL_law 121 = .ok (.iconst 0, 1) := by decide +kernel
theorem dL_law_122 : decode cL_law 122 = .ok (.ireturn, 1) := by decide +kernel
theorem dL_law_123 : decode cL_law 123 = .ok (.aload_n 1, 1) := by decide +kernel
theorem dL_law_124 : decode cL_law 124 = .ok (.aload_n 0, 1) := by decide +kernel
theorem dL_law_125 : decode cL_law 125 = .ok (.iload_n 3, 1) := by decide +kernel
theorem dL_law_126 : decode cL_law 126 = .ok (.iconst 1, 1) := by decide +kernel
theorem dL_law_127 : decode cL_law 127 = .ok (.iadd, 1) := by decide +kernel
theorem dL_law_128 : decode cL_law 128 = .ok (.iaload, 1) := by decide +kernel
theorem dL_law_129 : decode cL_law 129 = .ok (.aload_n 0, 1) := by decide +kernel
theorem dL_law_130 : decode cL_law 130 = .ok (.iload_n 3, 1) := by decide +kernel
theorem dL_law_131 : decode cL_law 131 = .ok (.iconst 2, 1) := by decide +kernel
theorem dL_law_132 : decode cL_law 132 = .ok (.iadd, 1) := by decide +kernel
theorem dL_law_133 : decode cL_law 133 = .ok (.iaload, 1) := by decide +kernel
theorem dL_law_134 : decode cL_law 134 = .ok (.invokevirtual 18, 3) := by decide +kernel
theorem dL_law_137 : decode cL_law 137 = .ok (.aload_n 2, 1) := by decide +kernel
theorem dL_law_138 : decode cL_law 138 = .ok (.aload_n 0, 1) := by decide +kernel
theorem dL_law_139 : decode cL_law 139 = .ok (.iload_n 3, 1) := by decide +kernel
theorem dL_law_140 : decode cL_law 140 = .ok (.iconst 1, 1) := by decide +kernel
theorem dL_law_141 : decode cL_law 141 = .ok (.iadd, 1) := by decide +kernel
theorem dL_law_142 : decode cL_law 142 = .ok (.iaload, 1) := by decide +kernel
theorem dL_law_143 : decode cL_law 143 = .ok (.aload_n 0, 1) := by decide +kernel
theorem dL_law_144 : decode cL_law 144 = .ok (.iload_n 3, 1) := by decide +kernel
theorem dL_law_145 : decode cL_law 145 = .ok (.iconst 2, 1) := by decide +kernel
theorem dL_law_146 : decode cL_law 146 = .ok (.iadd, 1) := by decide +kernel
theorem dL_law_147 : decode cL_law 147 = .ok (.iaload, 1) := by decide +kernel
theorem dL_law_148 : decode cL_law 148 = .ok (.invokevirtual 22, 3) := by decide +kernel
theorem dL_law_151 : decode cL_law 151 = .ok (.if_icmp .eq 488, 3) := by decide +kernel
theorem dL_law_154 : decode cL_law 154 = .ok (.iconst 0, 1) := by decide +kernel
theorem dL_law_155 : decode cL_law 155 = .ok (.ireturn, 1) := by decide +kernel
theorem dL_law_156 : decode cL_law 156 = .ok (.aload_n 1, 1) := by decide +kernel
theorem dL_law_157 : decode cL_law 157 = .ok (.aload_n 0, 1) := by decide +kernel
theorem dL_law_158 : decode cL_law 158 = .ok (.iload_n 3, 1) := by decide +kernel
theorem dL_law_159 : decode cL_law 159 = .ok (.iconst 1, 1) := by decide +kernel
theorem dL_law_160 : decode cL_law 160 = .ok (.iadd, 1) := by decide +kernel
theorem dL_law_161 : decode cL_law 161 = .ok (.iaload, 1) := by decide +kernel
theorem dL_law_162 : decode cL_law 162 = .ok (.invokevirtual 23, 3) := by decide +kernel
theorem dL_law_165 : decode cL_law 165 = .ok (.aload_n 2, 1) := by decide +kernel
theorem dL_law_166 : decode cL_law 166 = .ok (.aload_n 0, 1) := by decide +kernel
theorem dL_law_167 : decode cL_law 167 = .ok (.iload_n 3, 1) := by decide +kernel
theorem dL_law_168 : decode cL_law 168 = .ok (.iconst 1, 1) := by decide +kernel
theorem dL_law_169 : decode cL_law 169 = .ok (.iadd, 1) := by decide +kernel
theorem dL_law_170 : decode cL_law 170 = .ok (.iaload, 1) := by decide +kernel
theorem dL_law_171 : decode cL_law 171 = .ok (.invokevirtual 26, 3) := by decide +kernel
theorem dL_law_174 : decode cL_law 174 = .ok (.if_icmp .eq 465, 3) := by decide +kernel
theorem dL_law_177 : decode cL_law 177 = .ok (.iconst 0, 1) := by decide +kernel
theorem dL_law_178 : decode cL_law 178 = .ok (.ireturn, 1) := by decide +kernel
theorem dL_law_179 : decode cL_law 179 = .ok (.aload_n 1, 1) := by decide +kernel
theorem dL_law_180 : decode cL_law 180 = .ok (.aload_n 0, 1) := by decide +kernel
theorem dL_law_181 : decode cL_law 181 = .ok (.iload_n 3, 1) := by decide +kernel
theorem dL_law_182 : decode cL_law 182 = .ok (.iconst 1, 1) := by decide +kernel
theorem dL_law_183 : decode cL_law 183 = .ok (.iadd, 1) := by decide +kernel
theorem dL_law_184 : decode cL_law 184 = .ok (.iaload, 1) := by decide +kernel
theorem dL_law_185 : decode cL_law 185 = .ok (.aload_n 0, 1) := by decide +kernel
theorem dL_law_186 : decode cL_law 186 = .ok (.iload_n 3, 1) := by decide +kernel
theorem dL_law_187 : decode cL_law 187 = .ok (.iconst 2, 1) := by decide +kernel
theorem dL_law_188 : decode cL_law 188 = .ok (.iadd, 1) := by decide +kernel
theorem dL_law_189 : decode cL_law 189 = .ok (.iaload, 1) := by decide +kernel
theorem dL_law_190 : decode cL_law 190 = .ok (.i2l, 1) := by decide +kernel
theorem dL_law_191 : decode cL_law 191 = .ok (.bipush 32, 2) := by decide +kernel
theorem dL_law_193 : decode cL_law 193 = .ok (.lshl, 1) := by decide +kernel
theorem dL_law_194 : decode cL_law 194 = .ok (.aload_n 0, 1) := by decide +kernel
theorem dL_law_195 : decode cL_law 195 = .ok (.iload_n 3, 1) := by decide +kernel
theorem dL_law_196 : decode cL_law 196 = .ok (.iconst 3, 1) := by decide +kernel
theorem dL_law_197 : decode cL_law 197 = .ok (.iadd, 1) := by decide +kernel
theorem dL_law_198 : decode cL_law 198 = .ok (.iaload, 1) := by decide +kernel
theorem dL_law_199 : decode cL_law 199 = .ok (.i2l, 1) := by decide +kernel
theorem dL_law_200 : decode cL_law 200 = .ok (.ldc2_w 27, 3) := by decide +kernel
theorem dL_law_203 : decode cL_law 203 = .ok (.land, 1) := by decide +kernel
theorem dL_law_204 : decode cL_law 204 = .ok (.lor, 1) := by decide +kernel
theorem dL_law_205 : decode cL_law 205 = .ok (.aload_n 0, 1) := by decide +kernel
theorem dL_law_206 : decode cL_law 206 = .ok (.iload_n 3, 1) := by decide +kernel
theorem dL_law_207 : decode cL_law 207 = .ok (.iconst 4, 1) := by decide +kernel
theorem dL_law_208 : decode cL_law 208 = .ok (.iadd, 1) := by decide +kernel
theorem dL_law_209 : decode cL_law 209 = .ok (.iaload, 1) := by decide +kernel
theorem dL_law_210 : decode cL_law 210 = .ok (.invokevirtual 29, 3) := by decide +kernel
theorem dL_law_213 : decode cL_law 213 = .ok (.aload_n 2, 1) := by decide +kernel
theorem dL_law_214 : decode cL_law 214 = .ok (.aload_n 0, 1) := by decide +kernel
theorem dL_law_215 : decode cL_law 215 = .ok (.iload_n 3, 1) := by decide +kernel
theorem dL_law_216 : decode cL_law 216 = .ok (.iconst 1, 1) := by decide +kernel
theorem dL_law_217 : decode cL_law 217 = .ok (.iadd, 1) := by decide +kernel
theorem dL_law_218 : decode cL_law 218 = .ok (.iaload, 1) := by decide +kernel
theorem dL_law_219 : decode cL_law 219 = .ok (.aload_n 0, 1) := by decide +kernel
theorem dL_law_220 : decode cL_law 220 = .ok (.iload_n 3, 1) := by decide +kernel
theorem dL_law_221 : decode cL_law 221 = .ok (.iconst 2, 1) := by decide +kernel
theorem dL_law_222 : decode cL_law 222 = .ok (.iadd, 1) := by decide +kernel
theorem dL_law_223 : decode cL_law 223 = .ok (.iaload, 1) := by decide +kernel
theorem dL_law_224 : decode cL_law 224 = .ok (.i2l, 1) := by decide +kernel
theorem dL_law_225 : decode cL_law 225 = .ok (.bipush 32, 2) := by decide +kernel
theorem dL_law_227 : decode cL_law 227 = .ok (.lshl, 1) := by decide +kernel
theorem dL_law_228 : decode cL_law 228 = .ok (.aload_n 0, 1) := by decide +kernel
theorem dL_law_229 : decode cL_law 229 = .ok (.iload_n 3, 1) := by decide +kernel
theorem dL_law_230 : decode cL_law 230 = .ok (.iconst 3, 1) := by decide +kernel
theorem dL_law_231 : decode cL_law 231 = .ok (.iadd, 1) := by decide +kernel
theorem dL_law_232 : decode cL_law 232 = .ok (.iaload, 1) := by decide +kernel
theorem dL_law_233 : decode cL_law 233 = .ok (.i2l, 1) := by decide +kernel
theorem dL_law_234 : decode cL_law 234 = .ok (.ldc2_w 27, 3) := by decide +kernel
theorem dL_law_237 : decode cL_law 237 = .ok (.land, 1) := by decide +kernel
theorem dL_law_238 : decode cL_law 238 = .ok (.lor, 1) := by decide +kernel
theorem dL_law_239 : decode cL_law 239 = .ok (.aload_n 0, 1) := by decide +kernel
theorem dL_law_240 : decode cL_law 240 = .ok (.iload_n 3, 1) := by decide +kernel
theorem dL_law_241 : decode cL_law 241 = .ok (.iconst 4, 1) := by decide +kernel
theorem dL_law_242 : decode cL_law 242 = .ok (.iadd, 1) := by decide +kernel
theorem dL_law_243 : decode cL_law 243 = .ok (.iaload, 1) := by decide +kernel
theorem dL_law_244 : decode cL_law 244 = .ok (.invokevirtual 33, 3) := by decide +kernel
theorem dL_law_247 : decode cL_law 247 = .ok (.if_icmp .eq 392, 3) := by decide +kernel
theorem dL_law_250 : decode cL_law 250 = .ok (.iconst 0, 1) := by decide +kernel
theorem dL_law_251 : decode cL_law 251 = .ok (.ireturn, 1) := by decide +kernel
theorem dL_law_252 : decode cL_law 252 = .ok (.aload_n 1, 1) := by decide +kernel
theorem dL_law_253 : decode cL_law 253 = .ok (.aload_n 0, 1) := by decide +kernel
theorem dL_law_254 : decode cL_law 254 = .ok (.iload_n 3, 1) := by decide +kernel
theorem dL_law_255 : decode cL_law 255 = .ok (.iconst 1, 1) := by decide +kernel
theorem dL_law_256 : decode cL_law 256 = .ok (.iadd, 1) := by decide +kernel
theorem dL_law_257 : decode cL_law 257 = .ok (.iaload, 1) := by decide +kernel
theorem dL_law_258 : decode cL_law 258 = .ok (.aload_n 0, 1) := by decide +kernel
theorem dL_law_259 : decode cL_law 259 = .ok (.iload_n 3, 1) := by decide +kernel
theorem dL_law_260 : decode cL_law 260 = .ok (.iconst 2, 1) := by decide +kernel
theorem dL_law_261 : decode cL_law 261 = .ok (.iadd, 1) := by decide +kernel
theorem dL_law_262 : decode cL_law 262 = .ok (.iaload, 1) := by decide +kernel
theorem dL_law_263 : decode cL_law 263 = .ok (.i2l, 1) := by decide +kernel
theorem dL_law_264 : decode cL_law 264 = .ok (.bipush 32, 2) := by decide +kernel
theorem dL_law_266 : decode cL_law 266 = .ok (.lshl, 1) := by decide +kernel
theorem dL_law_267 : decode cL_law 267 = .ok (.aload_n 0, 1) := by decide +kernel
theorem dL_law_268 : decode cL_law 268 = .ok (.iload_n 3, 1) := by decide +kernel
theorem dL_law_269 : decode cL_law 269 = .ok (.iconst 3, 1) := by decide +kernel
theorem dL_law_270 : decode cL_law 270 = .ok (.iadd, 1) := by decide +kernel
theorem dL_law_271 : decode cL_law 271 = .ok (.iaload, 1) := by decide +kernel
theorem dL_law_272 : decode cL_law 272 = .ok (.i2l, 1) := by decide +kernel
theorem dL_law_273 : decode cL_law 273 = .ok (.ldc2_w 27, 3) := by decide +kernel
theorem dL_law_276 : decode cL_law 276 = .ok (.land, 1) := by decide +kernel
theorem dL_law_277 : decode cL_law 277 = .ok (.lor, 1) := by decide +kernel
theorem dL_law_278 : decode cL_law 278 = .ok (.aload_n 0, 1) := by decide +kernel
theorem dL_law_279 : decode cL_law 279 = .ok (.iload_n 3, 1) := by decide +kernel
theorem dL_law_280 : decode cL_law 280 = .ok (.iconst 4, 1) := by decide +kernel
theorem dL_law_281 : decode cL_law 281 = .ok (.iadd, 1) := by decide +kernel
theorem dL_law_282 : decode cL_law 282 = .ok (.iaload, 1) := by decide +kernel
theorem dL_law_283 : decode cL_law 283 = .ok (.aload_n 0, 1) := by decide +kernel
theorem dL_law_284 : decode cL_law 284 = .ok (.iload_n 3, 1) := by decide +kernel
theorem dL_law_285 : decode cL_law 285 = .ok (.iconst 5, 1) := by decide +kernel
theorem dL_law_286 : decode cL_law 286 = .ok (.iadd, 1) := by decide +kernel
theorem dL_law_287 : decode cL_law 287 = .ok (.iaload, 1) := by decide +kernel
theorem dL_law_288 : decode cL_law 288 = .ok (.invokevirtual 34, 3) := by decide +kernel
theorem dL_law_291 : decode cL_law 291 = .ok (.aload_n 2, 1) := by decide +kernel
theorem dL_law_292 : decode cL_law 292 = .ok (.aload_n 0, 1) := by decide +kernel
theorem dL_law_293 : decode cL_law 293 = .ok (.iload_n 3, 1) := by decide +kernel
theorem dL_law_294 : decode cL_law 294 = .ok (.iconst 1, 1) := by decide +kernel
theorem dL_law_295 : decode cL_law 295 = .ok (.iadd, 1) := by decide +kernel
theorem dL_law_296 : decode cL_law 296 = .ok (.iaload, 1) := by decide +kernel
theorem dL_law_297 : decode cL_law 297 = .ok (.aload_n 0, 1) := by decide +kernel
theorem dL_law_298 : decode cL_law 298 = .ok (.iload_n 3, 1) := by decide +kernel
theorem dL_law_299 : decode cL_law 299 = .ok (.iconst 2, 1) := by decide +kernel
theorem dL_law_300 : decode cL_law 300 = .ok (.iadd, 1) := by decide +kernel
theorem dL_law_301 : decode cL_law 301 = .ok (.iaload, 1) := by decide +kernel
theorem dL_law_302 : decode cL_law 302 = .ok (.i2l, 1) := by decide +kernel
theorem dL_law_303 : decode cL_law 303 = .ok (.bipush 32, 2) := by decide +kernel
theorem dL_law_305 : decode cL_law 305 = .ok (.lshl, 1) := by decide +kernel
theorem dL_law_306 : decode cL_law 306 = .ok (.aload_n 0, 1) := by decide +kernel
theorem dL_law_307 : decode cL_law 307 = .ok (.iload_n 3, 1) := by decide +kernel
theorem dL_law_308 : decode cL_law 308 = .ok (.iconst 3, 1) := by decide +kernel
theorem dL_law_309 : decode cL_law 309 = .ok (.iadd, 1) := by decide +kernel
theorem dL_law_310 : decode cL_law 310 = .ok (.iaload, 1) := by decide +kernel
theorem dL_law_311 : decode cL_law 311 = .ok (.i2l, 1) := by decide +kernel
theorem dL_law_312 : decode cL_law 312 = .ok (.ldc2_w 27, 3) := by decide +kernel
theorem dL_law_315 : decode cL_law 315 = .ok (.land, 1) := by decide +kernel
theorem dL_law_316 : decode cL_law 316 = .ok (.lor, 1) := by decide +kernel
theorem dL_law_317 : decode cL_law 317 = .ok (.aload_n 0, 1) := by decide +kernel
theorem dL_law_318 : decode cL_law 318 = .ok (.iload_n 3, 1) := by decide +kernel
theorem dL_law_319 : decode cL_law 319 = .ok (.iconst 4, 1) := by decide +kernel
theorem dL_law_320 : decode cL_law 320 = .ok (.iadd, 1) := by decide +kernel
theorem dL_law_321 : decode cL_law 321 = .ok (.iaload, 1) := by decide +kernel
theorem dL_law_322 : decode cL_law 322 = .ok (.aload_n 0, 1) := by decide +kernel
theorem dL_law_323 : decode cL_law 323 = .ok (.iload_n 3, 1) := by decide +kernel
theorem dL_law_324 : decode cL_law 324 = .ok (.iconst 5, 1) := by decide +kernel
theorem dL_law_325 : decode cL_law 325 = .ok (.iadd, 1) := by decide +kernel
theorem dL_law_326 : decode cL_law 326 = .ok (.iaload, 1) := by decide +kernel
theorem dL_law_327 : decode cL_law 327 = .ok (.invokevirtual 38, 3) := by decide +kernel
theorem dL_law_330 : decode cL_law 330 = .ok (.if_icmp .eq 309, 3) := by decide +kernel
theorem dL_law_333 : decode cL_law 333 = .ok (.iconst 0, 1) := by decide +kernel
theorem dL_law_334 : decode cL_law 334 = .ok (.ireturn, 1) := by decide +kernel
theorem dL_law_335 : decode cL_law 335 = .ok (.aload_n 1, 1) := by decide +kernel
theorem dL_law_336 : decode cL_law 336 = .ok (.aload_n 0, 1) := by decide +kernel
theorem dL_law_337 : decode cL_law 337 = .ok (.iload_n 3, 1) := by decide +kernel
theorem dL_law_338 : decode cL_law 338 = .ok (.iconst 1, 1) := by decide +kernel
theorem dL_law_339 : decode cL_law 339 = .ok (.iadd, 1) := by decide +kernel
theorem dL_law_340 : decode cL_law 340 = .ok (.iaload, 1) := by decide +kernel
theorem dL_law_341 : decode cL_law 341 = .ok (.aload_n 0, 1) := by decide +kernel
theorem dL_law_342 : decode cL_law 342 = .ok (.iload_n 3, 1) := by decide +kernel
theorem dL_law_343 : decode cL_law 343 = .ok (.iconst 2, 1) := by decide +kernel
theorem dL_law_344 : decode cL_law 344 = .ok (.iadd, 1) := by decide +kernel
theorem dL_law_345 : decode cL_law 345 = .ok (.iaload, 1) := by decide +kernel
theorem dL_law_346 : decode cL_law 346 = .ok (.invokevirtual 39, 3) := by decide +kernel
theorem dL_law_349 : decode cL_law 349 = .ok (.aload_n 2, 1) := by decide +kernel
theorem dL_law_350 : decode cL_law 350 = .ok (.aload_n 0, 1) := by decide +kernel
theorem dL_law_351 : decode cL_law 351 = .ok (.iload_n 3, 1) := by decide +kernel
theorem dL_law_352 : decode cL_law 352 = .ok (.iconst 1, 1) := by decide +kernel
theorem dL_law_353 : decode cL_law 353 = .ok (.iadd, 1) := by decide +kernel
theorem dL_law_354 : decode cL_law 354 = .ok (.iaload, 1) := by decide +kernel
theorem dL_law_355 : decode cL_law 355 = .ok (.aload_n 0, 1) := by decide +kernel
theorem dL_law_356 : decode cL_law 356 = .ok (.iload_n 3, 1) := by decide +kernel
theorem dL_law_357 : decode cL_law 357 = .ok (.iconst 2, 1) := by decide +kernel
theorem dL_law_358 : decode cL_law 358 = .ok (.iadd, 1) := by decide +kernel
theorem dL_law_359 : decode cL_law 359 = .ok (.iaload, 1) := by decide +kernel
theorem dL_law_360 : decode cL_law 360 = .ok (.invokevirtual 42, 3) := by decide +kernel
theorem dL_law_363 : decode cL_law 363 = .ok (.if_icmp .eq 276, 3) := by decide +kernel
theorem dL_law_366 : decode cL_law 366 = .ok (.iconst 0, 1) := by decide +kernel
theorem dL_law_367 : decode cL_law 367 = .ok (.ireturn, 1) := by decide +kernel
theorem dL_law_368 : decode cL_law 368 = .ok (.aload_n 1, 1) := by decide +kernel
theorem dL_law_369 : decode cL_law 369 = .ok (.aload_n 0, 1) := by decide +kernel
theorem dL_law_370 : decode cL_law 370 = .ok (.iload_n 3, 1) := by decide +kernel
theorem dL_law_371 : decode cL_law 371 = .ok (.iconst 1, 1) := by decide +kernel
theorem dL_law_372 : decode cL_law 372 = .ok (.iadd, 1) := by decide +kernel
theorem dL_law_373 : decode cL_law 373 = .ok (.iaload, 1) := by decide +kernel
theorem dL_law_374 : decode cL_law 374 = .ok (.aload_n 0, 1) := by decide +kernel
theorem dL_law_375 : decode cL_law 375 = .ok (.iload_n 3, 1) := by decide +kernel
theorem dL_law_376 : decode cL_law 376 = .ok (.iconst 2, 1) := by decide +kernel
theorem dL_law_377 : decode cL_law 377 = .ok (.iadd, 1) := by decide +kernel
theorem dL_law_378 : decode cL_law 378 = .ok (.iaload, 1) := by decide +kernel
theorem dL_law_379 : decode cL_law 379 = .ok (.aload_n 0, 1) := by decide +kernel
theorem dL_law_380 : decode cL_law 380 = .ok (.iload_n 3, 1) := by decide +kernel
theorem dL_law_381 : decode cL_law 381 = .ok (.iconst 3, 1) := by decide +kernel
theorem dL_law_382 : decode cL_law 382 = .ok (.iadd, 1) := by decide +kernel
theorem dL_law_383 : decode cL_law 383 = .ok (.iaload, 1) := by decide +kernel
theorem dL_law_384 : decode cL_law 384 = .ok (.invokevirtual 43, 3) := by decide +kernel
theorem dL_law_387 : decode cL_law 387 = .ok (.aload_n 2, 1) := by decide +kernel
theorem dL_law_388 : decode cL_law 388 = .ok (.aload_n 0, 1) := by decide +kernel
theorem dL_law_389 : decode cL_law 389 = .ok (.iload_n 3, 1) := by decide +kernel
theorem dL_law_390 : decode cL_law 390 = .ok (.iconst 1, 1) := by decide +kernel
theorem dL_law_391 : decode cL_law 391 = .ok (.iadd, 1) := by decide +kernel
theorem dL_law_392 : decode cL_law 392 = .ok (.iaload, 1) := by decide +kernel
theorem dL_law_393 : decode cL_law 393 = .ok (.aload_n 0, 1) := by decide +kernel
theorem dL_law_394 : decode cL_law 394 = .ok (.iload_n 3, 1) := by decide +kernel
theorem dL_law_395 : decode cL_law 395 = .ok (.iconst 2, 1) := by decide +kernel
theorem dL_law_396 : decode cL_law 396 = .ok (.iadd, 1) := by decide +kernel
theorem dL_law_397 : decode cL_law 397 = .ok (.iaload, 1) := by decide +kernel
theorem dL_law_398 : decode cL_law 398 = .ok (.aload_n 0, 1) := by decide +kernel
theorem dL_law_399 : decode cL_law 399 = .ok (.iload_n 3, 1) := by decide +kernel
theorem dL_law_400 : decode cL_law 400 = .ok (.iconst 3, 1) := by decide +kernel
theorem dL_law_401 : decode cL_law 401 = .ok (.iadd, 1) := by decide +kernel
theorem dL_law_402 : decode cL_law 402 = .ok (.iaload, 1) := by decide +kernel
theorem dL_law_403 : decode cL_law 403 = .ok (.invokevirtual 47, 3) := by decide +kernel
theorem dL_law_406 : decode cL_law 406 = .ok (.if_icmp .eq 233, 3) := by decide +kernel
theorem dL_law_409 : decode cL_law 409 = .ok (.iconst 0, 1) := by decide +kernel
theorem dL_law_410 : decode cL_law 410 = .ok (.ireturn, 1) := by decide +kernel
theorem dL_law_411 : decode cL_law 411 = .ok (.aload_n 1, 1) := by decide +kernel
theorem dL_law_412 : decode cL_law 412 = .ok (.aload_n 0, 1) := by decide +kernel
theorem dL_law_413 : decode cL_law 413 = .ok (.iload_n 3, 1) := by decide +kernel
theorem dL_law_414 : decode cL_law 414 = .ok (.iconst 1, 1) := by decide +kernel
theorem dL_law_415 : decode cL_law 415 = .ok (.iadd, 1) := by decide +kernel
theorem dL_law_416 : decode cL_law 416 = .ok (.iaload, 1) := by decide +kernel
theorem dL_law_417 : decode cL_law 417 = .ok (.invokevirtual 48, 3) := by decide +kernel
theorem dL_law_420 : decode cL_law 420 = .ok (.aload_n 2, 1) := by decide +kernel
theorem dL_law_421 : decode cL_law 421 = .ok (.aload_n 0, 1) := by decide +kernel
theorem dL_law_422 : decode cL_law 422 = .ok (.iload_n 3, 1) := by decide +kernel
theorem dL_law_423 : decode cL_law 423 = .ok (.iconst 1, 1) := by decide +kernel
theorem dL_law_424 : decode cL_law 424 = .ok (.iadd, 1) := by decide +kernel
theorem dL_law_425 : decode cL_law 425 = .ok (.iaload, 1) := by decide +kernel
theorem dL_law_426 : decode cL_law 426 = .ok (.invokevirtual 51, 3) := by decide +kernel
theorem dL_law_429 : decode cL_law 429 = .ok (.if_icmp .eq 210, 3) := by decide +kernel
theorem dL_law_432 : decode cL_law 432 = .ok (.iconst 0, 1) := by decide +kernel
theorem dL_law_433 : decode cL_law 433 = .ok (.ireturn, 1) := by decide +kernel
theorem dL_law_434 : decode cL_law 434 = .ok (.aload_n 1, 1) := by decide +kernel
theorem dL_law_435 : decode cL_law 435 = .ok (.aload_n 0, 1) := by decide +kernel
theorem dL_law_436 : decode cL_law 436 = .ok (.iload_n 3, 1) := by decide +kernel
theorem dL_law_437 : decode cL_law 437 = .ok (.iconst 1, 1) := by decide +kernel
theorem dL_law_438 : decode cL_law 438 = .ok (.iadd, 1) := by decide +kernel
theorem dL_law_439 : decode cL_law 439 = .ok (.iaload, 1) := by decide +kernel
theorem dL_law_440 : decode cL_law 440 = .ok (.aload_n 0, 1) := by decide +kernel
theorem dL_law_441 : decode cL_law 441 = .ok (.iload_n 3, 1) := by decide +kernel
theorem dL_law_442 : decode cL_law 442 = .ok (.iconst 2, 1) := by decide +kernel
theorem dL_law_443 : decode cL_law 443 = .ok (.iadd, 1) := by decide +kernel
theorem dL_law_444 : decode cL_law 444 = .ok (.iaload, 1) := by decide +kernel
theorem dL_law_445 : decode cL_law 445 = .ok (.i2l, 1) := by decide +kernel
theorem dL_law_446 : decode cL_law 446 = .ok (.bipush 32, 2) := by decide +kernel
theorem dL_law_448 : decode cL_law 448 = .ok (.lshl, 1) := by decide +kernel
theorem dL_law_449 : decode cL_law 449 = .ok (.aload_n 0, 1) := by decide +kernel
theorem dL_law_450 : decode cL_law 450 = .ok (.iload_n 3, 1) := by decide +kernel
theorem dL_law_451 : decode cL_law 451 = .ok (.iconst 3, 1) := by decide +kernel
theorem dL_law_452 : decode cL_law 452 = .ok (.iadd, 1) := by decide +kernel
theorem dL_law_453 : decode cL_law 453 = .ok (.iaload, 1) := by decide +kernel
theorem dL_law_454 : decode cL_law 454 = .ok (.i2l, 1) := by decide +kernel
theorem dL_law_455 : decode cL_law 455 = .ok (.ldc2_w 27, 3) := by decide +kernel
theorem dL_law_458 : decode cL_law 458 = .ok (.land, 1) := by decide +kernel
theorem dL_law_459 : decode cL_law 459 = .ok (.lor, 1) := by decide +kernel
theorem dL_law_460 : decode cL_law 460 = .ok (.invokevirtual 52, 3) := by decide +kernel
theorem dL_law_463 : decode cL_law 463 = .ok (.aload_n 2, 1) := by decide +kernel
theorem dL_law_464 : decode cL_law 464 = .ok (.aload_n 0, 1) := by decide +kernel
theorem dL_law_465 : decode cL_law 465 = .ok (.iload_n 3, 1) := by decide +kernel
theorem dL_law_466 : decode cL_law 466 = .ok (.iconst 1, 1) := by decide +kernel
theorem dL_law_467 : decode cL_law 467 = .ok (.iadd, 1) := by decide +kernel
theorem dL_law_468 : decode cL_law 468 = .ok (.iaload, 1) := by decide +kernel
theorem dL_law_469 : decode cL_law 469 = .ok (.aload_n 0, 1) := by decide +kernel
theorem dL_law_470 : decode cL_law 470 = .ok (.iload_n 3, 1) := by decide +kernel
theorem dL_law_471 : decode cL_law 471 = .ok (.iconst 2, 1) := by decide +kernel
theorem dL_law_472 : decode cL_law 472 = .ok (.iadd, 1) := by decide +kernel
theorem dL_law_473 : decode cL_law 473 = .ok (.iaload, 1) := by decide +kernel
theorem dL_law_474 : decode cL_law 474 = .ok (.i2l, 1) := by decide +kernel
theorem dL_law_475 : decode cL_law 475 = .ok (.bipush 32, 2) := by decide +kernel
theorem dL_law_477 : decode cL_law 477 = .ok (.lshl, 1) := by decide +kernel
theorem dL_law_478 : decode cL_law 478 = .ok (.aload_n 0, 1) := by decide +kernel
theorem dL_law_479 : decode cL_law 479 = .ok (.iload_n 3, 1) := by decide +kernel
theorem dL_law_480 : decode cL_law 480 = .ok (.iconst 3, 1) := by decide +kernel
theorem dL_law_481 : decode cL_law 481 = .ok (.iadd, 1) := by decide +kernel
theorem dL_law_482 : decode cL_law 482 = .ok (.iaload, 1) := by decide +kernel
theorem dL_law_483 : decode cL_law 483 = .ok (.i2l, 1) := by decide +kernel
theorem dL_law_484 : decode cL_law 484 = .ok (.ldc2_w 27, 3) := by decide +kernel
theorem dL_law_487 : decode cL_law 487 = .ok (.land, 1) := by decide +kernel
theorem dL_law_488 : decode cL_law 488 = .ok (.lor, 1) := by decide +kernel
theorem dL_law_489 : decode cL_law 489 = .ok (.invokevirtual 56, 3) := by decide +kernel
theorem dL_law_492 : decode cL_law 492 = .ok (.if_icmp .eq 147, 3) := by decide +kernel
theorem dL_law_495 : decode cL_law 495 = .ok (.iconst 0, 1) := by decide +kernel
theorem dL_law_496 : decode cL_law 496 = .ok (.ireturn, 1) := by decide +kernel
theorem dL_law_497 : decode cL_law 497 = .ok (.aload_n 1, 1) := by decide +kernel
theorem dL_law_498 : decode cL_law 498 = .ok (.aload_n 0, 1) := by decide +kernel
theorem dL_law_499 : decode cL_law 499 = .ok (.iload_n 3, 1) := by decide +kernel
theorem dL_law_500 : decode cL_law 500 = .ok (.iconst 1, 1) := by decide +kernel
theorem dL_law_501 : decode cL_law 501 = .ok (.iadd, 1) := by decide +kernel
theorem dL_law_502 : decode cL_law 502 = .ok (.iaload, 1) := by decide +kernel
theorem dL_law_503 : decode cL_law 503 = .ok (.aload_n 0, 1) := by decide +kernel
theorem dL_law_504 : decode cL_law 504 = .ok (.iload_n 3, 1) := by decide +kernel
theorem dL_law_505 : decode cL_law 505 = .ok (.iconst 2, 1) := by decide +kernel
theorem dL_law_506 : decode cL_law 506 = .ok (.iadd, 1) := by decide +kernel
theorem dL_law_507 : decode cL_law 507 = .ok (.iaload, 1) := by decide +kernel
theorem dL_law_508 : decode cL_law 508 = .ok (.invokevirtual 57, 3) := by decide +kernel
theorem dL_law_511 : decode cL_law 511 = .ok (.aload_n 2, 1) := by decide +kernel
theorem dL_law_512 : decode cL_law 512 = .ok (.aload_n 0, 1) := by decide +kernel
theorem dL_law_513 : decode cL_law 513 = .ok (.iload_n 3, 1) := by decide +kernel
theorem dL_law_514 : decode cL_law 514 = .ok (.iconst 1, 1) := by decide +kernel
theorem dL_law_515 : decode cL_law 515 = .ok (.iadd, 1) := by decide +kernel
theorem dL_law_516 : decode cL_law 516 = .ok (.iaload, 1) := by decide +kernel
theorem dL_law_517 : decode cL_law 517 = .ok (.aload_n 0, 1) := by decide +kernel
theorem dL_law_518 : decode cL_law 518 = .ok (.iload_n 3, 1) := by decide +kernel
theorem dL_law_519 : decode cL_law 519 = .ok (.iconst 2, 1) := by decide +kernel
theorem dL_law_520 : decode cL_law 520 = .ok (.iadd, 1) := by decide +kernel
theorem dL_law_521 : decode cL_law 521 = .ok (.iaload, 1) := by decide +kernel
theorem dL_law_522 : decode cL_law 522 = .ok (.invokevirtual 60, 3) := by decide +kernel
theorem dL_law_525 : decode cL_law 525 = .ok (.if_icmp .eq 114, 3) := by decide +kernel
theorem dL_law_528 : decode cL_law 528 = .ok (.iconst 0, 1) := by decide +kernel
theorem dL_law_529 : decode cL_law 529 = .ok (.ireturn, 1) := by decide +kernel
theorem dL_law_530 : decode cL_law 530 = .ok (.aload_n 1, 1) := by decide +kernel
theorem dL_law_531 : decode cL_law 531 = .ok (.aload_n 0, 1) := by decide +kernel
theorem dL_law_532 : decode cL_law 532 = .ok (.iload_n 3, 1) := by decide +kernel
theorem dL_law_533 : decode cL_law 533 = .ok (.iconst 1, 1) := by decide +kernel
theorem dL_law_534 : decode cL_law 534 = .ok (.iadd, 1) := by decide +kernel
theorem dL_law_535 : decode cL_law 535 = .ok (.iaload, 1) := by decide +kernel
theorem dL_law_536 : decode cL_law 536 = .ok (.aload_n 0, 1) := by decide +kernel
theorem dL_law_537 : decode cL_law 537 = .ok (.iload_n 3, 1) := by decide +kernel
theorem dL_law_538 : decode cL_law 538 = .ok (.iconst 2, 1) := by decide +kernel
theorem dL_law_539 : decode cL_law 539 = .ok (.iadd, 1) := by decide +kernel
theorem dL_law_540 : decode cL_law 540 = .ok (.iaload, 1) := by decide +kernel
theorem dL_law_541 : decode cL_law 541 = .ok (.invokevirtual 61, 3) := by decide +kernel
theorem dL_law_544 : decode cL_law 544 = .ok (.aload_n 2, 1) := by decide +kernel
theorem dL_law_545 : decode cL_law 545 = .ok (.aload_n 0, 1) := by decide +kernel
theorem dL_law_546 : decode cL_law 546 = .ok (.iload_n 3, 1) := by decide +kernel
theorem dL_law_547 : decode cL_law 547 = .ok (.iconst 1, 1) := by decide +kernel
theorem dL_law_548 : decode cL_law 548 = .ok (.iadd, 1) := by decide +kernel
theorem dL_law_549 : decode cL_law 549 = .ok (.iaload, 1) := by decide +kernel
theorem dL_law_550 : decode cL_law 550 = .ok (.aload_n 0, 1) := by decide +kernel
theorem dL_law_551 : decode cL_law 551 = .ok (.iload_n 3, 1) := by decide +kernel
theorem dL_law_552 : decode cL_law 552 = .ok (.iconst 2, 1) := by decide +kernel
theorem dL_law_553 : decode cL_law 553 = .ok (.iadd, 1) := by decide +kernel
theorem dL_law_554 : decode cL_law 554 = .ok (.iaload, 1) := by decide +kernel
theorem dL_law_555 : decode cL_law 555 = .ok (.invokevirtual 64, 3) := by decide +kernel
theorem dL_law_558 : decode cL_law 558 = .ok (.if_icmp .eq 81, 3) := by decide +kernel
theorem dL_law_561 : decode cL_law 561 = .ok (.iconst 0, 1) := by decide +kernel
theorem dL_law_562 : decode cL_law 562 = .ok (.ireturn, 1) := by decide +kernel
theorem dL_law_563 : decode cL_law 563 = .ok (.aload_n 1, 1) := by decide +kernel
theorem dL_law_564 : decode cL_law 564 = .ok (.aload_n 0, 1) := by decide +kernel
theorem dL_law_565 : decode cL_law 565 = .ok (.iload_n 3, 1) := by decide +kernel
theorem dL_law_566 : decode cL_law 566 = .ok (.iconst 1, 1) := by decide +kernel
theorem dL_law_567 : decode cL_law 567 = .ok (.iadd, 1) := by decide +kernel
theorem dL_law_568 : decode cL_law 568 = .ok (.iaload, 1) := by decide +kernel
theorem dL_law_569 : decode cL_law 569 = .ok (.invokevirtual 65, 3) := by decide +kernel
theorem dL_law_572 : decode cL_law 572 = .ok (.aload_n 2, 1) := by decide +kernel
theorem dL_law_573 : decode cL_law 573 = .ok (.aload_n 0, 1) := by decide +kernel
theorem dL_law_574 : decode cL_law 574 = .ok (.iload_n 3, 1) := by decide +kernel
theorem dL_law_575 : decode cL_law 575 = .ok (.iconst 1, 1) := by decide +kernel
theorem dL_law_576 : decode cL_law 576 = .ok (.iadd, 1) := by decide +kernel
theorem dL_law_577 : decode cL_law 577 = .ok (.iaload, 1) := by decide +kernel
theorem dL_law_578 : decode cL_law 578 = .ok (.invokevirtual 68, 3) := by decide +kernel
theorem dL_law_581 : decode cL_law 581 = .ok (.if_icmp .eq 58, 3) := by decide +kernel
theorem dL_law_584 : decode cL_law 584 = .ok (.iconst 0, 1) := by decide +kernel
theorem dL_law_585 : decode cL_law 585 = .ok (.ireturn, 1) := by decide +kernel
theorem dL_law_586 : decode cL_law 586 = .ok (.aload_n 1, 1) := by decide +kernel
theorem dL_law_587 : decode cL_law 587 = .ok (.aload_n 0, 1) := by decide +kernel
theorem dL_law_588 : decode cL_law 588 = .ok (.iload_n 3, 1) := by decide +kernel
theorem dL_law_589 : decode cL_law 589 = .ok (.iconst 1, 1) := by decide +kernel
theorem dL_law_590 : decode cL_law 590 = .ok (.iadd, 1) := by decide +kernel
theorem dL_law_591 : decode cL_law 591 = .ok (.iaload, 1) := by decide +kernel
theorem dL_law_592 : decode cL_law 592 = .ok (.i2l, 1) := by decide +kernel
theorem dL_law_593 : decode cL_law 593 = .ok (.bipush 32, 2) := by decide +kernel
theorem dL_law_595 : decode cL_law 595 = .ok (.lshl, 1) := by decide +kernel
theorem dL_law_596 : decode cL_law 596 = .ok (.aload_n 0, 1) := by decide +kernel
theorem dL_law_597 : decode cL_law 597 = .ok (.iload_n 3, 1) := by decide +kernel
theorem dL_law_598 : decode cL_law 598 = .ok (.iconst 2, 1) := by decide +kernel
theorem dL_law_599 : decode cL_law 599 = .ok (.iadd, 1) := by decide +kernel
theorem dL_law_600 : decode cL_law 600 = .ok (.iaload, 1) := by decide +kernel
theorem dL_law_601 : decode cL_law 601 = .ok (.i2l, 1) := by decide +kernel
theorem dL_law_602 : decode cL_law 602 = .ok (.ldc2_w 27, 3) := by decide +kernel
theorem dL_law_605 : decode cL_law 605 = .ok (.land, 1) := by decide +kernel
theorem dL_law_606 : decode cL_law 606 = .ok (.lor, 1) := by decide +kernel
theorem dL_law_607 : decode cL_law 607 = .ok (.invokevirtual 69, 3) := by decide +kernel
theorem dL_law_610 : decode cL_law 610 = .ok (.aload_n 2, 1) := by decide +kernel
theorem dL_law_611 : decode cL_law 611 = .ok (.aload_n 0, 1) := by decide +kernel
theorem dL_law_612 : decode cL_law 612 = .ok (.iload_n 3, 1) := by decide +kernel
theorem dL_law_613 : decode cL_law 613 = .ok (.iconst 1, 1) := by decide +kernel
theorem dL_law_614 : decode cL_law 614 = .ok (.iadd, 1) := by decide +kernel
theorem dL_law_615 : decode cL_law 615 = .ok (.iaload, 1) := by decide +kernel
theorem dL_law_616 : decode cL_law 616 = .ok (.i2l, 1) := by decide +kernel
theorem dL_law_617 : decode cL_law 617 = .ok (.bipush 32, 2) := by decide +kernel
theorem dL_law_619 : decode cL_law 619 = .ok (.lshl, 1) := by decide +kernel
theorem dL_law_620 : decode cL_law 620 = .ok (.aload_n 0, 1) := by decide +kernel
theorem dL_law_621 : decode cL_law 621 = .ok (.iload_n 3, 1) := by decide +kernel
theorem dL_law_622 : decode cL_law 622 = .ok (.iconst 2, 1) := by decide +kernel
theorem dL_law_623 : decode cL_law 623 = .ok (.iadd, 1) := by decide +kernel
theorem dL_law_624 : decode cL_law 624 = .ok (.iaload, 1) := by decide +kernel
theorem dL_law_625 : decode cL_law 625 = .ok (.i2l, 1) := by decide +kernel
theorem dL_law_626 : decode cL_law 626 = .ok (.ldc2_w 27, 3) := by decide +kernel
theorem dL_law_629 : decode cL_law 629 = .ok (.land, 1) := by decide +kernel
theorem dL_law_630 : decode cL_law 630 = .ok (.lor, 1) := by decide +kernel
theorem dL_law_631 : decode cL_law 631 = .ok (.invokevirtual 73, 3) := by decide +kernel
theorem dL_law_634 : decode cL_law 634 = .ok (.if_icmp .eq 5, 3) := by decide +kernel
theorem dL_law_637 : decode cL_law 637 = .ok (.iconst 0, 1) := by decide +kernel
theorem dL_law_638 : decode cL_law 638 = .ok (.ireturn, 1) := by decide +kernel
theorem dL_law_639 : decode cL_law 639 = .ok (.iinc 3 6, 3) := by decide +kernel
theorem dL_law_642 : decode cL_law 642 = .ok (.goto (-624), 3) := by decide +kernel
theorem dL_law_645 : decode cL_law 645 = .ok (.iconst 1, 1) := by decide +kernel
theorem dL_law_646 : decode cL_law 646 = .ok (.ireturn, 1) := by decide +kernel
end
section
/-! the world by codes: cell number c lies at ad c and holds C c -/
def wz (ad : Nat → Nat) (C : Nat → va_E) (n : Nat) : va_W := (List.range n).map (fun c => (ad c, C c))
theorem wz_get {ad : Nat → Nat} {C : Nat → va_E} {n c : Nat} (h : c < n) : (wz ad C n)[c]? = some (ad c, C c) := by
  simp [wz, h]
theorem wz_len {ad : Nat → Nat} {C : Nat → va_E} {n : Nat} : (wz ad C n).length = n := by simp [wz]
theorem wz_at {ad : Nat → Nat} {C : Nat → va_E} {n k : Nat} {q : Nat × va_E} (h : (wz ad C n)[k]? = some q) : k < n ∧ q = (ad k, C k) := by
  have hk : k < n := by
    have h1 := (List.getElem?_eq_some_iff.mp h).1
    rwa [wz_len] at h1
  rw [wz_get hk] at h
  exact ⟨hk, (Option.some.inj h).symm⟩
theorem wz_set {ad : Nat → Nat} {C : Nat → va_E} {n c : Nat} {e : va_E} (h : c < n) : (wz ad C n).set c (ad c, e) = wz ad (va_up C c e) n := by
  apply List.ext_getElem?
  intro j
  by_cases hj : j = c
  · subst hj
    rw [List.getElem?_set_self (by rw [wz_len]; exact h), wz_get h, va_up_self]
  · rw [List.getElem?_set_ne (Ne.symm hj)]
    by_cases hn : j < n
    · rw [wz_get hn, wz_get hn, va_up_ne _ _ hj]
    · rw [List.getElem?_eq_none (by rw [wz_len]; omega), List.getElem?_eq_none (by rw [wz_len]; omega)]
theorem wz_push {ad : Nat → Nat} {C : Nat → va_E} {n q : Nat} {e : va_E} : wz ad C n ++ [(q, e)] = wz (va_up ad n q) (va_up C n e) (n + 1) := by
  simp only [wz, List.range_succ, List.map_append, List.map_cons, List.map_nil, va_up_self]
  congr 1
  apply List.map_congr_left
  intro b hb
  have h1 : b ≠ n := by have := List.mem_range.mp hb; omega
  rw [va_up_ne _ _ h1, va_up_ne _ _ h1]
/-- what does not change in a run but for the addresses: from where on the cells are ours, the classes' numbers, the array classes, the addresses of the codes -/
abbrev KK : Type := Nat × va_G × (ClassId × ClassId × ClassId × ClassId) × (Nat → Nat)
def kS (κ : KK) : Nat := κ.1
def kD (κ : KK) : va_G := κ.2.1
def kcI (κ : KK) : ClassId := κ.2.2.1.1
def kcL (κ : KK) : ClassId := κ.2.2.1.2.1
def kcZ (κ : KK) : ClassId := κ.2.2.1.2.2.1
def kcR (κ : KK) : ClassId := κ.2.2.1.2.2.2
def kad (κ : KK) : Nat → Nat := κ.2.2.2
def kup (κ : KK) (n q : Nat) : KK := (κ.1, κ.2.1, κ.2.2.1, va_up κ.2.2.2 n q)
def kT (κ : KK) : List (ClassId × FieldType) := [(kcI κ, .int), (kcL κ, .long), (kcZ κ, .boolean), (kcR κ, .object RX1)]
def FA (κ : KK) : Nat → Prop := fun q => kS κ ≤ q
def adOk (κ : KK) (n : Nat) : Prop := (∀ i j, i < n → j < n → kad κ i = kad κ j → i = j) ∧ ∀ i, i < n → kS κ ≤ kad κ i
theorem adOk.D {κ : KK} {n : Nat} (h : adOk κ n) (C : Nat → va_E) : va_D (FA κ) (wz (kad κ) C n) := by
  refine ⟨fun i j p q hi hj hpq => ?_, fun k q hk => ?_⟩
  · obtain ⟨h1, rfl⟩ := wz_at hi
    obtain ⟨h2, rfl⟩ := wz_at hj
    exact h.1 i j h1 h2 hpq
  · obtain ⟨h1, rfl⟩ := wz_at hk
    exact h.2 k h1
theorem adOk.of {κ : KK} {n : Nat} {C : Nat → va_E} (h : va_D (FA κ) (wz (kad κ) C n)) : adOk κ n :=
  ⟨fun i j hi hj e => h.1 i j _ _ (wz_get hi) (wz_get hj) e, fun i hi => h.2 i _ (wz_get hi)⟩
/-- the frame's fixed part -/
def CX (p : Program) (s : State) (m : MethodId) (args : Array Value) (meth : Method) (c : Code) (cc : ByteArray) (nL : Nat) (own : String) (rt : Option FieldType) (κ : KK) : Prop :=
  p.tables.exec = Jvm.exec ∧ c.code = cc ∧ c.maxLocals = nL ∧ s.vm.findClass own = some m.cls ∧ (∀ w ∈ lw_g, w.before args s = true) ∧ va_K (kD κ) vwCl (kT κ) s ∧ meth.locks = false ∧ meth.sig.returnType = rt
/-! the locals by place -/
def lz : Nat → List (Option Value) → List (Nat × Value)
  | _, [] => []
  | i, none :: vs => lz (i + 1) vs
  | i, some v :: vs => (i, v) :: lz (i + 1) vs
def LL (ls : Array Slot) (n : Nat) (vs : List (Option Value)) : Prop := lv_has ls n (lz 0 vs)
theorem lz_mem : ∀ (vs : List (Option Value)) (i j : Nat) (w : Value), (j, w) ∈ lz i vs ↔ i ≤ j ∧ vs[j - i]? = some (some w) := by
  intro vs
  induction vs with
  | nil => intro i j w; simp [lz]
  | cons v vs ih =>
    intro i j w
    have step : i + 1 ≤ j → (v :: vs)[j - i]? = vs[j - (i + 1)]? := fun h => by
      rw [show j - i = (j - (i + 1)) + 1 by omega, List.getElem?_cons_succ]
    cases v with
    | none =>
      simp only [lz, ih]
      constructor
      · rintro ⟨h1, h2⟩
        exact ⟨by omega, by rw [step h1]; exact h2⟩
      · rintro ⟨h1, h2⟩
        by_cases hj : i + 1 ≤ j
        · exact ⟨hj, by rw [← step hj]; exact h2⟩
        · rw [show j - i = 0 by omega] at h2
          simp at h2
    | some v =>
      simp only [lz, List.mem_cons, ih, Prod.mk.injEq]
      constructor
      · rintro (⟨rfl, rfl⟩ | ⟨h1, h2⟩)
        · exact ⟨Nat.le_refl _, by simp⟩
        · exact ⟨by omega, by rw [step h1]; exact h2⟩
      · rintro ⟨h1, h2⟩
        by_cases hj : i + 1 ≤ j
        · exact Or.inr ⟨hj, by rw [← step hj]; exact h2⟩
        · have hji : j = i := by omega
          subst hji
          rw [Nat.sub_self] at h2
          simp at h2
          exact Or.inl ⟨rfl, h2.symm⟩
theorem LL.get {ls : Array Slot} {n : Nat} {vs : List (Option Value)} (h : LL ls n vs) {k : Nat} {v : Value} (hk : vs[k]? = some (some v)) : ls[k]? = some (.val v) :=
  h.2.2 (k, v) ((lz_mem vs 0 k v).mpr ⟨Nat.zero_le _, by simpa using hk⟩)
def okp (vs : List (Option Value)) (i : Nat) : Bool := match i with
  | 0 => true
  | j + 1 => match vs[j]? with
    | some (some v) => v.category == 1
    | _ => true
theorem LL.st1 {ls : Array Slot} {n i : Nat} {v : Value} {vs : List (Option Value)} (h : lv_has ls n ((i, v) :: (lz 0 vs).filter (fun q => !(q.1 == i) && !(q.1 + 1 == i && q.2.category == 2)))) (hp : okp vs i = true) : LL ls n (vs.set i (some v)) := by
  refine ⟨h.1, h.2.1, fun q hq => ?_⟩
  obtain ⟨j, w⟩ := q
  have h1 := ((lz_mem _ 0 j w).mp hq).2
  rw [Nat.sub_zero] at h1
  by_cases hj : j = i
  · subst hj
    have hl : j < vs.length := by
      have := (List.getElem?_eq_some_iff.mp h1).1
      simpa using this
    rw [List.getElem?_set_self hl] at h1
    cases h1
    exact h.2.2 _ List.mem_cons_self
  · rw [List.getElem?_set_ne (Ne.symm hj)] at h1
    refine h.2.2 _ (List.mem_cons_of_mem _ (List.mem_filter.mpr ⟨(lz_mem vs 0 j w).mpr ⟨Nat.zero_le _, by simpa using h1⟩, ?_⟩))
    have h2 : (j + 1 == i && w.category == 2) = false := by
      by_cases hji : j + 1 = i
      · subst hji
        simp only [okp, h1] at hp
        have : w.category = 1 := by simpa using hp
        simp [this]
      · simp [hji]
    simp [hj, h2]
theorem LL.st2 {ls : Array Slot} {n i : Nat} {v : Value} {vs : List (Option Value)} (h : lv_has ls n ((i, v) :: (lz 0 vs).filter (fun q => !(q.1 == i) && (!(q.1 == i + 1) && !(q.1 + 1 == i && q.2.category == 2))))) (hp : okp vs i = true) : LL ls n ((vs.set i (some v)).set (i + 1) none) := by
  refine ⟨h.1, h.2.1, fun q hq => ?_⟩
  obtain ⟨j, w⟩ := q
  have h1 := ((lz_mem _ 0 j w).mp hq).2
  rw [Nat.sub_zero] at h1
  have hj2 : j ≠ i + 1 := by
    rintro rfl
    have hl := (List.getElem?_eq_some_iff.mp h1).1
    rw [List.length_set] at hl
    rw [List.getElem?_set_self hl] at h1
    cases h1
  rw [List.getElem?_set_ne (Ne.symm hj2)] at h1
  by_cases hj : j = i
  · subst hj
    have hl : j < vs.length := by
      have := (List.getElem?_eq_some_iff.mp h1).1
      simpa using this
    rw [List.getElem?_set_self hl] at h1
    cases h1
    exact h.2.2 _ List.mem_cons_self
  · rw [List.getElem?_set_ne (Ne.symm hj)] at h1
    refine h.2.2 _ (List.mem_cons_of_mem _ (List.mem_filter.mpr ⟨(lz_mem vs 0 j w).mpr ⟨Nat.zero_le _, by simpa using h1⟩, ?_⟩))
    have h2 : (j + 1 == i && w.category == 2) = false := by
      by_cases hji : j + 1 = i
      · subst hji
        simp only [okp, h1] at hp
        have : w.category = 1 := by simpa using hp
        simp [this]
      · simp [hji]
    simp [hj, hj2, h2]
def lo : List Value → List (Option Value)
  | [] => []
  | v :: vs => if v.category = 2 then some v :: none :: lo vs else some v :: lo vs
theorem lz_lo (r : Nat) : ∀ (As : List Value) (i : Nat), lz i (lo As ++ List.replicate r none) = lv_args i As := by
  intro As
  induction As with
  | nil =>
    intro i
    simp only [lo, List.nil_append, lv_args]
    induction r generalizing i with
    | zero => rfl
    | succ r ih => simp only [List.replicate_succ, lz]; exact ih _
  | cons v vs ih =>
    intro i
    by_cases hc : v.category = 2
    · simp only [lo, hc, if_true, List.cons_append, lz, lv_args, ih]
    · simp only [lo, hc, if_false, List.cons_append, lz, lv_args, ih]
theorem LL.weak {ls : Array Slot} {n : Nat} {vs vs' : List (Option Value)} (h : LL ls n vs) (hv : ∀ (k : Nat) (v : Value), vs'[k]? = some (some v) → vs[k]? = some (some v)) : LL ls n vs' := by
  refine ⟨h.1, h.2.1, fun q hq => ?_⟩
  obtain ⟨j, w⟩ := q
  have h1 := ((lz_mem _ 0 j w).mp hq).2
  rw [Nat.sub_zero] at h1
  exact h.get (hv j w h1)
section LOC
variable {p : Program} {l : Launch} {e : Env} {R : Room} {s : State} {m : MethodId} {args : Array Value} {below : List Frame} {meth : Method} {c : Code} {H : Heap} {locs : List Loc} {cells slots : Nat} {Q : State → Prop}
variable {cc : ByteArray} {nL : Nat} {own : String} {rt : Option FieldType} {κ : KK} {pc : Nat} {ls : Array Slot} {rest : List Value} {vs : List (Option Value)}
theorem g_iload_n (hC : CX p s m args meth c cc nL own rt κ) (hl : LL ls nL vs) {k : Fin 4} {i : Nat} {x : Int32} (hdg : decode cc pc = .ok (.iload_n k, 1)) (hi : (k : Nat) = i) (hv : vs[i]? = some (some (.int x))) (kk : W p l e R s m args below meth c H locs cells slots Q (F0 m (pc + 1) ls (.int x :: rest))) : W p l e R s m args below meth c H locs cells slots Q (F0 m pc ls rest) := lv_iload_n hC.1 hC.2.1 hdg hi (hl.get hv) kk
theorem g_iload (hC : CX p s m args meth c cc nL own rt κ) (hl : LL ls nL vs) {i : Nat} {x : Int32} (hdg : decode cc pc = .ok (.iload i, 2)) (hv : vs[i]? = some (some (.int x))) (kk : W p l e R s m args below meth c H locs cells slots Q (F0 m (pc + 2) ls (.int x :: rest))) : W p l e R s m args below meth c H locs cells slots Q (F0 m pc ls rest) := lv_iload hC.1 hC.2.1 hdg (hl.get hv) kk
theorem g_lload_n (hC : CX p s m args meth c cc nL own rt κ) (hl : LL ls nL vs) {k : Fin 4} {i : Nat} {x : Int64} (hdg : decode cc pc = .ok (.lload_n k, 1)) (hi : (k : Nat) = i) (hv : vs[i]? = some (some (.long x))) (kk : W p l e R s m args below meth c H locs cells slots Q (F0 m (pc + 1) ls (.long x :: rest))) : W p l e R s m args below meth c H locs cells slots Q (F0 m pc ls rest) := lv_lload_n hC.1 hC.2.1 hdg hi (hl.get hv) kk
theorem g_lload (hC : CX p s m args meth c cc nL own rt κ) (hl : LL ls nL vs) {i : Nat} {x : Int64} (hdg : decode cc pc = .ok (.lload i, 2)) (hv : vs[i]? = some (some (.long x))) (kk : W p l e R s m args below meth c H locs cells slots Q (F0 m (pc + 2) ls (.long x :: rest))) : W p l e R s m args below meth c H locs cells slots Q (F0 m pc ls rest) := lv_lload hC.1 hC.2.1 hdg (hl.get hv) kk
theorem g_aload_n (hC : CX p s m args meth c cc nL own rt κ) (hl : LL ls nL vs) {k : Fin 4} {i : Nat} {x : Nat} (hdg : decode cc pc = .ok (.aload_n k, 1)) (hi : (k : Nat) = i) (hv : vs[i]? = some (some (.ref x))) (kk : W p l e R s m args below meth c H locs cells slots Q (F0 m (pc + 1) ls (.ref x :: rest))) : W p l e R s m args below meth c H locs cells slots Q (F0 m pc ls rest) := lv_aload_n hC.1 hC.2.1 hdg hi (hl.get hv) kk
theorem g_aload_nN (hC : CX p s m args meth c cc nL own rt κ) (hl : LL ls nL vs) {k : Fin 4} {i : Nat} (hdg : decode cc pc = .ok (.aload_n k, 1)) (hi : (k : Nat) = i) (hv : vs[i]? = some (some .null)) (kk : W p l e R s m args below meth c H locs cells slots Q (F0 m (pc + 1) ls (.null :: rest))) : W p l e R s m args below meth c H locs cells slots Q (F0 m pc ls rest) := lv_aload_nN hC.1 hC.2.1 hdg hi (hl.get hv) kk
theorem g_aload (hC : CX p s m args meth c cc nL own rt κ) (hl : LL ls nL vs) {i : Nat} {x : Nat} (hdg : decode cc pc = .ok (.aload i, 2)) (hv : vs[i]? = some (some (.ref x))) (kk : W p l e R s m args below meth c H locs cells slots Q (F0 m (pc + 2) ls (.ref x :: rest))) : W p l e R s m args below meth c H locs cells slots Q (F0 m pc ls rest) := lv_aload hC.1 hC.2.1 hdg (hl.get hv) kk
theorem g_aloadN (hC : CX p s m args meth c cc nL own rt κ) (hl : LL ls nL vs) {i : Nat} (hdg : decode cc pc = .ok (.aload i, 2)) (hv : vs[i]? = some (some .null)) (kk : W p l e R s m args below meth c H locs cells slots Q (F0 m (pc + 2) ls (.null :: rest))) : W p l e R s m args below meth c H locs cells slots Q (F0 m pc ls rest) := lv_aloadN hC.1 hC.2.1 hdg (hl.get hv) kk
theorem g_istore_n (hC : CX p s m args meth c cc nL own rt κ) (hl : LL ls nL vs) {k : Fin 4} {i : Nat} {x : Int32} (hdg : decode cc pc = .ok (.istore_n k, 1)) (hi : (k : Nat) = i) (hn : i < nL) (hp : okp vs i = true) (kk : ∀ ls', LL ls' nL (vs.set i (some (.int x))) → W p l e R s m args below meth c H locs cells slots Q (F0 m (pc + 1) ls' rest)) : W p l e R s m args below meth c H locs cells slots Q (F0 m pc ls (.int x :: rest)) := lv_istore_n hC.1 hC.2.1 hdg hi hl hn rfl (fun ls' h => kk ls' (LL.st1 h hp))
theorem g_istore (hC : CX p s m args meth c cc nL own rt κ) (hl : LL ls nL vs) {i : Nat} {x : Int32} (hdg : decode cc pc = .ok (.istore i, 2)) (hn : i < nL) (hp : okp vs i = true) (kk : ∀ ls', LL ls' nL (vs.set i (some (.int x))) → W p l e R s m args below meth c H locs cells slots Q (F0 m (pc + 2) ls' rest)) : W p l e R s m args below meth c H locs cells slots Q (F0 m pc ls (.int x :: rest)) := lv_istore hC.1 hC.2.1 hdg hl hn rfl (fun ls' h => kk ls' (LL.st1 h hp))
theorem g_lstore_n (hC : CX p s m args meth c cc nL own rt κ) (hl : LL ls nL vs) {k : Fin 4} {i : Nat} {x : Int64} (hdg : decode cc pc = .ok (.lstore_n k, 1)) (hi : (k : Nat) = i) (hn : i + 1 < nL) (hp : okp vs i = true) (kk : ∀ ls', LL ls' nL ((vs.set i (some (.long x))).set (i + 1) none) → W p l e R s m args below meth c H locs cells slots Q (F0 m (pc + 1) ls' rest)) : W p l e R s m args below meth c H locs cells slots Q (F0 m pc ls (.long x :: rest)) := lv_lstore_n hC.1 hC.2.1 hdg hi hl hn rfl (fun ls' h => kk ls' (LL.st2 h hp))
theorem g_lstore (hC : CX p s m args meth c cc nL own rt κ) (hl : LL ls nL vs) {i : Nat} {x : Int64} (hdg : decode cc pc = .ok (.lstore i, 2)) (hn : i + 1 < nL) (hp : okp vs i = true) (kk : ∀ ls', LL ls' nL ((vs.set i (some (.long x))).set (i + 1) none) → W p l e R s m args below meth c H locs cells slots Q (F0 m (pc + 2) ls' rest)) : W p l e R s m args below meth c H locs cells slots Q (F0 m pc ls (.long x :: rest)) := lv_lstore hC.1 hC.2.1 hdg hl hn rfl (fun ls' h => kk ls' (LL.st2 h hp))
theorem g_astore_n (hC : CX p s m args meth c cc nL own rt κ) (hl : LL ls nL vs) {k : Fin 4} {i : Nat} {x : Nat} (hdg : decode cc pc = .ok (.astore_n k, 1)) (hi : (k : Nat) = i) (hn : i < nL) (hp : okp vs i = true) (kk : ∀ ls', LL ls' nL (vs.set i (some (.ref x))) → W p l e R s m args below meth c H locs cells slots Q (F0 m (pc + 1) ls' rest)) : W p l e R s m args below meth c H locs cells slots Q (F0 m pc ls (.ref x :: rest)) := lv_astore_n hC.1 hC.2.1 hdg hi hl hn rfl (fun ls' h => kk ls' (LL.st1 h hp))
theorem g_astore_nN (hC : CX p s m args meth c cc nL own rt κ) (hl : LL ls nL vs) {k : Fin 4} {i : Nat} (hdg : decode cc pc = .ok (.astore_n k, 1)) (hi : (k : Nat) = i) (hn : i < nL) (hp : okp vs i = true) (kk : ∀ ls', LL ls' nL (vs.set i (some .null)) → W p l e R s m args below meth c H locs cells slots Q (F0 m (pc + 1) ls' rest)) : W p l e R s m args below meth c H locs cells slots Q (F0 m pc ls (.null :: rest)) := lv_astore_nN hC.1 hC.2.1 hdg hi hl hn rfl (fun ls' h => kk ls' (LL.st1 h hp))
theorem g_astore (hC : CX p s m args meth c cc nL own rt κ) (hl : LL ls nL vs) {i : Nat} {x : Nat} (hdg : decode cc pc = .ok (.astore i, 2)) (hn : i < nL) (hp : okp vs i = true) (kk : ∀ ls', LL ls' nL (vs.set i (some (.ref x))) → W p l e R s m args below meth c H locs cells slots Q (F0 m (pc + 2) ls' rest)) : W p l e R s m args below meth c H locs cells slots Q (F0 m pc ls (.ref x :: rest)) := lv_astore hC.1 hC.2.1 hdg hl hn rfl (fun ls' h => kk ls' (LL.st1 h hp))
theorem g_astoreN (hC : CX p s m args meth c cc nL own rt κ) (hl : LL ls nL vs) {i : Nat} (hdg : decode cc pc = .ok (.astore i, 2)) (hn : i < nL) (hp : okp vs i = true) (kk : ∀ ls', LL ls' nL (vs.set i (some .null)) → W p l e R s m args below meth c H locs cells slots Q (F0 m (pc + 2) ls' rest)) : W p l e R s m args below meth c H locs cells slots Q (F0 m pc ls (.null :: rest)) := lv_astoreN hC.1 hC.2.1 hdg hl hn rfl (fun ls' h => kk ls' (LL.st1 h hp))
theorem g_iinc (hC : CX p s m args meth c cc nL own rt κ) (hl : LL ls nL vs) {i : Nat} {n : Int} {x v : Int32} (hdg : decode cc pc = .ok (.iinc i n, 3)) (hx : vs[i]? = some (some (.int x))) (hv : x + Int32.ofInt n = v) (hn : i < nL) (hp : okp vs i = true) (kk : ∀ ls', LL ls' nL (vs.set i (some (.int v))) → W p l e R s m args below meth c H locs cells slots Q (F0 m (pc + 3) ls' rest)) : W p l e R s m args below meth c H locs cells slots Q (F0 m pc ls rest) := by
  obtain ⟨k, hk⟩ := List.getElem?_of_mem ((lz_mem vs 0 i (.int x)).mpr ⟨Nat.zero_le _, by simpa using hx⟩)
  exact lv_iinc (k := k) hC.1 hC.2.1 hdg hl hk hv hn rfl (fun ls' h => kk ls' (LL.st1 h hp))
end LOC
end
section
/-! the state: how many receptacles, the numbers of the cells by code and place (ints, longs), the rows by the code of the row's object.
codes: 0 the BagRows, 1 its receptacles, 2 holders, 3 ownPlaces, 4 its Notes, 5 their times; 6 the model, 7 .. 23 its arrays; from 24 on 13 a receptacle: itself, then six rows, each with its array -/
abbrev ST : Type := Nat × (Nat → Nat → Int32) × (Nat → Nat → Int64) × (Nat → List Int32)
def sI (σ : ST) : Nat → Nat → Int32 := σ.2.1
def sJ (σ : ST) : Nat → Nat → Int64 := σ.2.2.1
def sR (σ : ST) : Nat → List Int32 := σ.2.2.2
def upI (σ : ST) (co i : Nat) (x : Int32) : ST := (σ.1, va_up σ.2.1 co (upd (σ.2.1 co) i x), σ.2.2)
def upJ (σ : ST) (co i : Nat) (x : Int64) : ST := (σ.1, σ.2.1, va_up σ.2.2.1 co (vp_updL (σ.2.2.1 co) i x), σ.2.2.2)
def upR (σ : ST) (co : Nat) (r : List Int32) : ST := (σ.1, σ.2.1, σ.2.2.1, va_up σ.2.2.2 co r)
def rb (k : Nat) : Nat := 13 * k + 24
def rc (k j : Nat) : Nat := 13 * k + 25 + 2 * j
def nn (σ : ST) : Nat := 13 * σ.1 + 24
def capj (j : Nat) : Nat := if j = 2 then 1 else if j = 3 then 6 else 12
def shr (κ : KK) (d co : Nat) (i : Nat → Int32) (j : Nat → Int64) (r : Nat) (f : Nat → Int32) : va_E :=
  if d = 0 then .inr (1, [.int (i 0), .int (i 1), .int (i 2), .long (j 3), .int (i 4), .ref (kad κ (co + 1)), .ref (kad κ (co + 3)), .ref (kad κ (co + 5)), .ref (kad κ (co + 7)), .ref (kad κ (co + 9)), .ref (kad κ (co + 11))])
  else if d % 2 = 1 then .inr (2, [.ref (kad κ (co + 1)), .int (nI r)])
  else .inl (kcI κ, capj ((d - 2) / 2), .inl f)
def shc (κ : KK) (cnt : Nat) (th : Int32) (co : Nat) (i : Nat → Int32) (j : Nat → Int64) (r : Nat) (f : Nat → Int32) : va_E := match co with
  | 0 => .inr (3, [.ref (kad κ 1), .int (nI cnt), .ref (kad κ 2), .ref (kad κ 3), .ref (kad κ 4), .long (j 5)])
  | 1 => .inl (kcR κ, 60, .inr (.inr (.inr (.inr (fun q => if q < cnt then some (kad κ (rb q)) else none)))))
  | 2 => .inl (kcI κ, 1061, .inl i)
  | 3 => .inl (kcI κ, 1061, .inl i)
  | 4 => .inr (0, [.ref (kad κ 5), .int (i 1), .int (i 2)])
  | 5 => .inl (kcL κ, 512, .inr (.inl j))
  | 6 => .inr (4, [.int th, .ref (kad κ 7), .ref (kad κ 8), .ref (kad κ 9), .int (i 4), .int (i 5), .ref (kad κ 10), .ref (kad κ 11), .ref (kad κ 12), .ref (kad κ 13), .ref (kad κ 14), .ref (kad κ 15), .ref (kad κ 16), .ref (kad κ 17), .ref (kad κ 18), .ref (kad κ 19), .ref (kad κ 20), .ref (kad κ 21), .ref (kad κ 22), .long (j 19), .long (j 20), .int (i 21), .ref (kad κ 23)])
  | 7 => .inl (kcI κ, 1061, .inl i)
  | 8 => .inl (kcI κ, 1061, .inl i)
  | 9 => .inl (kcI κ, 1061, .inl i)
  | 10 => .inl (kcI κ, 60, .inl i)
  | 11 => .inl (kcZ κ, 60, .inl i)
  | 12 => .inl (kcZ κ, 60, .inl i)
  | 13 => .inl (kcL κ, 60, .inr (.inl j))
  | 14 => .inl (kcI κ, 60, .inl i)
  | 15 => .inl (kcL κ, 60, .inr (.inl j))
  | 16 => .inl (kcI κ, 60, .inl i)
  | 17 => .inl (kcI κ, 720, .inl i)
  | 18 => .inl (kcZ κ, 720, .inl i)
  | 19 => .inl (kcI κ, 60, .inl i)
  | 20 => .inl (kcI κ, 720, .inl i)
  | 21 => .inl (kcI κ, 60, .inl i)
  | 22 => .inl (kcL κ, 360, .inr (.inl j))
  | 23 => .inl (kcL κ, 2000, .inr (.inl j))
  | c + 24 => shr κ (c % 13) (c + 24) i j r f
def sh (κ : KK) (σ : ST) (F : Nat → Nat → Int32) (th : Int32) (co : Nat) : va_E := shc κ σ.1 th co (sI σ co) (sJ σ co) (sR σ co).length (F co)
theorem sh_rec (κ : KK) (σ : ST) (F : Nat → Nat → Int32) (th : Int32) (k : Nat) : sh κ σ F th (rb k) = .inr (1, [.int (sI σ (rb k) 0), .int (sI σ (rb k) 1), .int (sI σ (rb k) 2), .long (sJ σ (rb k) 3), .int (sI σ (rb k) 4), .ref (kad κ (rc k 0)), .ref (kad κ (rc k 1)), .ref (kad κ (rc k 2)), .ref (kad κ (rc k 3)), .ref (kad κ (rc k 4)), .ref (kad κ (rc k 5))]) := by
  show shr κ ((13 * k) % 13) (13 * k + 24) _ _ _ _ = _
  rw [Nat.mul_mod_right]
  rfl
theorem sh_row (κ : KK) (σ : ST) (F : Nat → Nat → Int32) (th : Int32) (k : Nat) {j : Nat} (hj : j < 6) : sh κ σ F th (rc k j) = .inr (2, [.ref (kad κ (rc k j + 1)), .int (nI (sR σ (rc k j)).length)]) := by
  have e : rc k j = (13 * k + (2 * j + 1)) + 24 := by unfold rc; omega
  rw [e]
  show shr κ ((13 * k + (2 * j + 1)) % 13) (13 * k + (2 * j + 1) + 24) _ _ _ _ = _
  rw [show (13 * k + (2 * j + 1)) % 13 = 2 * j + 1 by omega]
  unfold shr
  rw [if_neg (by omega), if_pos (by omega)]
theorem sh_arr (κ : KK) (σ : ST) (F : Nat → Nat → Int32) (th : Int32) (k : Nat) {j : Nat} (hj : j < 6) : sh κ σ F th (rc k j + 1) = .inl (kcI κ, capj j, .inl (F (rc k j + 1))) := by
  have e : rc k j + 1 = (13 * k + (2 * j + 2)) + 24 := by unfold rc; omega
  rw [e]
  show shr κ ((13 * k + (2 * j + 2)) % 13) (13 * k + (2 * j + 2) + 24) _ _ _ _ = _
  rw [show (13 * k + (2 * j + 2)) % 13 = 2 * j + 2 by omega]
  unfold shr
  rw [if_neg (by omega), if_neg (by omega), show (2 * j + 2 - 2) / 2 = j by omega]
theorem sh_up {κ : KK} {σ σ' : ST} {F F' : Nat → Nat → Int32} {th th' : Int32} {co : Nat} {e : va_E} (h1 : ∀ c, c ≠ co → sh κ σ' F' th' c = sh κ σ F th c) (h2 : sh κ σ' F' th' co = e) : va_up (sh κ σ F th) co e = sh κ σ' F' th' := by
  funext c
  by_cases h : c = co
  · subst h
    rw [va_up_self, h2]
  · rw [va_up_ne _ _ h, h1 c h]
theorem sh_upI {κ : KK} {σ : ST} {F : Nat → Nat → Int32} {th : Int32} {co i : Nat} {x : Int32} (c : Nat) (hc : c ≠ co) : sh κ (upI σ co i x) F th c = sh κ σ F th c := by
  simp only [sh, upI, sI, sJ, sR, va_up_ne _ _ hc]
theorem sh_upJ {κ : KK} {σ : ST} {F : Nat → Nat → Int32} {th : Int32} {co i : Nat} {x : Int64} (c : Nat) (hc : c ≠ co) : sh κ (upJ σ co i x) F th c = sh κ σ F th c := by
  simp only [sh, upJ, sI, sJ, sR, va_up_ne _ _ hc]
theorem sh_upR {κ : KK} {σ : ST} {F : Nat → Nat → Int32} {th : Int32} {co : Nat} {x : List Int32} (c : Nat) (hc : c ≠ co) : sh κ (upR σ co x) F th c = sh κ σ F th c := by
  simp only [sh, upR, sI, sJ, sR, va_up_ne _ _ hc]
theorem sh_upF {κ : KK} {σ : ST} {F : Nat → Nat → Int32} {th : Int32} {co : Nat} {f : Nat → Int32} (c : Nat) (hc : c ≠ co) : sh κ σ (va_up F co f) th c = sh κ σ F th c := by
  simp only [sh, va_up_ne _ _ hc]
theorem sh_upT {κ : KK} {σ : ST} {F : Nat → Nat → Int32} {th th' : Int32} (c : Nat) (hc : c ≠ 6) : sh κ σ F th' c = sh κ σ F th c := by
  unfold sh shc
  split <;> first | rfl | (exfalso; exact hc rfl)
/-- the rows' arrays hold the rows -/
def rowsOK (σ : ST) (F : Nat → Nat → Int32) : Prop := σ.1 ≤ 60 ∧ ∀ k j, k < σ.1 → j < 6 → (sR σ (rc k j)).length ≤ capj j ∧ ∀ (i : Nat) (x : Int32), (sR σ (rc k j))[i]? = some x → F (rc k j + 1) i = x
def WX (κ : KK) (σ : ST) (U : State) : Prop := va_K (kD κ) vwCl (kT κ) U ∧ (∃ (F : Nat → Nat → Int32) (th : Int32), rowsOK σ F ∧ va_P (kD κ) vwCl (wz (kad κ) (sh κ σ F th) (nn σ)) U.heap) ∧ adOk κ (nn σ) ∧ kS κ ≤ U.heap.size
def OS (κ : KK) (H0 : Heap) (σ : ST) (F : Nat → Nat → Int32) (th : Int32) (H : Heap) (locs : List Loc) : Prop := rowsOK σ F ∧ va_P (kD κ) vwCl (wz (kad κ) (sh κ σ F th) (nn σ)) H ∧ adOk κ (nn σ) ∧ va_S (FA κ) H0 H locs ∧ kS κ ≤ H0.size
theorem WX.blind {κ : KK} {σ : ST} {U : State} (g : JFrame) (mk : MethodId) (a : Array Value) (h : WX κ σ U) : WX κ σ (U.calling g mk a) := ⟨va_K.moved (u := U) (U := U.calling g mk a) (Vm.Alike.refl U.vm) h.1, h.2.1, h.2.2.1, h.2.2.2⟩
theorem OS.wx {κ : KK} {H0 : Heap} {σ : ST} {F : Nat → Nat → Int32} {th : Int32} {H : Heap} {locs : List Loc} (h : OS κ H0 σ F th H locs) {U : State} (hU : U.heap = H) (hK : va_K (kD κ) vwCl (kT κ) U) : WX κ σ U := ⟨hK, ⟨F, th, h.1, by rw [hU]; exact h.2.1⟩, h.2.2.1, by rw [hU]; exact Nat.le_trans h.2.2.2.2 h.2.2.2.1.1⟩
theorem nn_lt {σ : ST} {c : Nat} (h : c < 24) : c < nn σ := by unfold nn; omega
theorem nn_rb {σ : ST} {k : Nat} (h : k < σ.1) : rb k < nn σ := by unfold nn rb; omega
theorem nn_rc {σ : ST} {k j : Nat} (h : k < σ.1) (hj : j < 6) : rc k j < nn σ := by unfold nn rc; omega
theorem nn_ra {σ : ST} {k j : Nat} (h : k < σ.1) (hj : j < 6) : rc k j + 1 < nn σ := by unfold nn rc; omega
theorem upd_at {f : Nat → Int32} {k : Nat} {x : Int32} : upd f k x k = x := by simp [upd]
theorem vp_nar_bool {x : Int32} (h : x = 0 ∨ x = 1) : vp_nar .boolean x = x := by
  rcases h with rfl | rfl <;> rfl
section HEAP
variable {p : Program} {l : Launch} {e : Env} {R : Room} {s : State} {m : MethodId} {args : Array Value} {below : List Frame} {meth : Method} {c : Code} {H : Heap} {locs : List Loc} {cells slots : Nat} {Q : State → Prop}
variable {cc : ByteArray} {nL : Nat} {own : String} {rt : Option FieldType} {κ : KK} {pc : Nat} {ls : Array Slot} {rest : List Value} {vs : List (Option Value)} {H0 : Heap} {σ : ST} {F : Nat → Nat → Int32} {th : Int32}
theorem g_get {co ci N k index : Nat} {Cn : String} {T : u_T} {fs : List Value} {v : Value} (hC : CX p s m args meth c cc nL own rt κ) (hO : OS κ H0 σ F th H locs) (hcl : vwCl[ci]? = some (Cn, T, N)) (hin : ∀ w ∈ u_ws Cn T N, w ∈ lw_g) (hk : k < N) (hfl : Cond.fieldLink own index (T k).1 (T k).2.1 (T k).2.2.1 ∈ lw_g) (hco : co < nn σ) (he : sh κ σ F th co = .inr (ci, fs)) (hv : fs[k]? = some v) (hdg : decode cc pc = .ok (.getfield index, 3))
    (kk : W p l e R s m args below meth c H locs cells slots Q (F0 m (pc + 3) ls (v :: rest))) : W p l e R s m args below meth c H locs cells slots Q (F0 m pc ls (.ref (kad κ co) :: rest)) :=
  va_get hC.1 hC.2.1 hC.2.2.2.2.1 hin hC.2.2.2.1 hC.2.2.2.2.2.1 hO.2.1 co (by rw [wz_get hco, he]) hcl k hk (hC.2.2.2.2.1 _ hfl) (fun _ h9 => h9) hv hdg kk
/-- what a write of one cell leaves -/
theorem OS.put {σ' : ST} {F' : Nat → Nat → Int32} {th' : Int32} {co : Nat} {e2 : va_E} {H1 : Heap} {locs1 : List Loc} (hO : OS κ H0 σ F th H locs) (hco : co < nn σ) (hn : σ'.1 = σ.1) (hr : rowsOK σ' F') (h1 : ∀ c, c ≠ co → sh κ σ' F' th' c = sh κ σ F th c) (h2 : sh κ σ' F' th' co = e2)
    (hP : va_P (kD κ) vwCl ((wz (kad κ) (sh κ σ F th) (nn σ)).set co (kad κ co, e2)) H1) (hS : va_S (FA κ) H0 H1 locs1) : OS κ H0 σ' F' th' H1 locs1 := by
  have hnn : nn σ' = nn σ := by unfold nn; rw [hn]
  rw [wz_set hco, sh_up h1 h2] at hP
  exact ⟨hr, by rw [hnn]; exact hP, by rw [hnn]; exact hO.2.2.1, hS, hO.2.2.2.2⟩
theorem g_put {σ' : ST} {F' : Nat → Nat → Int32} {th' : Int32} {co ci N k index : Nat} {Cn : String} {T : u_T} {ty0 : Nat → FieldType} {fs : List Value} {v : Value} (hC : CX p s m args meth c cc nL own rt κ) (hO : OS κ H0 σ F th H locs) (hcl : vwCl[ci]? = some (Cn, T, N)) (hin : ∀ w ∈ u_ws Cn T N, w ∈ lw_g) (hty : ∀ k, k < N → parseFieldDescriptor (T k).2.2.1 = some (ty0 k)) (hnm : ∀ a, a < N → ∀ b, b < N → a ≠ b → (T a).2.1 ≠ (T b).2.1) (hk : k < N) (hfl : Cond.fieldLink own index (T k).1 (T k).2.1 (T k).2.2.1 ∈ lw_g) (hfin : (T k).2.2.2 = false) (hco : co < nn σ) (he : sh κ σ F th co = .inr (ci, fs)) (hlen : k < fs.length) (hnr : narrow (ty0 k) v = v) (hfit : fits (ty0 k) v = true)
    (hn : σ'.1 = σ.1) (hr : rowsOK σ' F') (h1 : ∀ c, c ≠ co → sh κ σ' F' th' c = sh κ σ F th c) (h2 : sh κ σ' F' th' co = .inr (ci, fs.set k v)) (hdg : decode cc pc = .ok (.putfield index, 3))
    (kk : ∀ (H1 : Heap) (locs1 : List Loc), OS κ H0 σ' F' th' H1 locs1 → W p l e R s m args below meth c H1 locs1 cells slots Q (F0 m (pc + 3) ls rest)) : W p l e R s m args below meth c H locs cells slots Q (F0 m pc ls (v :: .ref (kad κ co) :: rest)) :=
  va_put hC.1 hC.2.1 hC.2.2.2.2.1 hin ty0 hty hnm hC.2.2.2.1 hC.2.2.2.2.2.1 hO.2.1 (hO.2.2.1.D _) hO.2.2.2.1 co (by rw [wz_get hco, he]) hcl k hk (hC.2.2.2.2.1 _ hfl) (fun _ h9 => h9) hfin (hty k hk) hnr hfit hlen hdg (fun H1 locs1 hP _ hS => kk H1 locs1 (hO.put hco hn hr h1 h2 hP hS))
theorem rowsOK.upI {co i : Nat} {x : Int32} (h : rowsOK σ F) : rowsOK (upI σ co i x) F := h
theorem rowsOK.upJ {co i : Nat} {x : Int64} (h : rowsOK σ F) : rowsOK (upJ σ co i x) F := h
/-- an int field (or a boolean) -/
theorem g_puti {co ci N k index : Nat} {Cn : String} {T : u_T} {ty0 : Nat → FieldType} {fs : List Value} {x : Int32} (hC : CX p s m args meth c cc nL own rt κ) (hO : OS κ H0 σ F th H locs) (hcl : vwCl[ci]? = some (Cn, T, N)) (hin : ∀ w ∈ u_ws Cn T N, w ∈ lw_g) (hty : ∀ k, k < N → parseFieldDescriptor (T k).2.2.1 = some (ty0 k)) (hnm : ∀ a, a < N → ∀ b, b < N → a ≠ b → (T a).2.1 ≠ (T b).2.1) (hk : k < N) (hfl : Cond.fieldLink own index (T k).1 (T k).2.1 (T k).2.2.1 ∈ lw_g) (hfin : (T k).2.2.2 = false) (hco : co < nn σ) (he : sh κ σ F th co = .inr (ci, fs)) (hlen : k < fs.length) (hnr : narrow (ty0 k) (.int x) = .int x) (hfit : fits (ty0 k) (.int x) = true)
    (h2 : sh κ (upI σ co k x) F th co = .inr (ci, fs.set k (.int x))) (hdg : decode cc pc = .ok (.putfield index, 3))
    (kk : ∀ (H1 : Heap) (locs1 : List Loc), OS κ H0 (upI σ co k x) F th H1 locs1 → W p l e R s m args below meth c H1 locs1 cells slots Q (F0 m (pc + 3) ls rest)) : W p l e R s m args below meth c H locs cells slots Q (F0 m pc ls (.int x :: .ref (kad κ co) :: rest)) :=
  g_put (σ' := upI σ co k x) hC hO hcl hin hty hnm hk hfl hfin hco he hlen hnr hfit rfl hO.1 (fun c hc => sh_upI c hc) h2 hdg kk
theorem g_putl {co ci N k index : Nat} {Cn : String} {T : u_T} {ty0 : Nat → FieldType} {fs : List Value} {x : Int64} (hC : CX p s m args meth c cc nL own rt κ) (hO : OS κ H0 σ F th H locs) (hcl : vwCl[ci]? = some (Cn, T, N)) (hin : ∀ w ∈ u_ws Cn T N, w ∈ lw_g) (hty : ∀ k, k < N → parseFieldDescriptor (T k).2.2.1 = some (ty0 k)) (hnm : ∀ a, a < N → ∀ b, b < N → a ≠ b → (T a).2.1 ≠ (T b).2.1) (hk : k < N) (hfl : Cond.fieldLink own index (T k).1 (T k).2.1 (T k).2.2.1 ∈ lw_g) (hfin : (T k).2.2.2 = false) (hco : co < nn σ) (he : sh κ σ F th co = .inr (ci, fs)) (hlen : k < fs.length) (hnr : narrow (ty0 k) (.long x) = .long x) (hfit : fits (ty0 k) (.long x) = true)
    (h2 : sh κ (upJ σ co k x) F th co = .inr (ci, fs.set k (.long x))) (hdg : decode cc pc = .ok (.putfield index, 3))
    (kk : ∀ (H1 : Heap) (locs1 : List Loc), OS κ H0 (upJ σ co k x) F th H1 locs1 → W p l e R s m args below meth c H1 locs1 cells slots Q (F0 m (pc + 3) ls rest)) : W p l e R s m args below meth c H locs cells slots Q (F0 m pc ls (.long x :: .ref (kad κ co) :: rest)) :=
  g_put (σ' := upJ σ co k x) hC hO hcl hin hty hnm hk hfl hfin hco he hlen hnr hfit rfl hO.1 (fun c hc => sh_upJ c hc) h2 hdg kk
/-- the model's field 'thrown' -/
theorem g_putT {index : Nat} {x : Int32} (hC : CX p s m args meth c cc nL own rt κ) (hO : OS κ H0 σ F th H locs) (hfl : Cond.fieldLink own index (TX4 0).1 (TX4 0).2.1 (TX4 0).2.2.1 ∈ lw_g) (hdg : decode cc pc = .ok (.putfield index, 3))
    (kk : ∀ (H1 : Heap) (locs1 : List Loc), OS κ H0 σ F x H1 locs1 → W p l e R s m args below meth c H1 locs1 cells slots Q (F0 m (pc + 3) ls rest)) : W p l e R s m args below meth c H locs cells slots Q (F0 m pc ls (.int x :: .ref (kad κ 6) :: rest)) :=
  g_put (ci := 4) (k := 0) (co := 6) hC hO rfl inX4 tyX4_ok nmX4 (by decide) hfl rfl (nn_lt (by decide)) rfl (Nat.le_of_ble_eq_true rfl) rfl rfl rfl hO.1 (fun c hc => sh_upT c hc) rfl hdg kk
theorem g_iald {co n : Nat} {f : Nat → Int32} {i : Int32} (hC : CX p s m args meth c cc nL own rt κ) (hO : OS κ H0 σ F th H locs) (hco : co < nn σ) (he : sh κ σ F th co = .inl (kcI κ, n, .inl f)) (hin : vp_in i n) (hdg : decode cc pc = .ok (.iaload, 1))
    (kk : W p l e R s m args below meth c H locs cells slots Q (F0 m (pc + 1) ls (.int (f i.toNatClampNeg) :: rest))) : W p l e R s m args below meth c H locs cells slots Q (F0 m pc ls (.int i :: .ref (kad κ co) :: rest)) :=
  va_iald hC.1 hC.2.1 hC.2.2.2.2.2.1 hO.2.1 co 0 (by rw [wz_get hco, he]) rfl hin hdg kk
theorem g_lald {co n : Nat} {f : Nat → Int64} {i : Int32} (hC : CX p s m args meth c cc nL own rt κ) (hO : OS κ H0 σ F th H locs) (hco : co < nn σ) (he : sh κ σ F th co = .inl (kcL κ, n, .inr (.inl f))) (hin : vp_in i n) (hdg : decode cc pc = .ok (.laload, 1))
    (kk : W p l e R s m args below meth c H locs cells slots Q (F0 m (pc + 1) ls (.long (f i.toNatClampNeg) :: rest))) : W p l e R s m args below meth c H locs cells slots Q (F0 m pc ls (.int i :: .ref (kad κ co) :: rest)) :=
  va_lald hC.1 hC.2.1 hC.2.2.2.2.2.1 hO.2.1 co 1 (by rw [wz_get hco, he]) rfl hin hdg kk
theorem g_zald {co n : Nat} {f : Nat → Int32} {i : Int32} (hC : CX p s m args meth c cc nL own rt κ) (hO : OS κ H0 σ F th H locs) (hco : co < nn σ) (he : sh κ σ F th co = .inl (kcZ κ, n, .inl f)) (hin : vp_in i n) (hdg : decode cc pc = .ok (.baload, 1))
    (kk : W p l e R s m args below meth c H locs cells slots Q (F0 m (pc + 1) ls (.int (f i.toNatClampNeg) :: rest))) : W p l e R s m args below meth c H locs cells slots Q (F0 m pc ls (.int i :: .ref (kad κ co) :: rest)) :=
  va_zald hC.1 hC.2.1 hC.2.2.2.2.2.1 hO.2.1 co 2 (by rw [wz_get hco, he]) rfl hin hdg kk
theorem g_aldq {co n : Nat} {f : Nat → Option Nat} {i : Int32} (hC : CX p s m args meth c cc nL own rt κ) (hO : OS κ H0 σ F th H locs) (hco : co < nn σ) (he : sh κ σ F th co = .inl (kcR κ, n, .inr (.inr (.inr (.inr f))))) (hin : vp_in i n) (hdg : decode cc pc = .ok (.aaload, 1))
    (kk : W p l e R s m args below meth c H locs cells slots Q (F0 m (pc + 1) ls (va_rf (f i.toNatClampNeg) :: rest))) : W p l e R s m args below meth c H locs cells slots Q (F0 m pc ls (.int i :: .ref (kad κ co) :: rest)) :=
  va_aldq hC.1 hC.2.1 hC.2.2.2.2.2.1 hO.2.1 co 3 (by rw [wz_get hco, he]) rfl hin hdg kk
theorem g_alenI {co : Nat} {x : vp_A} {v : Int32} (hC : CX p s m args meth c cc nL own rt κ) (hO : OS κ H0 σ F th H locs) (hco : co < nn σ) (he : sh κ σ F th co = .inl (kcI κ, x)) (hv : Int32.ofNat x.1 = v) (hdg : decode cc pc = .ok (.arraylength, 1))
    (kk : W p l e R s m args below meth c H locs cells slots Q (F0 m (pc + 1) ls (.int v :: rest))) : W p l e R s m args below meth c H locs cells slots Q (F0 m pc ls (.ref (kad κ co) :: rest)) :=
  va_alen hC.1 hC.2.1 hC.2.2.2.2.2.1 hO.2.1 co 0 (by rw [wz_get hco, he]) rfl hv hdg kk
theorem g_alenL {co : Nat} {x : vp_A} {v : Int32} (hC : CX p s m args meth c cc nL own rt κ) (hO : OS κ H0 σ F th H locs) (hco : co < nn σ) (he : sh κ σ F th co = .inl (kcL κ, x)) (hv : Int32.ofNat x.1 = v) (hdg : decode cc pc = .ok (.arraylength, 1))
    (kk : W p l e R s m args below meth c H locs cells slots Q (F0 m (pc + 1) ls (.int v :: rest))) : W p l e R s m args below meth c H locs cells slots Q (F0 m pc ls (.ref (kad κ co) :: rest)) :=
  va_alen hC.1 hC.2.1 hC.2.2.2.2.2.1 hO.2.1 co 1 (by rw [wz_get hco, he]) rfl hv hdg kk
theorem g_alenR {co : Nat} {x : vp_A} {v : Int32} (hC : CX p s m args meth c cc nL own rt κ) (hO : OS κ H0 σ F th H locs) (hco : co < nn σ) (he : sh κ σ F th co = .inl (kcR κ, x)) (hv : Int32.ofNat x.1 = v) (hdg : decode cc pc = .ok (.arraylength, 1))
    (kk : W p l e R s m args below meth c H locs cells slots Q (F0 m (pc + 1) ls (.int v :: rest))) : W p l e R s m args below meth c H locs cells slots Q (F0 m pc ls (.ref (kad κ co) :: rest)) :=
  va_alen hC.1 hC.2.1 hC.2.2.2.2.2.1 hO.2.1 co 3 (by rw [wz_get hco, he]) rfl hv hdg kk
theorem g_iast {co n : Nat} {i x : Int32} (hC : CX p s m args meth c cc nL own rt κ) (hO : OS κ H0 σ F th H locs) (hco : co < nn σ) (he : ∀ σ' : ST, σ'.1 = σ.1 → sh κ σ' F th co = .inl (kcI κ, n, .inl (sI σ' co))) (hin : vp_in i n) (hdg : decode cc pc = .ok (.iastore, 1))
    (kk : ∀ (H1 : Heap) (locs1 : List Loc), OS κ H0 (upI σ co i.toNatClampNeg x) F th H1 locs1 → W p l e R s m args below meth c H1 locs1 cells slots Q (F0 m (pc + 1) ls rest)) : W p l e R s m args below meth c H locs cells slots Q (F0 m pc ls (.int x :: .int i :: .ref (kad κ co) :: rest)) :=
  va_iast hC.1 hC.2.1 hC.2.2.2.2.2.1 hO.2.1 (hO.2.2.1.D _) hO.2.2.2.1 co 0 (by rw [wz_get hco, he σ rfl]) rfl hin hdg (fun H1 locs1 hP _ hS => kk H1 locs1 (hO.put hco rfl hO.1 (fun c hc => sh_upI c hc) (by rw [he (upI σ co i.toNatClampNeg x) rfl]; simp only [upI, sI, va_up_self]) hP hS))
theorem g_last {co n : Nat} {i : Int32} {x : Int64} (hC : CX p s m args meth c cc nL own rt κ) (hO : OS κ H0 σ F th H locs) (hco : co < nn σ) (he : ∀ σ' : ST, σ'.1 = σ.1 → sh κ σ' F th co = .inl (kcL κ, n, .inr (.inl (sJ σ' co)))) (hin : vp_in i n) (hdg : decode cc pc = .ok (.lastore, 1))
    (kk : ∀ (H1 : Heap) (locs1 : List Loc), OS κ H0 (upJ σ co i.toNatClampNeg x) F th H1 locs1 → W p l e R s m args below meth c H1 locs1 cells slots Q (F0 m (pc + 1) ls rest)) : W p l e R s m args below meth c H locs cells slots Q (F0 m pc ls (.long x :: .int i :: .ref (kad κ co) :: rest)) :=
  va_last hC.1 hC.2.1 hC.2.2.2.2.2.1 hO.2.1 (hO.2.2.1.D _) hO.2.2.2.1 co 1 (by rw [wz_get hco, he σ rfl]) rfl hin hdg (fun H1 locs1 hP _ hS => kk H1 locs1 (hO.put hco rfl hO.1 (fun c hc => sh_upJ c hc) (by rw [he (upJ σ co i.toNatClampNeg x) rfl]; simp only [upJ, sJ, va_up_self]) hP hS))
theorem g_zast {co n : Nat} {i x : Int32} (hC : CX p s m args meth c cc nL own rt κ) (hO : OS κ H0 σ F th H locs) (hco : co < nn σ) (he : ∀ σ' : ST, σ'.1 = σ.1 → sh κ σ' F th co = .inl (kcZ κ, n, .inl (sI σ' co))) (hin : vp_in i n) (hx : x = 0 ∨ x = 1) (hdg : decode cc pc = .ok (.bastore, 1))
    (kk : ∀ (H1 : Heap) (locs1 : List Loc), OS κ H0 (upI σ co i.toNatClampNeg x) F th H1 locs1 → W p l e R s m args below meth c H1 locs1 cells slots Q (F0 m (pc + 1) ls rest)) : W p l e R s m args below meth c H locs cells slots Q (F0 m pc ls (.int x :: .int i :: .ref (kad κ co) :: rest)) :=
  va_zast hC.1 hC.2.1 hC.2.2.2.2.2.1 hO.2.1 (hO.2.2.1.D _) hO.2.2.2.1 co 2 (by rw [wz_get hco, he σ rfl]) rfl hin hdg (fun H1 locs1 hP _ hS => kk H1 locs1 (hO.put hco rfl hO.1 (fun c hc => sh_upI c hc) (by rw [he (upI σ co i.toNatClampNeg x) rfl, vp_nar_bool hx]; simp only [upI, sI, va_up_self]) hP hS))
/-! the ends -/
theorem g_iret {post : Int32 → ST → Prop} {x : Int32} (hC : CX p s m args meth c cc nL own (some .int) κ) (hO : OS κ s.heap σ F th H locs) (hdg : decode cc pc = .ok (.ireturn, 1)) (hpost : post x σ) : W p l e R s m args below meth c H locs 0 0 (MQ below (va_Qi post (WX κ) (FA κ)) args s 0 0 (FA κ)) (F0 m pc ls [.int x]) :=
  W.iret (hlocks := hC.2.2.2.2.2.2.1) hC.1 hC.2.1 hC.2.2.2.2.2.2.2 (fun t ht hW => ⟨⟨x, σ, rfl, hpost, hO.wx ht (va_K.moved hW.alike hC.2.2.2.2.2.1)⟩, hO.2.2.2.1.F ht⟩) hO.2.2.2.1.2.2 hdg
theorem g_zret {post : Int32 → ST → Prop} {x : Int32} (hC : CX p s m args meth c cc nL own (some .boolean) κ) (hO : OS κ s.heap σ F th H locs) (hdg : decode cc pc = .ok (.ireturn, 1)) (hx : x = 0 ∨ x = 1) (hpost : post x σ) : W p l e R s m args below meth c H locs 0 0 (MQ below (va_Qi post (WX κ) (FA κ)) args s 0 0 (FA κ)) (F0 m pc ls [.int x]) :=
  W.zret (hlocks := hC.2.2.2.2.2.2.1) hC.1 hC.2.1 hC.2.2.2.2.2.2.2 (by rcases hx with rfl | rfl <;> rfl) (fun t ht hW => ⟨⟨x, σ, rfl, hpost, hO.wx ht (va_K.moved hW.alike hC.2.2.2.2.2.1)⟩, hO.2.2.2.1.F ht⟩) hO.2.2.2.1.2.2 hdg
theorem g_lret {post : Int64 → ST → Prop} {x : Int64} (hC : CX p s m args meth c cc nL own (some .long) κ) (hO : OS κ s.heap σ F th H locs) (hdg : decode cc pc = .ok (.lreturn, 1)) (hpost : post x σ) : W p l e R s m args below meth c H locs 0 0 (MQ below (va_Ql post (WX κ) (FA κ)) args s 0 0 (FA κ)) (F0 m pc ls [.long x]) :=
  W.lret (hlocks := hC.2.2.2.2.2.2.1) hC.1 hC.2.1 hC.2.2.2.2.2.2.2 (fun t ht hW => ⟨⟨x, σ, rfl, hpost, hO.wx ht (va_K.moved hW.alike hC.2.2.2.2.2.1)⟩, hO.2.2.2.1.F ht⟩) hO.2.2.2.1.2.2 hdg
theorem g_vret {post : ST → Prop} (hC : CX p s m args meth c cc nL own none κ) (hO : OS κ s.heap σ F th H locs) (hdg : decode cc pc = .ok (.return_, 1)) (hpost : post σ) : W p l e R s m args below meth c H locs 0 0 (MQ below (va_Qv post (WX κ) (FA κ)) args s 0 0 (FA κ)) (F0 m pc ls []) :=
  W.vret (hlocks := hC.2.2.2.2.2.2.1) hC.1 hC.2.1 hC.2.2.2.2.2.2.2 (fun t ht hW => ⟨⟨σ, rfl, hpost, hO.wx ht (va_K.moved hW.alike hC.2.2.2.2.2.1)⟩, hO.2.2.2.1.F ht⟩) hO.2.2.2.1.2.2 hdg
theorem g_aret {post : Option Nat → ST → Prop} {x : Nat} {C : String} (hC : CX p s m args meth c cc nL own (some (.object C)) κ) (hO : OS κ s.heap σ F th H locs) (hdg : decode cc pc = .ok (.areturn, 1)) (hpost : post (some x) σ) : W p l e R s m args below meth c H locs 0 0 (MQ below (va_Qq post (WX κ) (FA κ)) args s 0 0 (FA κ)) (F0 m pc ls [.ref x]) :=
  W.aret (hlocks := hC.2.2.2.2.2.2.1) hC.1 hC.2.1 hC.2.2.2.2.2.2.2 (Or.inl ⟨C, rfl⟩) (Or.inr ⟨x, rfl⟩) (fun t ht hW => ⟨⟨some x, σ, rfl, hpost, hO.wx ht (va_K.moved hW.alike hC.2.2.2.2.2.1)⟩, hO.2.2.2.1.F ht⟩) hO.2.2.2.1.2.2 hdg
theorem g_aretN {post : Option Nat → ST → Prop} {C : String} (hC : CX p s m args meth c cc nL own (some (.object C)) κ) (hO : OS κ s.heap σ F th H locs) (hdg : decode cc pc = .ok (.areturn, 1)) (hpost : post none σ) : W p l e R s m args below meth c H locs 0 0 (MQ below (va_Qq post (WX κ) (FA κ)) args s 0 0 (FA κ)) (F0 m pc ls [.null]) :=
  W.aret (hlocks := hC.2.2.2.2.2.2.1) hC.1 hC.2.1 hC.2.2.2.2.2.2.2 (Or.inl ⟨C, rfl⟩) (Or.inl rfl) (fun t ht hW => ⟨⟨none, σ, rfl, hpost, hO.wx ht (va_K.moved hW.alike hC.2.2.2.2.2.1)⟩, hO.2.2.2.1.F ht⟩) hO.2.2.2.1.2.2 hdg
theorem g_aretq {post : Option Nat → ST → Prop} {x : Option Nat} {C : String} (hC : CX p s m args meth c cc nL own (some (.object C)) κ) (hO : OS κ s.heap σ F th H locs) (hdg : decode cc pc = .ok (.areturn, 1)) (hpost : post x σ) : W p l e R s m args below meth c H locs 0 0 (MQ below (va_Qq post (WX κ) (FA κ)) args s 0 0 (FA κ)) (F0 m pc ls [va_rf x]) := by
  cases x with
  | none => exact g_aretN hC hO hdg hpost
  | some x => exact g_aret hC hO hdg hpost
/-! calls of methods over the whole world -/
theorem g_recv {co ci N : Nat} {Cn : String} {T : u_T} {fs : List Value} (hC : CX p s m args meth c cc nL own rt κ) (hO : OS κ H0 σ F th H locs) (hcl : vwCl[ci]? = some (Cn, T, N)) (hco : co < nn σ) (he : sh κ σ F th co = .inr (ci, fs)) : ∃ cell : Cell, H[kad κ co]? = some cell ∧ cell.vm.isStatics = false ∧ s.vm.findClass Cn = some cell.cls :=
  va_recv (q0 := co) hC.2.2.2.2.2.1 hO.2.1 hcl (by rw [wz_get hco, he])
theorem g_runV {y : MethodName} {C : String} {cc2 : ByteArray} {mx n index : Nat} {rt2 : Option FieldType} {rm : Room} {As : List Value} {Qc : Array Value → State → Outcome → State → Prop} {b : Addr} (hC : CX p s m args meth c cc nL own rt κ) (hO : OS κ H0 σ F th H locs) (hl : LL ls nL vs) (hM : Met l y (wA y cc2 mx rt2) rm (va_Pc (.ref b :: As) (WX κ σ)) Qc 0 0 (FA κ)) (mi : MI y C cc2 mx rt2 n) (ml : Cond.methodLink own index y ∈ lw_g)
    (hb : ∃ cell : Cell, H[b]? = some cell ∧ cell.vm.isStatics = false ∧ s.vm.findClass C = some cell.cls) (hn : As.length = n) (hrc : rm.cells = 0) (hrs : rm.slots = 0) (hR : rm.frames + 1 ≤ R.frames ∧ 8 + (mx + 11) + rm.locals ≤ R.locals) (hw : (rest.map fun v => v.category).sum ≤ 8) (hf : cells ≤ R.cells ∧ slots ≤ R.slots) (hdg : decode cc pc = .ok (.invokevirtual index, 3)) :
    va_Run p l e R s m args below meth c H locs cells slots 0 0 (F0 m pc ls (As.reverse ++ .ref b :: rest)) rest (Qc (Value.ref b :: As).toArray) (FA κ) :=
  va_runV ⟨hC.1, hC.2.1, hC.2.2.1, hC.2.2.2.1, hC.2.2.2.2.1⟩ hM (cwV n hC.2.2.2.2.1 (gV ml mi.1 mi.2.1 mi.2.2.1 mi.2.2.2.1) rfl hrc hrs mi.2.2.2.2 hR) ⟨fun a U g mk q => ⟨q.1, q.2.blind g mk a⟩, hb, fun U hU hW => ⟨rfl, hO.wx hU (va_K.moved hW.alike hC.2.2.2.2.2.1)⟩⟩ rfl hn hl.1 rfl (lv_room hw) hdg hf
theorem g_runS {y : MethodName} {cc2 : ByteArray} {mx n index : Nat} {rt2 : Option FieldType} {rm : Room} {As : List Value} {Qc : Array Value → State → Outcome → State → Prop} (hC : CX p s m args meth c cc nL own rt κ) (hO : OS κ H0 σ F th H locs) (hl : LL ls nL vs) (hM : Met l y (wA y cc2 mx rt2) rm (va_Pc As (WX κ σ)) Qc 0 0 (FA κ)) (mi : MS y own cc2 mx rt2 n) (ml : Cond.methodLink own index y ∈ lw_g)
    (hn : As.length = n) (hrc : rm.cells = 0) (hrs : rm.slots = 0) (hR : rm.frames + 1 ≤ R.frames ∧ 8 + (mx + 11) + rm.locals ≤ R.locals) (hw : (rest.map fun v => v.category).sum ≤ 8) (hf : cells ≤ R.cells ∧ slots ≤ R.slots) (hdg : decode cc pc = .ok (.invokestatic index, 3)) :
    va_Run p l e R s m args below meth c H locs cells slots 0 0 (F0 m pc ls (As.reverse ++ rest)) rest (Qc As.toArray) (FA κ) :=
  va_runS ⟨hC.1, hC.2.1, hC.2.2.1, hC.2.2.2.1, hC.2.2.2.2.1⟩ hM (cwS n hC.2.2.2.2.1 (gS ml mi.1 mi.2.1 mi.2.2.1) rfl hrc hrs mi.2.2.2 hR) ⟨fun a U g mk q => ⟨q.1, q.2.blind g mk a⟩, fun U hU hW => ⟨rfl, hO.wx hU (va_K.moved hW.alike hC.2.2.2.2.2.1)⟩⟩ rfl hn hl.1 rfl (lv_room hw) hdg hf
theorem OS.back {σ' : ST} {t : State} {H1 : Heap} {locs1 : List Loc} (hO : OS κ H0 σ F th H locs) (ht : t.heap = H1) (hB : WX κ σ' t) (hS : va_S (FA κ) H0 H1 locs1) : ∃ F' th', OS κ H0 σ' F' th' H1 locs1 := by
  obtain ⟨-, ⟨F', th', h1, h2⟩, h3, -⟩ := hB
  exact ⟨F', th', h1, by rw [← ht]; exact h2, h3, hS, hO.2.2.2.2⟩
theorem g_cVi0 {y : MethodName} {cc2 : ByteArray} {mx index : Nat} {rt2 : Option FieldType} {rm : Room} {co ci N : Nat} {Cn : String} {T : u_T} {fs : List Value} {post : Int32 → ST → Prop} (hC : CX p s m args meth c cc nL own rt κ) (hO : OS κ H0 σ F th H locs) (hl : LL ls nL vs) (hcl : vwCl[ci]? = some (Cn, T, N)) (hco : co < nn σ) (he : sh κ σ F th co = .inr (ci, fs)) (hM : Met l y (wA y cc2 mx rt2) rm (va_Pc (.ref (kad κ co) :: []) (WX κ σ)) (va_Qi post (WX κ) (FA κ)) 0 0 (FA κ)) (mi : MI y Cn cc2 mx rt2 0) (ml : Cond.methodLink own index y ∈ lw_g) (hrc : rm.cells = 0) (hrs : rm.slots = 0) (hR : rm.frames + 1 ≤ R.frames ∧ 8 + (mx + 11) + rm.locals ≤ R.locals) (hw : (rest.map fun v => v.category).sum ≤ 8) (hf : cells ≤ R.cells ∧ slots ≤ R.slots) (hdg : decode cc pc = .ok (.invokevirtual index, 3))
    (kk : ∀ (r : Int32) (σ' : ST) (F' : Nat → Nat → Int32) (th' : Int32) (H1 : Heap) (locs1 : List Loc), post r σ' → OS κ H0 σ' F' th' H1 locs1 → W p l e R s m args below meth c H1 locs1 cells slots Q (F0 m (pc + 3) ls (.int r :: rest))) : W p l e R s m args below meth c H locs cells slots Q (F0 m pc ls (.ref (kad κ co) :: rest)) :=
  va_calli (g_runV (rest := rest) (As := []) hC hO hl hM mi ml (g_recv hC hO hcl hco he) rfl hrc hrs hR hw hf hdg) hO.2.2.2.1 (fun _ _ h => h) (fun _ h => h) (fun r σ' t H1 locs1 ht _ hp hB _ _ hS => by
    obtain ⟨F', th', hO'⟩ := hO.back ht hB hS
    exact kk r σ' F' th' H1 locs1 hp hO')
theorem g_cVl0 {y : MethodName} {cc2 : ByteArray} {mx index : Nat} {rt2 : Option FieldType} {rm : Room} {co ci N : Nat} {Cn : String} {T : u_T} {fs : List Value} {post : Int64 → ST → Prop} (hC : CX p s m args meth c cc nL own rt κ) (hO : OS κ H0 σ F th H locs) (hl : LL ls nL vs) (hcl : vwCl[ci]? = some (Cn, T, N)) (hco : co < nn σ) (he : sh κ σ F th co = .inr (ci, fs)) (hM : Met l y (wA y cc2 mx rt2) rm (va_Pc (.ref (kad κ co) :: []) (WX κ σ)) (va_Ql post (WX κ) (FA κ)) 0 0 (FA κ)) (mi : MI y Cn cc2 mx rt2 0) (ml : Cond.methodLink own index y ∈ lw_g) (hrc : rm.cells = 0) (hrs : rm.slots = 0) (hR : rm.frames + 1 ≤ R.frames ∧ 8 + (mx + 11) + rm.locals ≤ R.locals) (hw : (rest.map fun v => v.category).sum ≤ 8) (hf : cells ≤ R.cells ∧ slots ≤ R.slots) (hdg : decode cc pc = .ok (.invokevirtual index, 3))
    (kk : ∀ (r : Int64) (σ' : ST) (F' : Nat → Nat → Int32) (th' : Int32) (H1 : Heap) (locs1 : List Loc), post r σ' → OS κ H0 σ' F' th' H1 locs1 → W p l e R s m args below meth c H1 locs1 cells slots Q (F0 m (pc + 3) ls (.long r :: rest))) : W p l e R s m args below meth c H locs cells slots Q (F0 m pc ls (.ref (kad κ co) :: rest)) :=
  va_calll (g_runV (rest := rest) (As := []) hC hO hl hM mi ml (g_recv hC hO hcl hco he) rfl hrc hrs hR hw hf hdg) hO.2.2.2.1 (fun _ _ h => h) (fun _ h => h) (fun r σ' t H1 locs1 ht _ hp hB _ _ hS => by
    obtain ⟨F', th', hO'⟩ := hO.back ht hB hS
    exact kk r σ' F' th' H1 locs1 hp hO')
theorem g_cVq0 {y : MethodName} {cc2 : ByteArray} {mx index : Nat} {rt2 : Option FieldType} {rm : Room} {co ci N : Nat} {Cn : String} {T : u_T} {fs : List Value} {post : Option Nat → ST → Prop} (hC : CX p s m args meth c cc nL own rt κ) (hO : OS κ H0 σ F th H locs) (hl : LL ls nL vs) (hcl : vwCl[ci]? = some (Cn, T, N)) (hco : co < nn σ) (he : sh κ σ F th co = .inr (ci, fs)) (hM : Met l y (wA y cc2 mx rt2) rm (va_Pc (.ref (kad κ co) :: []) (WX κ σ)) (va_Qq post (WX κ) (FA κ)) 0 0 (FA κ)) (mi : MI y Cn cc2 mx rt2 0) (ml : Cond.methodLink own index y ∈ lw_g) (hrc : rm.cells = 0) (hrs : rm.slots = 0) (hR : rm.frames + 1 ≤ R.frames ∧ 8 + (mx + 11) + rm.locals ≤ R.locals) (hw : (rest.map fun v => v.category).sum ≤ 8) (hf : cells ≤ R.cells ∧ slots ≤ R.slots) (hdg : decode cc pc = .ok (.invokevirtual index, 3))
    (kk : ∀ (r : Option Nat) (σ' : ST) (F' : Nat → Nat → Int32) (th' : Int32) (H1 : Heap) (locs1 : List Loc), post r σ' → OS κ H0 σ' F' th' H1 locs1 → W p l e R s m args below meth c H1 locs1 cells slots Q (F0 m (pc + 3) ls (va_rf r :: rest))) : W p l e R s m args below meth c H locs cells slots Q (F0 m pc ls (.ref (kad κ co) :: rest)) :=
  va_callq (g_runV (rest := rest) (As := []) hC hO hl hM mi ml (g_recv hC hO hcl hco he) rfl hrc hrs hR hw hf hdg) hO.2.2.2.1 (fun _ _ h => h) (fun _ h => h) (fun r σ' t H1 locs1 ht _ hp hB _ _ hS => by
    obtain ⟨F', th', hO'⟩ := hO.back ht hB hS
    exact kk r σ' F' th' H1 locs1 hp hO')
theorem g_cVv0 {y : MethodName} {cc2 : ByteArray} {mx index : Nat} {rt2 : Option FieldType} {rm : Room} {co ci N : Nat} {Cn : String} {T : u_T} {fs : List Value} {post : ST → Prop} (hC : CX p s m args meth c cc nL own rt κ) (hO : OS κ H0 σ F th H locs) (hl : LL ls nL vs) (hcl : vwCl[ci]? = some (Cn, T, N)) (hco : co < nn σ) (he : sh κ σ F th co = .inr (ci, fs)) (hM : Met l y (wA y cc2 mx rt2) rm (va_Pc (.ref (kad κ co) :: []) (WX κ σ)) (va_Qv post (WX κ) (FA κ)) 0 0 (FA κ)) (mi : MI y Cn cc2 mx rt2 0) (ml : Cond.methodLink own index y ∈ lw_g) (hrc : rm.cells = 0) (hrs : rm.slots = 0) (hR : rm.frames + 1 ≤ R.frames ∧ 8 + (mx + 11) + rm.locals ≤ R.locals) (hw : (rest.map fun v => v.category).sum ≤ 8) (hf : cells ≤ R.cells ∧ slots ≤ R.slots) (hdg : decode cc pc = .ok (.invokevirtual index, 3))
    (kk : ∀ (σ' : ST) (F' : Nat → Nat → Int32) (th' : Int32) (H1 : Heap) (locs1 : List Loc), post σ' → OS κ H0 σ' F' th' H1 locs1 → W p l e R s m args below meth c H1 locs1 cells slots Q (F0 m (pc + 3) ls rest)) : W p l e R s m args below meth c H locs cells slots Q (F0 m pc ls (.ref (kad κ co) :: rest)) :=
  va_callv (g_runV (rest := rest) (As := []) hC hO hl hM mi ml (g_recv hC hO hcl hco he) rfl hrc hrs hR hw hf hdg) hO.2.2.2.1 (fun _ _ h => h) (fun _ h => h) (fun σ' t H1 locs1 ht _ hp hB _ _ hS => by
    obtain ⟨F', th', hO'⟩ := hO.back ht hB hS
    exact kk σ' F' th' H1 locs1 hp hO')
theorem g_cVi1 {y : MethodName} {cc2 : ByteArray} {mx index : Nat} {rt2 : Option FieldType} {rm : Room} {a1 : Value} {co ci N : Nat} {Cn : String} {T : u_T} {fs : List Value} {post : Int32 → ST → Prop} (hC : CX p s m args meth c cc nL own rt κ) (hO : OS κ H0 σ F th H locs) (hl : LL ls nL vs) (hcl : vwCl[ci]? = some (Cn, T, N)) (hco : co < nn σ) (he : sh κ σ F th co = .inr (ci, fs)) (hM : Met l y (wA y cc2 mx rt2) rm (va_Pc (.ref (kad κ co) :: [a1]) (WX κ σ)) (va_Qi post (WX κ) (FA κ)) 0 0 (FA κ)) (mi : MI y Cn cc2 mx rt2 1) (ml : Cond.methodLink own index y ∈ lw_g) (hrc : rm.cells = 0) (hrs : rm.slots = 0) (hR : rm.frames + 1 ≤ R.frames ∧ 8 + (mx + 11) + rm.locals ≤ R.locals) (hw : (rest.map fun v => v.category).sum ≤ 8) (hf : cells ≤ R.cells ∧ slots ≤ R.slots) (hdg : decode cc pc = .ok (.invokevirtual index, 3))
    (kk : ∀ (r : Int32) (σ' : ST) (F' : Nat → Nat → Int32) (th' : Int32) (H1 : Heap) (locs1 : List Loc), post r σ' → OS κ H0 σ' F' th' H1 locs1 → W p l e R s m args below meth c H1 locs1 cells slots Q (F0 m (pc + 3) ls (.int r :: rest))) : W p l e R s m args below meth c H locs cells slots Q (F0 m pc ls (a1 :: .ref (kad κ co) :: rest)) :=
  va_calli (g_runV (rest := rest) (As := [a1]) hC hO hl hM mi ml (g_recv hC hO hcl hco he) rfl hrc hrs hR hw hf hdg) hO.2.2.2.1 (fun _ _ h => h) (fun _ h => h) (fun r σ' t H1 locs1 ht _ hp hB _ _ hS => by
    obtain ⟨F', th', hO'⟩ := hO.back ht hB hS
    exact kk r σ' F' th' H1 locs1 hp hO')
theorem g_cVl1 {y : MethodName} {cc2 : ByteArray} {mx index : Nat} {rt2 : Option FieldType} {rm : Room} {a1 : Value} {co ci N : Nat} {Cn : String} {T : u_T} {fs : List Value} {post : Int64 → ST → Prop} (hC : CX p s m args meth c cc nL own rt κ) (hO : OS κ H0 σ F th H locs) (hl : LL ls nL vs) (hcl : vwCl[ci]? = some (Cn, T, N)) (hco : co < nn σ) (he : sh κ σ F th co = .inr (ci, fs)) (hM : Met l y (wA y cc2 mx rt2) rm (va_Pc (.ref (kad κ co) :: [a1]) (WX κ σ)) (va_Ql post (WX κ) (FA κ)) 0 0 (FA κ)) (mi : MI y Cn cc2 mx rt2 1) (ml : Cond.methodLink own index y ∈ lw_g) (hrc : rm.cells = 0) (hrs : rm.slots = 0) (hR : rm.frames + 1 ≤ R.frames ∧ 8 + (mx + 11) + rm.locals ≤ R.locals) (hw : (rest.map fun v => v.category).sum ≤ 8) (hf : cells ≤ R.cells ∧ slots ≤ R.slots) (hdg : decode cc pc = .ok (.invokevirtual index, 3))
    (kk : ∀ (r : Int64) (σ' : ST) (F' : Nat → Nat → Int32) (th' : Int32) (H1 : Heap) (locs1 : List Loc), post r σ' → OS κ H0 σ' F' th' H1 locs1 → W p l e R s m args below meth c H1 locs1 cells slots Q (F0 m (pc + 3) ls (.long r :: rest))) : W p l e R s m args below meth c H locs cells slots Q (F0 m pc ls (a1 :: .ref (kad κ co) :: rest)) :=
  va_calll (g_runV (rest := rest) (As := [a1]) hC hO hl hM mi ml (g_recv hC hO hcl hco he) rfl hrc hrs hR hw hf hdg) hO.2.2.2.1 (fun _ _ h => h) (fun _ h => h) (fun r σ' t H1 locs1 ht _ hp hB _ _ hS => by
    obtain ⟨F', th', hO'⟩ := hO.back ht hB hS
    exact kk r σ' F' th' H1 locs1 hp hO')
theorem g_cVq1 {y : MethodName} {cc2 : ByteArray} {mx index : Nat} {rt2 : Option FieldType} {rm : Room} {a1 : Value} {co ci N : Nat} {Cn : String} {T : u_T} {fs : List Value} {post : Option Nat → ST → Prop} (hC : CX p s m args meth c cc nL own rt κ) (hO : OS κ H0 σ F th H locs) (hl : LL ls nL vs) (hcl : vwCl[ci]? = some (Cn, T, N)) (hco : co < nn σ) (he : sh κ σ F th co = .inr (ci, fs)) (hM : Met l y (wA y cc2 mx rt2) rm (va_Pc (.ref (kad κ co) :: [a1]) (WX κ σ)) (va_Qq post (WX κ) (FA κ)) 0 0 (FA κ)) (mi : MI y Cn cc2 mx rt2 1) (ml : Cond.methodLink own index y ∈ lw_g) (hrc : rm.cells = 0) (hrs : rm.slots = 0) (hR : rm.frames + 1 ≤ R.frames ∧ 8 + (mx + 11) + rm.locals ≤ R.locals) (hw : (rest.map fun v => v.category).sum ≤ 8) (hf : cells ≤ R.cells ∧ slots ≤ R.slots) (hdg : decode cc pc = .ok (.invokevirtual index, 3))
    (kk : ∀ (r : Option Nat) (σ' : ST) (F' : Nat → Nat → Int32) (th' : Int32) (H1 : Heap) (locs1 : List Loc), post r σ' → OS κ H0 σ' F' th' H1 locs1 → W p l e R s m args below meth c H1 locs1 cells slots Q (F0 m (pc + 3) ls (va_rf r :: rest))) : W p l e R s m args below meth c H locs cells slots Q (F0 m pc ls (a1 :: .ref (kad κ co) :: rest)) :=
  va_callq (g_runV (rest := rest) (As := [a1]) hC hO hl hM mi ml (g_recv hC hO hcl hco he) rfl hrc hrs hR hw hf hdg) hO.2.2.2.1 (fun _ _ h => h) (fun _ h => h) (fun r σ' t H1 locs1 ht _ hp hB _ _ hS => by
    obtain ⟨F', th', hO'⟩ := hO.back ht hB hS
    exact kk r σ' F' th' H1 locs1 hp hO')
theorem g_cVv1 {y : MethodName} {cc2 : ByteArray} {mx index : Nat} {rt2 : Option FieldType} {rm : Room} {a1 : Value} {co ci N : Nat} {Cn : String} {T : u_T} {fs : List Value} {post : ST → Prop} (hC : CX p s m args meth c cc nL own rt κ) (hO : OS κ H0 σ F th H locs) (hl : LL ls nL vs) (hcl : vwCl[ci]? = some (Cn, T, N)) (hco : co < nn σ) (he : sh κ σ F th co = .inr (ci, fs)) (hM : Met l y (wA y cc2 mx rt2) rm (va_Pc (.ref (kad κ co) :: [a1]) (WX κ σ)) (va_Qv post (WX κ) (FA κ)) 0 0 (FA κ)) (mi : MI y Cn cc2 mx rt2 1) (ml : Cond.methodLink own index y ∈ lw_g) (hrc : rm.cells = 0) (hrs : rm.slots = 0) (hR : rm.frames + 1 ≤ R.frames ∧ 8 + (mx + 11) + rm.locals ≤ R.locals) (hw : (rest.map fun v => v.category).sum ≤ 8) (hf : cells ≤ R.cells ∧ slots ≤ R.slots) (hdg : decode cc pc = .ok (.invokevirtual index, 3))
    (kk : ∀ (σ' : ST) (F' : Nat → Nat → Int32) (th' : Int32) (H1 : Heap) (locs1 : List Loc), post σ' → OS κ H0 σ' F' th' H1 locs1 → W p l e R s m args below meth c H1 locs1 cells slots Q (F0 m (pc + 3) ls rest)) : W p l e R s m args below meth c H locs cells slots Q (F0 m pc ls (a1 :: .ref (kad κ co) :: rest)) :=
  va_callv (g_runV (rest := rest) (As := [a1]) hC hO hl hM mi ml (g_recv hC hO hcl hco he) rfl hrc hrs hR hw hf hdg) hO.2.2.2.1 (fun _ _ h => h) (fun _ h => h) (fun σ' t H1 locs1 ht _ hp hB _ _ hS => by
    obtain ⟨F', th', hO'⟩ := hO.back ht hB hS
    exact kk σ' F' th' H1 locs1 hp hO')
theorem g_cVi2 {y : MethodName} {cc2 : ByteArray} {mx index : Nat} {rt2 : Option FieldType} {rm : Room} {a1 a2 : Value} {co ci N : Nat} {Cn : String} {T : u_T} {fs : List Value} {post : Int32 → ST → Prop} (hC : CX p s m args meth c cc nL own rt κ) (hO : OS κ H0 σ F th H locs) (hl : LL ls nL vs) (hcl : vwCl[ci]? = some (Cn, T, N)) (hco : co < nn σ) (he : sh κ σ F th co = .inr (ci, fs)) (hM : Met l y (wA y cc2 mx rt2) rm (va_Pc (.ref (kad κ co) :: [a1, a2]) (WX κ σ)) (va_Qi post (WX κ) (FA κ)) 0 0 (FA κ)) (mi : MI y Cn cc2 mx rt2 2) (ml : Cond.methodLink own index y ∈ lw_g) (hrc : rm.cells = 0) (hrs : rm.slots = 0) (hR : rm.frames + 1 ≤ R.frames ∧ 8 + (mx + 11) + rm.locals ≤ R.locals) (hw : (rest.map fun v => v.category).sum ≤ 8) (hf : cells ≤ R.cells ∧ slots ≤ R.slots) (hdg : decode cc pc = .ok (.invokevirtual index, 3))
    (kk : ∀ (r : Int32) (σ' : ST) (F' : Nat → Nat → Int32) (th' : Int32) (H1 : Heap) (locs1 : List Loc), post r σ' → OS κ H0 σ' F' th' H1 locs1 → W p l e R s m args below meth c H1 locs1 cells slots Q (F0 m (pc + 3) ls (.int r :: rest))) : W p l e R s m args below meth c H locs cells slots Q (F0 m pc ls (a2 :: a1 :: .ref (kad κ co) :: rest)) :=
  va_calli (g_runV (rest := rest) (As := [a1, a2]) hC hO hl hM mi ml (g_recv hC hO hcl hco he) rfl hrc hrs hR hw hf hdg) hO.2.2.2.1 (fun _ _ h => h) (fun _ h => h) (fun r σ' t H1 locs1 ht _ hp hB _ _ hS => by
    obtain ⟨F', th', hO'⟩ := hO.back ht hB hS
    exact kk r σ' F' th' H1 locs1 hp hO')
theorem g_cVl2 {y : MethodName} {cc2 : ByteArray} {mx index : Nat} {rt2 : Option FieldType} {rm : Room} {a1 a2 : Value} {co ci N : Nat} {Cn : String} {T : u_T} {fs : List Value} {post : Int64 → ST → Prop} (hC : CX p s m args meth c cc nL own rt κ) (hO : OS κ H0 σ F th H locs) (hl : LL ls nL vs) (hcl : vwCl[ci]? = some (Cn, T, N)) (hco : co < nn σ) (he : sh κ σ F th co = .inr (ci, fs)) (hM : Met l y (wA y cc2 mx rt2) rm (va_Pc (.ref (kad κ co) :: [a1, a2]) (WX κ σ)) (va_Ql post (WX κ) (FA κ)) 0 0 (FA κ)) (mi : MI y Cn cc2 mx rt2 2) (ml : Cond.methodLink own index y ∈ lw_g) (hrc : rm.cells = 0) (hrs : rm.slots = 0) (hR : rm.frames + 1 ≤ R.frames ∧ 8 + (mx + 11) + rm.locals ≤ R.locals) (hw : (rest.map fun v => v.category).sum ≤ 8) (hf : cells ≤ R.cells ∧ slots ≤ R.slots) (hdg : decode cc pc = .ok (.invokevirtual index, 3))
    (kk : ∀ (r : Int64) (σ' : ST) (F' : Nat → Nat → Int32) (th' : Int32) (H1 : Heap) (locs1 : List Loc), post r σ' → OS κ H0 σ' F' th' H1 locs1 → W p l e R s m args below meth c H1 locs1 cells slots Q (F0 m (pc + 3) ls (.long r :: rest))) : W p l e R s m args below meth c H locs cells slots Q (F0 m pc ls (a2 :: a1 :: .ref (kad κ co) :: rest)) :=
  va_calll (g_runV (rest := rest) (As := [a1, a2]) hC hO hl hM mi ml (g_recv hC hO hcl hco he) rfl hrc hrs hR hw hf hdg) hO.2.2.2.1 (fun _ _ h => h) (fun _ h => h) (fun r σ' t H1 locs1 ht _ hp hB _ _ hS => by
    obtain ⟨F', th', hO'⟩ := hO.back ht hB hS
    exact kk r σ' F' th' H1 locs1 hp hO')
theorem g_cVq2 {y : MethodName} {cc2 : ByteArray} {mx index : Nat} {rt2 : Option FieldType} {rm : Room} {a1 a2 : Value} {co ci N : Nat} {Cn : String} {T : u_T} {fs : List Value} {post : Option Nat → ST → Prop} (hC : CX p s m args meth c cc nL own rt κ) (hO : OS κ H0 σ F th H locs) (hl : LL ls nL vs) (hcl : vwCl[ci]? = some (Cn, T, N)) (hco : co < nn σ) (he : sh κ σ F th co = .inr (ci, fs)) (hM : Met l y (wA y cc2 mx rt2) rm (va_Pc (.ref (kad κ co) :: [a1, a2]) (WX κ σ)) (va_Qq post (WX κ) (FA κ)) 0 0 (FA κ)) (mi : MI y Cn cc2 mx rt2 2) (ml : Cond.methodLink own index y ∈ lw_g) (hrc : rm.cells = 0) (hrs : rm.slots = 0) (hR : rm.frames + 1 ≤ R.frames ∧ 8 + (mx + 11) + rm.locals ≤ R.locals) (hw : (rest.map fun v => v.category).sum ≤ 8) (hf : cells ≤ R.cells ∧ slots ≤ R.slots) (hdg : decode cc pc = .ok (.invokevirtual index, 3))
    (kk : ∀ (r : Option Nat) (σ' : ST) (F' : Nat → Nat → Int32) (th' : Int32) (H1 : Heap) (locs1 : List Loc), post r σ' → OS κ H0 σ' F' th' H1 locs1 → W p l e R s m args below meth c H1 locs1 cells slots Q (F0 m (pc + 3) ls (va_rf r :: rest))) : W p l e R s m args below meth c H locs cells slots Q (F0 m pc ls (a2 :: a1 :: .ref (kad κ co) :: rest)) :=
  va_callq (g_runV (rest := rest) (As := [a1, a2]) hC hO hl hM mi ml (g_recv hC hO hcl hco he) rfl hrc hrs hR hw hf hdg) hO.2.2.2.1 (fun _ _ h => h) (fun _ h => h) (fun r σ' t H1 locs1 ht _ hp hB _ _ hS => by
    obtain ⟨F', th', hO'⟩ := hO.back ht hB hS
    exact kk r σ' F' th' H1 locs1 hp hO')
theorem g_cVv2 {y : MethodName} {cc2 : ByteArray} {mx index : Nat} {rt2 : Option FieldType} {rm : Room} {a1 a2 : Value} {co ci N : Nat} {Cn : String} {T : u_T} {fs : List Value} {post : ST → Prop} (hC : CX p s m args meth c cc nL own rt κ) (hO : OS κ H0 σ F th H locs) (hl : LL ls nL vs) (hcl : vwCl[ci]? = some (Cn, T, N)) (hco : co < nn σ) (he : sh κ σ F th co = .inr (ci, fs)) (hM : Met l y (wA y cc2 mx rt2) rm (va_Pc (.ref (kad κ co) :: [a1, a2]) (WX κ σ)) (va_Qv post (WX κ) (FA κ)) 0 0 (FA κ)) (mi : MI y Cn cc2 mx rt2 2) (ml : Cond.methodLink own index y ∈ lw_g) (hrc : rm.cells = 0) (hrs : rm.slots = 0) (hR : rm.frames + 1 ≤ R.frames ∧ 8 + (mx + 11) + rm.locals ≤ R.locals) (hw : (rest.map fun v => v.category).sum ≤ 8) (hf : cells ≤ R.cells ∧ slots ≤ R.slots) (hdg : decode cc pc = .ok (.invokevirtual index, 3))
    (kk : ∀ (σ' : ST) (F' : Nat → Nat → Int32) (th' : Int32) (H1 : Heap) (locs1 : List Loc), post σ' → OS κ H0 σ' F' th' H1 locs1 → W p l e R s m args below meth c H1 locs1 cells slots Q (F0 m (pc + 3) ls rest)) : W p l e R s m args below meth c H locs cells slots Q (F0 m pc ls (a2 :: a1 :: .ref (kad κ co) :: rest)) :=
  va_callv (g_runV (rest := rest) (As := [a1, a2]) hC hO hl hM mi ml (g_recv hC hO hcl hco he) rfl hrc hrs hR hw hf hdg) hO.2.2.2.1 (fun _ _ h => h) (fun _ h => h) (fun σ' t H1 locs1 ht _ hp hB _ _ hS => by
    obtain ⟨F', th', hO'⟩ := hO.back ht hB hS
    exact kk σ' F' th' H1 locs1 hp hO')
theorem g_cVi3 {y : MethodName} {cc2 : ByteArray} {mx index : Nat} {rt2 : Option FieldType} {rm : Room} {a1 a2 a3 : Value} {co ci N : Nat} {Cn : String} {T : u_T} {fs : List Value} {post : Int32 → ST → Prop} (hC : CX p s m args meth c cc nL own rt κ) (hO : OS κ H0 σ F th H locs) (hl : LL ls nL vs) (hcl : vwCl[ci]? = some (Cn, T, N)) (hco : co < nn σ) (he : sh κ σ F th co = .inr (ci, fs)) (hM : Met l y (wA y cc2 mx rt2) rm (va_Pc (.ref (kad κ co) :: [a1, a2, a3]) (WX κ σ)) (va_Qi post (WX κ) (FA κ)) 0 0 (FA κ)) (mi : MI y Cn cc2 mx rt2 3) (ml : Cond.methodLink own index y ∈ lw_g) (hrc : rm.cells = 0) (hrs : rm.slots = 0) (hR : rm.frames + 1 ≤ R.frames ∧ 8 + (mx + 11) + rm.locals ≤ R.locals) (hw : (rest.map fun v => v.category).sum ≤ 8) (hf : cells ≤ R.cells ∧ slots ≤ R.slots) (hdg : decode cc pc = .ok (.invokevirtual index, 3))
    (kk : ∀ (r : Int32) (σ' : ST) (F' : Nat → Nat → Int32) (th' : Int32) (H1 : Heap) (locs1 : List Loc), post r σ' → OS κ H0 σ' F' th' H1 locs1 → W p l e R s m args below meth c H1 locs1 cells slots Q (F0 m (pc + 3) ls (.int r :: rest))) : W p l e R s m args below meth c H locs cells slots Q (F0 m pc ls (a3 :: a2 :: a1 :: .ref (kad κ co) :: rest)) :=
  va_calli (g_runV (rest := rest) (As := [a1, a2, a3]) hC hO hl hM mi ml (g_recv hC hO hcl hco he) rfl hrc hrs hR hw hf hdg) hO.2.2.2.1 (fun _ _ h => h) (fun _ h => h) (fun r σ' t H1 locs1 ht _ hp hB _ _ hS => by
    obtain ⟨F', th', hO'⟩ := hO.back ht hB hS
    exact kk r σ' F' th' H1 locs1 hp hO')
theorem g_cVl3 {y : MethodName} {cc2 : ByteArray} {mx index : Nat} {rt2 : Option FieldType} {rm : Room} {a1 a2 a3 : Value} {co ci N : Nat} {Cn : String} {T : u_T} {fs : List Value} {post : Int64 → ST → Prop} (hC : CX p s m args meth c cc nL own rt κ) (hO : OS κ H0 σ F th H locs) (hl : LL ls nL vs) (hcl : vwCl[ci]? = some (Cn, T, N)) (hco : co < nn σ) (he : sh κ σ F th co = .inr (ci, fs)) (hM : Met l y (wA y cc2 mx rt2) rm (va_Pc (.ref (kad κ co) :: [a1, a2, a3]) (WX κ σ)) (va_Ql post (WX κ) (FA κ)) 0 0 (FA κ)) (mi : MI y Cn cc2 mx rt2 3) (ml : Cond.methodLink own index y ∈ lw_g) (hrc : rm.cells = 0) (hrs : rm.slots = 0) (hR : rm.frames + 1 ≤ R.frames ∧ 8 + (mx + 11) + rm.locals ≤ R.locals) (hw : (rest.map fun v => v.category).sum ≤ 8) (hf : cells ≤ R.cells ∧ slots ≤ R.slots) (hdg : decode cc pc = .ok (.invokevirtual index, 3))
    (kk : ∀ (r : Int64) (σ' : ST) (F' : Nat → Nat → Int32) (th' : Int32) (H1 : Heap) (locs1 : List Loc), post r σ' → OS κ H0 σ' F' th' H1 locs1 → W p l e R s m args below meth c H1 locs1 cells slots Q (F0 m (pc + 3) ls (.long r :: rest))) : W p l e R s m args below meth c H locs cells slots Q (F0 m pc ls (a3 :: a2 :: a1 :: .ref (kad κ co) :: rest)) :=
  va_calll (g_runV (rest := rest) (As := [a1, a2, a3]) hC hO hl hM mi ml (g_recv hC hO hcl hco he) rfl hrc hrs hR hw hf hdg) hO.2.2.2.1 (fun _ _ h => h) (fun _ h => h) (fun r σ' t H1 locs1 ht _ hp hB _ _ hS => by
    obtain ⟨F', th', hO'⟩ := hO.back ht hB hS
    exact kk r σ' F' th' H1 locs1 hp hO')
theorem g_cVq3 {y : MethodName} {cc2 : ByteArray} {mx index : Nat} {rt2 : Option FieldType} {rm : Room} {a1 a2 a3 : Value} {co ci N : Nat} {Cn : String} {T : u_T} {fs : List Value} {post : Option Nat → ST → Prop} (hC : CX p s m args meth c cc nL own rt κ) (hO : OS κ H0 σ F th H locs) (hl : LL ls nL vs) (hcl : vwCl[ci]? = some (Cn, T, N)) (hco : co < nn σ) (he : sh κ σ F th co = .inr (ci, fs)) (hM : Met l y (wA y cc2 mx rt2) rm (va_Pc (.ref (kad κ co) :: [a1, a2, a3]) (WX κ σ)) (va_Qq post (WX κ) (FA κ)) 0 0 (FA κ)) (mi : MI y Cn cc2 mx rt2 3) (ml : Cond.methodLink own index y ∈ lw_g) (hrc : rm.cells = 0) (hrs : rm.slots = 0) (hR : rm.frames + 1 ≤ R.frames ∧ 8 + (mx + 11) + rm.locals ≤ R.locals) (hw : (rest.map fun v => v.category).sum ≤ 8) (hf : cells ≤ R.cells ∧ slots ≤ R.slots) (hdg : decode cc pc = .ok (.invokevirtual index, 3))
    (kk : ∀ (r : Option Nat) (σ' : ST) (F' : Nat → Nat → Int32) (th' : Int32) (H1 : Heap) (locs1 : List Loc), post r σ' → OS κ H0 σ' F' th' H1 locs1 → W p l e R s m args below meth c H1 locs1 cells slots Q (F0 m (pc + 3) ls (va_rf r :: rest))) : W p l e R s m args below meth c H locs cells slots Q (F0 m pc ls (a3 :: a2 :: a1 :: .ref (kad κ co) :: rest)) :=
  va_callq (g_runV (rest := rest) (As := [a1, a2, a3]) hC hO hl hM mi ml (g_recv hC hO hcl hco he) rfl hrc hrs hR hw hf hdg) hO.2.2.2.1 (fun _ _ h => h) (fun _ h => h) (fun r σ' t H1 locs1 ht _ hp hB _ _ hS => by
    obtain ⟨F', th', hO'⟩ := hO.back ht hB hS
    exact kk r σ' F' th' H1 locs1 hp hO')
theorem g_cVv3 {y : MethodName} {cc2 : ByteArray} {mx index : Nat} {rt2 : Option FieldType} {rm : Room} {a1 a2 a3 : Value} {co ci N : Nat} {Cn : String} {T : u_T} {fs : List Value} {post : ST → Prop} (hC : CX p s m args meth c cc nL own rt κ) (hO : OS κ H0 σ F th H locs) (hl : LL ls nL vs) (hcl : vwCl[ci]? = some (Cn, T, N)) (hco : co < nn σ) (he : sh κ σ F th co = .inr (ci, fs)) (hM : Met l y (wA y cc2 mx rt2) rm (va_Pc (.ref (kad κ co) :: [a1, a2, a3]) (WX κ σ)) (va_Qv post (WX κ) (FA κ)) 0 0 (FA κ)) (mi : MI y Cn cc2 mx rt2 3) (ml : Cond.methodLink own index y ∈ lw_g) (hrc : rm.cells = 0) (hrs : rm.slots = 0) (hR : rm.frames + 1 ≤ R.frames ∧ 8 + (mx + 11) + rm.locals ≤ R.locals) (hw : (rest.map fun v => v.category).sum ≤ 8) (hf : cells ≤ R.cells ∧ slots ≤ R.slots) (hdg : decode cc pc = .ok (.invokevirtual index, 3))
    (kk : ∀ (σ' : ST) (F' : Nat → Nat → Int32) (th' : Int32) (H1 : Heap) (locs1 : List Loc), post σ' → OS κ H0 σ' F' th' H1 locs1 → W p l e R s m args below meth c H1 locs1 cells slots Q (F0 m (pc + 3) ls rest)) : W p l e R s m args below meth c H locs cells slots Q (F0 m pc ls (a3 :: a2 :: a1 :: .ref (kad κ co) :: rest)) :=
  va_callv (g_runV (rest := rest) (As := [a1, a2, a3]) hC hO hl hM mi ml (g_recv hC hO hcl hco he) rfl hrc hrs hR hw hf hdg) hO.2.2.2.1 (fun _ _ h => h) (fun _ h => h) (fun σ' t H1 locs1 ht _ hp hB _ _ hS => by
    obtain ⟨F', th', hO'⟩ := hO.back ht hB hS
    exact kk σ' F' th' H1 locs1 hp hO')
theorem g_cVi4 {y : MethodName} {cc2 : ByteArray} {mx index : Nat} {rt2 : Option FieldType} {rm : Room} {a1 a2 a3 a4 : Value} {co ci N : Nat} {Cn : String} {T : u_T} {fs : List Value} {post : Int32 → ST → Prop} (hC : CX p s m args meth c cc nL own rt κ) (hO : OS κ H0 σ F th H locs) (hl : LL ls nL vs) (hcl : vwCl[ci]? = some (Cn, T, N)) (hco : co < nn σ) (he : sh κ σ F th co = .inr (ci, fs)) (hM : Met l y (wA y cc2 mx rt2) rm (va_Pc (.ref (kad κ co) :: [a1, a2, a3, a4]) (WX κ σ)) (va_Qi post (WX κ) (FA κ)) 0 0 (FA κ)) (mi : MI y Cn cc2 mx rt2 4) (ml : Cond.methodLink own index y ∈ lw_g) (hrc : rm.cells = 0) (hrs : rm.slots = 0) (hR : rm.frames + 1 ≤ R.frames ∧ 8 + (mx + 11) + rm.locals ≤ R.locals) (hw : (rest.map fun v => v.category).sum ≤ 8) (hf : cells ≤ R.cells ∧ slots ≤ R.slots) (hdg : decode cc pc = .ok (.invokevirtual index, 3))
    (kk : ∀ (r : Int32) (σ' : ST) (F' : Nat → Nat → Int32) (th' : Int32) (H1 : Heap) (locs1 : List Loc), post r σ' → OS κ H0 σ' F' th' H1 locs1 → W p l e R s m args below meth c H1 locs1 cells slots Q (F0 m (pc + 3) ls (.int r :: rest))) : W p l e R s m args below meth c H locs cells slots Q (F0 m pc ls (a4 :: a3 :: a2 :: a1 :: .ref (kad κ co) :: rest)) :=
  va_calli (g_runV (rest := rest) (As := [a1, a2, a3, a4]) hC hO hl hM mi ml (g_recv hC hO hcl hco he) rfl hrc hrs hR hw hf hdg) hO.2.2.2.1 (fun _ _ h => h) (fun _ h => h) (fun r σ' t H1 locs1 ht _ hp hB _ _ hS => by
    obtain ⟨F', th', hO'⟩ := hO.back ht hB hS
    exact kk r σ' F' th' H1 locs1 hp hO')
theorem g_cVl4 {y : MethodName} {cc2 : ByteArray} {mx index : Nat} {rt2 : Option FieldType} {rm : Room} {a1 a2 a3 a4 : Value} {co ci N : Nat} {Cn : String} {T : u_T} {fs : List Value} {post : Int64 → ST → Prop} (hC : CX p s m args meth c cc nL own rt κ) (hO : OS κ H0 σ F th H locs) (hl : LL ls nL vs) (hcl : vwCl[ci]? = some (Cn, T, N)) (hco : co < nn σ) (he : sh κ σ F th co = .inr (ci, fs)) (hM : Met l y (wA y cc2 mx rt2) rm (va_Pc (.ref (kad κ co) :: [a1, a2, a3, a4]) (WX κ σ)) (va_Ql post (WX κ) (FA κ)) 0 0 (FA κ)) (mi : MI y Cn cc2 mx rt2 4) (ml : Cond.methodLink own index y ∈ lw_g) (hrc : rm.cells = 0) (hrs : rm.slots = 0) (hR : rm.frames + 1 ≤ R.frames ∧ 8 + (mx + 11) + rm.locals ≤ R.locals) (hw : (rest.map fun v => v.category).sum ≤ 8) (hf : cells ≤ R.cells ∧ slots ≤ R.slots) (hdg : decode cc pc = .ok (.invokevirtual index, 3))
    (kk : ∀ (r : Int64) (σ' : ST) (F' : Nat → Nat → Int32) (th' : Int32) (H1 : Heap) (locs1 : List Loc), post r σ' → OS κ H0 σ' F' th' H1 locs1 → W p l e R s m args below meth c H1 locs1 cells slots Q (F0 m (pc + 3) ls (.long r :: rest))) : W p l e R s m args below meth c H locs cells slots Q (F0 m pc ls (a4 :: a3 :: a2 :: a1 :: .ref (kad κ co) :: rest)) :=
  va_calll (g_runV (rest := rest) (As := [a1, a2, a3, a4]) hC hO hl hM mi ml (g_recv hC hO hcl hco he) rfl hrc hrs hR hw hf hdg) hO.2.2.2.1 (fun _ _ h => h) (fun _ h => h) (fun r σ' t H1 locs1 ht _ hp hB _ _ hS => by
    obtain ⟨F', th', hO'⟩ := hO.back ht hB hS
    exact kk r σ' F' th' H1 locs1 hp hO')
theorem g_cVq4 {y : MethodName} {cc2 : ByteArray} {mx index : Nat} {rt2 : Option FieldType} {rm : Room} {a1 a2 a3 a4 : Value} {co ci N : Nat} {Cn : String} {T : u_T} {fs : List Value} {post : Option Nat → ST → Prop} (hC : CX p s m args meth c cc nL own rt κ) (hO : OS κ H0 σ F th H locs) (hl : LL ls nL vs) (hcl : vwCl[ci]? = some (Cn, T, N)) (hco : co < nn σ) (he : sh κ σ F th co = .inr (ci, fs)) (hM : Met l y (wA y cc2 mx rt2) rm (va_Pc (.ref (kad κ co) :: [a1, a2, a3, a4]) (WX κ σ)) (va_Qq post (WX κ) (FA κ)) 0 0 (FA κ)) (mi : MI y Cn cc2 mx rt2 4) (ml : Cond.methodLink own index y ∈ lw_g) (hrc : rm.cells = 0) (hrs : rm.slots = 0) (hR : rm.frames + 1 ≤ R.frames ∧ 8 + (mx + 11) + rm.locals ≤ R.locals) (hw : (rest.map fun v => v.category).sum ≤ 8) (hf : cells ≤ R.cells ∧ slots ≤ R.slots) (hdg : decode cc pc = .ok (.invokevirtual index, 3))
    (kk : ∀ (r : Option Nat) (σ' : ST) (F' : Nat → Nat → Int32) (th' : Int32) (H1 : Heap) (locs1 : List Loc), post r σ' → OS κ H0 σ' F' th' H1 locs1 → W p l e R s m args below meth c H1 locs1 cells slots Q (F0 m (pc + 3) ls (va_rf r :: rest))) : W p l e R s m args below meth c H locs cells slots Q (F0 m pc ls (a4 :: a3 :: a2 :: a1 :: .ref (kad κ co) :: rest)) :=
  va_callq (g_runV (rest := rest) (As := [a1, a2, a3, a4]) hC hO hl hM mi ml (g_recv hC hO hcl hco he) rfl hrc hrs hR hw hf hdg) hO.2.2.2.1 (fun _ _ h => h) (fun _ h => h) (fun r σ' t H1 locs1 ht _ hp hB _ _ hS => by
    obtain ⟨F', th', hO'⟩ := hO.back ht hB hS
    exact kk r σ' F' th' H1 locs1 hp hO')
theorem g_cVv4 {y : MethodName} {cc2 : ByteArray} {mx index : Nat} {rt2 : Option FieldType} {rm : Room} {a1 a2 a3 a4 : Value} {co ci N : Nat} {Cn : String} {T : u_T} {fs : List Value} {post : ST → Prop} (hC : CX p s m args meth c cc nL own rt κ) (hO : OS κ H0 σ F th H locs) (hl : LL ls nL vs) (hcl : vwCl[ci]? = some (Cn, T, N)) (hco : co < nn σ) (he : sh κ σ F th co = .inr (ci, fs)) (hM : Met l y (wA y cc2 mx rt2) rm (va_Pc (.ref (kad κ co) :: [a1, a2, a3, a4]) (WX κ σ)) (va_Qv post (WX κ) (FA κ)) 0 0 (FA κ)) (mi : MI y Cn cc2 mx rt2 4) (ml : Cond.methodLink own index y ∈ lw_g) (hrc : rm.cells = 0) (hrs : rm.slots = 0) (hR : rm.frames + 1 ≤ R.frames ∧ 8 + (mx + 11) + rm.locals ≤ R.locals) (hw : (rest.map fun v => v.category).sum ≤ 8) (hf : cells ≤ R.cells ∧ slots ≤ R.slots) (hdg : decode cc pc = .ok (.invokevirtual index, 3))
    (kk : ∀ (σ' : ST) (F' : Nat → Nat → Int32) (th' : Int32) (H1 : Heap) (locs1 : List Loc), post σ' → OS κ H0 σ' F' th' H1 locs1 → W p l e R s m args below meth c H1 locs1 cells slots Q (F0 m (pc + 3) ls rest)) : W p l e R s m args below meth c H locs cells slots Q (F0 m pc ls (a4 :: a3 :: a2 :: a1 :: .ref (kad κ co) :: rest)) :=
  va_callv (g_runV (rest := rest) (As := [a1, a2, a3, a4]) hC hO hl hM mi ml (g_recv hC hO hcl hco he) rfl hrc hrs hR hw hf hdg) hO.2.2.2.1 (fun _ _ h => h) (fun _ h => h) (fun σ' t H1 locs1 ht _ hp hB _ _ hS => by
    obtain ⟨F', th', hO'⟩ := hO.back ht hB hS
    exact kk σ' F' th' H1 locs1 hp hO')
theorem g_cSi1 {y : MethodName} {cc2 : ByteArray} {mx index : Nat} {rt2 : Option FieldType} {rm : Room} {a1 : Value} {post : Int32 → ST → Prop} (hC : CX p s m args meth c cc nL own rt κ) (hO : OS κ H0 σ F th H locs) (hl : LL ls nL vs) (hM : Met l y (wA y cc2 mx rt2) rm (va_Pc [a1] (WX κ σ)) (va_Qi post (WX κ) (FA κ)) 0 0 (FA κ)) (mi : MS y own cc2 mx rt2 1) (ml : Cond.methodLink own index y ∈ lw_g) (hrc : rm.cells = 0) (hrs : rm.slots = 0) (hR : rm.frames + 1 ≤ R.frames ∧ 8 + (mx + 11) + rm.locals ≤ R.locals) (hw : (rest.map fun v => v.category).sum ≤ 8) (hf : cells ≤ R.cells ∧ slots ≤ R.slots) (hdg : decode cc pc = .ok (.invokestatic index, 3))
    (kk : ∀ (r : Int32) (σ' : ST) (F' : Nat → Nat → Int32) (th' : Int32) (H1 : Heap) (locs1 : List Loc), post r σ' → OS κ H0 σ' F' th' H1 locs1 → W p l e R s m args below meth c H1 locs1 cells slots Q (F0 m (pc + 3) ls (.int r :: rest))) : W p l e R s m args below meth c H locs cells slots Q (F0 m pc ls (a1 :: rest)) :=
  va_calli (g_runS (rest := rest) (As := [a1]) hC hO hl hM mi ml rfl hrc hrs hR hw hf hdg) hO.2.2.2.1 (fun _ _ h => h) (fun _ h => h) (fun r σ' t H1 locs1 ht _ hp hB _ _ hS => by
    obtain ⟨F', th', hO'⟩ := hO.back ht hB hS
    exact kk r σ' F' th' H1 locs1 hp hO')
theorem g_cSl1 {y : MethodName} {cc2 : ByteArray} {mx index : Nat} {rt2 : Option FieldType} {rm : Room} {a1 : Value} {post : Int64 → ST → Prop} (hC : CX p s m args meth c cc nL own rt κ) (hO : OS κ H0 σ F th H locs) (hl : LL ls nL vs) (hM : Met l y (wA y cc2 mx rt2) rm (va_Pc [a1] (WX κ σ)) (va_Ql post (WX κ) (FA κ)) 0 0 (FA κ)) (mi : MS y own cc2 mx rt2 1) (ml : Cond.methodLink own index y ∈ lw_g) (hrc : rm.cells = 0) (hrs : rm.slots = 0) (hR : rm.frames + 1 ≤ R.frames ∧ 8 + (mx + 11) + rm.locals ≤ R.locals) (hw : (rest.map fun v => v.category).sum ≤ 8) (hf : cells ≤ R.cells ∧ slots ≤ R.slots) (hdg : decode cc pc = .ok (.invokestatic index, 3))
    (kk : ∀ (r : Int64) (σ' : ST) (F' : Nat → Nat → Int32) (th' : Int32) (H1 : Heap) (locs1 : List Loc), post r σ' → OS κ H0 σ' F' th' H1 locs1 → W p l e R s m args below meth c H1 locs1 cells slots Q (F0 m (pc + 3) ls (.long r :: rest))) : W p l e R s m args below meth c H locs cells slots Q (F0 m pc ls (a1 :: rest)) :=
  va_calll (g_runS (rest := rest) (As := [a1]) hC hO hl hM mi ml rfl hrc hrs hR hw hf hdg) hO.2.2.2.1 (fun _ _ h => h) (fun _ h => h) (fun r σ' t H1 locs1 ht _ hp hB _ _ hS => by
    obtain ⟨F', th', hO'⟩ := hO.back ht hB hS
    exact kk r σ' F' th' H1 locs1 hp hO')
theorem g_cSq1 {y : MethodName} {cc2 : ByteArray} {mx index : Nat} {rt2 : Option FieldType} {rm : Room} {a1 : Value} {post : Option Nat → ST → Prop} (hC : CX p s m args meth c cc nL own rt κ) (hO : OS κ H0 σ F th H locs) (hl : LL ls nL vs) (hM : Met l y (wA y cc2 mx rt2) rm (va_Pc [a1] (WX κ σ)) (va_Qq post (WX κ) (FA κ)) 0 0 (FA κ)) (mi : MS y own cc2 mx rt2 1) (ml : Cond.methodLink own index y ∈ lw_g) (hrc : rm.cells = 0) (hrs : rm.slots = 0) (hR : rm.frames + 1 ≤ R.frames ∧ 8 + (mx + 11) + rm.locals ≤ R.locals) (hw : (rest.map fun v => v.category).sum ≤ 8) (hf : cells ≤ R.cells ∧ slots ≤ R.slots) (hdg : decode cc pc = .ok (.invokestatic index, 3))
    (kk : ∀ (r : Option Nat) (σ' : ST) (F' : Nat → Nat → Int32) (th' : Int32) (H1 : Heap) (locs1 : List Loc), post r σ' → OS κ H0 σ' F' th' H1 locs1 → W p l e R s m args below meth c H1 locs1 cells slots Q (F0 m (pc + 3) ls (va_rf r :: rest))) : W p l e R s m args below meth c H locs cells slots Q (F0 m pc ls (a1 :: rest)) :=
  va_callq (g_runS (rest := rest) (As := [a1]) hC hO hl hM mi ml rfl hrc hrs hR hw hf hdg) hO.2.2.2.1 (fun _ _ h => h) (fun _ h => h) (fun r σ' t H1 locs1 ht _ hp hB _ _ hS => by
    obtain ⟨F', th', hO'⟩ := hO.back ht hB hS
    exact kk r σ' F' th' H1 locs1 hp hO')
theorem g_cSv1 {y : MethodName} {cc2 : ByteArray} {mx index : Nat} {rt2 : Option FieldType} {rm : Room} {a1 : Value} {post : ST → Prop} (hC : CX p s m args meth c cc nL own rt κ) (hO : OS κ H0 σ F th H locs) (hl : LL ls nL vs) (hM : Met l y (wA y cc2 mx rt2) rm (va_Pc [a1] (WX κ σ)) (va_Qv post (WX κ) (FA κ)) 0 0 (FA κ)) (mi : MS y own cc2 mx rt2 1) (ml : Cond.methodLink own index y ∈ lw_g) (hrc : rm.cells = 0) (hrs : rm.slots = 0) (hR : rm.frames + 1 ≤ R.frames ∧ 8 + (mx + 11) + rm.locals ≤ R.locals) (hw : (rest.map fun v => v.category).sum ≤ 8) (hf : cells ≤ R.cells ∧ slots ≤ R.slots) (hdg : decode cc pc = .ok (.invokestatic index, 3))
    (kk : ∀ (σ' : ST) (F' : Nat → Nat → Int32) (th' : Int32) (H1 : Heap) (locs1 : List Loc), post σ' → OS κ H0 σ' F' th' H1 locs1 → W p l e R s m args below meth c H1 locs1 cells slots Q (F0 m (pc + 3) ls rest)) : W p l e R s m args below meth c H locs cells slots Q (F0 m pc ls (a1 :: rest)) :=
  va_callv (g_runS (rest := rest) (As := [a1]) hC hO hl hM mi ml rfl hrc hrs hR hw hf hdg) hO.2.2.2.1 (fun _ _ h => h) (fun _ h => h) (fun σ' t H1 locs1 ht _ hp hB _ _ hS => by
    obtain ⟨F', th', hO'⟩ := hO.back ht hB hS
    exact kk σ' F' th' H1 locs1 hp hO')
end HEAP
/-- a method over the whole world, from its entry -/
theorem g_met {l : Launch} {y : MethodName} {cc : ByteArray} {mx : Nat} {ret : Option FieldType} {rm : Room} {As : List Value} {Qc : Array Value → State → Outcome → State → Prop} {own : String} {κ : KK} {σ : ST} (r : Nat) (hy : plainName y.cls = true) (hc : y.cls = own) (hlen : (lg_sl As).length ≤ mx)
    (body : ∀ (p : Program) (e : Env) (s : State) (m : MethodId) (args : Array Value) (below : List Frame) (meth : Method) (c : Code), CX p s m args meth c cc mx own ret κ → ∀ (F : Nat → Nat → Int32) (th : Int32), OS κ s.heap σ F th s.heap [] → ∀ ls : Array Slot, LL ls mx (lo As ++ List.replicate r none) → W p l e rm s m args below meth c s.heap [] 0 0 (MQ below Qc args s 0 0 (FA κ)) (F0 m 0 ls [])) : Met l y (wA y cc mx ret) rm (va_Pc As (WX κ σ)) Qc 0 0 (FA κ) := by
  refine Met.ofW (cc := cc) (maxL := mx) (ret := ret) hy rfl ?_
  intro p e s m args below meth c s₁ B hml hv
  obtain ⟨rfl, hK, ⟨F, th, h1, h2⟩, h3, h4⟩ := hv
  have hts := atoms_spec (ws := wA y cc mx ret) B.pre
  have hown : s.vm.findClass own = some m.cls := by rw [← hc]; exact findClass_of_methodNamed B.named
  have hl := lv_entry As (n := mx) hlen
  rw [lg_entry_eq]
  refine body p e s m _ below meth c ⟨B.exec, B.bytes, hml, hown, fun w hw => hts w (List.mem_cons_of_mem _ hw), hK, B.notSynchronized, B.returns⟩ F th ⟨h1, h2, h3, va_S.rf, h4⟩ _ ?_
  show lv_has _ _ _
  rw [lz_lo]
  exact hl
end
section
def bI (b : Bool) : Int32 := if b = true then 1 else 0
theorem bI_z {b : Bool} (h : bI b = 0) : b = false := by
  cases b with
  | true => exact absurd h (by decide)
  | false => rfl
theorem bI_nz {b : Bool} (h : ¬ bI b = 0) : b = true := by
  cases b with
  | true => rfl
  | false => exact absurd rfl h
theorem bI_01 (b : Bool) : bI b = 0 ∨ bI b = 1 := by cases b <;> simp [bI]
theorem bI_t {b : Bool} (h : b = true) : (1 : Int32) = bI b := by rw [h]; rfl
theorem bI_f {b : Bool} (h : b = false) : (0 : Int32) = bI b := by rw [h]; rfl
theorem nI_i1 (a : Nat) : nI a + Int32.ofInt 1 = nI (a + 1) := nI_1 a
theorem capj_le (j : Nat) : capj j ≤ 12 := by unfold capj; split <;> (try split) <;> omega
theorem vp_in2 {i : Int32} {n : Nat} (h1 : ¬ i < 0) (h2 : ¬ nI n ≤ i) (hn : n < 2 ^ 31) : vp_in i n := by
  obtain ⟨j, hj, rfl⟩ := nI_of h1
  rw [nI_leI hn hj] at h2
  exact vp_in_nI (by omega) hn
theorem upR_self (σ : ST) (co : Nat) : upR σ co (sR σ co) = σ := by
  unfold upR sR
  have h : va_up σ.2.2.2 co (σ.2.2.2 co) = σ.2.2.2 := by
    funext q
    by_cases hq : q = co
    · subst hq; rw [va_up_self]
    · rw [va_up_ne _ _ hq]
  rw [h]
theorem upR_upR (σ : ST) (co : Nat) (r r' : List Int32) : upR (upR σ co r) co r' = upR σ co r' := by
  simp only [upR]
  have h : va_up (va_up σ.2.2.2 co r) co r' = va_up σ.2.2.2 co r' := by
    funext q
    by_cases hq : q = co
    · subst hq; rw [va_up_self, va_up_self]
    · rw [va_up_ne _ _ hq, va_up_ne _ _ hq, va_up_ne _ _ hq]
  rw [h]
theorem sR_upR_self (σ : ST) (co : Nat) (r : List Int32) : sR (upR σ co r) co = r := by simp [sR, upR, va_up_self]
theorem sR_upR_ne (σ : ST) {co c : Nat} (r : List Int32) (h : c ≠ co) : sR (upR σ co r) c = sR σ c := by simp [sR, upR, va_up_ne _ _ h]
theorem rc_inj {k j k' j' : Nat} (hj : j < 6) (hj' : j' < 6) (h : rc k j = rc k' j') : k = k' ∧ j = j' := by
  unfold rc at h; omega
theorem rowsOK.len {σ : ST} {F : Nat → Nat → Int32} (h : rowsOK σ F) {k j : Nat} (hk : k < σ.1) (hj : j < 6) : (sR σ (rc k j)).length ≤ capj j := (h.2 k j hk hj).1
theorem rowsOK.get {σ : ST} {F : Nat → Nat → Int32} (h : rowsOK σ F) {k j i : Nat} (hk : k < σ.1) (hj : j < 6) (hi : i < (sR σ (rc k j)).length) : F (rc k j + 1) i = (sR σ (rc k j)).getD i 0 := by
  have h1 := (h.2 k j hk hj).2 i ((sR σ (rc k j))[i]) (List.getElem?_eq_getElem hi)
  rw [h1, List.getD_eq_getElem?_getD, List.getElem?_eq_getElem hi]
  rfl
theorem rowsOK.upR {σ : ST} {F F' : Nat → Nat → Int32} (h : rowsOK σ F) {k j : Nat} {r : List Int32} (hj : j < 6) (hF : ∀ c, c ≠ rc k j + 1 → F' c = F c) (hlen : r.length ≤ capj j) (hr : ∀ (i : Nat) (x : Int32), r[i]? = some x → F' (rc k j + 1) i = x) : rowsOK (upR σ (rc k j) r) F' := by
  refine ⟨h.1, fun k' j' hk' hj' => ?_⟩
  by_cases e : rc k' j' = rc k j
  · obtain ⟨rfl, rfl⟩ := rc_inj hj' hj e
    rw [sR_upR_self]
    exact ⟨hlen, hr⟩
  · rw [sR_upR_ne _ _ e]
    have e2 : rc k' j' + 1 ≠ rc k j + 1 := by omega
    rw [hF _ e2]
    exact h.2 k' j' hk' hj'
section ROWS
variable {p : Program} {l : Launch} {e : Env} {R : Room} {s : State} {m : MethodId} {args : Array Value} {below : List Frame} {meth : Method} {c : Code} {H : Heap} {locs : List Loc} {cells slots : Nat} {Q : State → Prop}
variable {cc : ByteArray} {nL : Nat} {own : String} {rt : Option FieldType} {κ : KK} {pc : Nat} {ls : Array Slot} {rest : List Value} {H0 : Heap} {σ : ST} {F : Nat → Nat → Int32} {th : Int32}
theorem sh_rowU (κ : KK) (σ : ST) (F : Nat → Nat → Int32) (th : Int32) {k j : Nat} (hj : j < 6) (r : List Int32) : sh κ (upR σ (rc k j) r) F th (rc k j) = .inr (2, [.ref (kad κ (rc k j + 1)), .int (nI r.length)]) := by
  rw [sh_row _ _ _ _ _ hj, sR_upR_self]
/-- a store in a row's array; r' is the row then -/
theorem g_iastF {k j : Nat} {i x : Int32} (r' : List Int32) (hC : CX p s m args meth c cc nL own rt κ) (hO : OS κ H0 σ F th H locs) (hk : k < σ.1) (hj : j < 6) (hin : vp_in i (capj j)) (hr : r'.length = (sR σ (rc k j)).length) (hok : ∀ (a : Nat) (y : Int32), r'[a]? = some y → upd (F (rc k j + 1)) i.toNatClampNeg x a = y) (hdg : decode cc pc = .ok (.iastore, 1))
    (kk : ∀ (H1 : Heap) (locs1 : List Loc), OS κ H0 (upR σ (rc k j) r') (va_up F (rc k j + 1) (upd (F (rc k j + 1)) i.toNatClampNeg x)) th H1 locs1 → W p l e R s m args below meth c H1 locs1 cells slots Q (F0 m (pc + 1) ls rest)) : W p l e R s m args below meth c H locs cells slots Q (F0 m pc ls (.int x :: .int i :: .ref (kad κ (rc k j + 1)) :: rest)) := by
  refine va_iast hC.1 hC.2.1 hC.2.2.2.2.2.1 hO.2.1 (hO.2.2.1.D _) hO.2.2.2.1 (rc k j + 1) 0 (by rw [wz_get (nn_ra hk hj), sh_arr _ _ _ _ _ hj]) rfl hin hdg (fun H1 locs1 hP _ hS => kk H1 locs1 (hO.put (co := rc k j + 1) (nn_ra hk hj) rfl (hO.1.upR hj (fun c hc => va_up_ne _ _ hc) (by rw [hr]; exact hO.1.len hk hj) (fun a y h => by rw [va_up_self]; exact hok a y h)) (fun c hc => ?_) ?_ hP hS))
  · by_cases hc2 : c = rc k j
    · subst hc2
      rw [sh_rowU _ _ _ _ hj, sh_row _ _ _ _ _ hj, hr]
    · rw [sh_upR _ hc2, sh_upF _ hc]
  · rw [sh_arr _ _ _ _ _ hj, va_up_self]
/-- a row's size -/
theorem g_putR {k j index : Nat} {x : Int32} (r' : List Int32) (hC : CX p s m args meth c cc nL own rt κ) (hO : OS κ H0 σ F th H locs) (hk : k < σ.1) (hj : j < 6) (hx : nI r'.length = x) (hlen : r'.length ≤ capj j) (hok : ∀ (a : Nat) (y : Int32), r'[a]? = some y → F (rc k j + 1) a = y) (hfl : Cond.fieldLink own index (TX2 1).1 (TX2 1).2.1 (TX2 1).2.2.1 ∈ lw_g) (hdg : decode cc pc = .ok (.putfield index, 3))
    (kk : ∀ (H1 : Heap) (locs1 : List Loc), OS κ H0 (upR σ (rc k j) r') F th H1 locs1 → W p l e R s m args below meth c H1 locs1 cells slots Q (F0 m (pc + 3) ls rest)) : W p l e R s m args below meth c H locs cells slots Q (F0 m pc ls (.int x :: .ref (kad κ (rc k j)) :: rest)) := by
  subst hx
  exact g_put (σ' := upR σ (rc k j) r') (F' := F) (th' := th) (ci := 2) (k := 1) (co := rc k j) hC hO rfl inX2 tyX2_ok nmX2 (by decide) hfl rfl (nn_rc hk hj) (sh_row _ _ _ _ _ hj) (Nat.le_of_ble_eq_true rfl) rfl rfl rfl (hO.1.upR hj (fun c hc => rfl) hlen hok) (fun c hc => sh_upR c hc) (by rw [sh_rowU _ _ _ _ hj]; rfl) hdg kk
end ROWS
/-! what the class's methods answer, over the state -/
def rowAt (r : List Int32) (i : Int32) : Int32 := if i < 0 then 0 else r.getD i.toNatClampNeg 0
theorem rowAt_ge {r : List Int32} {i : Int32} (hr : r.length < 2 ^ 31) (h : nI r.length ≤ i) : rowAt r i = 0 := by
  unfold rowAt
  split
  · rfl
  · obtain ⟨j, hj, rfl⟩ := nI_of ‹_›
    rw [nI_leI hr hj] at h
    rw [nI_clamp hj, List.getD_eq_getElem?_getD, List.getElem?_eq_none h]
    rfl
def recOf (σ : ST) (b : Int32) : Option Nat := if 1001 ≤ b.toInt ∧ b.toInt < 1001 + (σ.1 : Int) then some (b.toInt - 1001).toNat else none
def holdF (σ : ST) (t : Int32) : Int32 := if t < 0 then 0 else if nI 1061 ≤ t then 0 else sI σ 2 t.toNatClampNeg
def itemB (t : Int32) : Bool := decide (1 ≤ t) && decide (t ≤ 999)
def thingB (σ : ST) (t : Int32) : Bool := itemB t || (recOf σ t).isSome
def closedB (σ : ST) (b : Int32) : Bool := match recOf σ b with
  | some k => !decide (sI σ (rb k) 1 = 0)
  | none => false
def shutF (σ : ST) : Nat → Int32 → Bool
  | 0, _ => false
  | n + 1, a => if a = 0 then false else if closedB σ a = true then true else shutF σ n (holdF σ a)
def outF (σ : ST) : Nat → Int32 → Int32
  | 0, o => o
  | n + 1, o => if holdF σ o = 0 then o else outF σ n (holdF σ o)
def ownF (σ : ST) (o : Int32) : Int32 := if o < 0 then 0 else if nI 1061 ≤ o then 0 else sI σ 3 o.toNatClampNeg
def placeF (σ : ST) (t : Int32) : Int32 := ownF σ (outF σ 60 t)
def withF (σ : ST) (b : Int32) : Nat → Int32 → Bool
  | 0, _ => false
  | n + 1, a => if a = 0 then false else if a = b then true else withF σ b n (holdF σ a)
def kindF (σ : ST) (t : Int32) : Int32 := match recOf σ t with
  | some k => sI σ (rb k) 0
  | none => -1
def lesserB (σ : ST) (t : Int32) (k : Nat) : Bool := decide (kindF σ t < sI σ (rb k) 0)
theorem recOf_some {σ : ST} {b : Int32} {k : Nat} (h : recOf σ b = some k) : k < σ.1 ∧ b.toInt = 1001 + (k : Int) := by
  unfold recOf at h
  split at h
  · obtain ⟨h1, h2⟩ := ‹_ ∧ _›
    cases h
    omega
  · cases h
theorem recOf_lt {σ : ST} {b : Int32} {k : Nat} (h : recOf σ b = some k) : k < σ.1 := (recOf_some h).1
end
section
/-! reading a state after a write; lists -/
theorem sI_upI (σ : ST) (co i : Nat) (x : Int32) (c j : Nat) : sI (upI σ co i x) c j = if c = co ∧ j = i then x else sI σ c j := by
  simp only [sI, upI, va_up, upd]
  by_cases h : c = co
  · subst h
    by_cases h2 : j = i <;> simp [h2, upd]
  · simp [h]
theorem sI_upJ (σ : ST) (co i : Nat) (x : Int64) (c j : Nat) : sI (upJ σ co i x) c j = sI σ c j := rfl
theorem sI_upR (σ : ST) (co : Nat) (x : List Int32) (c j : Nat) : sI (upR σ co x) c j = sI σ c j := rfl
theorem sJ_upI (σ : ST) (co i : Nat) (x : Int32) (c j : Nat) : sJ (upI σ co i x) c j = sJ σ c j := rfl
theorem sJ_upR (σ : ST) (co : Nat) (x : List Int32) (c j : Nat) : sJ (upR σ co x) c j = sJ σ c j := rfl
theorem sJ_upJ (σ : ST) (co i : Nat) (x : Int64) (c j : Nat) : sJ (upJ σ co i x) c j = if c = co ∧ j = i then x else sJ σ c j := by
  simp only [sJ, upJ, va_up, vp_updL]
  by_cases h : c = co
  · subst h
    by_cases h2 : j = i <;> simp [h2, vp_updL]
  · simp [h]
theorem sR_upI (σ : ST) (co i : Nat) (x : Int32) (c : Nat) : sR (upI σ co i x) c = sR σ c := rfl
theorem sR_upJ (σ : ST) (co i : Nat) (x : Int64) (c : Nat) : sR (upJ σ co i x) c = sR σ c := rfl
theorem sR_upR (σ : ST) (co : Nat) (x : List Int32) (c : Nat) : sR (upR σ co x) c = if c = co then x else sR σ c := by
  by_cases h : c = co
  · subst h; simp [sR_upR_self]
  · simp [h, sR_upR_ne]
theorem upI_self (σ : ST) (co i : Nat) : upI σ co i (sI σ co i) = σ := by
  unfold upI sI
  have h : va_up σ.2.1 co (upd (σ.2.1 co) i (σ.2.1 co i)) = σ.2.1 := by
    funext q z
    by_cases hq : q = co
    · subst hq
      rw [va_up_self]
      by_cases hz : z = i <;> simp [upd, hz]
    · rw [va_up_ne _ _ hq]
  rw [h]
theorem upI_upI (σ : ST) (co i : Nat) (x y : Int32) : upI (upI σ co i x) co i y = upI σ co i y := by
  simp only [upI, va_up_self]
  have h : va_up (va_up σ.2.1 co (upd (σ.2.1 co) i x)) co (upd (upd (σ.2.1 co) i x) i y) = va_up σ.2.1 co (upd (σ.2.1 co) i y) := by
    funext q z
    by_cases hq : q = co
    · subst hq
      rw [va_up_self, va_up_self]
      by_cases hz : z = i <;> simp [upd, hz]
    · rw [va_up_ne _ _ hq, va_up_ne _ _ hq, va_up_ne _ _ hq]
  rw [h]
theorem row_mem {l : List Int32} {x : Int32} : x ∈ l ↔ ∃ a, a < l.length ∧ l.getD a 0 = x := by
  constructor
  · intro h
    obtain ⟨a, ha, rfl⟩ := List.mem_iff_getElem.mp h
    exact ⟨a, ha, by rw [List.getD_eq_getElem?_getD, List.getElem?_eq_getElem ha]; rfl⟩
  · rintro ⟨a, ha, rfl⟩
    rw [List.getD_eq_getElem?_getD, List.getElem?_eq_getElem ha]
    exact List.getElem_mem ha
theorem getD_some {l : List Int32} {a : Nat} (h : a < l.length) : l[a]? = some (l.getD a 0) := by
  rw [List.getD_eq_getElem?_getD, List.getElem?_eq_getElem h]
  rfl
theorem take_succ_getD {l : List Int32} {i : Nat} (h : i < l.length) : l.take (i + 1) = l.take i ++ [l.getD i 0] := by
  rw [List.take_succ, getD_some h]
  rfl
/-- removing: one step of the walk through the row, the number is another one -/
theorem rem_ne {o r : List Int32} {i kept : Nat} {x : Int32} (hr : r.length = o.length) (hi : i < o.length) (hk : kept ≤ i) (h1 : r.take kept = (o.take i).filter (fun y => decide (y ≠ x))) (h2 : r.drop i = o.drop i) (hx : o.getD i 0 ≠ x) :
    (r.set kept (o.getD i 0)).take (kept + 1) = (o.take (i + 1)).filter (fun y => decide (y ≠ x)) ∧ (r.set kept (o.getD i 0)).drop (i + 1) = o.drop (i + 1) := by
  refine ⟨?_, ?_⟩
  · rw [take_succ_getD hi, List.filter_append, ← h1, List.take_succ, List.getElem?_set_self (by omega), List.take_set_of_le (Nat.le_refl _), List.filter_cons_of_pos (p := fun y => decide (y ≠ x)) (decide_eq_true hx)]
    rfl
  · rw [List.drop_set_of_lt (by omega), ← List.drop_drop, ← List.drop_drop, h2]
theorem rem_eq {o r : List Int32} {i kept : Nat} {x : Int32} (hi : i < o.length) (h1 : r.take kept = (o.take i).filter (fun y => decide (y ≠ x))) (h2 : r.drop i = o.drop i) (hx : o.getD i 0 = x) :
    r.take kept = (o.take (i + 1)).filter (fun y => decide (y ≠ x)) ∧ r.drop (i + 1) = o.drop (i + 1) := by
  refine ⟨?_, ?_⟩
  · rw [take_succ_getD hi, List.filter_append, ← h1, List.filter_cons_of_neg (p := fun y => decide (y ≠ x)) (by rw [hx]; simp), List.filter_nil, List.append_nil]
  · rw [← List.drop_drop, ← List.drop_drop, h2]
theorem drop_getD {o r : List Int32} {i : Nat} (h2 : r.drop i = o.drop i) : r.getD i 0 = o.getD i 0 := by
  have h := congrArg (fun l => l[0]?) h2
  simp only [List.getElem?_drop, Nat.add_zero] at h
  rw [List.getD_eq_getElem?_getD, List.getD_eq_getElem?_getD, h]
def tellF (σ : ST) (n : Nat) (now : Int64) : Nat → Nat → Nat
  | 0, i => i
  | f + 1, i => if i < n ∧ sJ σ 5 i ≤ now then tellF σ n now f (i + 1) else i
theorem tellF_ge (σ : ST) (n : Nat) (now : Int64) : ∀ f i, i ≤ tellF σ n now f i := by
  intro f
  induction f with
  | zero => intro i; exact Nat.le_refl _
  | succ f ih =>
    intro i
    simp only [tellF]
    split
    · exact Nat.le_trans (Nat.le_succ _) (ih (i + 1))
    · exact Nat.le_refl _
theorem tellF_le (σ : ST) (n : Nat) (now : Int64) : ∀ f i, i ≤ n → tellF σ n now f i ≤ n := by
  intro f
  induction f with
  | zero => intro i h; exact h
  | succ f ih =>
    intro i h
    simp only [tellF]
    split
    · exact ih (i + 1) (by omega)
    · exact h
end
section
set_option maxHeartbeats 4000000 in
set_option maxRecDepth 100000 in
/-- Row.size -/
theorem c_X2_size (l : Launch) (κ : KK) (σ : ST) (k j : Nat) (hk : k < σ.1) (hj : j < 6) : Met l yX2_size (wA yX2_size cX2_size 1 (some .int)) ({ frames := 0, cells := 0, slots := 0, locals := 0 }) (va_Pc [.ref (kad κ (rc k j))] (WX κ σ)) (va_Qi (fun r σ' => σ = σ' ∧ r = nI (sR σ (rc k j)).length) (WX κ) (FA κ)) 0 0 (FA κ) := by
  refine g_met 0 (by decide) rfl (Nat.le_of_ble_eq_true rfl) ?_
  intro p e s m args below meth c hC F th hO ls hl
  have hl : LL ls 1 [some _] := hl
  refine g_aload_n hC hl dX2_size_0 rfl rfl ?_
  refine g_get (ci := 2) (k := 1) hC hO rfl inX2 (by decide) q_fl_RX2_13 (nn_rc hk hj) (sh_row _ _ _ _ _ hj) rfl dX2_size_1 ?_
  exact g_iret hC hO dX2_size_4 (⟨rfl, rfl⟩)

set_option maxHeartbeats 4000000 in
set_option maxRecDepth 100000 in
/-- Row.isFull -/
theorem c_X2_isFull (l : Launch) (κ : KK) (σ : ST) (k j : Nat) (hk : k < σ.1) (hj : j < 6) : Met l yX2_isFull (wA yX2_isFull cX2_isFull 1 (some .boolean)) ({ frames := 0, cells := 0, slots := 0, locals := 0 }) (va_Pc [.ref (kad κ (rc k j))] (WX κ σ)) (va_Qi (fun r σ' => σ = σ' ∧ r = bI (decide (capj j ≤ (sR σ (rc k j)).length))) (WX κ) (FA κ)) 0 0 (FA κ) := by
  refine g_met 0 (by decide) rfl (Nat.le_of_ble_eq_true rfl) ?_
  intro p e s m args below meth c hC F th hO ls hl
  have hl : LL ls 1 [some _] := hl
  have hlen := hO.1.len hk hj
  have hcap := capj_le j
  refine g_aload_n hC hl dX2_isFull_0 rfl rfl ?_
  refine g_get (ci := 2) (k := 1) hC hO rfl inX2 (by decide) q_fl_RX2_13 (nn_rc hk hj) (sh_row _ _ _ _ _ hj) rfl dX2_isFull_1 ?_
  refine g_aload_n hC hl dX2_isFull_4 rfl rfl ?_
  refine g_get (ci := 2) (k := 0) hC hO rfl inX2 (by decide) q_fl_RX2_7 (nn_rc hk hj) (sh_row _ _ _ _ _ hj) rfl dX2_isFull_5 ?_
  refine g_alenI (v := nI (capj j)) hC hO (nn_ra hk hj) (sh_arr _ _ _ _ _ hj) rfl dX2_isFull_8 ?_
  refine lv_icmp_lt (tgt := 16) hC.1 hC.2.1 dX2_isFull_9 (by decide) (fun c_1 => ?_) (fun c_1 => ?_)
  · skip
    rw [nI_ltI (by omega) (by omega)] at c_1
    refine lv_iconst (v := 0) hC.1 hC.2.1 dX2_isFull_16 (by decide) ?_
    exact g_zret hC hO dX2_isFull_17 (by decide) (⟨rfl, by first | exact bI_t (decide_eq_true (by omega)) | exact bI_f (decide_eq_false (by omega))⟩)
  · skip
    rw [nI_ltI (by omega) (by omega)] at c_1
    refine lv_iconst (v := 1) hC.1 hC.2.1 dX2_isFull_12 (by decide) ?_
    refine lv_goto (tgt := 17) hC.1 hC.2.1 dX2_isFull_13 (by decide) ?_
    exact g_zret hC hO dX2_isFull_17 (by decide) (⟨rfl, by first | exact bI_t (decide_eq_true (by omega)) | exact bI_f (decide_eq_false (by omega))⟩)

set_option maxHeartbeats 4000000 in
set_option maxRecDepth 100000 in
/-- Row.at -/
theorem c_X2_at (l : Launch) (κ : KK) (σ : ST) (k j : Nat) (hk : k < σ.1) (hj : j < 6) (p0 : Int32) : Met l yX2_at (wA yX2_at cX2_at 2 (some .int)) ({ frames := 0, cells := 0, slots := 0, locals := 0 }) (va_Pc [.ref (kad κ (rc k j)), .int p0] (WX κ σ)) (va_Qi (fun r σ' => σ = σ' ∧ r = rowAt (sR σ (rc k j)) p0) (WX κ) (FA κ)) 0 0 (FA κ) := by
  refine g_met 0 (by decide) rfl (Nat.le_of_ble_eq_true rfl) ?_
  intro p e s m args below meth c hC F th hO ls hl
  have hl : LL ls 2 [some _, some _] := hl
  have hlen := hO.1.len hk hj
  have hcap := capj_le j
  refine g_iload_n hC hl dX2_at_0 rfl rfl ?_
  refine lv_if_lt (tgt := 30) hC.1 hC.2.1 dX2_at_1 (by decide) (fun c_1 => ?_) (fun c_1 => ?_)
  · skip
    have h1 : rowAt (sR σ (rc k j)) p0 = 0 := by unfold rowAt; rw [if_pos c_1]
    refine lv_iconst (v := 0) hC.1 hC.2.1 dX2_at_30 (by decide) ?_
    exact g_iret hC hO dX2_at_31 (⟨rfl, by first | exact h1 | exact h1.symm⟩)
  · skip
    obtain ⟨i, hi, rfl⟩ := nI_of c_1
    refine g_iload_n hC hl dX2_at_4 rfl rfl ?_
    refine g_aload_n hC hl dX2_at_5 rfl rfl ?_
    refine g_get (ci := 2) (k := 1) hC hO rfl inX2 (by decide) q_fl_RX2_13 (nn_rc hk hj) (sh_row _ _ _ _ _ hj) rfl dX2_at_6 ?_
    refine lv_icmp_ge (tgt := 30) hC.1 hC.2.1 dX2_at_9 (by decide) (fun c_2 => ?_) (fun c_2 => ?_)
    · skip
      have h1 : rowAt (sR σ (rc k j)) (nI i) = 0 := rowAt_ge (by omega) c_2
      refine lv_iconst (v := 0) hC.1 hC.2.1 dX2_at_30 (by decide) ?_
      exact g_iret hC hO dX2_at_31 (⟨rfl, by first | exact h1 | exact h1.symm⟩)
    · skip
      rw [nI_leI (by omega) (by omega)] at c_2
      refine g_iload_n hC hl dX2_at_12 rfl rfl ?_
      refine g_aload_n hC hl dX2_at_13 rfl rfl ?_
      refine g_get (ci := 2) (k := 0) hC hO rfl inX2 (by decide) q_fl_RX2_7 (nn_rc hk hj) (sh_row _ _ _ _ _ hj) rfl dX2_at_14 ?_
      refine g_alenI (v := nI (capj j)) hC hO (nn_ra hk hj) (sh_arr _ _ _ _ _ hj) rfl dX2_at_17 ?_
      refine lv_icmp_ge (tgt := 30) hC.1 hC.2.1 dX2_at_18 (by decide) (fun c_3 => ?_) (fun c_3 => ?_)
      · skip
        rw [nI_leI (by omega) (by omega)] at c_3
        exact absurd c_3 (by omega)
      · skip
        have h1 : F (rc k j + 1) (nI i).toNatClampNeg = rowAt (sR σ (rc k j)) (nI i) := by
          rw [nI_clamp (by omega), hO.1.get hk hj (by omega)]
          unfold rowAt
          rw [if_neg (nI_pos (by omega)), nI_clamp (by omega)]
        refine g_aload_n hC hl dX2_at_21 rfl rfl ?_
        refine g_get (ci := 2) (k := 0) hC hO rfl inX2 (by decide) q_fl_RX2_7 (nn_rc hk hj) (sh_row _ _ _ _ _ hj) rfl dX2_at_22 ?_
        refine g_iload_n hC hl dX2_at_25 rfl rfl ?_
        refine g_iald hC hO (nn_ra hk hj) (sh_arr _ _ _ _ _ hj) (vp_in_nI (by omega) (by omega)) dX2_at_26 ?_
        refine lv_goto (tgt := 31) hC.1 hC.2.1 dX2_at_27 (by decide) ?_
        exact g_iret hC hO dX2_at_31 (⟨rfl, by first | exact h1 | exact h1.symm⟩)

set_option maxHeartbeats 4000000 in
set_option maxRecDepth 100000 in
/-- Row.holds -/
theorem c_X2_holds (l : Launch) (κ : KK) (σ : ST) (k j : Nat) (hk : k < σ.1) (hj : j < 6) (p0 : Int32) : Met l yX2_holds (wA yX2_holds cX2_holds 3 (some .boolean)) ({ frames := 0, cells := 0, slots := 0, locals := 0 }) (va_Pc [.ref (kad κ (rc k j)), .int p0] (WX κ σ)) (va_Qi (fun r σ' => σ = σ' ∧ r = bI (decide (p0 ∈ sR σ (rc k j)))) (WX κ) (FA κ)) 0 0 (FA κ) := by
  refine g_met 1 (by decide) rfl (Nat.le_of_ble_eq_true rfl) ?_
  intro p e s m args below meth c hC F th hO ls hl
  have hl : LL ls 3 [some _, some _, none] := hl
  have hlen := hO.1.len hk hj
  have hcap := capj_le j
  have loop2 : ∀ (n i : Nat), (sR σ (rc k j)).length + 1 ≤ i + n → i ≤ (sR σ (rc k j)).length → (∀ a, a < i → (sR σ (rc k j)).getD a 0 ≠ p0) → ∀ ls : Array Slot, LL ls 3 [some (.ref (kad κ (rc k j))), some (.int p0), some (.int (nI i))] → W p l e ({ frames := 0, cells := 0, slots := 0, locals := 0 } : Room) s m args below meth c s.heap [] 0 0 (MQ below (va_Qi (fun r σ' => σ = σ' ∧ r = bI (decide (p0 ∈ sR σ (rc k j)))) (WX κ) (FA κ)) args s 0 0 (FA κ)) (F0 m 2 ls []) := by
    intro n
    induction n with
    | zero => intro i h1 h2; exact absurd h1 (by omega)
    | succ n ih =>
      intro i h1 h2 h3 ls hl
      --
      refine g_iload_n hC hl dX2_holds_2 rfl rfl ?_
      refine g_aload_n hC hl dX2_holds_3 rfl rfl ?_
      refine g_get (ci := 2) (k := 1) hC hO rfl inX2 (by decide) q_fl_RX2_13 (nn_rc hk hj) (sh_row _ _ _ _ _ hj) rfl dX2_holds_4 ?_
      refine lv_icmp_ge (tgt := 37) hC.1 hC.2.1 dX2_holds_7 (by decide) (fun c_1 => ?_) (fun c_1 => ?_)
      · skip
        rw [nI_leI (by omega) (by omega)] at c_1
        have hno : ¬ p0 ∈ sR σ (rc k j) := fun h => by
          obtain ⟨a, ha, hx⟩ := row_mem.mp h
          exact h3 a (by omega) hx
        refine lv_iconst (v := 0) hC.1 hC.2.1 dX2_holds_37 (by decide) ?_
        exact g_zret hC hO dX2_holds_38 (by decide) (⟨rfl, bI_f (decide_eq_false hno)⟩)
      · skip
        rw [nI_leI (by omega) (by omega)] at c_1
        refine g_iload_n hC hl dX2_holds_10 rfl rfl ?_
        refine g_aload_n hC hl dX2_holds_11 rfl rfl ?_
        refine g_get (ci := 2) (k := 0) hC hO rfl inX2 (by decide) q_fl_RX2_7 (nn_rc hk hj) (sh_row _ _ _ _ _ hj) rfl dX2_holds_12 ?_
        refine g_alenI (v := nI (capj j)) hC hO (nn_ra hk hj) (sh_arr _ _ _ _ _ hj) rfl dX2_holds_15 ?_
        refine lv_icmp_ge (tgt := 37) hC.1 hC.2.1 dX2_holds_16 (by decide) (fun c_2 => ?_) (fun c_2 => ?_)
        · skip
          rw [nI_leI (by omega) (by omega)] at c_2
          exact absurd c_2 (by omega)
        · skip
          refine g_aload_n hC hl dX2_holds_19 rfl rfl ?_
          refine g_get (ci := 2) (k := 0) hC hO rfl inX2 (by decide) q_fl_RX2_7 (nn_rc hk hj) (sh_row _ _ _ _ _ hj) rfl dX2_holds_20 ?_
          refine g_iload_n hC hl dX2_holds_23 rfl rfl ?_
          refine g_iald hC hO (nn_ra hk hj) (sh_arr _ _ _ _ _ hj) (vp_in_nI (by omega) (by omega)) dX2_holds_24 ?_
          refine g_iload_n hC hl dX2_holds_25 rfl rfl ?_
          refine lv_icmp_ne (tgt := 31) hC.1 hC.2.1 dX2_holds_26 (by decide) (fun c_3 => ?_) (fun c_3 => ?_)
          · skip
            rw [nI_clamp (by omega), hO.1.get hk hj (by omega)] at c_3
            have hne : (sR σ (rc k j)).getD i 0 ≠ p0 := c_3
            refine g_iinc (v := nI (i + 1)) hC hl dX2_holds_31 rfl (nI_i1 i) (Nat.le_of_ble_eq_true rfl) rfl (fun ls hl => ?_)
            have hl : LL ls 3 [some _, some _, some _] := hl
            refine lv_goto (tgt := 2) hC.1 hC.2.1 dX2_holds_34 (by decide) ?_
            exact ih (i + 1) (by omega) (by omega) (fun a ha => by
              rcases Nat.lt_succ_iff_lt_or_eq.mp ha with h | rfl
              · exact h3 a h
              · exact hne) ls hl
          · skip
            rw [nI_clamp (by omega), hO.1.get hk hj (by omega)] at c_3
            have hyes : p0 ∈ sR σ (rc k j) := row_mem.mpr ⟨i, by omega, c_3⟩
            refine lv_iconst (v := 1) hC.1 hC.2.1 dX2_holds_29 (by decide) ?_
            exact g_zret hC hO dX2_holds_30 (by decide) (⟨rfl, bI_t (decide_eq_true hyes)⟩)
  refine lv_iconst (v := 0) hC.1 hC.2.1 dX2_holds_0 (by decide) ?_
  refine g_istore_n hC hl dX2_holds_1 rfl (Nat.le_of_ble_eq_true rfl) rfl (fun ls hl => ?_)
  have hl : LL ls 3 [some _, some _, some _] := hl
  exact loop2 ((sR σ (rc k j)).length + 1) 0 (by omega) (by omega) (fun a ha => absurd ha (by omega)) ls hl

set_option maxHeartbeats 4000000 in
set_option maxRecDepth 100000 in
/-- Row.append -/
theorem c_X2_append (l : Launch) (κ : KK) (σ : ST) (k j : Nat) (hk : k < σ.1) (hj : j < 6) (p0 : Int32) : Met l yX2_append (wA yX2_append cX2_append 2 none) ({ frames := 0, cells := 0, slots := 0, locals := 0 }) (va_Pc [.ref (kad κ (rc k j)), .int p0] (WX κ σ)) (va_Qv (fun σ' => σ' = upR σ (rc k j) (if (sR σ (rc k j)).length < capj j then sR σ (rc k j) ++ [p0] else sR σ (rc k j))) (WX κ) (FA κ)) 0 0 (FA κ) := by
  refine g_met 0 (by decide) rfl (Nat.le_of_ble_eq_true rfl) ?_
  intro p e s m args below meth c hC F th hO ls hl
  have hl : LL ls 2 [some _, some _] := hl
  have hlen := hO.1.len hk hj
  have hcap := capj_le j
  refine g_aload_n hC hl dX2_append_0 rfl rfl ?_
  refine g_get (ci := 2) (k := 1) hC hO rfl inX2 (by decide) q_fl_RX2_13 (nn_rc hk hj) (sh_row _ _ _ _ _ hj) rfl dX2_append_1 ?_
  refine lv_if_lt (tgt := 39) hC.1 hC.2.1 dX2_append_4 (by decide) (fun c_1 => ?_) (fun c_1 => ?_)
  · skip
    exact absurd c_1 (nI_pos (by omega))
  · skip
    refine g_aload_n hC hl dX2_append_7 rfl rfl ?_
    refine g_get (ci := 2) (k := 1) hC hO rfl inX2 (by decide) q_fl_RX2_13 (nn_rc hk hj) (sh_row _ _ _ _ _ hj) rfl dX2_append_8 ?_
    refine g_aload_n hC hl dX2_append_11 rfl rfl ?_
    refine g_get (ci := 2) (k := 0) hC hO rfl inX2 (by decide) q_fl_RX2_7 (nn_rc hk hj) (sh_row _ _ _ _ _ hj) rfl dX2_append_12 ?_
    refine g_alenI (v := nI (capj j)) hC hO (nn_ra hk hj) (sh_arr _ _ _ _ _ hj) rfl dX2_append_15 ?_
    refine lv_icmp_ge (tgt := 39) hC.1 hC.2.1 dX2_append_16 (by decide) (fun c_2 => ?_) (fun c_2 => ?_)
    · skip
      rw [nI_leI (by omega) (by omega)] at c_2
      have h1 : σ = upR σ (rc k j) (if (sR σ (rc k j)).length < capj j then sR σ (rc k j) ++ [p0] else sR σ (rc k j)) := by rw [if_neg (by omega), upR_self]
      exact g_vret hC hO dX2_append_39 (h1)
    · skip
      rw [nI_leI (by omega) (by omega)] at c_2
      refine g_aload_n hC hl dX2_append_19 rfl rfl ?_
      refine g_get (ci := 2) (k := 0) hC hO rfl inX2 (by decide) q_fl_RX2_7 (nn_rc hk hj) (sh_row _ _ _ _ _ hj) rfl dX2_append_20 ?_
      refine g_aload_n hC hl dX2_append_23 rfl rfl ?_
      refine g_get (ci := 2) (k := 1) hC hO rfl inX2 (by decide) q_fl_RX2_13 (nn_rc hk hj) (sh_row _ _ _ _ _ hj) rfl dX2_append_24 ?_
      refine g_iload_n hC hl dX2_append_27 rfl rfl ?_
      refine g_iastF (sR σ (rc k j)) hC hO hk hj (vp_in_nI (by omega) (by omega)) rfl (fun a y h => ?_) dX2_append_28 (fun H locs hO2 => ?_)
      · have ha := (List.getElem?_eq_some_iff.mp h).1
        rw [nI_clamp (by omega), upd, if_neg (by omega)]
        exact (hO.1.2 k j hk hj).2 a y h
      rw [upR_self] at hO2
      have hval : ∀ (a : Nat) (y : Int32), (sR σ (rc k j) ++ [p0])[a]? = some y → va_up F (rc k j + 1) (upd (F (rc k j + 1)) (nI (sR σ (rc k j)).length).toNatClampNeg p0) (rc k j + 1) a = y := by
        intro a y h
        rw [va_up_self, nI_clamp (by omega), upd]
        split
        · subst a
          rw [List.getElem?_concat_length] at h
          exact Option.some.inj h
        · have ha := (List.getElem?_eq_some_iff.mp h).1
          rw [List.length_append, List.length_singleton] at ha
          rw [List.getElem?_append_left (by omega)] at h
          exact (hO.1.2 k j hk hj).2 a y h
      generalize va_up F (rc k j + 1) (upd (F (rc k j + 1)) (nI (sR σ (rc k j)).length).toNatClampNeg p0) = F2 at hO2 hval
      have hO := hO2
      refine g_aload_n hC hl dX2_append_29 rfl rfl ?_
      refine lv_dup hC.1 hC.2.1 dX2_append_30 rfl ?_
      refine g_get (ci := 2) (k := 1) hC hO rfl inX2 (by decide) q_fl_RX2_13 (nn_rc hk hj) (sh_row _ _ _ _ _ hj) rfl dX2_append_31 ?_
      refine lv_iconst (v := 1) hC.1 hC.2.1 dX2_append_34 (by decide) ?_
      refine lv_iadd hC.1 hC.2.1 dX2_append_35 ?_
      refine g_putR (sR σ (rc k j) ++ [p0]) hC hO hk hj (by rw [List.length_append, List.length_singleton]; exact (nI_1 _).symm) (by rw [List.length_append, List.length_singleton]; omega) hval q_fl_RX2_13 dX2_append_36 (fun H locs hO => ?_)
      have h1 : upR σ (rc k j) (sR σ (rc k j) ++ [p0]) = upR σ (rc k j) (if (sR σ (rc k j)).length < capj j then sR σ (rc k j) ++ [p0] else sR σ (rc k j)) := by rw [if_pos (by omega)]
      exact g_vret hC hO dX2_append_39 (h1)

set_option maxHeartbeats 4000000 in
set_option maxRecDepth 100000 in
/-- Row.clear -/
theorem c_X2_clear (l : Launch) (κ : KK) (σ : ST) (k j : Nat) (hk : k < σ.1) (hj : j < 6) : Met l yX2_clear (wA yX2_clear cX2_clear 1 none) ({ frames := 0, cells := 0, slots := 0, locals := 0 }) (va_Pc [.ref (kad κ (rc k j))] (WX κ σ)) (va_Qv (fun σ' => σ' = upR σ (rc k j) []) (WX κ) (FA κ)) 0 0 (FA κ) := by
  refine g_met 0 (by decide) rfl (Nat.le_of_ble_eq_true rfl) ?_
  intro p e s m args below meth c hC F th hO ls hl
  have hl : LL ls 1 [some _] := hl
  refine g_aload_n hC hl dX2_clear_0 rfl rfl ?_
  refine lv_iconst (v := 0) hC.1 hC.2.1 dX2_clear_1 (by decide) ?_
  refine g_putR [] hC hO hk hj rfl (Nat.zero_le _) (fun a y h => by simp at h) q_fl_RX2_13 dX2_clear_2 (fun H locs hO => ?_)
  exact g_vret hC hO dX2_clear_5 (rfl)

set_option maxHeartbeats 4000000 in
set_option maxRecDepth 100000 in
/-- Row.remove -/
theorem c_X2_remove (l : Launch) (κ : KK) (σ : ST) (k j : Nat) (hk : k < σ.1) (hj : j < 6) (p0 : Int32) : Met l yX2_remove (wA yX2_remove cX2_remove 4 none) ({ frames := 0, cells := 0, slots := 0, locals := 0 }) (va_Pc [.ref (kad κ (rc k j)), .int p0] (WX κ σ)) (va_Qv (fun σ' => σ' = upR σ (rc k j) ((sR σ (rc k j)).filter (fun y => decide (y ≠ p0)))) (WX κ) (FA κ)) 0 0 (FA κ) := by
  refine g_met 2 (by decide) rfl (Nat.le_of_ble_eq_true rfl) ?_
  intro p e s m args below meth c hC F th hO ls hl
  have hl : LL ls 4 [some _, some _, none, none] := hl
  have hlen := hO.1.len hk hj
  have hcap := capj_le j
  have loop4 : ∀ (n i kept : Nat) (r : List Int32), (sR σ (rc k j)).length + 1 ≤ i + n → i ≤ (sR σ (rc k j)).length → kept ≤ i → r.length = (sR σ (rc k j)).length → r.take kept = ((sR σ (rc k j)).take i).filter (fun y => decide (y ≠ p0)) → r.drop i = (sR σ (rc k j)).drop i → ∀ (F : Nat → Nat → Int32) (th : Int32) (H : Heap) (locs : List Loc), OS κ s.heap (upR σ (rc k j) r) F th H locs → ∀ ls : Array Slot, LL ls 4 [some (.ref (kad κ (rc k j))), some (.int p0), some (.int (nI kept)), some (.int (nI i))] → W p l e ({ frames := 0, cells := 0, slots := 0, locals := 0 } : Room) s m args below meth c H locs 0 0 (MQ below (va_Qv (fun σ' => σ' = upR σ (rc k j) ((sR σ (rc k j)).filter (fun y => decide (y ≠ p0)))) (WX κ) (FA κ)) args s 0 0 (FA κ)) (F0 m 4 ls []) := by
    intro n
    induction n with
    | zero => intro i kept r h1 h2; exact absurd h1 (by omega)
    | succ n ih =>
      intro i kept r h1 h2 hki hr ht hd F th H locs hO ls hl
      refine g_iload_n hC hl dX2_remove_4 rfl rfl ?_
      refine g_aload_n hC hl dX2_remove_5 rfl rfl ?_
      refine g_get (ci := 2) (k := 1) hC hO rfl inX2 (by decide) q_fl_RX2_13 (nn_rc hk hj) (sh_row _ _ _ _ _ hj) rfl dX2_remove_6 ?_
      refine lv_icmp_ge (tgt := 57) hC.1 hC.2.1 dX2_remove_9 (by decide) (fun c_1 => ?_) (fun c_1 => ?_)
      · skip
        rw [sR_upR_self, hr, nI_leI (by omega) (by omega)] at c_1
        have hfin : r.take kept = (sR σ (rc k j)).filter (fun y => decide (y ≠ p0)) := by rw [ht, List.take_of_length_le (by omega)]
        refine g_aload_n hC hl dX2_remove_57 rfl rfl ?_
        refine g_iload_n hC hl dX2_remove_58 rfl rfl ?_
        refine g_putR (r.take kept) hC hO hk hj (by rw [List.length_take, Nat.min_eq_left (by omega)]) (by rw [List.length_take]; omega) (fun a y h => (hO.1.2 k j hk hj).2 a y (by
          rw [sR_upR_self]
          have ha := (List.getElem?_eq_some_iff.mp h).1
          rw [List.length_take] at ha
          rw [List.getElem?_take_of_lt (by omega)] at h
          exact h)) q_fl_RX2_13 dX2_remove_59 (fun H locs hO => ?_)
        exact g_vret hC hO dX2_remove_62 (by rw [upR_upR, hfin])
      · skip
        rw [sR_upR_self, hr, nI_leI (by omega) (by omega)] at c_1
        refine g_iload_n hC hl dX2_remove_12 rfl rfl ?_
        refine g_aload_n hC hl dX2_remove_13 rfl rfl ?_
        refine g_get (ci := 2) (k := 0) hC hO rfl inX2 (by decide) q_fl_RX2_7 (nn_rc hk hj) (sh_row _ _ _ _ _ hj) rfl dX2_remove_14 ?_
        refine g_alenI (v := nI (capj j)) hC hO (nn_ra hk hj) (sh_arr _ _ _ _ _ hj) rfl dX2_remove_17 ?_
        refine lv_icmp_ge (tgt := 57) hC.1 hC.2.1 dX2_remove_18 (by decide) (fun c_2 => ?_) (fun c_2 => ?_)
        · skip
          rw [nI_leI (by omega) (by omega)] at c_2
          exact absurd c_2 (by omega)
        · skip
          have hg : F (rc k j + 1) (nI i).toNatClampNeg = (sR σ (rc k j)).getD i 0 := by
            have h5 := hO.1.get (k := k) (j := j) (i := i) hk hj (by rw [sR_upR_self]; omega)
            rw [sR_upR_self] at h5
            rw [nI_clamp (by omega), h5, drop_getD hd]
          refine g_aload_n hC hl dX2_remove_21 rfl rfl ?_
          refine g_get (ci := 2) (k := 0) hC hO rfl inX2 (by decide) q_fl_RX2_7 (nn_rc hk hj) (sh_row _ _ _ _ _ hj) rfl dX2_remove_22 ?_
          refine g_iload_n hC hl dX2_remove_25 rfl rfl ?_
          refine g_iald hC hO (nn_ra hk hj) (sh_arr _ _ _ _ _ hj) (vp_in_nI (by omega) (by omega)) dX2_remove_26 ?_
          refine g_iload_n hC hl dX2_remove_27 rfl rfl ?_
          refine lv_icmp_eq (tgt := 51) hC.1 hC.2.1 dX2_remove_28 (by decide) (fun c_3 => ?_) (fun c_3 => ?_)
          · skip
            rw [hg] at c_3
            have hs := rem_eq (by omega) ht hd c_3
            have hki2 : kept ≤ i + 1 := by omega
            have hr2 := hr
            refine g_iinc (v := nI (i + 1)) hC hl dX2_remove_51 rfl (nI_i1 i) (Nat.le_of_ble_eq_true rfl) rfl (fun ls hl => ?_)
            have hl : LL ls 4 [some _, some _, some _, some _] := hl
            refine lv_goto (tgt := 4) hC.1 hC.2.1 dX2_remove_54 (by decide) ?_
            exact ih (i + 1) _ _ (by omega) (by omega) hki2 hr2 hs.1 hs.2 _ _ _ _ hO ls hl
          · skip
            rw [hg] at c_3
            have hs := rem_ne hr (by omega) hki ht hd c_3
            have hki2 : kept + 1 ≤ i + 1 := by omega
            have hr2 : (r.set kept ((sR σ (rc k j)).getD i 0)).length = (sR σ (rc k j)).length := by rw [List.length_set, hr]
            refine g_iload_n hC hl dX2_remove_31 rfl rfl ?_
            refine g_iload_n hC hl dX2_remove_32 rfl rfl ?_
            refine lv_icmp_gt (tgt := 51) hC.1 hC.2.1 dX2_remove_33 (by decide) (fun c_4 => ?_) (fun c_4 => ?_)
            · skip
              rw [nI_ltI (by omega) (by omega)] at c_4
              exact absurd c_4 (by omega)
            · skip
              refine g_aload_n hC hl dX2_remove_36 rfl rfl ?_
              refine g_get (ci := 2) (k := 0) hC hO rfl inX2 (by decide) q_fl_RX2_7 (nn_rc hk hj) (sh_row _ _ _ _ _ hj) rfl dX2_remove_37 ?_
              refine g_iload_n hC hl dX2_remove_40 rfl rfl ?_
              refine g_aload_n hC hl dX2_remove_41 rfl rfl ?_
              refine g_get (ci := 2) (k := 0) hC hO rfl inX2 (by decide) q_fl_RX2_7 (nn_rc hk hj) (sh_row _ _ _ _ _ hj) rfl dX2_remove_42 ?_
              refine g_iload_n hC hl dX2_remove_45 rfl rfl ?_
              refine g_iald hC hO (nn_ra hk hj) (sh_arr _ _ _ _ _ hj) (vp_in_nI (by omega) (by omega)) dX2_remove_46 ?_
              refine g_iastF (r.set kept ((sR σ (rc k j)).getD i 0)) hC hO hk hj (vp_in_nI (by omega) (by omega)) (by rw [sR_upR_self, List.length_set]) (fun a y h => ?_) dX2_remove_47 (fun H locs hO => ?_)
              · rw [nI_clamp (by omega), hg, upd]
                split
                · subst a
                  rw [List.getElem?_set_self (by omega)] at h
                  exact Option.some.inj h
                · rw [List.getElem?_set_ne (by omega)] at h
                  exact (hO.1.2 k j hk hj).2 a y (by rw [sR_upR_self]; exact h)
              rw [upR_upR] at hO
              refine g_iinc (v := nI (kept + 1)) hC hl dX2_remove_48 rfl (nI_i1 kept) (Nat.le_of_ble_eq_true rfl) rfl (fun ls hl => ?_)
              have hl : LL ls 4 [some _, some _, some _, some _] := hl
              refine g_iinc (v := nI (i + 1)) hC hl dX2_remove_51 rfl (nI_i1 i) (Nat.le_of_ble_eq_true rfl) rfl (fun ls hl => ?_)
              have hl : LL ls 4 [some _, some _, some _, some _] := hl
              refine lv_goto (tgt := 4) hC.1 hC.2.1 dX2_remove_54 (by decide) ?_
              exact ih (i + 1) _ _ (by omega) (by omega) hki2 hr2 hs.1 hs.2 _ _ _ _ hO ls hl
  refine lv_iconst (v := 0) hC.1 hC.2.1 dX2_remove_0 (by decide) ?_
  refine g_istore_n hC hl dX2_remove_1 rfl (Nat.le_of_ble_eq_true rfl) rfl (fun ls hl => ?_)
  have hl : LL ls 4 [some _, some _, some _, none] := hl
  refine lv_iconst (v := 0) hC.1 hC.2.1 dX2_remove_2 (by decide) ?_
  refine g_istore_n hC hl dX2_remove_3 rfl (Nat.le_of_ble_eq_true rfl) rfl (fun ls hl => ?_)
  have hl : LL ls 4 [some _, some _, some _, some _] := hl
  exact loop4 ((sR σ (rc k j)).length + 1) 0 0 (sR σ (rc k j)) (by omega) (by omega) (by omega) rfl rfl rfl _ _ _ _ (by rw [upR_self]; exact hO) ls hl

set_option maxHeartbeats 4000000 in
set_option maxRecDepth 100000 in
/-- Row.becomeLike: another row of the same receptacle -/
theorem c_X2_becomeLike (l : Launch) (κ : KK) (σ : ST) (k j j2 : Nat) (hk : k < σ.1) (hj : j < 6) (hj2 : j2 < 6) (hne : j ≠ j2) (hc2 : (sR σ (rc k j2)).length ≤ capj j) : Met l yX2_becomeLike (wA yX2_becomeLike cX2_becomeLike 3 none) ({ frames := 1, cells := 0, slots := 0, locals := 21 }) (va_Pc [.ref (kad κ (rc k j)), .ref (kad κ (rc k j2))] (WX κ σ)) (va_Qv (fun σ' => σ' = upR σ (rc k j) (sR σ (rc k j2))) (WX κ) (FA κ)) 0 0 (FA κ) := by
  refine g_met 1 (by decide) rfl (Nat.le_of_ble_eq_true rfl) ?_
  intro p e s m args below meth c hC F th hO ls hl
  have hl : LL ls 3 [some _, some _, none] := hl
  have hlen := hO.1.len hk hj2
  have hcap := capj_le j2
  have hcne : rc k j2 ≠ rc k j := fun h => hne (rc_inj hj2 hj h).2.symm
  have loop6 : ∀ (n i : Nat), (sR σ (rc k j2)).length + 1 ≤ i + n → i ≤ (sR σ (rc k j2)).length → ∀ (F : Nat → Nat → Int32) (th : Int32) (H : Heap) (locs : List Loc), OS κ s.heap (upR σ (rc k j) ((sR σ (rc k j2)).take i)) F th H locs → ∀ ls : Array Slot, LL ls 3 [some (.ref (kad κ (rc k j))), some (.ref (kad κ (rc k j2))), some (.int (nI i))] → W p l e ({ frames := 1, cells := 0, slots := 0, locals := 21 } : Room) s m args below meth c H locs 0 0 (MQ below (va_Qv (fun σ' => σ' = upR σ (rc k j) (sR σ (rc k j2))) (WX κ) (FA κ)) args s 0 0 (FA κ)) (F0 m 6 ls []) := by
    intro n
    induction n with
    | zero => intro i h1 h2; exact absurd h1 (by omega)
    | succ n ih =>
      intro i h1 h2 F th H locs hO ls hl
      refine g_iload_n hC hl dX2_becomeLike_6 rfl rfl ?_
      refine g_aload_n hC hl dX2_becomeLike_7 rfl rfl ?_
      refine g_cVi0 hC hO hl (ci := 2) rfl (nn_rc hk hj2) (sh_row _ _ _ _ _ hj2) (c_X2_size l κ _ (k) (j2) (by exact hk) hj2) mi_X2_size q_ml_RX2_20 rfl rfl ⟨Nat.le_of_ble_eq_true rfl, Nat.le_of_ble_eq_true rfl⟩ (Nat.le_of_ble_eq_true rfl) ⟨Nat.zero_le _, Nat.zero_le _⟩ dX2_becomeLike_8 (fun r σ1 F th H locs hr hO => ?_)
      obtain ⟨rfl, rfl⟩ := hr
      refine lv_icmp_ge (tgt := 29) hC.1 hC.2.1 dX2_becomeLike_11 (by decide) (fun c_1 => ?_) (fun c_1 => ?_)
      · skip
        rw [sR_upR_ne _ _ hcne, nI_leI (by omega) (by omega)] at c_1
        exact g_vret hC hO dX2_becomeLike_29 (by rw [List.take_of_length_le (by omega)])
      · skip
        rw [sR_upR_ne _ _ hcne, nI_leI (by omega) (by omega)] at c_1
        refine g_aload_n hC hl dX2_becomeLike_14 rfl rfl ?_
        refine g_aload_n hC hl dX2_becomeLike_15 rfl rfl ?_
        refine g_iload_n hC hl dX2_becomeLike_16 rfl rfl ?_
        refine g_cVi1 hC hO hl (ci := 2) rfl (nn_rc hk hj2) (sh_row _ _ _ _ _ hj2) (c_X2_at l κ _ (k) (j2) (by exact hk) hj2 _) mi_X2_at q_ml_RX2_23 rfl rfl ⟨Nat.le_of_ble_eq_true rfl, Nat.le_of_ble_eq_true rfl⟩ (Nat.le_of_ble_eq_true rfl) ⟨Nat.zero_le _, Nat.zero_le _⟩ dX2_becomeLike_17 (fun r σ1 F th H locs hr hO => ?_)
        obtain ⟨rfl, rfl⟩ := hr
        refine g_cVv1 hC hO hl (ci := 2) rfl (nn_rc hk hj) (sh_row _ _ _ _ _ hj) (c_X2_append l κ _ (k) (j) (by exact hk) hj _) mi_X2_append q_ml_RX2_27 rfl rfl ⟨Nat.le_of_ble_eq_true rfl, Nat.le_of_ble_eq_true rfl⟩ (Nat.le_of_ble_eq_true rfl) ⟨Nat.zero_le _, Nat.zero_le _⟩ dX2_becomeLike_20 (fun σ1 F th H locs hr hO => ?_)
        subst hr
        rw [sR_upR_self, upR_upR, sR_upR_ne _ _ hcne, if_pos (by rw [List.length_take]; omega)] at hO
        have e9 : rowAt (sR σ (rc k j2)) (nI i) = (sR σ (rc k j2)).getD i 0 := by
          unfold rowAt
          rw [if_neg (nI_pos (by omega)), nI_clamp (by omega)]
        rw [e9, ← take_succ_getD (by omega)] at hO
        refine g_iinc (v := nI (i + 1)) hC hl dX2_becomeLike_23 rfl (nI_i1 i) (Nat.le_of_ble_eq_true rfl) rfl (fun ls hl => ?_)
        have hl : LL ls 3 [some _, some _, some _] := hl
        refine lv_goto (tgt := 6) hC.1 hC.2.1 dX2_becomeLike_26 (by decide) ?_
        exact ih (i + 1) (by omega) (by omega) _ _ _ _ hO ls hl
  refine g_aload_n hC hl dX2_becomeLike_0 rfl rfl ?_
  refine g_cVv0 hC hO hl (ci := 2) rfl (nn_rc hk hj) (sh_row _ _ _ _ _ hj) (c_X2_clear l κ _ (k) (j) (by exact hk) hj) mi_X2_clear q_ml_RX2_17 rfl rfl ⟨Nat.le_of_ble_eq_true rfl, Nat.le_of_ble_eq_true rfl⟩ (Nat.le_of_ble_eq_true rfl) ⟨Nat.zero_le _, Nat.zero_le _⟩ dX2_becomeLike_1 (fun σ1 F th H locs hr hO => ?_)
  subst hr
  refine lv_iconst (v := 0) hC.1 hC.2.1 dX2_becomeLike_4 (by decide) ?_
  refine g_istore_n hC hl dX2_becomeLike_5 rfl (Nat.le_of_ble_eq_true rfl) rfl (fun ls hl => ?_)
  have hl : LL ls 3 [some _, some _, some _] := hl
  exact loop6 ((sR σ (rc k j2)).length + 1) 0 (by omega) (by omega) _ _ _ _ hO ls hl

set_option maxHeartbeats 4000000 in
set_option maxRecDepth 100000 in
/-- Notes.add -/
theorem c_X0_add (l : Launch) (κ : KK) (σ : ST) (n : Nat) (hn : sI σ 4 1 = nI n) (hn2 : n < 512) (p0 : Int64) : Met l yX0_add (wA yX0_add cX0_add 3 none) ({ frames := 0, cells := 0, slots := 0, locals := 0 }) (va_Pc [.ref (kad κ 4), .long p0] (WX κ σ)) (va_Qv (fun σ' => σ' = upI (upJ σ 5 n p0) 4 1 (nI (n + 1))) (WX κ) (FA κ)) 0 0 (FA κ) := by
  refine g_met 0 (by decide) rfl (Nat.le_of_ble_eq_true rfl) ?_
  intro p e s m args below meth c hC F th hO ls hl
  have hl : LL ls 3 [some _, some _, none] := hl
  refine g_aload_n hC hl dX0_add_0 rfl rfl ?_
  refine g_get (ci := 0) (k := 1) hC hO rfl inX0 (by decide) q_fl_RX0_15 (nn_lt (Nat.le_of_ble_eq_true rfl)) rfl rfl dX0_add_1 ?_
  refine lv_if_lt (tgt := 39) hC.1 hC.2.1 dX0_add_4 (by decide) (fun c_1 => ?_) (fun c_1 => ?_)
  · skip
    rw [hn] at c_1
    exact absurd c_1 (nI_pos (by omega))
  · skip
    refine g_aload_n hC hl dX0_add_7 rfl rfl ?_
    refine g_get (ci := 0) (k := 1) hC hO rfl inX0 (by decide) q_fl_RX0_15 (nn_lt (Nat.le_of_ble_eq_true rfl)) rfl rfl dX0_add_8 ?_
    refine g_aload_n hC hl dX0_add_11 rfl rfl ?_
    refine g_get (ci := 0) (k := 0) hC hO rfl inX0 (by decide) q_fl_RX0_9 (nn_lt (Nat.le_of_ble_eq_true rfl)) rfl rfl dX0_add_12 ?_
    refine g_alenL (v := nI 512) hC hO (nn_lt (Nat.le_of_ble_eq_true rfl)) rfl rfl dX0_add_15 ?_
    refine lv_icmp_ge (tgt := 39) hC.1 hC.2.1 dX0_add_16 (by decide) (fun c_2 => ?_) (fun c_2 => ?_)
    · skip
      rw [hn, nI_leI (by omega) (by omega)] at c_2
      exact absurd c_2 (by omega)
    · skip
      refine g_aload_n hC hl dX0_add_19 rfl rfl ?_
      refine g_get (ci := 0) (k := 0) hC hO rfl inX0 (by decide) q_fl_RX0_9 (nn_lt (Nat.le_of_ble_eq_true rfl)) rfl rfl dX0_add_20 ?_
      refine g_aload_n hC hl dX0_add_23 rfl rfl ?_
      refine g_get (ci := 0) (k := 1) hC hO rfl inX0 (by decide) q_fl_RX0_15 (nn_lt (Nat.le_of_ble_eq_true rfl)) rfl rfl dX0_add_24 ?_
      refine g_lload_n hC hl dX0_add_27 rfl rfl ?_
      refine g_last hC hO (nn_lt (Nat.le_of_ble_eq_true rfl)) (fun _ _ => rfl) (by rw [hn]; exact vp_in_nI (by omega) (by omega)) dX0_add_28 (fun H locs hO => ?_)
      refine g_aload_n hC hl dX0_add_29 rfl rfl ?_
      refine lv_dup hC.1 hC.2.1 dX0_add_30 rfl ?_
      refine g_get (ci := 0) (k := 1) hC hO rfl inX0 (by decide) q_fl_RX0_15 (nn_lt (Nat.le_of_ble_eq_true rfl)) rfl rfl dX0_add_31 ?_
      refine lv_iconst (v := 1) hC.1 hC.2.1 dX0_add_34 (by decide) ?_
      refine lv_iadd hC.1 hC.2.1 dX0_add_35 ?_
      refine g_puti (ci := 0) (k := 1) hC hO rfl inX0 tyX0_ok nmX0 (by decide) q_fl_RX0_15 rfl (nn_lt (Nat.le_of_ble_eq_true rfl)) rfl (Nat.le_of_ble_eq_true rfl) rfl rfl rfl dX0_add_36 (fun H locs hO => ?_)
      exact g_vret hC hO dX0_add_39 (by
          have e9 : sI (upJ σ 5 n p0) 4 1 = nI n := hn
          rw [hn, nI_clamp (by omega), e9, nI_1])

set_option maxHeartbeats 4000000 in
set_option maxRecDepth 100000 in
/-- Notes.tellUntil -/
theorem c_X0_tellUntil (l : Launch) (κ : KK) (σ : ST) (n : Nat) (hn : sI σ 4 1 = nI n) (hn2 : n ≤ 512) (a : Nat) (ha : sI σ 4 2 = nI a) (ha2 : a ≤ n) (p0 : Int64) : Met l yX0_tellUntil (wA yX0_tellUntil cX0_tellUntil 5 (some .int)) ({ frames := 0, cells := 0, slots := 0, locals := 0 }) (va_Pc [.ref (kad κ 4), .long p0] (WX κ σ)) (va_Qi (fun r σ' => σ' = upI σ 4 2 (nI (tellF σ n p0 (n - a) a)) ∧ r = nI (tellF σ n p0 (n - a) a - a)) (WX κ) (FA κ)) 0 0 (FA κ) := by
  refine g_met 2 (by decide) rfl (Nat.le_of_ble_eq_true rfl) ?_
  intro p e s m args below meth c hC F th hO ls hl
  have hl : LL ls 5 [some _, some _, none, none, none] := hl
  have e1 : ∀ i, sI (upI σ 4 2 (nI i)) 4 1 = nI n := fun i => by rw [sI_upI]; simp [hn]
  have e2 : ∀ i, sI (upI σ 4 2 (nI i)) 4 2 = nI i := fun i => by rw [sI_upI]; simp
  have loop8 : ∀ (f i : Nat), i + f = n → a ≤ i → tellF σ n p0 (n - a) a = tellF σ n p0 f i → ∀ (F : Nat → Nat → Int32) (th : Int32) (H : Heap) (locs : List Loc), OS κ s.heap (upI σ 4 2 (nI i)) F th H locs → ∀ ls : Array Slot, LL ls 5 [some (.ref (kad κ 4)), some (.long p0), none, some (.int (nI a)), some (.int (nI i))] → W p l e ({ frames := 0, cells := 0, slots := 0, locals := 0 } : Room) s m args below meth c H locs 0 0 (MQ below (va_Qi (fun r σ' => σ' = upI σ 4 2 (nI (tellF σ n p0 (n - a) a)) ∧ r = nI (tellF σ n p0 (n - a) a - a)) (WX κ) (FA κ)) args s 0 0 (FA κ)) (F0 m 8 ls []) := by
    intro f
    induction f with
    | zero =>
      intro i h1 h2 h3 F th H locs hO ls hl
      have hend : tellF σ n p0 (n - a) a = i := h3
      refine g_iload hC hl dX0_tellUntil_8 rfl ?_
      refine lv_if_lt (tgt := 58) hC.1 hC.2.1 dX0_tellUntil_10 (by decide) (fun c => absurd c (nI_pos (by omega))) (fun _ => ?_)
      refine g_iload hC hl dX0_tellUntil_13 rfl ?_
      refine g_aload_n hC hl dX0_tellUntil_15 rfl rfl ?_
      refine g_get (ci := 0) (k := 1) hC hO rfl inX0 (by decide) q_fl_RX0_15 (nn_lt (Nat.le_of_ble_eq_true rfl)) rfl rfl dX0_tellUntil_16 ?_
      refine lv_icmp_ge (tgt := 58) hC.1 hC.2.1 dX0_tellUntil_19 (by decide) (fun c => ?_) (fun c => ?_)
      · refine g_aload_n hC hl dX0_tellUntil_58 rfl rfl ?_
        refine g_get (ci := 0) (k := 2) hC hO rfl inX0 (by decide) q_fl_RX0_19 (nn_lt (Nat.le_of_ble_eq_true rfl)) rfl rfl dX0_tellUntil_59 ?_
        refine g_iload_n hC hl dX0_tellUntil_62 rfl rfl ?_
        refine lv_isub hC.1 hC.2.1 dX0_tellUntil_63 ?_
        exact g_iret hC hO dX0_tellUntil_64 ⟨by rw [hend], by rw [hend]; exact (congrArg (· - nI a) (e2 i)).trans (pk_sub h2)⟩
      · rw [e1, nI_leI (by omega) (by omega)] at c; exact absurd c (by omega)
    | succ f ih =>
      intro i h1 h2 h3 F th H locs hO ls hl
      refine g_iload hC hl dX0_tellUntil_8 rfl ?_
      refine lv_if_lt (tgt := 58) hC.1 hC.2.1 dX0_tellUntil_10 (by decide) (fun c_1 => ?_) (fun c_1 => ?_)
      · skip
        exact absurd c_1 (nI_pos (by omega))
      · skip
        refine g_iload hC hl dX0_tellUntil_13 rfl ?_
        refine g_aload_n hC hl dX0_tellUntil_15 rfl rfl ?_
        refine g_get (ci := 0) (k := 1) hC hO rfl inX0 (by decide) q_fl_RX0_15 (nn_lt (Nat.le_of_ble_eq_true rfl)) rfl rfl dX0_tellUntil_16 ?_
        refine lv_icmp_ge (tgt := 58) hC.1 hC.2.1 dX0_tellUntil_19 (by decide) (fun c_2 => ?_) (fun c_2 => ?_)
        · skip
          rw [e1, nI_leI (by omega) (by omega)] at c_2
          exact absurd c_2 (by omega)
        · skip
          refine g_iload hC hl dX0_tellUntil_22 rfl ?_
          refine g_aload_n hC hl dX0_tellUntil_24 rfl rfl ?_
          refine g_get (ci := 0) (k := 0) hC hO rfl inX0 (by decide) q_fl_RX0_9 (nn_lt (Nat.le_of_ble_eq_true rfl)) rfl rfl dX0_tellUntil_25 ?_
          refine g_alenL (v := nI 512) hC hO (nn_lt (Nat.le_of_ble_eq_true rfl)) rfl rfl dX0_tellUntil_28 ?_
          refine lv_icmp_ge (tgt := 58) hC.1 hC.2.1 dX0_tellUntil_29 (by decide) (fun c_3 => ?_) (fun c_3 => ?_)
          · skip
            rw [nI_leI (by omega) (by omega)] at c_3
            exact absurd c_3 (by omega)
          · skip
            refine g_aload_n hC hl dX0_tellUntil_32 rfl rfl ?_
            refine g_get (ci := 0) (k := 0) hC hO rfl inX0 (by decide) q_fl_RX0_9 (nn_lt (Nat.le_of_ble_eq_true rfl)) rfl rfl dX0_tellUntil_33 ?_
            refine g_iload hC hl dX0_tellUntil_36 rfl ?_
            refine g_lald hC hO (nn_lt (Nat.le_of_ble_eq_true rfl)) rfl (vp_in_nI (by omega) (by omega)) dX0_tellUntil_38 ?_
            refine g_lload_n hC hl dX0_tellUntil_39 rfl rfl ?_
            refine W.lcmp hC.1 hC.2.1 dX0_tellUntil_40 ?_
            refine lv_if_gt (tgt := 58) hC.1 hC.2.1 dX0_tellUntil_41 (by decide) (fun c_4 => ?_) (fun c_4 => ?_)
            · skip
              rw [lg_cmp_gt] at c_4
              have hend : tellF σ n p0 (n - a) a = i := by
                rw [h3, tellF, if_neg]
                rintro ⟨-, hle⟩
                rw [nI_clamp (by omega)] at c_4
                exact absurd hle (Int64.not_le.mpr c_4)
              refine g_aload_n hC hl dX0_tellUntil_58 rfl rfl ?_
              refine g_get (ci := 0) (k := 2) hC hO rfl inX0 (by decide) q_fl_RX0_19 (nn_lt (Nat.le_of_ble_eq_true rfl)) rfl rfl dX0_tellUntil_59 ?_
              refine g_iload_n hC hl dX0_tellUntil_62 rfl rfl ?_
              refine lv_isub hC.1 hC.2.1 dX0_tellUntil_63 ?_
              exact g_iret hC hO dX0_tellUntil_64 (⟨by rw [hend], by rw [hend]; exact (congrArg (· - nI a) (e2 i)).trans (pk_sub h2)⟩)
            · skip
              rw [lg_cmp_gt] at c_4
              have h4 : tellF σ n p0 (n - a) a = tellF σ n p0 f (i + 1) := by
                rw [h3, tellF, if_pos]
                rw [nI_clamp (by omega)] at c_4
                exact ⟨by omega, Int64.not_lt.mp c_4⟩
              refine g_aload_n hC hl dX0_tellUntil_44 rfl rfl ?_
              refine g_iload hC hl dX0_tellUntil_45 rfl ?_
              refine lv_iconst (v := 1) hC.1 hC.2.1 dX0_tellUntil_47 (by decide) ?_
              refine lv_iadd hC.1 hC.2.1 dX0_tellUntil_48 ?_
              refine g_puti (ci := 0) (k := 2) hC hO rfl inX0 tyX0_ok nmX0 (by decide) q_fl_RX0_19 rfl (nn_lt (Nat.le_of_ble_eq_true rfl)) rfl (Nat.le_of_ble_eq_true rfl) rfl rfl rfl dX0_tellUntil_49 (fun H locs hO => ?_)
              rw [upI_upI, nI_1] at hO
              refine g_iinc (v := nI (i + 1)) hC hl dX0_tellUntil_52 rfl (nI_i1 i) (Nat.le_of_ble_eq_true rfl) rfl (fun ls hl => ?_)
              have hl : LL ls 5 [some _, some _, none, some _, some _] := hl
              refine lv_goto (tgt := 8) hC.1 hC.2.1 dX0_tellUntil_55 (by decide) ?_
              exact ih (i + 1) (by omega) (by omega) h4 _ _ _ _ hO ls hl
  refine g_aload_n hC hl dX0_tellUntil_0 rfl rfl ?_
  refine g_get (ci := 0) (k := 2) hC hO rfl inX0 (by decide) q_fl_RX0_19 (nn_lt (Nat.le_of_ble_eq_true rfl)) rfl rfl dX0_tellUntil_1 ?_
  refine g_istore_n hC hl dX0_tellUntil_4 rfl (Nat.le_of_ble_eq_true rfl) rfl (fun ls hl => ?_)
  have hl : LL ls 5 [some _, some _, none, some _, none] := hl
  refine g_iload_n hC hl dX0_tellUntil_5 rfl rfl ?_
  refine g_istore hC hl dX0_tellUntil_6 (Nat.le_of_ble_eq_true rfl) rfl (fun ls hl => ?_)
  have hl : LL ls 5 [some _, some _, none, some _, some _] := hl
  exact loop8 (n - a) a (by omega) (Nat.le_refl _) rfl _ _ _ _ (by rw [← ha, upI_self]; exact hO) ls (by rw [ha] at hl; exact hl)
end
section
/-! the class's methods as functions of the state, as the code has them -/
def mayB (σ : ST) (k : Nat) (a b : Int32) : Bool := if sI σ (rb k) 0 < 2 then (decide (b = -1) && !decide (a = sI σ (rb k) 4)) else (!decide (b = -1) && !decide (a = b))
def checkedB (σ : ST) (k : Nat) : Bool := decide (sI σ (rb k) 1 = 0) && !decide (sI σ (rb k) 2 = 0)
def shutS (σ : ST) (k : Nat) (q : Int64) (w : Int32) : ST := upR (upR (upI (upJ (upI (upI σ (rb k) 1 1) (rb k) 2 1) (rb k) 3 q) (rb k) 4 w) (rc k 1) (sR σ (rc k 0))) (rc k 3) []
def unseal1 (σ : ST) (k : Nat) : ST := upR (upR (upR (upI σ (rb k) 1 0) (rc k 2) []) (rc k 4) (sR σ (rc k 1))) (rc k 5) []
def unsealS (σ : ST) (k : Nat) (q : Int64) : ST := if q = sJ σ (rb k) 3 then unseal1 σ k else upR (unseal1 σ k) (rc k 2) [q.toInt32]
def sealB (q : Int64) : Bool := decide (1 ≤ q) && decide (q ≤ 1000000000)
def personB (w : Int32) : Bool := decide (0 ≤ w) && decide (w ≤ 49)
def setHoldF (σ : ST) (t h : Int32) : ST := if t < 0 then σ else if nI 1061 ≤ t then σ else upI σ 2 t.toNatClampNeg h
def setOwnF (σ : ST) (t h : Int32) : ST := if t < 0 then σ else if nI 1061 ≤ t then σ else upI σ 3 t.toNatClampNeg h
def appR (σ : ST) (k j : Nat) (t : Int32) : ST := upR σ (rc k j) (if (sR σ (rc k j)).length < capj j then sR σ (rc k j) ++ [t] else sR σ (rc k j))
def remR (σ : ST) (k j : Nat) (t : Int32) : ST := upR σ (rc k j) ((sR σ (rc k j)).filter (fun y => decide (y ≠ t)))
def noteS (σ : ST) (d : Int64) : ST := upI (upJ σ 5 (sI σ 4 1).toNatClampNeg d) 4 1 (sI σ 4 1 + 1)
def putInS (σ : ST) (k : Nat) (b t : Int32) : ST := setHoldF (appR σ k 0 t) t b
def takeOutS (σ : ST) (t : Int32) : ST := match recOf σ (holdF σ t) with
  | none => σ
  | some k => setHoldF (remR (setOwnF σ t (placeF σ t)) k 0 t) t 0
def fullB (σ : ST) (k j : Nat) : Bool := decide (capj j ≤ (sR σ (rc k j)).length)
def timeS (σ : ST) : Int64 := sJ σ 0 5 + 100
def feS (σ : ST) (k : Nat) (t : Int32) : ST := noteS (appR σ k 5 t) (timeS σ)
def foundExtraF (σ : ST) (k : Nat) (b t : Int32) : Int32 × ST :=
  if fullB σ k 5 = true then (-14, σ)
  else if holdF σ t = b then (0, feS σ k t)
  else if fullB σ k 0 = true then (-14, σ)
  else (0, feS (putInS (takeOutS σ t) k b t) k t)
def itemsW (l : List Int32) : Nat → Int64
  | 0 => 0
  | i + 1 => if itemB (l.getD i 0) = true then itemsW l i + (5 + 10 * (l.getD i 0 - l.getD i 0 / 50 * 50)).toInt64 else itemsW l i
def withinB (σ : ST) (t b : Int32) : Bool := withF σ b 61 t
def wsum (σ : ST) (b : Int32) : Nat → Int64
  | 0 => 0
  | i + 1 => if withinB σ (1001 + nI i) b = true then wsum σ b i + (100 * (sI σ (rb i) 0).toInt64 + 100 + itemsW (sR σ (rc i 0)) (sR σ (rc i 0)).length) else wsum σ b i
def csum (σ : ST) (b : Int32) : Nat → Int32
  | 0 => 1
  | i + 1 => if withinB σ (1001 + nI i) b = true then csum σ b i + nI (sR σ (rc i 0)).length else csum σ b i
def shutB (σ : ST) (b : Int32) : Bool := shutF σ 61 b
theorem outF_stop {σ : ST} {o : Int32} (h : holdF σ o = 0) (f : Nat) : outF σ f o = o := by
  cases f with
  | zero => rfl
  | succ f => rw [outF, if_pos h]
def xInto (σ : ST) (b t : Int32) : Int32 × ST := match recOf σ b with
  | none => (-11, σ)
  | some k => if thingB σ t = false then (-11, σ) else if shutB σ b = true then (-13, σ) else if ¬ holdF σ t = 0 then (-13, σ) else if lesserB σ t k = false then (-13, σ) else if ¬ placeF σ t = placeF σ b then (-13, σ) else if fullB σ k 0 = true then (-14, σ) else (1, putInS σ k b t)
def xTake (σ : ST) (t : Int32) : Int32 × ST := if thingB σ t = false then (-11, σ) else if holdF σ t = 0 then (-13, σ) else if shutB σ (holdF σ t) = true then (-13, σ) else (holdF σ t, takeOutS σ t)
def xClose (σ : ST) (b : Int32) (q : Int64) (w : Int32) : Int32 × ST := match recOf σ b with
  | none => (-11, σ)
  | some k => if sealB q = false then (-12, σ) else if personB w = false then (-12, σ) else if shutB σ b = true then (-13, σ) else (nI (sR (shutS σ k q w) (rc k 1)).length, shutS σ k q w)
def orPerson (c : Int32) : Bool := decide (c = -1) || personB c
def xOpen (σ : ST) (b : Int32) (q : Int64) (a c : Int32) : Int32 × ST := match recOf σ b with
  | none => (-11, σ)
  | some k => if sealB q = false then (-12, σ) else if personB a = false then (-12, σ) else if orPerson c = false then (-12, σ) else if sI σ (rb k) 1 = 0 then (-13, σ) else if shutB σ (holdF σ b) = true then (-13, σ) else if mayB σ k a c = false then (-13, σ) else if q = sJ σ (rb k) 3 then (1, unsealS σ k q) else (-1, noteS (unsealS σ k q) (timeS (unsealS σ k q)))
def xFound (σ : ST) (b t : Int32) : Int32 × ST := match recOf σ b with
  | none => (-11, σ)
  | some k => if thingB σ t = false then (-11, σ) else if checkedB σ k = false then (-13, σ) else if lesserB σ t k = false then (-13, σ) else if t ∈ sR σ (rc k 1) then (1, remR σ k 4 t) else if t ∈ sR σ (rc k 5) then (0, σ) else foundExtraF σ k b t
def differF (σ : ST) (k : Nat) (what : Int32) : Nat → Nat → Int32 → Int32
  | 0, _, _ => -1
  | f + 1, d, rest => if rest < 0 then -1 else if rest < nI (sR σ (rc k (d + 2))).length then (if what = 0 then nI d else rowAt (sR σ (rc k (d + 2))) rest) else differF σ k what f (d + 1) (rest - nI (sR σ (rc k (d + 2))).length)
def xDiffer (σ : ST) (b i what : Int32) : Int32 := match recOf σ b with
  | none => -11
  | some k => if ¬ what = 0 ∧ ¬ what = 1 then -12 else if checkedB σ k = false then -13 else differF σ k what 4 0 i
def xInside (σ : ST) (t : Int32) : Int32 := if thingB σ t = true then holdF σ t else -11
def xWeight (σ : ST) (b : Int32) (q : Int64) : Int32 × ST := match recOf σ b with
  | none => (-11, σ)
  | some k => if q < 0 then (-12, σ) else if ¬ q ≤ 1000000000 then (-12, σ) else if ¬ wsum σ b σ.1 / 50 < (if 0 < q - wsum σ b σ.1 then q - wsum σ b σ.1 else -(q - wsum σ b σ.1)) then (1, σ) else (0, noteS (appR σ k 3 q.toInt32) (timeS σ))
def xDocument (σ : ST) (b i : Int32) : Int32 := match recOf σ b with
  | none => -11
  | some k => rowAt (sR σ (rc k 1)) i
def xMove (σ : ST) (b w : Int32) : Int32 × ST := match recOf σ b with
  | none => (-11, σ)
  | some k => if w < 0 then (-12, σ) else if ¬ w ≤ 9 then (-12, σ) else if sI σ (rb k) 1 = 0 then (-13, σ) else if ¬ holdF σ b = 0 then (-13, σ) else (csum (setOwnF σ b w) b σ.1, setOwnF σ b w)
def xTick (σ : ST) (n a : Nat) (t : Int64) : Int32 × ST := if t < sJ σ 0 5 then (-12, σ) else if ¬ t ≤ 1000000000000 then (-12, σ) else (nI (tellF (upJ σ 0 5 t) n t (n - a) a - a), upI (upJ σ 0 5 t) 4 2 (nI (tellF (upJ σ 0 5 t) n t (n - a) a)))
def xPlace (σ : ST) (t : Int32) : Int32 := if thingB σ t = true then placeF σ t else -11
theorem sI4_upI (σ : ST) {co : Nat} (i : Nat) (x : Int32) (h : co ≠ 4) : sI (upI σ co i x) 4 = sI σ 4 := by
  simp only [sI, upI, va_up_ne _ _ (Ne.symm h)]
theorem sI4_setHold (σ : ST) (t h : Int32) : sI (setHoldF σ t h) 4 = sI σ 4 := by
  unfold setHoldF
  split
  · rfl
  · split
    · rfl
    · exact sI4_upI _ _ _ (by decide)
theorem sI4_setOwn (σ : ST) (t h : Int32) : sI (setOwnF σ t h) 4 = sI σ 4 := by
  unfold setOwnF
  split
  · rfl
  · split
    · rfl
    · exact sI4_upI _ _ _ (by decide)
theorem sI4_takeOut (σ : ST) (t : Int32) : sI (takeOutS σ t) 4 = sI σ 4 := by
  unfold takeOutS
  split
  · rfl
  · rw [sI4_setHold]
    show sI (setOwnF σ t (placeF σ t)) 4 = _
    exact sI4_setOwn _ _ _
theorem sI4_putIn (σ : ST) (k : Nat) (b t : Int32) : sI (putInS σ k b t) 4 = sI σ 4 := by
  unfold putInS
  rw [sI4_setHold]
  rfl
theorem sI4_unseal (σ : ST) (k : Nat) (q : Int64) : sI (unsealS σ k q) 4 = sI σ 4 := by
  have h : sI (upI σ (rb k) 1 0) 4 = sI σ 4 := sI4_upI _ _ _ (by unfold rb; omega)
  unfold unsealS
  split <;> exact h
theorem sN_setHold (σ : ST) (t h : Int32) : (setHoldF σ t h).1 = σ.1 := by
  unfold setHoldF
  split
  · rfl
  · split <;> rfl
theorem sN_setOwn (σ : ST) (t h : Int32) : (setOwnF σ t h).1 = σ.1 := by
  unfold setOwnF
  split
  · rfl
  · split <;> rfl
theorem sN_takeOut (σ : ST) (t : Int32) : (takeOutS σ t).1 = σ.1 := by
  unfold takeOutS
  split
  · rfl
  · rw [sN_setHold]
    exact sN_setOwn _ _ _
theorem sN_putIn (σ : ST) (k : Nat) (b t : Int32) : (putInS σ k b t).1 = σ.1 := by
  unfold putInS
  rw [sN_setHold]
  rfl
theorem sN_unseal (σ : ST) (k : Nat) (q : Int64) : (unsealS σ k q).1 = σ.1 := by
  unfold unsealS
  split <;> rfl
theorem LL.drop {ls : Array Slot} {n : Nat} {vs : List (Option Value)} (h : LL ls n vs) (i : Nat) : LL ls n (vs.set i none) := by
  refine LL.weak h (fun k v hk => ?_)
  by_cases e : k = i
  · subst e
    have hl := (List.getElem?_eq_some_iff.mp hk).1
    rw [List.length_set] at hl
    rw [List.getElem?_set_self hl] at hk
    cases hk
  · rwa [List.getElem?_set_ne (Ne.symm e)] at hk
theorem gt1000 {x : Int32} (h : 1000 < x) : ∃ j : Nat, 1001 + j < 2 ^ 31 ∧ x = nI (1001 + j) := by
  have h0 : ¬ x < 0 := by
    rw [Int32.lt_iff_toInt_lt] at h ⊢
    have e1 : (1000 : Int32).toInt = 1000 := rfl
    have e2 : (0 : Int32).toInt = 0 := rfl
    omega
  obtain ⟨j, hj, rfl⟩ := nI_of h0
  have h1 : nI 1000 < nI j := h
  rw [nI_ltI (by omega) hj] at h1
  exact ⟨j - 1001, by omega, by rw [show 1001 + (j - 1001) = j by omega]⟩
theorem recOf_nI {σ : ST} {j : Nat} (h : 1001 + j < 2 ^ 31) : recOf σ (nI (1001 + j)) = if j < σ.1 then some j else none := by
  unfold recOf
  rw [nI_toInt h]
  by_cases hj : j < σ.1
  · rw [if_pos hj, if_pos (by omega)]
    congr 1
    omega
  · rw [if_neg hj, if_neg (by omega)]
theorem recOf_le {σ : ST} {x : Int32} (h : ¬ 1000 < x) : recOf σ x = none := by
  unfold recOf
  rw [if_neg]
  rintro ⟨h1, -⟩
  apply h
  rw [Int32.lt_iff_toInt_lt]
  have e1 : (1000 : Int32).toInt = 1000 := rfl
  omega
theorem rowAt_nI (r : List Int32) {i : Nat} (h : i < 2 ^ 31) : rowAt r (nI i) = r.getD i 0 := by
  unfold rowAt
  rw [if_neg (nI_pos h), nI_clamp h]
theorem noteS_eq {σ : ST} {n : Nat} (hn : sI σ 4 1 = nI n) (h : n < 512) (d : Int64) : upI (upJ σ 5 n d) 4 1 (nI (n + 1)) = noteS σ d := by
  unfold noteS
  rw [hn, nI_clamp (by omega), nI_1]
end
section
set_option maxHeartbeats 4000000 in
set_option maxRecDepth 100000 in
/-- Receptacle.shut -/
theorem c_X1_shut (l : Launch) (κ : KK) (σ : ST) (k : Nat) (hk : k < σ.1) (p0 : Int64) (p1 : Int32) : Met l yX1_shut (wA yX1_shut cX1_shut 4 none) ({ frames := 2, cells := 0, slots := 0, locals := 43 }) (va_Pc [.ref (kad κ (rb k)), .long p0, .int p1] (WX κ σ)) (va_Qv (fun σ' => σ' = shutS σ k p0 p1) (WX κ) (FA κ)) 0 0 (FA κ) := by
  refine g_met 0 (by decide) rfl (Nat.le_of_ble_eq_true rfl) ?_
  intro p e s m args below meth c hC F th hO ls hl
  have hl : LL ls 4 [some _, some _, none, some _] := hl
  have hlen0 : (sR σ (rc k 0)).length ≤ capj 1 := hO.1.len hk (j := 0) (by decide)
  refine g_aload_n hC hl dX1_shut_0 rfl rfl ?_
  refine lv_iconst (v := 1) hC.1 hC.2.1 dX1_shut_1 (by decide) ?_
  refine g_puti (ci := 1) (k := 1) hC hO rfl inX1 tyX1_ok nmX1 (by decide) q_fl_RX1_39 rfl (nn_rb hk) (sh_rec _ _ _ _ _) (Nat.le_of_ble_eq_true rfl) rfl rfl (by rw [sh_rec]; simp [upI, upJ, sI, sJ, va_up, upd, vp_updL]) dX1_shut_2 (fun H locs hO => ?_)
  refine g_aload_n hC hl dX1_shut_5 rfl rfl ?_
  refine lv_iconst (v := 1) hC.1 hC.2.1 dX1_shut_6 (by decide) ?_
  refine g_puti (ci := 1) (k := 2) hC hO rfl inX1 tyX1_ok nmX1 (by decide) q_fl_RX1_43 rfl (nn_rb hk) (sh_rec _ _ _ _ _) (Nat.le_of_ble_eq_true rfl) rfl rfl (by rw [sh_rec]; simp [upI, upJ, sI, sJ, va_up, upd, vp_updL]) dX1_shut_7 (fun H locs hO => ?_)
  refine g_aload_n hC hl dX1_shut_10 rfl rfl ?_
  refine g_lload_n hC hl dX1_shut_11 rfl rfl ?_
  refine g_putl (ci := 1) (k := 3) hC hO rfl inX1 tyX1_ok nmX1 (by decide) q_fl_RX1_46 rfl (nn_rb hk) (sh_rec _ _ _ _ _) (Nat.le_of_ble_eq_true rfl) rfl rfl (by rw [sh_rec]; simp [upI, upJ, sI, sJ, va_up, upd, vp_updL]) dX1_shut_12 (fun H locs hO => ?_)
  refine g_aload_n hC hl dX1_shut_15 rfl rfl ?_
  refine g_iload_n hC hl dX1_shut_16 rfl rfl ?_
  refine g_puti (ci := 1) (k := 4) hC hO rfl inX1 tyX1_ok nmX1 (by decide) q_fl_RX1_50 rfl (nn_rb hk) (sh_rec _ _ _ _ _) (Nat.le_of_ble_eq_true rfl) rfl rfl (by rw [sh_rec]; simp [upI, upJ, sI, sJ, va_up, upd, vp_updL]) dX1_shut_17 (fun H locs hO => ?_)
  refine g_aload_n hC hl dX1_shut_20 rfl rfl ?_
  refine g_get (ci := 1) (k := 6) hC hO rfl inX1 (by decide) q_fl_RX1_24 (nn_rb hk) (sh_rec _ _ _ _ _) rfl dX1_shut_21 ?_
  refine g_aload_n hC hl dX1_shut_24 rfl rfl ?_
  refine g_get (ci := 1) (k := 5) hC hO rfl inX1 (by decide) q_fl_RX1_20 (nn_rb hk) (sh_rec _ _ _ _ _) rfl dX1_shut_25 ?_
  refine g_cVv1 hC hO hl (ci := 2) rfl (nn_rc hk (by decide)) (sh_row _ _ _ _ _ (by decide)) (c_X2_becomeLike l κ _ k 1 0 (by exact hk) (by decide) (by decide) (by decide) (by exact hlen0)) mi_X2_becomeLike q_ml_RX1_53 rfl rfl ⟨Nat.le_of_ble_eq_true rfl, Nat.le_of_ble_eq_true rfl⟩ (Nat.le_of_ble_eq_true rfl) ⟨Nat.zero_le _, Nat.zero_le _⟩ dX1_shut_28 (fun σ1 F th H locs hr hO => ?_)
  subst hr
  refine g_aload_n hC hl dX1_shut_31 rfl rfl ?_
  refine g_get (ci := 1) (k := 8) hC hO rfl inX1 (by decide) q_fl_RX1_30 (nn_rb hk) (sh_rec _ _ _ _ _) rfl dX1_shut_32 ?_
  refine g_cVv0 hC hO hl (ci := 2) rfl (nn_rc hk (by decide)) (sh_row _ _ _ _ _ (by decide)) (c_X2_clear l κ _ (k) (3) (by exact hk) (by decide)) mi_X2_clear q_ml_RX1_57 rfl rfl ⟨Nat.le_of_ble_eq_true rfl, Nat.le_of_ble_eq_true rfl⟩ (Nat.le_of_ble_eq_true rfl) ⟨Nat.zero_le _, Nat.zero_le _⟩ dX1_shut_35 (fun σ1 F th H locs hr hO => ?_)
  subst hr
  exact g_vret hC hO dX1_shut_38 (rfl)

set_option maxHeartbeats 4000000 in
set_option maxRecDepth 100000 in
/-- Receptacle.mayBeOpenedBy -/
theorem c_X1_mayBeOpenedBy (l : Launch) (κ : KK) (σ : ST) (k : Nat) (hk : k < σ.1) (p0 p1 : Int32) : Met l yX1_mayBeOpenedBy (wA yX1_mayBeOpenedBy cX1_mayBeOpenedBy 3 (some .boolean)) ({ frames := 0, cells := 0, slots := 0, locals := 0 }) (va_Pc [.ref (kad κ (rb k)), .int p0, .int p1] (WX κ σ)) (va_Qi (fun r σ' => σ = σ' ∧ r = bI (mayB σ k p0 p1)) (WX κ) (FA κ)) 0 0 (FA κ) := by
  refine g_met 0 (by decide) rfl (Nat.le_of_ble_eq_true rfl) ?_
  intro p e s m args below meth c hC F th hO ls hl
  have hl : LL ls 3 [some _, some _, some _] := hl
  refine g_aload_n hC hl dX1_mayBeOpenedBy_0 rfl rfl ?_
  refine g_get (ci := 1) (k := 0) hC hO rfl inX1 (by decide) q_fl_RX1_9 (nn_rb hk) (sh_rec _ _ _ _ _) rfl dX1_mayBeOpenedBy_1 ?_
  refine lv_iconst (v := 2) hC.1 hC.2.1 dX1_mayBeOpenedBy_4 (by decide) ?_
  refine lv_icmp_lt (tgt := 24) hC.1 hC.2.1 dX1_mayBeOpenedBy_5 (by decide) (fun c_1 => ?_) (fun c_1 => ?_)
  · skip
    refine g_iload_n hC hl dX1_mayBeOpenedBy_24 rfl rfl ?_
    refine lv_iconst (v := (-1)) hC.1 hC.2.1 dX1_mayBeOpenedBy_25 (by decide) ?_
    refine lv_icmp_ne (tgt := 41) hC.1 hC.2.1 dX1_mayBeOpenedBy_26 (by decide) (fun c_2 => ?_) (fun c_2 => ?_)
    · skip
      refine lv_iconst (v := 0) hC.1 hC.2.1 dX1_mayBeOpenedBy_41 (by decide) ?_
      exact g_zret hC hO dX1_mayBeOpenedBy_42 (by decide) (⟨rfl, by first | exact bI_t (by simp [mayB, c_1, c_2]) | exact bI_f (by simp [mayB, c_1, c_2])⟩)
    · skip
      refine g_iload_n hC hl dX1_mayBeOpenedBy_29 rfl rfl ?_
      refine g_aload_n hC hl dX1_mayBeOpenedBy_30 rfl rfl ?_
      refine g_get (ci := 1) (k := 4) hC hO rfl inX1 (by decide) q_fl_RX1_50 (nn_rb hk) (sh_rec _ _ _ _ _) rfl dX1_mayBeOpenedBy_31 ?_
      refine lv_icmp_eq (tgt := 41) hC.1 hC.2.1 dX1_mayBeOpenedBy_34 (by decide) (fun c_3 => ?_) (fun c_3 => ?_)
      · skip
        refine lv_iconst (v := 0) hC.1 hC.2.1 dX1_mayBeOpenedBy_41 (by decide) ?_
        exact g_zret hC hO dX1_mayBeOpenedBy_42 (by decide) (⟨rfl, by first | exact bI_t (by simp [mayB, c_1, c_2, c_3]) | exact bI_f (by simp [mayB, c_1, c_2, c_3])⟩)
      · skip
        refine lv_iconst (v := 1) hC.1 hC.2.1 dX1_mayBeOpenedBy_37 (by decide) ?_
        refine lv_goto (tgt := 42) hC.1 hC.2.1 dX1_mayBeOpenedBy_38 (by decide) ?_
        exact g_zret hC hO dX1_mayBeOpenedBy_42 (by decide) (⟨rfl, by first | exact bI_t (by simp [mayB, c_1, c_2, c_3]) | exact bI_f (by simp [mayB, c_1, c_2, c_3])⟩)
  · skip
    refine g_iload_n hC hl dX1_mayBeOpenedBy_8 rfl rfl ?_
    refine lv_iconst (v := (-1)) hC.1 hC.2.1 dX1_mayBeOpenedBy_9 (by decide) ?_
    refine lv_icmp_eq (tgt := 22) hC.1 hC.2.1 dX1_mayBeOpenedBy_10 (by decide) (fun c_4 => ?_) (fun c_4 => ?_)
    · skip
      refine lv_iconst (v := 0) hC.1 hC.2.1 dX1_mayBeOpenedBy_22 (by decide) ?_
      exact g_zret hC hO dX1_mayBeOpenedBy_23 (by decide) (⟨rfl, by first | exact bI_t (by simp [mayB, c_1, c_4]) | exact bI_f (by simp [mayB, c_1, c_4])⟩)
    · skip
      refine g_iload_n hC hl dX1_mayBeOpenedBy_13 rfl rfl ?_
      refine g_iload_n hC hl dX1_mayBeOpenedBy_14 rfl rfl ?_
      refine lv_icmp_eq (tgt := 22) hC.1 hC.2.1 dX1_mayBeOpenedBy_15 (by decide) (fun c_5 => ?_) (fun c_5 => ?_)
      · skip
        refine lv_iconst (v := 0) hC.1 hC.2.1 dX1_mayBeOpenedBy_22 (by decide) ?_
        exact g_zret hC hO dX1_mayBeOpenedBy_23 (by decide) (⟨rfl, by first | exact bI_t (by simp [mayB, c_1, c_4, c_5]) | exact bI_f (by simp [mayB, c_1, c_4, c_5])⟩)
      · skip
        refine lv_iconst (v := 1) hC.1 hC.2.1 dX1_mayBeOpenedBy_18 (by decide) ?_
        refine lv_goto (tgt := 23) hC.1 hC.2.1 dX1_mayBeOpenedBy_19 (by decide) ?_
        exact g_zret hC hO dX1_mayBeOpenedBy_23 (by decide) (⟨rfl, by first | exact bI_t (by simp [mayB, c_1, c_4, c_5]) | exact bI_f (by simp [mayB, c_1, c_4, c_5])⟩)

set_option maxHeartbeats 4000000 in
set_option maxRecDepth 100000 in
/-- Receptacle.unseal -/
theorem c_X1_unseal (l : Launch) (κ : KK) (σ : ST) (k : Nat) (hk : k < σ.1) (p0 : Int64) : Met l yX1_unseal (wA yX1_unseal cX1_unseal 3 (some .boolean)) ({ frames := 2, cells := 0, slots := 0, locals := 43 }) (va_Pc [.ref (kad κ (rb k)), .long p0] (WX κ σ)) (va_Qi (fun r σ' => σ' = unsealS σ k p0 ∧ r = bI (decide (p0 = sJ σ (rb k) 3))) (WX κ) (FA κ)) 0 0 (FA κ) := by
  refine g_met 0 (by decide) rfl (Nat.le_of_ble_eq_true rfl) ?_
  intro p e s m args below meth c hC F th hO ls hl
  have hl : LL ls 3 [some _, some _, none] := hl
  have hlen1 : (sR σ (rc k 1)).length ≤ capj 4 := hO.1.len hk (j := 1) (by decide)
  have hne1 : rc k 1 ≠ rc k 2 := fun h => absurd (rc_inj (by decide) (by decide) h).2 (by decide)
  have hne2 : rc k 2 ≠ rc k 4 := fun h => absurd (rc_inj (by decide) (by decide) h).2 (by decide)
  have hne3 : rc k 2 ≠ rc k 5 := fun h => absurd (rc_inj (by decide) (by decide) h).2 (by decide)
  refine g_aload_n hC hl dX1_unseal_0 rfl rfl ?_
  refine lv_iconst (v := 0) hC.1 hC.2.1 dX1_unseal_1 (by decide) ?_
  refine g_puti (ci := 1) (k := 1) hC hO rfl inX1 tyX1_ok nmX1 (by decide) q_fl_RX1_39 rfl (nn_rb hk) (sh_rec _ _ _ _ _) (Nat.le_of_ble_eq_true rfl) rfl rfl (by rw [sh_rec]; simp [upI, upJ, sI, sJ, va_up, upd, vp_updL]) dX1_unseal_2 (fun H locs hO => ?_)
  refine g_aload_n hC hl dX1_unseal_5 rfl rfl ?_
  refine g_get (ci := 1) (k := 7) hC hO rfl inX1 (by decide) q_fl_RX1_27 (nn_rb hk) (sh_rec _ _ _ _ _) rfl dX1_unseal_6 ?_
  refine g_cVv0 hC hO hl (ci := 2) rfl (nn_rc hk (by decide)) (sh_row _ _ _ _ _ (by decide)) (c_X2_clear l κ _ (k) (2) (by exact hk) (by decide)) mi_X2_clear q_ml_RX1_57 rfl rfl ⟨Nat.le_of_ble_eq_true rfl, Nat.le_of_ble_eq_true rfl⟩ (Nat.le_of_ble_eq_true rfl) ⟨Nat.zero_le _, Nat.zero_le _⟩ dX1_unseal_9 (fun σ1 F th H locs hr hO => ?_)
  subst hr
  refine g_aload_n hC hl dX1_unseal_12 rfl rfl ?_
  refine g_get (ci := 1) (k := 9) hC hO rfl inX1 (by decide) q_fl_RX1_33 (nn_rb hk) (sh_rec _ _ _ _ _) rfl dX1_unseal_13 ?_
  refine g_aload_n hC hl dX1_unseal_16 rfl rfl ?_
  refine g_get (ci := 1) (k := 6) hC hO rfl inX1 (by decide) q_fl_RX1_24 (nn_rb hk) (sh_rec _ _ _ _ _) rfl dX1_unseal_17 ?_
  refine g_cVv1 hC hO hl (ci := 2) rfl (nn_rc hk (by decide)) (sh_row _ _ _ _ _ (by decide)) (c_X2_becomeLike l κ _ k 4 1 (by exact hk) (by decide) (by decide) (by decide) (by rw [sR_upR_ne _ _ hne1]; exact hlen1)) mi_X2_becomeLike q_ml_RX1_53 rfl rfl ⟨Nat.le_of_ble_eq_true rfl, Nat.le_of_ble_eq_true rfl⟩ (Nat.le_of_ble_eq_true rfl) ⟨Nat.zero_le _, Nat.zero_le _⟩ dX1_unseal_20 (fun σ1 F th H locs hr hO => ?_)
  subst hr
  rw [sR_upR_ne _ _ hne1] at hO
  refine g_aload_n hC hl dX1_unseal_23 rfl rfl ?_
  refine g_get (ci := 1) (k := 10) hC hO rfl inX1 (by decide) q_fl_RX1_36 (nn_rb hk) (sh_rec _ _ _ _ _) rfl dX1_unseal_24 ?_
  refine g_cVv0 hC hO hl (ci := 2) rfl (nn_rc hk (by decide)) (sh_row _ _ _ _ _ (by decide)) (c_X2_clear l κ _ (k) (5) (by exact hk) (by decide)) mi_X2_clear q_ml_RX1_57 rfl rfl ⟨Nat.le_of_ble_eq_true rfl, Nat.le_of_ble_eq_true rfl⟩ (Nat.le_of_ble_eq_true rfl) ⟨Nat.zero_le _, Nat.zero_le _⟩ dX1_unseal_27 (fun σ1 F th H locs hr hO => ?_)
  subst hr
  refine g_lload_n hC hl dX1_unseal_30 rfl rfl ?_
  refine g_aload_n hC hl dX1_unseal_31 rfl rfl ?_
  refine g_get (ci := 1) (k := 3) hC hO rfl inX1 (by decide) q_fl_RX1_46 (nn_rb hk) (sh_rec _ _ _ _ _) rfl dX1_unseal_32 ?_
  refine W.lcmp hC.1 hC.2.1 dX1_unseal_35 ?_
  refine lv_if_ne (tgt := 41) hC.1 hC.2.1 dX1_unseal_36 (by decide) (fun c_1 => ?_) (fun c_1 => ?_)
  · skip
    rw [lg_cmp_eq] at c_1
    have hq2 : ¬ p0 = sJ σ (rb k) 3 := c_1
    refine g_aload_n hC hl dX1_unseal_41 rfl rfl ?_
    refine g_get (ci := 1) (k := 7) hC hO rfl inX1 (by decide) q_fl_RX1_27 (nn_rb hk) (sh_rec _ _ _ _ _) rfl dX1_unseal_42 ?_
    refine g_lload_n hC hl dX1_unseal_45 rfl rfl ?_
    refine lv_l2i hC.1 hC.2.1 dX1_unseal_46 rfl ?_
    refine g_cVv1 hC hO hl (ci := 2) rfl (nn_rc hk (by decide)) (sh_row _ _ _ _ _ (by decide)) (c_X2_append l κ _ (k) (2) (by exact hk) (by decide) _) mi_X2_append q_ml_RX1_60 rfl rfl ⟨Nat.le_of_ble_eq_true rfl, Nat.le_of_ble_eq_true rfl⟩ (Nat.le_of_ble_eq_true rfl) ⟨Nat.zero_le _, Nat.zero_le _⟩ dX1_unseal_47 (fun σ1 F th H locs hr hO => ?_)
    subst hr
    refine lv_iconst (v := 0) hC.1 hC.2.1 dX1_unseal_50 (by decide) ?_
    exact g_zret hC hO dX1_unseal_51 (by decide) (⟨by
        rw [unsealS, if_neg hq2]
        have e9 : sR (unseal1 σ k) (rc k 2) = [] := by
          unfold unseal1
          rw [sR_upR_ne _ _ hne3, sR_upR_ne _ _ hne2, sR_upR_self]
        show upR (unseal1 σ k) (rc k 2) (if (sR (unseal1 σ k) (rc k 2)).length < capj 2 then sR (unseal1 σ k) (rc k 2) ++ [p0.toInt32] else sR (unseal1 σ k) (rc k 2)) = _
        rw [e9]
        rfl, bI_f (decide_eq_false hq2)⟩)
  · skip
    rw [lg_cmp_eq] at c_1
    have hq2 : p0 = sJ σ (rb k) 3 := c_1
    refine lv_iconst (v := 1) hC.1 hC.2.1 dX1_unseal_39 (by decide) ?_
    exact g_zret hC hO dX1_unseal_40 (by decide) (⟨by rw [unsealS, if_pos hq2]; rfl, bI_t (decide_eq_true hq2)⟩)

set_option maxHeartbeats 4000000 in
set_option maxRecDepth 100000 in
/-- Receptacle.isChecked -/
theorem c_X1_isChecked (l : Launch) (κ : KK) (σ : ST) (k : Nat) (hk : k < σ.1) : Met l yX1_isChecked (wA yX1_isChecked cX1_isChecked 1 (some .boolean)) ({ frames := 0, cells := 0, slots := 0, locals := 0 }) (va_Pc [.ref (kad κ (rb k))] (WX κ σ)) (va_Qi (fun r σ' => σ = σ' ∧ r = bI (checkedB σ k)) (WX κ) (FA κ)) 0 0 (FA κ) := by
  refine g_met 0 (by decide) rfl (Nat.le_of_ble_eq_true rfl) ?_
  intro p e s m args below meth c hC F th hO ls hl
  have hl : LL ls 1 [some _] := hl
  refine g_aload_n hC hl dX1_isChecked_0 rfl rfl ?_
  refine g_get (ci := 1) (k := 1) hC hO rfl inX1 (by decide) q_fl_RX1_39 (nn_rb hk) (sh_rec _ _ _ _ _) rfl dX1_isChecked_1 ?_
  refine lv_if_ne (tgt := 18) hC.1 hC.2.1 dX1_isChecked_4 (by decide) (fun c_1 => ?_) (fun c_1 => ?_)
  · skip
    refine lv_iconst (v := 0) hC.1 hC.2.1 dX1_isChecked_18 (by decide) ?_
    exact g_zret hC hO dX1_isChecked_19 (by decide) (⟨rfl, by first | exact bI_t (by simp [checkedB, c_1]) | exact bI_f (by simp [checkedB, c_1])⟩)
  · skip
    refine g_aload_n hC hl dX1_isChecked_7 rfl rfl ?_
    refine g_get (ci := 1) (k := 2) hC hO rfl inX1 (by decide) q_fl_RX1_43 (nn_rb hk) (sh_rec _ _ _ _ _) rfl dX1_isChecked_8 ?_
    refine lv_if_eq (tgt := 18) hC.1 hC.2.1 dX1_isChecked_11 (by decide) (fun c_2 => ?_) (fun c_2 => ?_)
    · skip
      refine lv_iconst (v := 0) hC.1 hC.2.1 dX1_isChecked_18 (by decide) ?_
      exact g_zret hC hO dX1_isChecked_19 (by decide) (⟨rfl, by first | exact bI_t (by simp [checkedB, c_1, c_2]) | exact bI_f (by simp [checkedB, c_1, c_2])⟩)
    · skip
      refine lv_iconst (v := 1) hC.1 hC.2.1 dX1_isChecked_14 (by decide) ?_
      refine lv_goto (tgt := 19) hC.1 hC.2.1 dX1_isChecked_15 (by decide) ?_
      exact g_zret hC hO dX1_isChecked_19 (by decide) (⟨rfl, by first | exact bI_t (by simp [checkedB, c_1, c_2]) | exact bI_f (by simp [checkedB, c_1, c_2])⟩)

set_option maxHeartbeats 4000000 in
set_option maxRecDepth 100000 in
/-- Receptacle.differencesOf -/
theorem c_X1_differencesOf (l : Launch) (κ : KK) (σ : ST) (k : Nat) (hk : k < σ.1) (d : Nat) (hd : d < 4) : Met l yX1_differencesOf (wA yX1_differencesOf cX1_differencesOf 2 (some (.object "BagRows$Row"))) ({ frames := 0, cells := 0, slots := 0, locals := 0 }) (va_Pc [.ref (kad κ (rb k)), .int (nI d)] (WX κ σ)) (va_Qq (fun r σ' => σ = σ' ∧ r = some (kad κ (rc k (d + 2)))) (WX κ) (FA κ)) 0 0 (FA κ) := by
  refine g_met 0 (by decide) rfl (Nat.le_of_ble_eq_true rfl) ?_
  intro p e s m args below meth c hC F th hO ls hl
  have hl : LL ls 2 [some _, some _] := hl
  refine g_iload_n hC hl dX1_differencesOf_0 rfl rfl ?_
  obtain rfl | rfl | rfl | rfl : d = 0 ∨ d = 1 ∨ d = 2 ∨ d = 3 := by omega
  · refine lv_tableIn (off := 27) (tgt := 28) hC.1 hC.2.1 dX1_differencesOf_1 (by decide) (by decide) (by decide) (by decide) ?_
    refine g_aload_n hC hl dX1_differencesOf_28 rfl rfl ?_
    refine g_get (ci := 1) (k := 7) hC hO rfl inX1 (by decide) q_fl_RX1_27 (nn_rb hk) (sh_rec _ _ _ _ _) rfl dX1_differencesOf_29 ?_
    exact g_aret hC hO dX1_differencesOf_32 (⟨rfl, rfl⟩)
  · refine lv_tableIn (off := 32) (tgt := 33) hC.1 hC.2.1 dX1_differencesOf_1 (by decide) (by decide) (by decide) (by decide) ?_
    refine g_aload_n hC hl dX1_differencesOf_33 rfl rfl ?_
    refine g_get (ci := 1) (k := 8) hC hO rfl inX1 (by decide) q_fl_RX1_30 (nn_rb hk) (sh_rec _ _ _ _ _) rfl dX1_differencesOf_34 ?_
    exact g_aret hC hO dX1_differencesOf_37 (⟨rfl, rfl⟩)
  · refine lv_tableIn (off := 37) (tgt := 38) hC.1 hC.2.1 dX1_differencesOf_1 (by decide) (by decide) (by decide) (by decide) ?_
    refine g_aload_n hC hl dX1_differencesOf_38 rfl rfl ?_
    refine g_get (ci := 1) (k := 9) hC hO rfl inX1 (by decide) q_fl_RX1_33 (nn_rb hk) (sh_rec _ _ _ _ _) rfl dX1_differencesOf_39 ?_
    exact g_aret hC hO dX1_differencesOf_42 (⟨rfl, rfl⟩)
  · refine lv_tableOut (tgt := 43) hC.1 hC.2.1 dX1_differencesOf_1 (by decide) (by decide) ?_
    refine g_aload_n hC hl dX1_differencesOf_43 rfl rfl ?_
    refine g_get (ci := 1) (k := 10) hC hO rfl inX1 (by decide) q_fl_RX1_36 (nn_rb hk) (sh_rec _ _ _ _ _) rfl dX1_differencesOf_44 ?_
    exact g_aret hC hO dX1_differencesOf_47 (⟨rfl, rfl⟩)

set_option maxHeartbeats 4000000 in
set_option maxRecDepth 100000 in
/-- isSeal -/
theorem c_X3_isSeal (l : Launch) (κ : KK) (σ : ST) (p0 : Int64) : Met l yX3_isSeal (wA yX3_isSeal cX3_isSeal 2 (some .boolean)) ({ frames := 0, cells := 0, slots := 0, locals := 0 }) (va_Pc [.long p0] (WX κ σ)) (va_Qi (fun r σ' => σ = σ' ∧ r = bI (sealB p0)) (WX κ) (FA κ)) 0 0 (FA κ) := by
  refine g_met 0 (by decide) rfl (Nat.le_of_ble_eq_true rfl) ?_
  intro p e s m args below meth c hC F th hO ls hl
  have hl : LL ls 2 [some _, none] := hl
  refine g_lload_n hC hl dX3_isSeal_0 rfl rfl ?_
  refine lv_lconst (v := 1) hC.1 hC.2.1 dX3_isSeal_1 (by decide) ?_
  refine W.lcmp hC.1 hC.2.1 dX3_isSeal_2 ?_
  refine lv_if_lt (tgt := 18) hC.1 hC.2.1 dX3_isSeal_3 (by decide) (fun c_1 => ?_) (fun c_1 => ?_)
  · skip
    rw [lg_cmp_lt] at c_1
    refine lv_iconst (v := 0) hC.1 hC.2.1 dX3_isSeal_18 (by decide) ?_
    exact g_zret hC hO dX3_isSeal_19 (by decide) (⟨rfl, by first | exact bI_t (by simp only [sealB, Bool.and_eq_true, decide_eq_true_eq]; exact ⟨Int64.not_lt.mp c_1, Int64.not_lt.mp c_2⟩) | exact bI_f (by simp only [sealB, Bool.and_eq_false_iff, decide_eq_false_iff_not]; first | exact Or.inl (Int64.not_le.mpr c_1) | exact Or.inr (Int64.not_le.mpr c_2))⟩)
  · skip
    rw [lg_cmp_lt] at c_1
    refine g_lload_n hC hl dX3_isSeal_6 rfl rfl ?_
    refine lv_ldc2 hC.1 hC.2.1 hC.2.2.2.1 (hC.2.2.2.2.1 _ q_kl_RX3_140) dX3_isSeal_7 ?_
    refine W.lcmp hC.1 hC.2.1 dX3_isSeal_10 ?_
    refine lv_if_gt (tgt := 18) hC.1 hC.2.1 dX3_isSeal_11 (by decide) (fun c_2 => ?_) (fun c_2 => ?_)
    · skip
      rw [lg_cmp_gt] at c_2
      refine lv_iconst (v := 0) hC.1 hC.2.1 dX3_isSeal_18 (by decide) ?_
      exact g_zret hC hO dX3_isSeal_19 (by decide) (⟨rfl, by first | exact bI_t (by simp only [sealB, Bool.and_eq_true, decide_eq_true_eq]; exact ⟨Int64.not_lt.mp c_1, Int64.not_lt.mp c_2⟩) | exact bI_f (by simp only [sealB, Bool.and_eq_false_iff, decide_eq_false_iff_not]; first | exact Or.inl (Int64.not_le.mpr c_1) | exact Or.inr (Int64.not_le.mpr c_2))⟩)
    · skip
      rw [lg_cmp_gt] at c_2
      refine lv_iconst (v := 1) hC.1 hC.2.1 dX3_isSeal_14 (by decide) ?_
      refine lv_goto (tgt := 19) hC.1 hC.2.1 dX3_isSeal_15 (by decide) ?_
      exact g_zret hC hO dX3_isSeal_19 (by decide) (⟨rfl, by first | exact bI_t (by simp only [sealB, Bool.and_eq_true, decide_eq_true_eq]; exact ⟨Int64.not_lt.mp c_1, Int64.not_lt.mp c_2⟩) | exact bI_f (by simp only [sealB, Bool.and_eq_false_iff, decide_eq_false_iff_not]; first | exact Or.inl (Int64.not_le.mpr c_1) | exact Or.inr (Int64.not_le.mpr c_2))⟩)

set_option maxHeartbeats 4000000 in
set_option maxRecDepth 100000 in
/-- isPerson -/
theorem c_X3_isPerson (l : Launch) (κ : KK) (σ : ST) (p0 : Int32) : Met l yX3_isPerson (wA yX3_isPerson cX3_isPerson 1 (some .boolean)) ({ frames := 0, cells := 0, slots := 0, locals := 0 }) (va_Pc [.int p0] (WX κ σ)) (va_Qi (fun r σ' => σ = σ' ∧ r = bI (personB p0)) (WX κ) (FA κ)) 0 0 (FA κ) := by
  refine g_met 0 (by decide) rfl (Nat.le_of_ble_eq_true rfl) ?_
  intro p e s m args below meth c hC F th hO ls hl
  have hl : LL ls 1 [some _] := hl
  refine g_iload_n hC hl dX3_isPerson_0 rfl rfl ?_
  refine lv_if_lt (tgt := 14) hC.1 hC.2.1 dX3_isPerson_1 (by decide) (fun c_1 => ?_) (fun c_1 => ?_)
  · skip
    refine lv_iconst (v := 0) hC.1 hC.2.1 dX3_isPerson_14 (by decide) ?_
    exact g_zret hC hO dX3_isPerson_15 (by decide) (⟨rfl, by first | exact bI_t (by simp only [personB, Bool.and_eq_true, decide_eq_true_eq]; exact ⟨Int32.not_lt.mp c_1, Int32.not_lt.mp c_2⟩) | exact bI_f (by simp only [personB, Bool.and_eq_false_iff, decide_eq_false_iff_not]; first | exact Or.inl (Int32.not_le.mpr c_1) | exact Or.inr (Int32.not_le.mpr c_2))⟩)
  · skip
    refine g_iload_n hC hl dX3_isPerson_4 rfl rfl ?_
    refine lv_bipush (v := 49) hC.1 hC.2.1 dX3_isPerson_5 (by decide) ?_
    refine lv_icmp_gt (tgt := 14) hC.1 hC.2.1 dX3_isPerson_7 (by decide) (fun c_2 => ?_) (fun c_2 => ?_)
    · skip
      refine lv_iconst (v := 0) hC.1 hC.2.1 dX3_isPerson_14 (by decide) ?_
      exact g_zret hC hO dX3_isPerson_15 (by decide) (⟨rfl, by first | exact bI_t (by simp only [personB, Bool.and_eq_true, decide_eq_true_eq]; exact ⟨Int32.not_lt.mp c_1, Int32.not_lt.mp c_2⟩) | exact bI_f (by simp only [personB, Bool.and_eq_false_iff, decide_eq_false_iff_not]; first | exact Or.inl (Int32.not_le.mpr c_1) | exact Or.inr (Int32.not_le.mpr c_2))⟩)
    · skip
      refine lv_iconst (v := 1) hC.1 hC.2.1 dX3_isPerson_10 (by decide) ?_
      refine lv_goto (tgt := 15) hC.1 hC.2.1 dX3_isPerson_11 (by decide) ?_
      exact g_zret hC hO dX3_isPerson_15 (by decide) (⟨rfl, by first | exact bI_t (by simp only [personB, Bool.and_eq_true, decide_eq_true_eq]; exact ⟨Int32.not_lt.mp c_1, Int32.not_lt.mp c_2⟩) | exact bI_f (by simp only [personB, Bool.and_eq_false_iff, decide_eq_false_iff_not]; first | exact Or.inl (Int32.not_le.mpr c_1) | exact Or.inr (Int32.not_le.mpr c_2))⟩)

set_option maxHeartbeats 4000000 in
set_option maxRecDepth 100000 in
/-- isItem -/
theorem c_X3_isItem (l : Launch) (κ : KK) (σ : ST) (p0 : Int32) : Met l yX3_isItem (wA yX3_isItem cX3_isItem 1 (some .boolean)) ({ frames := 0, cells := 0, slots := 0, locals := 0 }) (va_Pc [.int p0] (WX κ σ)) (va_Qi (fun r σ' => σ = σ' ∧ r = bI (itemB p0)) (WX κ) (FA κ)) 0 0 (FA κ) := by
  refine g_met 0 (by decide) rfl (Nat.le_of_ble_eq_true rfl) ?_
  intro p e s m args below meth c hC F th hO ls hl
  have hl : LL ls 1 [some _] := hl
  refine g_iload_n hC hl dX3_isItem_0 rfl rfl ?_
  refine lv_iconst (v := 1) hC.1 hC.2.1 dX3_isItem_1 (by decide) ?_
  refine lv_icmp_lt (tgt := 16) hC.1 hC.2.1 dX3_isItem_2 (by decide) (fun c_1 => ?_) (fun c_1 => ?_)
  · skip
    refine lv_iconst (v := 0) hC.1 hC.2.1 dX3_isItem_16 (by decide) ?_
    exact g_zret hC hO dX3_isItem_17 (by decide) (⟨rfl, by first | exact bI_t (by simp only [itemB, Bool.and_eq_true, decide_eq_true_eq]; exact ⟨Int32.not_lt.mp c_1, Int32.not_lt.mp c_2⟩) | exact bI_f (by simp only [itemB, Bool.and_eq_false_iff, decide_eq_false_iff_not]; first | exact Or.inl (Int32.not_le.mpr c_1) | exact Or.inr (Int32.not_le.mpr c_2))⟩)
  · skip
    refine g_iload_n hC hl dX3_isItem_5 rfl rfl ?_
    refine lv_sipush (v := 999) hC.1 hC.2.1 dX3_isItem_6 (by decide) ?_
    refine lv_icmp_gt (tgt := 16) hC.1 hC.2.1 dX3_isItem_9 (by decide) (fun c_2 => ?_) (fun c_2 => ?_)
    · skip
      refine lv_iconst (v := 0) hC.1 hC.2.1 dX3_isItem_16 (by decide) ?_
      exact g_zret hC hO dX3_isItem_17 (by decide) (⟨rfl, by first | exact bI_t (by simp only [itemB, Bool.and_eq_true, decide_eq_true_eq]; exact ⟨Int32.not_lt.mp c_1, Int32.not_lt.mp c_2⟩) | exact bI_f (by simp only [itemB, Bool.and_eq_false_iff, decide_eq_false_iff_not]; first | exact Or.inl (Int32.not_le.mpr c_1) | exact Or.inr (Int32.not_le.mpr c_2))⟩)
    · skip
      refine lv_iconst (v := 1) hC.1 hC.2.1 dX3_isItem_12 (by decide) ?_
      refine lv_goto (tgt := 17) hC.1 hC.2.1 dX3_isItem_13 (by decide) ?_
      exact g_zret hC hO dX3_isItem_17 (by decide) (⟨rfl, by first | exact bI_t (by simp only [itemB, Bool.and_eq_true, decide_eq_true_eq]; exact ⟨Int32.not_lt.mp c_1, Int32.not_lt.mp c_2⟩) | exact bI_f (by simp only [itemB, Bool.and_eq_false_iff, decide_eq_false_iff_not]; first | exact Or.inl (Int32.not_le.mpr c_1) | exact Or.inr (Int32.not_le.mpr c_2))⟩)

set_option maxHeartbeats 4000000 in
set_option maxRecDepth 100000 in
/-- receptacleOf -/
theorem c_X3_receptacleOf (l : Launch) (κ : KK) (σ : ST) (p0 : Int32) : Met l yX3_receptacleOf (wA yX3_receptacleOf cX3_receptacleOf 3 (some (.object "BagRows$Receptacle"))) ({ frames := 0, cells := 0, slots := 0, locals := 0 }) (va_Pc [.ref (kad κ 0), .int p0] (WX κ σ)) (va_Qq (fun r σ' => σ = σ' ∧ ((r = none ∧ recOf σ p0 = none) ∨ ∃ k, recOf σ p0 = some k ∧ r = some (kad κ (rb k)))) (WX κ) (FA κ)) 0 0 (FA κ) := by
  refine g_met 1 (by decide) rfl (Nat.le_of_ble_eq_true rfl) ?_
  intro p e s m args below meth c hC F th hO ls hl
  have hl : LL ls 3 [some _, some _, none] := hl
  have h60 := hO.1.1
  refine g_iload_n hC hl dX3_receptacleOf_0 rfl rfl ?_
  refine lv_sipush (v := 1000) hC.1 hC.2.1 dX3_receptacleOf_1 (by decide) ?_
  refine lv_icmp_gt (tgt := 9) hC.1 hC.2.1 dX3_receptacleOf_4 (by decide) (fun c_1 => ?_) (fun c_1 => ?_)
  · skip
    obtain ⟨j, hj, rfl⟩ := gt1000 c_1
    have e1 : nI (1001 + j) - 1000 - 1 = nI j := by
      rw [show (1000 : Int32) = nI 1000 from rfl, show (1 : Int32) = nI 1 from rfl, pk_sub (by omega), pk_sub (by omega), show 1001 + j - 1000 - 1 = j by omega]
    refine g_iload_n hC hl dX3_receptacleOf_9 rfl rfl ?_
    refine lv_sipush (v := 1000) hC.1 hC.2.1 dX3_receptacleOf_10 (by decide) ?_
    refine lv_isub hC.1 hC.2.1 dX3_receptacleOf_13 ?_
    refine lv_iconst (v := 1) hC.1 hC.2.1 dX3_receptacleOf_14 (by decide) ?_
    refine lv_isub hC.1 hC.2.1 dX3_receptacleOf_15 ?_
    rw [e1]
    refine g_istore_n hC hl dX3_receptacleOf_16 rfl (Nat.le_of_ble_eq_true rfl) rfl (fun ls hl => ?_)
    have hl : LL ls 3 [some _, some _, some _] := hl
    refine g_iload_n hC hl dX3_receptacleOf_17 rfl rfl ?_
    refine g_aload_n hC hl dX3_receptacleOf_18 rfl rfl ?_
    refine g_get (ci := 3) (k := 0) hC hO rfl inX3 (by decide) q_fl_RX3_11 (nn_lt (Nat.le_of_ble_eq_true rfl)) rfl rfl dX3_receptacleOf_19 ?_
    refine g_alenR (v := nI 60) hC hO (nn_lt (Nat.le_of_ble_eq_true rfl)) rfl rfl dX3_receptacleOf_22 ?_
    refine lv_icmp_ge (tgt := 35) hC.1 hC.2.1 dX3_receptacleOf_23 (by decide) (fun c_2 => ?_) (fun c_2 => ?_)
    · skip
      have c9 : nI 60 ≤ nI j := c_2
      rw [nI_leI (by omega) (by omega)] at c9
      refine lv_null hC.1 hC.2.1 dX3_receptacleOf_35 ?_
      exact g_aretN hC hO dX3_receptacleOf_36 (⟨rfl, by
          rw [recOf_nI hj]
          by_cases h : j < σ.1
          · first
              | exact absurd h (by omega)
              | exact Or.inr ⟨j, if_pos h, by rw [nI_clamp (by omega), if_pos h]⟩
          · first
              | exact Or.inl ⟨rfl, if_neg h⟩
              | exact Or.inl ⟨by rw [nI_clamp (by omega), if_neg h], if_neg h⟩⟩)
    · skip
      have c9 : ¬ nI 60 ≤ nI j := c_2
      rw [nI_leI (by omega) (by omega)] at c9
      refine g_aload_n hC hl dX3_receptacleOf_26 rfl rfl ?_
      refine g_get (ci := 3) (k := 0) hC hO rfl inX3 (by decide) q_fl_RX3_11 (nn_lt (Nat.le_of_ble_eq_true rfl)) rfl rfl dX3_receptacleOf_27 ?_
      refine g_iload_n hC hl dX3_receptacleOf_30 rfl rfl ?_
      refine g_aldq hC hO (nn_lt (Nat.le_of_ble_eq_true rfl)) rfl (vp_in_nI (by omega) (by omega)) dX3_receptacleOf_31 ?_
      refine lv_goto (tgt := 36) hC.1 hC.2.1 dX3_receptacleOf_32 (by decide) ?_
      exact g_aretq hC hO dX3_receptacleOf_36 (⟨rfl, by
          rw [recOf_nI hj]
          by_cases h : j < σ.1
          · first
              | exact absurd h (by omega)
              | exact Or.inr ⟨j, if_pos h, by rw [nI_clamp (by omega), if_pos h]⟩
          · first
              | exact Or.inl ⟨rfl, if_neg h⟩
              | exact Or.inl ⟨by rw [nI_clamp (by omega), if_neg h], if_neg h⟩⟩)
  · skip
    refine lv_null hC.1 hC.2.1 dX3_receptacleOf_7 ?_
    exact g_aretN hC hO dX3_receptacleOf_8 (⟨rfl, Or.inl ⟨rfl, recOf_le c_1⟩⟩)

set_option maxHeartbeats 4000000 in
set_option maxRecDepth 100000 in
/-- isThing -/
theorem c_X3_isThing (l : Launch) (κ : KK) (σ : ST) (p0 : Int32) : Met l yX3_isThing (wA yX3_isThing cX3_isThing 2 (some .boolean)) ({ frames := 1, cells := 0, slots := 0, locals := 22 }) (va_Pc [.ref (kad κ 0), .int p0] (WX κ σ)) (va_Qi (fun r σ' => σ = σ' ∧ r = bI (thingB σ p0)) (WX κ) (FA κ)) 0 0 (FA κ) := by
  refine g_met 0 (by decide) rfl (Nat.le_of_ble_eq_true rfl) ?_
  intro p e s m args below meth c hC F th hO ls hl
  have hl : LL ls 2 [some _, some _] := hl
  refine g_iload_n hC hl dX3_isThing_0 rfl rfl ?_
  refine g_cSi1 hC hO hl (c_X3_isItem l κ _ _) mi_X3_isItem q_ml_RX3_173 rfl rfl ⟨Nat.le_of_ble_eq_true rfl, Nat.le_of_ble_eq_true rfl⟩ (Nat.le_of_ble_eq_true rfl) ⟨Nat.zero_le _, Nat.zero_le _⟩ dX3_isThing_1 (fun r σ1 F th H locs hr hO => ?_)
  obtain ⟨rfl, rfl⟩ := hr
  refine lv_if_ne (tgt := 15) hC.1 hC.2.1 dX3_isThing_4 (by decide) (fun c_1 => ?_) (fun c_1 => ?_)
  · skip
    have c_1 := bI_nz c_1
    refine lv_iconst (v := 1) hC.1 hC.2.1 dX3_isThing_15 (by decide) ?_
    refine lv_goto (tgt := 20) hC.1 hC.2.1 dX3_isThing_16 (by decide) ?_
    exact g_zret hC hO dX3_isThing_20 (by decide) (⟨rfl, by first | exact bI_t (by simp [thingB, c_1]) | exact bI_f (by simp [thingB, c_1])⟩)
  · skip
    have c_1 := bI_z c_1
    refine g_aload_n hC hl dX3_isThing_7 rfl rfl ?_
    refine g_iload_n hC hl dX3_isThing_8 rfl rfl ?_
    refine g_cVq1 hC hO hl (ci := 3) rfl (nn_lt (Nat.le_of_ble_eq_true rfl)) rfl (c_X3_receptacleOf l κ _ _) mi_X3_receptacleOf q_ml_RX3_36 rfl rfl ⟨Nat.le_of_ble_eq_true rfl, Nat.le_of_ble_eq_true rfl⟩ (Nat.le_of_ble_eq_true rfl) ⟨Nat.zero_le _, Nat.zero_le _⟩ dX3_isThing_9 (fun r σ1 F th H locs hr hO => ?_)
    obtain ⟨rfl, hr⟩ := hr
    rcases hr with ⟨rfl, hq9⟩ | ⟨k, hq9, rfl⟩
    · skip
      refine lv_ifnullN (tgt := 19) hC.1 hC.2.1 dX3_isThing_12 (by decide) ?_
      refine lv_iconst (v := 0) hC.1 hC.2.1 dX3_isThing_19 (by decide) ?_
      exact g_zret hC hO dX3_isThing_20 (by decide) (⟨rfl, by first | exact bI_t (by simp [thingB, c_1, hq9]) | exact bI_f (by simp [thingB, c_1, hq9])⟩)
    · have hk := recOf_lt hq9
      refine lv_ifnull hC.1 hC.2.1 dX3_isThing_12 ?_
      refine lv_iconst (v := 1) hC.1 hC.2.1 dX3_isThing_15 (by decide) ?_
      refine lv_goto (tgt := 20) hC.1 hC.2.1 dX3_isThing_16 (by decide) ?_
      exact g_zret hC hO dX3_isThing_20 (by decide) (⟨rfl, by first | exact bI_t (by simp [thingB, c_1, hq9]) | exact bI_f (by simp [thingB, c_1, hq9])⟩)

set_option maxHeartbeats 4000000 in
set_option maxRecDepth 100000 in
/-- holderOf -/
theorem c_X3_holderOf (l : Launch) (κ : KK) (σ : ST) (p0 : Int32) : Met l yX3_holderOf (wA yX3_holderOf cX3_holderOf 2 (some .int)) ({ frames := 0, cells := 0, slots := 0, locals := 0 }) (va_Pc [.ref (kad κ 0), .int p0] (WX κ σ)) (va_Qi (fun r σ' => σ = σ' ∧ r = holdF σ p0) (WX κ) (FA κ)) 0 0 (FA κ) := by
  refine g_met 0 (by decide) rfl (Nat.le_of_ble_eq_true rfl) ?_
  intro p e s m args below meth c hC F th hO ls hl
  have hl : LL ls 2 [some _, some _] := hl
  refine g_iload_n hC hl dX3_holderOf_0 rfl rfl ?_
  refine lv_if_lt (tgt := 22) hC.1 hC.2.1 dX3_holderOf_1 (by decide) (fun c_1 => ?_) (fun c_1 => ?_)
  · skip
    refine lv_iconst (v := 0) hC.1 hC.2.1 dX3_holderOf_22 (by decide) ?_
    exact g_iret hC hO dX3_holderOf_23 (⟨rfl, by first | (unfold holdF; rw [if_neg c_1, if_neg c_2]) | (unfold holdF; rw [if_pos c_1]) | (unfold holdF; rw [if_neg c_1, if_pos c_2])⟩)
  · skip
    refine g_iload_n hC hl dX3_holderOf_4 rfl rfl ?_
    refine g_aload_n hC hl dX3_holderOf_5 rfl rfl ?_
    refine g_get (ci := 3) (k := 2) hC hO rfl inX3 (by decide) q_fl_RX3_15 (nn_lt (Nat.le_of_ble_eq_true rfl)) rfl rfl dX3_holderOf_6 ?_
    refine g_alenI (v := nI 1061) hC hO (nn_lt (Nat.le_of_ble_eq_true rfl)) rfl rfl dX3_holderOf_9 ?_
    refine lv_icmp_ge (tgt := 22) hC.1 hC.2.1 dX3_holderOf_10 (by decide) (fun c_2 => ?_) (fun c_2 => ?_)
    · skip
      refine lv_iconst (v := 0) hC.1 hC.2.1 dX3_holderOf_22 (by decide) ?_
      exact g_iret hC hO dX3_holderOf_23 (⟨rfl, by first | (unfold holdF; rw [if_neg c_1, if_neg c_2]) | (unfold holdF; rw [if_pos c_1]) | (unfold holdF; rw [if_neg c_1, if_pos c_2])⟩)
    · skip
      refine g_aload_n hC hl dX3_holderOf_13 rfl rfl ?_
      refine g_get (ci := 3) (k := 2) hC hO rfl inX3 (by decide) q_fl_RX3_15 (nn_lt (Nat.le_of_ble_eq_true rfl)) rfl rfl dX3_holderOf_14 ?_
      refine g_iload_n hC hl dX3_holderOf_17 rfl rfl ?_
      refine g_iald hC hO (nn_lt (Nat.le_of_ble_eq_true rfl)) rfl (vp_in2 (by assumption) (by assumption) (by decide)) dX3_holderOf_18 ?_
      refine lv_goto (tgt := 23) hC.1 hC.2.1 dX3_holderOf_19 (by decide) ?_
      exact g_iret hC hO dX3_holderOf_23 (⟨rfl, by first | (unfold holdF; rw [if_neg c_1, if_neg c_2]) | (unfold holdF; rw [if_pos c_1]) | (unfold holdF; rw [if_neg c_1, if_pos c_2])⟩)

set_option maxHeartbeats 4000000 in
set_option maxRecDepth 100000 in
/-- setHolder -/
theorem c_X3_setHolder (l : Launch) (κ : KK) (σ : ST) (p0 p1 : Int32) : Met l yX3_setHolder (wA yX3_setHolder cX3_setHolder 3 none) ({ frames := 0, cells := 0, slots := 0, locals := 0 }) (va_Pc [.ref (kad κ 0), .int p0, .int p1] (WX κ σ)) (va_Qv (fun σ' => σ' = setHoldF σ p0 p1) (WX κ) (FA κ)) 0 0 (FA κ) := by
  refine g_met 0 (by decide) rfl (Nat.le_of_ble_eq_true rfl) ?_
  intro p e s m args below meth c hC F th hO ls hl
  have hl : LL ls 3 [some _, some _, some _] := hl
  refine g_iload_n hC hl dX3_setHolder_0 rfl rfl ?_
  refine lv_if_lt (tgt := 20) hC.1 hC.2.1 dX3_setHolder_1 (by decide) (fun c_1 => ?_) (fun c_1 => ?_)
  · skip
    exact g_vret hC hO dX3_setHolder_20 (by first | (unfold setHoldF; rw [if_neg c_1, if_neg c_2]) | (unfold setHoldF; rw [if_pos c_1]) | (unfold setHoldF; rw [if_neg c_1, if_pos c_2]))
  · skip
    refine g_iload_n hC hl dX3_setHolder_4 rfl rfl ?_
    refine g_aload_n hC hl dX3_setHolder_5 rfl rfl ?_
    refine g_get (ci := 3) (k := 2) hC hO rfl inX3 (by decide) q_fl_RX3_15 (nn_lt (Nat.le_of_ble_eq_true rfl)) rfl rfl dX3_setHolder_6 ?_
    refine g_alenI (v := nI 1061) hC hO (nn_lt (Nat.le_of_ble_eq_true rfl)) rfl rfl dX3_setHolder_9 ?_
    refine lv_icmp_ge (tgt := 20) hC.1 hC.2.1 dX3_setHolder_10 (by decide) (fun c_2 => ?_) (fun c_2 => ?_)
    · skip
      exact g_vret hC hO dX3_setHolder_20 (by first | (unfold setHoldF; rw [if_neg c_1, if_neg c_2]) | (unfold setHoldF; rw [if_pos c_1]) | (unfold setHoldF; rw [if_neg c_1, if_pos c_2]))
    · skip
      refine g_aload_n hC hl dX3_setHolder_13 rfl rfl ?_
      refine g_get (ci := 3) (k := 2) hC hO rfl inX3 (by decide) q_fl_RX3_15 (nn_lt (Nat.le_of_ble_eq_true rfl)) rfl rfl dX3_setHolder_14 ?_
      refine g_iload_n hC hl dX3_setHolder_17 rfl rfl ?_
      refine g_iload_n hC hl dX3_setHolder_18 rfl rfl ?_
      refine g_iast hC hO (nn_lt (Nat.le_of_ble_eq_true rfl)) (fun _ _ => rfl) (vp_in2 (by assumption) (by assumption) (by decide)) dX3_setHolder_19 (fun H locs hO => ?_)
      exact g_vret hC hO dX3_setHolder_20 (by first | (unfold setHoldF; rw [if_neg c_1, if_neg c_2]) | (unfold setHoldF; rw [if_pos c_1]) | (unfold setHoldF; rw [if_neg c_1, if_pos c_2]))

set_option maxHeartbeats 4000000 in
set_option maxRecDepth 100000 in
/-- setOwnPlace -/
theorem c_X3_setOwnPlace (l : Launch) (κ : KK) (σ : ST) (p0 p1 : Int32) : Met l yX3_setOwnPlace (wA yX3_setOwnPlace cX3_setOwnPlace 3 none) ({ frames := 0, cells := 0, slots := 0, locals := 0 }) (va_Pc [.ref (kad κ 0), .int p0, .int p1] (WX κ σ)) (va_Qv (fun σ' => σ' = setOwnF σ p0 p1) (WX κ) (FA κ)) 0 0 (FA κ) := by
  refine g_met 0 (by decide) rfl (Nat.le_of_ble_eq_true rfl) ?_
  intro p e s m args below meth c hC F th hO ls hl
  have hl : LL ls 3 [some _, some _, some _] := hl
  refine g_iload_n hC hl dX3_setOwnPlace_0 rfl rfl ?_
  refine lv_if_lt (tgt := 20) hC.1 hC.2.1 dX3_setOwnPlace_1 (by decide) (fun c_1 => ?_) (fun c_1 => ?_)
  · skip
    exact g_vret hC hO dX3_setOwnPlace_20 (by first | (unfold setOwnF; rw [if_neg c_1, if_neg c_2]) | (unfold setOwnF; rw [if_pos c_1]) | (unfold setOwnF; rw [if_neg c_1, if_pos c_2]))
  · skip
    refine g_iload_n hC hl dX3_setOwnPlace_4 rfl rfl ?_
    refine g_aload_n hC hl dX3_setOwnPlace_5 rfl rfl ?_
    refine g_get (ci := 3) (k := 3) hC hO rfl inX3 (by decide) q_fl_RX3_19 (nn_lt (Nat.le_of_ble_eq_true rfl)) rfl rfl dX3_setOwnPlace_6 ?_
    refine g_alenI (v := nI 1061) hC hO (nn_lt (Nat.le_of_ble_eq_true rfl)) rfl rfl dX3_setOwnPlace_9 ?_
    refine lv_icmp_ge (tgt := 20) hC.1 hC.2.1 dX3_setOwnPlace_10 (by decide) (fun c_2 => ?_) (fun c_2 => ?_)
    · skip
      exact g_vret hC hO dX3_setOwnPlace_20 (by first | (unfold setOwnF; rw [if_neg c_1, if_neg c_2]) | (unfold setOwnF; rw [if_pos c_1]) | (unfold setOwnF; rw [if_neg c_1, if_pos c_2]))
    · skip
      refine g_aload_n hC hl dX3_setOwnPlace_13 rfl rfl ?_
      refine g_get (ci := 3) (k := 3) hC hO rfl inX3 (by decide) q_fl_RX3_19 (nn_lt (Nat.le_of_ble_eq_true rfl)) rfl rfl dX3_setOwnPlace_14 ?_
      refine g_iload_n hC hl dX3_setOwnPlace_17 rfl rfl ?_
      refine g_iload_n hC hl dX3_setOwnPlace_18 rfl rfl ?_
      refine g_iast hC hO (nn_lt (Nat.le_of_ble_eq_true rfl)) (fun _ _ => rfl) (vp_in2 (by assumption) (by assumption) (by decide)) dX3_setOwnPlace_19 (fun H locs hO => ?_)
      exact g_vret hC hO dX3_setOwnPlace_20 (by first | (unfold setOwnF; rw [if_neg c_1, if_neg c_2]) | (unfold setOwnF; rw [if_pos c_1]) | (unfold setOwnF; rw [if_neg c_1, if_pos c_2]))

set_option maxHeartbeats 4000000 in
set_option maxRecDepth 100000 in
/-- placeOf -/
theorem c_X3_placeOf (l : Launch) (κ : KK) (σ : ST) (p0 : Int32) : Met l yX3_placeOf (wA yX3_placeOf cX3_placeOf 4 (some .int)) ({ frames := 1, cells := 0, slots := 0, locals := 21 }) (va_Pc [.ref (kad κ 0), .int p0] (WX κ σ)) (va_Qi (fun r σ' => σ = σ' ∧ r = placeF σ p0) (WX κ) (FA κ)) 0 0 (FA κ) := by
  refine g_met 2 (by decide) rfl (Nat.le_of_ble_eq_true rfl) ?_
  intro p e s m args below meth c hC F th hO ls hl
  have hl : LL ls 4 [some _, some _, none, none] := hl
  have loop4 : ∀ (n f d : Nat) (o : Int32), f + 1 ≤ n → d + f = 60 → outF σ 60 p0 = outF σ f o → ∀ (F : Nat → Nat → Int32) (th : Int32) (H : Heap) (locs : List Loc), OS κ s.heap σ F th H locs → ∀ ls : Array Slot, LL ls 4 [some (.ref (kad κ 0)), some (.int p0), some (.int o), some (.int (nI d))] → W p l e ({ frames := 1, cells := 0, slots := 0, locals := 21 } : Room) s m args below meth c H locs 0 0 (MQ below (va_Qi (fun r σ' => σ = σ' ∧ r = placeF σ p0) (WX κ) (FA κ)) args s 0 0 (FA κ)) (F0 m 4 ls []) := by
    intro n
    induction n with
    | zero => intro f d o h1; exact absurd h1 (by omega)
    | succ n ih =>
      intro f d o h1 h2 h3 F th H locs hO ls hl
      refine g_iload_n hC hl dX3_placeOf_4 rfl rfl ?_
      refine lv_bipush (v := 60) hC.1 hC.2.1 dX3_placeOf_5 (by decide) ?_
      refine lv_icmp_ge (tgt := 30) hC.1 hC.2.1 dX3_placeOf_7 (by decide) (fun c_1 => ?_) (fun c_1 => ?_)
      · skip
        rw [show (60 : Int32) = nI 60 from rfl, nI_leI (by omega) (by omega)] at c_1
        have hend : outF σ 60 p0 = o := by rw [h3, show f = 0 by omega]; rfl
        refine g_iload_n hC hl dX3_placeOf_30 rfl rfl ?_
        refine lv_if_lt (tgt := 52) hC.1 hC.2.1 dX3_placeOf_31 (by decide) (fun c_2 => ?_) (fun c_2 => ?_)
        · skip
          have h8 : ownF σ o = 0 := by unfold ownF; rw [if_pos c_2]
          refine lv_iconst (v := 0) hC.1 hC.2.1 dX3_placeOf_52 (by decide) ?_
          exact g_iret hC hO dX3_placeOf_53 (⟨rfl, by rw [placeF, hend, h8]⟩)
        · skip
          have h7 := c_2
          refine g_iload_n hC hl dX3_placeOf_34 rfl rfl ?_
          refine g_aload_n hC hl dX3_placeOf_35 rfl rfl ?_
          refine g_get (ci := 3) (k := 3) hC hO rfl inX3 (by decide) q_fl_RX3_19 (nn_lt (Nat.le_of_ble_eq_true rfl)) rfl rfl dX3_placeOf_36 ?_
          refine g_alenI (v := nI 1061) hC hO (nn_lt (Nat.le_of_ble_eq_true rfl)) rfl rfl dX3_placeOf_39 ?_
          refine lv_icmp_ge (tgt := 52) hC.1 hC.2.1 dX3_placeOf_40 (by decide) (fun c_3 => ?_) (fun c_3 => ?_)
          · skip
            have h8 : ownF σ o = 0 := by unfold ownF; rw [if_neg h7, if_pos c_3]
            refine lv_iconst (v := 0) hC.1 hC.2.1 dX3_placeOf_52 (by decide) ?_
            exact g_iret hC hO dX3_placeOf_53 (⟨rfl, by rw [placeF, hend, h8]⟩)
          · skip
            have h8 : ownF σ o = sI σ 3 o.toNatClampNeg := by unfold ownF; rw [if_neg h7, if_neg c_3]
            refine g_aload_n hC hl dX3_placeOf_43 rfl rfl ?_
            refine g_get (ci := 3) (k := 3) hC hO rfl inX3 (by decide) q_fl_RX3_19 (nn_lt (Nat.le_of_ble_eq_true rfl)) rfl rfl dX3_placeOf_44 ?_
            refine g_iload_n hC hl dX3_placeOf_47 rfl rfl ?_
            refine g_iald hC hO (nn_lt (Nat.le_of_ble_eq_true rfl)) rfl (vp_in2 (by assumption) (by assumption) (by decide)) dX3_placeOf_48 ?_
            refine lv_goto (tgt := 53) hC.1 hC.2.1 dX3_placeOf_49 (by decide) ?_
            exact g_iret hC hO dX3_placeOf_53 (⟨rfl, by rw [placeF, hend, h8]⟩)
      · skip
        rw [show (60 : Int32) = nI 60 from rfl, nI_leI (by omega) (by omega)] at c_1
        refine g_aload_n hC hl dX3_placeOf_10 rfl rfl ?_
        refine g_iload_n hC hl dX3_placeOf_11 rfl rfl ?_
        refine g_cVi1 hC hO hl (ci := 3) rfl (nn_lt (Nat.le_of_ble_eq_true rfl)) rfl (c_X3_holderOf l κ _ _) mi_X3_holderOf q_ml_RX3_47 rfl rfl ⟨Nat.le_of_ble_eq_true rfl, Nat.le_of_ble_eq_true rfl⟩ (Nat.le_of_ble_eq_true rfl) ⟨Nat.zero_le _, Nat.zero_le _⟩ dX3_placeOf_12 (fun r σ1 F th H locs hr hO => ?_)
        obtain ⟨rfl, rfl⟩ := hr
        refine lv_if_eq (tgt := 30) hC.1 hC.2.1 dX3_placeOf_15 (by decide) (fun c_4 => ?_) (fun c_4 => ?_)
        · skip
          have hend : outF σ 60 p0 = o := by rw [h3, outF_stop c_4]
          refine g_iload_n hC hl dX3_placeOf_30 rfl rfl ?_
          refine lv_if_lt (tgt := 52) hC.1 hC.2.1 dX3_placeOf_31 (by decide) (fun c_5 => ?_) (fun c_5 => ?_)
          · skip
            have h8 : ownF σ o = 0 := by unfold ownF; rw [if_pos c_5]
            refine lv_iconst (v := 0) hC.1 hC.2.1 dX3_placeOf_52 (by decide) ?_
            exact g_iret hC hO dX3_placeOf_53 (⟨rfl, by rw [placeF, hend, h8]⟩)
          · skip
            have h7 := c_5
            refine g_iload_n hC hl dX3_placeOf_34 rfl rfl ?_
            refine g_aload_n hC hl dX3_placeOf_35 rfl rfl ?_
            refine g_get (ci := 3) (k := 3) hC hO rfl inX3 (by decide) q_fl_RX3_19 (nn_lt (Nat.le_of_ble_eq_true rfl)) rfl rfl dX3_placeOf_36 ?_
            refine g_alenI (v := nI 1061) hC hO (nn_lt (Nat.le_of_ble_eq_true rfl)) rfl rfl dX3_placeOf_39 ?_
            refine lv_icmp_ge (tgt := 52) hC.1 hC.2.1 dX3_placeOf_40 (by decide) (fun c_6 => ?_) (fun c_6 => ?_)
            · skip
              have h8 : ownF σ o = 0 := by unfold ownF; rw [if_neg h7, if_pos c_6]
              refine lv_iconst (v := 0) hC.1 hC.2.1 dX3_placeOf_52 (by decide) ?_
              exact g_iret hC hO dX3_placeOf_53 (⟨rfl, by rw [placeF, hend, h8]⟩)
            · skip
              have h8 : ownF σ o = sI σ 3 o.toNatClampNeg := by unfold ownF; rw [if_neg h7, if_neg c_6]
              refine g_aload_n hC hl dX3_placeOf_43 rfl rfl ?_
              refine g_get (ci := 3) (k := 3) hC hO rfl inX3 (by decide) q_fl_RX3_19 (nn_lt (Nat.le_of_ble_eq_true rfl)) rfl rfl dX3_placeOf_44 ?_
              refine g_iload_n hC hl dX3_placeOf_47 rfl rfl ?_
              refine g_iald hC hO (nn_lt (Nat.le_of_ble_eq_true rfl)) rfl (vp_in2 (by assumption) (by assumption) (by decide)) dX3_placeOf_48 ?_
              refine lv_goto (tgt := 53) hC.1 hC.2.1 dX3_placeOf_49 (by decide) ?_
              exact g_iret hC hO dX3_placeOf_53 (⟨rfl, by rw [placeF, hend, h8]⟩)
        · skip
          obtain ⟨f, rfl⟩ : ∃ f2, f = f2 + 1 := ⟨f - 1, by omega⟩
          rw [show outF σ (f + 1) o = (if holdF σ o = 0 then o else outF σ f (holdF σ o)) from rfl, if_neg c_4] at h3
          refine g_aload_n hC hl dX3_placeOf_18 rfl rfl ?_
          refine g_iload_n hC hl dX3_placeOf_19 rfl rfl ?_
          refine g_cVi1 hC hO hl (ci := 3) rfl (nn_lt (Nat.le_of_ble_eq_true rfl)) rfl (c_X3_holderOf l κ _ _) mi_X3_holderOf q_ml_RX3_47 rfl rfl ⟨Nat.le_of_ble_eq_true rfl, Nat.le_of_ble_eq_true rfl⟩ (Nat.le_of_ble_eq_true rfl) ⟨Nat.zero_le _, Nat.zero_le _⟩ dX3_placeOf_20 (fun r σ1 F th H locs hr hO => ?_)
          obtain ⟨rfl, rfl⟩ := hr
          refine g_istore_n hC hl dX3_placeOf_23 rfl (Nat.le_of_ble_eq_true rfl) rfl (fun ls hl => ?_)
          have hl : LL ls 4 [some _, some _, some _, some _] := hl
          refine g_iinc (v := nI (d + 1)) hC hl dX3_placeOf_24 rfl (nI_i1 d) (Nat.le_of_ble_eq_true rfl) rfl (fun ls hl => ?_)
          have hl : LL ls 4 [some _, some _, some _, some _] := hl
          refine lv_goto (tgt := 4) hC.1 hC.2.1 dX3_placeOf_27 (by decide) ?_
          exact ih f (d + 1) _ (by omega) (by omega) h3 _ _ _ _ hO ls hl
  refine g_iload_n hC hl dX3_placeOf_0 rfl rfl ?_
  refine g_istore_n hC hl dX3_placeOf_1 rfl (Nat.le_of_ble_eq_true rfl) rfl (fun ls hl => ?_)
  have hl : LL ls 4 [some _, some _, some _, none] := hl
  refine lv_iconst (v := 0) hC.1 hC.2.1 dX3_placeOf_2 (by decide) ?_
  refine g_istore_n hC hl dX3_placeOf_3 rfl (Nat.le_of_ble_eq_true rfl) rfl (fun ls hl => ?_)
  have hl : LL ls 4 [some _, some _, some _, some _] := hl
  exact loop4 61 60 0 p0 (by omega) (by omega) rfl _ _ _ _ hO ls hl

set_option maxHeartbeats 4000000 in
set_option maxRecDepth 100000 in
/-- isShut -/
theorem c_X3_isShut (l : Launch) (κ : KK) (σ : ST) (p0 : Int32) : Met l yX3_isShut (wA yX3_isShut cX3_isShut 5 (some .boolean)) ({ frames := 1, cells := 0, slots := 0, locals := 22 }) (va_Pc [.ref (kad κ 0), .int p0] (WX κ σ)) (va_Qi (fun r σ' => σ = σ' ∧ r = bI (shutB σ p0)) (WX κ) (FA κ)) 0 0 (FA κ) := by
  refine g_met 3 (by decide) rfl (Nat.le_of_ble_eq_true rfl) ?_
  intro p e s m args below meth c hC F th hO ls hl
  have hl : LL ls 5 [some _, some _, none, none, none] := hl
  have loop4 : ∀ (n f d : Nat) (a : Int32), f + 1 ≤ n → d + f = 61 → shutF σ 61 p0 = shutF σ f a → ∀ (F : Nat → Nat → Int32) (th : Int32) (H : Heap) (locs : List Loc), OS κ s.heap σ F th H locs → ∀ ls : Array Slot, LL ls 5 [some (.ref (kad κ 0)), some (.int p0), some (.int a), some (.int (nI d)), none] → W p l e ({ frames := 1, cells := 0, slots := 0, locals := 22 } : Room) s m args below meth c H locs 0 0 (MQ below (va_Qi (fun r σ' => σ = σ' ∧ r = bI (shutB σ p0)) (WX κ) (FA κ)) args s 0 0 (FA κ)) (F0 m 4 ls []) := by
    intro n
    induction n with
    | zero => intro f d a h1; exact absurd h1 (by omega)
    | succ n ih =>
      intro f d a h1 h2 h3 F th H locs hO ls hl
      refine g_iload_n hC hl dX3_isShut_4 rfl rfl ?_
      refine lv_bipush (v := 60) hC.1 hC.2.1 dX3_isShut_5 (by decide) ?_
      refine lv_icmp_gt (tgt := 48) hC.1 hC.2.1 dX3_isShut_7 (by decide) (fun c_1 => ?_) (fun c_1 => ?_)
      · skip
        rw [show (60 : Int32) = nI 60 from rfl, nI_ltI (by omega) (by omega)] at c_1
        have h9 : shutF σ 61 p0 = false := by rw [h3, show f = 0 by omega]; rfl
        refine lv_iconst (v := 0) hC.1 hC.2.1 dX3_isShut_48 (by decide) ?_
        exact g_zret hC hO dX3_isShut_49 (by decide) (⟨rfl, bI_f h9⟩)
      · skip
        rw [show (60 : Int32) = nI 60 from rfl, nI_ltI (by omega) (by omega)] at c_1
        obtain ⟨f, rfl⟩ : ∃ f2, f = f2 + 1 := ⟨f - 1, by omega⟩
        rw [show shutF σ (f + 1) a = (if a = 0 then false else if closedB σ a = true then true else shutF σ f (holdF σ a)) from rfl] at h3
        refine g_iload_n hC hl dX3_isShut_10 rfl rfl ?_
        refine lv_if_eq (tgt := 48) hC.1 hC.2.1 dX3_isShut_11 (by decide) (fun c_2 => ?_) (fun c_2 => ?_)
        · skip
          have h9 : shutF σ 61 p0 = false := by rw [h3, if_pos c_2]
          refine lv_iconst (v := 0) hC.1 hC.2.1 dX3_isShut_48 (by decide) ?_
          exact g_zret hC hO dX3_isShut_49 (by decide) (⟨rfl, bI_f h9⟩)
        · skip
          rw [if_neg c_2] at h3
          refine g_aload_n hC hl dX3_isShut_14 rfl rfl ?_
          refine g_iload_n hC hl dX3_isShut_15 rfl rfl ?_
          refine g_cVq1 hC hO hl (ci := 3) rfl (nn_lt (Nat.le_of_ble_eq_true rfl)) rfl (c_X3_receptacleOf l κ _ _) mi_X3_receptacleOf q_ml_RX3_36 rfl rfl ⟨Nat.le_of_ble_eq_true rfl, Nat.le_of_ble_eq_true rfl⟩ (Nat.le_of_ble_eq_true rfl) ⟨Nat.zero_le _, Nat.zero_le _⟩ dX3_isShut_16 (fun r σ1 F th H locs hr hO => ?_)
          obtain ⟨rfl, hr⟩ := hr
          rcases hr with ⟨rfl, hq16⟩ | ⟨k, hq16, rfl⟩
          · skip
            have hcl9 : closedB σ a = false := by unfold closedB; rw [hq16]
            refine g_astoreN hC hl dX3_isShut_19 (Nat.le_of_ble_eq_true rfl) rfl (fun ls hl => ?_)
            have hl : LL ls 5 [some _, some _, some _, some _, some _] := hl
            refine g_aloadN hC hl dX3_isShut_21 rfl ?_
            refine lv_ifnullN (tgt := 36) hC.1 hC.2.1 dX3_isShut_23 (by decide) ?_
            refine g_aload_n hC hl dX3_isShut_36 rfl rfl ?_
            refine g_iload_n hC hl dX3_isShut_37 rfl rfl ?_
            refine g_cVi1 hC hO hl (ci := 3) rfl (nn_lt (Nat.le_of_ble_eq_true rfl)) rfl (c_X3_holderOf l κ _ _) mi_X3_holderOf q_ml_RX3_47 rfl rfl ⟨Nat.le_of_ble_eq_true rfl, Nat.le_of_ble_eq_true rfl⟩ (Nat.le_of_ble_eq_true rfl) ⟨Nat.zero_le _, Nat.zero_le _⟩ dX3_isShut_38 (fun r σ1 F th H locs hr hO => ?_)
            obtain ⟨rfl, rfl⟩ := hr
            refine g_istore_n hC hl dX3_isShut_41 rfl (Nat.le_of_ble_eq_true rfl) rfl (fun ls hl => ?_)
            have hl : LL ls 5 [some _, some _, some _, some _, some _] := hl
            refine g_iinc (v := nI (d + 1)) hC hl dX3_isShut_42 rfl (nI_i1 d) (Nat.le_of_ble_eq_true rfl) rfl (fun ls hl => ?_)
            have hl : LL ls 5 [some _, some _, some _, some _, some _] := hl
            refine lv_goto (tgt := 4) hC.1 hC.2.1 dX3_isShut_45 (by decide) ?_
            have hl := LL.drop hl 4
            rw [if_neg (by rw [hcl9]; decide)] at h3
            exact ih f (d + 1) _ (by omega) (by omega) h3 _ _ _ _ hO ls hl
          · have hk := recOf_lt hq16
            refine g_astore hC hl dX3_isShut_19 (Nat.le_of_ble_eq_true rfl) rfl (fun ls hl => ?_)
            have hl : LL ls 5 [some _, some _, some _, some _, some _] := hl
            refine g_aload hC hl dX3_isShut_21 rfl ?_
            refine lv_ifnull hC.1 hC.2.1 dX3_isShut_23 ?_
            refine g_aload hC hl dX3_isShut_26 rfl ?_
            refine g_get (ci := 1) (k := 1) hC hO rfl inX1 (by decide) q_fl_RX3_93 (nn_rb hk) (sh_rec _ _ _ _ _) rfl dX3_isShut_28 ?_
            refine lv_if_eq (tgt := 36) hC.1 hC.2.1 dX3_isShut_31 (by decide) (fun c_3 => ?_) (fun c_3 => ?_)
            · skip
              have hcl9 : closedB σ a = false := by unfold closedB; rw [hq16]; simp [c_3]
              refine g_aload_n hC hl dX3_isShut_36 rfl rfl ?_
              refine g_iload_n hC hl dX3_isShut_37 rfl rfl ?_
              refine g_cVi1 hC hO hl (ci := 3) rfl (nn_lt (Nat.le_of_ble_eq_true rfl)) rfl (c_X3_holderOf l κ _ _) mi_X3_holderOf q_ml_RX3_47 rfl rfl ⟨Nat.le_of_ble_eq_true rfl, Nat.le_of_ble_eq_true rfl⟩ (Nat.le_of_ble_eq_true rfl) ⟨Nat.zero_le _, Nat.zero_le _⟩ dX3_isShut_38 (fun r σ1 F th H locs hr hO => ?_)
              obtain ⟨rfl, rfl⟩ := hr
              refine g_istore_n hC hl dX3_isShut_41 rfl (Nat.le_of_ble_eq_true rfl) rfl (fun ls hl => ?_)
              have hl : LL ls 5 [some _, some _, some _, some _, some _] := hl
              refine g_iinc (v := nI (d + 1)) hC hl dX3_isShut_42 rfl (nI_i1 d) (Nat.le_of_ble_eq_true rfl) rfl (fun ls hl => ?_)
              have hl : LL ls 5 [some _, some _, some _, some _, some _] := hl
              refine lv_goto (tgt := 4) hC.1 hC.2.1 dX3_isShut_45 (by decide) ?_
              have hl := LL.drop hl 4
              rw [if_neg (by rw [hcl9]; decide)] at h3
              exact ih f (d + 1) _ (by omega) (by omega) h3 _ _ _ _ hO ls hl
            · skip
              have h9 : shutF σ 61 p0 = true := by
                rw [h3, if_pos]
                unfold closedB
                rw [hq16]
                simp [c_3]
              refine lv_iconst (v := 1) hC.1 hC.2.1 dX3_isShut_34 (by decide) ?_
              exact g_zret hC hO dX3_isShut_35 (by decide) (⟨rfl, bI_t h9⟩)
  refine g_iload_n hC hl dX3_isShut_0 rfl rfl ?_
  refine g_istore_n hC hl dX3_isShut_1 rfl (Nat.le_of_ble_eq_true rfl) rfl (fun ls hl => ?_)
  have hl : LL ls 5 [some _, some _, some _, none, none] := hl
  refine lv_iconst (v := 0) hC.1 hC.2.1 dX3_isShut_2 (by decide) ?_
  refine g_istore_n hC hl dX3_isShut_3 rfl (Nat.le_of_ble_eq_true rfl) rfl (fun ls hl => ?_)
  have hl : LL ls 5 [some _, some _, some _, some _, none] := hl
  exact loop4 62 61 0 p0 (by omega) (by omega) rfl _ _ _ _ hO ls hl

set_option maxHeartbeats 4000000 in
set_option maxRecDepth 100000 in
/-- isWithin -/
theorem c_X3_isWithin (l : Launch) (κ : KK) (σ : ST) (p0 p1 : Int32) : Met l yX3_isWithin (wA yX3_isWithin cX3_isWithin 5 (some .boolean)) ({ frames := 1, cells := 0, slots := 0, locals := 21 }) (va_Pc [.ref (kad κ 0), .int p0, .int p1] (WX κ σ)) (va_Qi (fun r σ' => σ = σ' ∧ r = bI (withinB σ p0 p1)) (WX κ) (FA κ)) 0 0 (FA κ) := by
  refine g_met 2 (by decide) rfl (Nat.le_of_ble_eq_true rfl) ?_
  intro p e s m args below meth c hC F th hO ls hl
  have hl : LL ls 5 [some _, some _, some _, none, none] := hl
  have loop5 : ∀ (n f d : Nat) (a : Int32), f + 1 ≤ n → d + f = 61 → withF σ p1 61 p0 = withF σ p1 f a → ∀ (F : Nat → Nat → Int32) (th : Int32) (H : Heap) (locs : List Loc), OS κ s.heap σ F th H locs → ∀ ls : Array Slot, LL ls 5 [some (.ref (kad κ 0)), some (.int p0), some (.int p1), some (.int a), some (.int (nI d))] → W p l e ({ frames := 1, cells := 0, slots := 0, locals := 21 } : Room) s m args below meth c H locs 0 0 (MQ below (va_Qi (fun r σ' => σ = σ' ∧ r = bI (withinB σ p0 p1)) (WX κ) (FA κ)) args s 0 0 (FA κ)) (F0 m 5 ls []) := by
    intro n
    induction n with
    | zero => intro f d a h1; exact absurd h1 (by omega)
    | succ n ih =>
      intro f d a h1 h2 h3 F th H locs hO ls hl
      refine g_iload hC hl dX3_isWithin_5 rfl ?_
      refine lv_bipush (v := 60) hC.1 hC.2.1 dX3_isWithin_7 (by decide) ?_
      refine lv_icmp_gt (tgt := 35) hC.1 hC.2.1 dX3_isWithin_9 (by decide) (fun c_1 => ?_) (fun c_1 => ?_)
      · skip
        rw [show (60 : Int32) = nI 60 from rfl, nI_ltI (by omega) (by omega)] at c_1
        have h9 : withF σ p1 61 p0 = false := by rw [h3, show f = 0 by omega]; rfl
        refine lv_iconst (v := 0) hC.1 hC.2.1 dX3_isWithin_35 (by decide) ?_
        exact g_zret hC hO dX3_isWithin_36 (by decide) (⟨rfl, bI_f h9⟩)
      · skip
        rw [show (60 : Int32) = nI 60 from rfl, nI_ltI (by omega) (by omega)] at c_1
        obtain ⟨f, rfl⟩ : ∃ f2, f = f2 + 1 := ⟨f - 1, by omega⟩
        rw [show withF σ p1 (f + 1) a = (if a = 0 then false else if a = p1 then true else withF σ p1 f (holdF σ a)) from rfl] at h3
        refine g_iload_n hC hl dX3_isWithin_12 rfl rfl ?_
        refine lv_if_eq (tgt := 35) hC.1 hC.2.1 dX3_isWithin_13 (by decide) (fun c_2 => ?_) (fun c_2 => ?_)
        · skip
          have h9 : withF σ p1 61 p0 = false := by rw [h3, if_pos c_2]
          refine lv_iconst (v := 0) hC.1 hC.2.1 dX3_isWithin_35 (by decide) ?_
          exact g_zret hC hO dX3_isWithin_36 (by decide) (⟨rfl, bI_f h9⟩)
        · skip
          rw [if_neg c_2] at h3
          refine g_iload_n hC hl dX3_isWithin_16 rfl rfl ?_
          refine g_iload_n hC hl dX3_isWithin_17 rfl rfl ?_
          refine lv_icmp_ne (tgt := 23) hC.1 hC.2.1 dX3_isWithin_18 (by decide) (fun c_3 => ?_) (fun c_3 => ?_)
          · skip
            rw [if_neg c_3] at h3
            refine g_aload_n hC hl dX3_isWithin_23 rfl rfl ?_
            refine g_iload_n hC hl dX3_isWithin_24 rfl rfl ?_
            refine g_cVi1 hC hO hl (ci := 3) rfl (nn_lt (Nat.le_of_ble_eq_true rfl)) rfl (c_X3_holderOf l κ _ _) mi_X3_holderOf q_ml_RX3_47 rfl rfl ⟨Nat.le_of_ble_eq_true rfl, Nat.le_of_ble_eq_true rfl⟩ (Nat.le_of_ble_eq_true rfl) ⟨Nat.zero_le _, Nat.zero_le _⟩ dX3_isWithin_25 (fun r σ1 F th H locs hr hO => ?_)
            obtain ⟨rfl, rfl⟩ := hr
            refine g_istore_n hC hl dX3_isWithin_28 rfl (Nat.le_of_ble_eq_true rfl) rfl (fun ls hl => ?_)
            have hl : LL ls 5 [some _, some _, some _, some _, some _] := hl
            refine g_iinc (v := nI (d + 1)) hC hl dX3_isWithin_29 rfl (nI_i1 d) (Nat.le_of_ble_eq_true rfl) rfl (fun ls hl => ?_)
            have hl : LL ls 5 [some _, some _, some _, some _, some _] := hl
            refine lv_goto (tgt := 5) hC.1 hC.2.1 dX3_isWithin_32 (by decide) ?_
            exact ih f (d + 1) _ (by omega) (by omega) h3 _ _ _ _ hO ls hl
          · skip
            have h9 : withF σ p1 61 p0 = true := by rw [h3, if_pos c_3]
            refine lv_iconst (v := 1) hC.1 hC.2.1 dX3_isWithin_21 (by decide) ?_
            exact g_zret hC hO dX3_isWithin_22 (by decide) (⟨rfl, bI_t h9⟩)
  refine g_iload_n hC hl dX3_isWithin_0 rfl rfl ?_
  refine g_istore_n hC hl dX3_isWithin_1 rfl (Nat.le_of_ble_eq_true rfl) rfl (fun ls hl => ?_)
  have hl : LL ls 5 [some _, some _, some _, some _, none] := hl
  refine lv_iconst (v := 0) hC.1 hC.2.1 dX3_isWithin_2 (by decide) ?_
  refine g_istore hC hl dX3_isWithin_3 (Nat.le_of_ble_eq_true rfl) rfl (fun ls hl => ?_)
  have hl : LL ls 5 [some _, some _, some _, some _, some _] := hl
  exact loop5 62 61 0 p0 (by omega) (by omega) rfl _ _ _ _ hO ls hl

set_option maxHeartbeats 4000000 in
set_option maxRecDepth 100000 in
/-- isLesser -/
theorem c_X3_isLesser (l : Launch) (κ : KK) (σ : ST) (k2 : Nat) (hk2 : k2 < σ.1) (p0 : Int32) : Met l yX3_isLesser (wA yX3_isLesser cX3_isLesser 5 (some .boolean)) ({ frames := 1, cells := 0, slots := 0, locals := 22 }) (va_Pc [.ref (kad κ 0), .int p0, .ref (kad κ (rb k2))] (WX κ σ)) (va_Qi (fun r σ' => σ = σ' ∧ r = bI (lesserB σ p0 k2)) (WX κ) (FA κ)) 0 0 (FA κ) := by
  refine g_met 2 (by decide) rfl (Nat.le_of_ble_eq_true rfl) ?_
  intro p e s m args below meth c hC F th hO ls hl
  have hl : LL ls 5 [some _, some _, some _, none, none] := hl
  refine g_aload_n hC hl dX3_isLesser_0 rfl rfl ?_
  refine g_iload_n hC hl dX3_isLesser_1 rfl rfl ?_
  refine g_cVq1 hC hO hl (ci := 3) rfl (nn_lt (Nat.le_of_ble_eq_true rfl)) rfl (c_X3_receptacleOf l κ _ _) mi_X3_receptacleOf q_ml_RX3_36 rfl rfl ⟨Nat.le_of_ble_eq_true rfl, Nat.le_of_ble_eq_true rfl⟩ (Nat.le_of_ble_eq_true rfl) ⟨Nat.zero_le _, Nat.zero_le _⟩ dX3_isLesser_2 (fun r σ1 F th H locs hr hO => ?_)
  obtain ⟨rfl, hr⟩ := hr
  rcases hr with ⟨rfl, hq2⟩ | ⟨k, hq2, rfl⟩
  · skip
    refine g_astore_nN hC hl dX3_isLesser_5 rfl (Nat.le_of_ble_eq_true rfl) rfl (fun ls hl => ?_)
    have hl : LL ls 5 [some _, some _, some _, some _, none] := hl
    refine g_aload_nN hC hl dX3_isLesser_6 rfl rfl ?_
    refine lv_ifnonnullN hC.1 hC.2.1 dX3_isLesser_7 ?_
    refine lv_iconst (v := (-1)) hC.1 hC.2.1 dX3_isLesser_10 (by decide) ?_
    refine lv_goto (tgt := 18) hC.1 hC.2.1 dX3_isLesser_11 (by decide) ?_
    refine g_istore hC hl dX3_isLesser_18 (Nat.le_of_ble_eq_true rfl) rfl (fun ls hl => ?_)
    have hl : LL ls 5 [some _, some _, some _, some _, some _] := hl
    refine g_iload hC hl dX3_isLesser_20 rfl ?_
    refine g_aload_n hC hl dX3_isLesser_22 rfl rfl ?_
    refine g_get (ci := 1) (k := 0) hC hO rfl inX1 (by decide) q_fl_RX3_176 (nn_rb hk2) (sh_rec _ _ _ _ _) rfl dX3_isLesser_23 ?_
    refine lv_icmp_ge (tgt := 33) hC.1 hC.2.1 dX3_isLesser_26 (by decide) (fun c_1 => ?_) (fun c_1 => ?_)
    · skip
      refine lv_iconst (v := 0) hC.1 hC.2.1 dX3_isLesser_33 (by decide) ?_
      exact g_zret hC hO dX3_isLesser_34 (by decide) (⟨rfl, by first | exact bI_t (by unfold lesserB kindF; rw [hq2]; exact decide_eq_true (Int32.not_le.mp c_1)) | exact bI_f (by unfold lesserB kindF; rw [hq2]; exact decide_eq_false (Int32.not_lt.mpr c_1))⟩)
    · skip
      refine lv_iconst (v := 1) hC.1 hC.2.1 dX3_isLesser_29 (by decide) ?_
      refine lv_goto (tgt := 34) hC.1 hC.2.1 dX3_isLesser_30 (by decide) ?_
      exact g_zret hC hO dX3_isLesser_34 (by decide) (⟨rfl, by first | exact bI_t (by unfold lesserB kindF; rw [hq2]; exact decide_eq_true (Int32.not_le.mp c_1)) | exact bI_f (by unfold lesserB kindF; rw [hq2]; exact decide_eq_false (Int32.not_lt.mpr c_1))⟩)
  · have hk := recOf_lt hq2
    refine g_astore_n hC hl dX3_isLesser_5 rfl (Nat.le_of_ble_eq_true rfl) rfl (fun ls hl => ?_)
    have hl : LL ls 5 [some _, some _, some _, some _, none] := hl
    refine g_aload_n hC hl dX3_isLesser_6 rfl rfl ?_
    refine lv_ifnonnull (tgt := 14) hC.1 hC.2.1 dX3_isLesser_7 (by decide) ?_
    refine g_aload_n hC hl dX3_isLesser_14 rfl rfl ?_
    refine g_get (ci := 1) (k := 0) hC hO rfl inX1 (by decide) q_fl_RX3_176 (nn_rb hk) (sh_rec _ _ _ _ _) rfl dX3_isLesser_15 ?_
    refine g_istore hC hl dX3_isLesser_18 (Nat.le_of_ble_eq_true rfl) rfl (fun ls hl => ?_)
    have hl : LL ls 5 [some _, some _, some _, some _, some _] := hl
    refine g_iload hC hl dX3_isLesser_20 rfl ?_
    refine g_aload_n hC hl dX3_isLesser_22 rfl rfl ?_
    refine g_get (ci := 1) (k := 0) hC hO rfl inX1 (by decide) q_fl_RX3_176 (nn_rb hk2) (sh_rec _ _ _ _ _) rfl dX3_isLesser_23 ?_
    refine lv_icmp_ge (tgt := 33) hC.1 hC.2.1 dX3_isLesser_26 (by decide) (fun c_2 => ?_) (fun c_2 => ?_)
    · skip
      refine lv_iconst (v := 0) hC.1 hC.2.1 dX3_isLesser_33 (by decide) ?_
      exact g_zret hC hO dX3_isLesser_34 (by decide) (⟨rfl, by first | exact bI_t (by unfold lesserB kindF; rw [hq2]; exact decide_eq_true (Int32.not_le.mp c_2)) | exact bI_f (by unfold lesserB kindF; rw [hq2]; exact decide_eq_false (Int32.not_lt.mpr c_2))⟩)
    · skip
      refine lv_iconst (v := 1) hC.1 hC.2.1 dX3_isLesser_29 (by decide) ?_
      refine lv_goto (tgt := 34) hC.1 hC.2.1 dX3_isLesser_30 (by decide) ?_
      exact g_zret hC hO dX3_isLesser_34 (by decide) (⟨rfl, by first | exact bI_t (by unfold lesserB kindF; rw [hq2]; exact decide_eq_true (Int32.not_le.mp c_2)) | exact bI_f (by unfold lesserB kindF; rw [hq2]; exact decide_eq_false (Int32.not_lt.mpr c_2))⟩)

set_option maxHeartbeats 4000000 in
set_option maxRecDepth 100000 in
/-- putIn -/
theorem c_X3_putIn (l : Launch) (κ : KK) (σ : ST) (k : Nat) (hk : k < σ.1) (p1 p2 : Int32) : Met l yX3_putIn (wA yX3_putIn cX3_putIn 4 none) ({ frames := 1, cells := 0, slots := 0, locals := 22 }) (va_Pc [.ref (kad κ 0), .ref (kad κ (rb k)), .int p1, .int p2] (WX κ σ)) (va_Qv (fun σ' => σ' = putInS σ k p1 p2) (WX κ) (FA κ)) 0 0 (FA κ) := by
  refine g_met 0 (by decide) rfl (Nat.le_of_ble_eq_true rfl) ?_
  intro p e s m args below meth c hC F th hO ls hl
  have hl : LL ls 4 [some _, some _, some _, some _] := hl
  refine g_aload_n hC hl dX3_putIn_0 rfl rfl ?_
  refine g_get (ci := 1) (k := 5) hC hO rfl inX1 (by decide) q_fl_RX3_58 (nn_rb hk) (sh_rec _ _ _ _ _) rfl dX3_putIn_1 ?_
  refine g_iload_n hC hl dX3_putIn_4 rfl rfl ?_
  refine g_cVv1 hC hO hl (ci := 2) rfl (nn_rc hk (by decide)) (sh_row _ _ _ _ _ (by decide)) (c_X2_append l κ _ (k) (0) (by exact hk) (by decide) _) mi_X2_append q_ml_RX3_157 rfl rfl ⟨Nat.le_of_ble_eq_true rfl, Nat.le_of_ble_eq_true rfl⟩ (Nat.le_of_ble_eq_true rfl) ⟨Nat.zero_le _, Nat.zero_le _⟩ dX3_putIn_5 (fun σ1 F th H locs hr hO => ?_)
  subst hr
  refine g_aload_n hC hl dX3_putIn_8 rfl rfl ?_
  refine g_iload_n hC hl dX3_putIn_9 rfl rfl ?_
  refine g_iload_n hC hl dX3_putIn_10 rfl rfl ?_
  refine g_cVv2 hC hO hl (ci := 3) rfl (nn_lt (Nat.le_of_ble_eq_true rfl)) rfl (c_X3_setHolder l κ _ _ _) mi_X3_setHolder q_ml_RX3_179 rfl rfl ⟨Nat.le_of_ble_eq_true rfl, Nat.le_of_ble_eq_true rfl⟩ (Nat.le_of_ble_eq_true rfl) ⟨Nat.zero_le _, Nat.zero_le _⟩ dX3_putIn_11 (fun σ1 F th H locs hr hO => ?_)
  subst hr
  exact g_vret hC hO dX3_putIn_14 (rfl)

set_option maxHeartbeats 4000000 in
set_option maxRecDepth 100000 in
/-- takeOut -/
theorem c_X3_takeOut (l : Launch) (κ : KK) (σ : ST) (p0 : Int32) : Met l yX3_takeOut (wA yX3_takeOut cX3_takeOut 3 none) ({ frames := 2, cells := 0, slots := 0, locals := 44 }) (va_Pc [.ref (kad κ 0), .int p0] (WX κ σ)) (va_Qv (fun σ' => σ' = takeOutS σ p0) (WX κ) (FA κ)) 0 0 (FA κ) := by
  refine g_met 1 (by decide) rfl (Nat.le_of_ble_eq_true rfl) ?_
  intro p e s m args below meth c hC F th hO ls hl
  have hl : LL ls 3 [some _, some _, none] := hl
  refine g_aload_n hC hl dX3_takeOut_0 rfl rfl ?_
  refine g_aload_n hC hl dX3_takeOut_1 rfl rfl ?_
  refine g_iload_n hC hl dX3_takeOut_2 rfl rfl ?_
  refine g_cVi1 hC hO hl (ci := 3) rfl (nn_lt (Nat.le_of_ble_eq_true rfl)) rfl (c_X3_holderOf l κ _ _) mi_X3_holderOf q_ml_RX3_47 rfl rfl ⟨Nat.le_of_ble_eq_true rfl, Nat.le_of_ble_eq_true rfl⟩ (Nat.le_of_ble_eq_true rfl) ⟨Nat.zero_le _, Nat.zero_le _⟩ dX3_takeOut_3 (fun r σ1 F th H locs hr hO => ?_)
  obtain ⟨rfl, rfl⟩ := hr
  refine g_cVq1 hC hO hl (ci := 3) rfl (nn_lt (Nat.le_of_ble_eq_true rfl)) rfl (c_X3_receptacleOf l κ _ _) mi_X3_receptacleOf q_ml_RX3_36 rfl rfl ⟨Nat.le_of_ble_eq_true rfl, Nat.le_of_ble_eq_true rfl⟩ (Nat.le_of_ble_eq_true rfl) ⟨Nat.zero_le _, Nat.zero_le _⟩ dX3_takeOut_6 (fun r σ1 F th H locs hr hO => ?_)
  obtain ⟨rfl, hr⟩ := hr
  rcases hr with ⟨rfl, hq6⟩ | ⟨k, hq6, rfl⟩
  · skip
    refine g_astore_nN hC hl dX3_takeOut_9 rfl (Nat.le_of_ble_eq_true rfl) rfl (fun ls hl => ?_)
    have hl : LL ls 3 [some _, some _, some _] := hl
    refine g_aload_nN hC hl dX3_takeOut_10 rfl rfl ?_
    refine lv_ifnullN (tgt := 38) hC.1 hC.2.1 dX3_takeOut_11 (by decide) ?_
    exact g_vret hC hO dX3_takeOut_38 (by unfold takeOutS; rw [hq6]; try rfl)
  · have hk := recOf_lt hq6
    refine g_astore_n hC hl dX3_takeOut_9 rfl (Nat.le_of_ble_eq_true rfl) rfl (fun ls hl => ?_)
    have hl : LL ls 3 [some _, some _, some _] := hl
    refine g_aload_n hC hl dX3_takeOut_10 rfl rfl ?_
    refine lv_ifnull hC.1 hC.2.1 dX3_takeOut_11 ?_
    refine g_aload_n hC hl dX3_takeOut_14 rfl rfl ?_
    refine g_iload_n hC hl dX3_takeOut_15 rfl rfl ?_
    refine g_aload_n hC hl dX3_takeOut_16 rfl rfl ?_
    refine g_iload_n hC hl dX3_takeOut_17 rfl rfl ?_
    refine g_cVi1 hC hO hl (ci := 3) rfl (nn_lt (Nat.le_of_ble_eq_true rfl)) rfl (c_X3_placeOf l κ _ _) mi_X3_placeOf q_ml_RX3_55 rfl rfl ⟨Nat.le_of_ble_eq_true rfl, Nat.le_of_ble_eq_true rfl⟩ (Nat.le_of_ble_eq_true rfl) ⟨Nat.zero_le _, Nat.zero_le _⟩ dX3_takeOut_18 (fun r σ1 F th H locs hr hO => ?_)
    obtain ⟨rfl, rfl⟩ := hr
    refine g_cVv2 hC hO hl (ci := 3) rfl (nn_lt (Nat.le_of_ble_eq_true rfl)) rfl (c_X3_setOwnPlace l κ _ _ _) mi_X3_setOwnPlace q_ml_RX3_160 rfl rfl ⟨Nat.le_of_ble_eq_true rfl, Nat.le_of_ble_eq_true rfl⟩ (Nat.le_of_ble_eq_true rfl) ⟨Nat.zero_le _, Nat.zero_le _⟩ dX3_takeOut_21 (fun σ1 F th H locs hr hO => ?_)
    subst hr
    have hk : k < (setOwnF σ p0 (placeF σ p0)).1 := by rw [sN_setOwn]; exact hk
    refine g_aload_n hC hl dX3_takeOut_24 rfl rfl ?_
    refine g_get (ci := 1) (k := 5) hC hO rfl inX1 (by decide) q_fl_RX3_58 (nn_rb hk) (sh_rec _ _ _ _ _) rfl dX3_takeOut_25 ?_
    refine g_iload_n hC hl dX3_takeOut_28 rfl rfl ?_
    refine g_cVv1 hC hO hl (ci := 2) rfl (nn_rc hk (by decide)) (sh_row _ _ _ _ _ (by decide)) (c_X2_remove l κ _ (k) (0) (by exact hk) (by decide) _) mi_X2_remove q_ml_RX3_123 rfl rfl ⟨Nat.le_of_ble_eq_true rfl, Nat.le_of_ble_eq_true rfl⟩ (Nat.le_of_ble_eq_true rfl) ⟨Nat.zero_le _, Nat.zero_le _⟩ dX3_takeOut_29 (fun σ1 F th H locs hr hO => ?_)
    subst hr
    refine g_aload_n hC hl dX3_takeOut_32 rfl rfl ?_
    refine g_iload_n hC hl dX3_takeOut_33 rfl rfl ?_
    refine lv_iconst (v := 0) hC.1 hC.2.1 dX3_takeOut_34 (by decide) ?_
    refine g_cVv2 hC hO hl (ci := 3) rfl (nn_lt (Nat.le_of_ble_eq_true rfl)) rfl (c_X3_setHolder l κ _ _ _) mi_X3_setHolder q_ml_RX3_179 rfl rfl ⟨Nat.le_of_ble_eq_true rfl, Nat.le_of_ble_eq_true rfl⟩ (Nat.le_of_ble_eq_true rfl) ⟨Nat.zero_le _, Nat.zero_le _⟩ dX3_takeOut_35 (fun σ1 F th H locs hr hO => ?_)
    subst hr
    exact g_vret hC hO dX3_takeOut_38 (by unfold takeOutS; rw [hq6]; try rfl)

set_option maxHeartbeats 4000000 in
set_option maxRecDepth 100000 in
/-- foundExtra -/
theorem c_X3_foundExtra (l : Launch) (κ : KK) (σ : ST) (n : Nat) (hn : sI σ 4 1 = nI n) (hn2 : n < 512) (k : Nat) (hk : k < σ.1) (p1 p2 : Int32) : Met l yX3_foundExtra (wA yX3_foundExtra cX3_foundExtra 5 (some .int)) ({ frames := 3, cells := 0, slots := 0, locals := 66 }) (va_Pc [.ref (kad κ 0), .ref (kad κ (rb k)), .int p1, .int p2] (WX κ σ)) (va_Qi (fun r σ' => (r, σ') = foundExtraF σ k p1 p2) (WX κ) (FA κ)) 0 0 (FA κ) := by
  refine g_met 1 (by decide) rfl (Nat.le_of_ble_eq_true rfl) ?_
  intro p e s m args below meth c hC F th hO ls hl
  have hl : LL ls 5 [some _, some _, some _, some _, none] := hl
  refine g_aload_n hC hl dX3_foundExtra_0 rfl rfl ?_
  refine g_iload_n hC hl dX3_foundExtra_1 rfl rfl ?_
  refine g_cVi1 hC hO hl (ci := 3) rfl (nn_lt (Nat.le_of_ble_eq_true rfl)) rfl (c_X3_holderOf l κ _ _) mi_X3_holderOf q_ml_RX3_47 rfl rfl ⟨Nat.le_of_ble_eq_true rfl, Nat.le_of_ble_eq_true rfl⟩ (Nat.le_of_ble_eq_true rfl) ⟨Nat.zero_le _, Nat.zero_le _⟩ dX3_foundExtra_2 (fun r σ1 F th H locs hr hO => ?_)
  obtain ⟨rfl, rfl⟩ := hr
  refine g_iload_n hC hl dX3_foundExtra_5 rfl rfl ?_
  refine lv_icmp_eq (tgt := 13) hC.1 hC.2.1 dX3_foundExtra_6 (by decide) (fun c_1 => ?_) (fun c_1 => ?_)
  · skip
    have h6 : holdF σ p2 = p1 := c_1
    refine lv_iconst (v := 0) hC.1 hC.2.1 dX3_foundExtra_13 (by decide) ?_
    refine g_istore hC hl dX3_foundExtra_14 (Nat.le_of_ble_eq_true rfl) rfl (fun ls hl => ?_)
    have hl : LL ls 5 [some _, some _, some _, some _, some _] := hl
    refine g_aload_n hC hl dX3_foundExtra_16 rfl rfl ?_
    refine g_get (ci := 1) (k := 10) hC hO rfl inX1 (by decide) q_fl_RX3_126 (nn_rb hk) (sh_rec _ _ _ _ _) rfl dX3_foundExtra_17 ?_
    refine g_cVi0 hC hO hl (ci := 2) rfl (nn_rc hk (by decide)) (sh_row _ _ _ _ _ (by decide)) (c_X2_isFull l κ _ (k) (5) (by exact hk) (by decide)) mi_X2_isFull q_ml_RX3_62 rfl rfl ⟨Nat.le_of_ble_eq_true rfl, Nat.le_of_ble_eq_true rfl⟩ (Nat.le_of_ble_eq_true rfl) ⟨Nat.zero_le _, Nat.zero_le _⟩ dX3_foundExtra_20 (fun r σ1 F th H locs hr hO => ?_)
    obtain ⟨rfl, rfl⟩ := hr
    refine lv_if_ne (tgt := 41) hC.1 hC.2.1 dX3_foundExtra_23 (by decide) (fun c_2 => ?_) (fun c_2 => ?_)
    · skip
      have c_2 := bI_nz c_2
      refine lv_bipush (v := (-14)) hC.1 hC.2.1 dX3_foundExtra_41 (by decide) ?_
      exact g_iret hC hO dX3_foundExtra_43 (by
          unfold foundExtraF fullB
          simp only [h6, c_1, c_2, if_true, if_false, decide_true, decide_false, reduceIte, Bool.false_eq_true]
          try rfl)
    · skip
      have c_2 := bI_z c_2
      refine g_iload hC hl dX3_foundExtra_26 rfl ?_
      refine lv_if_eq (tgt := 44) hC.1 hC.2.1 dX3_foundExtra_28 (by decide) (fun c_3 => ?_) (fun c_3 => ?_)
      · skip
        refine g_iload hC hl dX3_foundExtra_44 rfl ?_
        refine lv_if_eq (tgt := 61) hC.1 hC.2.1 dX3_foundExtra_46 (by decide) (fun c_4 => ?_) (fun c_4 => ?_)
        · skip
          refine g_aload_n hC hl dX3_foundExtra_61 rfl rfl ?_
          refine g_get (ci := 1) (k := 10) hC hO rfl inX1 (by decide) q_fl_RX3_126 (nn_rb hk) (sh_rec _ _ _ _ _) rfl dX3_foundExtra_62 ?_
          refine g_iload_n hC hl dX3_foundExtra_65 rfl rfl ?_
          refine g_cVv1 hC hO hl (ci := 2) rfl (nn_rc hk (by decide)) (sh_row _ _ _ _ _ (by decide)) (c_X2_append l κ _ (k) (5) (by exact hk) (by decide) _) mi_X2_append q_ml_RX3_157 rfl rfl ⟨Nat.le_of_ble_eq_true rfl, Nat.le_of_ble_eq_true rfl⟩ (Nat.le_of_ble_eq_true rfl) ⟨Nat.zero_le _, Nat.zero_le _⟩ dX3_foundExtra_66 (fun σ1 F th H locs hr hO => ?_)
          subst hr
          refine g_aload_n hC hl dX3_foundExtra_69 rfl rfl ?_
          refine g_get (ci := 3) (k := 4) hC hO rfl inX3 (by decide) q_fl_RX3_25 (nn_lt (Nat.le_of_ble_eq_true rfl)) rfl rfl dX3_foundExtra_70 ?_
          refine g_aload_n hC hl dX3_foundExtra_73 rfl rfl ?_
          refine g_get (ci := 3) (k := 5) hC hO rfl inX3 (by decide) q_fl_RX3_104 (nn_lt (Nat.le_of_ble_eq_true rfl)) rfl rfl dX3_foundExtra_74 ?_
          refine lv_ldc2 hC.1 hC.2.1 hC.2.2.2.1 (hC.2.2.2.2.1 _ q_kl_RX3_108) dX3_foundExtra_77 ?_
          refine lv_ladd hC.1 hC.2.1 dX3_foundExtra_80 ?_
          refine g_cVv1 hC hO hl (ci := 0) rfl (nn_lt (Nat.le_of_ble_eq_true rfl)) rfl (c_X0_add l κ _ n (by exact hn) hn2 _) mi_X0_add q_ml_RX3_110 rfl rfl ⟨Nat.le_of_ble_eq_true rfl, Nat.le_of_ble_eq_true rfl⟩ (Nat.le_of_ble_eq_true rfl) ⟨Nat.zero_le _, Nat.zero_le _⟩ dX3_foundExtra_81 (fun σ1 F th H locs hr hO => ?_)
          rw [noteS_eq (by exact hn) hn2] at hr
          subst hr
          refine lv_iconst (v := 0) hC.1 hC.2.1 dX3_foundExtra_84 (by decide) ?_
          exact g_iret hC hO dX3_foundExtra_85 (by
              unfold foundExtraF fullB
              simp only [h6, c_1, c_2, c_3, c_4, if_true, if_false, decide_true, decide_false, reduceIte, Bool.false_eq_true]
              try rfl)
        · skip
          exact absurd c_4 (by decide)
      · skip
        exact absurd c_3 (by decide)
  · skip
    have h6 : ¬ holdF σ p2 = p1 := c_1
    refine lv_iconst (v := 1) hC.1 hC.2.1 dX3_foundExtra_9 (by decide) ?_
    refine lv_goto (tgt := 14) hC.1 hC.2.1 dX3_foundExtra_10 (by decide) ?_
    refine g_istore hC hl dX3_foundExtra_14 (Nat.le_of_ble_eq_true rfl) rfl (fun ls hl => ?_)
    have hl : LL ls 5 [some _, some _, some _, some _, some _] := hl
    refine g_aload_n hC hl dX3_foundExtra_16 rfl rfl ?_
    refine g_get (ci := 1) (k := 10) hC hO rfl inX1 (by decide) q_fl_RX3_126 (nn_rb hk) (sh_rec _ _ _ _ _) rfl dX3_foundExtra_17 ?_
    refine g_cVi0 hC hO hl (ci := 2) rfl (nn_rc hk (by decide)) (sh_row _ _ _ _ _ (by decide)) (c_X2_isFull l κ _ (k) (5) (by exact hk) (by decide)) mi_X2_isFull q_ml_RX3_62 rfl rfl ⟨Nat.le_of_ble_eq_true rfl, Nat.le_of_ble_eq_true rfl⟩ (Nat.le_of_ble_eq_true rfl) ⟨Nat.zero_le _, Nat.zero_le _⟩ dX3_foundExtra_20 (fun r σ1 F th H locs hr hO => ?_)
    obtain ⟨rfl, rfl⟩ := hr
    refine lv_if_ne (tgt := 41) hC.1 hC.2.1 dX3_foundExtra_23 (by decide) (fun c_5 => ?_) (fun c_5 => ?_)
    · skip
      have c_5 := bI_nz c_5
      refine lv_bipush (v := (-14)) hC.1 hC.2.1 dX3_foundExtra_41 (by decide) ?_
      exact g_iret hC hO dX3_foundExtra_43 (by
          unfold foundExtraF fullB
          simp only [h6, c_1, c_5, if_true, if_false, decide_true, decide_false, reduceIte, Bool.false_eq_true]
          try rfl)
    · skip
      have c_5 := bI_z c_5
      refine g_iload hC hl dX3_foundExtra_26 rfl ?_
      refine lv_if_eq (tgt := 44) hC.1 hC.2.1 dX3_foundExtra_28 (by decide) (fun c_6 => ?_) (fun c_6 => ?_)
      · skip
        exact absurd c_6 (by decide)
      · skip
        refine g_aload_n hC hl dX3_foundExtra_31 rfl rfl ?_
        refine g_get (ci := 1) (k := 5) hC hO rfl inX1 (by decide) q_fl_RX3_58 (nn_rb hk) (sh_rec _ _ _ _ _) rfl dX3_foundExtra_32 ?_
        refine g_cVi0 hC hO hl (ci := 2) rfl (nn_rc hk (by decide)) (sh_row _ _ _ _ _ (by decide)) (c_X2_isFull l κ _ (k) (0) (by exact hk) (by decide)) mi_X2_isFull q_ml_RX3_62 rfl rfl ⟨Nat.le_of_ble_eq_true rfl, Nat.le_of_ble_eq_true rfl⟩ (Nat.le_of_ble_eq_true rfl) ⟨Nat.zero_le _, Nat.zero_le _⟩ dX3_foundExtra_35 (fun r σ1 F th H locs hr hO => ?_)
        obtain ⟨rfl, rfl⟩ := hr
        refine lv_if_eq (tgt := 44) hC.1 hC.2.1 dX3_foundExtra_38 (by decide) (fun c_7 => ?_) (fun c_7 => ?_)
        · skip
          have c_7 := bI_z c_7
          refine g_iload hC hl dX3_foundExtra_44 rfl ?_
          refine lv_if_eq (tgt := 61) hC.1 hC.2.1 dX3_foundExtra_46 (by decide) (fun c_8 => ?_) (fun c_8 => ?_)
          · skip
            exact absurd c_8 (by decide)
          · skip
            refine g_aload_n hC hl dX3_foundExtra_49 rfl rfl ?_
            refine g_iload_n hC hl dX3_foundExtra_50 rfl rfl ?_
            refine g_cVv1 hC hO hl (ci := 3) rfl (nn_lt (Nat.le_of_ble_eq_true rfl)) rfl (c_X3_takeOut l κ _ _) mi_X3_takeOut q_ml_RX3_72 rfl rfl ⟨Nat.le_of_ble_eq_true rfl, Nat.le_of_ble_eq_true rfl⟩ (Nat.le_of_ble_eq_true rfl) ⟨Nat.zero_le _, Nat.zero_le _⟩ dX3_foundExtra_51 (fun σ1 F th H locs hr hO => ?_)
            subst hr
            have hk : k < (takeOutS σ p2).1 := by rw [sN_takeOut]; exact hk
            refine g_aload_n hC hl dX3_foundExtra_54 rfl rfl ?_
            refine g_aload_n hC hl dX3_foundExtra_55 rfl rfl ?_
            refine g_iload_n hC hl dX3_foundExtra_56 rfl rfl ?_
            refine g_iload_n hC hl dX3_foundExtra_57 rfl rfl ?_
            refine g_cVv3 hC hO hl (ci := 3) rfl (nn_lt (Nat.le_of_ble_eq_true rfl)) rfl (c_X3_putIn l κ _ k (by exact hk) _ _) mi_X3_putIn q_ml_RX3_68 rfl rfl ⟨Nat.le_of_ble_eq_true rfl, Nat.le_of_ble_eq_true rfl⟩ (Nat.le_of_ble_eq_true rfl) ⟨Nat.zero_le _, Nat.zero_le _⟩ dX3_foundExtra_58 (fun σ1 F th H locs hr hO => ?_)
            subst hr
            have hk : k < (putInS (takeOutS σ p2) k p1 p2).1 := by rw [sN_putIn]; exact hk
            have hn : sI (putInS (takeOutS σ p2) k p1 p2) 4 1 = nI n := by rw [sI4_putIn, sI4_takeOut]; exact hn
            refine g_aload_n hC hl dX3_foundExtra_61 rfl rfl ?_
            refine g_get (ci := 1) (k := 10) hC hO rfl inX1 (by decide) q_fl_RX3_126 (nn_rb hk) (sh_rec _ _ _ _ _) rfl dX3_foundExtra_62 ?_
            refine g_iload_n hC hl dX3_foundExtra_65 rfl rfl ?_
            refine g_cVv1 hC hO hl (ci := 2) rfl (nn_rc hk (by decide)) (sh_row _ _ _ _ _ (by decide)) (c_X2_append l κ _ (k) (5) (by exact hk) (by decide) _) mi_X2_append q_ml_RX3_157 rfl rfl ⟨Nat.le_of_ble_eq_true rfl, Nat.le_of_ble_eq_true rfl⟩ (Nat.le_of_ble_eq_true rfl) ⟨Nat.zero_le _, Nat.zero_le _⟩ dX3_foundExtra_66 (fun σ1 F th H locs hr hO => ?_)
            subst hr
            refine g_aload_n hC hl dX3_foundExtra_69 rfl rfl ?_
            refine g_get (ci := 3) (k := 4) hC hO rfl inX3 (by decide) q_fl_RX3_25 (nn_lt (Nat.le_of_ble_eq_true rfl)) rfl rfl dX3_foundExtra_70 ?_
            refine g_aload_n hC hl dX3_foundExtra_73 rfl rfl ?_
            refine g_get (ci := 3) (k := 5) hC hO rfl inX3 (by decide) q_fl_RX3_104 (nn_lt (Nat.le_of_ble_eq_true rfl)) rfl rfl dX3_foundExtra_74 ?_
            refine lv_ldc2 hC.1 hC.2.1 hC.2.2.2.1 (hC.2.2.2.2.1 _ q_kl_RX3_108) dX3_foundExtra_77 ?_
            refine lv_ladd hC.1 hC.2.1 dX3_foundExtra_80 ?_
            refine g_cVv1 hC hO hl (ci := 0) rfl (nn_lt (Nat.le_of_ble_eq_true rfl)) rfl (c_X0_add l κ _ n (by exact hn) hn2 _) mi_X0_add q_ml_RX3_110 rfl rfl ⟨Nat.le_of_ble_eq_true rfl, Nat.le_of_ble_eq_true rfl⟩ (Nat.le_of_ble_eq_true rfl) ⟨Nat.zero_le _, Nat.zero_le _⟩ dX3_foundExtra_81 (fun σ1 F th H locs hr hO => ?_)
            rw [noteS_eq (by exact hn) hn2] at hr
            subst hr
            refine lv_iconst (v := 0) hC.1 hC.2.1 dX3_foundExtra_84 (by decide) ?_
            exact g_iret hC hO dX3_foundExtra_85 (by
                unfold foundExtraF fullB
                simp only [h6, c_1, c_5, c_6, c_7, c_8, if_true, if_false, decide_true, decide_false, reduceIte, Bool.false_eq_true]
                try rfl)
        · skip
          have c_7 := bI_nz c_7
          refine lv_bipush (v := (-14)) hC.1 hC.2.1 dX3_foundExtra_41 (by decide) ?_
          exact g_iret hC hO dX3_foundExtra_43 (by
              unfold foundExtraF fullB
              simp only [h6, c_1, c_5, c_6, c_7, if_true, if_false, decide_true, decide_false, reduceIte, Bool.false_eq_true]
              try rfl)

set_option maxHeartbeats 4000000 in
set_option maxRecDepth 100000 in
/-- weightOfItems -/
theorem c_X3_weightOfItems (l : Launch) (κ : KK) (σ : ST) (k j : Nat) (hk : k < σ.1) (hj : j < 6) : Met l yX3_weightOfItems (wA yX3_weightOfItems cX3_weightOfItems 5 (some .long)) ({ frames := 1, cells := 0, slots := 0, locals := 21 }) (va_Pc [.ref (kad κ (rc k j))] (WX κ σ)) (va_Ql (fun r σ' => σ = σ' ∧ r = itemsW (sR σ (rc k j)) (sR σ (rc k j)).length) (WX κ) (FA κ)) 0 0 (FA κ) := by
  refine g_met 4 (by decide) rfl (Nat.le_of_ble_eq_true rfl) ?_
  intro p e s m args below meth c hC F th hO ls hl
  have hl : LL ls 5 [some _, none, none, none, none] := hl
  have hlen := hO.1.len hk hj
  have hcap := capj_le j
  have loop4 : ∀ (n i : Nat), (sR σ (rc k j)).length + 1 ≤ i + n → i ≤ (sR σ (rc k j)).length → ∀ (F : Nat → Nat → Int32) (th : Int32) (H : Heap) (locs : List Loc), OS κ s.heap σ F th H locs → ∀ ls : Array Slot, LL ls 5 [some (.ref (kad κ (rc k j))), some (.long (itemsW (sR σ (rc k j)) i)), none, some (.int (nI i)), none] → W p l e ({ frames := 1, cells := 0, slots := 0, locals := 21 } : Room) s m args below meth c H locs 0 0 (MQ below (va_Ql (fun r σ' => σ = σ' ∧ r = itemsW (sR σ (rc k j)) (sR σ (rc k j)).length) (WX κ) (FA κ)) args s 0 0 (FA κ)) (F0 m 4 ls []) := by
    intro n
    induction n with
    | zero => intro i h1 h2; exact absurd h1 (by omega)
    | succ n ih =>
      intro i h1 h2 F th H locs hO ls hl
      refine g_iload_n hC hl dX3_weightOfItems_4 rfl rfl ?_
      refine g_aload_n hC hl dX3_weightOfItems_5 rfl rfl ?_
      refine g_cVi0 hC hO hl (ci := 2) rfl (nn_rc hk hj) (sh_row _ _ _ _ _ hj) (c_X2_size l κ _ (k) (j) (by exact hk) hj) mi_X2_size q_ml_RX3_89 rfl rfl ⟨Nat.le_of_ble_eq_true rfl, Nat.le_of_ble_eq_true rfl⟩ (Nat.le_of_ble_eq_true rfl) ⟨Nat.zero_le _, Nat.zero_le _⟩ dX3_weightOfItems_6 (fun r σ1 F th H locs hr hO => ?_)
      obtain ⟨rfl, rfl⟩ := hr
      refine lv_icmp_ge (tgt := 47) hC.1 hC.2.1 dX3_weightOfItems_9 (by decide) (fun c_1 => ?_) (fun c_1 => ?_)
      · skip
        rw [nI_leI (by omega) (by omega)] at c_1
        refine g_lload_n hC hl dX3_weightOfItems_47 rfl rfl ?_
        exact g_lret hC hO dX3_weightOfItems_48 (⟨rfl, by rw [show i = (sR σ (rc k j)).length by omega]⟩)
      · skip
        rw [nI_leI (by omega) (by omega)] at c_1
        refine g_aload_n hC hl dX3_weightOfItems_12 rfl rfl ?_
        refine g_iload_n hC hl dX3_weightOfItems_13 rfl rfl ?_
        refine g_cVi1 hC hO hl (ci := 2) rfl (nn_rc hk hj) (sh_row _ _ _ _ _ hj) (c_X2_at l κ _ (k) (j) (by exact hk) hj _) mi_X2_at q_ml_RX3_137 rfl rfl ⟨Nat.le_of_ble_eq_true rfl, Nat.le_of_ble_eq_true rfl⟩ (Nat.le_of_ble_eq_true rfl) ⟨Nat.zero_le _, Nat.zero_le _⟩ dX3_weightOfItems_14 (fun r σ1 F th H locs hr hO => ?_)
        obtain ⟨rfl, hr⟩ := hr
        rw [rowAt_nI _ (by omega)] at hr
        subst hr
        refine g_istore hC hl dX3_weightOfItems_17 (Nat.le_of_ble_eq_true rfl) rfl (fun ls hl => ?_)
        have hl : LL ls 5 [some _, some _, none, some _, some _] := hl
        refine g_iload hC hl dX3_weightOfItems_19 rfl ?_
        refine g_cSi1 hC hO hl (c_X3_isItem l κ _ _) mi_X3_isItem q_ml_RX3_173 rfl rfl ⟨Nat.le_of_ble_eq_true rfl, Nat.le_of_ble_eq_true rfl⟩ (Nat.le_of_ble_eq_true rfl) ⟨Nat.zero_le _, Nat.zero_le _⟩ dX3_weightOfItems_21 (fun r σ1 F th H locs hr hO => ?_)
        obtain ⟨rfl, rfl⟩ := hr
        refine lv_if_eq (tgt := 41) hC.1 hC.2.1 dX3_weightOfItems_24 (by decide) (fun c_2 => ?_) (fun c_2 => ?_)
        · skip
          have c_2 := bI_z c_2
          have hw : itemsW (sR σ (rc k j)) (i + 1) = itemsW (sR σ (rc k j)) i := by rw [itemsW, if_neg (by rw [c_2]; decide)]
          refine g_iinc (v := nI (i + 1)) hC hl dX3_weightOfItems_41 rfl (nI_i1 i) (Nat.le_of_ble_eq_true rfl) rfl (fun ls hl => ?_)
          have hl : LL ls 5 [some _, some _, none, some _, some _] := hl
          refine lv_goto (tgt := 4) hC.1 hC.2.1 dX3_weightOfItems_44 (by decide) ?_
          have hl := LL.drop hl 4
          exact ih (i + 1) (by omega) (by omega) _ _ _ _ hO ls (by rw [hw]; exact hl)
        · skip
          have c_2 := bI_nz c_2
          have hw : itemsW (sR σ (rc k j)) (i + 1) = itemsW (sR σ (rc k j)) i + (5 + 10 * ((sR σ (rc k j)).getD i 0 - (sR σ (rc k j)).getD i 0 / 50 * 50)).toInt64 := by rw [itemsW, if_pos c_2]
          refine g_lload_n hC hl dX3_weightOfItems_27 rfl rfl ?_
          refine lv_iconst (v := 5) hC.1 hC.2.1 dX3_weightOfItems_28 (by decide) ?_
          refine lv_bipush (v := 10) hC.1 hC.2.1 dX3_weightOfItems_29 (by decide) ?_
          refine g_iload hC hl dX3_weightOfItems_31 rfl ?_
          refine lv_bipush (v := 50) hC.1 hC.2.1 dX3_weightOfItems_33 (by decide) ?_
          refine lv_irem hC.1 hC.2.1 dX3_weightOfItems_35 (by decide) ?_
          refine lv_imul hC.1 hC.2.1 dX3_weightOfItems_36 ?_
          refine lv_iadd hC.1 hC.2.1 dX3_weightOfItems_37 ?_
          refine lv_i2l hC.1 hC.2.1 dX3_weightOfItems_38 rfl ?_
          refine lv_ladd hC.1 hC.2.1 dX3_weightOfItems_39 ?_
          refine g_lstore_n hC hl dX3_weightOfItems_40 rfl (Nat.le_of_ble_eq_true rfl) rfl (fun ls hl => ?_)
          have hl : LL ls 5 [some _, some _, none, some _, some _] := hl
          refine g_iinc (v := nI (i + 1)) hC hl dX3_weightOfItems_41 rfl (nI_i1 i) (Nat.le_of_ble_eq_true rfl) rfl (fun ls hl => ?_)
          have hl : LL ls 5 [some _, some _, none, some _, some _] := hl
          refine lv_goto (tgt := 4) hC.1 hC.2.1 dX3_weightOfItems_44 (by decide) ?_
          have hl := LL.drop hl 4
          exact ih (i + 1) (by omega) (by omega) _ _ _ _ hO ls (by rw [hw]; exact hl)
  refine lv_lconst (v := 0) hC.1 hC.2.1 dX3_weightOfItems_0 (by decide) ?_
  refine g_lstore_n hC hl dX3_weightOfItems_1 rfl (Nat.le_of_ble_eq_true rfl) rfl (fun ls hl => ?_)
  have hl : LL ls 5 [some _, some _, none, none, none] := hl
  refine lv_iconst (v := 0) hC.1 hC.2.1 dX3_weightOfItems_2 (by decide) ?_
  refine g_istore_n hC hl dX3_weightOfItems_3 rfl (Nat.le_of_ble_eq_true rfl) rfl (fun ls hl => ?_)
  have hl : LL ls 5 [some _, some _, none, some _, none] := hl
  exact loop4 ((sR σ (rc k j)).length + 1) 0 (by omega) (by omega) _ _ _ _ hO ls hl

set_option maxHeartbeats 4000000 in
set_option maxRecDepth 100000 in
/-- weightOf -/
theorem c_X3_weightOf (l : Launch) (κ : KK) (σ : ST) (p0 : Int32) : Met l yX3_weightOf (wA yX3_weightOf cX3_weightOf 6 (some .long)) ({ frames := 2, cells := 0, slots := 0, locals := 45 }) (va_Pc [.ref (kad κ 0), .int p0] (WX κ σ)) (va_Ql (fun r σ' => σ = σ' ∧ r = wsum σ p0 σ.1) (WX κ) (FA κ)) 0 0 (FA κ) := by
  refine g_met 4 (by decide) rfl (Nat.le_of_ble_eq_true rfl) ?_
  intro p e s m args below meth c hC F th hO ls hl
  have hl : LL ls 6 [some _, some _, none, none, none, none] := hl
  have h60 := hO.1.1
  have loop5 : ∀ (n i : Nat), σ.1 + 1 ≤ i + n → i ≤ σ.1 → ∀ (F : Nat → Nat → Int32) (th : Int32) (H : Heap) (locs : List Loc), OS κ s.heap σ F th H locs → ∀ ls : Array Slot, LL ls 6 [some (.ref (kad κ 0)), some (.int p0), some (.long (wsum σ p0 i)), none, some (.int (nI i)), none] → W p l e ({ frames := 2, cells := 0, slots := 0, locals := 45 } : Room) s m args below meth c H locs 0 0 (MQ below (va_Ql (fun r σ' => σ = σ' ∧ r = wsum σ p0 σ.1) (WX κ) (FA κ)) args s 0 0 (FA κ)) (F0 m 5 ls []) := by
    intro n
    induction n with
    | zero => intro i h1 h2; exact absurd h1 (by omega)
    | succ n ih =>
      intro i h1 h2 F th H locs hO ls hl
      refine g_iload hC hl dX3_weightOf_5 rfl ?_
      refine g_aload_n hC hl dX3_weightOf_7 rfl rfl ?_
      refine g_get (ci := 3) (k := 1) hC hO rfl inX3 (by decide) q_fl_RX3_29 (nn_lt (Nat.le_of_ble_eq_true rfl)) rfl rfl dX3_weightOf_8 ?_
      refine lv_icmp_ge (tgt := 84) hC.1 hC.2.1 dX3_weightOf_11 (by decide) (fun c_1 => ?_) (fun c_1 => ?_)
      · skip
        rw [nI_leI (by omega) (by omega)] at c_1
        refine g_lload_n hC hl dX3_weightOf_84 rfl rfl ?_
        exact g_lret hC hO dX3_weightOf_85 (⟨rfl, by rw [show i = σ.1 by omega]⟩)
      · skip
        rw [nI_leI (by omega) (by omega)] at c_1
        refine g_iload hC hl dX3_weightOf_14 rfl ?_
        refine g_aload_n hC hl dX3_weightOf_16 rfl rfl ?_
        refine g_get (ci := 3) (k := 0) hC hO rfl inX3 (by decide) q_fl_RX3_11 (nn_lt (Nat.le_of_ble_eq_true rfl)) rfl rfl dX3_weightOf_17 ?_
        refine g_alenR (v := nI 60) hC hO (nn_lt (Nat.le_of_ble_eq_true rfl)) rfl rfl dX3_weightOf_20 ?_
        refine lv_icmp_ge (tgt := 84) hC.1 hC.2.1 dX3_weightOf_21 (by decide) (fun c_2 => ?_) (fun c_2 => ?_)
        · skip
          rw [nI_leI (by omega) (by omega)] at c_2
          exact absurd c_2 (by omega)
        · skip
          refine g_aload_n hC hl dX3_weightOf_24 rfl rfl ?_
          refine g_get (ci := 3) (k := 0) hC hO rfl inX3 (by decide) q_fl_RX3_11 (nn_lt (Nat.le_of_ble_eq_true rfl)) rfl rfl dX3_weightOf_25 ?_
          refine g_iload hC hl dX3_weightOf_28 rfl ?_
          refine g_aldq hC hO (nn_lt (Nat.le_of_ble_eq_true rfl)) rfl (vp_in_nI (by omega) (by omega)) dX3_weightOf_30 ?_
          have hi : i < σ.1 := by omega
          rw [nI_clamp (n := i) (by omega), if_pos hi]
          refine g_astore hC hl dX3_weightOf_31 (Nat.le_of_ble_eq_true rfl) rfl (fun ls hl => ?_)
          have hl : LL ls 6 [some _, some _, some _, none, some _, some _] := hl
          refine g_aload hC hl dX3_weightOf_33 rfl ?_
          refine lv_ifnull hC.1 hC.2.1 dX3_weightOf_35 ?_
          refine g_aload_n hC hl dX3_weightOf_38 rfl rfl ?_
          refine lv_sipush (v := 1001) hC.1 hC.2.1 dX3_weightOf_39 (by decide) ?_
          refine g_iload hC hl dX3_weightOf_42 rfl ?_
          refine lv_iadd hC.1 hC.2.1 dX3_weightOf_44 ?_
          refine g_iload_n hC hl dX3_weightOf_45 rfl rfl ?_
          refine g_cVi2 hC hO hl (ci := 3) rfl (nn_lt (Nat.le_of_ble_eq_true rfl)) rfl (c_X3_isWithin l κ _ _ _) mi_X3_isWithin q_ml_RX3_182 rfl rfl ⟨Nat.le_of_ble_eq_true rfl, Nat.le_of_ble_eq_true rfl⟩ (Nat.le_of_ble_eq_true rfl) ⟨Nat.zero_le _, Nat.zero_le _⟩ dX3_weightOf_46 (fun r σ1 F th H locs hr hO => ?_)
          obtain ⟨rfl, rfl⟩ := hr
          refine lv_if_eq (tgt := 78) hC.1 hC.2.1 dX3_weightOf_49 (by decide) (fun c_3 => ?_) (fun c_3 => ?_)
          · skip
            have c_3 := bI_z c_3
            have hw : wsum σ p0 (i + 1) = wsum σ p0 i := by rw [wsum, if_neg (by rw [c_3]; decide)]
            refine g_iinc (v := nI (i + 1)) hC hl dX3_weightOf_78 rfl (nI_i1 i) (Nat.le_of_ble_eq_true rfl) rfl (fun ls hl => ?_)
            have hl : LL ls 6 [some _, some _, some _, none, some _, some _] := hl
            refine lv_goto (tgt := 5) hC.1 hC.2.1 dX3_weightOf_81 (by decide) ?_
            have hl := LL.drop hl 5
            exact ih (i + 1) (by omega) (by omega) _ _ _ _ hO ls (by rw [hw]; exact hl)
          · skip
            have c_3 := bI_nz c_3
            have hw : wsum σ p0 (i + 1) = wsum σ p0 i + (100 * (sI σ (rb i) 0).toInt64 + 100 + itemsW (sR σ (rc i 0)) (sR σ (rc i 0)).length) := by rw [wsum, if_pos c_3]
            refine g_lload_n hC hl dX3_weightOf_52 rfl rfl ?_
            refine lv_ldc2 hC.1 hC.2.1 hC.2.2.2.1 (hC.2.2.2.2.1 _ q_kl_RX3_108) dX3_weightOf_53 ?_
            refine g_aload hC hl dX3_weightOf_56 rfl ?_
            refine g_get (ci := 1) (k := 0) hC hO rfl inX1 (by decide) q_fl_RX3_176 (nn_rb hi) (sh_rec _ _ _ _ _) rfl dX3_weightOf_58 ?_
            refine lv_i2l hC.1 hC.2.1 dX3_weightOf_61 rfl ?_
            refine lv_lmul hC.1 hC.2.1 dX3_weightOf_62 ?_
            refine lv_ldc2 hC.1 hC.2.1 hC.2.2.2.1 (hC.2.2.2.2.1 _ q_kl_RX3_108) dX3_weightOf_63 ?_
            refine lv_ladd hC.1 hC.2.1 dX3_weightOf_66 ?_
            refine g_aload hC hl dX3_weightOf_67 rfl ?_
            refine g_get (ci := 1) (k := 5) hC hO rfl inX1 (by decide) q_fl_RX3_58 (nn_rb hi) (sh_rec _ _ _ _ _) rfl dX3_weightOf_69 ?_
            refine g_cSl1 hC hO hl (c_X3_weightOfItems l κ _ i 0 (by exact hi) (by decide)) mi_X3_weightOfItems q_ml_RX3_185 rfl rfl ⟨Nat.le_of_ble_eq_true rfl, Nat.le_of_ble_eq_true rfl⟩ (Nat.le_of_ble_eq_true rfl) ⟨Nat.zero_le _, Nat.zero_le _⟩ dX3_weightOf_72 (fun r σ1 F th H locs hr hO => ?_)
            obtain ⟨rfl, rfl⟩ := hr
            refine lv_ladd hC.1 hC.2.1 dX3_weightOf_75 ?_
            refine lv_ladd hC.1 hC.2.1 dX3_weightOf_76 ?_
            refine g_lstore_n hC hl dX3_weightOf_77 rfl (Nat.le_of_ble_eq_true rfl) rfl (fun ls hl => ?_)
            have hl : LL ls 6 [some _, some _, some _, none, some _, some _] := hl
            refine g_iinc (v := nI (i + 1)) hC hl dX3_weightOf_78 rfl (nI_i1 i) (Nat.le_of_ble_eq_true rfl) rfl (fun ls hl => ?_)
            have hl : LL ls 6 [some _, some _, some _, none, some _, some _] := hl
            refine lv_goto (tgt := 5) hC.1 hC.2.1 dX3_weightOf_81 (by decide) ?_
            have hl := LL.drop hl 5
            exact ih (i + 1) (by omega) (by omega) _ _ _ _ hO ls (by rw [hw]; exact hl)
  refine lv_lconst (v := 0) hC.1 hC.2.1 dX3_weightOf_0 (by decide) ?_
  refine g_lstore_n hC hl dX3_weightOf_1 rfl (Nat.le_of_ble_eq_true rfl) rfl (fun ls hl => ?_)
  have hl : LL ls 6 [some _, some _, some _, none, none, none] := hl
  refine lv_iconst (v := 0) hC.1 hC.2.1 dX3_weightOf_2 (by decide) ?_
  refine g_istore hC hl dX3_weightOf_3 (Nat.le_of_ble_eq_true rfl) rfl (fun ls hl => ?_)
  have hl : LL ls 6 [some _, some _, some _, none, some _, none] := hl
  exact loop5 (σ.1 + 1) 0 (by omega) (by omega) _ _ _ _ hO ls hl

set_option maxHeartbeats 4000000 in
set_option maxRecDepth 100000 in
/-- thingsOf -/
theorem c_X3_thingsOf (l : Launch) (κ : KK) (σ : ST) (p0 : Int32) : Met l yX3_thingsOf (wA yX3_thingsOf cX3_thingsOf 5 (some .int)) ({ frames := 2, cells := 0, slots := 0, locals := 45 }) (va_Pc [.ref (kad κ 0), .int p0] (WX κ σ)) (va_Qi (fun r σ' => σ = σ' ∧ r = csum σ p0 σ.1) (WX κ) (FA κ)) 0 0 (FA κ) := by
  refine g_met 3 (by decide) rfl (Nat.le_of_ble_eq_true rfl) ?_
  intro p e s m args below meth c hC F th hO ls hl
  have hl : LL ls 5 [some _, some _, none, none, none] := hl
  have h60 := hO.1.1
  have loop4 : ∀ (n i : Nat), σ.1 + 1 ≤ i + n → i ≤ σ.1 → ∀ (F : Nat → Nat → Int32) (th : Int32) (H : Heap) (locs : List Loc), OS κ s.heap σ F th H locs → ∀ ls : Array Slot, LL ls 5 [some (.ref (kad κ 0)), some (.int p0), some (.int (csum σ p0 i)), some (.int (nI i)), none] → W p l e ({ frames := 2, cells := 0, slots := 0, locals := 45 } : Room) s m args below meth c H locs 0 0 (MQ below (va_Qi (fun r σ' => σ = σ' ∧ r = csum σ p0 σ.1) (WX κ) (FA κ)) args s 0 0 (FA κ)) (F0 m 4 ls []) := by
    intro n
    induction n with
    | zero => intro i h1 h2; exact absurd h1 (by omega)
    | succ n ih =>
      intro i h1 h2 F th H locs hO ls hl
      refine g_iload_n hC hl dX3_thingsOf_4 rfl rfl ?_
      refine g_aload_n hC hl dX3_thingsOf_5 rfl rfl ?_
      refine g_get (ci := 3) (k := 1) hC hO rfl inX3 (by decide) q_fl_RX3_29 (nn_lt (Nat.le_of_ble_eq_true rfl)) rfl rfl dX3_thingsOf_6 ?_
      refine lv_icmp_ge (tgt := 64) hC.1 hC.2.1 dX3_thingsOf_9 (by decide) (fun c_1 => ?_) (fun c_1 => ?_)
      · skip
        rw [nI_leI (by omega) (by omega)] at c_1
        refine g_iload_n hC hl dX3_thingsOf_64 rfl rfl ?_
        exact g_iret hC hO dX3_thingsOf_65 (⟨rfl, by rw [show i = σ.1 by omega]⟩)
      · skip
        rw [nI_leI (by omega) (by omega)] at c_1
        refine g_iload_n hC hl dX3_thingsOf_12 rfl rfl ?_
        refine g_aload_n hC hl dX3_thingsOf_13 rfl rfl ?_
        refine g_get (ci := 3) (k := 0) hC hO rfl inX3 (by decide) q_fl_RX3_11 (nn_lt (Nat.le_of_ble_eq_true rfl)) rfl rfl dX3_thingsOf_14 ?_
        refine g_alenR (v := nI 60) hC hO (nn_lt (Nat.le_of_ble_eq_true rfl)) rfl rfl dX3_thingsOf_17 ?_
        refine lv_icmp_ge (tgt := 64) hC.1 hC.2.1 dX3_thingsOf_18 (by decide) (fun c_2 => ?_) (fun c_2 => ?_)
        · skip
          rw [nI_leI (by omega) (by omega)] at c_2
          exact absurd c_2 (by omega)
        · skip
          refine g_aload_n hC hl dX3_thingsOf_21 rfl rfl ?_
          refine g_get (ci := 3) (k := 0) hC hO rfl inX3 (by decide) q_fl_RX3_11 (nn_lt (Nat.le_of_ble_eq_true rfl)) rfl rfl dX3_thingsOf_22 ?_
          refine g_iload_n hC hl dX3_thingsOf_25 rfl rfl ?_
          refine g_aldq hC hO (nn_lt (Nat.le_of_ble_eq_true rfl)) rfl (vp_in_nI (by omega) (by omega)) dX3_thingsOf_26 ?_
          have hi : i < σ.1 := by omega
          rw [nI_clamp (n := i) (by omega), if_pos hi]
          refine g_astore hC hl dX3_thingsOf_27 (Nat.le_of_ble_eq_true rfl) rfl (fun ls hl => ?_)
          have hl : LL ls 5 [some _, some _, some _, some _, some _] := hl
          refine g_aload hC hl dX3_thingsOf_29 rfl ?_
          refine lv_ifnull hC.1 hC.2.1 dX3_thingsOf_31 ?_
          refine g_aload_n hC hl dX3_thingsOf_34 rfl rfl ?_
          refine lv_sipush (v := 1001) hC.1 hC.2.1 dX3_thingsOf_35 (by decide) ?_
          refine g_iload_n hC hl dX3_thingsOf_38 rfl rfl ?_
          refine lv_iadd hC.1 hC.2.1 dX3_thingsOf_39 ?_
          refine g_iload_n hC hl dX3_thingsOf_40 rfl rfl ?_
          refine g_cVi2 hC hO hl (ci := 3) rfl (nn_lt (Nat.le_of_ble_eq_true rfl)) rfl (c_X3_isWithin l κ _ _ _) mi_X3_isWithin q_ml_RX3_182 rfl rfl ⟨Nat.le_of_ble_eq_true rfl, Nat.le_of_ble_eq_true rfl⟩ (Nat.le_of_ble_eq_true rfl) ⟨Nat.zero_le _, Nat.zero_le _⟩ dX3_thingsOf_41 (fun r σ1 F th H locs hr hO => ?_)
          obtain ⟨rfl, rfl⟩ := hr
          refine lv_if_eq (tgt := 58) hC.1 hC.2.1 dX3_thingsOf_44 (by decide) (fun c_3 => ?_) (fun c_3 => ?_)
          · skip
            have c_3 := bI_z c_3
            have hw : csum σ p0 (i + 1) = csum σ p0 i := by rw [csum, if_neg (by rw [c_3]; decide)]
            refine g_iinc (v := nI (i + 1)) hC hl dX3_thingsOf_58 rfl (nI_i1 i) (Nat.le_of_ble_eq_true rfl) rfl (fun ls hl => ?_)
            have hl : LL ls 5 [some _, some _, some _, some _, some _] := hl
            refine lv_goto (tgt := 4) hC.1 hC.2.1 dX3_thingsOf_61 (by decide) ?_
            have hl := LL.drop hl 4
            exact ih (i + 1) (by omega) (by omega) _ _ _ _ hO ls (by rw [hw]; exact hl)
          · skip
            have c_3 := bI_nz c_3
            have hw : csum σ p0 (i + 1) = csum σ p0 i + nI (sR σ (rc i 0)).length := by rw [csum, if_pos c_3]
            refine g_iload_n hC hl dX3_thingsOf_47 rfl rfl ?_
            refine g_aload hC hl dX3_thingsOf_48 rfl ?_
            refine g_get (ci := 1) (k := 5) hC hO rfl inX1 (by decide) q_fl_RX3_58 (nn_rb hi) (sh_rec _ _ _ _ _) rfl dX3_thingsOf_50 ?_
            refine g_cVi0 hC hO hl (ci := 2) rfl (nn_rc hi (by decide)) (sh_row _ _ _ _ _ (by decide)) (c_X2_size l κ _ (i) (0) (by exact hi) (by decide)) mi_X2_size q_ml_RX3_89 rfl rfl ⟨Nat.le_of_ble_eq_true rfl, Nat.le_of_ble_eq_true rfl⟩ (Nat.le_of_ble_eq_true rfl) ⟨Nat.zero_le _, Nat.zero_le _⟩ dX3_thingsOf_53 (fun r σ1 F th H locs hr hO => ?_)
            obtain ⟨rfl, rfl⟩ := hr
            refine lv_iadd hC.1 hC.2.1 dX3_thingsOf_56 ?_
            refine g_istore_n hC hl dX3_thingsOf_57 rfl (Nat.le_of_ble_eq_true rfl) rfl (fun ls hl => ?_)
            have hl : LL ls 5 [some _, some _, some _, some _, some _] := hl
            refine g_iinc (v := nI (i + 1)) hC hl dX3_thingsOf_58 rfl (nI_i1 i) (Nat.le_of_ble_eq_true rfl) rfl (fun ls hl => ?_)
            have hl : LL ls 5 [some _, some _, some _, some _, some _] := hl
            refine lv_goto (tgt := 4) hC.1 hC.2.1 dX3_thingsOf_61 (by decide) ?_
            have hl := LL.drop hl 4
            exact ih (i + 1) (by omega) (by omega) _ _ _ _ hO ls (by rw [hw]; exact hl)
  refine lv_iconst (v := 1) hC.1 hC.2.1 dX3_thingsOf_0 (by decide) ?_
  refine g_istore_n hC hl dX3_thingsOf_1 rfl (Nat.le_of_ble_eq_true rfl) rfl (fun ls hl => ?_)
  have hl : LL ls 5 [some _, some _, some _, none, none] := hl
  refine lv_iconst (v := 0) hC.1 hC.2.1 dX3_thingsOf_2 (by decide) ?_
  refine g_istore_n hC hl dX3_thingsOf_3 rfl (Nat.le_of_ble_eq_true rfl) rfl (fun ls hl => ?_)
  have hl : LL ls 5 [some _, some _, some _, some _, none] := hl
  exact loop4 (σ.1 + 1) 0 (by omega) (by omega) _ _ _ _ hO ls hl
end
section
set_option maxHeartbeats 4000000 in
set_option maxRecDepth 100000 in
/-- BagRows.into -/
theorem c_X3_into (l : Launch) (κ : KK) (σ : ST) (p0 p1 : Int32) : Met l yX3_into (wA yX3_into cX3_into 4 (some .int)) ({ frames := 2, cells := 0, slots := 0, locals := 46 }) (va_Pc [.ref (kad κ 0), .int p0, .int p1] (WX κ σ)) (va_Qi (fun r σ' => (r, σ') = xInto σ p0 p1) (WX κ) (FA κ)) 0 0 (FA κ) := by
  refine g_met 1 (by decide) rfl (Nat.le_of_ble_eq_true rfl) ?_
  intro p e s m args below meth c hC F th hO ls hl
  have hl : LL ls 4 [some _, some _, some _, none] := hl
  refine g_aload_n hC hl dX3_into_0 rfl rfl ?_
  refine g_iload_n hC hl dX3_into_1 rfl rfl ?_
  refine g_cVq1 hC hO hl (ci := 3) rfl (nn_lt (Nat.le_of_ble_eq_true rfl)) rfl (c_X3_receptacleOf l κ _ _) mi_X3_receptacleOf q_ml_RX3_36 rfl rfl ⟨Nat.le_of_ble_eq_true rfl, Nat.le_of_ble_eq_true rfl⟩ (Nat.le_of_ble_eq_true rfl) ⟨Nat.zero_le _, Nat.zero_le _⟩ dX3_into_2 (fun r σ1 F th H locs hr hO => ?_)
  obtain ⟨rfl, hr⟩ := hr
  rcases hr with ⟨rfl, hq2⟩ | ⟨k, hq2, rfl⟩
  · skip
    refine g_astore_nN hC hl dX3_into_5 rfl (Nat.le_of_ble_eq_true rfl) rfl (fun ls hl => ?_)
    have hl : LL ls 4 [some _, some _, some _, some _] := hl
    refine g_aload_nN hC hl dX3_into_6 rfl rfl ?_
    refine lv_ifnullN (tgt := 18) hC.1 hC.2.1 dX3_into_7 (by decide) ?_
    refine lv_bipush (v := (-11)) hC.1 hC.2.1 dX3_into_18 (by decide) ?_
    exact g_iret hC hO dX3_into_20 (by unfold xInto fullB; simp [hq2])
  · have hk := recOf_lt hq2
    refine g_astore_n hC hl dX3_into_5 rfl (Nat.le_of_ble_eq_true rfl) rfl (fun ls hl => ?_)
    have hl : LL ls 4 [some _, some _, some _, some _] := hl
    refine g_aload_n hC hl dX3_into_6 rfl rfl ?_
    refine lv_ifnull hC.1 hC.2.1 dX3_into_7 ?_
    refine g_aload_n hC hl dX3_into_10 rfl rfl ?_
    refine g_iload_n hC hl dX3_into_11 rfl rfl ?_
    refine g_cVi1 hC hO hl (ci := 3) rfl (nn_lt (Nat.le_of_ble_eq_true rfl)) rfl (c_X3_isThing l κ _ _) mi_X3_isThing q_ml_RX3_40 rfl rfl ⟨Nat.le_of_ble_eq_true rfl, Nat.le_of_ble_eq_true rfl⟩ (Nat.le_of_ble_eq_true rfl) ⟨Nat.zero_le _, Nat.zero_le _⟩ dX3_into_12 (fun r σ1 F th H locs hr hO => ?_)
    obtain ⟨rfl, rfl⟩ := hr
    refine lv_if_ne (tgt := 21) hC.1 hC.2.1 dX3_into_15 (by decide) (fun c_1 => ?_) (fun c_1 => ?_)
    · skip
      have c_1 := bI_nz c_1
      refine g_aload_n hC hl dX3_into_21 rfl rfl ?_
      refine g_iload_n hC hl dX3_into_22 rfl rfl ?_
      refine g_cVi1 hC hO hl (ci := 3) rfl (nn_lt (Nat.le_of_ble_eq_true rfl)) rfl (c_X3_isShut l κ _ _) mi_X3_isShut q_ml_RX3_44 rfl rfl ⟨Nat.le_of_ble_eq_true rfl, Nat.le_of_ble_eq_true rfl⟩ (Nat.le_of_ble_eq_true rfl) ⟨Nat.zero_le _, Nat.zero_le _⟩ dX3_into_23 (fun r σ1 F th H locs hr hO => ?_)
      obtain ⟨rfl, rfl⟩ := hr
      refine lv_if_ne (tgt := 59) hC.1 hC.2.1 dX3_into_26 (by decide) (fun c_2 => ?_) (fun c_2 => ?_)
      · skip
        have c_2 := bI_nz c_2
        refine lv_bipush (v := (-13)) hC.1 hC.2.1 dX3_into_59 (by decide) ?_
        exact g_iret hC hO dX3_into_61 (by unfold xInto fullB; simp [c_1, c_2, hq2])
      · skip
        have c_2 := bI_z c_2
        refine g_aload_n hC hl dX3_into_29 rfl rfl ?_
        refine g_iload_n hC hl dX3_into_30 rfl rfl ?_
        refine g_cVi1 hC hO hl (ci := 3) rfl (nn_lt (Nat.le_of_ble_eq_true rfl)) rfl (c_X3_holderOf l κ _ _) mi_X3_holderOf q_ml_RX3_47 rfl rfl ⟨Nat.le_of_ble_eq_true rfl, Nat.le_of_ble_eq_true rfl⟩ (Nat.le_of_ble_eq_true rfl) ⟨Nat.zero_le _, Nat.zero_le _⟩ dX3_into_31 (fun r σ1 F th H locs hr hO => ?_)
        obtain ⟨rfl, rfl⟩ := hr
        refine lv_if_ne (tgt := 59) hC.1 hC.2.1 dX3_into_34 (by decide) (fun c_3 => ?_) (fun c_3 => ?_)
        · skip
          refine lv_bipush (v := (-13)) hC.1 hC.2.1 dX3_into_59 (by decide) ?_
          exact g_iret hC hO dX3_into_61 (by unfold xInto fullB; simp [c_1, c_2, c_3, hq2])
        · skip
          refine g_aload_n hC hl dX3_into_37 rfl rfl ?_
          refine g_iload_n hC hl dX3_into_38 rfl rfl ?_
          refine g_aload_n hC hl dX3_into_39 rfl rfl ?_
          refine g_cVi2 hC hO hl (ci := 3) rfl (nn_lt (Nat.le_of_ble_eq_true rfl)) rfl (c_X3_isLesser l κ _ k (by exact hk) _) mi_X3_isLesser q_ml_RX3_51 rfl rfl ⟨Nat.le_of_ble_eq_true rfl, Nat.le_of_ble_eq_true rfl⟩ (Nat.le_of_ble_eq_true rfl) ⟨Nat.zero_le _, Nat.zero_le _⟩ dX3_into_40 (fun r σ1 F th H locs hr hO => ?_)
          obtain ⟨rfl, rfl⟩ := hr
          refine lv_if_eq (tgt := 59) hC.1 hC.2.1 dX3_into_43 (by decide) (fun c_4 => ?_) (fun c_4 => ?_)
          · skip
            have c_4 := bI_z c_4
            refine lv_bipush (v := (-13)) hC.1 hC.2.1 dX3_into_59 (by decide) ?_
            exact g_iret hC hO dX3_into_61 (by unfold xInto fullB; simp [c_1, c_2, c_3, c_4, hq2])
          · skip
            have c_4 := bI_nz c_4
            refine g_aload_n hC hl dX3_into_46 rfl rfl ?_
            refine g_iload_n hC hl dX3_into_47 rfl rfl ?_
            refine g_cVi1 hC hO hl (ci := 3) rfl (nn_lt (Nat.le_of_ble_eq_true rfl)) rfl (c_X3_placeOf l κ _ _) mi_X3_placeOf q_ml_RX3_55 rfl rfl ⟨Nat.le_of_ble_eq_true rfl, Nat.le_of_ble_eq_true rfl⟩ (Nat.le_of_ble_eq_true rfl) ⟨Nat.zero_le _, Nat.zero_le _⟩ dX3_into_48 (fun r σ1 F th H locs hr hO => ?_)
            obtain ⟨rfl, rfl⟩ := hr
            refine g_aload_n hC hl dX3_into_51 rfl rfl ?_
            refine g_iload_n hC hl dX3_into_52 rfl rfl ?_
            refine g_cVi1 hC hO hl (ci := 3) rfl (nn_lt (Nat.le_of_ble_eq_true rfl)) rfl (c_X3_placeOf l κ _ _) mi_X3_placeOf q_ml_RX3_55 rfl rfl ⟨Nat.le_of_ble_eq_true rfl, Nat.le_of_ble_eq_true rfl⟩ (Nat.le_of_ble_eq_true rfl) ⟨Nat.zero_le _, Nat.zero_le _⟩ dX3_into_53 (fun r σ1 F th H locs hr hO => ?_)
            obtain ⟨rfl, rfl⟩ := hr
            refine lv_icmp_eq (tgt := 62) hC.1 hC.2.1 dX3_into_56 (by decide) (fun c_5 => ?_) (fun c_5 => ?_)
            · skip
              refine g_aload_n hC hl dX3_into_62 rfl rfl ?_
              refine g_get (ci := 1) (k := 5) hC hO rfl inX1 (by decide) q_fl_RX3_58 (nn_rb hk) (sh_rec _ _ _ _ _) rfl dX3_into_63 ?_
              refine g_cVi0 hC hO hl (ci := 2) rfl (nn_rc hk (by decide)) (sh_row _ _ _ _ _ (by decide)) (c_X2_isFull l κ _ (k) (0) (by exact hk) (by decide)) mi_X2_isFull q_ml_RX3_62 rfl rfl ⟨Nat.le_of_ble_eq_true rfl, Nat.le_of_ble_eq_true rfl⟩ (Nat.le_of_ble_eq_true rfl) ⟨Nat.zero_le _, Nat.zero_le _⟩ dX3_into_66 (fun r σ1 F th H locs hr hO => ?_)
              obtain ⟨rfl, rfl⟩ := hr
              refine lv_if_eq (tgt := 75) hC.1 hC.2.1 dX3_into_69 (by decide) (fun c_6 => ?_) (fun c_6 => ?_)
              · skip
                have c_6 := bI_z c_6
                refine g_aload_n hC hl dX3_into_75 rfl rfl ?_
                refine g_aload_n hC hl dX3_into_76 rfl rfl ?_
                refine g_iload_n hC hl dX3_into_77 rfl rfl ?_
                refine g_iload_n hC hl dX3_into_78 rfl rfl ?_
                refine g_cVv3 hC hO hl (ci := 3) rfl (nn_lt (Nat.le_of_ble_eq_true rfl)) rfl (c_X3_putIn l κ _ k (by exact hk) _ _) mi_X3_putIn q_ml_RX3_68 rfl rfl ⟨Nat.le_of_ble_eq_true rfl, Nat.le_of_ble_eq_true rfl⟩ (Nat.le_of_ble_eq_true rfl) ⟨Nat.zero_le _, Nat.zero_le _⟩ dX3_into_79 (fun σ1 F th H locs hr hO => ?_)
                subst hr
                refine lv_iconst (v := 1) hC.1 hC.2.1 dX3_into_82 (by decide) ?_
                exact g_iret hC hO dX3_into_83 (by unfold xInto fullB; simp [c_1, c_2, c_3, c_4, c_5, c_6, hq2])
              · skip
                have c_6 := bI_nz c_6
                refine lv_bipush (v := (-14)) hC.1 hC.2.1 dX3_into_72 (by decide) ?_
                exact g_iret hC hO dX3_into_74 (by unfold xInto fullB; simp [c_1, c_2, c_3, c_4, c_5, c_6, hq2])
            · skip
              refine lv_bipush (v := (-13)) hC.1 hC.2.1 dX3_into_59 (by decide) ?_
              exact g_iret hC hO dX3_into_61 (by unfold xInto fullB; simp [c_1, c_2, c_3, c_4, c_5, hq2])
    · skip
      have c_1 := bI_z c_1
      refine lv_bipush (v := (-11)) hC.1 hC.2.1 dX3_into_18 (by decide) ?_
      exact g_iret hC hO dX3_into_20 (by unfold xInto fullB; simp [c_1, hq2])

set_option maxHeartbeats 4000000 in
set_option maxRecDepth 100000 in
/-- BagRows.take -/
theorem c_X3_take (l : Launch) (κ : KK) (σ : ST) (p0 : Int32) : Met l yX3_take (wA yX3_take cX3_take 3 (some .int)) ({ frames := 3, cells := 0, slots := 0, locals := 66 }) (va_Pc [.ref (kad κ 0), .int p0] (WX κ σ)) (va_Qi (fun r σ' => (r, σ') = xTake σ p0) (WX κ) (FA κ)) 0 0 (FA κ) := by
  refine g_met 1 (by decide) rfl (Nat.le_of_ble_eq_true rfl) ?_
  intro p e s m args below meth c hC F th hO ls hl
  have hl : LL ls 3 [some _, some _, none] := hl
  refine g_aload_n hC hl dX3_take_0 rfl rfl ?_
  refine g_iload_n hC hl dX3_take_1 rfl rfl ?_
  refine g_cVi1 hC hO hl (ci := 3) rfl (nn_lt (Nat.le_of_ble_eq_true rfl)) rfl (c_X3_isThing l κ _ _) mi_X3_isThing q_ml_RX3_40 rfl rfl ⟨Nat.le_of_ble_eq_true rfl, Nat.le_of_ble_eq_true rfl⟩ (Nat.le_of_ble_eq_true rfl) ⟨Nat.zero_le _, Nat.zero_le _⟩ dX3_take_2 (fun r σ1 F th H locs hr hO => ?_)
  obtain ⟨rfl, rfl⟩ := hr
  refine lv_if_ne (tgt := 11) hC.1 hC.2.1 dX3_take_5 (by decide) (fun c_1 => ?_) (fun c_1 => ?_)
  · skip
    have c_1 := bI_nz c_1
    refine g_aload_n hC hl dX3_take_11 rfl rfl ?_
    refine g_iload_n hC hl dX3_take_12 rfl rfl ?_
    refine g_cVi1 hC hO hl (ci := 3) rfl (nn_lt (Nat.le_of_ble_eq_true rfl)) rfl (c_X3_holderOf l κ _ _) mi_X3_holderOf q_ml_RX3_47 rfl rfl ⟨Nat.le_of_ble_eq_true rfl, Nat.le_of_ble_eq_true rfl⟩ (Nat.le_of_ble_eq_true rfl) ⟨Nat.zero_le _, Nat.zero_le _⟩ dX3_take_13 (fun r σ1 F th H locs hr hO => ?_)
    obtain ⟨rfl, rfl⟩ := hr
    refine g_istore_n hC hl dX3_take_16 rfl (Nat.le_of_ble_eq_true rfl) rfl (fun ls hl => ?_)
    have hl : LL ls 3 [some _, some _, some _] := hl
    refine g_iload_n hC hl dX3_take_17 rfl rfl ?_
    refine lv_if_eq (tgt := 29) hC.1 hC.2.1 dX3_take_18 (by decide) (fun c_2 => ?_) (fun c_2 => ?_)
    · skip
      refine lv_bipush (v := (-13)) hC.1 hC.2.1 dX3_take_29 (by decide) ?_
      exact g_iret hC hO dX3_take_31 (by unfold xTake; simp [c_1, c_2])
    · skip
      refine g_aload_n hC hl dX3_take_21 rfl rfl ?_
      refine g_iload_n hC hl dX3_take_22 rfl rfl ?_
      refine g_cVi1 hC hO hl (ci := 3) rfl (nn_lt (Nat.le_of_ble_eq_true rfl)) rfl (c_X3_isShut l κ _ _) mi_X3_isShut q_ml_RX3_44 rfl rfl ⟨Nat.le_of_ble_eq_true rfl, Nat.le_of_ble_eq_true rfl⟩ (Nat.le_of_ble_eq_true rfl) ⟨Nat.zero_le _, Nat.zero_le _⟩ dX3_take_23 (fun r σ1 F th H locs hr hO => ?_)
      obtain ⟨rfl, rfl⟩ := hr
      refine lv_if_eq (tgt := 32) hC.1 hC.2.1 dX3_take_26 (by decide) (fun c_3 => ?_) (fun c_3 => ?_)
      · skip
        have c_3 := bI_z c_3
        refine g_aload_n hC hl dX3_take_32 rfl rfl ?_
        refine g_iload_n hC hl dX3_take_33 rfl rfl ?_
        refine g_cVv1 hC hO hl (ci := 3) rfl (nn_lt (Nat.le_of_ble_eq_true rfl)) rfl (c_X3_takeOut l κ _ _) mi_X3_takeOut q_ml_RX3_72 rfl rfl ⟨Nat.le_of_ble_eq_true rfl, Nat.le_of_ble_eq_true rfl⟩ (Nat.le_of_ble_eq_true rfl) ⟨Nat.zero_le _, Nat.zero_le _⟩ dX3_take_34 (fun σ1 F th H locs hr hO => ?_)
        subst hr
        refine g_iload_n hC hl dX3_take_37 rfl rfl ?_
        exact g_iret hC hO dX3_take_38 (by unfold xTake; simp [c_1, c_2, c_3])
      · skip
        have c_3 := bI_nz c_3
        refine lv_bipush (v := (-13)) hC.1 hC.2.1 dX3_take_29 (by decide) ?_
        exact g_iret hC hO dX3_take_31 (by unfold xTake; simp [c_1, c_2, c_3])
  · skip
    have c_1 := bI_z c_1
    refine lv_bipush (v := (-11)) hC.1 hC.2.1 dX3_take_8 (by decide) ?_
    exact g_iret hC hO dX3_take_10 (by unfold xTake; simp [c_1])

set_option maxHeartbeats 4000000 in
set_option maxRecDepth 100000 in
/-- BagRows.close -/
theorem c_X3_close (l : Launch) (κ : KK) (σ : ST) (p0 : Int32) (p1 : Int64) (p2 : Int32) : Met l yX3_close (wA yX3_close cX3_close 6 (some .int)) ({ frames := 3, cells := 0, slots := 0, locals := 66 }) (va_Pc [.ref (kad κ 0), .int p0, .long p1, .int p2] (WX κ σ)) (va_Qi (fun r σ' => (r, σ') = xClose σ p0 p1 p2) (WX κ) (FA κ)) 0 0 (FA κ) := by
  refine g_met 1 (by decide) rfl (Nat.le_of_ble_eq_true rfl) ?_
  intro p e s m args below meth c hC F th hO ls hl
  have hl : LL ls 6 [some _, some _, some _, none, some _, none] := hl
  refine g_aload_n hC hl dX3_close_0 rfl rfl ?_
  refine g_iload_n hC hl dX3_close_1 rfl rfl ?_
  refine g_cVq1 hC hO hl (ci := 3) rfl (nn_lt (Nat.le_of_ble_eq_true rfl)) rfl (c_X3_receptacleOf l κ _ _) mi_X3_receptacleOf q_ml_RX3_36 rfl rfl ⟨Nat.le_of_ble_eq_true rfl, Nat.le_of_ble_eq_true rfl⟩ (Nat.le_of_ble_eq_true rfl) ⟨Nat.zero_le _, Nat.zero_le _⟩ dX3_close_2 (fun r σ1 F th H locs hr hO => ?_)
  obtain ⟨rfl, hr⟩ := hr
  rcases hr with ⟨rfl, hq2⟩ | ⟨k, hq2, rfl⟩
  · skip
    refine g_astoreN hC hl dX3_close_5 (Nat.le_of_ble_eq_true rfl) rfl (fun ls hl => ?_)
    have hl : LL ls 6 [some _, some _, some _, none, some _, some _] := hl
    refine g_aloadN hC hl dX3_close_7 rfl ?_
    refine lv_ifnonnullN hC.1 hC.2.1 dX3_close_9 ?_
    refine lv_bipush (v := (-11)) hC.1 hC.2.1 dX3_close_12 (by decide) ?_
    exact g_iret hC hO dX3_close_14 (by unfold xClose; simp [hq2])
  · have hk := recOf_lt hq2
    refine g_astore hC hl dX3_close_5 (Nat.le_of_ble_eq_true rfl) rfl (fun ls hl => ?_)
    have hl : LL ls 6 [some _, some _, some _, none, some _, some _] := hl
    refine g_aload hC hl dX3_close_7 rfl ?_
    refine lv_ifnonnull (tgt := 15) hC.1 hC.2.1 dX3_close_9 (by decide) ?_
    refine g_lload_n hC hl dX3_close_15 rfl rfl ?_
    refine g_cSi1 hC hO hl (c_X3_isSeal l κ _ _) mi_X3_isSeal q_ml_RX3_75 rfl rfl ⟨Nat.le_of_ble_eq_true rfl, Nat.le_of_ble_eq_true rfl⟩ (Nat.le_of_ble_eq_true rfl) ⟨Nat.zero_le _, Nat.zero_le _⟩ dX3_close_16 (fun r σ1 F th H locs hr hO => ?_)
    obtain ⟨rfl, rfl⟩ := hr
    refine lv_if_eq (tgt := 30) hC.1 hC.2.1 dX3_close_19 (by decide) (fun c_1 => ?_) (fun c_1 => ?_)
    · skip
      have c_1 := bI_z c_1
      refine lv_bipush (v := (-12)) hC.1 hC.2.1 dX3_close_30 (by decide) ?_
      exact g_iret hC hO dX3_close_32 (by unfold xClose; simp [c_1, hq2])
    · skip
      have c_1 := bI_nz c_1
      refine g_iload hC hl dX3_close_22 rfl ?_
      refine g_cSi1 hC hO hl (c_X3_isPerson l κ _ _) mi_X3_isPerson q_ml_RX3_79 rfl rfl ⟨Nat.le_of_ble_eq_true rfl, Nat.le_of_ble_eq_true rfl⟩ (Nat.le_of_ble_eq_true rfl) ⟨Nat.zero_le _, Nat.zero_le _⟩ dX3_close_24 (fun r σ1 F th H locs hr hO => ?_)
      obtain ⟨rfl, rfl⟩ := hr
      refine lv_if_ne (tgt := 33) hC.1 hC.2.1 dX3_close_27 (by decide) (fun c_2 => ?_) (fun c_2 => ?_)
      · skip
        have c_2 := bI_nz c_2
        refine g_aload_n hC hl dX3_close_33 rfl rfl ?_
        refine g_iload_n hC hl dX3_close_34 rfl rfl ?_
        refine g_cVi1 hC hO hl (ci := 3) rfl (nn_lt (Nat.le_of_ble_eq_true rfl)) rfl (c_X3_isShut l κ _ _) mi_X3_isShut q_ml_RX3_44 rfl rfl ⟨Nat.le_of_ble_eq_true rfl, Nat.le_of_ble_eq_true rfl⟩ (Nat.le_of_ble_eq_true rfl) ⟨Nat.zero_le _, Nat.zero_le _⟩ dX3_close_35 (fun r σ1 F th H locs hr hO => ?_)
        obtain ⟨rfl, rfl⟩ := hr
        refine lv_if_eq (tgt := 44) hC.1 hC.2.1 dX3_close_38 (by decide) (fun c_3 => ?_) (fun c_3 => ?_)
        · skip
          have c_3 := bI_z c_3
          refine g_aload hC hl dX3_close_44 rfl ?_
          refine g_lload_n hC hl dX3_close_46 rfl rfl ?_
          refine g_iload hC hl dX3_close_47 rfl ?_
          refine g_cVv2 hC hO hl (ci := 1) rfl (nn_rb hk) (sh_rec _ _ _ _ _) (c_X1_shut l κ _ (k) (by exact hk) _ _) mi_X1_shut q_ml_RX3_82 rfl rfl ⟨Nat.le_of_ble_eq_true rfl, Nat.le_of_ble_eq_true rfl⟩ (Nat.le_of_ble_eq_true rfl) ⟨Nat.zero_le _, Nat.zero_le _⟩ dX3_close_49 (fun σ1 F th H locs hr hO => ?_)
          subst hr
          refine g_aload hC hl dX3_close_52 rfl ?_
          refine g_get (ci := 1) (k := 6) hC hO rfl inX1 (by decide) q_fl_RX3_86 (nn_rb hk) (sh_rec _ _ _ _ _) rfl dX3_close_54 ?_
          refine g_cVi0 hC hO hl (ci := 2) rfl (nn_rc hk (by decide)) (sh_row _ _ _ _ _ (by decide)) (c_X2_size l κ _ (k) (1) (by exact hk) (by decide)) mi_X2_size q_ml_RX3_89 rfl rfl ⟨Nat.le_of_ble_eq_true rfl, Nat.le_of_ble_eq_true rfl⟩ (Nat.le_of_ble_eq_true rfl) ⟨Nat.zero_le _, Nat.zero_le _⟩ dX3_close_57 (fun r σ1 F th H locs hr hO => ?_)
          obtain ⟨rfl, rfl⟩ := hr
          exact g_iret hC hO dX3_close_60 (by unfold xClose; simp [c_1, c_2, c_3, hq2])
        · skip
          have c_3 := bI_nz c_3
          refine lv_bipush (v := (-13)) hC.1 hC.2.1 dX3_close_41 (by decide) ?_
          exact g_iret hC hO dX3_close_43 (by unfold xClose; simp [c_1, c_2, c_3, hq2])
      · skip
        have c_2 := bI_z c_2
        refine lv_bipush (v := (-12)) hC.1 hC.2.1 dX3_close_30 (by decide) ?_
        exact g_iret hC hO dX3_close_32 (by unfold xClose; simp [c_1, c_2, hq2])

set_option maxHeartbeats 4000000 in
set_option maxRecDepth 100000 in
/-- BagRows.open -/
theorem c_X3_open (l : Launch) (κ : KK) (σ : ST) (n : Nat) (hn : sI σ 4 1 = nI n) (hn2 : n < 512) (p0 : Int32) (p1 : Int64) (p2 p3 : Int32) : Met l yX3_open (wA yX3_open cX3_open 7 (some .int)) ({ frames := 3, cells := 0, slots := 0, locals := 65 }) (va_Pc [.ref (kad κ 0), .int p0, .long p1, .int p2, .int p3] (WX κ σ)) (va_Qi (fun r σ' => (r, σ') = xOpen σ p0 p1 p2 p3) (WX κ) (FA κ)) 0 0 (FA κ) := by
  refine g_met 1 (by decide) rfl (Nat.le_of_ble_eq_true rfl) ?_
  intro p e s m args below meth c hC F th hO ls hl
  have hl : LL ls 7 [some _, some _, some _, none, some _, some _, none] := hl
  refine g_aload_n hC hl dX3_open_0 rfl rfl ?_
  refine g_iload_n hC hl dX3_open_1 rfl rfl ?_
  refine g_cVq1 hC hO hl (ci := 3) rfl (nn_lt (Nat.le_of_ble_eq_true rfl)) rfl (c_X3_receptacleOf l κ _ _) mi_X3_receptacleOf q_ml_RX3_36 rfl rfl ⟨Nat.le_of_ble_eq_true rfl, Nat.le_of_ble_eq_true rfl⟩ (Nat.le_of_ble_eq_true rfl) ⟨Nat.zero_le _, Nat.zero_le _⟩ dX3_open_2 (fun r σ1 F th H locs hr hO => ?_)
  obtain ⟨rfl, hr⟩ := hr
  rcases hr with ⟨rfl, hq2⟩ | ⟨k, hq2, rfl⟩
  · skip
    refine g_astoreN hC hl dX3_open_5 (Nat.le_of_ble_eq_true rfl) rfl (fun ls hl => ?_)
    have hl : LL ls 7 [some _, some _, some _, none, some _, some _, some _] := hl
    refine g_aloadN hC hl dX3_open_7 rfl ?_
    refine lv_ifnonnullN hC.1 hC.2.1 dX3_open_9 ?_
    refine lv_bipush (v := (-11)) hC.1 hC.2.1 dX3_open_12 (by decide) ?_
    exact g_iret hC hO dX3_open_14 (by unfold xOpen timeS; simp [hq2])
  · have hk := recOf_lt hq2
    refine g_astore hC hl dX3_open_5 (Nat.le_of_ble_eq_true rfl) rfl (fun ls hl => ?_)
    have hl : LL ls 7 [some _, some _, some _, none, some _, some _, some _] := hl
    refine g_aload hC hl dX3_open_7 rfl ?_
    refine lv_ifnonnull (tgt := 15) hC.1 hC.2.1 dX3_open_9 (by decide) ?_
    refine g_lload_n hC hl dX3_open_15 rfl rfl ?_
    refine g_cSi1 hC hO hl (c_X3_isSeal l κ _ _) mi_X3_isSeal q_ml_RX3_75 rfl rfl ⟨Nat.le_of_ble_eq_true rfl, Nat.le_of_ble_eq_true rfl⟩ (Nat.le_of_ble_eq_true rfl) ⟨Nat.zero_le _, Nat.zero_le _⟩ dX3_open_16 (fun r σ1 F th H locs hr hO => ?_)
    obtain ⟨rfl, rfl⟩ := hr
    refine lv_if_eq (tgt := 44) hC.1 hC.2.1 dX3_open_19 (by decide) (fun c_1 => ?_) (fun c_1 => ?_)
    · skip
      have c_1 := bI_z c_1
      refine lv_bipush (v := (-12)) hC.1 hC.2.1 dX3_open_44 (by decide) ?_
      exact g_iret hC hO dX3_open_46 (by unfold xOpen timeS; simp [c_1, hq2])
    · skip
      have c_1 := bI_nz c_1
      refine g_iload hC hl dX3_open_22 rfl ?_
      refine g_cSi1 hC hO hl (c_X3_isPerson l κ _ _) mi_X3_isPerson q_ml_RX3_79 rfl rfl ⟨Nat.le_of_ble_eq_true rfl, Nat.le_of_ble_eq_true rfl⟩ (Nat.le_of_ble_eq_true rfl) ⟨Nat.zero_le _, Nat.zero_le _⟩ dX3_open_24 (fun r σ1 F th H locs hr hO => ?_)
      obtain ⟨rfl, rfl⟩ := hr
      refine lv_if_eq (tgt := 44) hC.1 hC.2.1 dX3_open_27 (by decide) (fun c_2 => ?_) (fun c_2 => ?_)
      · skip
        have c_2 := bI_z c_2
        refine lv_bipush (v := (-12)) hC.1 hC.2.1 dX3_open_44 (by decide) ?_
        exact g_iret hC hO dX3_open_46 (by unfold xOpen timeS; simp [c_1, c_2, hq2])
      · skip
        have c_2 := bI_nz c_2
        refine g_iload hC hl dX3_open_30 rfl ?_
        refine lv_iconst (v := (-1)) hC.1 hC.2.1 dX3_open_32 (by decide) ?_
        refine lv_icmp_eq (tgt := 47) hC.1 hC.2.1 dX3_open_33 (by decide) (fun c_3 => ?_) (fun c_3 => ?_)
        · skip
          have h33 : orPerson p3 = true := by simp [orPerson, c_3]
          refine g_aload hC hl dX3_open_47 rfl ?_
          refine g_get (ci := 1) (k := 1) hC hO rfl inX1 (by decide) q_fl_RX3_93 (nn_rb hk) (sh_rec _ _ _ _ _) rfl dX3_open_49 ?_
          refine lv_if_eq (tgt := 79) hC.1 hC.2.1 dX3_open_52 (by decide) (fun c_4 => ?_) (fun c_4 => ?_)
          · skip
            refine lv_bipush (v := (-13)) hC.1 hC.2.1 dX3_open_79 (by decide) ?_
            exact g_iret hC hO dX3_open_81 (by unfold xOpen timeS; simp [c_1, c_2, h33, c_4, hq2])
          · skip
            refine g_aload_n hC hl dX3_open_55 rfl rfl ?_
            refine g_aload_n hC hl dX3_open_56 rfl rfl ?_
            refine g_iload_n hC hl dX3_open_57 rfl rfl ?_
            refine g_cVi1 hC hO hl (ci := 3) rfl (nn_lt (Nat.le_of_ble_eq_true rfl)) rfl (c_X3_holderOf l κ _ _) mi_X3_holderOf q_ml_RX3_47 rfl rfl ⟨Nat.le_of_ble_eq_true rfl, Nat.le_of_ble_eq_true rfl⟩ (Nat.le_of_ble_eq_true rfl) ⟨Nat.zero_le _, Nat.zero_le _⟩ dX3_open_58 (fun r σ1 F th H locs hr hO => ?_)
            obtain ⟨rfl, rfl⟩ := hr
            refine g_cVi1 hC hO hl (ci := 3) rfl (nn_lt (Nat.le_of_ble_eq_true rfl)) rfl (c_X3_isShut l κ _ _) mi_X3_isShut q_ml_RX3_44 rfl rfl ⟨Nat.le_of_ble_eq_true rfl, Nat.le_of_ble_eq_true rfl⟩ (Nat.le_of_ble_eq_true rfl) ⟨Nat.zero_le _, Nat.zero_le _⟩ dX3_open_61 (fun r σ1 F th H locs hr hO => ?_)
            obtain ⟨rfl, rfl⟩ := hr
            refine lv_if_ne (tgt := 79) hC.1 hC.2.1 dX3_open_64 (by decide) (fun c_5 => ?_) (fun c_5 => ?_)
            · skip
              have c_5 := bI_nz c_5
              refine lv_bipush (v := (-13)) hC.1 hC.2.1 dX3_open_79 (by decide) ?_
              exact g_iret hC hO dX3_open_81 (by unfold xOpen timeS; simp [c_1, c_2, h33, c_4, c_5, hq2])
            · skip
              have c_5 := bI_z c_5
              refine g_aload hC hl dX3_open_67 rfl ?_
              refine g_iload hC hl dX3_open_69 rfl ?_
              refine g_iload hC hl dX3_open_71 rfl ?_
              refine g_cVi2 hC hO hl (ci := 1) rfl (nn_rb hk) (sh_rec _ _ _ _ _) (c_X1_mayBeOpenedBy l κ _ (k) (by exact hk) _ _) mi_X1_mayBeOpenedBy q_ml_RX3_97 rfl rfl ⟨Nat.le_of_ble_eq_true rfl, Nat.le_of_ble_eq_true rfl⟩ (Nat.le_of_ble_eq_true rfl) ⟨Nat.zero_le _, Nat.zero_le _⟩ dX3_open_73 (fun r σ1 F th H locs hr hO => ?_)
              obtain ⟨rfl, rfl⟩ := hr
              refine lv_if_ne (tgt := 82) hC.1 hC.2.1 dX3_open_76 (by decide) (fun c_6 => ?_) (fun c_6 => ?_)
              · skip
                have c_6 := bI_nz c_6
                refine g_aload hC hl dX3_open_82 rfl ?_
                refine g_lload_n hC hl dX3_open_84 rfl rfl ?_
                refine g_cVi1 hC hO hl (ci := 1) rfl (nn_rb hk) (sh_rec _ _ _ _ _) (c_X1_unseal l κ _ (k) (by exact hk) _) mi_X1_unseal q_ml_RX3_101 rfl rfl ⟨Nat.le_of_ble_eq_true rfl, Nat.le_of_ble_eq_true rfl⟩ (Nat.le_of_ble_eq_true rfl) ⟨Nat.zero_le _, Nat.zero_le _⟩ dX3_open_85 (fun r σ1 F th H locs hr hO => ?_)
                obtain ⟨rfl, rfl⟩ := hr
                refine lv_if_eq (tgt := 93) hC.1 hC.2.1 dX3_open_88 (by decide) (fun c_7 => ?_) (fun c_7 => ?_)
                · skip
                  have c_7 := of_decide_eq_false (bI_z c_7)
                  refine g_aload_n hC hl dX3_open_93 rfl rfl ?_
                  refine g_get (ci := 3) (k := 4) hC hO rfl inX3 (by decide) q_fl_RX3_25 (nn_lt (Nat.le_of_ble_eq_true rfl)) rfl rfl dX3_open_94 ?_
                  refine g_aload_n hC hl dX3_open_97 rfl rfl ?_
                  refine g_get (ci := 3) (k := 5) hC hO rfl inX3 (by decide) q_fl_RX3_104 (nn_lt (Nat.le_of_ble_eq_true rfl)) rfl rfl dX3_open_98 ?_
                  refine lv_ldc2 hC.1 hC.2.1 hC.2.2.2.1 (hC.2.2.2.2.1 _ q_kl_RX3_108) dX3_open_101 ?_
                  refine lv_ladd hC.1 hC.2.1 dX3_open_104 ?_
                  refine g_cVv1 hC hO hl (ci := 0) rfl (nn_lt (Nat.le_of_ble_eq_true rfl)) rfl (c_X0_add l κ _ n (by rw [sI4_unseal]; exact hn) hn2 _) mi_X0_add q_ml_RX3_110 rfl rfl ⟨Nat.le_of_ble_eq_true rfl, Nat.le_of_ble_eq_true rfl⟩ (Nat.le_of_ble_eq_true rfl) ⟨Nat.zero_le _, Nat.zero_le _⟩ dX3_open_105 (fun σ1 F th H locs hr hO => ?_)
                  rw [noteS_eq (by rw [sI4_unseal]; exact hn) hn2] at hr
                  subst hr
                  refine lv_iconst (v := (-1)) hC.1 hC.2.1 dX3_open_108 (by decide) ?_
                  exact g_iret hC hO dX3_open_109 (by unfold xOpen timeS; simp [c_1, c_2, h33, c_4, c_5, c_6, c_7, hq2])
                · skip
                  have c_7 := of_decide_eq_true (bI_nz c_7)
                  have h88 := c_7
                  refine lv_iconst (v := 1) hC.1 hC.2.1 dX3_open_91 (by decide) ?_
                  exact g_iret hC hO dX3_open_92 (by unfold xOpen timeS; simp [c_1, c_2, h33, c_4, c_5, c_6, hq2, if_pos h88])
              · skip
                have c_6 := bI_z c_6
                refine lv_bipush (v := (-13)) hC.1 hC.2.1 dX3_open_79 (by decide) ?_
                exact g_iret hC hO dX3_open_81 (by unfold xOpen timeS; simp [c_1, c_2, h33, c_4, c_5, c_6, hq2])
        · skip
          have h34 := c_3
          refine g_iload hC hl dX3_open_36 rfl ?_
          refine g_cSi1 hC hO hl (c_X3_isPerson l κ _ _) mi_X3_isPerson q_ml_RX3_79 rfl rfl ⟨Nat.le_of_ble_eq_true rfl, Nat.le_of_ble_eq_true rfl⟩ (Nat.le_of_ble_eq_true rfl) ⟨Nat.zero_le _, Nat.zero_le _⟩ dX3_open_38 (fun r σ1 F th H locs hr hO => ?_)
          obtain ⟨rfl, rfl⟩ := hr
          refine lv_if_ne (tgt := 47) hC.1 hC.2.1 dX3_open_41 (by decide) (fun c_8 => ?_) (fun c_8 => ?_)
          · skip
            have c_8 := bI_nz c_8
            have h33 : orPerson p3 = true := by simp [orPerson, c_8]
            refine g_aload hC hl dX3_open_47 rfl ?_
            refine g_get (ci := 1) (k := 1) hC hO rfl inX1 (by decide) q_fl_RX3_93 (nn_rb hk) (sh_rec _ _ _ _ _) rfl dX3_open_49 ?_
            refine lv_if_eq (tgt := 79) hC.1 hC.2.1 dX3_open_52 (by decide) (fun c_9 => ?_) (fun c_9 => ?_)
            · skip
              refine lv_bipush (v := (-13)) hC.1 hC.2.1 dX3_open_79 (by decide) ?_
              exact g_iret hC hO dX3_open_81 (by unfold xOpen timeS; simp [c_1, c_2, h33, c_9, hq2])
            · skip
              refine g_aload_n hC hl dX3_open_55 rfl rfl ?_
              refine g_aload_n hC hl dX3_open_56 rfl rfl ?_
              refine g_iload_n hC hl dX3_open_57 rfl rfl ?_
              refine g_cVi1 hC hO hl (ci := 3) rfl (nn_lt (Nat.le_of_ble_eq_true rfl)) rfl (c_X3_holderOf l κ _ _) mi_X3_holderOf q_ml_RX3_47 rfl rfl ⟨Nat.le_of_ble_eq_true rfl, Nat.le_of_ble_eq_true rfl⟩ (Nat.le_of_ble_eq_true rfl) ⟨Nat.zero_le _, Nat.zero_le _⟩ dX3_open_58 (fun r σ1 F th H locs hr hO => ?_)
              obtain ⟨rfl, rfl⟩ := hr
              refine g_cVi1 hC hO hl (ci := 3) rfl (nn_lt (Nat.le_of_ble_eq_true rfl)) rfl (c_X3_isShut l κ _ _) mi_X3_isShut q_ml_RX3_44 rfl rfl ⟨Nat.le_of_ble_eq_true rfl, Nat.le_of_ble_eq_true rfl⟩ (Nat.le_of_ble_eq_true rfl) ⟨Nat.zero_le _, Nat.zero_le _⟩ dX3_open_61 (fun r σ1 F th H locs hr hO => ?_)
              obtain ⟨rfl, rfl⟩ := hr
              refine lv_if_ne (tgt := 79) hC.1 hC.2.1 dX3_open_64 (by decide) (fun c_10 => ?_) (fun c_10 => ?_)
              · skip
                have c_10 := bI_nz c_10
                refine lv_bipush (v := (-13)) hC.1 hC.2.1 dX3_open_79 (by decide) ?_
                exact g_iret hC hO dX3_open_81 (by unfold xOpen timeS; simp [c_1, c_2, h33, c_9, c_10, hq2])
              · skip
                have c_10 := bI_z c_10
                refine g_aload hC hl dX3_open_67 rfl ?_
                refine g_iload hC hl dX3_open_69 rfl ?_
                refine g_iload hC hl dX3_open_71 rfl ?_
                refine g_cVi2 hC hO hl (ci := 1) rfl (nn_rb hk) (sh_rec _ _ _ _ _) (c_X1_mayBeOpenedBy l κ _ (k) (by exact hk) _ _) mi_X1_mayBeOpenedBy q_ml_RX3_97 rfl rfl ⟨Nat.le_of_ble_eq_true rfl, Nat.le_of_ble_eq_true rfl⟩ (Nat.le_of_ble_eq_true rfl) ⟨Nat.zero_le _, Nat.zero_le _⟩ dX3_open_73 (fun r σ1 F th H locs hr hO => ?_)
                obtain ⟨rfl, rfl⟩ := hr
                refine lv_if_ne (tgt := 82) hC.1 hC.2.1 dX3_open_76 (by decide) (fun c_11 => ?_) (fun c_11 => ?_)
                · skip
                  have c_11 := bI_nz c_11
                  refine g_aload hC hl dX3_open_82 rfl ?_
                  refine g_lload_n hC hl dX3_open_84 rfl rfl ?_
                  refine g_cVi1 hC hO hl (ci := 1) rfl (nn_rb hk) (sh_rec _ _ _ _ _) (c_X1_unseal l κ _ (k) (by exact hk) _) mi_X1_unseal q_ml_RX3_101 rfl rfl ⟨Nat.le_of_ble_eq_true rfl, Nat.le_of_ble_eq_true rfl⟩ (Nat.le_of_ble_eq_true rfl) ⟨Nat.zero_le _, Nat.zero_le _⟩ dX3_open_85 (fun r σ1 F th H locs hr hO => ?_)
                  obtain ⟨rfl, rfl⟩ := hr
                  refine lv_if_eq (tgt := 93) hC.1 hC.2.1 dX3_open_88 (by decide) (fun c_12 => ?_) (fun c_12 => ?_)
                  · skip
                    have c_12 := of_decide_eq_false (bI_z c_12)
                    refine g_aload_n hC hl dX3_open_93 rfl rfl ?_
                    refine g_get (ci := 3) (k := 4) hC hO rfl inX3 (by decide) q_fl_RX3_25 (nn_lt (Nat.le_of_ble_eq_true rfl)) rfl rfl dX3_open_94 ?_
                    refine g_aload_n hC hl dX3_open_97 rfl rfl ?_
                    refine g_get (ci := 3) (k := 5) hC hO rfl inX3 (by decide) q_fl_RX3_104 (nn_lt (Nat.le_of_ble_eq_true rfl)) rfl rfl dX3_open_98 ?_
                    refine lv_ldc2 hC.1 hC.2.1 hC.2.2.2.1 (hC.2.2.2.2.1 _ q_kl_RX3_108) dX3_open_101 ?_
                    refine lv_ladd hC.1 hC.2.1 dX3_open_104 ?_
                    refine g_cVv1 hC hO hl (ci := 0) rfl (nn_lt (Nat.le_of_ble_eq_true rfl)) rfl (c_X0_add l κ _ n (by rw [sI4_unseal]; exact hn) hn2 _) mi_X0_add q_ml_RX3_110 rfl rfl ⟨Nat.le_of_ble_eq_true rfl, Nat.le_of_ble_eq_true rfl⟩ (Nat.le_of_ble_eq_true rfl) ⟨Nat.zero_le _, Nat.zero_le _⟩ dX3_open_105 (fun σ1 F th H locs hr hO => ?_)
                    rw [noteS_eq (by rw [sI4_unseal]; exact hn) hn2] at hr
                    subst hr
                    refine lv_iconst (v := (-1)) hC.1 hC.2.1 dX3_open_108 (by decide) ?_
                    exact g_iret hC hO dX3_open_109 (by unfold xOpen timeS; simp [c_1, c_2, h33, c_9, c_10, c_11, c_12, hq2])
                  · skip
                    have c_12 := of_decide_eq_true (bI_nz c_12)
                    have h88 := c_12
                    refine lv_iconst (v := 1) hC.1 hC.2.1 dX3_open_91 (by decide) ?_
                    exact g_iret hC hO dX3_open_92 (by unfold xOpen timeS; simp [c_1, c_2, h33, c_9, c_10, c_11, hq2, if_pos h88])
                · skip
                  have c_11 := bI_z c_11
                  refine lv_bipush (v := (-13)) hC.1 hC.2.1 dX3_open_79 (by decide) ?_
                  exact g_iret hC hO dX3_open_81 (by unfold xOpen timeS; simp [c_1, c_2, h33, c_9, c_10, c_11, hq2])
          · skip
            have c_8 := bI_z c_8
            have h33 : orPerson p3 = false := by simp [orPerson, c_8, h34]
            refine lv_bipush (v := (-12)) hC.1 hC.2.1 dX3_open_44 (by decide) ?_
            exact g_iret hC hO dX3_open_46 (by unfold xOpen timeS; simp [c_1, c_2, h33, hq2])

set_option maxHeartbeats 4000000 in
set_option maxRecDepth 100000 in
/-- BagRows.found -/
theorem c_X3_found (l : Launch) (κ : KK) (σ : ST) (n : Nat) (hn : sI σ 4 1 = nI n) (hn2 : n < 512) (p0 p1 : Int32) : Met l yX3_found (wA yX3_found cX3_found 4 (some .int)) ({ frames := 4, cells := 0, slots := 0, locals := 90 }) (va_Pc [.ref (kad κ 0), .int p0, .int p1] (WX κ σ)) (va_Qi (fun r σ' => (r, σ') = xFound σ p0 p1) (WX κ) (FA κ)) 0 0 (FA κ) := by
  refine g_met 1 (by decide) rfl (Nat.le_of_ble_eq_true rfl) ?_
  intro p e s m args below meth c hC F th hO ls hl
  have hl : LL ls 4 [some _, some _, some _, none] := hl
  refine g_aload_n hC hl dX3_found_0 rfl rfl ?_
  refine g_iload_n hC hl dX3_found_1 rfl rfl ?_
  refine g_cVq1 hC hO hl (ci := 3) rfl (nn_lt (Nat.le_of_ble_eq_true rfl)) rfl (c_X3_receptacleOf l κ _ _) mi_X3_receptacleOf q_ml_RX3_36 rfl rfl ⟨Nat.le_of_ble_eq_true rfl, Nat.le_of_ble_eq_true rfl⟩ (Nat.le_of_ble_eq_true rfl) ⟨Nat.zero_le _, Nat.zero_le _⟩ dX3_found_2 (fun r σ1 F th H locs hr hO => ?_)
  obtain ⟨rfl, hr⟩ := hr
  rcases hr with ⟨rfl, hq2⟩ | ⟨k, hq2, rfl⟩
  · skip
    refine g_astore_nN hC hl dX3_found_5 rfl (Nat.le_of_ble_eq_true rfl) rfl (fun ls hl => ?_)
    have hl : LL ls 4 [some _, some _, some _, some _] := hl
    refine g_aload_nN hC hl dX3_found_6 rfl rfl ?_
    refine lv_ifnullN (tgt := 18) hC.1 hC.2.1 dX3_found_7 (by decide) ?_
    refine lv_bipush (v := (-11)) hC.1 hC.2.1 dX3_found_18 (by decide) ?_
    exact g_iret hC hO dX3_found_20 (by unfold xFound remR; simp [hq2])
  · have hk := recOf_lt hq2
    refine g_astore_n hC hl dX3_found_5 rfl (Nat.le_of_ble_eq_true rfl) rfl (fun ls hl => ?_)
    have hl : LL ls 4 [some _, some _, some _, some _] := hl
    refine g_aload_n hC hl dX3_found_6 rfl rfl ?_
    refine lv_ifnull hC.1 hC.2.1 dX3_found_7 ?_
    refine g_aload_n hC hl dX3_found_10 rfl rfl ?_
    refine g_iload_n hC hl dX3_found_11 rfl rfl ?_
    refine g_cVi1 hC hO hl (ci := 3) rfl (nn_lt (Nat.le_of_ble_eq_true rfl)) rfl (c_X3_isThing l κ _ _) mi_X3_isThing q_ml_RX3_40 rfl rfl ⟨Nat.le_of_ble_eq_true rfl, Nat.le_of_ble_eq_true rfl⟩ (Nat.le_of_ble_eq_true rfl) ⟨Nat.zero_le _, Nat.zero_le _⟩ dX3_found_12 (fun r σ1 F th H locs hr hO => ?_)
    obtain ⟨rfl, rfl⟩ := hr
    refine lv_if_ne (tgt := 21) hC.1 hC.2.1 dX3_found_15 (by decide) (fun c_1 => ?_) (fun c_1 => ?_)
    · skip
      have c_1 := bI_nz c_1
      refine g_aload_n hC hl dX3_found_21 rfl rfl ?_
      refine g_cVi0 hC hO hl (ci := 1) rfl (nn_rb hk) (sh_rec _ _ _ _ _) (c_X1_isChecked l κ _ (k) (by exact hk)) mi_X1_isChecked q_ml_RX3_114 rfl rfl ⟨Nat.le_of_ble_eq_true rfl, Nat.le_of_ble_eq_true rfl⟩ (Nat.le_of_ble_eq_true rfl) ⟨Nat.zero_le _, Nat.zero_le _⟩ dX3_found_22 (fun r σ1 F th H locs hr hO => ?_)
      obtain ⟨rfl, rfl⟩ := hr
      refine lv_if_eq (tgt := 37) hC.1 hC.2.1 dX3_found_25 (by decide) (fun c_2 => ?_) (fun c_2 => ?_)
      · skip
        have c_2 := bI_z c_2
        refine lv_bipush (v := (-13)) hC.1 hC.2.1 dX3_found_37 (by decide) ?_
        exact g_iret hC hO dX3_found_39 (by unfold xFound remR; simp [c_1, c_2, hq2])
      · skip
        have c_2 := bI_nz c_2
        refine g_aload_n hC hl dX3_found_28 rfl rfl ?_
        refine g_iload_n hC hl dX3_found_29 rfl rfl ?_
        refine g_aload_n hC hl dX3_found_30 rfl rfl ?_
        refine g_cVi2 hC hO hl (ci := 3) rfl (nn_lt (Nat.le_of_ble_eq_true rfl)) rfl (c_X3_isLesser l κ _ k (by exact hk) _) mi_X3_isLesser q_ml_RX3_51 rfl rfl ⟨Nat.le_of_ble_eq_true rfl, Nat.le_of_ble_eq_true rfl⟩ (Nat.le_of_ble_eq_true rfl) ⟨Nat.zero_le _, Nat.zero_le _⟩ dX3_found_31 (fun r σ1 F th H locs hr hO => ?_)
        obtain ⟨rfl, rfl⟩ := hr
        refine lv_if_ne (tgt := 40) hC.1 hC.2.1 dX3_found_34 (by decide) (fun c_3 => ?_) (fun c_3 => ?_)
        · skip
          have c_3 := bI_nz c_3
          refine g_aload_n hC hl dX3_found_40 rfl rfl ?_
          refine g_get (ci := 1) (k := 6) hC hO rfl inX1 (by decide) q_fl_RX3_86 (nn_rb hk) (sh_rec _ _ _ _ _) rfl dX3_found_41 ?_
          refine g_iload_n hC hl dX3_found_44 rfl rfl ?_
          refine g_cVi1 hC hO hl (ci := 2) rfl (nn_rc hk (by decide)) (sh_row _ _ _ _ _ (by decide)) (c_X2_holds l κ _ (k) (1) (by exact hk) (by decide) _) mi_X2_holds q_ml_RX3_117 rfl rfl ⟨Nat.le_of_ble_eq_true rfl, Nat.le_of_ble_eq_true rfl⟩ (Nat.le_of_ble_eq_true rfl) ⟨Nat.zero_le _, Nat.zero_le _⟩ dX3_found_45 (fun r σ1 F th H locs hr hO => ?_)
          obtain ⟨rfl, rfl⟩ := hr
          refine lv_if_eq (tgt := 61) hC.1 hC.2.1 dX3_found_48 (by decide) (fun c_4 => ?_) (fun c_4 => ?_)
          · skip
            have c_4 := of_decide_eq_false (bI_z c_4)
            refine g_aload_n hC hl dX3_found_61 rfl rfl ?_
            refine g_get (ci := 1) (k := 10) hC hO rfl inX1 (by decide) q_fl_RX3_126 (nn_rb hk) (sh_rec _ _ _ _ _) rfl dX3_found_62 ?_
            refine g_iload_n hC hl dX3_found_65 rfl rfl ?_
            refine g_cVi1 hC hO hl (ci := 2) rfl (nn_rc hk (by decide)) (sh_row _ _ _ _ _ (by decide)) (c_X2_holds l κ _ (k) (5) (by exact hk) (by decide) _) mi_X2_holds q_ml_RX3_117 rfl rfl ⟨Nat.le_of_ble_eq_true rfl, Nat.le_of_ble_eq_true rfl⟩ (Nat.le_of_ble_eq_true rfl) ⟨Nat.zero_le _, Nat.zero_le _⟩ dX3_found_66 (fun r σ1 F th H locs hr hO => ?_)
            obtain ⟨rfl, rfl⟩ := hr
            refine lv_if_eq (tgt := 74) hC.1 hC.2.1 dX3_found_69 (by decide) (fun c_5 => ?_) (fun c_5 => ?_)
            · skip
              have c_5 := of_decide_eq_false (bI_z c_5)
              refine g_aload_n hC hl dX3_found_74 rfl rfl ?_
              refine g_aload_n hC hl dX3_found_75 rfl rfl ?_
              refine g_iload_n hC hl dX3_found_76 rfl rfl ?_
              refine g_iload_n hC hl dX3_found_77 rfl rfl ?_
              refine g_cVi3 hC hO hl (ci := 3) rfl (nn_lt (Nat.le_of_ble_eq_true rfl)) rfl (c_X3_foundExtra l κ _ n (by exact hn) hn2 k (by exact hk) _ _) mi_X3_foundExtra q_ml_RX3_129 rfl rfl ⟨Nat.le_of_ble_eq_true rfl, Nat.le_of_ble_eq_true rfl⟩ (Nat.le_of_ble_eq_true rfl) ⟨Nat.zero_le _, Nat.zero_le _⟩ dX3_found_78 (fun r σ1 F th H locs hr hO => ?_)
              have h1 : r = (foundExtraF σ k p0 p1).1 := congrArg Prod.fst hr
              have h2 : σ1 = (foundExtraF σ k p0 p1).2 := congrArg Prod.snd hr
              subst h1
              subst h2
              exact g_iret hC hO dX3_found_81 (by unfold xFound remR; simp [c_1, c_2, c_3, c_4, c_5, hq2])
            · skip
              have c_5 := of_decide_eq_true (bI_nz c_5)
              refine lv_iconst (v := 0) hC.1 hC.2.1 dX3_found_72 (by decide) ?_
              exact g_iret hC hO dX3_found_73 (by unfold xFound remR; simp [c_1, c_2, c_3, c_4, c_5, hq2])
          · skip
            have c_4 := of_decide_eq_true (bI_nz c_4)
            refine g_aload_n hC hl dX3_found_51 rfl rfl ?_
            refine g_get (ci := 1) (k := 9) hC hO rfl inX1 (by decide) q_fl_RX3_120 (nn_rb hk) (sh_rec _ _ _ _ _) rfl dX3_found_52 ?_
            refine g_iload_n hC hl dX3_found_55 rfl rfl ?_
            refine g_cVv1 hC hO hl (ci := 2) rfl (nn_rc hk (by decide)) (sh_row _ _ _ _ _ (by decide)) (c_X2_remove l κ _ (k) (4) (by exact hk) (by decide) _) mi_X2_remove q_ml_RX3_123 rfl rfl ⟨Nat.le_of_ble_eq_true rfl, Nat.le_of_ble_eq_true rfl⟩ (Nat.le_of_ble_eq_true rfl) ⟨Nat.zero_le _, Nat.zero_le _⟩ dX3_found_56 (fun σ1 F th H locs hr hO => ?_)
            subst hr
            refine lv_iconst (v := 1) hC.1 hC.2.1 dX3_found_59 (by decide) ?_
            exact g_iret hC hO dX3_found_60 (by unfold xFound remR; simp [c_1, c_2, c_3, c_4, hq2])
        · skip
          have c_3 := bI_z c_3
          refine lv_bipush (v := (-13)) hC.1 hC.2.1 dX3_found_37 (by decide) ?_
          exact g_iret hC hO dX3_found_39 (by unfold xFound remR; simp [c_1, c_2, c_3, hq2])
    · skip
      have c_1 := bI_z c_1
      refine lv_bipush (v := (-11)) hC.1 hC.2.1 dX3_found_18 (by decide) ?_
      exact g_iret hC hO dX3_found_20 (by unfold xFound remR; simp [c_1, hq2])

set_option maxHeartbeats 4000000 in
set_option maxRecDepth 100000 in
/-- BagRows.differ -/
theorem c_X3_differ (l : Launch) (κ : KK) (σ : ST) (p0 p1 p2 : Int32) : Met l yX3_differ (wA yX3_differ cX3_differ 8 (some .int)) ({ frames := 1, cells := 0, slots := 0, locals := 22 }) (va_Pc [.ref (kad κ 0), .int p0, .int p1, .int p2] (WX κ σ)) (va_Qi (fun r σ' => σ = σ' ∧ r = xDiffer σ p0 p1 p2) (WX κ) (FA κ)) 0 0 (FA κ) := by
  refine g_met 4 (by decide) rfl (Nat.le_of_ble_eq_true rfl) ?_
  intro p e s m args below meth c hC F th hO ls hl
  have hl : LL ls 8 [some _, some _, some _, some _, none, none, none, none] := hl
  have loop44 : ∀ (k : Nat) (hk : k < σ.1) (n f d : Nat) (rest : Int32), f + 1 ≤ n → d + f = 4 → xDiffer σ p0 p1 p2 = differF σ k p2 f d rest → ∀ (F : Nat → Nat → Int32) (th : Int32) (H : Heap) (locs : List Loc), OS κ s.heap σ F th H locs → ∀ ls : Array Slot, LL ls 8 [some (.ref (kad κ 0)), some (.int p0), some (.int p1), some (.int p2), some (.ref (kad κ (rb k))), some (.int rest), some (.int (nI d)), none] → W p l e ({ frames := 1, cells := 0, slots := 0, locals := 22 } : Room) s m args below meth c H locs 0 0 (MQ below (va_Qi (fun r σ' => σ = σ' ∧ r = xDiffer σ p0 p1 p2) (WX κ) (FA κ)) args s 0 0 (FA κ)) (F0 m 44 ls []) := by
    intro k hk n
    induction n with
    | zero => intro f d rest h1; exact absurd h1 (by omega)
    | succ n ih =>
      intro f d rest h1 h2 h3 F th H locs hO ls hl
      refine g_iload hC hl dX3_differ_44 rfl ?_
      refine lv_iconst (v := 3) hC.1 hC.2.1 dX3_differ_46 (by decide) ?_
      refine lv_icmp_gt (tgt := 107) hC.1 hC.2.1 dX3_differ_47 (by decide) (fun c_1 => ?_) (fun c_1 => ?_)
      · skip
        rw [show (3 : Int32) = nI 3 from rfl, nI_ltI (by omega) (by omega)] at c_1
        have h9 : xDiffer σ p0 p1 p2 = -1 := by rw [h3, show f = 0 by omega]; rfl
        refine lv_iconst (v := (-1)) hC.1 hC.2.1 dX3_differ_107 (by decide) ?_
        exact g_iret hC hO dX3_differ_108 (⟨rfl, h9.symm⟩)
      · skip
        rw [show (3 : Int32) = nI 3 from rfl, nI_ltI (by omega) (by omega)] at c_1
        obtain ⟨f, rfl⟩ : ∃ f2, f = f2 + 1 := ⟨f - 1, by omega⟩
        rw [show differF σ k p2 (f + 1) d rest = (if rest < 0 then -1 else if rest < nI (sR σ (rc k (d + 2))).length then (if p2 = 0 then nI d else rowAt (sR σ (rc k (d + 2))) rest) else differF σ k p2 f (d + 1) (rest - nI (sR σ (rc k (d + 2))).length)) from rfl] at h3
        refine g_iload hC hl dX3_differ_50 rfl ?_
        refine lv_if_lt (tgt := 107) hC.1 hC.2.1 dX3_differ_52 (by decide) (fun c_2 => ?_) (fun c_2 => ?_)
        · skip
          have h9 : xDiffer σ p0 p1 p2 = -1 := by rw [h3, if_pos c_2]
          refine lv_iconst (v := (-1)) hC.1 hC.2.1 dX3_differ_107 (by decide) ?_
          exact g_iret hC hO dX3_differ_108 (⟨rfl, h9.symm⟩)
        · skip
          rw [if_neg c_2] at h3
          refine g_aload hC hl dX3_differ_55 rfl ?_
          refine g_iload hC hl dX3_differ_57 rfl ?_
          refine g_cVq1 hC hO hl (ci := 1) rfl (nn_rb hk) (sh_rec _ _ _ _ _) (c_X1_differencesOf l κ _ (k) (by exact hk) d (by omega)) mi_X1_differencesOf q_ml_RX3_133 rfl rfl ⟨Nat.le_of_ble_eq_true rfl, Nat.le_of_ble_eq_true rfl⟩ (Nat.le_of_ble_eq_true rfl) ⟨Nat.zero_le _, Nat.zero_le _⟩ dX3_differ_59 (fun r σ1 F th H locs hr hO => ?_)
          obtain ⟨rfl, rfl⟩ := hr
          refine g_astore hC hl dX3_differ_62 (Nat.le_of_ble_eq_true rfl) rfl (fun ls hl => ?_)
          have hl : LL ls 8 [some _, some _, some _, some _, some _, some _, some _, some _] := hl
          refine g_iload hC hl dX3_differ_64 rfl ?_
          refine g_aload hC hl dX3_differ_66 rfl ?_
          refine g_cVi0 hC hO hl (ci := 2) rfl (nn_rc hk (by omega)) (sh_row _ _ _ _ _ (by omega)) (c_X2_size l κ _ (k) ((d + 2)) (by exact hk) (by omega)) mi_X2_size q_ml_RX3_89 rfl rfl ⟨Nat.le_of_ble_eq_true rfl, Nat.le_of_ble_eq_true rfl⟩ (Nat.le_of_ble_eq_true rfl) ⟨Nat.zero_le _, Nat.zero_le _⟩ dX3_differ_68 (fun r σ1 F th H locs hr hO => ?_)
          obtain ⟨rfl, rfl⟩ := hr
          refine lv_icmp_ge (tgt := 91) hC.1 hC.2.1 dX3_differ_71 (by decide) (fun c_3 => ?_) (fun c_3 => ?_)
          · skip
            rw [if_neg (Int32.not_lt.mpr c_3)] at h3
            refine g_iload hC hl dX3_differ_91 rfl ?_
            refine g_aload hC hl dX3_differ_93 rfl ?_
            refine g_cVi0 hC hO hl (ci := 2) rfl (nn_rc hk (by omega)) (sh_row _ _ _ _ _ (by omega)) (c_X2_size l κ _ (k) ((d + 2)) (by exact hk) (by omega)) mi_X2_size q_ml_RX3_89 rfl rfl ⟨Nat.le_of_ble_eq_true rfl, Nat.le_of_ble_eq_true rfl⟩ (Nat.le_of_ble_eq_true rfl) ⟨Nat.zero_le _, Nat.zero_le _⟩ dX3_differ_95 (fun r σ1 F th H locs hr hO => ?_)
            obtain ⟨rfl, rfl⟩ := hr
            refine lv_isub hC.1 hC.2.1 dX3_differ_98 ?_
            refine g_istore hC hl dX3_differ_99 (Nat.le_of_ble_eq_true rfl) rfl (fun ls hl => ?_)
            have hl : LL ls 8 [some _, some _, some _, some _, some _, some _, some _, some _] := hl
            refine g_iinc (v := nI (d + 1)) hC hl dX3_differ_101 rfl (nI_i1 d) (Nat.le_of_ble_eq_true rfl) rfl (fun ls hl => ?_)
            have hl : LL ls 8 [some _, some _, some _, some _, some _, some _, some _, some _] := hl
            refine lv_goto (tgt := 44) hC.1 hC.2.1 dX3_differ_104 (by decide) ?_
            have hl := LL.drop hl 7
            exact ih f (d + 1) _ (by omega) (by omega) h3 _ _ _ _ hO ls hl
          · skip
            rw [if_pos (Int32.not_le.mp c_3)] at h3
            refine g_iload_n hC hl dX3_differ_74 rfl rfl ?_
            refine lv_if_ne (tgt := 83) hC.1 hC.2.1 dX3_differ_75 (by decide) (fun c_4 => ?_) (fun c_4 => ?_)
            · skip
              rw [if_neg c_4] at h3
              have h9 := h3
              refine g_aload hC hl dX3_differ_83 rfl ?_
              refine g_iload hC hl dX3_differ_85 rfl ?_
              refine g_cVi1 hC hO hl (ci := 2) rfl (nn_rc hk (by omega)) (sh_row _ _ _ _ _ (by omega)) (c_X2_at l κ _ (k) ((d + 2)) (by exact hk) (by omega) _) mi_X2_at q_ml_RX3_137 rfl rfl ⟨Nat.le_of_ble_eq_true rfl, Nat.le_of_ble_eq_true rfl⟩ (Nat.le_of_ble_eq_true rfl) ⟨Nat.zero_le _, Nat.zero_le _⟩ dX3_differ_87 (fun r σ1 F th H locs hr hO => ?_)
              obtain ⟨rfl, rfl⟩ := hr
              exact g_iret hC hO dX3_differ_90 (⟨rfl, h9.symm⟩)
            · skip
              rw [if_pos c_4] at h3
              have h9 := h3
              refine g_iload hC hl dX3_differ_78 rfl ?_
              refine lv_goto (tgt := 90) hC.1 hC.2.1 dX3_differ_80 (by decide) ?_
              exact g_iret hC hO dX3_differ_90 (⟨rfl, h9.symm⟩)
  refine g_aload_n hC hl dX3_differ_0 rfl rfl ?_
  refine g_iload_n hC hl dX3_differ_1 rfl rfl ?_
  refine g_cVq1 hC hO hl (ci := 3) rfl (nn_lt (Nat.le_of_ble_eq_true rfl)) rfl (c_X3_receptacleOf l κ _ _) mi_X3_receptacleOf q_ml_RX3_36 rfl rfl ⟨Nat.le_of_ble_eq_true rfl, Nat.le_of_ble_eq_true rfl⟩ (Nat.le_of_ble_eq_true rfl) ⟨Nat.zero_le _, Nat.zero_le _⟩ dX3_differ_2 (fun r σ1 F th H locs hr hO => ?_)
  obtain ⟨rfl, hr⟩ := hr
  rcases hr with ⟨rfl, hq2⟩ | ⟨k, hq2, rfl⟩
  · skip
    refine g_astoreN hC hl dX3_differ_5 (Nat.le_of_ble_eq_true rfl) rfl (fun ls hl => ?_)
    have hl : LL ls 8 [some _, some _, some _, some _, some _, none, none, none] := hl
    refine g_aloadN hC hl dX3_differ_7 rfl ?_
    refine lv_ifnonnullN hC.1 hC.2.1 dX3_differ_9 ?_
    refine lv_bipush (v := (-11)) hC.1 hC.2.1 dX3_differ_12 (by decide) ?_
    exact g_iret hC hO dX3_differ_14 (⟨rfl, by unfold xDiffer; simp [hq2]⟩)
  · have hk := recOf_lt hq2
    refine g_astore hC hl dX3_differ_5 (Nat.le_of_ble_eq_true rfl) rfl (fun ls hl => ?_)
    have hl : LL ls 8 [some _, some _, some _, some _, some _, none, none, none] := hl
    refine g_aload hC hl dX3_differ_7 rfl ?_
    refine lv_ifnonnull (tgt := 15) hC.1 hC.2.1 dX3_differ_9 (by decide) ?_
    refine g_iload_n hC hl dX3_differ_15 rfl rfl ?_
    refine lv_if_eq (tgt := 27) hC.1 hC.2.1 dX3_differ_16 (by decide) (fun c_5 => ?_) (fun c_5 => ?_)
    · skip
      refine g_aload hC hl dX3_differ_27 rfl ?_
      refine g_cVi0 hC hO hl (ci := 1) rfl (nn_rb hk) (sh_rec _ _ _ _ _) (c_X1_isChecked l κ _ (k) (by exact hk)) mi_X1_isChecked q_ml_RX3_114 rfl rfl ⟨Nat.le_of_ble_eq_true rfl, Nat.le_of_ble_eq_true rfl⟩ (Nat.le_of_ble_eq_true rfl) ⟨Nat.zero_le _, Nat.zero_le _⟩ dX3_differ_29 (fun r σ1 F th H locs hr hO => ?_)
      obtain ⟨rfl, rfl⟩ := hr
      refine lv_if_ne (tgt := 38) hC.1 hC.2.1 dX3_differ_32 (by decide) (fun c_6 => ?_) (fun c_6 => ?_)
      · skip
        have c_6 := bI_nz c_6
        have hx := c_6
        refine g_iload_n hC hl dX3_differ_38 rfl rfl ?_
        refine g_istore hC hl dX3_differ_39 (Nat.le_of_ble_eq_true rfl) rfl (fun ls hl => ?_)
        have hl : LL ls 8 [some _, some _, some _, some _, some _, some _, none, none] := hl
        refine lv_iconst (v := 0) hC.1 hC.2.1 dX3_differ_41 (by decide) ?_
        refine g_istore hC hl dX3_differ_42 (Nat.le_of_ble_eq_true rfl) rfl (fun ls hl => ?_)
        have hl : LL ls 8 [some _, some _, some _, some _, some _, some _, some _, none] := hl
        exact loop44 k hk 5 4 0 p1 (by omega) (by omega) (by unfold xDiffer; simp [c_5, c_6, hq2]) _ _ _ _ hO ls hl
      · skip
        have c_6 := bI_z c_6
        refine lv_bipush (v := (-13)) hC.1 hC.2.1 dX3_differ_35 (by decide) ?_
        exact g_iret hC hO dX3_differ_37 (⟨rfl, by unfold xDiffer; simp [c_5, c_6, hq2]⟩)
    · skip
      refine g_iload_n hC hl dX3_differ_19 rfl rfl ?_
      refine lv_iconst (v := 1) hC.1 hC.2.1 dX3_differ_20 (by decide) ?_
      refine lv_icmp_eq (tgt := 27) hC.1 hC.2.1 dX3_differ_21 (by decide) (fun c_7 => ?_) (fun c_7 => ?_)
      · skip
        refine g_aload hC hl dX3_differ_27 rfl ?_
        refine g_cVi0 hC hO hl (ci := 1) rfl (nn_rb hk) (sh_rec _ _ _ _ _) (c_X1_isChecked l κ _ (k) (by exact hk)) mi_X1_isChecked q_ml_RX3_114 rfl rfl ⟨Nat.le_of_ble_eq_true rfl, Nat.le_of_ble_eq_true rfl⟩ (Nat.le_of_ble_eq_true rfl) ⟨Nat.zero_le _, Nat.zero_le _⟩ dX3_differ_29 (fun r σ1 F th H locs hr hO => ?_)
        obtain ⟨rfl, rfl⟩ := hr
        refine lv_if_ne (tgt := 38) hC.1 hC.2.1 dX3_differ_32 (by decide) (fun c_8 => ?_) (fun c_8 => ?_)
        · skip
          have c_8 := bI_nz c_8
          have hx := c_8
          refine g_iload_n hC hl dX3_differ_38 rfl rfl ?_
          refine g_istore hC hl dX3_differ_39 (Nat.le_of_ble_eq_true rfl) rfl (fun ls hl => ?_)
          have hl : LL ls 8 [some _, some _, some _, some _, some _, some _, none, none] := hl
          refine lv_iconst (v := 0) hC.1 hC.2.1 dX3_differ_41 (by decide) ?_
          refine g_istore hC hl dX3_differ_42 (Nat.le_of_ble_eq_true rfl) rfl (fun ls hl => ?_)
          have hl : LL ls 8 [some _, some _, some _, some _, some _, some _, some _, none] := hl
          exact loop44 k hk 5 4 0 p1 (by omega) (by omega) (by unfold xDiffer; simp [c_5, c_7, c_8, hq2]) _ _ _ _ hO ls hl
        · skip
          have c_8 := bI_z c_8
          refine lv_bipush (v := (-13)) hC.1 hC.2.1 dX3_differ_35 (by decide) ?_
          exact g_iret hC hO dX3_differ_37 (⟨rfl, by unfold xDiffer; simp [c_5, c_7, c_8, hq2]⟩)
      · skip
        refine lv_bipush (v := (-12)) hC.1 hC.2.1 dX3_differ_24 (by decide) ?_
        exact g_iret hC hO dX3_differ_26 (⟨rfl, by unfold xDiffer; simp [c_5, c_7, hq2]⟩)

set_option maxHeartbeats 4000000 in
set_option maxRecDepth 100000 in
/-- BagRows.inside -/
theorem c_X3_inside (l : Launch) (κ : KK) (σ : ST) (p0 : Int32) : Met l yX3_inside (wA yX3_inside cX3_inside 2 (some .int)) ({ frames := 2, cells := 0, slots := 0, locals := 43 }) (va_Pc [.ref (kad κ 0), .int p0] (WX κ σ)) (va_Qi (fun r σ' => σ = σ' ∧ r = xInside σ p0) (WX κ) (FA κ)) 0 0 (FA κ) := by
  refine g_met 0 (by decide) rfl (Nat.le_of_ble_eq_true rfl) ?_
  intro p e s m args below meth c hC F th hO ls hl
  have hl : LL ls 2 [some _, some _] := hl
  refine g_aload_n hC hl dX3_inside_0 rfl rfl ?_
  refine g_iload_n hC hl dX3_inside_1 rfl rfl ?_
  refine g_cVi1 hC hO hl (ci := 3) rfl (nn_lt (Nat.le_of_ble_eq_true rfl)) rfl (c_X3_isThing l κ _ _) mi_X3_isThing q_ml_RX3_40 rfl rfl ⟨Nat.le_of_ble_eq_true rfl, Nat.le_of_ble_eq_true rfl⟩ (Nat.le_of_ble_eq_true rfl) ⟨Nat.zero_le _, Nat.zero_le _⟩ dX3_inside_2 (fun r σ1 F th H locs hr hO => ?_)
  obtain ⟨rfl, rfl⟩ := hr
  refine lv_if_eq (tgt := 16) hC.1 hC.2.1 dX3_inside_5 (by decide) (fun c_1 => ?_) (fun c_1 => ?_)
  · skip
    have c_1 := bI_z c_1
    refine lv_bipush (v := (-11)) hC.1 hC.2.1 dX3_inside_16 (by decide) ?_
    exact g_iret hC hO dX3_inside_18 (⟨rfl, by unfold xInside; simp [c_1]⟩)
  · skip
    have c_1 := bI_nz c_1
    refine g_aload_n hC hl dX3_inside_8 rfl rfl ?_
    refine g_iload_n hC hl dX3_inside_9 rfl rfl ?_
    refine g_cVi1 hC hO hl (ci := 3) rfl (nn_lt (Nat.le_of_ble_eq_true rfl)) rfl (c_X3_holderOf l κ _ _) mi_X3_holderOf q_ml_RX3_47 rfl rfl ⟨Nat.le_of_ble_eq_true rfl, Nat.le_of_ble_eq_true rfl⟩ (Nat.le_of_ble_eq_true rfl) ⟨Nat.zero_le _, Nat.zero_le _⟩ dX3_inside_10 (fun r σ1 F th H locs hr hO => ?_)
    obtain ⟨rfl, rfl⟩ := hr
    refine lv_goto (tgt := 18) hC.1 hC.2.1 dX3_inside_13 (by decide) ?_
    exact g_iret hC hO dX3_inside_18 (⟨rfl, by unfold xInside; simp [c_1]⟩)

set_option maxHeartbeats 4000000 in
set_option maxRecDepth 100000 in
/-- BagRows.weight -/
theorem c_X3_weight (l : Launch) (κ : KK) (σ : ST) (n : Nat) (hn : sI σ 4 1 = nI n) (hn2 : n < 512) (p0 : Int32) (p1 : Int64) : Met l yX3_weight (wA yX3_weight cX3_weight 7 (some .int)) ({ frames := 3, cells := 0, slots := 0, locals := 70 }) (va_Pc [.ref (kad κ 0), .int p0, .long p1] (WX κ σ)) (va_Qi (fun r σ' => (r, σ') = xWeight σ p0 p1) (WX κ) (FA κ)) 0 0 (FA κ) := by
  refine g_met 3 (by decide) rfl (Nat.le_of_ble_eq_true rfl) ?_
  intro p e s m args below meth c hC F th hO ls hl
  have hl : LL ls 7 [some _, some _, some _, none, none, none, none] := hl
  refine g_aload_n hC hl dX3_weight_0 rfl rfl ?_
  refine g_iload_n hC hl dX3_weight_1 rfl rfl ?_
  refine g_cVq1 hC hO hl (ci := 3) rfl (nn_lt (Nat.le_of_ble_eq_true rfl)) rfl (c_X3_receptacleOf l κ _ _) mi_X3_receptacleOf q_ml_RX3_36 rfl rfl ⟨Nat.le_of_ble_eq_true rfl, Nat.le_of_ble_eq_true rfl⟩ (Nat.le_of_ble_eq_true rfl) ⟨Nat.zero_le _, Nat.zero_le _⟩ dX3_weight_2 (fun r σ1 F th H locs hr hO => ?_)
  obtain ⟨rfl, hr⟩ := hr
  rcases hr with ⟨rfl, hq2⟩ | ⟨k, hq2, rfl⟩
  · skip
    refine g_astoreN hC hl dX3_weight_5 (Nat.le_of_ble_eq_true rfl) rfl (fun ls hl => ?_)
    have hl : LL ls 7 [some _, some _, some _, none, some _, none, none] := hl
    refine g_aloadN hC hl dX3_weight_7 rfl ?_
    refine lv_ifnonnullN hC.1 hC.2.1 dX3_weight_9 ?_
    refine lv_bipush (v := (-11)) hC.1 hC.2.1 dX3_weight_12 (by decide) ?_
    exact g_iret hC hO dX3_weight_14 (by unfold xWeight; simp [hq2])
  · have hk := recOf_lt hq2
    refine g_astore hC hl dX3_weight_5 (Nat.le_of_ble_eq_true rfl) rfl (fun ls hl => ?_)
    have hl : LL ls 7 [some _, some _, some _, none, some _, none, none] := hl
    refine g_aload hC hl dX3_weight_7 rfl ?_
    refine lv_ifnonnull (tgt := 15) hC.1 hC.2.1 dX3_weight_9 (by decide) ?_
    refine g_lload_n hC hl dX3_weight_15 rfl rfl ?_
    refine lv_lconst (v := 0) hC.1 hC.2.1 dX3_weight_16 (by decide) ?_
    refine W.lcmp hC.1 hC.2.1 dX3_weight_17 ?_
    refine lv_if_lt (tgt := 29) hC.1 hC.2.1 dX3_weight_18 (by decide) (fun c_1 => ?_) (fun c_1 => ?_)
    · skip
      rw [lg_cmp_lt] at c_1
      refine lv_bipush (v := (-12)) hC.1 hC.2.1 dX3_weight_29 (by decide) ?_
      exact g_iret hC hO dX3_weight_31 (by unfold xWeight; simp only [c_1, hq2, if_true, if_false, not_false_eq_true, reduceIte, not_true_eq_false])
    · skip
      rw [lg_cmp_lt] at c_1
      refine g_lload_n hC hl dX3_weight_21 rfl rfl ?_
      refine lv_ldc2 hC.1 hC.2.1 hC.2.2.2.1 (hC.2.2.2.2.1 _ q_kl_RX3_140) dX3_weight_22 ?_
      refine W.lcmp hC.1 hC.2.1 dX3_weight_25 ?_
      refine lv_if_le (tgt := 32) hC.1 hC.2.1 dX3_weight_26 (by decide) (fun c_2 => ?_) (fun c_2 => ?_)
      · skip
        rw [lg_cmp_le] at c_2
        refine g_aload_n hC hl dX3_weight_32 rfl rfl ?_
        refine g_iload_n hC hl dX3_weight_33 rfl rfl ?_
        refine g_cVl1 hC hO hl (ci := 3) rfl (nn_lt (Nat.le_of_ble_eq_true rfl)) rfl (c_X3_weightOf l κ _ _) mi_X3_weightOf q_ml_RX3_142 rfl rfl ⟨Nat.le_of_ble_eq_true rfl, Nat.le_of_ble_eq_true rfl⟩ (Nat.le_of_ble_eq_true rfl) ⟨Nat.zero_le _, Nat.zero_le _⟩ dX3_weight_34 (fun r σ1 F th H locs hr hO => ?_)
        obtain ⟨rfl, rfl⟩ := hr
        refine g_lstore hC hl dX3_weight_37 (Nat.le_of_ble_eq_true rfl) rfl (fun ls hl => ?_)
        have hl : LL ls 7 [some _, some _, some _, none, some _, some _, none] := hl
        refine g_lload_n hC hl dX3_weight_39 rfl rfl ?_
        refine g_lload hC hl dX3_weight_40 rfl ?_
        refine lv_lsub hC.1 hC.2.1 dX3_weight_42 ?_
        refine va_mabs_long hC.1 hC.2.1 (hC.2.2.1.trans hl.1.symm) hC.2.2.2.1 (hC.2.2.2.2.1 _ q_ml_RX3_146) (hC.2.2.2.2.1 _ q_st_Lib_MathLoose_abs_long_x) (hC.2.2.2.2.1 _ q_ini_RJ9) (hC.2.2.2.2.1 _ q_co_mabs) (Nat.le_of_ble_eq_true rfl) (Nat.le_of_ble_eq_true rfl) (Nat.zero_le _) (Nat.zero_le _) dX3_weight_43 ?_
        refine g_lload hC hl dX3_weight_46 rfl ?_
        refine lv_ldc2 hC.1 hC.2.1 hC.2.2.2.1 (hC.2.2.2.2.1 _ q_kl_RX3_152) dX3_weight_48 ?_
        refine lv_ldiv hC.1 hC.2.1 dX3_weight_51 (by decide) ?_
        refine W.lcmp hC.1 hC.2.1 dX3_weight_52 ?_
        refine lv_if_gt (tgt := 58) hC.1 hC.2.1 dX3_weight_53 (by decide) (fun c_3 => ?_) (fun c_3 => ?_)
        · skip
          rw [lg_cmp_gt] at c_3
          refine g_aload hC hl dX3_weight_58 rfl ?_
          refine g_get (ci := 1) (k := 8) hC hO rfl inX1 (by decide) q_fl_RX3_154 (nn_rb hk) (sh_rec _ _ _ _ _) rfl dX3_weight_60 ?_
          refine g_lload_n hC hl dX3_weight_63 rfl rfl ?_
          refine lv_l2i hC.1 hC.2.1 dX3_weight_64 rfl ?_
          refine g_cVv1 hC hO hl (ci := 2) rfl (nn_rc hk (by decide)) (sh_row _ _ _ _ _ (by decide)) (c_X2_append l κ _ (k) (3) (by exact hk) (by decide) _) mi_X2_append q_ml_RX3_157 rfl rfl ⟨Nat.le_of_ble_eq_true rfl, Nat.le_of_ble_eq_true rfl⟩ (Nat.le_of_ble_eq_true rfl) ⟨Nat.zero_le _, Nat.zero_le _⟩ dX3_weight_65 (fun σ1 F th H locs hr hO => ?_)
          subst hr
          refine g_aload_n hC hl dX3_weight_68 rfl rfl ?_
          refine g_get (ci := 3) (k := 4) hC hO rfl inX3 (by decide) q_fl_RX3_25 (nn_lt (Nat.le_of_ble_eq_true rfl)) rfl rfl dX3_weight_69 ?_
          refine g_aload_n hC hl dX3_weight_72 rfl rfl ?_
          refine g_get (ci := 3) (k := 5) hC hO rfl inX3 (by decide) q_fl_RX3_104 (nn_lt (Nat.le_of_ble_eq_true rfl)) rfl rfl dX3_weight_73 ?_
          refine lv_ldc2 hC.1 hC.2.1 hC.2.2.2.1 (hC.2.2.2.2.1 _ q_kl_RX3_108) dX3_weight_76 ?_
          refine lv_ladd hC.1 hC.2.1 dX3_weight_79 ?_
          refine g_cVv1 hC hO hl (ci := 0) rfl (nn_lt (Nat.le_of_ble_eq_true rfl)) rfl (c_X0_add l κ _ n (by exact hn) hn2 _) mi_X0_add q_ml_RX3_110 rfl rfl ⟨Nat.le_of_ble_eq_true rfl, Nat.le_of_ble_eq_true rfl⟩ (Nat.le_of_ble_eq_true rfl) ⟨Nat.zero_le _, Nat.zero_le _⟩ dX3_weight_80 (fun σ1 F th H locs hr hO => ?_)
          rw [noteS_eq (by exact hn) hn2] at hr
          subst hr
          refine lv_iconst (v := 0) hC.1 hC.2.1 dX3_weight_83 (by decide) ?_
          exact g_iret hC hO dX3_weight_84 (by unfold xWeight; simp only [c_1, c_2, c_3, hq2, if_true, if_false, not_false_eq_true, reduceIte, not_true_eq_false]; rfl)
        · skip
          rw [lg_cmp_gt] at c_3
          refine lv_iconst (v := 1) hC.1 hC.2.1 dX3_weight_56 (by decide) ?_
          exact g_iret hC hO dX3_weight_57 (by unfold xWeight; simp only [c_1, c_2, c_3, hq2, if_true, if_false, not_false_eq_true, reduceIte, not_true_eq_false])
      · skip
        rw [lg_cmp_le] at c_2
        refine lv_bipush (v := (-12)) hC.1 hC.2.1 dX3_weight_29 (by decide) ?_
        exact g_iret hC hO dX3_weight_31 (by unfold xWeight; simp only [c_1, c_2, hq2, if_true, if_false, not_false_eq_true, reduceIte, not_true_eq_false])

set_option maxHeartbeats 4000000 in
set_option maxRecDepth 100000 in
/-- BagRows.document -/
theorem c_X3_document (l : Launch) (κ : KK) (σ : ST) (p0 p1 : Int32) : Met l yX3_document (wA yX3_document cX3_document 4 (some .int)) ({ frames := 1, cells := 0, slots := 0, locals := 22 }) (va_Pc [.ref (kad κ 0), .int p0, .int p1] (WX κ σ)) (va_Qi (fun r σ' => σ = σ' ∧ r = xDocument σ p0 p1) (WX κ) (FA κ)) 0 0 (FA κ) := by
  refine g_met 1 (by decide) rfl (Nat.le_of_ble_eq_true rfl) ?_
  intro p e s m args below meth c hC F th hO ls hl
  have hl : LL ls 4 [some _, some _, some _, none] := hl
  refine g_aload_n hC hl dX3_document_0 rfl rfl ?_
  refine g_iload_n hC hl dX3_document_1 rfl rfl ?_
  refine g_cVq1 hC hO hl (ci := 3) rfl (nn_lt (Nat.le_of_ble_eq_true rfl)) rfl (c_X3_receptacleOf l κ _ _) mi_X3_receptacleOf q_ml_RX3_36 rfl rfl ⟨Nat.le_of_ble_eq_true rfl, Nat.le_of_ble_eq_true rfl⟩ (Nat.le_of_ble_eq_true rfl) ⟨Nat.zero_le _, Nat.zero_le _⟩ dX3_document_2 (fun r σ1 F th H locs hr hO => ?_)
  obtain ⟨rfl, hr⟩ := hr
  rcases hr with ⟨rfl, hq2⟩ | ⟨k, hq2, rfl⟩
  · skip
    refine g_astore_nN hC hl dX3_document_5 rfl (Nat.le_of_ble_eq_true rfl) rfl (fun ls hl => ?_)
    have hl : LL ls 4 [some _, some _, some _, some _] := hl
    refine g_aload_nN hC hl dX3_document_6 rfl rfl ?_
    refine lv_ifnonnullN hC.1 hC.2.1 dX3_document_7 ?_
    refine lv_bipush (v := (-11)) hC.1 hC.2.1 dX3_document_10 (by decide) ?_
    refine lv_goto (tgt := 23) hC.1 hC.2.1 dX3_document_12 (by decide) ?_
    exact g_iret hC hO dX3_document_23 (⟨rfl, by unfold xDocument; simp [hq2]⟩)
  · have hk := recOf_lt hq2
    refine g_astore_n hC hl dX3_document_5 rfl (Nat.le_of_ble_eq_true rfl) rfl (fun ls hl => ?_)
    have hl : LL ls 4 [some _, some _, some _, some _] := hl
    refine g_aload_n hC hl dX3_document_6 rfl rfl ?_
    refine lv_ifnonnull (tgt := 15) hC.1 hC.2.1 dX3_document_7 (by decide) ?_
    refine g_aload_n hC hl dX3_document_15 rfl rfl ?_
    refine g_get (ci := 1) (k := 6) hC hO rfl inX1 (by decide) q_fl_RX3_86 (nn_rb hk) (sh_rec _ _ _ _ _) rfl dX3_document_16 ?_
    refine g_iload_n hC hl dX3_document_19 rfl rfl ?_
    refine g_cVi1 hC hO hl (ci := 2) rfl (nn_rc hk (by decide)) (sh_row _ _ _ _ _ (by decide)) (c_X2_at l κ _ (k) (1) (by exact hk) (by decide) _) mi_X2_at q_ml_RX3_137 rfl rfl ⟨Nat.le_of_ble_eq_true rfl, Nat.le_of_ble_eq_true rfl⟩ (Nat.le_of_ble_eq_true rfl) ⟨Nat.zero_le _, Nat.zero_le _⟩ dX3_document_20 (fun r σ1 F th H locs hr hO => ?_)
    obtain ⟨rfl, rfl⟩ := hr
    exact g_iret hC hO dX3_document_23 (⟨rfl, by unfold xDocument; simp [hq2]⟩)

set_option maxHeartbeats 4000000 in
set_option maxRecDepth 100000 in
/-- BagRows.move -/
theorem c_X3_move (l : Launch) (κ : KK) (σ : ST) (p0 p1 : Int32) : Met l yX3_move (wA yX3_move cX3_move 4 (some .int)) ({ frames := 3, cells := 0, slots := 0, locals := 69 }) (va_Pc [.ref (kad κ 0), .int p0, .int p1] (WX κ σ)) (va_Qi (fun r σ' => (r, σ') = xMove σ p0 p1) (WX κ) (FA κ)) 0 0 (FA κ) := by
  refine g_met 1 (by decide) rfl (Nat.le_of_ble_eq_true rfl) ?_
  intro p e s m args below meth c hC F th hO ls hl
  have hl : LL ls 4 [some _, some _, some _, none] := hl
  refine g_aload_n hC hl dX3_move_0 rfl rfl ?_
  refine g_iload_n hC hl dX3_move_1 rfl rfl ?_
  refine g_cVq1 hC hO hl (ci := 3) rfl (nn_lt (Nat.le_of_ble_eq_true rfl)) rfl (c_X3_receptacleOf l κ _ _) mi_X3_receptacleOf q_ml_RX3_36 rfl rfl ⟨Nat.le_of_ble_eq_true rfl, Nat.le_of_ble_eq_true rfl⟩ (Nat.le_of_ble_eq_true rfl) ⟨Nat.zero_le _, Nat.zero_le _⟩ dX3_move_2 (fun r σ1 F th H locs hr hO => ?_)
  obtain ⟨rfl, hr⟩ := hr
  rcases hr with ⟨rfl, hq2⟩ | ⟨k, hq2, rfl⟩
  · skip
    refine g_astore_nN hC hl dX3_move_5 rfl (Nat.le_of_ble_eq_true rfl) rfl (fun ls hl => ?_)
    have hl : LL ls 4 [some _, some _, some _, some _] := hl
    refine g_aload_nN hC hl dX3_move_6 rfl rfl ?_
    refine lv_ifnonnullN hC.1 hC.2.1 dX3_move_7 ?_
    refine lv_bipush (v := (-11)) hC.1 hC.2.1 dX3_move_10 (by decide) ?_
    exact g_iret hC hO dX3_move_12 (by unfold xMove; simp [hq2, sN_setOwn])
  · have hk := recOf_lt hq2
    refine g_astore_n hC hl dX3_move_5 rfl (Nat.le_of_ble_eq_true rfl) rfl (fun ls hl => ?_)
    have hl : LL ls 4 [some _, some _, some _, some _] := hl
    refine g_aload_n hC hl dX3_move_6 rfl rfl ?_
    refine lv_ifnonnull (tgt := 13) hC.1 hC.2.1 dX3_move_7 (by decide) ?_
    refine g_iload_n hC hl dX3_move_13 rfl rfl ?_
    refine lv_if_lt (tgt := 23) hC.1 hC.2.1 dX3_move_14 (by decide) (fun c_1 => ?_) (fun c_1 => ?_)
    · skip
      refine lv_bipush (v := (-12)) hC.1 hC.2.1 dX3_move_23 (by decide) ?_
      exact g_iret hC hO dX3_move_25 (by unfold xMove; simp [c_1, hq2, sN_setOwn])
    · skip
      refine g_iload_n hC hl dX3_move_17 rfl rfl ?_
      refine lv_bipush (v := 9) hC.1 hC.2.1 dX3_move_18 (by decide) ?_
      refine lv_icmp_le (tgt := 26) hC.1 hC.2.1 dX3_move_20 (by decide) (fun c_2 => ?_) (fun c_2 => ?_)
      · skip
        refine g_aload_n hC hl dX3_move_26 rfl rfl ?_
        refine g_get (ci := 1) (k := 1) hC hO rfl inX1 (by decide) q_fl_RX3_93 (nn_rb hk) (sh_rec _ _ _ _ _) rfl dX3_move_27 ?_
        refine lv_if_eq (tgt := 41) hC.1 hC.2.1 dX3_move_30 (by decide) (fun c_3 => ?_) (fun c_3 => ?_)
        · skip
          refine lv_bipush (v := (-13)) hC.1 hC.2.1 dX3_move_41 (by decide) ?_
          exact g_iret hC hO dX3_move_43 (by unfold xMove; simp [c_1, c_2, c_3, hq2, sN_setOwn])
        · skip
          refine g_aload_n hC hl dX3_move_33 rfl rfl ?_
          refine g_iload_n hC hl dX3_move_34 rfl rfl ?_
          refine g_cVi1 hC hO hl (ci := 3) rfl (nn_lt (Nat.le_of_ble_eq_true rfl)) rfl (c_X3_holderOf l κ _ _) mi_X3_holderOf q_ml_RX3_47 rfl rfl ⟨Nat.le_of_ble_eq_true rfl, Nat.le_of_ble_eq_true rfl⟩ (Nat.le_of_ble_eq_true rfl) ⟨Nat.zero_le _, Nat.zero_le _⟩ dX3_move_35 (fun r σ1 F th H locs hr hO => ?_)
          obtain ⟨rfl, rfl⟩ := hr
          refine lv_if_eq (tgt := 44) hC.1 hC.2.1 dX3_move_38 (by decide) (fun c_4 => ?_) (fun c_4 => ?_)
          · skip
            refine g_aload_n hC hl dX3_move_44 rfl rfl ?_
            refine g_iload_n hC hl dX3_move_45 rfl rfl ?_
            refine g_iload_n hC hl dX3_move_46 rfl rfl ?_
            refine g_cVv2 hC hO hl (ci := 3) rfl (nn_lt (Nat.le_of_ble_eq_true rfl)) rfl (c_X3_setOwnPlace l κ _ _ _) mi_X3_setOwnPlace q_ml_RX3_160 rfl rfl ⟨Nat.le_of_ble_eq_true rfl, Nat.le_of_ble_eq_true rfl⟩ (Nat.le_of_ble_eq_true rfl) ⟨Nat.zero_le _, Nat.zero_le _⟩ dX3_move_47 (fun σ1 F th H locs hr hO => ?_)
            subst hr
            refine g_aload_n hC hl dX3_move_50 rfl rfl ?_
            refine g_iload_n hC hl dX3_move_51 rfl rfl ?_
            refine g_cVi1 hC hO hl (ci := 3) rfl (nn_lt (Nat.le_of_ble_eq_true rfl)) rfl (c_X3_thingsOf l κ _ _) mi_X3_thingsOf q_ml_RX3_164 rfl rfl ⟨Nat.le_of_ble_eq_true rfl, Nat.le_of_ble_eq_true rfl⟩ (Nat.le_of_ble_eq_true rfl) ⟨Nat.zero_le _, Nat.zero_le _⟩ dX3_move_52 (fun r σ1 F th H locs hr hO => ?_)
            obtain ⟨rfl, rfl⟩ := hr
            exact g_iret hC hO dX3_move_55 (by unfold xMove; simp [c_1, c_2, c_3, c_4, hq2, sN_setOwn])
          · skip
            refine lv_bipush (v := (-13)) hC.1 hC.2.1 dX3_move_41 (by decide) ?_
            exact g_iret hC hO dX3_move_43 (by unfold xMove; simp [c_1, c_2, c_3, c_4, hq2, sN_setOwn])
      · skip
        refine lv_bipush (v := (-12)) hC.1 hC.2.1 dX3_move_23 (by decide) ?_
        exact g_iret hC hO dX3_move_25 (by unfold xMove; simp [c_1, c_2, hq2, sN_setOwn])

set_option maxHeartbeats 4000000 in
set_option maxRecDepth 100000 in
/-- BagRows.place -/
theorem c_X3_place (l : Launch) (κ : KK) (σ : ST) (p0 : Int32) : Met l yX3_place (wA yX3_place cX3_place 2 (some .int)) ({ frames := 2, cells := 0, slots := 0, locals := 44 }) (va_Pc [.ref (kad κ 0), .int p0] (WX κ σ)) (va_Qi (fun r σ' => σ = σ' ∧ r = xPlace σ p0) (WX κ) (FA κ)) 0 0 (FA κ) := by
  refine g_met 0 (by decide) rfl (Nat.le_of_ble_eq_true rfl) ?_
  intro p e s m args below meth c hC F th hO ls hl
  have hl : LL ls 2 [some _, some _] := hl
  refine g_aload_n hC hl dX3_place_0 rfl rfl ?_
  refine g_iload_n hC hl dX3_place_1 rfl rfl ?_
  refine g_cVi1 hC hO hl (ci := 3) rfl (nn_lt (Nat.le_of_ble_eq_true rfl)) rfl (c_X3_isThing l κ _ _) mi_X3_isThing q_ml_RX3_40 rfl rfl ⟨Nat.le_of_ble_eq_true rfl, Nat.le_of_ble_eq_true rfl⟩ (Nat.le_of_ble_eq_true rfl) ⟨Nat.zero_le _, Nat.zero_le _⟩ dX3_place_2 (fun r σ1 F th H locs hr hO => ?_)
  obtain ⟨rfl, rfl⟩ := hr
  refine lv_if_eq (tgt := 16) hC.1 hC.2.1 dX3_place_5 (by decide) (fun c_1 => ?_) (fun c_1 => ?_)
  · skip
    have c_1 := bI_z c_1
    refine lv_bipush (v := (-11)) hC.1 hC.2.1 dX3_place_16 (by decide) ?_
    exact g_iret hC hO dX3_place_18 (⟨rfl, by unfold xPlace; simp [c_1]⟩)
  · skip
    have c_1 := bI_nz c_1
    refine g_aload_n hC hl dX3_place_8 rfl rfl ?_
    refine g_iload_n hC hl dX3_place_9 rfl rfl ?_
    refine g_cVi1 hC hO hl (ci := 3) rfl (nn_lt (Nat.le_of_ble_eq_true rfl)) rfl (c_X3_placeOf l κ _ _) mi_X3_placeOf q_ml_RX3_55 rfl rfl ⟨Nat.le_of_ble_eq_true rfl, Nat.le_of_ble_eq_true rfl⟩ (Nat.le_of_ble_eq_true rfl) ⟨Nat.zero_le _, Nat.zero_le _⟩ dX3_place_10 (fun r σ1 F th H locs hr hO => ?_)
    obtain ⟨rfl, rfl⟩ := hr
    refine lv_goto (tgt := 18) hC.1 hC.2.1 dX3_place_13 (by decide) ?_
    exact g_iret hC hO dX3_place_18 (⟨rfl, by unfold xPlace; simp [c_1]⟩)

set_option maxHeartbeats 4000000 in
set_option maxRecDepth 100000 in
/-- BagRows.tick -/
theorem c_X3_tick (l : Launch) (κ : KK) (σ : ST) (n : Nat) (hn : sI σ 4 1 = nI n) (hn2 : n ≤ 512) (a : Nat) (ha : sI σ 4 2 = nI a) (ha2 : a ≤ n) (p0 : Int64) : Met l yX3_tick (wA yX3_tick cX3_tick 3 (some .int)) ({ frames := 1, cells := 0, slots := 0, locals := 24 }) (va_Pc [.ref (kad κ 0), .long p0] (WX κ σ)) (va_Qi (fun r σ' => (r, σ') = xTick σ n a p0) (WX κ) (FA κ)) 0 0 (FA κ) := by
  refine g_met 0 (by decide) rfl (Nat.le_of_ble_eq_true rfl) ?_
  intro p e s m args below meth c hC F th hO ls hl
  have hl : LL ls 3 [some _, some _, none] := hl
  refine g_lload_n hC hl dX3_tick_0 rfl rfl ?_
  refine g_aload_n hC hl dX3_tick_1 rfl rfl ?_
  refine g_get (ci := 3) (k := 5) hC hO rfl inX3 (by decide) q_fl_RX3_104 (nn_lt (Nat.le_of_ble_eq_true rfl)) rfl rfl dX3_tick_2 ?_
  refine W.lcmp hC.1 hC.2.1 dX3_tick_5 ?_
  refine lv_if_lt (tgt := 17) hC.1 hC.2.1 dX3_tick_6 (by decide) (fun c_1 => ?_) (fun c_1 => ?_)
  · skip
    rw [lg_cmp_lt] at c_1
    refine lv_bipush (v := (-12)) hC.1 hC.2.1 dX3_tick_17 (by decide) ?_
    exact g_iret hC hO dX3_tick_19 (by unfold xTick; simp only [c_1, if_true, if_false, not_false_eq_true, reduceIte, not_true_eq_false])
  · skip
    rw [lg_cmp_lt] at c_1
    refine g_lload_n hC hl dX3_tick_9 rfl rfl ?_
    refine lv_ldc2 hC.1 hC.2.1 hC.2.2.2.1 (hC.2.2.2.2.1 _ q_kl_RX3_167) dX3_tick_10 ?_
    refine W.lcmp hC.1 hC.2.1 dX3_tick_13 ?_
    refine lv_if_le (tgt := 20) hC.1 hC.2.1 dX3_tick_14 (by decide) (fun c_2 => ?_) (fun c_2 => ?_)
    · skip
      rw [lg_cmp_le] at c_2
      refine g_aload_n hC hl dX3_tick_20 rfl rfl ?_
      refine g_lload_n hC hl dX3_tick_21 rfl rfl ?_
      refine g_putl (ci := 3) (k := 5) hC hO rfl inX3 tyX3_ok nmX3 (by decide) q_fl_RX3_104 rfl (nn_lt (Nat.le_of_ble_eq_true rfl)) rfl (Nat.le_of_ble_eq_true rfl) rfl rfl rfl dX3_tick_22 (fun H locs hO => ?_)
      refine g_aload_n hC hl dX3_tick_25 rfl rfl ?_
      refine g_get (ci := 3) (k := 4) hC hO rfl inX3 (by decide) q_fl_RX3_25 (nn_lt (Nat.le_of_ble_eq_true rfl)) rfl rfl dX3_tick_26 ?_
      refine g_lload_n hC hl dX3_tick_29 rfl rfl ?_
      refine g_cVi1 hC hO hl (ci := 0) rfl (nn_lt (Nat.le_of_ble_eq_true rfl)) rfl (c_X0_tellUntil l κ _ n (by exact hn) hn2 a (by exact ha) ha2 _) mi_X0_tellUntil q_ml_RX3_169 rfl rfl ⟨Nat.le_of_ble_eq_true rfl, Nat.le_of_ble_eq_true rfl⟩ (Nat.le_of_ble_eq_true rfl) ⟨Nat.zero_le _, Nat.zero_le _⟩ dX3_tick_30 (fun r σ1 F th H locs hr hO => ?_)
      obtain ⟨rfl, rfl⟩ := hr
      exact g_iret hC hO dX3_tick_33 (by unfold xTick; simp only [c_1, c_2, if_true, if_false, not_false_eq_true, reduceIte, not_true_eq_false])
    · skip
      rw [lg_cmp_le] at c_2
      refine lv_bipush (v := (-12)) hC.1 hC.2.1 dX3_tick_17 (by decide) ?_
      exact g_iret hC hO dX3_tick_19 (by unfold xTick; simp only [c_1, c_2, if_true, if_false, not_false_eq_true, reduceIte, not_true_eq_false])
end
section
/-! the model's methods, over the state -/
def upA (σ : ST) (co : Nat) (f : Nat → Int32) : ST := (σ.1, va_up σ.2.1 co f, σ.2.2)
theorem sI_upA (σ : ST) (co : Nat) (f : Nat → Int32) (c : Nat) : sI (upA σ co f) c = if c = co then f else sI σ c := by
  by_cases h : c = co
  · subst h; simp [sI, upA, va_up_self]
  · simp [sI, upA, va_up_ne _ _ h, h]
theorem upA_self (σ : ST) (co : Nat) : upA σ co (sI σ co) = σ := by
  unfold upA sI
  have h : va_up σ.2.1 co (σ.2.1 co) = σ.2.1 := by
    funext q
    by_cases hq : q = co
    · subst hq; rw [va_up_self]
    · rw [va_up_ne _ _ hq]
  rw [h]
theorem upI_upA (σ : ST) (co i : Nat) (f : Nat → Int32) (x : Int32) : upI (upA σ co f) co i x = upA σ co (upd f i x) := by
  simp only [upI, upA, va_up_self]
  have h : va_up (va_up σ.2.1 co f) co (upd f i x) = va_up σ.2.1 co (upd f i x) := by
    funext q
    by_cases hq : q = co
    · subst hq; rw [va_up_self, va_up_self]
    · rw [va_up_ne _ _ hq, va_up_ne _ _ hq, va_up_ne _ _ hq]
  rw [h]
def MB (σ : ST) : Prop := sI σ 6 5 = nI σ.1 ∧ σ.1 ≤ 60 ∧ (∀ t, t < 1061 → sI σ 7 t = 0 ∨ ∃ k, k < σ.1 ∧ sI σ 7 t = nI (1001 + k)) ∧ (∀ k, k < σ.1 → ∃ d, d ≤ 3 ∧ sI σ 10 k = nI d) ∧ (∀ j k, j < σ.1 → k < σ.1 → sI σ 7 (1001 + j) = nI (1001 + k) → sI σ 10 j < sI σ 10 k)
theorem MB.upA {σ : ST} (h : MB σ) (co : Nat) (f : Nat → Int32) (h1 : co ≠ 6) (h2 : co ≠ 7) (h3 : co ≠ 10) : MB (upA σ co f) := by
  unfold MB
  rw [sI_upA, sI_upA, sI_upA, if_neg (Ne.symm h1), if_neg (Ne.symm h2), if_neg (Ne.symm h3)]
  exact h
theorem recOf_isSome {σ : ST} {b : Int32} (h : (recOf σ b).isSome = true) : ∃ k, recOf σ b = some k ∧ k < σ.1 ∧ b = nI (1001 + k) := by
  obtain ⟨k, hk⟩ := Option.isSome_iff_exists.mp h
  obtain ⟨h1, h2⟩ := recOf_some hk
  refine ⟨k, hk, h1, ?_⟩
  have h0 : ¬ b < 0 := by
    rw [Int32.lt_iff_toInt_lt]
    have e2 : (0 : Int32).toInt = 0 := rfl
    omega
  obtain ⟨j, hj, rfl⟩ := nI_of h0
  rw [nI_toInt hj] at h2
  rw [show j = 1001 + k by omega]
theorem itemB_iff {t : Int32} : itemB t = true ↔ 1 ≤ t.toInt ∧ t.toInt ≤ 999 := by
  unfold itemB
  rw [Bool.and_eq_true, decide_eq_true_eq, decide_eq_true_eq, Int32.le_iff_toInt_le, Int32.le_iff_toInt_le]
  exact Iff.rfl
theorem thing_ex {σ : ST} {t : Int32} (h : thingB σ t = true) (h60 : σ.1 ≤ 60) : ∃ n, 1 ≤ n ∧ n < 1061 ∧ t = nI n := by
  unfold thingB at h
  rw [Bool.or_eq_true] at h
  rcases h with h | h
  · obtain ⟨h1, h2⟩ := itemB_iff.mp h
    have h0 : ¬ t < 0 := by
      rw [Int32.lt_iff_toInt_lt]
      have e2 : (0 : Int32).toInt = 0 := rfl
      omega
    obtain ⟨j, hj, rfl⟩ := nI_of h0
    rw [nI_toInt hj] at h1 h2
    exact ⟨j, by omega, by omega, rfl⟩
  · obtain ⟨k, -, hk, rfl⟩ := recOf_isSome h
    exact ⟨1001 + k, by omega, by omega, rfl⟩
theorem sub1001 {k : Nat} (hk : 1001 + k < 2 ^ 31) : nI (1001 + k) - 1001 = nI k := by
  rw [show (1001 : Int32) = nI 1001 from rfl, pk_sub (by omega), show 1001 + k - 1001 = k by omega]
theorem ix12 (k i : Nat) : (12 : Int32) * nI k + nI i = nI (12 * k + i) := by
  rw [show (12 : Int32) = nI 12 from rfl, pk_mul, nI_add]
theorem ix6 (k i : Nat) : (6 : Int32) * nI k + nI i = nI (6 * k + i) := by
  rw [show (6 : Int32) = nI 6 from rfl, pk_mul, nI_add]
/-- the receptacles from r outwards -/
def ancR (σ : ST) : Nat → Int32 → List Int32
  | 0, _ => []
  | f + 1, r => if r = 0 then [] else r :: ancR σ f (sI σ 7 r.toNatClampNeg)
theorem ancR_congr {σ σ' : ST} (h : ∀ t, sI σ' 7 t = sI σ 7 t) : ∀ (f : Nat) (r : Int32), ancR σ' f r = ancR σ f r := by
  intro f
  induction f with
  | zero => intro r; rfl
  | succ f ih => intro r; simp only [ancR, h, ih]
theorem ancR_0 (σ : ST) (f : Nat) : ancR σ f 0 = [] := by cases f <;> simp [ancR]
def lieB (σ : ST) (t : Nat) (b : Int32) : Bool := decide (b ∈ ancR σ 4 (sI σ 7 t))
def clB (σ : ST) (r : Int32) : Bool := !decide (sI σ 11 (r.toNatClampNeg - 1001) = 0)
def shutInB (σ : ST) (t : Nat) : Bool := (ancR σ 4 (sI σ 7 t)).any (clB σ)
/-- the walk outwards: what is known of r with f steps left -/
def okR (σ : ST) (f : Nat) (r : Int32) : Prop := r = 0 ∨ ∃ k d, k < σ.1 ∧ r = nI (1001 + k) ∧ sI σ 10 k = nI d ∧ d ≤ 3 ∧ 4 ≤ f + d
theorem MB.start {σ : ST} (h : MB σ) {t : Nat} (ht : t < 1061) : okR σ 4 (sI σ 7 t) := by
  rcases h.2.2.1 t ht with e | ⟨k, hk, e⟩
  · exact Or.inl e
  · obtain ⟨d, hd, e2⟩ := h.2.2.2.1 k hk
    exact Or.inr ⟨k, d, hk, e, e2, hd, by omega⟩
theorem MB.next {σ : ST} (h : MB σ) {f k d : Nat} (hk : k < σ.1) (e2 : sI σ 10 k = nI d) (hd : d ≤ 3) (h4 : 4 ≤ f + 1 + d) : okR σ f (sI σ 7 (1001 + k)) := by
  have h60 := h.2.1
  rcases h.2.2.1 (1001 + k) (by omega) with e | ⟨j, hj, e⟩
  · exact Or.inl e
  · obtain ⟨d2, hd2, e3⟩ := h.2.2.2.1 j hj
    have hl := h.2.2.2.2 k j hk hj e
    rw [e2, e3, nI_ltI (by omega) (by omega)] at hl
    exact Or.inr ⟨j, d2, hj, e, e3, hd2, by omega⟩
def cntN (σ : ST) (b : Int32) : Nat → Nat
  | 0 => 0
  | i + 1 => if 1 ≤ i ∧ sI σ 7 i = b then cntN σ b i + 1 else cntN σ b i
theorem cntN_le (σ : ST) (b : Int32) : ∀ i, cntN σ b i ≤ i := by
  intro i
  induction i with
  | zero => exact Nat.le_refl _
  | succ i ih => simp only [cntN]; split <;> omega
def mkF (σ : ST) (t : Int32) : Int32 := match recOf σ t with
  | some k => sI σ 10 k
  | none => -1
def mPut (σ : ST) (b : Int32) (t : Nat) : ST := upI (upI (upI σ 7 t b) 6 4 (sI σ 6 4 + 1)) 8 t (sI σ 6 4 + 1)
def mNote (σ : ST) : ST := upI (upJ σ 23 (sI σ 6 21).toNatClampNeg (sJ σ 6 19 + 100)) 6 21 (sI σ 6 21 + 1)
def lpF (σ : ST) (k : Nat) (t : Int32) : Nat → Int32
  | 0 => -1
  | i + 1 => if sI σ 17 (12 * k + i) = t then nI i else lpF σ k t i
def exF (σ : ST) (k : Nat) (t : Int32) : Nat → Bool
  | 0 => false
  | i + 1 => exF σ k t i || decide (sI σ 20 (12 * k + i) = t)
def brC (σ : ST) (tn x : Nat) : Bool := thingB σ (nI x) && (decide (x = tn) || lieB σ x (nI tn))
def brN (σ : ST) (tn : Nat) : Nat → Nat
  | 0 => 0
  | i + 1 => if 1 ≤ i ∧ brC σ tn i = true then brN σ tn i + 1 else brN σ tn i
def brP (σ : ST) (tn : Nat) (w : Int32) (i : Nat) : Nat → Int32 := fun x => if 1 ≤ x ∧ x < i ∧ brC σ tn x = true then w else sI σ 9 x
def ownM (σ : ST) (t : Nat) : Int64 := if t ≤ 1000 then 5 + 10 * (nI (t % 50)).toInt64 else 100 * (sI σ 10 (t - 1001)).toInt64 + 100
def mws (σ : ST) (b : Nat) : Nat → Int64
  | 0 => ownM σ b
  | i + 1 => if 1 ≤ i ∧ lieB σ i (nI b) = true then mws σ b i + ownM σ i else mws σ b i
def pickF (what sort : Int32) (other : Int64) : Int32 := if what = 0 then sort else other.toInt32
/-- what is on the list and was not seen -/
def misL (σ : ST) (k : Nat) : Nat → List Int32
  | 0 => []
  | i + 1 => if sI σ 18 (12 * k + i) = 0 then misL σ k i ++ [sI σ 17 (12 * k + i)] else misL σ k i
def mdT (σ : ST) (k ln ex i : Nat) (what : Int32) : Int32 :=
  if i < (misL σ k ln).length then pickF what 2 ((misL σ k ln).getD i 0).toInt64
  else if i - (misL σ k ln).length < ex then pickF what 3 (sI σ 20 (12 * k + (i - (misL σ k ln).length))).toInt64
  else -1
def mdW (σ : ST) (k ln ex we i : Nat) (what : Int32) : Int32 := if i < we then pickF what 1 (sJ σ 22 (6 * k + i)) else mdT σ k ln ex (i - we) what
def mdF (σ : ST) (k ln ex we i : Nat) (what : Int32) : Int32 := if sJ σ 15 k = sJ σ 13 k then mdW σ k ln ex we i what else if i = 0 then pickF what 0 (sJ σ 15 k) else mdW σ k ln ex we (i - 1) what
def tkN (σ : ST) (told now : Int64) : Nat → Nat
  | 0 => 0
  | i + 1 => if told < sJ σ 23 i ∧ sJ σ 23 i ≤ now then tkN σ told now i + 1 else tkN σ told now i
def mInto (σ : ST) (b t : Int32) : Int32 × ST := match recOf σ b with
  | none => (-11, σ)
  | some k => if thingB σ t = false then (-11, σ) else if ¬ sI σ 11 k = 0 then (-13, σ) else if shutInB σ (1001 + k) = true then (-13, σ) else if ¬ sI σ 7 t.toNatClampNeg = 0 then (-13, σ) else if t = b then (-13, σ) else if mkF σ b ≤ mkF σ t then (-13, σ) else if ¬ sI σ 9 t.toNatClampNeg = sI σ 9 (1001 + k) then (-13, σ) else if cntN σ b 1061 = 12 then (-14, σ) else (1, mPut σ b t.toNatClampNeg)
def mTake (σ : ST) (t : Int32) : Int32 × ST := if thingB σ t = false then (-11, σ) else if sI σ 7 t.toNatClampNeg = 0 then (-13, σ) else if shutInB σ t.toNatClampNeg = true then (-13, σ) else (sI σ 7 t.toNatClampNeg, upI σ 7 t.toNatClampNeg 0)
def mShut (σ : ST) (k : Nat) (q : Int64) (w : Int32) : ST := upI (upI (upJ (upI (upI σ 11 k 1) 12 k 0) 13 k q) 14 k w) 21 k 0
def lstP (σ : ST) (k : Nat) (l : List Int32) : Nat → Int32 := fun x => if 12 * k ≤ x ∧ x < 12 * k + l.length then l.getD (x - 12 * k) 0 else sI σ 17 x
def mClose (σ : ST) (l : List Int32) (b : Int32) (q : Int64) (w : Int32) : Int32 × ST := match recOf σ b with
  | none => (-11, σ)
  | some k => if sealB q = false then (-12, σ) else if personB w = false then (-12, σ) else if ¬ sI σ 11 k = 0 then (-13, σ) else if shutInB σ (1001 + k) = true then (-13, σ) else (nI l.length, upI (upA (mShut σ k q w) 17 (lstP σ k l)) 16 k (nI l.length))
def pplB (σ : ST) (k : Nat) (a c : Int32) : Bool := if sI σ 10 k < 2 then (decide (c = -1) && !decide (a = sI σ 14 k)) else (!decide (c = -1) && !decide (a = c))
def mUns (σ : ST) (k : Nat) (q : Int64) : ST := upA (upI (upJ (upI (upI σ 11 k 0) 12 k 1) 15 k q) 19 k 0) 18 (fun x => if 12 * k ≤ x ∧ x < 12 * k + 12 then 0 else sI σ 18 x)
def mOpen (σ : ST) (b : Int32) (q : Int64) (a c : Int32) : Int32 × ST := match recOf σ b with
  | none => (-11, σ)
  | some k => if sealB q = false then (-12, σ) else if personB a = false then (-12, σ) else if orPerson c = false then (-12, σ) else if sI σ 11 k = 0 then (-13, σ) else if shutInB σ (1001 + k) = true then (-13, σ) else if pplB σ k a c = false then (-13, σ) else if q = sJ σ 13 k then (1, mUns σ k q) else (-1, mNote (mUns σ k q))
def mBring (σ : ST) (tn : Nat) (w : Int32) : ST := upA σ 9 (brP σ tn w 1061)
def mEx (σ : ST) (k ex : Nat) (t : Int32) : ST := mNote (upI (upI σ 20 (12 * k + ex) t) 19 k (nI (ex + 1)))
def mFound (σ : ST) (k ln ex : Nat) (b t : Int32) : Int32 × ST :=
  if sI σ 12 k = 0 then (-13, σ) else if t = b then (-13, σ) else if lieB σ (1001 + k) t = true then (-13, σ) else if mkF σ b ≤ mkF σ t then (-13, σ)
  else if ¬ lpF σ k t ln < 0 then (1, upI σ 18 (12 * k + (lpF σ k t ln).toNatClampNeg) 1)
  else if exF σ k t ex = true then (0, σ)
  else if ¬ ex < 12 then (-14, σ)
  else if sI σ 7 t.toNatClampNeg = b then (0, mEx σ k ex t)
  else if cntN σ b 1061 = 12 then (-14, σ)
  else (0, mEx (mBring (mPut σ b t.toNatClampNeg) t.toNatClampNeg (sI σ 9 (1001 + k))) k ex t)
def mWeight (σ : ST) (k we : Nat) (q : Int64) : Int32 × ST :=
  if q < 0 then (-12, σ) else if ¬ q ≤ 1000000000 then (-12, σ) else if ¬ mws σ (1001 + k) 1061 / 50 < (if mws σ (1001 + k) 1061 ≤ q then q - mws σ (1001 + k) 1061 else mws σ (1001 + k) 1061 - q) then (1, σ)
  else if we < 6 then (0, mNote (upI (upJ σ 22 (6 * k + we) q) 21 k (nI (we + 1)))) else (0, mNote σ)
def mTick (σ : ST) (n : Nat) (t : Int64) : Int32 × ST := if t < sJ σ 6 19 then (-12, σ) else if ¬ t ≤ 1000000000000 then (-12, σ) else (nI (tkN σ (sJ σ 6 20) t n), upJ (upJ σ 6 19 t) 6 20 t)
theorem recOf_no {σ : ST} {b : Int32} (h : (recOf σ b).isSome = false) : recOf σ b = none := by
  cases e : recOf σ b with
  | none => rfl
  | some k => rw [e] at h; cases h
theorem thing_big {σ : ST} {j : Nat} (hj : 1001 + j < 2 ^ 31) (h : thingB σ (nI (1001 + j)) = true) : j < σ.1 := by
  unfold thingB at h
  rw [Bool.or_eq_true] at h
  rcases h with h | h
  · have h1 := itemB_iff.mp h
    rw [nI_toInt hj] at h1
    omega
  · rw [recOf_nI hj] at h
    by_cases hk : j < σ.1
    · exact hk
    · rw [if_neg hk] at h; cases h
theorem thing_bag {σ : ST} {k : Nat} {b : Int32} (h : recOf σ b = some k) : thingB σ b = true := by
  unfold thingB
  rw [h]
  simp
theorem mem_dec_t {a p : Int32} {l : List Int32} (h : a = p) : decide (p ∈ a :: l) = true := by
  subst h
  exact decide_eq_true List.mem_cons_self
theorem mem_dec_f {a p : Int32} {l : List Int32} (h : ¬ a = p) : decide (p ∈ a :: l) = decide (p ∈ l) := by
  apply decide_eq_decide.mpr
  rw [List.mem_cons]
  exact ⟨fun q => q.resolve_left (fun e => h e.symm), Or.inr⟩
theorem brN_t {σ : ST} {tn i : Nat} (h1 : 1 ≤ i) (h : brC σ tn i = true) : nI (brN σ tn (i + 1)) = nI (brN σ tn i + 1) := by rw [brN, if_pos ⟨h1, h⟩]
theorem brN_f {σ : ST} {tn i : Nat} (h : brC σ tn i = false) : nI (brN σ tn (i + 1)) = nI (brN σ tn i) := by rw [brN, if_neg (by rw [h]; simp)]
theorem brP_t {σ : ST} {tn i : Nat} {w : Int32} (h1 : 1 ≤ i) (h : brC σ tn i = true) : brP σ tn w (i + 1) = upd (brP σ tn w i) i w := by
  funext x
  unfold brP upd
  by_cases hx : x = i
  · subst hx
    rw [if_pos ⟨h1, by omega, h⟩, if_pos rfl]
  · rw [if_neg hx]
    show (if 1 ≤ x ∧ x < i + 1 ∧ brC σ tn x = true then w else sI σ 9 x) = (if 1 ≤ x ∧ x < i ∧ brC σ tn x = true then w else sI σ 9 x)
    by_cases hc : 1 ≤ x ∧ x < i ∧ brC σ tn x = true
    · rw [if_pos hc, if_pos ⟨hc.1, by omega, hc.2.2⟩]
    · rw [if_neg hc, if_neg (fun q => hc ⟨q.1, by omega, q.2.2⟩)]
theorem brP_f {σ : ST} {tn i : Nat} {w : Int32} (h : brC σ tn i = false) : brP σ tn w (i + 1) = brP σ tn w i := by
  funext x
  unfold brP
  by_cases hc : 1 ≤ x ∧ x < i ∧ brC σ tn x = true
  · rw [if_pos hc, if_pos ⟨hc.1, by omega, hc.2.2⟩]
  · rw [if_neg hc, if_neg (fun q => hc ⟨q.1, by
      by_cases hx : x = i
      · subst hx; rw [h] at q; exact absurd q.2.2 (by decide)
      · omega, q.2.2⟩)]
theorem brP_1 (σ : ST) (tn : Nat) (w : Int32) : brP σ tn w 1 = sI σ 9 := by
  funext x
  unfold brP
  rw [if_neg (by omega)]
theorem misL_pre (σ : ST) (k : Nat) {p q : Nat} (h : p ≤ q) : ∃ r, misL σ k q = misL σ k p ++ r := by
  induction q with
  | zero => exact ⟨[], by rw [show p = 0 by omega]; simp⟩
  | succ q ih =>
    by_cases hp : p = q + 1
    · subst hp; exact ⟨[], by simp⟩
    · obtain ⟨r, hr⟩ := ih (by omega)
      by_cases hs : sI σ 18 (12 * k + q) = 0
      · exact ⟨r ++ [sI σ 17 (12 * k + q)], by rw [misL, if_pos hs, hr, List.append_assoc]⟩
      · exact ⟨r, by rw [misL, if_neg hs, hr]⟩
theorem misL_get {σ : ST} {k p q : Nat} (h : p < q) (hs : sI σ 18 (12 * k + p) = 0) : (misL σ k p).length < (misL σ k q).length ∧ (misL σ k q).getD (misL σ k p).length 0 = sI σ 17 (12 * k + p) := by
  obtain ⟨r, hr⟩ := misL_pre σ k (p := p + 1) (q := q) (by omega)
  rw [hr, misL, if_pos hs, List.append_assoc]
  refine ⟨by simp, ?_⟩
  rw [List.getD_eq_getElem?_getD, List.getElem?_append_right (Nat.le_refl _), Nat.sub_self]
  rfl
theorem misL_len (σ : ST) (k : Nat) : ∀ q, (misL σ k q).length ≤ q := by
  intro q
  induction q with
  | zero => exact Nat.le_refl _
  | succ q ih =>
    rw [misL]
    split
    · rw [List.length_append, List.length_singleton]; omega
    · omega
/-- the next one in the order of 'since' -/
def nxF (σ : ST) (b a : Int32) : Nat → Int32
  | 0 => 0
  | i + 1 => if 1 ≤ i ∧ sI σ 7 i = b ∧ a < sI σ 8 i ∧ (nxF σ b a i = 0 ∨ sI σ 8 i < sI σ 8 (nxF σ b a i).toNatClampNeg) then nI i else nxF σ b a i
theorem nxF_in (σ : ST) (b a : Int32) : ∀ i, nxF σ b a i = 0 ∨ ∃ j, j < i ∧ nxF σ b a i = nI j := by
  intro i
  induction i with
  | zero => exact Or.inl rfl
  | succ i ih =>
    rw [nxF]
    split
    · exact Or.inr ⟨i, by omega, rfl⟩
    · rcases ih with h | ⟨j, hj, h⟩
      · exact Or.inl h
      · exact Or.inr ⟨j, by omega, h⟩
theorem nI_eq0 {i : Nat} (hi : i < 2 ^ 31) : nI i = 0 ↔ i = 0 := by
  rw [show (0 : Int32) = nI 0 from rfl, nI_eq hi (by omega)]
theorem nI_m1 {i : Nat} (h : 1 ≤ i) : nI i + Int32.ofInt (-1) = nI (i - 1) := by
  obtain ⟨j, rfl⟩ : ∃ j, i = j + 1 := ⟨i - 1, by omega⟩
  exact pk_m1 j
end
section
set_option maxHeartbeats 4000000 in
set_option maxRecDepth 100000 in
/-- isBag -/
theorem c_X4_isBag (l : Launch) (κ : KK) (σ : ST) (hM : MB σ) (p0 : Int32) : Met l yX4_isBag (wA yX4_isBag cX4_isBag 2 (some .boolean)) ({ frames := 0, cells := 0, slots := 0, locals := 0 }) (va_Pc [.ref (kad κ 6), .int p0] (WX κ σ)) (va_Qi (fun r σ' => σ = σ' ∧ r = bI (recOf σ p0).isSome) (WX κ) (FA κ)) 0 0 (FA κ) := by
  refine g_met 0 (by decide) rfl (Nat.le_of_ble_eq_true rfl) ?_
  intro p e s m args below meth c hC F th hO ls hl
  have hl : LL ls 2 [some _, some _] := hl
  have h60 := hM.2.1
  refine g_iload_n hC hl dX4_isBag_0 rfl rfl ?_
  refine lv_sipush (v := 1000) hC.1 hC.2.1 dX4_isBag_1 (by decide) ?_
  refine lv_icmp_le (tgt := 23) hC.1 hC.2.1 dX4_isBag_4 (by decide) (fun c_1 => ?_) (fun c_1 => ?_)
  · skip
    have h9 : (recOf σ p0).isSome = false := by rw [recOf_le (Int32.not_lt.mpr c_1)]; rfl
    refine lv_iconst (v := 0) hC.1 hC.2.1 dX4_isBag_23 (by decide) ?_
    exact g_zret hC hO dX4_isBag_24 (by decide) (⟨rfl, by first | exact bI_t h9 | exact bI_f h9⟩)
  · skip
    obtain ⟨j, hj, rfl⟩ := gt1000 (Int32.not_le.mp c_1)
    refine g_iload_n hC hl dX4_isBag_7 rfl rfl ?_
    refine lv_sipush (v := 1000) hC.1 hC.2.1 dX4_isBag_8 (by decide) ?_
    refine g_aload_n hC hl dX4_isBag_11 rfl rfl ?_
    refine g_get (ci := 4) (k := 5) hC hO rfl inX4 (by decide) q_fl_RX4_73 (nn_lt (Nat.le_of_ble_eq_true rfl)) rfl rfl dX4_isBag_12 ?_
    refine lv_iadd hC.1 hC.2.1 dX4_isBag_15 ?_
    refine lv_icmp_gt (tgt := 23) hC.1 hC.2.1 dX4_isBag_16 (by decide) (fun c_2 => ?_) (fun c_2 => ?_)
    · skip
      rw [hM.1, show (1000 : Int32) = nI 1000 from rfl, nI_add, nI_ltI (by omega) (by omega)] at c_2
      have h9 : (recOf σ (nI (1001 + j))).isSome = false := by rw [recOf_nI hj, if_neg (by omega)]; rfl
      refine lv_iconst (v := 0) hC.1 hC.2.1 dX4_isBag_23 (by decide) ?_
      exact g_zret hC hO dX4_isBag_24 (by decide) (⟨rfl, by first | exact bI_t h9 | exact bI_f h9⟩)
    · skip
      rw [hM.1, show (1000 : Int32) = nI 1000 from rfl, nI_add, nI_ltI (by omega) (by omega)] at c_2
      have h9 : (recOf σ (nI (1001 + j))).isSome = true := by rw [recOf_nI hj, if_pos (by omega)]; rfl
      refine lv_iconst (v := 1) hC.1 hC.2.1 dX4_isBag_19 (by decide) ?_
      refine lv_goto (tgt := 24) hC.1 hC.2.1 dX4_isBag_20 (by decide) ?_
      exact g_zret hC hO dX4_isBag_24 (by decide) (⟨rfl, by first | exact bI_t h9 | exact bI_f h9⟩)

set_option maxHeartbeats 4000000 in
set_option maxRecDepth 100000 in
/-- isThing -/
theorem c_X4_isThing (l : Launch) (κ : KK) (σ : ST) (hM : MB σ) (p0 : Int32) : Met l yX4_isThing (wA yX4_isThing cX4_isThing 2 (some .boolean)) ({ frames := 1, cells := 0, slots := 0, locals := 21 }) (va_Pc [.ref (kad κ 6), .int p0] (WX κ σ)) (va_Qi (fun r σ' => σ = σ' ∧ r = bI (thingB σ p0)) (WX κ) (FA κ)) 0 0 (FA κ) := by
  refine g_met 0 (by decide) rfl (Nat.le_of_ble_eq_true rfl) ?_
  intro p e s m args below meth c hC F th hO ls hl
  have hl : LL ls 2 [some _, some _] := hl
  refine g_iload_n hC hl dX4_isThing_0 rfl rfl ?_
  refine lv_if_le (tgt := 11) hC.1 hC.2.1 dX4_isThing_1 (by decide) (fun c_1 => ?_) (fun c_1 => ?_)
  · skip
    have hi9 : itemB p0 = false := by
      rw [Bool.eq_false_iff]
      intro h
      obtain ⟨h1, h2⟩ := itemB_iff.mp h
      have e0 : (0 : Int32).toInt = 0 := rfl
      have e1 : (1000 : Int32).toInt = 1000 := rfl
      have c_19 := c_1
      first
        | (rw [Int32.le_iff_toInt_le] at c_19; omega)
        | (rw [Int32.lt_iff_toInt_lt] at c_19; omega)
    refine g_aload_n hC hl dX4_isThing_11 rfl rfl ?_
    refine g_iload_n hC hl dX4_isThing_12 rfl rfl ?_
    refine g_cVi1 hC hO hl (ci := 4) rfl (nn_lt (Nat.le_of_ble_eq_true rfl)) rfl (c_X4_isBag l κ _ (by first | exact hM | exact hM.upA 9 _ (by decide) (by decide) (by decide)) _) mi_X4_isBag q_ml_RX4_76 rfl rfl ⟨Nat.le_of_ble_eq_true rfl, Nat.le_of_ble_eq_true rfl⟩ (Nat.le_of_ble_eq_true rfl) ⟨Nat.zero_le _, Nat.zero_le _⟩ dX4_isThing_13 (fun r σ1 F th H locs hr hO => ?_)
    obtain ⟨rfl, rfl⟩ := hr
    refine lv_if_eq (tgt := 23) hC.1 hC.2.1 dX4_isThing_16 (by decide) (fun c_2 => ?_) (fun c_2 => ?_)
    · skip
      have c_2 := bI_z c_2
      have h9 : thingB σ p0 = false := by unfold thingB; rw [hi9, c_2]; rfl
      refine lv_iconst (v := 0) hC.1 hC.2.1 dX4_isThing_23 (by decide) ?_
      exact g_zret hC hO dX4_isThing_24 (by decide) (⟨rfl, by first | exact bI_t h9 | exact bI_f h9⟩)
    · skip
      have c_2 := bI_nz c_2
      have h9 : thingB σ p0 = true := by unfold thingB; rw [hi9, c_2]; rfl
      refine lv_iconst (v := 1) hC.1 hC.2.1 dX4_isThing_19 (by decide) ?_
      refine lv_goto (tgt := 24) hC.1 hC.2.1 dX4_isThing_20 (by decide) ?_
      exact g_zret hC hO dX4_isThing_24 (by decide) (⟨rfl, by first | exact bI_t h9 | exact bI_f h9⟩)
  · skip
    have h0 := c_1
    refine g_iload_n hC hl dX4_isThing_4 rfl rfl ?_
    refine lv_sipush (v := 1000) hC.1 hC.2.1 dX4_isThing_5 (by decide) ?_
    refine lv_icmp_lt (tgt := 19) hC.1 hC.2.1 dX4_isThing_8 (by decide) (fun c_3 => ?_) (fun c_3 => ?_)
    · skip
      have h9 : thingB σ p0 = true := by
        unfold thingB
        rw [itemB_iff.mpr ?_]
        · rfl
        · have e0 : (0 : Int32).toInt = 0 := rfl
          have e1 : (1000 : Int32).toInt = 1000 := rfl
          have h1 := c_3
          rw [Int32.lt_iff_toInt_lt] at h1
          rw [Int32.le_iff_toInt_le] at h0
          omega
      refine lv_iconst (v := 1) hC.1 hC.2.1 dX4_isThing_19 (by decide) ?_
      refine lv_goto (tgt := 24) hC.1 hC.2.1 dX4_isThing_20 (by decide) ?_
      exact g_zret hC hO dX4_isThing_24 (by decide) (⟨rfl, by first | exact bI_t h9 | exact bI_f h9⟩)
    · skip
      have hi9 : itemB p0 = false := by
        rw [Bool.eq_false_iff]
        intro h
        obtain ⟨h1, h2⟩ := itemB_iff.mp h
        have e0 : (0 : Int32).toInt = 0 := rfl
        have e1 : (1000 : Int32).toInt = 1000 := rfl
        have c_39 := c_3
        first
          | (rw [Int32.le_iff_toInt_le] at c_39; omega)
          | (rw [Int32.lt_iff_toInt_lt] at c_39; omega)
      refine g_aload_n hC hl dX4_isThing_11 rfl rfl ?_
      refine g_iload_n hC hl dX4_isThing_12 rfl rfl ?_
      refine g_cVi1 hC hO hl (ci := 4) rfl (nn_lt (Nat.le_of_ble_eq_true rfl)) rfl (c_X4_isBag l κ _ (by first | exact hM | exact hM.upA 9 _ (by decide) (by decide) (by decide)) _) mi_X4_isBag q_ml_RX4_76 rfl rfl ⟨Nat.le_of_ble_eq_true rfl, Nat.le_of_ble_eq_true rfl⟩ (Nat.le_of_ble_eq_true rfl) ⟨Nat.zero_le _, Nat.zero_le _⟩ dX4_isThing_13 (fun r σ1 F th H locs hr hO => ?_)
      obtain ⟨rfl, rfl⟩ := hr
      refine lv_if_eq (tgt := 23) hC.1 hC.2.1 dX4_isThing_16 (by decide) (fun c_4 => ?_) (fun c_4 => ?_)
      · skip
        have c_4 := bI_z c_4
        have h9 : thingB σ p0 = false := by unfold thingB; rw [hi9, c_4]; rfl
        refine lv_iconst (v := 0) hC.1 hC.2.1 dX4_isThing_23 (by decide) ?_
        exact g_zret hC hO dX4_isThing_24 (by decide) (⟨rfl, by first | exact bI_t h9 | exact bI_f h9⟩)
      · skip
        have c_4 := bI_nz c_4
        have h9 : thingB σ p0 = true := by unfold thingB; rw [hi9, c_4]; rfl
        refine lv_iconst (v := 1) hC.1 hC.2.1 dX4_isThing_19 (by decide) ?_
        refine lv_goto (tgt := 24) hC.1 hC.2.1 dX4_isThing_20 (by decide) ?_
        exact g_zret hC hO dX4_isThing_24 (by decide) (⟨rfl, by first | exact bI_t h9 | exact bI_f h9⟩)

set_option maxHeartbeats 4000000 in
set_option maxRecDepth 100000 in
/-- kindOf -/
theorem c_X4_kindOf (l : Launch) (κ : KK) (σ : ST) (hM : MB σ) (p0 : Int32) (ht : thingB σ p0 = true) : Met l yX4_kindOf (wA yX4_kindOf cX4_kindOf 2 (some .int)) ({ frames := 0, cells := 0, slots := 0, locals := 0 }) (va_Pc [.ref (kad κ 6), .int p0] (WX κ σ)) (va_Qi (fun r σ' => σ = σ' ∧ r = mkF σ p0) (WX κ) (FA κ)) 0 0 (FA κ) := by
  refine g_met 0 (by decide) rfl (Nat.le_of_ble_eq_true rfl) ?_
  intro p e s m args below meth c hC F th hO ls hl
  have hl : LL ls 2 [some _, some _] := hl
  have h60 := hM.2.1
  refine g_iload_n hC hl dX4_kindOf_0 rfl rfl ?_
  refine lv_sipush (v := 1000) hC.1 hC.2.1 dX4_kindOf_1 (by decide) ?_
  refine lv_icmp_le (tgt := 20) hC.1 hC.2.1 dX4_kindOf_4 (by decide) (fun c_1 => ?_) (fun c_1 => ?_)
  · skip
    have h9 : mkF σ p0 = -1 := by unfold mkF; rw [recOf_le (Int32.not_lt.mpr c_1)]
    refine lv_iconst (v := (-1)) hC.1 hC.2.1 dX4_kindOf_20 (by decide) ?_
    exact g_iret hC hO dX4_kindOf_21 (⟨rfl, h9.symm⟩)
  · skip
    obtain ⟨j, hj, rfl⟩ := gt1000 (Int32.not_le.mp c_1)
    have hjk := thing_big hj ht
    have h9 : mkF σ (nI (1001 + j)) = sI σ 10 (nI j).toNatClampNeg := by unfold mkF; rw [recOf_nI hj, if_pos hjk, nI_clamp (by omega)]
    refine g_aload_n hC hl dX4_kindOf_7 rfl rfl ?_
    refine g_get (ci := 4) (k := 6) hC hO rfl inX4 (by decide) q_fl_RX4_19 (nn_lt (Nat.le_of_ble_eq_true rfl)) rfl rfl dX4_kindOf_8 ?_
    refine g_iload_n hC hl dX4_kindOf_11 rfl rfl ?_
    refine lv_sipush (v := 1001) hC.1 hC.2.1 dX4_kindOf_12 (by decide) ?_
    refine lv_isub hC.1 hC.2.1 dX4_kindOf_15 ?_
    rw [sub1001 hj]
    refine g_iald hC hO (nn_lt (Nat.le_of_ble_eq_true rfl)) rfl (vp_in_nI (by omega) (by omega)) dX4_kindOf_16 ?_
    refine lv_goto (tgt := 21) hC.1 hC.2.1 dX4_kindOf_17 (by decide) ?_
    exact g_iret hC hO dX4_kindOf_21 (⟨rfl, h9.symm⟩)

set_option maxHeartbeats 4000000 in
set_option maxRecDepth 100000 in
/-- outer -/
theorem c_X4_outer (l : Launch) (κ : KK) (σ : ST) (t : Nat) (ht : t < 1061) : Met l yX4_outer (wA yX4_outer cX4_outer 2 (some .int)) ({ frames := 0, cells := 0, slots := 0, locals := 0 }) (va_Pc [.ref (kad κ 6), .int (nI t)] (WX κ σ)) (va_Qi (fun r σ' => σ = σ' ∧ r = sI σ 7 t) (WX κ) (FA κ)) 0 0 (FA κ) := by
  refine g_met 0 (by decide) rfl (Nat.le_of_ble_eq_true rfl) ?_
  intro p e s m args below meth c hC F th hO ls hl
  have hl : LL ls 2 [some _, some _] := hl
  refine g_aload_n hC hl dX4_outer_0 rfl rfl ?_
  refine g_get (ci := 4) (k := 1) hC hO rfl inX4 (by decide) q_fl_RX4_7 (nn_lt (Nat.le_of_ble_eq_true rfl)) rfl rfl dX4_outer_1 ?_
  refine g_iload_n hC hl dX4_outer_4 rfl rfl ?_
  refine g_iald hC hO (nn_lt (Nat.le_of_ble_eq_true rfl)) rfl (vp_in_nI (by omega) (by omega)) dX4_outer_5 ?_
  exact g_iret hC hO dX4_outer_6 (⟨rfl, by rw [nI_clamp (by omega)]⟩)

set_option maxHeartbeats 4000000 in
set_option maxRecDepth 100000 in
/-- liesIn -/
theorem c_X4_liesIn (l : Launch) (κ : KK) (σ : ST) (hM : MB σ) (t : Nat) (ht : t < 1061) (p1 : Int32) : Met l yX4_liesIn (wA yX4_liesIn cX4_liesIn 5 (some .boolean)) ({ frames := 1, cells := 0, slots := 0, locals := 21 }) (va_Pc [.ref (kad κ 6), .int (nI t), .int p1] (WX κ σ)) (va_Qi (fun r σ' => σ = σ' ∧ r = bI (lieB σ t p1)) (WX κ) (FA κ)) 0 0 (FA κ) := by
  refine g_met 2 (by decide) rfl (Nat.le_of_ble_eq_true rfl) ?_
  intro p e s m args below meth c hC F th hO ls hl
  have hl : LL ls 5 [some _, some _, some _, none, none] := hl
  have h60 := hM.2.1
  have loop10 : ∀ (n f : Nat) (acc : Bool) (r : Int32), f + 1 ≤ n → okR σ f r → lieB σ t p1 = (acc || decide (p1 ∈ ancR σ f r)) → ∀ (F : Nat → Nat → Int32) (th : Int32) (H : Heap) (locs : List Loc), OS κ s.heap σ F th H locs → ∀ ls : Array Slot, LL ls 5 [some (.ref (kad κ 6)), some (.int (nI t)), some (.int p1), some (.int (bI acc)), some (.int r)] → W p l e ({ frames := 1, cells := 0, slots := 0, locals := 21 } : Room) s m args below meth c H locs 0 0 (MQ below (va_Qi (fun r σ' => σ = σ' ∧ r = bI (lieB σ t p1)) (WX κ) (FA κ)) args s 0 0 (FA κ)) (F0 m 10 ls []) := by
    intro n
    induction n with
    | zero => intro f acc r h1; exact absurd h1 (by omega)
    | succ n ih =>
      intro f acc r h1 h2 h3 F th H locs hO ls hl
      refine g_iload hC hl dX4_liesIn_10 rfl ?_
      refine lv_if_eq (tgt := 42) hC.1 hC.2.1 dX4_liesIn_12 (by decide) (fun c_1 => ?_) (fun c_1 => ?_)
      · skip
        have h9 : lieB σ t p1 = acc := by rw [h3, c_1, ancR_0]; simp
        refine g_iload_n hC hl dX4_liesIn_42 rfl rfl ?_
        exact g_zret hC hO dX4_liesIn_43 (bI_01 _) (⟨rfl, by rw [h9]⟩)
      · skip
        obtain ⟨k, d, hk, rfl, e2, hd, h4⟩ : ∃ k d, k < σ.1 ∧ r = nI (1001 + k) ∧ sI σ 10 k = nI d ∧ d ≤ 3 ∧ 4 ≤ f + d := h2.resolve_left c_1
        obtain ⟨f, rfl⟩ : ∃ f2, f = f2 + 1 := ⟨f - 1, by omega⟩
        rw [show ancR σ (f + 1) (nI (1001 + k)) = nI (1001 + k) :: ancR σ f (sI σ 7 (nI (1001 + k)).toNatClampNeg) from if_neg c_1, nI_clamp (by omega)] at h3
        have hn := hM.next hk e2 hd h4
        refine g_iload_n hC hl dX4_liesIn_15 rfl rfl ?_
        refine lv_if_ne (tgt := 25) hC.1 hC.2.1 dX4_liesIn_16 (by decide) (fun c_2 => ?_) (fun c_2 => ?_)
        · skip
          have c_2 := bI_nz c_2
          have hnew : lieB σ t p1 = (true || decide (p1 ∈ ancR σ f (sI σ 7 (1001 + k)))) := by rw [h3, c_2]; rfl
          refine lv_iconst (v := 1) hC.1 hC.2.1 dX4_liesIn_25 (by decide) ?_
          refine lv_goto (tgt := 30) hC.1 hC.2.1 dX4_liesIn_26 (by decide) ?_
          refine g_istore_n hC hl dX4_liesIn_30 rfl (Nat.le_of_ble_eq_true rfl) rfl (fun ls hl => ?_)
          have hl : LL ls 5 [some _, some _, some _, some _, some _] := hl
          refine g_aload_n hC hl dX4_liesIn_31 rfl rfl ?_
          refine g_iload hC hl dX4_liesIn_32 rfl ?_
          refine g_cVi1 hC hO hl (ci := 4) rfl (nn_lt (Nat.le_of_ble_eq_true rfl)) rfl (c_X4_outer l κ _ (1001 + k) (by omega)) mi_X4_outer q_ml_RX4_80 rfl rfl ⟨Nat.le_of_ble_eq_true rfl, Nat.le_of_ble_eq_true rfl⟩ (Nat.le_of_ble_eq_true rfl) ⟨Nat.zero_le _, Nat.zero_le _⟩ dX4_liesIn_34 (fun r σ1 F th H locs hr hO => ?_)
          obtain ⟨rfl, rfl⟩ := hr
          refine g_istore hC hl dX4_liesIn_37 (Nat.le_of_ble_eq_true rfl) rfl (fun ls hl => ?_)
          have hl : LL ls 5 [some _, some _, some _, some _, some _] := hl
          refine lv_goto (tgt := 10) hC.1 hC.2.1 dX4_liesIn_39 (by decide) ?_
          exact ih f _ _ (by omega) hn hnew _ _ _ _ hO ls hl
        · skip
          have c_2 := bI_z c_2
          rw [c_2] at h3
          refine g_iload hC hl dX4_liesIn_19 rfl ?_
          refine g_iload_n hC hl dX4_liesIn_21 rfl rfl ?_
          refine lv_icmp_ne (tgt := 29) hC.1 hC.2.1 dX4_liesIn_22 (by decide) (fun c_3 => ?_) (fun c_3 => ?_)
          · skip
            rw [mem_dec_f c_3] at h3
            have hnew := h3
            refine lv_iconst (v := 0) hC.1 hC.2.1 dX4_liesIn_29 (by decide) ?_
            refine g_istore_n hC hl dX4_liesIn_30 rfl (Nat.le_of_ble_eq_true rfl) rfl (fun ls hl => ?_)
            have hl : LL ls 5 [some _, some _, some _, some _, some _] := hl
            refine g_aload_n hC hl dX4_liesIn_31 rfl rfl ?_
            refine g_iload hC hl dX4_liesIn_32 rfl ?_
            refine g_cVi1 hC hO hl (ci := 4) rfl (nn_lt (Nat.le_of_ble_eq_true rfl)) rfl (c_X4_outer l κ _ (1001 + k) (by omega)) mi_X4_outer q_ml_RX4_80 rfl rfl ⟨Nat.le_of_ble_eq_true rfl, Nat.le_of_ble_eq_true rfl⟩ (Nat.le_of_ble_eq_true rfl) ⟨Nat.zero_le _, Nat.zero_le _⟩ dX4_liesIn_34 (fun r σ1 F th H locs hr hO => ?_)
            obtain ⟨rfl, rfl⟩ := hr
            refine g_istore hC hl dX4_liesIn_37 (Nat.le_of_ble_eq_true rfl) rfl (fun ls hl => ?_)
            have hl : LL ls 5 [some _, some _, some _, some _, some _] := hl
            refine lv_goto (tgt := 10) hC.1 hC.2.1 dX4_liesIn_39 (by decide) ?_
            exact ih f _ _ (by omega) hn hnew _ _ _ _ hO ls hl
          · skip
            have hnew : lieB σ t p1 = (true || decide (p1 ∈ ancR σ f (sI σ 7 (1001 + k)))) := by rw [h3, mem_dec_t c_3]; rfl
            refine lv_iconst (v := 1) hC.1 hC.2.1 dX4_liesIn_25 (by decide) ?_
            refine lv_goto (tgt := 30) hC.1 hC.2.1 dX4_liesIn_26 (by decide) ?_
            refine g_istore_n hC hl dX4_liesIn_30 rfl (Nat.le_of_ble_eq_true rfl) rfl (fun ls hl => ?_)
            have hl : LL ls 5 [some _, some _, some _, some _, some _] := hl
            refine g_aload_n hC hl dX4_liesIn_31 rfl rfl ?_
            refine g_iload hC hl dX4_liesIn_32 rfl ?_
            refine g_cVi1 hC hO hl (ci := 4) rfl (nn_lt (Nat.le_of_ble_eq_true rfl)) rfl (c_X4_outer l κ _ (1001 + k) (by omega)) mi_X4_outer q_ml_RX4_80 rfl rfl ⟨Nat.le_of_ble_eq_true rfl, Nat.le_of_ble_eq_true rfl⟩ (Nat.le_of_ble_eq_true rfl) ⟨Nat.zero_le _, Nat.zero_le _⟩ dX4_liesIn_34 (fun r σ1 F th H locs hr hO => ?_)
            obtain ⟨rfl, rfl⟩ := hr
            refine g_istore hC hl dX4_liesIn_37 (Nat.le_of_ble_eq_true rfl) rfl (fun ls hl => ?_)
            have hl : LL ls 5 [some _, some _, some _, some _, some _] := hl
            refine lv_goto (tgt := 10) hC.1 hC.2.1 dX4_liesIn_39 (by decide) ?_
            exact ih f _ _ (by omega) hn hnew _ _ _ _ hO ls hl
  refine lv_iconst (v := 0) hC.1 hC.2.1 dX4_liesIn_0 (by decide) ?_
  refine g_istore_n hC hl dX4_liesIn_1 rfl (Nat.le_of_ble_eq_true rfl) rfl (fun ls hl => ?_)
  have hl : LL ls 5 [some _, some _, some _, some _, none] := hl
  refine g_aload_n hC hl dX4_liesIn_2 rfl rfl ?_
  refine g_get (ci := 4) (k := 1) hC hO rfl inX4 (by decide) q_fl_RX4_7 (nn_lt (Nat.le_of_ble_eq_true rfl)) rfl rfl dX4_liesIn_3 ?_
  refine g_iload_n hC hl dX4_liesIn_6 rfl rfl ?_
  refine g_iald hC hO (nn_lt (Nat.le_of_ble_eq_true rfl)) rfl (vp_in_nI (by omega) (by omega)) dX4_liesIn_7 ?_
  rw [nI_clamp (n := t) (by omega)]
  refine g_istore hC hl dX4_liesIn_8 (Nat.le_of_ble_eq_true rfl) rfl (fun ls hl => ?_)
  have hl : LL ls 5 [some _, some _, some _, some _, some _] := hl
  exact loop10 5 4 false _ (by omega) (hM.start ht) rfl _ _ _ _ hO ls hl

set_option maxHeartbeats 4000000 in
set_option maxRecDepth 100000 in
/-- isShutIn -/
theorem c_X4_isShutIn (l : Launch) (κ : KK) (σ : ST) (hM : MB σ) (t : Nat) (ht : t < 1061) : Met l yX4_isShutIn (wA yX4_isShutIn cX4_isShutIn 4 (some .boolean)) ({ frames := 1, cells := 0, slots := 0, locals := 21 }) (va_Pc [.ref (kad κ 6), .int (nI t)] (WX κ σ)) (va_Qi (fun r σ' => σ = σ' ∧ r = bI (shutInB σ t)) (WX κ) (FA κ)) 0 0 (FA κ) := by
  refine g_met 2 (by decide) rfl (Nat.le_of_ble_eq_true rfl) ?_
  intro p e s m args below meth c hC F th hO ls hl
  have hl : LL ls 4 [some _, some _, none, none] := hl
  have h60 := hM.2.1
  have loop9 : ∀ (n f : Nat) (acc : Bool) (r : Int32), f + 1 ≤ n → okR σ f r → shutInB σ t = (acc || (ancR σ f r).any (clB σ)) → ∀ (F : Nat → Nat → Int32) (th : Int32) (H : Heap) (locs : List Loc), OS κ s.heap σ F th H locs → ∀ ls : Array Slot, LL ls 4 [some (.ref (kad κ 6)), some (.int (nI t)), some (.int (bI acc)), some (.int r)] → W p l e ({ frames := 1, cells := 0, slots := 0, locals := 21 } : Room) s m args below meth c H locs 0 0 (MQ below (va_Qi (fun r σ' => σ = σ' ∧ r = bI (shutInB σ t)) (WX κ) (FA κ)) args s 0 0 (FA κ)) (F0 m 9 ls []) := by
    intro n
    induction n with
    | zero => intro f acc r h1; exact absurd h1 (by omega)
    | succ n ih =>
      intro f acc r h1 h2 h3 F th H locs hO ls hl
      refine g_iload_n hC hl dX4_isShutIn_9 rfl rfl ?_
      refine lv_if_eq (tgt := 45) hC.1 hC.2.1 dX4_isShutIn_10 (by decide) (fun c_1 => ?_) (fun c_1 => ?_)
      · skip
        have h9 : shutInB σ t = acc := by rw [h3, c_1, ancR_0]; simp
        refine g_iload_n hC hl dX4_isShutIn_45 rfl rfl ?_
        exact g_zret hC hO dX4_isShutIn_46 (bI_01 _) (⟨rfl, by rw [h9]⟩)
      · skip
        obtain ⟨k, d, hk, rfl, e2, hd, h4⟩ : ∃ k d, k < σ.1 ∧ r = nI (1001 + k) ∧ sI σ 10 k = nI d ∧ d ≤ 3 ∧ 4 ≤ f + d := h2.resolve_left c_1
        obtain ⟨f, rfl⟩ : ∃ f2, f = f2 + 1 := ⟨f - 1, by omega⟩
        rw [show ancR σ (f + 1) (nI (1001 + k)) = nI (1001 + k) :: ancR σ f (sI σ 7 (nI (1001 + k)).toNatClampNeg) from if_neg c_1, nI_clamp (by omega)] at h3
        have hn := hM.next hk e2 hd h4
        rw [List.any_cons] at h3
        refine g_iload_n hC hl dX4_isShutIn_13 rfl rfl ?_
        refine lv_if_ne (tgt := 30) hC.1 hC.2.1 dX4_isShutIn_14 (by decide) (fun c_2 => ?_) (fun c_2 => ?_)
        · skip
          have c_2 := bI_nz c_2
          have hnew : shutInB σ t = (true || (ancR σ f (sI σ 7 (1001 + k))).any (clB σ)) := by rw [h3, c_2]; rfl
          refine lv_iconst (v := 1) hC.1 hC.2.1 dX4_isShutIn_30 (by decide) ?_
          refine lv_goto (tgt := 35) hC.1 hC.2.1 dX4_isShutIn_31 (by decide) ?_
          refine g_istore_n hC hl dX4_isShutIn_35 rfl (Nat.le_of_ble_eq_true rfl) rfl (fun ls hl => ?_)
          have hl : LL ls 4 [some _, some _, some _, some _] := hl
          refine g_aload_n hC hl dX4_isShutIn_36 rfl rfl ?_
          refine g_iload_n hC hl dX4_isShutIn_37 rfl rfl ?_
          refine g_cVi1 hC hO hl (ci := 4) rfl (nn_lt (Nat.le_of_ble_eq_true rfl)) rfl (c_X4_outer l κ _ (1001 + k) (by omega)) mi_X4_outer q_ml_RX4_80 rfl rfl ⟨Nat.le_of_ble_eq_true rfl, Nat.le_of_ble_eq_true rfl⟩ (Nat.le_of_ble_eq_true rfl) ⟨Nat.zero_le _, Nat.zero_le _⟩ dX4_isShutIn_38 (fun r σ1 F th H locs hr hO => ?_)
          obtain ⟨rfl, rfl⟩ := hr
          refine g_istore_n hC hl dX4_isShutIn_41 rfl (Nat.le_of_ble_eq_true rfl) rfl (fun ls hl => ?_)
          have hl : LL ls 4 [some _, some _, some _, some _] := hl
          refine lv_goto (tgt := 9) hC.1 hC.2.1 dX4_isShutIn_42 (by decide) ?_
          exact ih f _ _ (by omega) hn hnew _ _ _ _ hO ls hl
        · skip
          have c_2 := bI_z c_2
          rw [c_2] at h3
          refine g_aload_n hC hl dX4_isShutIn_17 rfl rfl ?_
          refine g_get (ci := 4) (k := 7) hC hO rfl inX4 (by decide) q_fl_RX4_22 (nn_lt (Nat.le_of_ble_eq_true rfl)) rfl rfl dX4_isShutIn_18 ?_
          refine g_iload_n hC hl dX4_isShutIn_21 rfl rfl ?_
          refine lv_sipush (v := 1001) hC.1 hC.2.1 dX4_isShutIn_22 (by decide) ?_
          refine lv_isub hC.1 hC.2.1 dX4_isShutIn_25 ?_
          rw [sub1001 (by omega)]
          refine g_zald hC hO (nn_lt (Nat.le_of_ble_eq_true rfl)) rfl (vp_in_nI (by omega) (by omega)) dX4_isShutIn_26 ?_
          refine lv_if_eq (tgt := 34) hC.1 hC.2.1 dX4_isShutIn_27 (by decide) (fun c_3 => ?_) (fun c_3 => ?_)
          · skip
            have hc9 : clB σ (nI (1001 + k)) = false := by unfold clB; rw [nI_clamp (by omega), show 1001 + k - 1001 = k by omega]; rw [nI_clamp (by omega)] at c_3; simp [c_3]
            rw [hc9] at h3
            have hnew : shutInB σ t = (false || (ancR σ f (sI σ 7 (1001 + k))).any (clB σ)) := h3
            refine lv_iconst (v := 0) hC.1 hC.2.1 dX4_isShutIn_34 (by decide) ?_
            refine g_istore_n hC hl dX4_isShutIn_35 rfl (Nat.le_of_ble_eq_true rfl) rfl (fun ls hl => ?_)
            have hl : LL ls 4 [some _, some _, some _, some _] := hl
            refine g_aload_n hC hl dX4_isShutIn_36 rfl rfl ?_
            refine g_iload_n hC hl dX4_isShutIn_37 rfl rfl ?_
            refine g_cVi1 hC hO hl (ci := 4) rfl (nn_lt (Nat.le_of_ble_eq_true rfl)) rfl (c_X4_outer l κ _ (1001 + k) (by omega)) mi_X4_outer q_ml_RX4_80 rfl rfl ⟨Nat.le_of_ble_eq_true rfl, Nat.le_of_ble_eq_true rfl⟩ (Nat.le_of_ble_eq_true rfl) ⟨Nat.zero_le _, Nat.zero_le _⟩ dX4_isShutIn_38 (fun r σ1 F th H locs hr hO => ?_)
            obtain ⟨rfl, rfl⟩ := hr
            refine g_istore_n hC hl dX4_isShutIn_41 rfl (Nat.le_of_ble_eq_true rfl) rfl (fun ls hl => ?_)
            have hl : LL ls 4 [some _, some _, some _, some _] := hl
            refine lv_goto (tgt := 9) hC.1 hC.2.1 dX4_isShutIn_42 (by decide) ?_
            exact ih f _ _ (by omega) hn hnew _ _ _ _ hO ls hl
          · skip
            have hc9 : clB σ (nI (1001 + k)) = true := by unfold clB; rw [nI_clamp (by omega), show 1001 + k - 1001 = k by omega]; rw [nI_clamp (by omega)] at c_3; simp [c_3]
            rw [hc9] at h3
            have hnew : shutInB σ t = (true || (ancR σ f (sI σ 7 (1001 + k))).any (clB σ)) := h3
            refine lv_iconst (v := 1) hC.1 hC.2.1 dX4_isShutIn_30 (by decide) ?_
            refine lv_goto (tgt := 35) hC.1 hC.2.1 dX4_isShutIn_31 (by decide) ?_
            refine g_istore_n hC hl dX4_isShutIn_35 rfl (Nat.le_of_ble_eq_true rfl) rfl (fun ls hl => ?_)
            have hl : LL ls 4 [some _, some _, some _, some _] := hl
            refine g_aload_n hC hl dX4_isShutIn_36 rfl rfl ?_
            refine g_iload_n hC hl dX4_isShutIn_37 rfl rfl ?_
            refine g_cVi1 hC hO hl (ci := 4) rfl (nn_lt (Nat.le_of_ble_eq_true rfl)) rfl (c_X4_outer l κ _ (1001 + k) (by omega)) mi_X4_outer q_ml_RX4_80 rfl rfl ⟨Nat.le_of_ble_eq_true rfl, Nat.le_of_ble_eq_true rfl⟩ (Nat.le_of_ble_eq_true rfl) ⟨Nat.zero_le _, Nat.zero_le _⟩ dX4_isShutIn_38 (fun r σ1 F th H locs hr hO => ?_)
            obtain ⟨rfl, rfl⟩ := hr
            refine g_istore_n hC hl dX4_isShutIn_41 rfl (Nat.le_of_ble_eq_true rfl) rfl (fun ls hl => ?_)
            have hl : LL ls 4 [some _, some _, some _, some _] := hl
            refine lv_goto (tgt := 9) hC.1 hC.2.1 dX4_isShutIn_42 (by decide) ?_
            exact ih f _ _ (by omega) hn hnew _ _ _ _ hO ls hl
  refine lv_iconst (v := 0) hC.1 hC.2.1 dX4_isShutIn_0 (by decide) ?_
  refine g_istore_n hC hl dX4_isShutIn_1 rfl (Nat.le_of_ble_eq_true rfl) rfl (fun ls hl => ?_)
  have hl : LL ls 4 [some _, some _, some _, none] := hl
  refine g_aload_n hC hl dX4_isShutIn_2 rfl rfl ?_
  refine g_get (ci := 4) (k := 1) hC hO rfl inX4 (by decide) q_fl_RX4_7 (nn_lt (Nat.le_of_ble_eq_true rfl)) rfl rfl dX4_isShutIn_3 ?_
  refine g_iload_n hC hl dX4_isShutIn_6 rfl rfl ?_
  refine g_iald hC hO (nn_lt (Nat.le_of_ble_eq_true rfl)) rfl (vp_in_nI (by omega) (by omega)) dX4_isShutIn_7 ?_
  rw [nI_clamp (n := t) (by omega)]
  refine g_istore_n hC hl dX4_isShutIn_8 rfl (Nat.le_of_ble_eq_true rfl) rfl (fun ls hl => ?_)
  have hl : LL ls 4 [some _, some _, some _, some _] := hl
  exact loop9 5 4 false _ (by omega) (hM.start ht) rfl _ _ _ _ hO ls hl

set_option maxHeartbeats 4000000 in
set_option maxRecDepth 100000 in
/-- count -/
theorem c_X4_count (l : Launch) (κ : KK) (σ : ST) (p0 : Int32) : Met l yX4_count (wA yX4_count cX4_count 4 (some .int)) ({ frames := 0, cells := 0, slots := 0, locals := 0 }) (va_Pc [.ref (kad κ 6), .int p0] (WX κ σ)) (va_Qi (fun r σ' => σ = σ' ∧ r = nI (cntN σ p0 1061)) (WX κ) (FA κ)) 0 0 (FA κ) := by
  refine g_met 2 (by decide) rfl (Nat.le_of_ble_eq_true rfl) ?_
  intro p e s m args below meth c hC F th hO ls hl
  have hl : LL ls 4 [some _, some _, none, none] := hl
  have loop4 : ∀ (n i : Nat), 1062 ≤ i + n → i ≤ 1061 → 1 ≤ i → ∀ (F : Nat → Nat → Int32) (th : Int32) (H : Heap) (locs : List Loc), OS κ s.heap σ F th H locs → ∀ ls : Array Slot, LL ls 4 [some (.ref (kad κ 6)), some (.int p0), some (.int (nI (cntN σ p0 i))), some (.int (nI i))] → W p l e ({ frames := 0, cells := 0, slots := 0, locals := 0 } : Room) s m args below meth c H locs 0 0 (MQ below (va_Qi (fun r σ' => σ = σ' ∧ r = nI (cntN σ p0 1061)) (WX κ) (FA κ)) args s 0 0 (FA κ)) (F0 m 4 ls []) := by
    intro n
    induction n with
    | zero => intro i h1 h2; exact absurd h1 (by omega)
    | succ n ih =>
      intro i h1 h2 h3 F th H locs hO ls hl
      refine g_iload_n hC hl dX4_count_4 rfl rfl ?_
      refine lv_sipush (v := 1061) hC.1 hC.2.1 dX4_count_5 (by decide) ?_
      refine lv_icmp_ge (tgt := 35) hC.1 hC.2.1 dX4_count_8 (by decide) (fun c_1 => ?_) (fun c_1 => ?_)
      · skip
        rw [show (1061 : Int32) = nI 1061 from rfl, nI_leI (by omega) (by omega)] at c_1
        refine g_iload_n hC hl dX4_count_35 rfl rfl ?_
        exact g_iret hC hO dX4_count_36 (⟨rfl, by rw [show i = 1061 by omega]⟩)
      · skip
        rw [show (1061 : Int32) = nI 1061 from rfl, nI_leI (by omega) (by omega)] at c_1
        refine g_aload_n hC hl dX4_count_11 rfl rfl ?_
        refine g_get (ci := 4) (k := 1) hC hO rfl inX4 (by decide) q_fl_RX4_7 (nn_lt (Nat.le_of_ble_eq_true rfl)) rfl rfl dX4_count_12 ?_
        refine g_iload_n hC hl dX4_count_15 rfl rfl ?_
        refine g_iald hC hO (nn_lt (Nat.le_of_ble_eq_true rfl)) rfl (vp_in_nI (by omega) (by omega)) dX4_count_16 ?_
        refine g_iload_n hC hl dX4_count_17 rfl rfl ?_
        refine lv_icmp_ne (tgt := 27) hC.1 hC.2.1 dX4_count_18 (by decide) (fun c_2 => ?_) (fun c_2 => ?_)
        · skip
          rw [nI_clamp (by omega)] at c_2
          have hw : nI (cntN σ p0 (i + 1)) = nI (cntN σ p0 i) := by rw [cntN, if_neg (fun q => c_2 q.2)]
          refine g_iload_n hC hl dX4_count_27 rfl rfl ?_
          refine g_istore_n hC hl dX4_count_28 rfl (Nat.le_of_ble_eq_true rfl) rfl (fun ls hl => ?_)
          have hl : LL ls 4 [some _, some _, some _, some _] := hl
          refine g_iinc (v := nI (i + 1)) hC hl dX4_count_29 rfl (nI_i1 i) (Nat.le_of_ble_eq_true rfl) rfl (fun ls hl => ?_)
          have hl : LL ls 4 [some _, some _, some _, some _] := hl
          refine lv_goto (tgt := 4) hC.1 hC.2.1 dX4_count_32 (by decide) ?_
          exact ih (i + 1) (by omega) (by omega) (by omega) _ _ _ _ hO ls (by rw [hw]; exact hl)
        · skip
          rw [nI_clamp (by omega)] at c_2
          have hw : nI (cntN σ p0 (i + 1)) = nI (cntN σ p0 i) + 1 := by rw [cntN, if_pos ⟨h3, c_2⟩, nI_1]
          refine g_iload_n hC hl dX4_count_21 rfl rfl ?_
          refine lv_iconst (v := 1) hC.1 hC.2.1 dX4_count_22 (by decide) ?_
          refine lv_iadd hC.1 hC.2.1 dX4_count_23 ?_
          refine lv_goto (tgt := 28) hC.1 hC.2.1 dX4_count_24 (by decide) ?_
          refine g_istore_n hC hl dX4_count_28 rfl (Nat.le_of_ble_eq_true rfl) rfl (fun ls hl => ?_)
          have hl : LL ls 4 [some _, some _, some _, some _] := hl
          refine g_iinc (v := nI (i + 1)) hC hl dX4_count_29 rfl (nI_i1 i) (Nat.le_of_ble_eq_true rfl) rfl (fun ls hl => ?_)
          have hl : LL ls 4 [some _, some _, some _, some _] := hl
          refine lv_goto (tgt := 4) hC.1 hC.2.1 dX4_count_32 (by decide) ?_
          exact ih (i + 1) (by omega) (by omega) (by omega) _ _ _ _ hO ls (by rw [hw]; exact hl)
  refine lv_iconst (v := 0) hC.1 hC.2.1 dX4_count_0 (by decide) ?_
  refine g_istore_n hC hl dX4_count_1 rfl (Nat.le_of_ble_eq_true rfl) rfl (fun ls hl => ?_)
  have hl : LL ls 4 [some _, some _, some _, none] := hl
  refine lv_iconst (v := 1) hC.1 hC.2.1 dX4_count_2 (by decide) ?_
  refine g_istore_n hC hl dX4_count_3 rfl (Nat.le_of_ble_eq_true rfl) rfl (fun ls hl => ?_)
  have hl : LL ls 4 [some _, some _, some _, some _] := hl
  exact loop4 1061 1 (by omega) (by omega) (by omega) _ _ _ _ hO ls (by rw [show cntN σ p0 1 = 0 from rfl]; exact hl)

set_option maxHeartbeats 4000000 in
set_option maxRecDepth 100000 in
/-- put -/
theorem c_X4_put (l : Launch) (κ : KK) (σ : ST) (t : Nat) (ht : t < 1061) (p0 : Int32) : Met l yX4_put (wA yX4_put cX4_put 3 none) ({ frames := 0, cells := 0, slots := 0, locals := 0 }) (va_Pc [.ref (kad κ 6), .int p0, .int (nI t)] (WX κ σ)) (va_Qv (fun σ' => σ' = mPut σ p0 t) (WX κ) (FA κ)) 0 0 (FA κ) := by
  refine g_met 0 (by decide) rfl (Nat.le_of_ble_eq_true rfl) ?_
  intro p e s m args below meth c hC F th hO ls hl
  have hl : LL ls 3 [some _, some _, some _] := hl
  refine g_aload_n hC hl dX4_put_0 rfl rfl ?_
  refine g_get (ci := 4) (k := 1) hC hO rfl inX4 (by decide) q_fl_RX4_7 (nn_lt (Nat.le_of_ble_eq_true rfl)) rfl rfl dX4_put_1 ?_
  refine g_iload_n hC hl dX4_put_4 rfl rfl ?_
  refine g_iload_n hC hl dX4_put_5 rfl rfl ?_
  refine g_iast hC hO (nn_lt (Nat.le_of_ble_eq_true rfl)) (fun _ _ => rfl) (vp_in_nI (by omega) (by omega)) dX4_put_6 (fun H locs hO => ?_)
  refine g_aload_n hC hl dX4_put_7 rfl rfl ?_
  refine lv_dup hC.1 hC.2.1 dX4_put_8 rfl ?_
  refine g_get (ci := 4) (k := 4) hC hO rfl inX4 (by decide) q_fl_RX4_84 (nn_lt (Nat.le_of_ble_eq_true rfl)) rfl rfl dX4_put_9 ?_
  refine lv_iconst (v := 1) hC.1 hC.2.1 dX4_put_12 (by decide) ?_
  refine lv_iadd hC.1 hC.2.1 dX4_put_13 ?_
  refine g_puti (ci := 4) (k := 4) hC hO rfl inX4 tyX4_ok nmX4 (by decide) q_fl_RX4_84 rfl (nn_lt (Nat.le_of_ble_eq_true rfl)) rfl (Nat.le_of_ble_eq_true rfl) rfl rfl rfl dX4_put_14 (fun H locs hO => ?_)
  refine g_aload_n hC hl dX4_put_17 rfl rfl ?_
  refine g_get (ci := 4) (k := 2) hC hO rfl inX4 (by decide) q_fl_RX4_13 (nn_lt (Nat.le_of_ble_eq_true rfl)) rfl rfl dX4_put_18 ?_
  refine g_iload_n hC hl dX4_put_21 rfl rfl ?_
  refine g_aload_n hC hl dX4_put_22 rfl rfl ?_
  refine g_get (ci := 4) (k := 4) hC hO rfl inX4 (by decide) q_fl_RX4_84 (nn_lt (Nat.le_of_ble_eq_true rfl)) rfl rfl dX4_put_23 ?_
  refine g_iast hC hO (nn_lt (Nat.le_of_ble_eq_true rfl)) (fun _ _ => rfl) (vp_in_nI (by omega) (by omega)) dX4_put_26 (fun H locs hO => ?_)
  exact g_vret hC hO dX4_put_27 (by rw [nI_clamp (by omega)]; rfl)

set_option maxHeartbeats 4000000 in
set_option maxRecDepth 100000 in
/-- addNote -/
theorem c_X4_addNote (l : Launch) (κ : KK) (σ : ST) (n : Nat) (hn : sI σ 6 21 = nI n) (hn2 : n < 2000) : Met l yX4_addNote (wA yX4_addNote cX4_addNote 1 none) ({ frames := 0, cells := 0, slots := 0, locals := 0 }) (va_Pc [.ref (kad κ 6)] (WX κ σ)) (va_Qv (fun σ' => σ' = mNote σ) (WX κ) (FA κ)) 0 0 (FA κ) := by
  refine g_met 0 (by decide) rfl (Nat.le_of_ble_eq_true rfl) ?_
  intro p e s m args below meth c hC F th hO ls hl
  have hl : LL ls 1 [some _] := hl
  refine g_aload_n hC hl dX4_addNote_0 rfl rfl ?_
  refine g_get (ci := 4) (k := 22) hC hO rfl inX4 (by decide) q_fl_RX4_66 (nn_lt (Nat.le_of_ble_eq_true rfl)) rfl rfl dX4_addNote_1 ?_
  refine g_aload_n hC hl dX4_addNote_4 rfl rfl ?_
  refine g_get (ci := 4) (k := 21) hC hO rfl inX4 (by decide) q_fl_RX4_87 (nn_lt (Nat.le_of_ble_eq_true rfl)) rfl rfl dX4_addNote_5 ?_
  refine g_aload_n hC hl dX4_addNote_8 rfl rfl ?_
  refine g_get (ci := 4) (k := 19) hC hO rfl inX4 (by decide) q_fl_RX4_90 (nn_lt (Nat.le_of_ble_eq_true rfl)) rfl rfl dX4_addNote_9 ?_
  refine lv_ldc2 hC.1 hC.2.1 hC.2.2.2.1 (hC.2.2.2.2.1 _ q_kl_RX4_93) dX4_addNote_12 ?_
  refine lv_ladd hC.1 hC.2.1 dX4_addNote_15 ?_
  refine g_last hC hO (nn_lt (Nat.le_of_ble_eq_true rfl)) (fun _ _ => rfl) (by rw [hn]; exact vp_in_nI (by omega) (by omega)) dX4_addNote_16 (fun H locs hO => ?_)
  refine g_aload_n hC hl dX4_addNote_17 rfl rfl ?_
  refine lv_dup hC.1 hC.2.1 dX4_addNote_18 rfl ?_
  refine g_get (ci := 4) (k := 21) hC hO rfl inX4 (by decide) q_fl_RX4_87 (nn_lt (Nat.le_of_ble_eq_true rfl)) rfl rfl dX4_addNote_19 ?_
  refine lv_iconst (v := 1) hC.1 hC.2.1 dX4_addNote_22 (by decide) ?_
  refine lv_iadd hC.1 hC.2.1 dX4_addNote_23 ?_
  refine g_puti (ci := 4) (k := 21) hC hO rfl inX4 tyX4_ok nmX4 (by decide) q_fl_RX4_87 rfl (nn_lt (Nat.le_of_ble_eq_true rfl)) rfl (Nat.le_of_ble_eq_true rfl) rfl rfl rfl dX4_addNote_24 (fun H locs hO => ?_)
  exact g_vret hC hO dX4_addNote_27 (rfl)

set_option maxHeartbeats 4000000 in
set_option maxRecDepth 100000 in
/-- listPlace -/
theorem c_X4_listPlace (l : Launch) (κ : KK) (σ : ST) (k : Nat) (hk : k < 60) (ln : Nat) (hl0 : sI σ 16 k = nI ln) (hln : ln ≤ 12) (p1 : Int32) : Met l yX4_listPlace (wA yX4_listPlace cX4_listPlace 5 (some .int)) ({ frames := 0, cells := 0, slots := 0, locals := 0 }) (va_Pc [.ref (kad κ 6), .int (nI k), .int p1] (WX κ σ)) (va_Qi (fun r σ' => σ = σ' ∧ r = lpF σ k p1 ln) (WX κ) (FA κ)) 0 0 (FA κ) := by
  refine g_met 2 (by decide) rfl (Nat.le_of_ble_eq_true rfl) ?_
  intro p e s m args below meth c hC F th hO ls hl
  have hl : LL ls 5 [some _, some _, some _, none, none] := hl
  have loop5 : ∀ (n i : Nat), ln + 1 ≤ i + n → i ≤ ln → ∀ (F : Nat → Nat → Int32) (th : Int32) (H : Heap) (locs : List Loc), OS κ s.heap σ F th H locs → ∀ ls : Array Slot, LL ls 5 [some (.ref (kad κ 6)), some (.int (nI k)), some (.int p1), some (.int (lpF σ k p1 i)), some (.int (nI i))] → W p l e ({ frames := 0, cells := 0, slots := 0, locals := 0 } : Room) s m args below meth c H locs 0 0 (MQ below (va_Qi (fun r σ' => σ = σ' ∧ r = lpF σ k p1 ln) (WX κ) (FA κ)) args s 0 0 (FA κ)) (F0 m 5 ls []) := by
    intro n
    induction n with
    | zero => intro i h1 h2; exact absurd h1 (by omega)
    | succ n ih =>
      intro i h1 h2 F th H locs hO ls hl
      refine g_iload hC hl dX4_listPlace_5 rfl ?_
      refine g_aload_n hC hl dX4_listPlace_7 rfl rfl ?_
      refine g_get (ci := 4) (k := 12) hC hO rfl inX4 (by decide) q_fl_RX4_39 (nn_lt (Nat.le_of_ble_eq_true rfl)) rfl rfl dX4_listPlace_8 ?_
      refine g_iload_n hC hl dX4_listPlace_11 rfl rfl ?_
      refine g_iald hC hO (nn_lt (Nat.le_of_ble_eq_true rfl)) rfl (vp_in_nI (by omega) (by omega)) dX4_listPlace_12 ?_
      refine lv_icmp_ge (tgt := 45) hC.1 hC.2.1 dX4_listPlace_13 (by decide) (fun c_1 => ?_) (fun c_1 => ?_)
      · skip
        rw [nI_clamp (n := k) (by omega), hl0, nI_leI (by omega) (by omega)] at c_1
        refine g_iload_n hC hl dX4_listPlace_45 rfl rfl ?_
        exact g_iret hC hO dX4_listPlace_46 (⟨rfl, by rw [show i = ln by omega]⟩)
      · skip
        rw [nI_clamp (n := k) (by omega), hl0, nI_leI (by omega) (by omega)] at c_1
        refine g_aload_n hC hl dX4_listPlace_16 rfl rfl ?_
        refine g_get (ci := 4) (k := 13) hC hO rfl inX4 (by decide) q_fl_RX4_42 (nn_lt (Nat.le_of_ble_eq_true rfl)) rfl rfl dX4_listPlace_17 ?_
        refine lv_bipush (v := 12) hC.1 hC.2.1 dX4_listPlace_20 (by decide) ?_
        refine g_iload_n hC hl dX4_listPlace_22 rfl rfl ?_
        refine lv_imul hC.1 hC.2.1 dX4_listPlace_23 ?_
        refine g_iload hC hl dX4_listPlace_24 rfl ?_
        refine lv_iadd hC.1 hC.2.1 dX4_listPlace_26 ?_
        rw [ix12]
        refine g_iald hC hO (nn_lt (Nat.le_of_ble_eq_true rfl)) rfl (vp_in_nI (by omega) (by omega)) dX4_listPlace_27 ?_
        refine g_iload_n hC hl dX4_listPlace_28 rfl rfl ?_
        refine lv_icmp_ne (tgt := 37) hC.1 hC.2.1 dX4_listPlace_29 (by decide) (fun c_2 => ?_) (fun c_2 => ?_)
        · skip
          rw [nI_clamp (by omega)] at c_2
          have hw : lpF σ k p1 (i + 1) = lpF σ k p1 i := by rw [lpF, if_neg c_2]
          refine g_iload_n hC hl dX4_listPlace_37 rfl rfl ?_
          refine g_istore_n hC hl dX4_listPlace_38 rfl (Nat.le_of_ble_eq_true rfl) rfl (fun ls hl => ?_)
          have hl : LL ls 5 [some _, some _, some _, some _, some _] := hl
          refine g_iinc (v := nI (i + 1)) hC hl dX4_listPlace_39 rfl (nI_i1 i) (Nat.le_of_ble_eq_true rfl) rfl (fun ls hl => ?_)
          have hl : LL ls 5 [some _, some _, some _, some _, some _] := hl
          refine lv_goto (tgt := 5) hC.1 hC.2.1 dX4_listPlace_42 (by decide) ?_
          exact ih (i + 1) (by omega) (by omega) _ _ _ _ hO ls (by rw [hw]; exact hl)
        · skip
          rw [nI_clamp (by omega)] at c_2
          have hw : lpF σ k p1 (i + 1) = nI i := by rw [lpF, if_pos c_2]
          refine g_iload hC hl dX4_listPlace_32 rfl ?_
          refine lv_goto (tgt := 38) hC.1 hC.2.1 dX4_listPlace_34 (by decide) ?_
          refine g_istore_n hC hl dX4_listPlace_38 rfl (Nat.le_of_ble_eq_true rfl) rfl (fun ls hl => ?_)
          have hl : LL ls 5 [some _, some _, some _, some _, some _] := hl
          refine g_iinc (v := nI (i + 1)) hC hl dX4_listPlace_39 rfl (nI_i1 i) (Nat.le_of_ble_eq_true rfl) rfl (fun ls hl => ?_)
          have hl : LL ls 5 [some _, some _, some _, some _, some _] := hl
          refine lv_goto (tgt := 5) hC.1 hC.2.1 dX4_listPlace_42 (by decide) ?_
          exact ih (i + 1) (by omega) (by omega) _ _ _ _ hO ls (by rw [hw]; exact hl)
  refine lv_iconst (v := (-1)) hC.1 hC.2.1 dX4_listPlace_0 (by decide) ?_
  refine g_istore_n hC hl dX4_listPlace_1 rfl (Nat.le_of_ble_eq_true rfl) rfl (fun ls hl => ?_)
  have hl : LL ls 5 [some _, some _, some _, some _, none] := hl
  refine lv_iconst (v := 0) hC.1 hC.2.1 dX4_listPlace_2 (by decide) ?_
  refine g_istore hC hl dX4_listPlace_3 (Nat.le_of_ble_eq_true rfl) rfl (fun ls hl => ?_)
  have hl : LL ls 5 [some _, some _, some _, some _, some _] := hl
  exact loop5 (ln + 1) 0 (by omega) (by omega) _ _ _ _ hO ls hl

set_option maxHeartbeats 4000000 in
set_option maxRecDepth 100000 in
/-- isExtra -/
theorem c_X4_isExtra (l : Launch) (κ : KK) (σ : ST) (k : Nat) (hk : k < 60) (ex : Nat) (hx0 : sI σ 19 k = nI ex) (hex : ex ≤ 12) (p1 : Int32) : Met l yX4_isExtra (wA yX4_isExtra cX4_isExtra 5 (some .boolean)) ({ frames := 0, cells := 0, slots := 0, locals := 0 }) (va_Pc [.ref (kad κ 6), .int (nI k), .int p1] (WX κ σ)) (va_Qi (fun r σ' => σ = σ' ∧ r = bI (exF σ k p1 ex)) (WX κ) (FA κ)) 0 0 (FA κ) := by
  refine g_met 2 (by decide) rfl (Nat.le_of_ble_eq_true rfl) ?_
  intro p e s m args below meth c hC F th hO ls hl
  have hl : LL ls 5 [some _, some _, some _, none, none] := hl
  have loop5 : ∀ (n i : Nat), ex + 1 ≤ i + n → i ≤ ex → ∀ (F : Nat → Nat → Int32) (th : Int32) (H : Heap) (locs : List Loc), OS κ s.heap σ F th H locs → ∀ ls : Array Slot, LL ls 5 [some (.ref (kad κ 6)), some (.int (nI k)), some (.int p1), some (.int (bI (exF σ k p1 i))), some (.int (nI i))] → W p l e ({ frames := 0, cells := 0, slots := 0, locals := 0 } : Room) s m args below meth c H locs 0 0 (MQ below (va_Qi (fun r σ' => σ = σ' ∧ r = bI (exF σ k p1 ex)) (WX κ) (FA κ)) args s 0 0 (FA κ)) (F0 m 5 ls []) := by
    intro n
    induction n with
    | zero => intro i h1 h2; exact absurd h1 (by omega)
    | succ n ih =>
      intro i h1 h2 F th H locs hO ls hl
      refine g_iload hC hl dX4_isExtra_5 rfl ?_
      refine g_aload_n hC hl dX4_isExtra_7 rfl rfl ?_
      refine g_get (ci := 4) (k := 15) hC hO rfl inX4 (by decide) q_fl_RX4_48 (nn_lt (Nat.le_of_ble_eq_true rfl)) rfl rfl dX4_isExtra_8 ?_
      refine g_iload_n hC hl dX4_isExtra_11 rfl rfl ?_
      refine g_iald hC hO (nn_lt (Nat.le_of_ble_eq_true rfl)) rfl (vp_in_nI (by omega) (by omega)) dX4_isExtra_12 ?_
      refine lv_icmp_ge (tgt := 48) hC.1 hC.2.1 dX4_isExtra_13 (by decide) (fun c_1 => ?_) (fun c_1 => ?_)
      · skip
        rw [nI_clamp (n := k) (by omega), hx0, nI_leI (by omega) (by omega)] at c_1
        refine g_iload_n hC hl dX4_isExtra_48 rfl rfl ?_
        exact g_zret hC hO dX4_isExtra_49 (bI_01 _) (⟨rfl, by rw [show i = ex by omega]⟩)
      · skip
        rw [nI_clamp (n := k) (by omega), hx0, nI_leI (by omega) (by omega)] at c_1
        refine g_iload_n hC hl dX4_isExtra_16 rfl rfl ?_
        refine lv_if_ne (tgt := 36) hC.1 hC.2.1 dX4_isExtra_17 (by decide) (fun c_2 => ?_) (fun c_2 => ?_)
        · skip
          have c_2 := bI_nz c_2
          have hw : exF σ k p1 (i + 1) = true := by rw [exF, c_2]; rfl
          refine lv_iconst (v := 1) hC.1 hC.2.1 dX4_isExtra_36 (by decide) ?_
          refine lv_goto (tgt := 41) hC.1 hC.2.1 dX4_isExtra_37 (by decide) ?_
          refine g_istore_n hC hl dX4_isExtra_41 rfl (Nat.le_of_ble_eq_true rfl) rfl (fun ls hl => ?_)
          have hl : LL ls 5 [some _, some _, some _, some _, some _] := hl
          refine g_iinc (v := nI (i + 1)) hC hl dX4_isExtra_42 rfl (nI_i1 i) (Nat.le_of_ble_eq_true rfl) rfl (fun ls hl => ?_)
          have hl : LL ls 5 [some _, some _, some _, some _, some _] := hl
          refine lv_goto (tgt := 5) hC.1 hC.2.1 dX4_isExtra_45 (by decide) ?_
          exact ih (i + 1) (by omega) (by omega) _ _ _ _ hO ls (by rw [hw]; exact hl)
        · skip
          have c_2 := bI_z c_2
          have hf := c_2
          refine g_aload_n hC hl dX4_isExtra_20 rfl rfl ?_
          refine g_get (ci := 4) (k := 16) hC hO rfl inX4 (by decide) q_fl_RX4_51 (nn_lt (Nat.le_of_ble_eq_true rfl)) rfl rfl dX4_isExtra_21 ?_
          refine lv_bipush (v := 12) hC.1 hC.2.1 dX4_isExtra_24 (by decide) ?_
          refine g_iload_n hC hl dX4_isExtra_26 rfl rfl ?_
          refine lv_imul hC.1 hC.2.1 dX4_isExtra_27 ?_
          refine g_iload hC hl dX4_isExtra_28 rfl ?_
          refine lv_iadd hC.1 hC.2.1 dX4_isExtra_30 ?_
          rw [ix12]
          refine g_iald hC hO (nn_lt (Nat.le_of_ble_eq_true rfl)) rfl (vp_in_nI (by omega) (by omega)) dX4_isExtra_31 ?_
          refine g_iload_n hC hl dX4_isExtra_32 rfl rfl ?_
          refine lv_icmp_ne (tgt := 40) hC.1 hC.2.1 dX4_isExtra_33 (by decide) (fun c_3 => ?_) (fun c_3 => ?_)
          · skip
            rw [nI_clamp (by omega)] at c_3
            have hw : exF σ k p1 (i + 1) = false := by rw [exF, hf, decide_eq_false c_3]; rfl
            refine lv_iconst (v := 0) hC.1 hC.2.1 dX4_isExtra_40 (by decide) ?_
            refine g_istore_n hC hl dX4_isExtra_41 rfl (Nat.le_of_ble_eq_true rfl) rfl (fun ls hl => ?_)
            have hl : LL ls 5 [some _, some _, some _, some _, some _] := hl
            refine g_iinc (v := nI (i + 1)) hC hl dX4_isExtra_42 rfl (nI_i1 i) (Nat.le_of_ble_eq_true rfl) rfl (fun ls hl => ?_)
            have hl : LL ls 5 [some _, some _, some _, some _, some _] := hl
            refine lv_goto (tgt := 5) hC.1 hC.2.1 dX4_isExtra_45 (by decide) ?_
            exact ih (i + 1) (by omega) (by omega) _ _ _ _ hO ls (by rw [hw]; exact hl)
          · skip
            rw [nI_clamp (by omega)] at c_3
            have hw : exF σ k p1 (i + 1) = true := by rw [exF, hf, decide_eq_true c_3]; rfl
            refine lv_iconst (v := 1) hC.1 hC.2.1 dX4_isExtra_36 (by decide) ?_
            refine lv_goto (tgt := 41) hC.1 hC.2.1 dX4_isExtra_37 (by decide) ?_
            refine g_istore_n hC hl dX4_isExtra_41 rfl (Nat.le_of_ble_eq_true rfl) rfl (fun ls hl => ?_)
            have hl : LL ls 5 [some _, some _, some _, some _, some _] := hl
            refine g_iinc (v := nI (i + 1)) hC hl dX4_isExtra_42 rfl (nI_i1 i) (Nat.le_of_ble_eq_true rfl) rfl (fun ls hl => ?_)
            have hl : LL ls 5 [some _, some _, some _, some _, some _] := hl
            refine lv_goto (tgt := 5) hC.1 hC.2.1 dX4_isExtra_45 (by decide) ?_
            exact ih (i + 1) (by omega) (by omega) _ _ _ _ hO ls (by rw [hw]; exact hl)
  refine lv_iconst (v := 0) hC.1 hC.2.1 dX4_isExtra_0 (by decide) ?_
  refine g_istore_n hC hl dX4_isExtra_1 rfl (Nat.le_of_ble_eq_true rfl) rfl (fun ls hl => ?_)
  have hl : LL ls 5 [some _, some _, some _, some _, none] := hl
  refine lv_iconst (v := 0) hC.1 hC.2.1 dX4_isExtra_2 (by decide) ?_
  refine g_istore hC hl dX4_isExtra_3 (Nat.le_of_ble_eq_true rfl) rfl (fun ls hl => ?_)
  have hl : LL ls 5 [some _, some _, some _, some _, some _] := hl
  exact loop5 (ex + 1) 0 (by omega) (by omega) _ _ _ _ hO ls hl

set_option maxHeartbeats 4000000 in
set_option maxRecDepth 100000 in
/-- bring -/
theorem c_X4_bring (l : Launch) (κ : KK) (σ : ST) (hM : MB σ) (tn : Nat) (h1 : 1 ≤ tn) (htn : tn < 1061) (p1 : Int32) : Met l yX4_bring (wA yX4_bring cX4_bring 5 (some .int)) ({ frames := 2, cells := 0, slots := 0, locals := 45 }) (va_Pc [.ref (kad κ 6), .int (nI tn), .int p1] (WX κ σ)) (va_Qi (fun r σ' => σ' = mBring σ tn p1 ∧ r = nI (brN σ tn 1061)) (WX κ) (FA κ)) 0 0 (FA κ) := by
  refine g_met 2 (by decide) rfl (Nat.le_of_ble_eq_true rfl) ?_
  intro p e s m args below meth c hC F th hO ls hl
  have hl : LL ls 5 [some _, some _, some _, none, none] := hl
  have loop5 : ∀ (n i : Nat), 1062 ≤ i + n → i ≤ 1061 → 1 ≤ i → ∀ (F : Nat → Nat → Int32) (th : Int32) (H : Heap) (locs : List Loc), OS κ s.heap (upA σ 9 (brP σ tn p1 i)) F th H locs → ∀ ls : Array Slot, LL ls 5 [some (.ref (kad κ 6)), some (.int (nI tn)), some (.int p1), some (.int (nI (brN σ tn i))), some (.int (nI i))] → W p l e ({ frames := 2, cells := 0, slots := 0, locals := 45 } : Room) s m args below meth c H locs 0 0 (MQ below (va_Qi (fun r σ' => σ' = mBring σ tn p1 ∧ r = nI (brN σ tn 1061)) (WX κ) (FA κ)) args s 0 0 (FA κ)) (F0 m 5 ls []) := by
    intro n
    induction n with
    | zero => intro i h1 h2; exact absurd h1 (by omega)
    | succ n ih =>
      intro i h1 h2 h3 F th H locs hO ls hl
      refine g_iload hC hl dX4_bring_5 rfl ?_
      refine lv_sipush (v := 1061) hC.1 hC.2.1 dX4_bring_7 (by decide) ?_
      refine lv_icmp_ge (tgt := 55) hC.1 hC.2.1 dX4_bring_10 (by decide) (fun c_1 => ?_) (fun c_1 => ?_)
      · skip
        rw [show (1061 : Int32) = nI 1061 from rfl, nI_leI (by omega) (by omega)] at c_1
        refine g_iload_n hC hl dX4_bring_55 rfl rfl ?_
        exact g_iret hC hO dX4_bring_56 (⟨by rw [show i = 1061 by omega]; rfl, by rw [show i = 1061 by omega]⟩)
      · skip
        rw [show (1061 : Int32) = nI 1061 from rfl, nI_leI (by omega) (by omega)] at c_1
        refine g_aload_n hC hl dX4_bring_13 rfl rfl ?_
        refine g_iload hC hl dX4_bring_14 rfl ?_
        refine g_cVi1 hC hO hl (ci := 4) rfl (nn_lt (Nat.le_of_ble_eq_true rfl)) rfl (c_X4_isThing l κ _ (by first | exact hM | exact hM.upA 9 _ (by decide) (by decide) (by decide)) _) mi_X4_isThing q_ml_RX4_95 rfl rfl ⟨Nat.le_of_ble_eq_true rfl, Nat.le_of_ble_eq_true rfl⟩ (Nat.le_of_ble_eq_true rfl) ⟨Nat.zero_le _, Nat.zero_le _⟩ dX4_bring_16 (fun r σ1 F th H locs hr hO => ?_)
        obtain ⟨rfl, rfl⟩ := hr
        refine lv_if_eq (tgt := 49) hC.1 hC.2.1 dX4_bring_19 (by decide) (fun c_2 => ?_) (fun c_2 => ?_)
        · skip
          have c_2 := bI_z c_2
          have hc : brC σ tn i = false := by unfold brC; rw [show thingB σ (nI i) = false from c_2]; rfl
          have hp := brP_f (w := p1) hc
          have hw := brN_f hc
          refine g_iinc (v := nI (i + 1)) hC hl dX4_bring_49 rfl (nI_i1 i) (Nat.le_of_ble_eq_true rfl) rfl (fun ls hl => ?_)
          have hl : LL ls 5 [some _, some _, some _, some _, some _] := hl
          refine lv_goto (tgt := 5) hC.1 hC.2.1 dX4_bring_52 (by decide) ?_
          exact ih (i + 1) (by omega) (by omega) (by omega) _ _ _ _ (by rw [hp]; exact hO) ls (by rw [hw]; exact hl)
        · skip
          have c_2 := bI_nz c_2
          have hth : thingB σ (nI i) = true := c_2
          refine g_iload hC hl dX4_bring_22 rfl ?_
          refine g_iload_n hC hl dX4_bring_24 rfl rfl ?_
          refine lv_icmp_eq (tgt := 38) hC.1 hC.2.1 dX4_bring_25 (by decide) (fun c_3 => ?_) (fun c_3 => ?_)
          · skip
            rw [nI_eq (by omega) (by omega)] at c_3
            have hc : brC σ tn i = true := by unfold brC; rw [hth, decide_eq_true c_3]; rfl
            have hp := brP_t (w := p1) h3 hc
            have hw := brN_t h3 hc
            refine g_aload_n hC hl dX4_bring_38 rfl rfl ?_
            refine g_get (ci := 4) (k := 3) hC hO rfl inX4 (by decide) q_fl_RX4_16 (nn_lt (Nat.le_of_ble_eq_true rfl)) rfl rfl dX4_bring_39 ?_
            refine g_iload hC hl dX4_bring_42 rfl ?_
            refine g_iload_n hC hl dX4_bring_44 rfl rfl ?_
            refine g_iast hC hO (nn_lt (Nat.le_of_ble_eq_true rfl)) (fun _ _ => rfl) (vp_in_nI (by omega) (by omega)) dX4_bring_45 (fun H locs hO => ?_)
            rw [nI_clamp (n := i) (by omega), upI_upA] at hO
            refine g_iinc (v := nI (brN σ tn i + 1)) hC hl dX4_bring_46 rfl (nI_i1 _) (Nat.le_of_ble_eq_true rfl) rfl (fun ls hl => ?_)
            have hl : LL ls 5 [some _, some _, some _, some _, some _] := hl
            refine g_iinc (v := nI (i + 1)) hC hl dX4_bring_49 rfl (nI_i1 i) (Nat.le_of_ble_eq_true rfl) rfl (fun ls hl => ?_)
            have hl : LL ls 5 [some _, some _, some _, some _, some _] := hl
            refine lv_goto (tgt := 5) hC.1 hC.2.1 dX4_bring_52 (by decide) ?_
            exact ih (i + 1) (by omega) (by omega) (by omega) _ _ _ _ (by rw [hp]; exact hO) ls (by rw [hw]; exact hl)
          · skip
            rw [nI_eq (by omega) (by omega)] at c_3
            have hne := c_3
            refine g_aload_n hC hl dX4_bring_28 rfl rfl ?_
            refine g_iload hC hl dX4_bring_29 rfl ?_
            refine g_iload_n hC hl dX4_bring_31 rfl rfl ?_
            refine g_cVi2 hC hO hl (ci := 4) rfl (nn_lt (Nat.le_of_ble_eq_true rfl)) rfl (c_X4_liesIn l κ _ (by first | exact hM | exact hM.upA 9 _ (by decide) (by decide) (by decide)) i (by omega) _) mi_X4_liesIn q_ml_RX4_116 rfl rfl ⟨Nat.le_of_ble_eq_true rfl, Nat.le_of_ble_eq_true rfl⟩ (Nat.le_of_ble_eq_true rfl) ⟨Nat.zero_le _, Nat.zero_le _⟩ dX4_bring_32 (fun r σ1 F th H locs hr hO => ?_)
            obtain ⟨rfl, rfl⟩ := hr
            refine lv_if_eq (tgt := 49) hC.1 hC.2.1 dX4_bring_35 (by decide) (fun c_4 => ?_) (fun c_4 => ?_)
            · skip
              have c_4 := bI_z c_4
              have hl9 : lieB σ i (nI tn) = false := by rw [← c_4]; unfold lieB; rw [ancR_congr (σ := σ) (σ' := upA σ 9 (brP σ tn p1 i)) (fun t => rfl)]; rfl
              have hc : brC σ tn i = false := by unfold brC; rw [hth, decide_eq_false hne, hl9]; rfl
              have hp := brP_f (w := p1) hc
              have hw := brN_f hc
              refine g_iinc (v := nI (i + 1)) hC hl dX4_bring_49 rfl (nI_i1 i) (Nat.le_of_ble_eq_true rfl) rfl (fun ls hl => ?_)
              have hl : LL ls 5 [some _, some _, some _, some _, some _] := hl
              refine lv_goto (tgt := 5) hC.1 hC.2.1 dX4_bring_52 (by decide) ?_
              exact ih (i + 1) (by omega) (by omega) (by omega) _ _ _ _ (by rw [hp]; exact hO) ls (by rw [hw]; exact hl)
            · skip
              have c_4 := bI_nz c_4
              have hl9 : lieB σ i (nI tn) = true := by rw [← c_4]; unfold lieB; rw [ancR_congr (σ := σ) (σ' := upA σ 9 (brP σ tn p1 i)) (fun t => rfl)]; rfl
              have hc : brC σ tn i = true := by unfold brC; rw [hth, decide_eq_false hne, hl9]; rfl
              have hp := brP_t (w := p1) h3 hc
              have hw := brN_t h3 hc
              refine g_aload_n hC hl dX4_bring_38 rfl rfl ?_
              refine g_get (ci := 4) (k := 3) hC hO rfl inX4 (by decide) q_fl_RX4_16 (nn_lt (Nat.le_of_ble_eq_true rfl)) rfl rfl dX4_bring_39 ?_
              refine g_iload hC hl dX4_bring_42 rfl ?_
              refine g_iload_n hC hl dX4_bring_44 rfl rfl ?_
              refine g_iast hC hO (nn_lt (Nat.le_of_ble_eq_true rfl)) (fun _ _ => rfl) (vp_in_nI (by omega) (by omega)) dX4_bring_45 (fun H locs hO => ?_)
              rw [nI_clamp (n := i) (by omega), upI_upA] at hO
              refine g_iinc (v := nI (brN σ tn i + 1)) hC hl dX4_bring_46 rfl (nI_i1 _) (Nat.le_of_ble_eq_true rfl) rfl (fun ls hl => ?_)
              have hl : LL ls 5 [some _, some _, some _, some _, some _] := hl
              refine g_iinc (v := nI (i + 1)) hC hl dX4_bring_49 rfl (nI_i1 i) (Nat.le_of_ble_eq_true rfl) rfl (fun ls hl => ?_)
              have hl : LL ls 5 [some _, some _, some _, some _, some _] := hl
              refine lv_goto (tgt := 5) hC.1 hC.2.1 dX4_bring_52 (by decide) ?_
              exact ih (i + 1) (by omega) (by omega) (by omega) _ _ _ _ (by rw [hp]; exact hO) ls (by rw [hw]; exact hl)
  refine lv_iconst (v := 0) hC.1 hC.2.1 dX4_bring_0 (by decide) ?_
  refine g_istore_n hC hl dX4_bring_1 rfl (Nat.le_of_ble_eq_true rfl) rfl (fun ls hl => ?_)
  have hl : LL ls 5 [some _, some _, some _, some _, none] := hl
  refine lv_iconst (v := 1) hC.1 hC.2.1 dX4_bring_2 (by decide) ?_
  refine g_istore hC hl dX4_bring_3 (Nat.le_of_ble_eq_true rfl) rfl (fun ls hl => ?_)
  have hl : LL ls 5 [some _, some _, some _, some _, some _] := hl
  exact loop5 1061 1 (by omega) (by omega) (by omega) _ _ _ _ (by rw [brP_1, upA_self]; exact hO) ls (by rw [show brN σ tn 1 = 0 from rfl]; exact hl)

set_option maxHeartbeats 4000000 in
set_option maxRecDepth 100000 in
/-- pick -/
theorem c_X4_pick (l : Launch) (κ : KK) (σ : ST) (p0 p1 : Int32) (p2 : Int64) : Met l yX4_pick (wA yX4_pick cX4_pick 5 (some .int)) ({ frames := 0, cells := 0, slots := 0, locals := 0 }) (va_Pc [.ref (kad κ 6), .int p0, .int p1, .long p2] (WX κ σ)) (va_Qi (fun r σ' => σ = σ' ∧ r = pickF p0 p1 p2) (WX κ) (FA κ)) 0 0 (FA κ) := by
  refine g_met 0 (by decide) rfl (Nat.le_of_ble_eq_true rfl) ?_
  intro p e s m args below meth c hC F th hO ls hl
  have hl : LL ls 5 [some _, some _, some _, some _, none] := hl
  refine g_iload_n hC hl dX4_pick_0 rfl rfl ?_
  refine lv_if_ne (tgt := 8) hC.1 hC.2.1 dX4_pick_1 (by decide) (fun c_1 => ?_) (fun c_1 => ?_)
  · skip
    refine g_lload_n hC hl dX4_pick_8 rfl rfl ?_
    refine lv_l2i hC.1 hC.2.1 dX4_pick_9 rfl ?_
    exact g_iret hC hO dX4_pick_10 (⟨rfl, by unfold pickF; first | rw [if_pos c_1] | rw [if_neg c_1]⟩)
  · skip
    refine g_iload_n hC hl dX4_pick_4 rfl rfl ?_
    refine lv_goto (tgt := 10) hC.1 hC.2.1 dX4_pick_5 (by decide) ?_
    exact g_iret hC hO dX4_pick_10 (⟨rfl, by unfold pickF; first | rw [if_pos c_1] | rw [if_neg c_1]⟩)

set_option maxHeartbeats 4000000 in
set_option maxRecDepth 100000 in
/-- own -/
theorem c_X4_own (l : Launch) (κ : KK) (σ : ST) (t : Nat) (ht : t < 1061) : Met l yX4_own (wA yX4_own cX4_own 2 (some .long)) ({ frames := 0, cells := 0, slots := 0, locals := 0 }) (va_Pc [.ref (kad κ 6), .int (nI t)] (WX κ σ)) (va_Ql (fun r σ' => σ = σ' ∧ r = ownM σ t) (WX κ) (FA κ)) 0 0 (FA κ) := by
  refine g_met 0 (by decide) rfl (Nat.le_of_ble_eq_true rfl) ?_
  intro p e s m args below meth c hC F th hO ls hl
  have hl : LL ls 2 [some _, some _] := hl
  refine g_iload_n hC hl dX4_own_0 rfl rfl ?_
  refine lv_sipush (v := 1000) hC.1 hC.2.1 dX4_own_1 (by decide) ?_
  refine lv_icmp_le (tgt := 29) hC.1 hC.2.1 dX4_own_4 (by decide) (fun c_1 => ?_) (fun c_1 => ?_)
  · skip
    rw [show (1000 : Int32) = nI 1000 from rfl, nI_leI (by omega) (by omega)] at c_1
    have h9 : ownM σ t = 5 + 10 * (nI t - nI t / 50 * 50).toInt64 := by
      unfold ownM
      rw [if_pos c_1, show (50 : Int32) = nI 50 from rfl, pk_rem (by omega) (by omega) (by omega)]
    refine lv_ldc2 hC.1 hC.2.1 hC.2.2.2.1 (hC.2.2.2.2.1 _ q_kl_RX4_138) dX4_own_29 ?_
    refine lv_ldc2 hC.1 hC.2.1 hC.2.2.2.1 (hC.2.2.2.2.1 _ q_kl_RX4_140) dX4_own_32 ?_
    refine g_iload_n hC hl dX4_own_35 rfl rfl ?_
    refine lv_bipush (v := 50) hC.1 hC.2.1 dX4_own_36 (by decide) ?_
    refine lv_irem hC.1 hC.2.1 dX4_own_38 (by decide) ?_
    refine lv_i2l hC.1 hC.2.1 dX4_own_39 rfl ?_
    refine lv_lmul hC.1 hC.2.1 dX4_own_40 ?_
    refine lv_ladd hC.1 hC.2.1 dX4_own_41 ?_
    exact g_lret hC hO dX4_own_42 (⟨rfl, h9.symm⟩)
  · skip
    rw [show (1000 : Int32) = nI 1000 from rfl, nI_leI (by omega) (by omega)] at c_1
    obtain ⟨j, rfl⟩ : ∃ j, t = 1001 + j := ⟨t - 1001, by omega⟩
    have h9 : ownM σ (1001 + j) = 100 * (sI σ 10 (nI j).toNatClampNeg).toInt64 + 100 := by
      unfold ownM
      rw [if_neg (by omega), nI_clamp (by omega), show 1001 + j - 1001 = j by omega]
    refine lv_ldc2 hC.1 hC.2.1 hC.2.2.2.1 (hC.2.2.2.2.1 _ q_kl_RX4_93) dX4_own_7 ?_
    refine g_aload_n hC hl dX4_own_10 rfl rfl ?_
    refine g_get (ci := 4) (k := 6) hC hO rfl inX4 (by decide) q_fl_RX4_19 (nn_lt (Nat.le_of_ble_eq_true rfl)) rfl rfl dX4_own_11 ?_
    refine g_iload_n hC hl dX4_own_14 rfl rfl ?_
    refine lv_sipush (v := 1001) hC.1 hC.2.1 dX4_own_15 (by decide) ?_
    refine lv_isub hC.1 hC.2.1 dX4_own_18 ?_
    rw [sub1001 (by omega)]
    refine g_iald hC hO (nn_lt (Nat.le_of_ble_eq_true rfl)) rfl (vp_in_nI (by omega) (by omega)) dX4_own_19 ?_
    refine lv_i2l hC.1 hC.2.1 dX4_own_20 rfl ?_
    refine lv_lmul hC.1 hC.2.1 dX4_own_21 ?_
    refine lv_ldc2 hC.1 hC.2.1 hC.2.2.2.1 (hC.2.2.2.2.1 _ q_kl_RX4_93) dX4_own_22 ?_
    refine lv_ladd hC.1 hC.2.1 dX4_own_25 ?_
    refine lv_goto (tgt := 42) hC.1 hC.2.1 dX4_own_26 (by decide) ?_
    exact g_lret hC hO dX4_own_42 (⟨rfl, h9.symm⟩)

set_option maxHeartbeats 4000000 in
set_option maxRecDepth 100000 in
/-- difference -/
theorem c_X4_difference (l : Launch) (κ : KK) (σ : ST) (k : Nat) (hk : k < 60) (ln : Nat) (hl0 : sI σ 16 k = nI ln) (hln : ln ≤ 12) (ex : Nat) (hx0 : sI σ 19 k = nI ex) (hex : ex ≤ 12) (we : Nat) (hw0 : sI σ 21 k = nI we) (hwe : we ≤ 6) (i : Nat) (hi : i < 2 ^ 31) (p2 : Int32) : Met l yX4_difference (wA yX4_difference cX4_difference 6 (some .int)) ({ frames := 1, cells := 0, slots := 0, locals := 24 }) (va_Pc [.ref (kad κ 6), .int (nI k), .int (nI i), .int p2] (WX κ σ)) (va_Qi (fun r σ' => σ = σ' ∧ r = mdF σ k ln ex we i p2) (WX κ) (FA κ)) 0 0 (FA κ) := by
  refine g_met 2 (by decide) rfl (Nat.le_of_ble_eq_true rfl) ?_
  intro p e s m args below meth c hC F th hO ls hl
  have hl : LL ls 6 [some _, some _, some _, some _, none, none] := hl
  have ck : (nI k).toNatClampNeg = k := nI_clamp (by omega)
  have loop84 : ∀ (L0 : Nat), L0 < 2 ^ 31 → mdF σ k ln ex we i p2 = mdT σ k ln ex L0 p2 → ∀ (n q lf : Nat), ln + 1 ≤ q + n → q ≤ ln → lf + (misL σ k q).length = L0 → ∀ (F : Nat → Nat → Int32) (th : Int32) (H : Heap) (locs : List Loc), OS κ s.heap σ F th H locs → ∀ ls : Array Slot, LL ls 6 [some (.ref (kad κ 6)), some (.int (nI k)), some (.int (nI i)), some (.int p2), some (.int (nI lf)), some (.int (nI q))] → W p l e ({ frames := 1, cells := 0, slots := 0, locals := 24 } : Room) s m args below meth c H locs 0 0 (MQ below (va_Qi (fun r σ' => σ = σ' ∧ r = mdF σ k ln ex we i p2) (WX κ) (FA κ)) args s 0 0 (FA κ)) (F0 m 84 ls []) := by
    intro L0 hL0 hres n
    induction n with
    | zero => intro q lf h1 h2; exact absurd h1 (by omega)
    | succ n ih =>
      intro q lf h1 h2 h3 F th H locs hO ls hl
      refine g_iload hC hl dX4_difference_84 rfl ?_
      refine g_aload_n hC hl dX4_difference_86 rfl rfl ?_
      refine g_get (ci := 4) (k := 12) hC hO rfl inX4 (by decide) q_fl_RX4_39 (nn_lt (Nat.le_of_ble_eq_true rfl)) rfl rfl dX4_difference_87 ?_
      refine g_iload_n hC hl dX4_difference_90 rfl rfl ?_
      refine g_iald hC hO (nn_lt (Nat.le_of_ble_eq_true rfl)) rfl (vp_in_nI (by omega) (by omega)) dX4_difference_91 ?_
      refine lv_icmp_ge (tgt := 144) hC.1 hC.2.1 dX4_difference_92 (by decide) (fun c_1 => ?_) (fun c_1 => ?_)
      · skip
        rw [ck, hl0, nI_leI (by omega) (by omega)] at c_1
        have eq9 : q = ln := by omega
        subst eq9
        refine g_iload hC hl dX4_difference_144 rfl ?_
        refine g_aload_n hC hl dX4_difference_146 rfl rfl ?_
        refine g_get (ci := 4) (k := 15) hC hO rfl inX4 (by decide) q_fl_RX4_48 (nn_lt (Nat.le_of_ble_eq_true rfl)) rfl rfl dX4_difference_147 ?_
        refine g_iload_n hC hl dX4_difference_150 rfl rfl ?_
        refine g_iald hC hO (nn_lt (Nat.le_of_ble_eq_true rfl)) rfl (vp_in_nI (by omega) (by omega)) dX4_difference_151 ?_
        refine lv_icmp_ge (tgt := 177) hC.1 hC.2.1 dX4_difference_152 (by decide) (fun c_2 => ?_) (fun c_2 => ?_)
        · skip
          rw [ck, hx0, nI_leI (by omega) (by omega)] at c_2
          have h9 : mdF σ k q ex we i p2 = -1 := by rw [hres, mdT, if_neg (by omega), if_neg (by omega)]
          refine lv_iconst (v := (-1)) hC.1 hC.2.1 dX4_difference_177 (by decide) ?_
          exact g_iret hC hO dX4_difference_178 (⟨rfl, by first | rw [h9, nI_clamp (by omega)] | exact h9.symm⟩)
        · skip
          rw [ck, hx0, nI_leI (by omega) (by omega)] at c_2
          have h9 : mdF σ k q ex we i p2 = pickF p2 3 (sI σ 20 (12 * k + lf)).toInt64 := by rw [hres, mdT, if_neg (by omega), if_pos (by omega), show L0 - (misL σ k q).length = lf by omega]
          refine g_aload_n hC hl dX4_difference_155 rfl rfl ?_
          refine g_iload_n hC hl dX4_difference_156 rfl rfl ?_
          refine lv_iconst (v := 3) hC.1 hC.2.1 dX4_difference_157 (by decide) ?_
          refine g_aload_n hC hl dX4_difference_158 rfl rfl ?_
          refine g_get (ci := 4) (k := 16) hC hO rfl inX4 (by decide) q_fl_RX4_51 (nn_lt (Nat.le_of_ble_eq_true rfl)) rfl rfl dX4_difference_159 ?_
          refine lv_bipush (v := 12) hC.1 hC.2.1 dX4_difference_162 (by decide) ?_
          refine g_iload_n hC hl dX4_difference_164 rfl rfl ?_
          refine lv_imul hC.1 hC.2.1 dX4_difference_165 ?_
          refine g_iload hC hl dX4_difference_166 rfl ?_
          refine lv_iadd hC.1 hC.2.1 dX4_difference_168 ?_
          rw [ix12]
          refine g_iald hC hO (nn_lt (Nat.le_of_ble_eq_true rfl)) rfl (vp_in_nI (by omega) (by omega)) dX4_difference_169 ?_
          refine lv_i2l hC.1 hC.2.1 dX4_difference_170 rfl ?_
          refine g_cVi3 hC hO hl (ci := 4) rfl (nn_lt (Nat.le_of_ble_eq_true rfl)) rfl (c_X4_pick l κ _ _ _ _) mi_X4_pick q_ml_RX4_130 rfl rfl ⟨Nat.le_of_ble_eq_true rfl, Nat.le_of_ble_eq_true rfl⟩ (Nat.le_of_ble_eq_true rfl) ⟨Nat.zero_le _, Nat.zero_le _⟩ dX4_difference_171 (fun r σ1 F th H locs hr hO => ?_)
          obtain ⟨rfl, rfl⟩ := hr
          refine lv_goto (tgt := 178) hC.1 hC.2.1 dX4_difference_174 (by decide) ?_
          exact g_iret hC hO dX4_difference_178 (⟨rfl, by first | rw [h9, nI_clamp (by omega)] | exact h9.symm⟩)
      · skip
        rw [ck, hl0, nI_leI (by omega) (by omega)] at c_1
        have hqln := c_1
        refine g_aload_n hC hl dX4_difference_95 rfl rfl ?_
        refine g_get (ci := 4) (k := 14) hC hO rfl inX4 (by decide) q_fl_RX4_45 (nn_lt (Nat.le_of_ble_eq_true rfl)) rfl rfl dX4_difference_96 ?_
        refine lv_bipush (v := 12) hC.1 hC.2.1 dX4_difference_99 (by decide) ?_
        refine g_iload_n hC hl dX4_difference_101 rfl rfl ?_
        refine lv_imul hC.1 hC.2.1 dX4_difference_102 ?_
        refine g_iload hC hl dX4_difference_103 rfl ?_
        refine lv_iadd hC.1 hC.2.1 dX4_difference_105 ?_
        rw [ix12]
        refine g_zald hC hO (nn_lt (Nat.le_of_ble_eq_true rfl)) rfl (vp_in_nI (by omega) (by omega)) dX4_difference_106 ?_
        refine lv_if_ne (tgt := 138) hC.1 hC.2.1 dX4_difference_107 (by decide) (fun c_3 => ?_) (fun c_3 => ?_)
        · skip
          rw [nI_clamp (by omega)] at c_3
          have h5 : lf + (misL σ k (q + 1)).length = L0 := by rw [misL, if_neg c_3]; exact h3
          refine g_iinc (v := nI (q + 1)) hC hl dX4_difference_138 rfl (nI_i1 q) (Nat.le_of_ble_eq_true rfl) rfl (fun ls hl => ?_)
          have hl : LL ls 6 [some _, some _, some _, some _, some _, some _] := hl
          refine lv_goto (tgt := 84) hC.1 hC.2.1 dX4_difference_141 (by decide) ?_
          exact ih (q + 1) _ (by omega) (by omega) h5 _ _ _ _ hO ls hl
        · skip
          rw [nI_clamp (by omega)] at c_3
          have hmg := misL_get (q := ln) (by omega) c_3
          refine g_iload hC hl dX4_difference_110 rfl ?_
          refine lv_if_ne (tgt := 135) hC.1 hC.2.1 dX4_difference_112 (by decide) (fun c_4 => ?_) (fun c_4 => ?_)
          · skip
            rw [nI_eq0 (by omega)] at c_4
            have h5 : lf - 1 + (misL σ k (q + 1)).length = L0 := by
              rw [misL, if_pos (by assumption), List.length_append, List.length_singleton]; omega
            refine g_iinc (v := nI (lf - 1)) hC hl dX4_difference_135 rfl (nI_m1 (by omega)) (Nat.le_of_ble_eq_true rfl) rfl (fun ls hl => ?_)
            have hl : LL ls 6 [some _, some _, some _, some _, some _, some _] := hl
            refine g_iinc (v := nI (q + 1)) hC hl dX4_difference_138 rfl (nI_i1 q) (Nat.le_of_ble_eq_true rfl) rfl (fun ls hl => ?_)
            have hl : LL ls 6 [some _, some _, some _, some _, some _, some _] := hl
            refine lv_goto (tgt := 84) hC.1 hC.2.1 dX4_difference_141 (by decide) ?_
            exact ih (q + 1) _ (by omega) (by omega) h5 _ _ _ _ hO ls hl
          · skip
            rw [nI_eq0 (by omega)] at c_4
            have h9 : mdF σ k ln ex we i p2 = pickF p2 2 (sI σ 17 (12 * k + q)).toInt64 := by
              have e0 : L0 = (misL σ k q).length := by omega
              rw [hres, mdT, e0, if_pos hmg.1, hmg.2]
            refine g_aload_n hC hl dX4_difference_115 rfl rfl ?_
            refine g_iload_n hC hl dX4_difference_116 rfl rfl ?_
            refine lv_iconst (v := 2) hC.1 hC.2.1 dX4_difference_117 (by decide) ?_
            refine g_aload_n hC hl dX4_difference_118 rfl rfl ?_
            refine g_get (ci := 4) (k := 13) hC hO rfl inX4 (by decide) q_fl_RX4_42 (nn_lt (Nat.le_of_ble_eq_true rfl)) rfl rfl dX4_difference_119 ?_
            refine lv_bipush (v := 12) hC.1 hC.2.1 dX4_difference_122 (by decide) ?_
            refine g_iload_n hC hl dX4_difference_124 rfl rfl ?_
            refine lv_imul hC.1 hC.2.1 dX4_difference_125 ?_
            refine g_iload hC hl dX4_difference_126 rfl ?_
            refine lv_iadd hC.1 hC.2.1 dX4_difference_128 ?_
            rw [ix12]
            refine g_iald hC hO (nn_lt (Nat.le_of_ble_eq_true rfl)) rfl (vp_in_nI (by omega) (by omega)) dX4_difference_129 ?_
            refine lv_i2l hC.1 hC.2.1 dX4_difference_130 rfl ?_
            refine g_cVi3 hC hO hl (ci := 4) rfl (nn_lt (Nat.le_of_ble_eq_true rfl)) rfl (c_X4_pick l κ _ _ _ _) mi_X4_pick q_ml_RX4_130 rfl rfl ⟨Nat.le_of_ble_eq_true rfl, Nat.le_of_ble_eq_true rfl⟩ (Nat.le_of_ble_eq_true rfl) ⟨Nat.zero_le _, Nat.zero_le _⟩ dX4_difference_131 (fun r σ1 F th H locs hr hO => ?_)
            obtain ⟨rfl, rfl⟩ := hr
            exact g_iret hC hO dX4_difference_134 (⟨rfl, by rw [h9, nI_clamp (by omega)]⟩)
  refine g_iload_n hC hl dX4_difference_0 rfl rfl ?_
  refine g_istore hC hl dX4_difference_1 (Nat.le_of_ble_eq_true rfl) rfl (fun ls hl => ?_)
  have hl : LL ls 6 [some _, some _, some _, some _, some _, none] := hl
  refine g_aload_n hC hl dX4_difference_3 rfl rfl ?_
  refine g_get (ci := 4) (k := 11) hC hO rfl inX4 (by decide) q_fl_RX4_36 (nn_lt (Nat.le_of_ble_eq_true rfl)) rfl rfl dX4_difference_4 ?_
  refine g_iload_n hC hl dX4_difference_7 rfl rfl ?_
  refine g_lald hC hO (nn_lt (Nat.le_of_ble_eq_true rfl)) rfl (vp_in_nI (by omega) (by omega)) dX4_difference_8 ?_
  refine g_aload_n hC hl dX4_difference_9 rfl rfl ?_
  refine g_get (ci := 4) (k := 9) hC hO rfl inX4 (by decide) q_fl_RX4_29 (nn_lt (Nat.le_of_ble_eq_true rfl)) rfl rfl dX4_difference_10 ?_
  refine g_iload_n hC hl dX4_difference_13 rfl rfl ?_
  refine g_lald hC hO (nn_lt (Nat.le_of_ble_eq_true rfl)) rfl (vp_in_nI (by omega) (by omega)) dX4_difference_14 ?_
  refine W.lcmp hC.1 hC.2.1 dX4_difference_15 ?_
  refine lv_if_eq (tgt := 40) hC.1 hC.2.1 dX4_difference_16 (by decide) (fun c_5 => ?_) (fun c_5 => ?_)
  · skip
    rw [lg_cmp_eq] at c_5
    rw [ck] at c_5
    obtain ⟨j, hj, h3, hl⟩ : ∃ j, j < 2 ^ 31 ∧ mdF σ k ln ex we i p2 = mdW σ k ln ex we j p2 ∧ LL ls 6 [some (.ref (kad κ 6)), some (.int (nI k)), some (.int (nI i)), some (.int p2), some (.int (nI j)), none] := ⟨i, hi, by rw [mdF, if_pos c_5], hl⟩
    refine g_iload hC hl dX4_difference_40 rfl ?_
    refine g_aload_n hC hl dX4_difference_42 rfl rfl ?_
    refine g_get (ci := 4) (k := 17) hC hO rfl inX4 (by decide) q_fl_RX4_54 (nn_lt (Nat.le_of_ble_eq_true rfl)) rfl rfl dX4_difference_43 ?_
    refine g_iload_n hC hl dX4_difference_46 rfl rfl ?_
    refine g_iald hC hO (nn_lt (Nat.le_of_ble_eq_true rfl)) rfl (vp_in_nI (by omega) (by omega)) dX4_difference_47 ?_
    refine lv_icmp_ge (tgt := 70) hC.1 hC.2.1 dX4_difference_48 (by decide) (fun c_6 => ?_) (fun c_6 => ?_)
    · skip
      rw [ck, hw0, nI_leI (by omega) (by omega)] at c_6
      have hjw := c_6
      have h6 : mdF σ k ln ex we i p2 = mdT σ k ln ex (j - we) p2 := by rw [h3, mdW, if_neg (by omega)]
      refine g_iload hC hl dX4_difference_70 rfl ?_
      refine g_aload_n hC hl dX4_difference_72 rfl rfl ?_
      refine g_get (ci := 4) (k := 17) hC hO rfl inX4 (by decide) q_fl_RX4_54 (nn_lt (Nat.le_of_ble_eq_true rfl)) rfl rfl dX4_difference_73 ?_
      refine g_iload_n hC hl dX4_difference_76 rfl rfl ?_
      refine g_iald hC hO (nn_lt (Nat.le_of_ble_eq_true rfl)) rfl (vp_in_nI (by omega) (by omega)) dX4_difference_77 ?_
      refine lv_isub hC.1 hC.2.1 dX4_difference_78 ?_
      rw [ck, hw0, pk_sub (show we ≤ j by omega)]
      refine g_istore hC hl dX4_difference_79 (Nat.le_of_ble_eq_true rfl) rfl (fun ls hl => ?_)
      have hl : LL ls 6 [some _, some _, some _, some _, some _, none] := hl
      refine lv_iconst (v := 0) hC.1 hC.2.1 dX4_difference_81 (by decide) ?_
      refine g_istore hC hl dX4_difference_82 (Nat.le_of_ble_eq_true rfl) rfl (fun ls hl => ?_)
      have hl : LL ls 6 [some _, some _, some _, some _, some _, some _] := hl
      exact loop84 (j - we) (by omega) h6 (ln + 1) 0 (j - we) (by omega) (by omega) rfl _ _ _ _ hO ls hl
    · skip
      rw [ck, hw0, nI_leI (by omega) (by omega)] at c_6
      have h9 : mdF σ k ln ex we i p2 = pickF p2 1 (sJ σ 22 (6 * k + j)) := by rw [h3, mdW, if_pos (by omega)]
      refine g_aload_n hC hl dX4_difference_51 rfl rfl ?_
      refine g_iload_n hC hl dX4_difference_52 rfl rfl ?_
      refine lv_iconst (v := 1) hC.1 hC.2.1 dX4_difference_53 (by decide) ?_
      refine g_aload_n hC hl dX4_difference_54 rfl rfl ?_
      refine g_get (ci := 4) (k := 18) hC hO rfl inX4 (by decide) q_fl_RX4_57 (nn_lt (Nat.le_of_ble_eq_true rfl)) rfl rfl dX4_difference_55 ?_
      refine lv_bipush (v := 6) hC.1 hC.2.1 dX4_difference_58 (by decide) ?_
      refine g_iload_n hC hl dX4_difference_60 rfl rfl ?_
      refine lv_imul hC.1 hC.2.1 dX4_difference_61 ?_
      refine g_iload hC hl dX4_difference_62 rfl ?_
      refine lv_iadd hC.1 hC.2.1 dX4_difference_64 ?_
      rw [ix6]
      refine g_lald hC hO (nn_lt (Nat.le_of_ble_eq_true rfl)) rfl (vp_in_nI (by omega) (by omega)) dX4_difference_65 ?_
      refine g_cVi3 hC hO hl (ci := 4) rfl (nn_lt (Nat.le_of_ble_eq_true rfl)) rfl (c_X4_pick l κ _ _ _ _) mi_X4_pick q_ml_RX4_130 rfl rfl ⟨Nat.le_of_ble_eq_true rfl, Nat.le_of_ble_eq_true rfl⟩ (Nat.le_of_ble_eq_true rfl) ⟨Nat.zero_le _, Nat.zero_le _⟩ dX4_difference_66 (fun r σ1 F th H locs hr hO => ?_)
      obtain ⟨rfl, rfl⟩ := hr
      exact g_iret hC hO dX4_difference_69 (⟨rfl, by rw [h9, nI_clamp (by omega)]⟩)
  · skip
    rw [lg_cmp_eq] at c_5
    rw [ck] at c_5
    have hrs := c_5
    refine g_iload hC hl dX4_difference_19 rfl ?_
    refine lv_if_ne (tgt := 37) hC.1 hC.2.1 dX4_difference_21 (by decide) (fun c_7 => ?_) (fun c_7 => ?_)
    · skip
      rw [nI_eq0 hi] at c_7
      have hi0 := c_7
      refine g_iinc (v := nI (i - 1)) hC hl dX4_difference_37 rfl (nI_m1 (by omega)) (Nat.le_of_ble_eq_true rfl) rfl (fun ls hl => ?_)
      have hl : LL ls 6 [some _, some _, some _, some _, some _, none] := hl
      obtain ⟨j, hj, h3, hl⟩ : ∃ j, j < 2 ^ 31 ∧ mdF σ k ln ex we i p2 = mdW σ k ln ex we j p2 ∧ LL ls 6 [some (.ref (kad κ 6)), some (.int (nI k)), some (.int (nI i)), some (.int p2), some (.int (nI j)), none] := ⟨i - 1, by omega, by rw [mdF, if_neg hrs, if_neg hi0], hl⟩
      refine g_iload hC hl dX4_difference_40 rfl ?_
      refine g_aload_n hC hl dX4_difference_42 rfl rfl ?_
      refine g_get (ci := 4) (k := 17) hC hO rfl inX4 (by decide) q_fl_RX4_54 (nn_lt (Nat.le_of_ble_eq_true rfl)) rfl rfl dX4_difference_43 ?_
      refine g_iload_n hC hl dX4_difference_46 rfl rfl ?_
      refine g_iald hC hO (nn_lt (Nat.le_of_ble_eq_true rfl)) rfl (vp_in_nI (by omega) (by omega)) dX4_difference_47 ?_
      refine lv_icmp_ge (tgt := 70) hC.1 hC.2.1 dX4_difference_48 (by decide) (fun c_8 => ?_) (fun c_8 => ?_)
      · skip
        rw [ck, hw0, nI_leI (by omega) (by omega)] at c_8
        have hjw := c_8
        have h6 : mdF σ k ln ex we i p2 = mdT σ k ln ex (j - we) p2 := by rw [h3, mdW, if_neg (by omega)]
        refine g_iload hC hl dX4_difference_70 rfl ?_
        refine g_aload_n hC hl dX4_difference_72 rfl rfl ?_
        refine g_get (ci := 4) (k := 17) hC hO rfl inX4 (by decide) q_fl_RX4_54 (nn_lt (Nat.le_of_ble_eq_true rfl)) rfl rfl dX4_difference_73 ?_
        refine g_iload_n hC hl dX4_difference_76 rfl rfl ?_
        refine g_iald hC hO (nn_lt (Nat.le_of_ble_eq_true rfl)) rfl (vp_in_nI (by omega) (by omega)) dX4_difference_77 ?_
        refine lv_isub hC.1 hC.2.1 dX4_difference_78 ?_
        rw [ck, hw0, pk_sub (show we ≤ j by omega)]
        refine g_istore hC hl dX4_difference_79 (Nat.le_of_ble_eq_true rfl) rfl (fun ls hl => ?_)
        have hl : LL ls 6 [some _, some _, some _, some _, some _, none] := hl
        refine lv_iconst (v := 0) hC.1 hC.2.1 dX4_difference_81 (by decide) ?_
        refine g_istore hC hl dX4_difference_82 (Nat.le_of_ble_eq_true rfl) rfl (fun ls hl => ?_)
        have hl : LL ls 6 [some _, some _, some _, some _, some _, some _] := hl
        exact loop84 (j - we) (by omega) h6 (ln + 1) 0 (j - we) (by omega) (by omega) rfl _ _ _ _ hO ls hl
      · skip
        rw [ck, hw0, nI_leI (by omega) (by omega)] at c_8
        have h9 : mdF σ k ln ex we i p2 = pickF p2 1 (sJ σ 22 (6 * k + j)) := by rw [h3, mdW, if_pos (by omega)]
        refine g_aload_n hC hl dX4_difference_51 rfl rfl ?_
        refine g_iload_n hC hl dX4_difference_52 rfl rfl ?_
        refine lv_iconst (v := 1) hC.1 hC.2.1 dX4_difference_53 (by decide) ?_
        refine g_aload_n hC hl dX4_difference_54 rfl rfl ?_
        refine g_get (ci := 4) (k := 18) hC hO rfl inX4 (by decide) q_fl_RX4_57 (nn_lt (Nat.le_of_ble_eq_true rfl)) rfl rfl dX4_difference_55 ?_
        refine lv_bipush (v := 6) hC.1 hC.2.1 dX4_difference_58 (by decide) ?_
        refine g_iload_n hC hl dX4_difference_60 rfl rfl ?_
        refine lv_imul hC.1 hC.2.1 dX4_difference_61 ?_
        refine g_iload hC hl dX4_difference_62 rfl ?_
        refine lv_iadd hC.1 hC.2.1 dX4_difference_64 ?_
        rw [ix6]
        refine g_lald hC hO (nn_lt (Nat.le_of_ble_eq_true rfl)) rfl (vp_in_nI (by omega) (by omega)) dX4_difference_65 ?_
        refine g_cVi3 hC hO hl (ci := 4) rfl (nn_lt (Nat.le_of_ble_eq_true rfl)) rfl (c_X4_pick l κ _ _ _ _) mi_X4_pick q_ml_RX4_130 rfl rfl ⟨Nat.le_of_ble_eq_true rfl, Nat.le_of_ble_eq_true rfl⟩ (Nat.le_of_ble_eq_true rfl) ⟨Nat.zero_le _, Nat.zero_le _⟩ dX4_difference_66 (fun r σ1 F th H locs hr hO => ?_)
        obtain ⟨rfl, rfl⟩ := hr
        exact g_iret hC hO dX4_difference_69 (⟨rfl, by rw [h9, nI_clamp (by omega)]⟩)
    · skip
      rw [nI_eq0 hi] at c_7
      have h9 : mdF σ k ln ex we i p2 = pickF p2 0 (sJ σ 15 k) := by rw [mdF, if_neg hrs, if_pos c_7]
      refine g_aload_n hC hl dX4_difference_24 rfl rfl ?_
      refine g_iload_n hC hl dX4_difference_25 rfl rfl ?_
      refine lv_iconst (v := 0) hC.1 hC.2.1 dX4_difference_26 (by decide) ?_
      refine g_aload_n hC hl dX4_difference_27 rfl rfl ?_
      refine g_get (ci := 4) (k := 11) hC hO rfl inX4 (by decide) q_fl_RX4_36 (nn_lt (Nat.le_of_ble_eq_true rfl)) rfl rfl dX4_difference_28 ?_
      refine g_iload_n hC hl dX4_difference_31 rfl rfl ?_
      refine g_lald hC hO (nn_lt (Nat.le_of_ble_eq_true rfl)) rfl (vp_in_nI (by omega) (by omega)) dX4_difference_32 ?_
      refine g_cVi3 hC hO hl (ci := 4) rfl (nn_lt (Nat.le_of_ble_eq_true rfl)) rfl (c_X4_pick l κ _ _ _ _) mi_X4_pick q_ml_RX4_130 rfl rfl ⟨Nat.le_of_ble_eq_true rfl, Nat.le_of_ble_eq_true rfl⟩ (Nat.le_of_ble_eq_true rfl) ⟨Nat.zero_le _, Nat.zero_le _⟩ dX4_difference_33 (fun r σ1 F th H locs hr hO => ?_)
      obtain ⟨rfl, rfl⟩ := hr
      exact g_iret hC hO dX4_difference_36 (⟨rfl, by rw [h9, ck]⟩)
end
section
def lnS (σ : ST) (k : Nat) : Nat := (sI σ 16 k).toNatClampNeg
def exS (σ : ST) (k : Nat) : Nat := (sI σ 19 k).toNatClampNeg
def weS (σ : ST) (k : Nat) : Nat := (sI σ 21 k).toNatClampNeg
def ML (σ : ST) : Prop := ∀ k, k < σ.1 → sI σ 16 k = nI (lnS σ k) ∧ lnS σ k ≤ 12 ∧ sI σ 19 k = nI (exS σ k) ∧ exS σ k ≤ 12 ∧ sI σ 21 k = nI (weS σ k) ∧ weS σ k ≤ 6
theorem sealB_f1 {q : Int64} (h : q < 1) : sealB q = false := by
  unfold sealB; rw [decide_eq_false (Int64.not_le.mpr h)]; rfl
theorem sealB_f2 {q : Int64} (h : 1000000000 < q) : sealB q = false := by
  unfold sealB; rw [decide_eq_false (Int64.not_le.mpr h)]; simp
theorem sealB_t {q : Int64} (h : ¬ q < 1) (h2 : ¬ 1000000000 < q) : sealB q = true := by
  unfold sealB; rw [decide_eq_true (Int64.not_lt.mp h), decide_eq_true (Int64.not_lt.mp h2)]; rfl
theorem personB_f1 {w : Int32} (h : w < 0) : personB w = false := by
  unfold personB; rw [decide_eq_false (Int32.not_le.mpr h)]; rfl
theorem personB_f2 {w : Int32} (h : ¬ w ≤ 49) : personB w = false := by
  unfold personB; rw [decide_eq_false h]; simp
theorem personB_t {w : Int32} (h : ¬ w < 0) (h2 : w ≤ 49) : personB w = true := by
  unfold personB; rw [decide_eq_true (Int32.not_lt.mp h), decide_eq_true h2]; rfl
theorem orP_f1 {c : Int32} (h : c < -1) : orPerson c = false := by
  have h1 : ¬ c = -1 := fun e => by rw [e] at h; exact absurd h (by decide)
  have h2 : c < 0 := by
    rw [Int32.lt_iff_toInt_lt] at h ⊢
    have e1 : (-1 : Int32).toInt = -1 := rfl
    have e0 : (0 : Int32).toInt = 0 := rfl
    omega
  unfold orPerson; rw [decide_eq_false h1, personB_f1 h2]; rfl
theorem orP_f2 {c : Int32} (h : ¬ c ≤ 49) : orPerson c = false := by
  have h1 : ¬ c = -1 := fun e => by rw [e] at h; exact h (by decide)
  unfold orPerson; rw [decide_eq_false h1, personB_f2 h]; rfl
theorem orP_t {c : Int32} (h : ¬ c < -1) (h2 : c ≤ 49) : orPerson c = true := by
  unfold orPerson
  by_cases h1 : c = -1
  · rw [decide_eq_true h1]; rfl
  · rw [decide_eq_false h1, personB_t ?_ h2]
    · rfl
    · intro h3
      rw [Int32.lt_iff_toInt_lt] at h h3
      have e1 : (-1 : Int32).toInt = -1 := rfl
      have e0 : (0 : Int32).toInt = 0 := rfl
      have h4 : ¬ c.toInt = (-1 : Int32).toInt := fun e => h1 (Int32.toInt_inj.mp e)
      omega
def clrP (σ : ST) (k i : Nat) : Nat → Int32 := fun x => if 12 * k ≤ x ∧ x < 12 * k + i then 0 else sI σ 18 x
theorem clrP_0 (σ : ST) (k : Nat) : clrP σ k 0 = sI σ 18 := by
  funext x; unfold clrP; rw [if_neg (by omega)]
theorem clrP_s (σ : ST) (k i : Nat) : clrP σ k (i + 1) = upd (clrP σ k i) (12 * k + i) 0 := by
  funext x
  unfold clrP upd
  by_cases hx : x = 12 * k + i
  · rw [if_pos (by omega), if_pos hx]
  · rw [if_neg hx]
    show (if 12 * k ≤ x ∧ x < 12 * k + (i + 1) then 0 else sI σ 18 x) = (if 12 * k ≤ x ∧ x < 12 * k + i then 0 else sI σ 18 x)
    by_cases hc : 12 * k ≤ x ∧ x < 12 * k + i
    · rw [if_pos hc, if_pos (by omega)]
    · rw [if_neg hc, if_neg (by omega)]
def unsB (σ : ST) (k : Nat) (q : Int64) : ST := upI (upJ (upI (upI σ 11 k 0) 12 k 1) 15 k q) 19 k 0
def mBag (σ : ST) (c : Nat) (w : Int32) : Int32 × ST := if w < 0 then (-12, σ) else if ¬ w ≤ 3 then (-12, σ) else if c = 60 then (-14, σ) else (nI (1001 + c), upI (upI σ 10 c w) 6 5 (nI (c + 1)))
def mInside (σ : ST) (t : Int32) : Int32 := if thingB σ t = true then sI σ 7 t.toNatClampNeg else -11
def mPlace (σ : ST) (t : Int32) : Int32 := if thingB σ t = true then sI σ 9 t.toNatClampNeg else -11
def mDocument (σ : ST) (b i : Int32) : Int32 := match recOf σ b with
  | none => -11
  | some k => if i < 0 then 0 else if nI (lnS σ k) ≤ i then 0 else sI σ 17 (12 * k + i.toNatClampNeg)
def mMove (σ : ST) (b w : Int32) : Int32 × ST := match recOf σ b with
  | none => (-11, σ)
  | some k => if w < 0 then (-12, σ) else if ¬ w ≤ 9 then (-12, σ) else if sI σ 11 k = 0 then (-13, σ) else if ¬ sI σ 7 (1001 + k) = 0 then (-13, σ) else (nI (brN σ (1001 + k) 1061), mBring σ (1001 + k) w)
def mDiffer (σ : ST) (b i what : Int32) : Int32 := match recOf σ b with
  | none => -11
  | some k => if what < 0 then -12 else if ¬ what ≤ 1 then -12 else if sI σ 12 k = 0 then -13 else if i < 0 then -1 else mdF σ k (lnS σ k) (exS σ k) (weS σ k) i.toNatClampNeg what
def mFoundF (σ : ST) (b t : Int32) : Int32 × ST := match recOf σ b with
  | none => (-11, σ)
  | some k => if thingB σ t = false then (-11, σ) else mFound σ k (lnS σ k) (exS σ k) b t
def mWeightF (σ : ST) (b : Int32) (q : Int64) : Int32 × ST := match recOf σ b with
  | none => (-11, σ)
  | some k => mWeight σ k (weS σ k) q
theorem sI_mPut7 (σ : ST) (b : Int32) (t x : Nat) : sI (mPut σ b t) 7 x = if x = t then b else sI σ 7 x := by
  have h : sI (mPut σ b t) 7 x = sI (upI σ 7 t b) 7 x := rfl
  rw [h, sI_upI]
  simp
theorem MB.put {σ : ST} (h : MB σ) {tn k : Nat} (hk : k < σ.1) (hlt : mkF σ (nI tn) < sI σ 10 k) : MB (mPut σ (nI (1001 + k)) tn) := by
  have h60 := h.2.1
  refine ⟨h.1, h.2.1, fun t ht => ?_, h.2.2.2.1, fun i j hi hj e => ?_⟩
  · rw [sI_mPut7]
    split
    · exact Or.inr ⟨k, hk, rfl⟩
    · exact h.2.2.1 t ht
  · rw [sI_mPut7] at e
    split at e
    · have h1 : 1001 + k = 1001 + j := (nI_eq (by omega) (by have : (mPut σ (nI (1001 + k)) tn).1 = σ.1 := rfl; omega)).mp e
      have h2 : k = j := by omega
      subst h2
      have h3 : mkF σ (nI tn) = sI σ 10 i := by
        unfold mkF
        have hi2 : i < σ.1 := hi
        rw [← ‹1001 + i = tn›, recOf_nI (by omega), if_pos hi2]
      rw [h3] at hlt
      exact hlt
    · exact h.2.2.2.2 i j hi hj e
theorem lpF_nn {σ : ST} {k : Nat} {t : Int32} {i : Nat} (h : ¬ lpF σ k t i < 0) : ∃ j, j < i ∧ lpF σ k t i = nI j := by
  induction i with
  | zero => exact absurd (show lpF σ k t 0 < 0 by show (-1 : Int32) < 0; decide) h
  | succ i ih =>
    rw [lpF] at h ⊢
    split
    · exact ⟨i, by omega, rfl⟩
    · rw [if_neg (by assumption)] at h
      obtain ⟨j, hj, e⟩ := ih h
      exact ⟨j, by omega, e⟩
end
section
set_option maxHeartbeats 4000000 in
set_option maxRecDepth 100000 in
/-- BagRowsModel.into -/
theorem c_X4_into (l : Launch) (κ : KK) (σ : ST) (hM : MB σ) (p0 p1 : Int32) : Met l yX4_into (wA yX4_into cX4_into 3 (some .int)) ({ frames := 2, cells := 0, slots := 0, locals := 44 }) (va_Pc [.ref (kad κ 6), .int p0, .int p1] (WX κ σ)) (va_Qi (fun r σ' => (r, σ') = mInto σ p0 p1) (WX κ) (FA κ)) 0 0 (FA κ) := by
  refine g_met 0 (by decide) rfl (Nat.le_of_ble_eq_true rfl) ?_
  intro p e s m args below meth c hC F th hO ls hl
  have hl : LL ls 3 [some _, some _, some _] := hl
  have h60 := hM.2.1
  refine g_aload_n hC hl dX4_into_0 rfl rfl ?_
  refine lv_iconst (v := 0) hC.1 hC.2.1 dX4_into_1 (by decide) ?_
  refine g_putT hC hO q_fl_RX4_69 dX4_into_2 (fun H locs hO => ?_)
  refine g_aload_n hC hl dX4_into_5 rfl rfl ?_
  refine g_iload_n hC hl dX4_into_6 rfl rfl ?_
  refine g_cVi1 hC hO hl (ci := 4) rfl (nn_lt (Nat.le_of_ble_eq_true rfl)) rfl (c_X4_isBag l κ _ (by first | exact hM | exact hM.upA 9 _ (by decide) (by decide) (by decide)) _) mi_X4_isBag q_ml_RX4_76 rfl rfl ⟨Nat.le_of_ble_eq_true rfl, Nat.le_of_ble_eq_true rfl⟩ (Nat.le_of_ble_eq_true rfl) ⟨Nat.zero_le _, Nat.zero_le _⟩ dX4_into_7 (fun r σ1 F th H locs hr hO => ?_)
  obtain ⟨rfl, rfl⟩ := hr
  refine lv_if_eq (tgt := 21) hC.1 hC.2.1 dX4_into_10 (by decide) (fun c_1 => ?_) (fun c_1 => ?_)
  · skip
    have c_1 := bI_z c_1
    have hq := recOf_no c_1
    refine lv_bipush (v := (-11)) hC.1 hC.2.1 dX4_into_21 (by decide) ?_
    exact g_iret hC hO dX4_into_23 (by unfold mInto; simp [hq])
  · skip
    have c_1 := bI_nz c_1
    obtain ⟨k, hq, hk, rfl⟩ := recOf_isSome c_1
    have hbt := thing_bag hq
    have ck : (nI k).toNatClampNeg = k := nI_clamp (by omega)
    have cb : (nI (1001 + k)).toNatClampNeg = 1001 + k := nI_clamp (by omega)
    refine g_aload_n hC hl dX4_into_13 rfl rfl ?_
    refine g_iload_n hC hl dX4_into_14 rfl rfl ?_
    refine g_cVi1 hC hO hl (ci := 4) rfl (nn_lt (Nat.le_of_ble_eq_true rfl)) rfl (c_X4_isThing l κ _ (by first | exact hM | exact hM.upA 9 _ (by decide) (by decide) (by decide)) _) mi_X4_isThing q_ml_RX4_95 rfl rfl ⟨Nat.le_of_ble_eq_true rfl, Nat.le_of_ble_eq_true rfl⟩ (Nat.le_of_ble_eq_true rfl) ⟨Nat.zero_le _, Nat.zero_le _⟩ dX4_into_15 (fun r σ1 F th H locs hr hO => ?_)
    obtain ⟨rfl, rfl⟩ := hr
    refine lv_if_ne (tgt := 24) hC.1 hC.2.1 dX4_into_18 (by decide) (fun c_2 => ?_) (fun c_2 => ?_)
    · skip
      have c_2 := bI_nz c_2
      obtain ⟨t, ht1, ht2, rfl⟩ := thing_ex c_2 h60
      have hth : thingB σ (nI t) = true := c_2
      have hcl : (nI t).toNatClampNeg = t := nI_clamp (by omega)
      refine g_aload_n hC hl dX4_into_24 rfl rfl ?_
      refine g_get (ci := 4) (k := 7) hC hO rfl inX4 (by decide) q_fl_RX4_22 (nn_lt (Nat.le_of_ble_eq_true rfl)) rfl rfl dX4_into_25 ?_
      refine g_iload_n hC hl dX4_into_28 rfl rfl ?_
      refine lv_sipush (v := 1001) hC.1 hC.2.1 dX4_into_29 (by decide) ?_
      refine lv_isub hC.1 hC.2.1 dX4_into_32 ?_
      rw [sub1001 (by omega)]
      refine g_zald hC hO (nn_lt (Nat.le_of_ble_eq_true rfl)) rfl (vp_in_nI (by omega) (by omega)) dX4_into_33 ?_
      refine lv_if_ne (tgt := 87) hC.1 hC.2.1 dX4_into_34 (by decide) (fun c_3 => ?_) (fun c_3 => ?_)
      · skip
        rw [ck] at c_3
        refine lv_bipush (v := (-13)) hC.1 hC.2.1 dX4_into_87 (by decide) ?_
        exact g_iret hC hO dX4_into_89 (by unfold mInto; simp [hq, hth, hcl, c_3])
      · skip
        rw [ck] at c_3
        refine g_aload_n hC hl dX4_into_37 rfl rfl ?_
        refine g_iload_n hC hl dX4_into_38 rfl rfl ?_
        refine g_cVi1 hC hO hl (ci := 4) rfl (nn_lt (Nat.le_of_ble_eq_true rfl)) rfl (c_X4_isShutIn l κ _ (by first | exact hM | exact hM.upA 9 _ (by decide) (by decide) (by decide)) (1001 + k) (by omega)) mi_X4_isShutIn q_ml_RX4_98 rfl rfl ⟨Nat.le_of_ble_eq_true rfl, Nat.le_of_ble_eq_true rfl⟩ (Nat.le_of_ble_eq_true rfl) ⟨Nat.zero_le _, Nat.zero_le _⟩ dX4_into_39 (fun r σ1 F th H locs hr hO => ?_)
        obtain ⟨rfl, rfl⟩ := hr
        refine lv_if_ne (tgt := 87) hC.1 hC.2.1 dX4_into_42 (by decide) (fun c_4 => ?_) (fun c_4 => ?_)
        · skip
          have c_4 := bI_nz c_4
          refine lv_bipush (v := (-13)) hC.1 hC.2.1 dX4_into_87 (by decide) ?_
          exact g_iret hC hO dX4_into_89 (by unfold mInto; simp [hq, hth, hcl, c_3, c_4])
        · skip
          have c_4 := bI_z c_4
          refine g_aload_n hC hl dX4_into_45 rfl rfl ?_
          refine g_get (ci := 4) (k := 1) hC hO rfl inX4 (by decide) q_fl_RX4_7 (nn_lt (Nat.le_of_ble_eq_true rfl)) rfl rfl dX4_into_46 ?_
          refine g_iload_n hC hl dX4_into_49 rfl rfl ?_
          refine g_iald hC hO (nn_lt (Nat.le_of_ble_eq_true rfl)) rfl (vp_in_nI (by omega) (by omega)) dX4_into_50 ?_
          refine lv_if_ne (tgt := 87) hC.1 hC.2.1 dX4_into_51 (by decide) (fun c_5 => ?_) (fun c_5 => ?_)
          · skip
            rw [hcl] at c_5
            refine lv_bipush (v := (-13)) hC.1 hC.2.1 dX4_into_87 (by decide) ?_
            exact g_iret hC hO dX4_into_89 (by unfold mInto; simp [hq, hth, hcl, c_3, c_4, c_5])
          · skip
            rw [hcl] at c_5
            refine g_iload_n hC hl dX4_into_54 rfl rfl ?_
            refine g_iload_n hC hl dX4_into_55 rfl rfl ?_
            refine lv_icmp_eq (tgt := 87) hC.1 hC.2.1 dX4_into_56 (by decide) (fun c_6 => ?_) (fun c_6 => ?_)
            · skip
              have h56 := c_6
              refine lv_bipush (v := (-13)) hC.1 hC.2.1 dX4_into_87 (by decide) ?_
              exact g_iret hC hO dX4_into_89 (by unfold mInto; simp [hq, hth, hcl, c_3, c_4, c_5, h56, hbt])
            · skip
              refine g_aload_n hC hl dX4_into_59 rfl rfl ?_
              refine g_iload_n hC hl dX4_into_60 rfl rfl ?_
              refine g_cVi1 hC hO hl (ci := 4) rfl (nn_lt (Nat.le_of_ble_eq_true rfl)) rfl (c_X4_kindOf l κ _ (by first | exact hM | exact hM.upA 9 _ (by decide) (by decide) (by decide)) _ (by exact hth)) mi_X4_kindOf q_ml_RX4_101 rfl rfl ⟨Nat.le_of_ble_eq_true rfl, Nat.le_of_ble_eq_true rfl⟩ (Nat.le_of_ble_eq_true rfl) ⟨Nat.zero_le _, Nat.zero_le _⟩ dX4_into_61 (fun r σ1 F th H locs hr hO => ?_)
              obtain ⟨rfl, rfl⟩ := hr
              refine g_aload_n hC hl dX4_into_64 rfl rfl ?_
              refine g_iload_n hC hl dX4_into_65 rfl rfl ?_
              refine g_cVi1 hC hO hl (ci := 4) rfl (nn_lt (Nat.le_of_ble_eq_true rfl)) rfl (c_X4_kindOf l κ _ (by first | exact hM | exact hM.upA 9 _ (by decide) (by decide) (by decide)) _ (by exact hbt)) mi_X4_kindOf q_ml_RX4_101 rfl rfl ⟨Nat.le_of_ble_eq_true rfl, Nat.le_of_ble_eq_true rfl⟩ (Nat.le_of_ble_eq_true rfl) ⟨Nat.zero_le _, Nat.zero_le _⟩ dX4_into_66 (fun r σ1 F th H locs hr hO => ?_)
              obtain ⟨rfl, rfl⟩ := hr
              refine lv_icmp_ge (tgt := 87) hC.1 hC.2.1 dX4_into_69 (by decide) (fun c_7 => ?_) (fun c_7 => ?_)
              · skip
                refine lv_bipush (v := (-13)) hC.1 hC.2.1 dX4_into_87 (by decide) ?_
                exact g_iret hC hO dX4_into_89 (by unfold mInto; simp [hq, hth, hcl, c_3, c_4, c_5, c_6, c_7])
              · skip
                refine g_aload_n hC hl dX4_into_72 rfl rfl ?_
                refine g_get (ci := 4) (k := 3) hC hO rfl inX4 (by decide) q_fl_RX4_16 (nn_lt (Nat.le_of_ble_eq_true rfl)) rfl rfl dX4_into_73 ?_
                refine g_iload_n hC hl dX4_into_76 rfl rfl ?_
                refine g_iald hC hO (nn_lt (Nat.le_of_ble_eq_true rfl)) rfl (vp_in_nI (by omega) (by omega)) dX4_into_77 ?_
                refine g_aload_n hC hl dX4_into_78 rfl rfl ?_
                refine g_get (ci := 4) (k := 3) hC hO rfl inX4 (by decide) q_fl_RX4_16 (nn_lt (Nat.le_of_ble_eq_true rfl)) rfl rfl dX4_into_79 ?_
                refine g_iload_n hC hl dX4_into_82 rfl rfl ?_
                refine g_iald hC hO (nn_lt (Nat.le_of_ble_eq_true rfl)) rfl (vp_in_nI (by omega) (by omega)) dX4_into_83 ?_
                refine lv_icmp_eq (tgt := 90) hC.1 hC.2.1 dX4_into_84 (by decide) (fun c_8 => ?_) (fun c_8 => ?_)
                · skip
                  rw [hcl, cb] at c_8
                  refine g_aload_n hC hl dX4_into_90 rfl rfl ?_
                  refine g_iload_n hC hl dX4_into_91 rfl rfl ?_
                  refine g_cVi1 hC hO hl (ci := 4) rfl (nn_lt (Nat.le_of_ble_eq_true rfl)) rfl (c_X4_count l κ _ _) mi_X4_count q_ml_RX4_104 rfl rfl ⟨Nat.le_of_ble_eq_true rfl, Nat.le_of_ble_eq_true rfl⟩ (Nat.le_of_ble_eq_true rfl) ⟨Nat.zero_le _, Nat.zero_le _⟩ dX4_into_92 (fun r σ1 F th H locs hr hO => ?_)
                  obtain ⟨rfl, rfl⟩ := hr
                  refine lv_bipush (v := 12) hC.1 hC.2.1 dX4_into_95 (by decide) ?_
                  refine lv_icmp_ne (tgt := 103) hC.1 hC.2.1 dX4_into_97 (by decide) (fun c_9 => ?_) (fun c_9 => ?_)
                  · skip
                    have hc9 := cntN_le σ (nI (1001 + k)) 1061
                    rw [show (12 : Int32) = nI 12 from rfl, nI_eq (by omega) (by omega)] at c_9
                    refine g_aload_n hC hl dX4_into_103 rfl rfl ?_
                    refine g_iload_n hC hl dX4_into_104 rfl rfl ?_
                    refine g_iload_n hC hl dX4_into_105 rfl rfl ?_
                    refine g_cVv2 hC hO hl (ci := 4) rfl (nn_lt (Nat.le_of_ble_eq_true rfl)) rfl (c_X4_put l κ _ t (by omega) _) mi_X4_put q_ml_RX4_107 rfl rfl ⟨Nat.le_of_ble_eq_true rfl, Nat.le_of_ble_eq_true rfl⟩ (Nat.le_of_ble_eq_true rfl) ⟨Nat.zero_le _, Nat.zero_le _⟩ dX4_into_106 (fun σ1 F th H locs hr hO => ?_)
                    subst hr
                    refine lv_iconst (v := 1) hC.1 hC.2.1 dX4_into_109 (by decide) ?_
                    exact g_iret hC hO dX4_into_110 (by unfold mInto; simp [hq, hth, hcl, c_3, c_4, c_5, c_6, c_7, c_8, c_9])
                  · skip
                    have hc9 := cntN_le σ (nI (1001 + k)) 1061
                    rw [show (12 : Int32) = nI 12 from rfl, nI_eq (by omega) (by omega)] at c_9
                    refine lv_bipush (v := (-14)) hC.1 hC.2.1 dX4_into_100 (by decide) ?_
                    exact g_iret hC hO dX4_into_102 (by unfold mInto; simp [hq, hth, hcl, c_3, c_4, c_5, c_6, c_7, c_8, c_9])
                · skip
                  rw [hcl, cb] at c_8
                  refine lv_bipush (v := (-13)) hC.1 hC.2.1 dX4_into_87 (by decide) ?_
                  exact g_iret hC hO dX4_into_89 (by unfold mInto; simp [hq, hth, hcl, c_3, c_4, c_5, c_6, c_7, c_8])
    · skip
      have c_2 := bI_z c_2
      have hth := c_2
      refine lv_bipush (v := (-11)) hC.1 hC.2.1 dX4_into_21 (by decide) ?_
      exact g_iret hC hO dX4_into_23 (by unfold mInto; simp [hq, hth])

set_option maxHeartbeats 4000000 in
set_option maxRecDepth 100000 in
/-- BagRowsModel.take -/
theorem c_X4_take (l : Launch) (κ : KK) (σ : ST) (hM : MB σ) (p0 : Int32) : Met l yX4_take (wA yX4_take cX4_take 3 (some .int)) ({ frames := 2, cells := 0, slots := 0, locals := 44 }) (va_Pc [.ref (kad κ 6), .int p0] (WX κ σ)) (va_Qi (fun r σ' => (r, σ') = mTake σ p0) (WX κ) (FA κ)) 0 0 (FA κ) := by
  refine g_met 1 (by decide) rfl (Nat.le_of_ble_eq_true rfl) ?_
  intro p e s m args below meth c hC F th hO ls hl
  have hl : LL ls 3 [some _, some _, none] := hl
  have h60 := hM.2.1
  refine g_aload_n hC hl dX4_take_0 rfl rfl ?_
  refine lv_iconst (v := 0) hC.1 hC.2.1 dX4_take_1 (by decide) ?_
  refine g_putT hC hO q_fl_RX4_69 dX4_take_2 (fun H locs hO => ?_)
  refine g_aload_n hC hl dX4_take_5 rfl rfl ?_
  refine g_iload_n hC hl dX4_take_6 rfl rfl ?_
  refine g_cVi1 hC hO hl (ci := 4) rfl (nn_lt (Nat.le_of_ble_eq_true rfl)) rfl (c_X4_isThing l κ _ (by first | exact hM | exact hM.upA 9 _ (by decide) (by decide) (by decide)) _) mi_X4_isThing q_ml_RX4_95 rfl rfl ⟨Nat.le_of_ble_eq_true rfl, Nat.le_of_ble_eq_true rfl⟩ (Nat.le_of_ble_eq_true rfl) ⟨Nat.zero_le _, Nat.zero_le _⟩ dX4_take_7 (fun r σ1 F th H locs hr hO => ?_)
  obtain ⟨rfl, rfl⟩ := hr
  refine lv_if_ne (tgt := 16) hC.1 hC.2.1 dX4_take_10 (by decide) (fun c_1 => ?_) (fun c_1 => ?_)
  · skip
    have c_1 := bI_nz c_1
    obtain ⟨t, ht1, ht2, rfl⟩ := thing_ex c_1 h60
    have hth : thingB σ (nI t) = true := c_1
    have hcl : (nI t).toNatClampNeg = t := nI_clamp (by omega)
    refine g_aload_n hC hl dX4_take_16 rfl rfl ?_
    refine g_get (ci := 4) (k := 1) hC hO rfl inX4 (by decide) q_fl_RX4_7 (nn_lt (Nat.le_of_ble_eq_true rfl)) rfl rfl dX4_take_17 ?_
    refine g_iload_n hC hl dX4_take_20 rfl rfl ?_
    refine g_iald hC hO (nn_lt (Nat.le_of_ble_eq_true rfl)) rfl (vp_in_nI (by omega) (by omega)) dX4_take_21 ?_
    refine lv_if_eq (tgt := 33) hC.1 hC.2.1 dX4_take_22 (by decide) (fun c_2 => ?_) (fun c_2 => ?_)
    · skip
      rw [hcl] at c_2
      refine lv_bipush (v := (-13)) hC.1 hC.2.1 dX4_take_33 (by decide) ?_
      exact g_iret hC hO dX4_take_35 (by unfold mTake; simp [hth, hcl, c_2])
    · skip
      rw [hcl] at c_2
      refine g_aload_n hC hl dX4_take_25 rfl rfl ?_
      refine g_iload_n hC hl dX4_take_26 rfl rfl ?_
      refine g_cVi1 hC hO hl (ci := 4) rfl (nn_lt (Nat.le_of_ble_eq_true rfl)) rfl (c_X4_isShutIn l κ _ (by first | exact hM | exact hM.upA 9 _ (by decide) (by decide) (by decide)) t (by omega)) mi_X4_isShutIn q_ml_RX4_98 rfl rfl ⟨Nat.le_of_ble_eq_true rfl, Nat.le_of_ble_eq_true rfl⟩ (Nat.le_of_ble_eq_true rfl) ⟨Nat.zero_le _, Nat.zero_le _⟩ dX4_take_27 (fun r σ1 F th H locs hr hO => ?_)
      obtain ⟨rfl, rfl⟩ := hr
      refine lv_if_eq (tgt := 36) hC.1 hC.2.1 dX4_take_30 (by decide) (fun c_3 => ?_) (fun c_3 => ?_)
      · skip
        have c_3 := bI_z c_3
        refine g_aload_n hC hl dX4_take_36 rfl rfl ?_
        refine g_get (ci := 4) (k := 1) hC hO rfl inX4 (by decide) q_fl_RX4_7 (nn_lt (Nat.le_of_ble_eq_true rfl)) rfl rfl dX4_take_37 ?_
        refine g_iload_n hC hl dX4_take_40 rfl rfl ?_
        refine g_iald hC hO (nn_lt (Nat.le_of_ble_eq_true rfl)) rfl (vp_in_nI (by omega) (by omega)) dX4_take_41 ?_
        refine g_istore_n hC hl dX4_take_42 rfl (Nat.le_of_ble_eq_true rfl) rfl (fun ls hl => ?_)
        have hl : LL ls 3 [some _, some _, some _] := hl
        refine g_aload_n hC hl dX4_take_43 rfl rfl ?_
        refine g_get (ci := 4) (k := 1) hC hO rfl inX4 (by decide) q_fl_RX4_7 (nn_lt (Nat.le_of_ble_eq_true rfl)) rfl rfl dX4_take_44 ?_
        refine g_iload_n hC hl dX4_take_47 rfl rfl ?_
        refine lv_iconst (v := 0) hC.1 hC.2.1 dX4_take_48 (by decide) ?_
        refine g_iast hC hO (nn_lt (Nat.le_of_ble_eq_true rfl)) (fun _ _ => rfl) (vp_in_nI (by omega) (by omega)) dX4_take_49 (fun H locs hO => ?_)
        rw [hcl] at hO
        refine g_iload_n hC hl dX4_take_50 rfl rfl ?_
        exact g_iret hC hO dX4_take_51 (by unfold mTake; simp [hth, hcl, c_2, c_3])
      · skip
        have c_3 := bI_nz c_3
        refine lv_bipush (v := (-13)) hC.1 hC.2.1 dX4_take_33 (by decide) ?_
        exact g_iret hC hO dX4_take_35 (by unfold mTake; simp [hth, hcl, c_2, c_3])
  · skip
    have c_1 := bI_z c_1
    have hth := c_1
    refine lv_bipush (v := (-11)) hC.1 hC.2.1 dX4_take_13 (by decide) ?_
    exact g_iret hC hO dX4_take_15 (by unfold mTake; simp [hth])

set_option maxHeartbeats 4000000 in
set_option maxRecDepth 100000 in
/-- BagRowsModel.open -/
theorem c_X4_open (l : Launch) (κ : KK) (σ : ST) (hM : MB σ) (n : Nat) (hn : sI σ 6 21 = nI n) (hn2 : n < 2000) (p0 : Int32) (p1 : Int64) (p2 p3 : Int32) : Met l yX4_open (wA yX4_open cX4_open 9 (some .int)) ({ frames := 2, cells := 0, slots := 0, locals := 44 }) (va_Pc [.ref (kad κ 6), .int p0, .long p1, .int p2, .int p3] (WX κ σ)) (va_Qi (fun r σ' => (r, σ') = mOpen σ p0 p1 p2 p3) (WX κ) (FA κ)) 0 0 (FA κ) := by
  refine g_met 3 (by decide) rfl (Nat.le_of_ble_eq_true rfl) ?_
  intro p e s m args below meth c hC F th hO ls hl
  have hl : LL ls 9 [some _, some _, some _, none, some _, some _, none, none, none] := hl
  have h60 := hM.2.1
  have loop183 : ∀ (k : Nat), k < 60 → (∀ (F : Nat → Nat → Int32) (th : Int32) (H : Heap) (locs : List Loc), OS κ s.heap (mUns σ k p1) F th H locs → ∀ ls : Array Slot, LL ls 9 [some (.ref (kad κ 6)), some (.int (nI (1001 + k))), some (.long p1), none, some (.int p2), some (.int p3), some (.int (nI k)), none, none] → W p l e ({ frames := 2, cells := 0, slots := 0, locals := 44 } : Room) s m args below meth c H locs 0 0 (MQ below (va_Qi (fun r σ' => (r, σ') = mOpen σ p0 p1 p2 p3) (WX κ) (FA κ)) args s 0 0 (FA κ)) (F0 m 210 ls [])) → ∀ (n2 i : Nat), 13 ≤ i + n2 → i ≤ 12 → ∀ (F : Nat → Nat → Int32) (th : Int32) (H : Heap) (locs : List Loc), OS κ s.heap (upA (unsB σ k p1) 18 (clrP σ k i)) F th H locs → ∀ ls : Array Slot, LL ls 9 [some (.ref (kad κ 6)), some (.int (nI (1001 + k))), some (.long p1), none, some (.int p2), some (.int p3), some (.int (nI k)), none, some (.int (nI i))] → W p l e ({ frames := 2, cells := 0, slots := 0, locals := 44 } : Room) s m args below meth c H locs 0 0 (MQ below (va_Qi (fun r σ' => (r, σ') = mOpen σ p0 p1 p2 p3) (WX κ) (FA κ)) args s 0 0 (FA κ)) (F0 m 183 ls []) := by
    intro k hk K n2
    have ck : (nI k).toNatClampNeg = k := nI_clamp (by omega)
    induction n2 with
    | zero => intro i h1 h2; exact absurd h1 (by omega)
    | succ n2 ih =>
      intro i h1 h2 F th H locs hO ls hl
      refine g_iload hC hl dX4_open_183 rfl ?_
      refine lv_bipush (v := 12) hC.1 hC.2.1 dX4_open_185 (by decide) ?_
      refine lv_icmp_ge (tgt := 210) hC.1 hC.2.1 dX4_open_187 (by decide) (fun c_1 => ?_) (fun c_1 => ?_)
      · skip
        rw [show (12 : Int32) = nI 12 from rfl, nI_leI (by omega) (by omega)] at c_1
        have ei : i = 12 := by omega
        subst ei
        exact K _ _ _ _ hO ls (LL.drop hl 8)
      · skip
        rw [show (12 : Int32) = nI 12 from rfl, nI_leI (by omega) (by omega)] at c_1
        refine g_aload_n hC hl dX4_open_190 rfl rfl ?_
        refine g_get (ci := 4) (k := 14) hC hO rfl inX4 (by decide) q_fl_RX4_45 (nn_lt (Nat.le_of_ble_eq_true rfl)) rfl rfl dX4_open_191 ?_
        refine lv_bipush (v := 12) hC.1 hC.2.1 dX4_open_194 (by decide) ?_
        refine g_iload hC hl dX4_open_196 rfl ?_
        refine lv_imul hC.1 hC.2.1 dX4_open_198 ?_
        refine g_iload hC hl dX4_open_199 rfl ?_
        refine lv_iadd hC.1 hC.2.1 dX4_open_201 ?_
        rw [ix12]
        refine lv_iconst (v := 0) hC.1 hC.2.1 dX4_open_202 (by decide) ?_
        refine g_zast hC hO (nn_lt (Nat.le_of_ble_eq_true rfl)) (fun _ _ => rfl) (vp_in_nI (by omega) (by omega)) (by decide) dX4_open_203 (fun H locs hO => ?_)
        rw [nI_clamp (n := 12 * k + i) (by omega), upI_upA] at hO
        refine g_iinc (v := nI (i + 1)) hC hl dX4_open_204 rfl (nI_i1 i) (Nat.le_of_ble_eq_true rfl) rfl (fun ls hl => ?_)
        have hl : LL ls 9 [some _, some _, some _, none, some _, some _, some _, none, some _] := hl
        refine lv_goto (tgt := 183) hC.1 hC.2.1 dX4_open_207 (by decide) ?_
        exact ih (i + 1) (by omega) (by omega) _ _ _ _ (by rw [clrP_s]; exact hO) ls hl
  refine g_aload_n hC hl dX4_open_0 rfl rfl ?_
  refine lv_iconst (v := 0) hC.1 hC.2.1 dX4_open_1 (by decide) ?_
  refine g_putT hC hO q_fl_RX4_69 dX4_open_2 (fun H locs hO => ?_)
  refine g_aload_n hC hl dX4_open_5 rfl rfl ?_
  refine g_iload_n hC hl dX4_open_6 rfl rfl ?_
  refine g_cVi1 hC hO hl (ci := 4) rfl (nn_lt (Nat.le_of_ble_eq_true rfl)) rfl (c_X4_isBag l κ _ (by first | exact hM | exact hM.upA 9 _ (by decide) (by decide) (by decide)) _) mi_X4_isBag q_ml_RX4_76 rfl rfl ⟨Nat.le_of_ble_eq_true rfl, Nat.le_of_ble_eq_true rfl⟩ (Nat.le_of_ble_eq_true rfl) ⟨Nat.zero_le _, Nat.zero_le _⟩ dX4_open_7 (fun r σ1 F th H locs hr hO => ?_)
  obtain ⟨rfl, rfl⟩ := hr
  refine lv_if_ne (tgt := 16) hC.1 hC.2.1 dX4_open_10 (by decide) (fun c_2 => ?_) (fun c_2 => ?_)
  · skip
    have c_2 := bI_nz c_2
    obtain ⟨k, hq, hk, rfl⟩ := recOf_isSome c_2
    have hbt := thing_bag hq
    have ck : (nI k).toNatClampNeg = k := nI_clamp (by omega)
    have cb : (nI (1001 + k)).toNatClampNeg = 1001 + k := nI_clamp (by omega)
    refine g_lload_n hC hl dX4_open_16 rfl rfl ?_
    refine lv_lconst (v := 1) hC.1 hC.2.1 dX4_open_17 (by decide) ?_
    refine W.lcmp hC.1 hC.2.1 dX4_open_18 ?_
    refine lv_if_lt (tgt := 55) hC.1 hC.2.1 dX4_open_19 (by decide) (fun c_3 => ?_) (fun c_3 => ?_)
    · skip
      rw [lg_cmp_lt] at c_3
      have hs := sealB_f1 c_3
      refine lv_bipush (v := (-12)) hC.1 hC.2.1 dX4_open_55 (by decide) ?_
      exact g_iret hC hO dX4_open_57 (by unfold mOpen; simp [hq, hs])
    · skip
      rw [lg_cmp_lt] at c_3
      have hs1 := c_3
      refine g_lload_n hC hl dX4_open_22 rfl rfl ?_
      refine lv_ldc2 hC.1 hC.2.1 hC.2.2.2.1 (hC.2.2.2.2.1 _ q_kl_RX4_111) dX4_open_23 ?_
      refine W.lcmp hC.1 hC.2.1 dX4_open_26 ?_
      refine lv_if_gt (tgt := 55) hC.1 hC.2.1 dX4_open_27 (by decide) (fun c_4 => ?_) (fun c_4 => ?_)
      · skip
        rw [lg_cmp_gt] at c_4
        have hs := sealB_f2 c_4
        refine lv_bipush (v := (-12)) hC.1 hC.2.1 dX4_open_55 (by decide) ?_
        exact g_iret hC hO dX4_open_57 (by unfold mOpen; simp [hq, hs])
      · skip
        rw [lg_cmp_gt] at c_4
        have hs := sealB_t hs1 c_4
        refine g_iload hC hl dX4_open_30 rfl ?_
        refine lv_if_lt (tgt := 55) hC.1 hC.2.1 dX4_open_32 (by decide) (fun c_5 => ?_) (fun c_5 => ?_)
        · skip
          have hpp := personB_f1 c_5
          refine lv_bipush (v := (-12)) hC.1 hC.2.1 dX4_open_55 (by decide) ?_
          exact g_iret hC hO dX4_open_57 (by unfold mOpen; simp [hq, hs, hpp])
        · skip
          have hp1 := c_5
          refine g_iload hC hl dX4_open_35 rfl ?_
          refine lv_bipush (v := 49) hC.1 hC.2.1 dX4_open_37 (by decide) ?_
          refine lv_icmp_gt (tgt := 55) hC.1 hC.2.1 dX4_open_39 (by decide) (fun c_6 => ?_) (fun c_6 => ?_)
          · skip
            have hpp := personB_f2 (Int32.not_le.mpr c_6)
            refine lv_bipush (v := (-12)) hC.1 hC.2.1 dX4_open_55 (by decide) ?_
            exact g_iret hC hO dX4_open_57 (by unfold mOpen; simp [hq, hs, hpp])
          · skip
            have hpp := personB_t hp1 (Int32.not_lt.mp c_6)
            refine g_iload hC hl dX4_open_42 rfl ?_
            refine lv_iconst (v := (-1)) hC.1 hC.2.1 dX4_open_44 (by decide) ?_
            refine lv_icmp_lt (tgt := 55) hC.1 hC.2.1 dX4_open_45 (by decide) (fun c_7 => ?_) (fun c_7 => ?_)
            · skip
              have hoo := orP_f1 c_7
              refine lv_bipush (v := (-12)) hC.1 hC.2.1 dX4_open_55 (by decide) ?_
              exact g_iret hC hO dX4_open_57 (by unfold mOpen; simp [hq, hs, hpp, hoo])
            · skip
              have ho1 := c_7
              refine g_iload hC hl dX4_open_48 rfl ?_
              refine lv_bipush (v := 49) hC.1 hC.2.1 dX4_open_50 (by decide) ?_
              refine lv_icmp_le (tgt := 58) hC.1 hC.2.1 dX4_open_52 (by decide) (fun c_8 => ?_) (fun c_8 => ?_)
              · skip
                have hoo := orP_t ho1 c_8
                refine g_iload_n hC hl dX4_open_58 rfl rfl ?_
                refine lv_sipush (v := 1001) hC.1 hC.2.1 dX4_open_59 (by decide) ?_
                refine lv_isub hC.1 hC.2.1 dX4_open_62 ?_
                rw [sub1001 (by omega)]
                refine g_istore hC hl dX4_open_63 (Nat.le_of_ble_eq_true rfl) rfl (fun ls hl => ?_)
                have hl : LL ls 9 [some _, some _, some _, none, some _, some _, some _, none, none] := hl
                refine g_aload_n hC hl dX4_open_65 rfl rfl ?_
                refine g_get (ci := 4) (k := 6) hC hO rfl inX4 (by decide) q_fl_RX4_19 (nn_lt (Nat.le_of_ble_eq_true rfl)) rfl rfl dX4_open_66 ?_
                refine g_iload hC hl dX4_open_69 rfl ?_
                refine g_iald hC hO (nn_lt (Nat.le_of_ble_eq_true rfl)) rfl (vp_in_nI (by omega) (by omega)) dX4_open_71 ?_
                refine lv_iconst (v := 2) hC.1 hC.2.1 dX4_open_72 (by decide) ?_
                refine lv_icmp_ge (tgt := 102) hC.1 hC.2.1 dX4_open_73 (by decide) (fun c_9 => ?_) (fun c_9 => ?_)
                · skip
                  rw [ck] at c_9
                  have hk2 : ¬ sI σ 10 k < 2 := Int32.not_lt.mpr c_9
                  refine g_iload hC hl dX4_open_102 rfl ?_
                  refine lv_iconst (v := (-1)) hC.1 hC.2.1 dX4_open_104 (by decide) ?_
                  refine lv_icmp_eq (tgt := 119) hC.1 hC.2.1 dX4_open_105 (by decide) (fun c_10 => ?_) (fun c_10 => ?_)
                  · skip
                    have hpl : pplB σ k p2 p3 = false := by unfold pplB; rw [if_neg hk2, decide_eq_true c_10]; rfl
                    refine lv_iconst (v := 0) hC.1 hC.2.1 dX4_open_119 (by decide) ?_
                    refine g_istore hC hl dX4_open_120 (Nat.le_of_ble_eq_true rfl) rfl (fun ls hl => ?_)
                    have hl : LL ls 9 [some _, some _, some _, none, some _, some _, some _, some _, none] := hl
                    refine g_aload_n hC hl dX4_open_122 rfl rfl ?_
                    refine g_get (ci := 4) (k := 7) hC hO rfl inX4 (by decide) q_fl_RX4_22 (nn_lt (Nat.le_of_ble_eq_true rfl)) rfl rfl dX4_open_123 ?_
                    refine g_iload hC hl dX4_open_126 rfl ?_
                    refine g_zald hC hO (nn_lt (Nat.le_of_ble_eq_true rfl)) rfl (vp_in_nI (by omega) (by omega)) dX4_open_128 ?_
                    refine lv_if_eq (tgt := 145) hC.1 hC.2.1 dX4_open_129 (by decide) (fun c_11 => ?_) (fun c_11 => ?_)
                    · skip
                      rw [ck] at c_11
                      refine lv_bipush (v := (-13)) hC.1 hC.2.1 dX4_open_145 (by decide) ?_
                      exact g_iret hC hO dX4_open_147 (by unfold mOpen; simp [hq, hs, hpp, hoo, hpl, c_11])
                    · skip
                      rw [ck] at c_11
                      refine g_aload_n hC hl dX4_open_132 rfl rfl ?_
                      refine g_iload_n hC hl dX4_open_133 rfl rfl ?_
                      refine g_cVi1 hC hO hl (ci := 4) rfl (nn_lt (Nat.le_of_ble_eq_true rfl)) rfl (c_X4_isShutIn l κ _ (by first | exact hM | exact hM.upA 9 _ (by decide) (by decide) (by decide)) (1001 + k) (by omega)) mi_X4_isShutIn q_ml_RX4_98 rfl rfl ⟨Nat.le_of_ble_eq_true rfl, Nat.le_of_ble_eq_true rfl⟩ (Nat.le_of_ble_eq_true rfl) ⟨Nat.zero_le _, Nat.zero_le _⟩ dX4_open_134 (fun r σ1 F th H locs hr hO => ?_)
                      obtain ⟨rfl, rfl⟩ := hr
                      refine lv_if_ne (tgt := 145) hC.1 hC.2.1 dX4_open_137 (by decide) (fun c_12 => ?_) (fun c_12 => ?_)
                      · skip
                        have c_12 := bI_nz c_12
                        refine lv_bipush (v := (-13)) hC.1 hC.2.1 dX4_open_145 (by decide) ?_
                        exact g_iret hC hO dX4_open_147 (by unfold mOpen; simp [hq, hs, hpp, hoo, hpl, c_11, c_12])
                      · skip
                        have c_12 := bI_z c_12
                        refine g_iload hC hl dX4_open_140 rfl ?_
                        refine lv_if_ne (tgt := 148) hC.1 hC.2.1 dX4_open_142 (by decide) (fun c_13 => ?_) (fun c_13 => ?_)
                        · skip
                          exact absurd c_13 (by decide)
                        · skip
                          refine lv_bipush (v := (-13)) hC.1 hC.2.1 dX4_open_145 (by decide) ?_
                          exact g_iret hC hO dX4_open_147 (by unfold mOpen; simp [hq, hs, hpp, hoo, hpl, c_11, c_12, c_13])
                  · skip
                    have hc1 := c_10
                    refine g_iload hC hl dX4_open_108 rfl ?_
                    refine g_iload hC hl dX4_open_110 rfl ?_
                    refine lv_icmp_eq (tgt := 119) hC.1 hC.2.1 dX4_open_112 (by decide) (fun c_14 => ?_) (fun c_14 => ?_)
                    · skip
                      have hpl : pplB σ k p2 p3 = false := by unfold pplB; rw [if_neg hk2, decide_eq_true c_14]; simp
                      refine lv_iconst (v := 0) hC.1 hC.2.1 dX4_open_119 (by decide) ?_
                      refine g_istore hC hl dX4_open_120 (Nat.le_of_ble_eq_true rfl) rfl (fun ls hl => ?_)
                      have hl : LL ls 9 [some _, some _, some _, none, some _, some _, some _, some _, none] := hl
                      refine g_aload_n hC hl dX4_open_122 rfl rfl ?_
                      refine g_get (ci := 4) (k := 7) hC hO rfl inX4 (by decide) q_fl_RX4_22 (nn_lt (Nat.le_of_ble_eq_true rfl)) rfl rfl dX4_open_123 ?_
                      refine g_iload hC hl dX4_open_126 rfl ?_
                      refine g_zald hC hO (nn_lt (Nat.le_of_ble_eq_true rfl)) rfl (vp_in_nI (by omega) (by omega)) dX4_open_128 ?_
                      refine lv_if_eq (tgt := 145) hC.1 hC.2.1 dX4_open_129 (by decide) (fun c_15 => ?_) (fun c_15 => ?_)
                      · skip
                        rw [ck] at c_15
                        refine lv_bipush (v := (-13)) hC.1 hC.2.1 dX4_open_145 (by decide) ?_
                        exact g_iret hC hO dX4_open_147 (by unfold mOpen; simp [hq, hs, hpp, hoo, hpl, c_15])
                      · skip
                        rw [ck] at c_15
                        refine g_aload_n hC hl dX4_open_132 rfl rfl ?_
                        refine g_iload_n hC hl dX4_open_133 rfl rfl ?_
                        refine g_cVi1 hC hO hl (ci := 4) rfl (nn_lt (Nat.le_of_ble_eq_true rfl)) rfl (c_X4_isShutIn l κ _ (by first | exact hM | exact hM.upA 9 _ (by decide) (by decide) (by decide)) (1001 + k) (by omega)) mi_X4_isShutIn q_ml_RX4_98 rfl rfl ⟨Nat.le_of_ble_eq_true rfl, Nat.le_of_ble_eq_true rfl⟩ (Nat.le_of_ble_eq_true rfl) ⟨Nat.zero_le _, Nat.zero_le _⟩ dX4_open_134 (fun r σ1 F th H locs hr hO => ?_)
                        obtain ⟨rfl, rfl⟩ := hr
                        refine lv_if_ne (tgt := 145) hC.1 hC.2.1 dX4_open_137 (by decide) (fun c_16 => ?_) (fun c_16 => ?_)
                        · skip
                          have c_16 := bI_nz c_16
                          refine lv_bipush (v := (-13)) hC.1 hC.2.1 dX4_open_145 (by decide) ?_
                          exact g_iret hC hO dX4_open_147 (by unfold mOpen; simp [hq, hs, hpp, hoo, hpl, c_15, c_16])
                        · skip
                          have c_16 := bI_z c_16
                          refine g_iload hC hl dX4_open_140 rfl ?_
                          refine lv_if_ne (tgt := 148) hC.1 hC.2.1 dX4_open_142 (by decide) (fun c_17 => ?_) (fun c_17 => ?_)
                          · skip
                            exact absurd c_17 (by decide)
                          · skip
                            refine lv_bipush (v := (-13)) hC.1 hC.2.1 dX4_open_145 (by decide) ?_
                            exact g_iret hC hO dX4_open_147 (by unfold mOpen; simp [hq, hs, hpp, hoo, hpl, c_15, c_16, c_17])
                    · skip
                      have hpl : pplB σ k p2 p3 = true := by unfold pplB; rw [if_neg hk2, decide_eq_false hc1, decide_eq_false c_14]; rfl
                      refine lv_iconst (v := 1) hC.1 hC.2.1 dX4_open_115 (by decide) ?_
                      refine lv_goto (tgt := 120) hC.1 hC.2.1 dX4_open_116 (by decide) ?_
                      refine g_istore hC hl dX4_open_120 (Nat.le_of_ble_eq_true rfl) rfl (fun ls hl => ?_)
                      have hl : LL ls 9 [some _, some _, some _, none, some _, some _, some _, some _, none] := hl
                      refine g_aload_n hC hl dX4_open_122 rfl rfl ?_
                      refine g_get (ci := 4) (k := 7) hC hO rfl inX4 (by decide) q_fl_RX4_22 (nn_lt (Nat.le_of_ble_eq_true rfl)) rfl rfl dX4_open_123 ?_
                      refine g_iload hC hl dX4_open_126 rfl ?_
                      refine g_zald hC hO (nn_lt (Nat.le_of_ble_eq_true rfl)) rfl (vp_in_nI (by omega) (by omega)) dX4_open_128 ?_
                      refine lv_if_eq (tgt := 145) hC.1 hC.2.1 dX4_open_129 (by decide) (fun c_18 => ?_) (fun c_18 => ?_)
                      · skip
                        rw [ck] at c_18
                        refine lv_bipush (v := (-13)) hC.1 hC.2.1 dX4_open_145 (by decide) ?_
                        exact g_iret hC hO dX4_open_147 (by unfold mOpen; simp [hq, hs, hpp, hoo, hpl, c_18])
                      · skip
                        rw [ck] at c_18
                        refine g_aload_n hC hl dX4_open_132 rfl rfl ?_
                        refine g_iload_n hC hl dX4_open_133 rfl rfl ?_
                        refine g_cVi1 hC hO hl (ci := 4) rfl (nn_lt (Nat.le_of_ble_eq_true rfl)) rfl (c_X4_isShutIn l κ _ (by first | exact hM | exact hM.upA 9 _ (by decide) (by decide) (by decide)) (1001 + k) (by omega)) mi_X4_isShutIn q_ml_RX4_98 rfl rfl ⟨Nat.le_of_ble_eq_true rfl, Nat.le_of_ble_eq_true rfl⟩ (Nat.le_of_ble_eq_true rfl) ⟨Nat.zero_le _, Nat.zero_le _⟩ dX4_open_134 (fun r σ1 F th H locs hr hO => ?_)
                        obtain ⟨rfl, rfl⟩ := hr
                        refine lv_if_ne (tgt := 145) hC.1 hC.2.1 dX4_open_137 (by decide) (fun c_19 => ?_) (fun c_19 => ?_)
                        · skip
                          have c_19 := bI_nz c_19
                          refine lv_bipush (v := (-13)) hC.1 hC.2.1 dX4_open_145 (by decide) ?_
                          exact g_iret hC hO dX4_open_147 (by unfold mOpen; simp [hq, hs, hpp, hoo, hpl, c_18, c_19])
                        · skip
                          have c_19 := bI_z c_19
                          refine g_iload hC hl dX4_open_140 rfl ?_
                          refine lv_if_ne (tgt := 148) hC.1 hC.2.1 dX4_open_142 (by decide) (fun c_20 => ?_) (fun c_20 => ?_)
                          · skip
                            refine g_aload_n hC hl dX4_open_148 rfl rfl ?_
                            refine g_get (ci := 4) (k := 7) hC hO rfl inX4 (by decide) q_fl_RX4_22 (nn_lt (Nat.le_of_ble_eq_true rfl)) rfl rfl dX4_open_149 ?_
                            refine g_iload hC hl dX4_open_152 rfl ?_
                            refine lv_iconst (v := 0) hC.1 hC.2.1 dX4_open_154 (by decide) ?_
                            refine g_zast hC hO (nn_lt (Nat.le_of_ble_eq_true rfl)) (fun _ _ => rfl) (vp_in_nI (by omega) (by omega)) (by decide) dX4_open_155 (fun H locs hO => ?_)
                            rw [ck] at hO
                            refine g_aload_n hC hl dX4_open_156 rfl rfl ?_
                            refine g_get (ci := 4) (k := 8) hC hO rfl inX4 (by decide) q_fl_RX4_26 (nn_lt (Nat.le_of_ble_eq_true rfl)) rfl rfl dX4_open_157 ?_
                            refine g_iload hC hl dX4_open_160 rfl ?_
                            refine lv_iconst (v := 1) hC.1 hC.2.1 dX4_open_162 (by decide) ?_
                            refine g_zast hC hO (nn_lt (Nat.le_of_ble_eq_true rfl)) (fun _ _ => rfl) (vp_in_nI (by omega) (by omega)) (by decide) dX4_open_163 (fun H locs hO => ?_)
                            rw [ck] at hO
                            refine g_aload_n hC hl dX4_open_164 rfl rfl ?_
                            refine g_get (ci := 4) (k := 11) hC hO rfl inX4 (by decide) q_fl_RX4_36 (nn_lt (Nat.le_of_ble_eq_true rfl)) rfl rfl dX4_open_165 ?_
                            refine g_iload hC hl dX4_open_168 rfl ?_
                            refine g_lload_n hC hl dX4_open_170 rfl rfl ?_
                            refine g_last hC hO (nn_lt (Nat.le_of_ble_eq_true rfl)) (fun _ _ => rfl) (vp_in_nI (by omega) (by omega)) dX4_open_171 (fun H locs hO => ?_)
                            rw [ck] at hO
                            refine g_aload_n hC hl dX4_open_172 rfl rfl ?_
                            refine g_get (ci := 4) (k := 15) hC hO rfl inX4 (by decide) q_fl_RX4_48 (nn_lt (Nat.le_of_ble_eq_true rfl)) rfl rfl dX4_open_173 ?_
                            refine g_iload hC hl dX4_open_176 rfl ?_
                            refine lv_iconst (v := 0) hC.1 hC.2.1 dX4_open_178 (by decide) ?_
                            refine g_iast hC hO (nn_lt (Nat.le_of_ble_eq_true rfl)) (fun _ _ => rfl) (vp_in_nI (by omega) (by omega)) dX4_open_179 (fun H locs hO => ?_)
                            rw [ck] at hO
                            refine lv_iconst (v := 0) hC.1 hC.2.1 dX4_open_180 (by decide) ?_
                            refine g_istore hC hl dX4_open_181 (Nat.le_of_ble_eq_true rfl) rfl (fun ls hl => ?_)
                            have hl : LL ls 9 [some _, some _, some _, none, some _, some _, some _, some _, some _] := hl
                            have hl := LL.drop hl 7
                            refine loop183 k (by omega) ?_ 13 0 (by omega) (by omega) _ _ _ _ (by rw [clrP_0]; exact (show OS κ s.heap (upA (unsB σ k p1) 18 (sI (unsB σ k p1) 18)) _ _ _ _ by rw [upA_self]; exact hO)) ls hl
                            intro F th H locs hO ls hl
                            refine g_lload_n hC hl dX4_open_210 rfl rfl ?_
                            refine g_aload_n hC hl dX4_open_211 rfl rfl ?_
                            refine g_get (ci := 4) (k := 9) hC hO rfl inX4 (by decide) q_fl_RX4_29 (nn_lt (Nat.le_of_ble_eq_true rfl)) rfl rfl dX4_open_212 ?_
                            refine g_iload hC hl dX4_open_215 rfl ?_
                            refine g_lald hC hO (nn_lt (Nat.le_of_ble_eq_true rfl)) rfl (vp_in_nI (by omega) (by omega)) dX4_open_217 ?_
                            refine W.lcmp hC.1 hC.2.1 dX4_open_218 ?_
                            refine lv_if_ne (tgt := 224) hC.1 hC.2.1 dX4_open_219 (by decide) (fun c_21 => ?_) (fun c_21 => ?_)
                            · skip
                              rw [lg_cmp_eq] at c_21
                              rw [ck] at c_21
                              have hqs : ¬ p1 = sJ σ 13 k := c_21
                              refine g_aload_n hC hl dX4_open_224 rfl rfl ?_
                              refine g_cVv0 hC hO hl (ci := 4) rfl (nn_lt (Nat.le_of_ble_eq_true rfl)) rfl (c_X4_addNote l κ _ n (by exact hn) hn2) mi_X4_addNote q_ml_RX4_113 rfl rfl ⟨Nat.le_of_ble_eq_true rfl, Nat.le_of_ble_eq_true rfl⟩ (Nat.le_of_ble_eq_true rfl) ⟨Nat.zero_le _, Nat.zero_le _⟩ dX4_open_225 (fun σ1 F th H locs hr hO => ?_)
                              subst hr
                              refine lv_iconst (v := (-1)) hC.1 hC.2.1 dX4_open_228 (by decide) ?_
                              exact g_iret hC hO dX4_open_229 (by unfold mOpen; simp [hq, hs, hpp, hoo, hpl, c_18, c_19, c_20, if_neg hqs])
                            · skip
                              rw [lg_cmp_eq] at c_21
                              rw [ck] at c_21
                              have hqs : p1 = sJ σ 13 k := c_21
                              refine lv_iconst (v := 1) hC.1 hC.2.1 dX4_open_222 (by decide) ?_
                              exact g_iret hC hO dX4_open_223 (by unfold mOpen; simp [hq, hs, hpp, hoo, hpl, c_18, c_19, c_20, if_pos hqs])
                          · skip
                            exact absurd c_20 (by decide)
                · skip
                  rw [ck] at c_9
                  have hk2 : sI σ 10 k < 2 := Int32.not_le.mp c_9
                  refine g_iload hC hl dX4_open_76 rfl ?_
                  refine lv_iconst (v := (-1)) hC.1 hC.2.1 dX4_open_78 (by decide) ?_
                  refine lv_icmp_ne (tgt := 98) hC.1 hC.2.1 dX4_open_79 (by decide) (fun c_22 => ?_) (fun c_22 => ?_)
                  · skip
                    have hpl : pplB σ k p2 p3 = false := by unfold pplB; rw [if_pos hk2, decide_eq_false c_22]; rfl
                    refine lv_iconst (v := 0) hC.1 hC.2.1 dX4_open_98 (by decide) ?_
                    refine lv_goto (tgt := 120) hC.1 hC.2.1 dX4_open_99 (by decide) ?_
                    refine g_istore hC hl dX4_open_120 (Nat.le_of_ble_eq_true rfl) rfl (fun ls hl => ?_)
                    have hl : LL ls 9 [some _, some _, some _, none, some _, some _, some _, some _, none] := hl
                    refine g_aload_n hC hl dX4_open_122 rfl rfl ?_
                    refine g_get (ci := 4) (k := 7) hC hO rfl inX4 (by decide) q_fl_RX4_22 (nn_lt (Nat.le_of_ble_eq_true rfl)) rfl rfl dX4_open_123 ?_
                    refine g_iload hC hl dX4_open_126 rfl ?_
                    refine g_zald hC hO (nn_lt (Nat.le_of_ble_eq_true rfl)) rfl (vp_in_nI (by omega) (by omega)) dX4_open_128 ?_
                    refine lv_if_eq (tgt := 145) hC.1 hC.2.1 dX4_open_129 (by decide) (fun c_23 => ?_) (fun c_23 => ?_)
                    · skip
                      rw [ck] at c_23
                      refine lv_bipush (v := (-13)) hC.1 hC.2.1 dX4_open_145 (by decide) ?_
                      exact g_iret hC hO dX4_open_147 (by unfold mOpen; simp [hq, hs, hpp, hoo, hpl, c_23])
                    · skip
                      rw [ck] at c_23
                      refine g_aload_n hC hl dX4_open_132 rfl rfl ?_
                      refine g_iload_n hC hl dX4_open_133 rfl rfl ?_
                      refine g_cVi1 hC hO hl (ci := 4) rfl (nn_lt (Nat.le_of_ble_eq_true rfl)) rfl (c_X4_isShutIn l κ _ (by first | exact hM | exact hM.upA 9 _ (by decide) (by decide) (by decide)) (1001 + k) (by omega)) mi_X4_isShutIn q_ml_RX4_98 rfl rfl ⟨Nat.le_of_ble_eq_true rfl, Nat.le_of_ble_eq_true rfl⟩ (Nat.le_of_ble_eq_true rfl) ⟨Nat.zero_le _, Nat.zero_le _⟩ dX4_open_134 (fun r σ1 F th H locs hr hO => ?_)
                      obtain ⟨rfl, rfl⟩ := hr
                      refine lv_if_ne (tgt := 145) hC.1 hC.2.1 dX4_open_137 (by decide) (fun c_24 => ?_) (fun c_24 => ?_)
                      · skip
                        have c_24 := bI_nz c_24
                        refine lv_bipush (v := (-13)) hC.1 hC.2.1 dX4_open_145 (by decide) ?_
                        exact g_iret hC hO dX4_open_147 (by unfold mOpen; simp [hq, hs, hpp, hoo, hpl, c_23, c_24])
                      · skip
                        have c_24 := bI_z c_24
                        refine g_iload hC hl dX4_open_140 rfl ?_
                        refine lv_if_ne (tgt := 148) hC.1 hC.2.1 dX4_open_142 (by decide) (fun c_25 => ?_) (fun c_25 => ?_)
                        · skip
                          exact absurd c_25 (by decide)
                        · skip
                          refine lv_bipush (v := (-13)) hC.1 hC.2.1 dX4_open_145 (by decide) ?_
                          exact g_iret hC hO dX4_open_147 (by unfold mOpen; simp [hq, hs, hpp, hoo, hpl, c_23, c_24, c_25])
                  · skip
                    have hc1 := c_22
                    refine g_iload hC hl dX4_open_82 rfl ?_
                    refine g_aload_n hC hl dX4_open_84 rfl rfl ?_
                    refine g_get (ci := 4) (k := 10) hC hO rfl inX4 (by decide) q_fl_RX4_33 (nn_lt (Nat.le_of_ble_eq_true rfl)) rfl rfl dX4_open_85 ?_
                    refine g_iload hC hl dX4_open_88 rfl ?_
                    refine g_iald hC hO (nn_lt (Nat.le_of_ble_eq_true rfl)) rfl (vp_in_nI (by omega) (by omega)) dX4_open_90 ?_
                    refine lv_icmp_eq (tgt := 98) hC.1 hC.2.1 dX4_open_91 (by decide) (fun c_26 => ?_) (fun c_26 => ?_)
                    · skip
                      rw [ck] at c_26
                      have hpl : pplB σ k p2 p3 = false := by unfold pplB; rw [if_pos hk2, decide_eq_true c_26]; simp
                      refine lv_iconst (v := 0) hC.1 hC.2.1 dX4_open_98 (by decide) ?_
                      refine lv_goto (tgt := 120) hC.1 hC.2.1 dX4_open_99 (by decide) ?_
                      refine g_istore hC hl dX4_open_120 (Nat.le_of_ble_eq_true rfl) rfl (fun ls hl => ?_)
                      have hl : LL ls 9 [some _, some _, some _, none, some _, some _, some _, some _, none] := hl
                      refine g_aload_n hC hl dX4_open_122 rfl rfl ?_
                      refine g_get (ci := 4) (k := 7) hC hO rfl inX4 (by decide) q_fl_RX4_22 (nn_lt (Nat.le_of_ble_eq_true rfl)) rfl rfl dX4_open_123 ?_
                      refine g_iload hC hl dX4_open_126 rfl ?_
                      refine g_zald hC hO (nn_lt (Nat.le_of_ble_eq_true rfl)) rfl (vp_in_nI (by omega) (by omega)) dX4_open_128 ?_
                      refine lv_if_eq (tgt := 145) hC.1 hC.2.1 dX4_open_129 (by decide) (fun c_27 => ?_) (fun c_27 => ?_)
                      · skip
                        rw [ck] at c_27
                        refine lv_bipush (v := (-13)) hC.1 hC.2.1 dX4_open_145 (by decide) ?_
                        exact g_iret hC hO dX4_open_147 (by unfold mOpen; simp [hq, hs, hpp, hoo, hpl, c_27])
                      · skip
                        rw [ck] at c_27
                        refine g_aload_n hC hl dX4_open_132 rfl rfl ?_
                        refine g_iload_n hC hl dX4_open_133 rfl rfl ?_
                        refine g_cVi1 hC hO hl (ci := 4) rfl (nn_lt (Nat.le_of_ble_eq_true rfl)) rfl (c_X4_isShutIn l κ _ (by first | exact hM | exact hM.upA 9 _ (by decide) (by decide) (by decide)) (1001 + k) (by omega)) mi_X4_isShutIn q_ml_RX4_98 rfl rfl ⟨Nat.le_of_ble_eq_true rfl, Nat.le_of_ble_eq_true rfl⟩ (Nat.le_of_ble_eq_true rfl) ⟨Nat.zero_le _, Nat.zero_le _⟩ dX4_open_134 (fun r σ1 F th H locs hr hO => ?_)
                        obtain ⟨rfl, rfl⟩ := hr
                        refine lv_if_ne (tgt := 145) hC.1 hC.2.1 dX4_open_137 (by decide) (fun c_28 => ?_) (fun c_28 => ?_)
                        · skip
                          have c_28 := bI_nz c_28
                          refine lv_bipush (v := (-13)) hC.1 hC.2.1 dX4_open_145 (by decide) ?_
                          exact g_iret hC hO dX4_open_147 (by unfold mOpen; simp [hq, hs, hpp, hoo, hpl, c_27, c_28])
                        · skip
                          have c_28 := bI_z c_28
                          refine g_iload hC hl dX4_open_140 rfl ?_
                          refine lv_if_ne (tgt := 148) hC.1 hC.2.1 dX4_open_142 (by decide) (fun c_29 => ?_) (fun c_29 => ?_)
                          · skip
                            exact absurd c_29 (by decide)
                          · skip
                            refine lv_bipush (v := (-13)) hC.1 hC.2.1 dX4_open_145 (by decide) ?_
                            exact g_iret hC hO dX4_open_147 (by unfold mOpen; simp [hq, hs, hpp, hoo, hpl, c_27, c_28, c_29])
                    · skip
                      rw [ck] at c_26
                      have hpl : pplB σ k p2 p3 = true := by unfold pplB; rw [if_pos hk2, decide_eq_true hc1, decide_eq_false c_26]; rfl
                      refine lv_iconst (v := 1) hC.1 hC.2.1 dX4_open_94 (by decide) ?_
                      refine lv_goto (tgt := 120) hC.1 hC.2.1 dX4_open_95 (by decide) ?_
                      refine g_istore hC hl dX4_open_120 (Nat.le_of_ble_eq_true rfl) rfl (fun ls hl => ?_)
                      have hl : LL ls 9 [some _, some _, some _, none, some _, some _, some _, some _, none] := hl
                      refine g_aload_n hC hl dX4_open_122 rfl rfl ?_
                      refine g_get (ci := 4) (k := 7) hC hO rfl inX4 (by decide) q_fl_RX4_22 (nn_lt (Nat.le_of_ble_eq_true rfl)) rfl rfl dX4_open_123 ?_
                      refine g_iload hC hl dX4_open_126 rfl ?_
                      refine g_zald hC hO (nn_lt (Nat.le_of_ble_eq_true rfl)) rfl (vp_in_nI (by omega) (by omega)) dX4_open_128 ?_
                      refine lv_if_eq (tgt := 145) hC.1 hC.2.1 dX4_open_129 (by decide) (fun c_30 => ?_) (fun c_30 => ?_)
                      · skip
                        rw [ck] at c_30
                        refine lv_bipush (v := (-13)) hC.1 hC.2.1 dX4_open_145 (by decide) ?_
                        exact g_iret hC hO dX4_open_147 (by unfold mOpen; simp [hq, hs, hpp, hoo, hpl, c_30])
                      · skip
                        rw [ck] at c_30
                        refine g_aload_n hC hl dX4_open_132 rfl rfl ?_
                        refine g_iload_n hC hl dX4_open_133 rfl rfl ?_
                        refine g_cVi1 hC hO hl (ci := 4) rfl (nn_lt (Nat.le_of_ble_eq_true rfl)) rfl (c_X4_isShutIn l κ _ (by first | exact hM | exact hM.upA 9 _ (by decide) (by decide) (by decide)) (1001 + k) (by omega)) mi_X4_isShutIn q_ml_RX4_98 rfl rfl ⟨Nat.le_of_ble_eq_true rfl, Nat.le_of_ble_eq_true rfl⟩ (Nat.le_of_ble_eq_true rfl) ⟨Nat.zero_le _, Nat.zero_le _⟩ dX4_open_134 (fun r σ1 F th H locs hr hO => ?_)
                        obtain ⟨rfl, rfl⟩ := hr
                        refine lv_if_ne (tgt := 145) hC.1 hC.2.1 dX4_open_137 (by decide) (fun c_31 => ?_) (fun c_31 => ?_)
                        · skip
                          have c_31 := bI_nz c_31
                          refine lv_bipush (v := (-13)) hC.1 hC.2.1 dX4_open_145 (by decide) ?_
                          exact g_iret hC hO dX4_open_147 (by unfold mOpen; simp [hq, hs, hpp, hoo, hpl, c_30, c_31])
                        · skip
                          have c_31 := bI_z c_31
                          refine g_iload hC hl dX4_open_140 rfl ?_
                          refine lv_if_ne (tgt := 148) hC.1 hC.2.1 dX4_open_142 (by decide) (fun c_32 => ?_) (fun c_32 => ?_)
                          · skip
                            refine g_aload_n hC hl dX4_open_148 rfl rfl ?_
                            refine g_get (ci := 4) (k := 7) hC hO rfl inX4 (by decide) q_fl_RX4_22 (nn_lt (Nat.le_of_ble_eq_true rfl)) rfl rfl dX4_open_149 ?_
                            refine g_iload hC hl dX4_open_152 rfl ?_
                            refine lv_iconst (v := 0) hC.1 hC.2.1 dX4_open_154 (by decide) ?_
                            refine g_zast hC hO (nn_lt (Nat.le_of_ble_eq_true rfl)) (fun _ _ => rfl) (vp_in_nI (by omega) (by omega)) (by decide) dX4_open_155 (fun H locs hO => ?_)
                            rw [ck] at hO
                            refine g_aload_n hC hl dX4_open_156 rfl rfl ?_
                            refine g_get (ci := 4) (k := 8) hC hO rfl inX4 (by decide) q_fl_RX4_26 (nn_lt (Nat.le_of_ble_eq_true rfl)) rfl rfl dX4_open_157 ?_
                            refine g_iload hC hl dX4_open_160 rfl ?_
                            refine lv_iconst (v := 1) hC.1 hC.2.1 dX4_open_162 (by decide) ?_
                            refine g_zast hC hO (nn_lt (Nat.le_of_ble_eq_true rfl)) (fun _ _ => rfl) (vp_in_nI (by omega) (by omega)) (by decide) dX4_open_163 (fun H locs hO => ?_)
                            rw [ck] at hO
                            refine g_aload_n hC hl dX4_open_164 rfl rfl ?_
                            refine g_get (ci := 4) (k := 11) hC hO rfl inX4 (by decide) q_fl_RX4_36 (nn_lt (Nat.le_of_ble_eq_true rfl)) rfl rfl dX4_open_165 ?_
                            refine g_iload hC hl dX4_open_168 rfl ?_
                            refine g_lload_n hC hl dX4_open_170 rfl rfl ?_
                            refine g_last hC hO (nn_lt (Nat.le_of_ble_eq_true rfl)) (fun _ _ => rfl) (vp_in_nI (by omega) (by omega)) dX4_open_171 (fun H locs hO => ?_)
                            rw [ck] at hO
                            refine g_aload_n hC hl dX4_open_172 rfl rfl ?_
                            refine g_get (ci := 4) (k := 15) hC hO rfl inX4 (by decide) q_fl_RX4_48 (nn_lt (Nat.le_of_ble_eq_true rfl)) rfl rfl dX4_open_173 ?_
                            refine g_iload hC hl dX4_open_176 rfl ?_
                            refine lv_iconst (v := 0) hC.1 hC.2.1 dX4_open_178 (by decide) ?_
                            refine g_iast hC hO (nn_lt (Nat.le_of_ble_eq_true rfl)) (fun _ _ => rfl) (vp_in_nI (by omega) (by omega)) dX4_open_179 (fun H locs hO => ?_)
                            rw [ck] at hO
                            refine lv_iconst (v := 0) hC.1 hC.2.1 dX4_open_180 (by decide) ?_
                            refine g_istore hC hl dX4_open_181 (Nat.le_of_ble_eq_true rfl) rfl (fun ls hl => ?_)
                            have hl : LL ls 9 [some _, some _, some _, none, some _, some _, some _, some _, some _] := hl
                            have hl := LL.drop hl 7
                            refine loop183 k (by omega) ?_ 13 0 (by omega) (by omega) _ _ _ _ (by rw [clrP_0]; exact (show OS κ s.heap (upA (unsB σ k p1) 18 (sI (unsB σ k p1) 18)) _ _ _ _ by rw [upA_self]; exact hO)) ls hl
                            intro F th H locs hO ls hl
                            refine g_lload_n hC hl dX4_open_210 rfl rfl ?_
                            refine g_aload_n hC hl dX4_open_211 rfl rfl ?_
                            refine g_get (ci := 4) (k := 9) hC hO rfl inX4 (by decide) q_fl_RX4_29 (nn_lt (Nat.le_of_ble_eq_true rfl)) rfl rfl dX4_open_212 ?_
                            refine g_iload hC hl dX4_open_215 rfl ?_
                            refine g_lald hC hO (nn_lt (Nat.le_of_ble_eq_true rfl)) rfl (vp_in_nI (by omega) (by omega)) dX4_open_217 ?_
                            refine W.lcmp hC.1 hC.2.1 dX4_open_218 ?_
                            refine lv_if_ne (tgt := 224) hC.1 hC.2.1 dX4_open_219 (by decide) (fun c_33 => ?_) (fun c_33 => ?_)
                            · skip
                              rw [lg_cmp_eq] at c_33
                              rw [ck] at c_33
                              have hqs : ¬ p1 = sJ σ 13 k := c_33
                              refine g_aload_n hC hl dX4_open_224 rfl rfl ?_
                              refine g_cVv0 hC hO hl (ci := 4) rfl (nn_lt (Nat.le_of_ble_eq_true rfl)) rfl (c_X4_addNote l κ _ n (by exact hn) hn2) mi_X4_addNote q_ml_RX4_113 rfl rfl ⟨Nat.le_of_ble_eq_true rfl, Nat.le_of_ble_eq_true rfl⟩ (Nat.le_of_ble_eq_true rfl) ⟨Nat.zero_le _, Nat.zero_le _⟩ dX4_open_225 (fun σ1 F th H locs hr hO => ?_)
                              subst hr
                              refine lv_iconst (v := (-1)) hC.1 hC.2.1 dX4_open_228 (by decide) ?_
                              exact g_iret hC hO dX4_open_229 (by unfold mOpen; simp [hq, hs, hpp, hoo, hpl, c_30, c_31, c_32, if_neg hqs])
                            · skip
                              rw [lg_cmp_eq] at c_33
                              rw [ck] at c_33
                              have hqs : p1 = sJ σ 13 k := c_33
                              refine lv_iconst (v := 1) hC.1 hC.2.1 dX4_open_222 (by decide) ?_
                              exact g_iret hC hO dX4_open_223 (by unfold mOpen; simp [hq, hs, hpp, hoo, hpl, c_30, c_31, c_32, if_pos hqs])
                          · skip
                            exact absurd c_32 (by decide)
              · skip
                have hoo := orP_f2 c_8
                refine lv_bipush (v := (-12)) hC.1 hC.2.1 dX4_open_55 (by decide) ?_
                exact g_iret hC hO dX4_open_57 (by unfold mOpen; simp [hq, hs, hpp, hoo])
  · skip
    have c_2 := bI_z c_2
    have hq := recOf_no c_2
    refine lv_bipush (v := (-11)) hC.1 hC.2.1 dX4_open_13 (by decide) ?_
    exact g_iret hC hO dX4_open_15 (by unfold mOpen; simp [hq])

set_option maxHeartbeats 4000000 in
set_option maxRecDepth 100000 in
/-- BagRowsModel.found -/
theorem c_X4_found (l : Launch) (κ : KK) (σ : ST) (hM : MB σ) (hL : ML σ) (n : Nat) (hn : sI σ 6 21 = nI n) (hn2 : n < 2000) (p0 p1 : Int32) : Met l yX4_found (wA yX4_found cX4_found 6 (some .int)) ({ frames := 3, cells := 0, slots := 0, locals := 69 }) (va_Pc [.ref (kad κ 6), .int p0, .int p1] (WX κ σ)) (va_Qi (fun r σ' => (r, σ') = mFoundF σ p0 p1) (WX κ) (FA κ)) 0 0 (FA κ) := by
  refine g_met 3 (by decide) rfl (Nat.le_of_ble_eq_true rfl) ?_
  intro p e s m args below meth c hC F th hO ls hl
  have hl : LL ls 6 [some _, some _, some _, none, none, none] := hl
  have h60 := hM.2.1
  refine g_aload_n hC hl dX4_found_0 rfl rfl ?_
  refine lv_iconst (v := 0) hC.1 hC.2.1 dX4_found_1 (by decide) ?_
  refine g_putT hC hO q_fl_RX4_69 dX4_found_2 (fun H locs hO => ?_)
  refine g_aload_n hC hl dX4_found_5 rfl rfl ?_
  refine g_iload_n hC hl dX4_found_6 rfl rfl ?_
  refine g_cVi1 hC hO hl (ci := 4) rfl (nn_lt (Nat.le_of_ble_eq_true rfl)) rfl (c_X4_isBag l κ _ (by first | exact hM | exact hM.upA 9 _ (by decide) (by decide) (by decide)) _) mi_X4_isBag q_ml_RX4_76 rfl rfl ⟨Nat.le_of_ble_eq_true rfl, Nat.le_of_ble_eq_true rfl⟩ (Nat.le_of_ble_eq_true rfl) ⟨Nat.zero_le _, Nat.zero_le _⟩ dX4_found_7 (fun r σ1 F th H locs hr hO => ?_)
  obtain ⟨rfl, rfl⟩ := hr
  refine lv_if_eq (tgt := 21) hC.1 hC.2.1 dX4_found_10 (by decide) (fun c_1 => ?_) (fun c_1 => ?_)
  · skip
    have c_1 := bI_z c_1
    have hq := recOf_no c_1
    refine lv_bipush (v := (-11)) hC.1 hC.2.1 dX4_found_21 (by decide) ?_
    exact g_iret hC hO dX4_found_23 (by unfold mFoundF mFound mEx; simp [hq])
  · skip
    have c_1 := bI_nz c_1
    obtain ⟨k, hq, hk, rfl⟩ := recOf_isSome c_1
    have hbt := thing_bag hq
    have ck : (nI k).toNatClampNeg = k := nI_clamp (by omega)
    have cb : (nI (1001 + k)).toNatClampNeg = 1001 + k := nI_clamp (by omega)
    refine g_aload_n hC hl dX4_found_13 rfl rfl ?_
    refine g_iload_n hC hl dX4_found_14 rfl rfl ?_
    refine g_cVi1 hC hO hl (ci := 4) rfl (nn_lt (Nat.le_of_ble_eq_true rfl)) rfl (c_X4_isThing l κ _ (by first | exact hM | exact hM.upA 9 _ (by decide) (by decide) (by decide)) _) mi_X4_isThing q_ml_RX4_95 rfl rfl ⟨Nat.le_of_ble_eq_true rfl, Nat.le_of_ble_eq_true rfl⟩ (Nat.le_of_ble_eq_true rfl) ⟨Nat.zero_le _, Nat.zero_le _⟩ dX4_found_15 (fun r σ1 F th H locs hr hO => ?_)
    obtain ⟨rfl, rfl⟩ := hr
    refine lv_if_ne (tgt := 24) hC.1 hC.2.1 dX4_found_18 (by decide) (fun c_2 => ?_) (fun c_2 => ?_)
    · skip
      have c_2 := bI_nz c_2
      obtain ⟨t, ht1, ht2, rfl⟩ := thing_ex c_2 h60
      have hth : thingB σ (nI t) = true := c_2
      have hcl : (nI t).toNatClampNeg = t := nI_clamp (by omega)
      refine g_iload_n hC hl dX4_found_24 rfl rfl ?_
      refine lv_sipush (v := 1001) hC.1 hC.2.1 dX4_found_25 (by decide) ?_
      refine lv_isub hC.1 hC.2.1 dX4_found_28 ?_
      rw [sub1001 (by omega)]
      refine g_istore_n hC hl dX4_found_29 rfl (Nat.le_of_ble_eq_true rfl) rfl (fun ls hl => ?_)
      have hl : LL ls 6 [some _, some _, some _, some _, none, none] := hl
      refine g_aload_n hC hl dX4_found_30 rfl rfl ?_
      refine g_get (ci := 4) (k := 8) hC hO rfl inX4 (by decide) q_fl_RX4_26 (nn_lt (Nat.le_of_ble_eq_true rfl)) rfl rfl dX4_found_31 ?_
      refine g_iload_n hC hl dX4_found_34 rfl rfl ?_
      refine g_zald hC hO (nn_lt (Nat.le_of_ble_eq_true rfl)) rfl (vp_in_nI (by omega) (by omega)) dX4_found_35 ?_
      refine lv_if_eq (tgt := 66) hC.1 hC.2.1 dX4_found_36 (by decide) (fun c_3 => ?_) (fun c_3 => ?_)
      · skip
        rw [ck] at c_3
        refine lv_bipush (v := (-13)) hC.1 hC.2.1 dX4_found_66 (by decide) ?_
        exact g_iret hC hO dX4_found_68 (by unfold mFoundF mFound mEx; simp [hq, hth, hcl, c_3])
      · skip
        rw [ck] at c_3
        refine g_iload_n hC hl dX4_found_39 rfl rfl ?_
        refine g_iload_n hC hl dX4_found_40 rfl rfl ?_
        refine lv_icmp_eq (tgt := 66) hC.1 hC.2.1 dX4_found_41 (by decide) (fun c_4 => ?_) (fun c_4 => ?_)
        · skip
          have h41 := c_4
          refine lv_bipush (v := (-13)) hC.1 hC.2.1 dX4_found_66 (by decide) ?_
          exact g_iret hC hO dX4_found_68 (by unfold mFoundF mFound mEx; simp [hq, hth, hcl, c_3, h41, hbt])
        · skip
          refine g_aload_n hC hl dX4_found_44 rfl rfl ?_
          refine g_iload_n hC hl dX4_found_45 rfl rfl ?_
          refine g_iload_n hC hl dX4_found_46 rfl rfl ?_
          refine g_cVi2 hC hO hl (ci := 4) rfl (nn_lt (Nat.le_of_ble_eq_true rfl)) rfl (c_X4_liesIn l κ _ (by first | exact hM | exact hM.upA 9 _ (by decide) (by decide) (by decide)) (1001 + k) (by omega) _) mi_X4_liesIn q_ml_RX4_116 rfl rfl ⟨Nat.le_of_ble_eq_true rfl, Nat.le_of_ble_eq_true rfl⟩ (Nat.le_of_ble_eq_true rfl) ⟨Nat.zero_le _, Nat.zero_le _⟩ dX4_found_47 (fun r σ1 F th H locs hr hO => ?_)
          obtain ⟨rfl, rfl⟩ := hr
          refine lv_if_ne (tgt := 66) hC.1 hC.2.1 dX4_found_50 (by decide) (fun c_5 => ?_) (fun c_5 => ?_)
          · skip
            have c_5 := bI_nz c_5
            refine lv_bipush (v := (-13)) hC.1 hC.2.1 dX4_found_66 (by decide) ?_
            exact g_iret hC hO dX4_found_68 (by unfold mFoundF mFound mEx; simp [hq, hth, hcl, c_3, c_4, c_5])
          · skip
            have c_5 := bI_z c_5
            refine g_aload_n hC hl dX4_found_53 rfl rfl ?_
            refine g_iload_n hC hl dX4_found_54 rfl rfl ?_
            refine g_cVi1 hC hO hl (ci := 4) rfl (nn_lt (Nat.le_of_ble_eq_true rfl)) rfl (c_X4_kindOf l κ _ (by first | exact hM | exact hM.upA 9 _ (by decide) (by decide) (by decide)) _ (by exact hth)) mi_X4_kindOf q_ml_RX4_101 rfl rfl ⟨Nat.le_of_ble_eq_true rfl, Nat.le_of_ble_eq_true rfl⟩ (Nat.le_of_ble_eq_true rfl) ⟨Nat.zero_le _, Nat.zero_le _⟩ dX4_found_55 (fun r σ1 F th H locs hr hO => ?_)
            obtain ⟨rfl, rfl⟩ := hr
            refine g_aload_n hC hl dX4_found_58 rfl rfl ?_
            refine g_iload_n hC hl dX4_found_59 rfl rfl ?_
            refine g_cVi1 hC hO hl (ci := 4) rfl (nn_lt (Nat.le_of_ble_eq_true rfl)) rfl (c_X4_kindOf l κ _ (by first | exact hM | exact hM.upA 9 _ (by decide) (by decide) (by decide)) _ (by exact hbt)) mi_X4_kindOf q_ml_RX4_101 rfl rfl ⟨Nat.le_of_ble_eq_true rfl, Nat.le_of_ble_eq_true rfl⟩ (Nat.le_of_ble_eq_true rfl) ⟨Nat.zero_le _, Nat.zero_le _⟩ dX4_found_60 (fun r σ1 F th H locs hr hO => ?_)
            obtain ⟨rfl, rfl⟩ := hr
            refine lv_icmp_lt (tgt := 69) hC.1 hC.2.1 dX4_found_63 (by decide) (fun c_6 => ?_) (fun c_6 => ?_)
            · skip
              have hmk := c_6
              have hnle : ¬ mkF σ (nI (1001 + k)) ≤ mkF σ (nI t) := Int32.not_le.mpr c_6
              refine g_aload_n hC hl dX4_found_69 rfl rfl ?_
              refine g_iload_n hC hl dX4_found_70 rfl rfl ?_
              refine g_iload_n hC hl dX4_found_71 rfl rfl ?_
              refine g_cVi2 hC hO hl (ci := 4) rfl (nn_lt (Nat.le_of_ble_eq_true rfl)) rfl (c_X4_listPlace l κ _ k (by omega) (lnS σ k) (hL k hk).1 (hL k hk).2.1 _) mi_X4_listPlace q_ml_RX4_120 rfl rfl ⟨Nat.le_of_ble_eq_true rfl, Nat.le_of_ble_eq_true rfl⟩ (Nat.le_of_ble_eq_true rfl) ⟨Nat.zero_le _, Nat.zero_le _⟩ dX4_found_72 (fun r σ1 F th H locs hr hO => ?_)
              obtain ⟨rfl, rfl⟩ := hr
              refine g_istore hC hl dX4_found_75 (Nat.le_of_ble_eq_true rfl) rfl (fun ls hl => ?_)
              have hl : LL ls 6 [some _, some _, some _, some _, some _, none] := hl
              refine g_iload hC hl dX4_found_77 rfl ?_
              refine lv_if_lt (tgt := 97) hC.1 hC.2.1 dX4_found_79 (by decide) (fun c_7 => ?_) (fun c_7 => ?_)
              · skip
                have hlp := c_7
                refine g_aload_n hC hl dX4_found_97 rfl rfl ?_
                refine g_iload_n hC hl dX4_found_98 rfl rfl ?_
                refine g_iload_n hC hl dX4_found_99 rfl rfl ?_
                refine g_cVi2 hC hO hl (ci := 4) rfl (nn_lt (Nat.le_of_ble_eq_true rfl)) rfl (c_X4_isExtra l κ _ k (by omega) (exS σ k) (hL k hk).2.2.1 (hL k hk).2.2.2.1 _) mi_X4_isExtra q_ml_RX4_124 rfl rfl ⟨Nat.le_of_ble_eq_true rfl, Nat.le_of_ble_eq_true rfl⟩ (Nat.le_of_ble_eq_true rfl) ⟨Nat.zero_le _, Nat.zero_le _⟩ dX4_found_100 (fun r σ1 F th H locs hr hO => ?_)
                obtain ⟨rfl, rfl⟩ := hr
                refine lv_if_eq (tgt := 108) hC.1 hC.2.1 dX4_found_103 (by decide) (fun c_8 => ?_) (fun c_8 => ?_)
                · skip
                  have c_8 := bI_z c_8
                  refine g_aload_n hC hl dX4_found_108 rfl rfl ?_
                  refine g_get (ci := 4) (k := 15) hC hO rfl inX4 (by decide) q_fl_RX4_48 (nn_lt (Nat.le_of_ble_eq_true rfl)) rfl rfl dX4_found_109 ?_
                  refine g_iload_n hC hl dX4_found_112 rfl rfl ?_
                  refine g_iald hC hO (nn_lt (Nat.le_of_ble_eq_true rfl)) rfl (vp_in_nI (by omega) (by omega)) dX4_found_113 ?_
                  refine lv_bipush (v := 12) hC.1 hC.2.1 dX4_found_114 (by decide) ?_
                  refine lv_icmp_eq (tgt := 139) hC.1 hC.2.1 dX4_found_116 (by decide) (fun c_9 => ?_) (fun c_9 => ?_)
                  · skip
                    rw [ck, (hL k hk).2.2.1, show (12 : Int32) = nI 12 from rfl, nI_eq (by have := (hL k hk).2.2.2.1; omega) (by omega)] at c_9
                    have h116 : ¬ exS σ k < 12 := by omega
                    refine lv_bipush (v := (-14)) hC.1 hC.2.1 dX4_found_139 (by decide) ?_
                    exact g_iret hC hO dX4_found_141 (by unfold mFoundF mFound mEx; simp [hq, hth, hcl, c_3, c_4, c_5, hnle, hlp, c_8, h116])
                  · skip
                    rw [ck, (hL k hk).2.2.1, show (12 : Int32) = nI 12 from rfl, nI_eq (by have := (hL k hk).2.2.2.1; omega) (by omega)] at c_9
                    have h116 : exS σ k < 12 := by have := (hL k hk).2.2.2.1; omega
                    refine g_aload_n hC hl dX4_found_119 rfl rfl ?_
                    refine g_get (ci := 4) (k := 1) hC hO rfl inX4 (by decide) q_fl_RX4_7 (nn_lt (Nat.le_of_ble_eq_true rfl)) rfl rfl dX4_found_120 ?_
                    refine g_iload_n hC hl dX4_found_123 rfl rfl ?_
                    refine g_iald hC hO (nn_lt (Nat.le_of_ble_eq_true rfl)) rfl (vp_in_nI (by omega) (by omega)) dX4_found_124 ?_
                    refine g_iload_n hC hl dX4_found_125 rfl rfl ?_
                    refine lv_icmp_eq (tgt := 142) hC.1 hC.2.1 dX4_found_126 (by decide) (fun c_10 => ?_) (fun c_10 => ?_)
                    · skip
                      rw [hcl] at c_10
                      have h126 := c_10
                      refine g_aload_n hC hl dX4_found_142 rfl rfl ?_
                      refine g_get (ci := 4) (k := 1) hC hO rfl inX4 (by decide) q_fl_RX4_7 (nn_lt (Nat.le_of_ble_eq_true rfl)) rfl rfl dX4_found_143 ?_
                      refine g_iload_n hC hl dX4_found_146 rfl rfl ?_
                      refine g_iald hC hO (nn_lt (Nat.le_of_ble_eq_true rfl)) rfl (vp_in_nI (by omega) (by omega)) dX4_found_147 ?_
                      refine g_iload_n hC hl dX4_found_148 rfl rfl ?_
                      refine lv_icmp_eq (tgt := 171) hC.1 hC.2.1 dX4_found_149 (by decide) (fun c_11 => ?_) (fun c_11 => ?_)
                      · skip
                        rw [hcl] at c_11
                        refine g_aload_n hC hl dX4_found_171 rfl rfl ?_
                        refine g_get (ci := 4) (k := 16) hC hO rfl inX4 (by decide) q_fl_RX4_51 (nn_lt (Nat.le_of_ble_eq_true rfl)) rfl rfl dX4_found_172 ?_
                        refine lv_bipush (v := 12) hC.1 hC.2.1 dX4_found_175 (by decide) ?_
                        refine g_iload_n hC hl dX4_found_177 rfl rfl ?_
                        refine lv_imul hC.1 hC.2.1 dX4_found_178 ?_
                        refine g_aload_n hC hl dX4_found_179 rfl rfl ?_
                        refine g_get (ci := 4) (k := 15) hC hO rfl inX4 (by decide) q_fl_RX4_48 (nn_lt (Nat.le_of_ble_eq_true rfl)) rfl rfl dX4_found_180 ?_
                        refine g_iload_n hC hl dX4_found_183 rfl rfl ?_
                        refine g_iald hC hO (nn_lt (Nat.le_of_ble_eq_true rfl)) rfl (vp_in_nI (by omega) (by omega)) dX4_found_184 ?_
                        refine lv_topi (fun v9 ev9 => ?_)
                        have ev9 : v9 = nI (exS σ k) := ev9.trans (by rw [ck]; exact (hL k hk).2.2.1)
                        subst ev9
                        refine lv_iadd hC.1 hC.2.1 dX4_found_185 ?_
                        refine g_iload_n hC hl dX4_found_186 rfl rfl ?_
                        rw [ix12]
                        refine g_iast hC hO (nn_lt (Nat.le_of_ble_eq_true rfl)) (fun _ _ => rfl) (vp_in_nI (by omega) (by omega)) dX4_found_187 (fun H locs hO => ?_)
                        rw [nI_clamp (n := 12 * k + exS σ k) (by have := (hL k hk).2.2.2.1; omega)] at hO
                        refine g_aload_n hC hl dX4_found_188 rfl rfl ?_
                        refine g_get (ci := 4) (k := 15) hC hO rfl inX4 (by decide) q_fl_RX4_48 (nn_lt (Nat.le_of_ble_eq_true rfl)) rfl rfl dX4_found_189 ?_
                        refine g_iload_n hC hl dX4_found_192 rfl rfl ?_
                        refine lv_dup2_11 hC.1 hC.2.1 dX4_found_193 rfl rfl ?_
                        refine g_iald hC hO (nn_lt (Nat.le_of_ble_eq_true rfl)) rfl (vp_in_nI (by omega) (by omega)) dX4_found_194 ?_
                        refine lv_topi (fun v9 ev9 => ?_)
                        have ev9 : v9 = nI (exS σ k) := ev9.trans (by rw [ck]; exact (hL k hk).2.2.1)
                        subst ev9
                        refine lv_iconst (v := 1) hC.1 hC.2.1 dX4_found_195 (by decide) ?_
                        refine lv_iadd hC.1 hC.2.1 dX4_found_196 ?_
                        rw [nI_1]
                        refine g_iast hC hO (nn_lt (Nat.le_of_ble_eq_true rfl)) (fun _ _ => rfl) (vp_in_nI (by omega) (by omega)) dX4_found_197 (fun H locs hO => ?_)
                        rw [ck] at hO
                        refine g_aload_n hC hl dX4_found_198 rfl rfl ?_
                        refine g_cVv0 hC hO hl (ci := 4) rfl (nn_lt (Nat.le_of_ble_eq_true rfl)) rfl (c_X4_addNote l κ _ n (by exact hn) hn2) mi_X4_addNote q_ml_RX4_113 rfl rfl ⟨Nat.le_of_ble_eq_true rfl, Nat.le_of_ble_eq_true rfl⟩ (Nat.le_of_ble_eq_true rfl) ⟨Nat.zero_le _, Nat.zero_le _⟩ dX4_found_199 (fun σ1 F th H locs hr hO => ?_)
                        subst hr
                        refine lv_iconst (v := 0) hC.1 hC.2.1 dX4_found_202 (by decide) ?_
                        exact g_iret hC hO dX4_found_203 (by unfold mFoundF mFound mEx; simp [hq, hth, hcl, c_3, c_4, c_5, hnle, hlp, c_8, h116, h126]; try rfl)
                      · skip
                        rw [hcl] at c_11
                        exact absurd h126 c_11
                    · skip
                      rw [hcl] at c_10
                      have h126 := c_10
                      refine g_aload_n hC hl dX4_found_129 rfl rfl ?_
                      refine g_iload_n hC hl dX4_found_130 rfl rfl ?_
                      refine g_cVi1 hC hO hl (ci := 4) rfl (nn_lt (Nat.le_of_ble_eq_true rfl)) rfl (c_X4_count l κ _ _) mi_X4_count q_ml_RX4_104 rfl rfl ⟨Nat.le_of_ble_eq_true rfl, Nat.le_of_ble_eq_true rfl⟩ (Nat.le_of_ble_eq_true rfl) ⟨Nat.zero_le _, Nat.zero_le _⟩ dX4_found_131 (fun r σ1 F th H locs hr hO => ?_)
                      obtain ⟨rfl, rfl⟩ := hr
                      refine lv_bipush (v := 12) hC.1 hC.2.1 dX4_found_134 (by decide) ?_
                      refine lv_icmp_ne (tgt := 142) hC.1 hC.2.1 dX4_found_136 (by decide) (fun c_12 => ?_) (fun c_12 => ?_)
                      · skip
                        have hc9 := cntN_le σ (nI (1001 + k)) 1061
                        rw [show (12 : Int32) = nI 12 from rfl, nI_eq (by omega) (by omega)] at c_12
                        refine g_aload_n hC hl dX4_found_142 rfl rfl ?_
                        refine g_get (ci := 4) (k := 1) hC hO rfl inX4 (by decide) q_fl_RX4_7 (nn_lt (Nat.le_of_ble_eq_true rfl)) rfl rfl dX4_found_143 ?_
                        refine g_iload_n hC hl dX4_found_146 rfl rfl ?_
                        refine g_iald hC hO (nn_lt (Nat.le_of_ble_eq_true rfl)) rfl (vp_in_nI (by omega) (by omega)) dX4_found_147 ?_
                        refine g_iload_n hC hl dX4_found_148 rfl rfl ?_
                        refine lv_icmp_eq (tgt := 171) hC.1 hC.2.1 dX4_found_149 (by decide) (fun c_13 => ?_) (fun c_13 => ?_)
                        · skip
                          rw [hcl] at c_13
                          exact absurd c_13 h126
                        · skip
                          rw [hcl] at c_13
                          refine g_aload_n hC hl dX4_found_152 rfl rfl ?_
                          refine g_iload_n hC hl dX4_found_153 rfl rfl ?_
                          refine g_iload_n hC hl dX4_found_154 rfl rfl ?_
                          refine g_cVv2 hC hO hl (ci := 4) rfl (nn_lt (Nat.le_of_ble_eq_true rfl)) rfl (c_X4_put l κ _ t (by omega) _) mi_X4_put q_ml_RX4_107 rfl rfl ⟨Nat.le_of_ble_eq_true rfl, Nat.le_of_ble_eq_true rfl⟩ (Nat.le_of_ble_eq_true rfl) ⟨Nat.zero_le _, Nat.zero_le _⟩ dX4_found_155 (fun σ1 F th H locs hr hO => ?_)
                          subst hr
                          have hM : MB (mPut σ (nI (1001 + k)) t) := hM.put hk (by rw [show sI σ 10 k = mkF σ (nI (1001 + k)) from (by unfold mkF; rw [hq])]; exact hmk)
                          refine g_aload_n hC hl dX4_found_158 rfl rfl ?_
                          refine g_iload_n hC hl dX4_found_159 rfl rfl ?_
                          refine g_aload_n hC hl dX4_found_160 rfl rfl ?_
                          refine g_get (ci := 4) (k := 3) hC hO rfl inX4 (by decide) q_fl_RX4_16 (nn_lt (Nat.le_of_ble_eq_true rfl)) rfl rfl dX4_found_161 ?_
                          refine g_iload_n hC hl dX4_found_164 rfl rfl ?_
                          refine g_iald hC hO (nn_lt (Nat.le_of_ble_eq_true rfl)) rfl (vp_in_nI (by omega) (by omega)) dX4_found_165 ?_
                          rw [cb]
                          refine g_cVi2 hC hO hl (ci := 4) rfl (nn_lt (Nat.le_of_ble_eq_true rfl)) rfl (c_X4_bring l κ _ (by first | exact hM | exact hM.upA 9 _ (by decide) (by decide) (by decide)) t (by omega) (by omega) _) mi_X4_bring q_ml_RX4_127 rfl rfl ⟨Nat.le_of_ble_eq_true rfl, Nat.le_of_ble_eq_true rfl⟩ (Nat.le_of_ble_eq_true rfl) ⟨Nat.zero_le _, Nat.zero_le _⟩ dX4_found_166 (fun r σ1 F th H locs hr hO => ?_)
                          obtain ⟨rfl, rfl⟩ := hr
                          refine g_istore hC hl dX4_found_169 (Nat.le_of_ble_eq_true rfl) rfl (fun ls hl => ?_)
                          have hl : LL ls 6 [some _, some _, some _, some _, some _, some _] := hl
                          refine g_aload_n hC hl dX4_found_171 rfl rfl ?_
                          refine g_get (ci := 4) (k := 16) hC hO rfl inX4 (by decide) q_fl_RX4_51 (nn_lt (Nat.le_of_ble_eq_true rfl)) rfl rfl dX4_found_172 ?_
                          refine lv_bipush (v := 12) hC.1 hC.2.1 dX4_found_175 (by decide) ?_
                          refine g_iload_n hC hl dX4_found_177 rfl rfl ?_
                          refine lv_imul hC.1 hC.2.1 dX4_found_178 ?_
                          refine g_aload_n hC hl dX4_found_179 rfl rfl ?_
                          refine g_get (ci := 4) (k := 15) hC hO rfl inX4 (by decide) q_fl_RX4_48 (nn_lt (Nat.le_of_ble_eq_true rfl)) rfl rfl dX4_found_180 ?_
                          refine g_iload_n hC hl dX4_found_183 rfl rfl ?_
                          refine g_iald hC hO (nn_lt (Nat.le_of_ble_eq_true rfl)) rfl (vp_in_nI (by omega) (by omega)) dX4_found_184 ?_
                          refine lv_topi (fun v9 ev9 => ?_)
                          have ev9 : v9 = nI (exS σ k) := ev9.trans (by rw [ck]; exact (hL k hk).2.2.1)
                          subst ev9
                          refine lv_iadd hC.1 hC.2.1 dX4_found_185 ?_
                          refine g_iload_n hC hl dX4_found_186 rfl rfl ?_
                          rw [ix12]
                          refine g_iast hC hO (nn_lt (Nat.le_of_ble_eq_true rfl)) (fun _ _ => rfl) (vp_in_nI (by omega) (by omega)) dX4_found_187 (fun H locs hO => ?_)
                          rw [nI_clamp (n := 12 * k + exS σ k) (by have := (hL k hk).2.2.2.1; omega)] at hO
                          refine g_aload_n hC hl dX4_found_188 rfl rfl ?_
                          refine g_get (ci := 4) (k := 15) hC hO rfl inX4 (by decide) q_fl_RX4_48 (nn_lt (Nat.le_of_ble_eq_true rfl)) rfl rfl dX4_found_189 ?_
                          refine g_iload_n hC hl dX4_found_192 rfl rfl ?_
                          refine lv_dup2_11 hC.1 hC.2.1 dX4_found_193 rfl rfl ?_
                          refine g_iald hC hO (nn_lt (Nat.le_of_ble_eq_true rfl)) rfl (vp_in_nI (by omega) (by omega)) dX4_found_194 ?_
                          refine lv_topi (fun v9 ev9 => ?_)
                          have ev9 : v9 = nI (exS σ k) := ev9.trans (by rw [ck]; exact (hL k hk).2.2.1)
                          subst ev9
                          refine lv_iconst (v := 1) hC.1 hC.2.1 dX4_found_195 (by decide) ?_
                          refine lv_iadd hC.1 hC.2.1 dX4_found_196 ?_
                          rw [nI_1]
                          refine g_iast hC hO (nn_lt (Nat.le_of_ble_eq_true rfl)) (fun _ _ => rfl) (vp_in_nI (by omega) (by omega)) dX4_found_197 (fun H locs hO => ?_)
                          rw [ck] at hO
                          refine g_aload_n hC hl dX4_found_198 rfl rfl ?_
                          refine g_cVv0 hC hO hl (ci := 4) rfl (nn_lt (Nat.le_of_ble_eq_true rfl)) rfl (c_X4_addNote l κ _ n (by exact hn) hn2) mi_X4_addNote q_ml_RX4_113 rfl rfl ⟨Nat.le_of_ble_eq_true rfl, Nat.le_of_ble_eq_true rfl⟩ (Nat.le_of_ble_eq_true rfl) ⟨Nat.zero_le _, Nat.zero_le _⟩ dX4_found_199 (fun σ1 F th H locs hr hO => ?_)
                          subst hr
                          refine lv_iconst (v := 0) hC.1 hC.2.1 dX4_found_202 (by decide) ?_
                          exact g_iret hC hO dX4_found_203 (by unfold mFoundF mFound mEx; simp [hq, hth, hcl, c_3, c_4, c_5, hnle, hlp, c_8, h116, h126, c_12]; try rfl)
                      · skip
                        have hc9 := cntN_le σ (nI (1001 + k)) 1061
                        rw [show (12 : Int32) = nI 12 from rfl, nI_eq (by omega) (by omega)] at c_12
                        refine lv_bipush (v := (-14)) hC.1 hC.2.1 dX4_found_139 (by decide) ?_
                        exact g_iret hC hO dX4_found_141 (by unfold mFoundF mFound mEx; simp [hq, hth, hcl, c_3, c_4, c_5, hnle, hlp, c_8, h116, h126, c_12])
                · skip
                  have c_8 := bI_nz c_8
                  refine lv_iconst (v := 0) hC.1 hC.2.1 dX4_found_106 (by decide) ?_
                  exact g_iret hC hO dX4_found_107 (by unfold mFoundF mFound mEx; simp [hq, hth, hcl, c_3, c_4, c_5, hnle, hlp, c_8])
              · skip
                have hlp := c_7
                obtain ⟨p9, hp9, ep9⟩ := lpF_nn hlp
                have e79 : (lpF σ k (nI t) (lnS σ k)).toNatClampNeg = p9 := by rw [ep9, nI_clamp (by have := (hL k hk).2.1; omega)]
                have hp12 : p9 < 12 := by have := (hL k hk).2.1; omega
                refine g_aload_n hC hl dX4_found_82 rfl rfl ?_
                refine g_get (ci := 4) (k := 14) hC hO rfl inX4 (by decide) q_fl_RX4_45 (nn_lt (Nat.le_of_ble_eq_true rfl)) rfl rfl dX4_found_83 ?_
                refine lv_bipush (v := 12) hC.1 hC.2.1 dX4_found_86 (by decide) ?_
                refine g_iload_n hC hl dX4_found_88 rfl rfl ?_
                refine lv_imul hC.1 hC.2.1 dX4_found_89 ?_
                refine g_iload hC hl dX4_found_90 rfl ?_
                refine lv_iadd hC.1 hC.2.1 dX4_found_92 ?_
                rw [ep9, ix12]
                refine lv_iconst (v := 1) hC.1 hC.2.1 dX4_found_93 (by decide) ?_
                refine g_zast hC hO (nn_lt (Nat.le_of_ble_eq_true rfl)) (fun _ _ => rfl) (vp_in_nI (by omega) (by omega)) (by decide) dX4_found_94 (fun H locs hO => ?_)
                rw [nI_clamp (n := 12 * k + p9) (by omega)] at hO
                refine lv_iconst (v := 1) hC.1 hC.2.1 dX4_found_95 (by decide) ?_
                exact g_iret hC hO dX4_found_96 (by unfold mFoundF mFound mEx; simp [hq, hth, hcl, c_3, c_4, c_5, hnle, hlp, e79])
            · skip
              have hmk : mkF σ (nI (1001 + k)) ≤ mkF σ (nI t) := Int32.not_lt.mp c_6
              refine lv_bipush (v := (-13)) hC.1 hC.2.1 dX4_found_66 (by decide) ?_
              exact g_iret hC hO dX4_found_68 (by unfold mFoundF mFound mEx; simp [hq, hth, hcl, c_3, c_4, c_5, hmk])
    · skip
      have c_2 := bI_z c_2
      have hth := c_2
      refine lv_bipush (v := (-11)) hC.1 hC.2.1 dX4_found_21 (by decide) ?_
      exact g_iret hC hO dX4_found_23 (by unfold mFoundF mFound mEx; simp [hq, hth])

set_option maxHeartbeats 4000000 in
set_option maxRecDepth 100000 in
/-- BagRowsModel.differ -/
theorem c_X4_differ (l : Launch) (κ : KK) (σ : ST) (hM : MB σ) (hL : ML σ) (p0 p1 p2 : Int32) : Met l yX4_differ (wA yX4_differ cX4_differ 4 (some .int)) ({ frames := 2, cells := 0, slots := 0, locals := 49 }) (va_Pc [.ref (kad κ 6), .int p0, .int p1, .int p2] (WX κ σ)) (va_Qi (fun r σ' => σ = σ' ∧ r = mDiffer σ p0 p1 p2) (WX κ) (FA κ)) 0 0 (FA κ) := by
  refine g_met 0 (by decide) rfl (Nat.le_of_ble_eq_true rfl) ?_
  intro p e s m args below meth c hC F th hO ls hl
  have hl : LL ls 4 [some _, some _, some _, some _] := hl
  have h60 := hM.2.1
  refine g_aload_n hC hl dX4_differ_0 rfl rfl ?_
  refine lv_iconst (v := 0) hC.1 hC.2.1 dX4_differ_1 (by decide) ?_
  refine g_putT hC hO q_fl_RX4_69 dX4_differ_2 (fun H locs hO => ?_)
  refine g_aload_n hC hl dX4_differ_5 rfl rfl ?_
  refine g_iload_n hC hl dX4_differ_6 rfl rfl ?_
  refine g_cVi1 hC hO hl (ci := 4) rfl (nn_lt (Nat.le_of_ble_eq_true rfl)) rfl (c_X4_isBag l κ _ (by first | exact hM | exact hM.upA 9 _ (by decide) (by decide) (by decide)) _) mi_X4_isBag q_ml_RX4_76 rfl rfl ⟨Nat.le_of_ble_eq_true rfl, Nat.le_of_ble_eq_true rfl⟩ (Nat.le_of_ble_eq_true rfl) ⟨Nat.zero_le _, Nat.zero_le _⟩ dX4_differ_7 (fun r σ1 F th H locs hr hO => ?_)
  obtain ⟨rfl, rfl⟩ := hr
  refine lv_if_ne (tgt := 16) hC.1 hC.2.1 dX4_differ_10 (by decide) (fun c_1 => ?_) (fun c_1 => ?_)
  · skip
    have c_1 := bI_nz c_1
    obtain ⟨k, hq, hk, rfl⟩ := recOf_isSome c_1
    have hbt := thing_bag hq
    have ck : (nI k).toNatClampNeg = k := nI_clamp (by omega)
    have cb : (nI (1001 + k)).toNatClampNeg = 1001 + k := nI_clamp (by omega)
    refine g_iload_n hC hl dX4_differ_16 rfl rfl ?_
    refine lv_if_lt (tgt := 25) hC.1 hC.2.1 dX4_differ_17 (by decide) (fun c_2 => ?_) (fun c_2 => ?_)
    · skip
      refine lv_bipush (v := (-12)) hC.1 hC.2.1 dX4_differ_25 (by decide) ?_
      exact g_iret hC hO dX4_differ_27 (⟨rfl, by unfold mDiffer; simp [hq, c_2]⟩)
    · skip
      refine g_iload_n hC hl dX4_differ_20 rfl rfl ?_
      refine lv_iconst (v := 1) hC.1 hC.2.1 dX4_differ_21 (by decide) ?_
      refine lv_icmp_le (tgt := 28) hC.1 hC.2.1 dX4_differ_22 (by decide) (fun c_3 => ?_) (fun c_3 => ?_)
      · skip
        refine g_aload_n hC hl dX4_differ_28 rfl rfl ?_
        refine g_get (ci := 4) (k := 8) hC hO rfl inX4 (by decide) q_fl_RX4_26 (nn_lt (Nat.le_of_ble_eq_true rfl)) rfl rfl dX4_differ_29 ?_
        refine g_iload_n hC hl dX4_differ_32 rfl rfl ?_
        refine lv_sipush (v := 1001) hC.1 hC.2.1 dX4_differ_33 (by decide) ?_
        refine lv_isub hC.1 hC.2.1 dX4_differ_36 ?_
        rw [sub1001 (by omega)]
        refine g_zald hC hO (nn_lt (Nat.le_of_ble_eq_true rfl)) rfl (vp_in_nI (by omega) (by omega)) dX4_differ_37 ?_
        refine lv_if_ne (tgt := 44) hC.1 hC.2.1 dX4_differ_38 (by decide) (fun c_4 => ?_) (fun c_4 => ?_)
        · skip
          rw [ck] at c_4
          refine g_iload_n hC hl dX4_differ_44 rfl rfl ?_
          refine lv_if_ge (tgt := 52) hC.1 hC.2.1 dX4_differ_45 (by decide) (fun c_5 => ?_) (fun c_5 => ?_)
          · skip
            obtain ⟨i, hi, rfl⟩ := nI_of (Int32.not_lt.mpr c_5)
            have ci : (nI i).toNatClampNeg = i := nI_clamp hi
            have hi0 := nI_pos hi
            refine g_aload_n hC hl dX4_differ_52 rfl rfl ?_
            refine g_iload_n hC hl dX4_differ_53 rfl rfl ?_
            refine lv_sipush (v := 1001) hC.1 hC.2.1 dX4_differ_54 (by decide) ?_
            refine lv_isub hC.1 hC.2.1 dX4_differ_57 ?_
            rw [sub1001 (by omega)]
            refine g_iload_n hC hl dX4_differ_58 rfl rfl ?_
            refine g_iload_n hC hl dX4_differ_59 rfl rfl ?_
            refine g_cVi3 hC hO hl (ci := 4) rfl (nn_lt (Nat.le_of_ble_eq_true rfl)) rfl (c_X4_difference l κ _ k (by omega) (lnS σ k) (hL k hk).1 (hL k hk).2.1 (exS σ k) (hL k hk).2.2.1 (hL k hk).2.2.2.1 (weS σ k) (hL k hk).2.2.2.2.1 (hL k hk).2.2.2.2.2 i hi _) mi_X4_difference q_ml_RX4_134 rfl rfl ⟨Nat.le_of_ble_eq_true rfl, Nat.le_of_ble_eq_true rfl⟩ (Nat.le_of_ble_eq_true rfl) ⟨Nat.zero_le _, Nat.zero_le _⟩ dX4_differ_60 (fun r σ1 F th H locs hr hO => ?_)
            obtain ⟨rfl, rfl⟩ := hr
            exact g_iret hC hO dX4_differ_63 (⟨rfl, by unfold mDiffer; simp [hq, c_2, c_3, c_4, hi0, ci]⟩)
          · skip
            have hi0 : p1 < 0 := Int32.not_le.mp c_5
            refine lv_iconst (v := (-1)) hC.1 hC.2.1 dX4_differ_48 (by decide) ?_
            refine lv_goto (tgt := 63) hC.1 hC.2.1 dX4_differ_49 (by decide) ?_
            exact g_iret hC hO dX4_differ_63 (⟨rfl, by unfold mDiffer; simp [hq, c_2, c_3, c_4, hi0]⟩)
        · skip
          rw [ck] at c_4
          refine lv_bipush (v := (-13)) hC.1 hC.2.1 dX4_differ_41 (by decide) ?_
          exact g_iret hC hO dX4_differ_43 (⟨rfl, by unfold mDiffer; simp [hq, c_2, c_3, c_4]⟩)
      · skip
        refine lv_bipush (v := (-12)) hC.1 hC.2.1 dX4_differ_25 (by decide) ?_
        exact g_iret hC hO dX4_differ_27 (⟨rfl, by unfold mDiffer; simp [hq, c_2, c_3]⟩)
  · skip
    have c_1 := bI_z c_1
    have hq := recOf_no c_1
    refine lv_bipush (v := (-11)) hC.1 hC.2.1 dX4_differ_13 (by decide) ?_
    exact g_iret hC hO dX4_differ_15 (⟨rfl, by unfold mDiffer; simp [hq]⟩)

set_option maxHeartbeats 4000000 in
set_option maxRecDepth 100000 in
/-- BagRowsModel.inside -/
theorem c_X4_inside (l : Launch) (κ : KK) (σ : ST) (hM : MB σ) (p0 : Int32) : Met l yX4_inside (wA yX4_inside cX4_inside 2 (some .int)) ({ frames := 2, cells := 0, slots := 0, locals := 42 }) (va_Pc [.ref (kad κ 6), .int p0] (WX κ σ)) (va_Qi (fun r σ' => σ = σ' ∧ r = mInside σ p0) (WX κ) (FA κ)) 0 0 (FA κ) := by
  refine g_met 0 (by decide) rfl (Nat.le_of_ble_eq_true rfl) ?_
  intro p e s m args below meth c hC F th hO ls hl
  have hl : LL ls 2 [some _, some _] := hl
  have h60 := hM.2.1
  refine g_aload_n hC hl dX4_inside_0 rfl rfl ?_
  refine lv_iconst (v := 0) hC.1 hC.2.1 dX4_inside_1 (by decide) ?_
  refine g_putT hC hO q_fl_RX4_69 dX4_inside_2 (fun H locs hO => ?_)
  refine g_aload_n hC hl dX4_inside_5 rfl rfl ?_
  refine g_iload_n hC hl dX4_inside_6 rfl rfl ?_
  refine g_cVi1 hC hO hl (ci := 4) rfl (nn_lt (Nat.le_of_ble_eq_true rfl)) rfl (c_X4_isThing l κ _ (by first | exact hM | exact hM.upA 9 _ (by decide) (by decide) (by decide)) _) mi_X4_isThing q_ml_RX4_95 rfl rfl ⟨Nat.le_of_ble_eq_true rfl, Nat.le_of_ble_eq_true rfl⟩ (Nat.le_of_ble_eq_true rfl) ⟨Nat.zero_le _, Nat.zero_le _⟩ dX4_inside_7 (fun r σ1 F th H locs hr hO => ?_)
  obtain ⟨rfl, rfl⟩ := hr
  refine lv_if_eq (tgt := 22) hC.1 hC.2.1 dX4_inside_10 (by decide) (fun c_1 => ?_) (fun c_1 => ?_)
  · skip
    have c_1 := bI_z c_1
    have hth := c_1
    refine lv_bipush (v := (-11)) hC.1 hC.2.1 dX4_inside_22 (by decide) ?_
    exact g_iret hC hO dX4_inside_24 (⟨rfl, by unfold mInside; simp [hth]⟩)
  · skip
    have c_1 := bI_nz c_1
    obtain ⟨t, ht1, ht2, rfl⟩ := thing_ex c_1 h60
    have hth : thingB σ (nI t) = true := c_1
    have hcl : (nI t).toNatClampNeg = t := nI_clamp (by omega)
    refine g_aload_n hC hl dX4_inside_13 rfl rfl ?_
    refine g_get (ci := 4) (k := 1) hC hO rfl inX4 (by decide) q_fl_RX4_7 (nn_lt (Nat.le_of_ble_eq_true rfl)) rfl rfl dX4_inside_14 ?_
    refine g_iload_n hC hl dX4_inside_17 rfl rfl ?_
    refine g_iald hC hO (nn_lt (Nat.le_of_ble_eq_true rfl)) rfl (vp_in_nI (by omega) (by omega)) dX4_inside_18 ?_
    refine lv_goto (tgt := 24) hC.1 hC.2.1 dX4_inside_19 (by decide) ?_
    exact g_iret hC hO dX4_inside_24 (⟨rfl, by unfold mInside; simp [hth, hcl]⟩)

set_option maxHeartbeats 4000000 in
set_option maxRecDepth 100000 in
/-- BagRowsModel.place -/
theorem c_X4_place (l : Launch) (κ : KK) (σ : ST) (hM : MB σ) (p0 : Int32) : Met l yX4_place (wA yX4_place cX4_place 2 (some .int)) ({ frames := 2, cells := 0, slots := 0, locals := 42 }) (va_Pc [.ref (kad κ 6), .int p0] (WX κ σ)) (va_Qi (fun r σ' => σ = σ' ∧ r = mPlace σ p0) (WX κ) (FA κ)) 0 0 (FA κ) := by
  refine g_met 0 (by decide) rfl (Nat.le_of_ble_eq_true rfl) ?_
  intro p e s m args below meth c hC F th hO ls hl
  have hl : LL ls 2 [some _, some _] := hl
  have h60 := hM.2.1
  refine g_aload_n hC hl dX4_place_0 rfl rfl ?_
  refine lv_iconst (v := 0) hC.1 hC.2.1 dX4_place_1 (by decide) ?_
  refine g_putT hC hO q_fl_RX4_69 dX4_place_2 (fun H locs hO => ?_)
  refine g_aload_n hC hl dX4_place_5 rfl rfl ?_
  refine g_iload_n hC hl dX4_place_6 rfl rfl ?_
  refine g_cVi1 hC hO hl (ci := 4) rfl (nn_lt (Nat.le_of_ble_eq_true rfl)) rfl (c_X4_isThing l κ _ (by first | exact hM | exact hM.upA 9 _ (by decide) (by decide) (by decide)) _) mi_X4_isThing q_ml_RX4_95 rfl rfl ⟨Nat.le_of_ble_eq_true rfl, Nat.le_of_ble_eq_true rfl⟩ (Nat.le_of_ble_eq_true rfl) ⟨Nat.zero_le _, Nat.zero_le _⟩ dX4_place_7 (fun r σ1 F th H locs hr hO => ?_)
  obtain ⟨rfl, rfl⟩ := hr
  refine lv_if_eq (tgt := 22) hC.1 hC.2.1 dX4_place_10 (by decide) (fun c_1 => ?_) (fun c_1 => ?_)
  · skip
    have c_1 := bI_z c_1
    have hth := c_1
    refine lv_bipush (v := (-11)) hC.1 hC.2.1 dX4_place_22 (by decide) ?_
    exact g_iret hC hO dX4_place_24 (⟨rfl, by unfold mPlace; simp [hth]⟩)
  · skip
    have c_1 := bI_nz c_1
    obtain ⟨t, ht1, ht2, rfl⟩ := thing_ex c_1 h60
    have hth : thingB σ (nI t) = true := c_1
    have hcl : (nI t).toNatClampNeg = t := nI_clamp (by omega)
    refine g_aload_n hC hl dX4_place_13 rfl rfl ?_
    refine g_get (ci := 4) (k := 3) hC hO rfl inX4 (by decide) q_fl_RX4_16 (nn_lt (Nat.le_of_ble_eq_true rfl)) rfl rfl dX4_place_14 ?_
    refine g_iload_n hC hl dX4_place_17 rfl rfl ?_
    refine g_iald hC hO (nn_lt (Nat.le_of_ble_eq_true rfl)) rfl (vp_in_nI (by omega) (by omega)) dX4_place_18 ?_
    refine lv_goto (tgt := 24) hC.1 hC.2.1 dX4_place_19 (by decide) ?_
    exact g_iret hC hO dX4_place_24 (⟨rfl, by unfold mPlace; simp [hth, hcl]⟩)

set_option maxHeartbeats 4000000 in
set_option maxRecDepth 100000 in
/-- BagRowsModel.document -/
theorem c_X4_document (l : Launch) (κ : KK) (σ : ST) (hM : MB σ) (hL : ML σ) (p0 p1 : Int32) : Met l yX4_document (wA yX4_document cX4_document 3 (some .int)) ({ frames := 1, cells := 0, slots := 0, locals := 21 }) (va_Pc [.ref (kad κ 6), .int p0, .int p1] (WX κ σ)) (va_Qi (fun r σ' => σ = σ' ∧ r = mDocument σ p0 p1) (WX κ) (FA κ)) 0 0 (FA κ) := by
  refine g_met 0 (by decide) rfl (Nat.le_of_ble_eq_true rfl) ?_
  intro p e s m args below meth c hC F th hO ls hl
  have hl : LL ls 3 [some _, some _, some _] := hl
  have h60 := hM.2.1
  refine g_aload_n hC hl dX4_document_0 rfl rfl ?_
  refine lv_iconst (v := 0) hC.1 hC.2.1 dX4_document_1 (by decide) ?_
  refine g_putT hC hO q_fl_RX4_69 dX4_document_2 (fun H locs hO => ?_)
  refine g_aload_n hC hl dX4_document_5 rfl rfl ?_
  refine g_iload_n hC hl dX4_document_6 rfl rfl ?_
  refine g_cVi1 hC hO hl (ci := 4) rfl (nn_lt (Nat.le_of_ble_eq_true rfl)) rfl (c_X4_isBag l κ _ (by first | exact hM | exact hM.upA 9 _ (by decide) (by decide) (by decide)) _) mi_X4_isBag q_ml_RX4_76 rfl rfl ⟨Nat.le_of_ble_eq_true rfl, Nat.le_of_ble_eq_true rfl⟩ (Nat.le_of_ble_eq_true rfl) ⟨Nat.zero_le _, Nat.zero_le _⟩ dX4_document_7 (fun r σ1 F th H locs hr hO => ?_)
  obtain ⟨rfl, rfl⟩ := hr
  refine lv_if_ne (tgt := 16) hC.1 hC.2.1 dX4_document_10 (by decide) (fun c_1 => ?_) (fun c_1 => ?_)
  · skip
    have c_1 := bI_nz c_1
    obtain ⟨k, hq, hk, rfl⟩ := recOf_isSome c_1
    have hbt := thing_bag hq
    have ck : (nI k).toNatClampNeg = k := nI_clamp (by omega)
    have cb : (nI (1001 + k)).toNatClampNeg = 1001 + k := nI_clamp (by omega)
    refine g_iload_n hC hl dX4_document_16 rfl rfl ?_
    refine lv_if_lt (tgt := 52) hC.1 hC.2.1 dX4_document_17 (by decide) (fun c_2 => ?_) (fun c_2 => ?_)
    · skip
      --
      refine lv_iconst (v := 0) hC.1 hC.2.1 dX4_document_52 (by decide) ?_
      exact g_iret hC hO dX4_document_53 (⟨rfl, by unfold mDocument; simp [hq, c_2]⟩)
    · skip
      obtain ⟨i, hi, rfl⟩ := nI_of c_2
      have ci : (nI i).toNatClampNeg = i := nI_clamp hi
      refine g_iload_n hC hl dX4_document_20 rfl rfl ?_
      refine g_aload_n hC hl dX4_document_21 rfl rfl ?_
      refine g_get (ci := 4) (k := 12) hC hO rfl inX4 (by decide) q_fl_RX4_39 (nn_lt (Nat.le_of_ble_eq_true rfl)) rfl rfl dX4_document_22 ?_
      refine g_iload_n hC hl dX4_document_25 rfl rfl ?_
      refine lv_sipush (v := 1001) hC.1 hC.2.1 dX4_document_26 (by decide) ?_
      refine lv_isub hC.1 hC.2.1 dX4_document_29 ?_
      rw [sub1001 (by omega)]
      refine g_iald hC hO (nn_lt (Nat.le_of_ble_eq_true rfl)) rfl (vp_in_nI (by omega) (by omega)) dX4_document_30 ?_
      refine lv_icmp_ge (tgt := 52) hC.1 hC.2.1 dX4_document_31 (by decide) (fun c_3 => ?_) (fun c_3 => ?_)
      · skip
        rw [ck, (hL k hk).1] at c_3
        refine lv_iconst (v := 0) hC.1 hC.2.1 dX4_document_52 (by decide) ?_
        exact g_iret hC hO dX4_document_53 (⟨rfl, by unfold mDocument; simp [hq, c_2, ci, c_3]⟩)
      · skip
        rw [ck, (hL k hk).1] at c_3
        have hll := c_3
        have hln := (hL k hk).2.1
        rw [nI_leI (by omega) (by omega)] at hll
        have cx9 : (nI (12 * k + i)).toNatClampNeg = 12 * k + i := nI_clamp (by omega)
        refine g_aload_n hC hl dX4_document_34 rfl rfl ?_
        refine g_get (ci := 4) (k := 13) hC hO rfl inX4 (by decide) q_fl_RX4_42 (nn_lt (Nat.le_of_ble_eq_true rfl)) rfl rfl dX4_document_35 ?_
        refine lv_bipush (v := 12) hC.1 hC.2.1 dX4_document_38 (by decide) ?_
        refine g_iload_n hC hl dX4_document_40 rfl rfl ?_
        refine lv_sipush (v := 1001) hC.1 hC.2.1 dX4_document_41 (by decide) ?_
        refine lv_isub hC.1 hC.2.1 dX4_document_44 ?_
        rw [sub1001 (by omega)]
        refine lv_imul hC.1 hC.2.1 dX4_document_45 ?_
        refine g_iload_n hC hl dX4_document_46 rfl rfl ?_
        refine lv_iadd hC.1 hC.2.1 dX4_document_47 ?_
        rw [ix12]
        refine g_iald hC hO (nn_lt (Nat.le_of_ble_eq_true rfl)) rfl (vp_in_nI (by omega) (by omega)) dX4_document_48 ?_
        refine lv_goto (tgt := 53) hC.1 hC.2.1 dX4_document_49 (by decide) ?_
        exact g_iret hC hO dX4_document_53 (⟨rfl, by unfold mDocument; simp [hq, c_2, ci, c_3, cx9]⟩)
  · skip
    have c_1 := bI_z c_1
    have hq := recOf_no c_1
    refine lv_bipush (v := (-11)) hC.1 hC.2.1 dX4_document_13 (by decide) ?_
    exact g_iret hC hO dX4_document_15 (⟨rfl, by unfold mDocument; simp [hq]⟩)

set_option maxHeartbeats 4000000 in
set_option maxRecDepth 100000 in
/-- BagRowsModel.move -/
theorem c_X4_move (l : Launch) (κ : KK) (σ : ST) (hM : MB σ) (p0 p1 : Int32) : Met l yX4_move (wA yX4_move cX4_move 3 (some .int)) ({ frames := 3, cells := 0, slots := 0, locals := 69 }) (va_Pc [.ref (kad κ 6), .int p0, .int p1] (WX κ σ)) (va_Qi (fun r σ' => (r, σ') = mMove σ p0 p1) (WX κ) (FA κ)) 0 0 (FA κ) := by
  refine g_met 0 (by decide) rfl (Nat.le_of_ble_eq_true rfl) ?_
  intro p e s m args below meth c hC F th hO ls hl
  have hl : LL ls 3 [some _, some _, some _] := hl
  have h60 := hM.2.1
  refine g_aload_n hC hl dX4_move_0 rfl rfl ?_
  refine lv_iconst (v := 0) hC.1 hC.2.1 dX4_move_1 (by decide) ?_
  refine g_putT hC hO q_fl_RX4_69 dX4_move_2 (fun H locs hO => ?_)
  refine g_aload_n hC hl dX4_move_5 rfl rfl ?_
  refine g_iload_n hC hl dX4_move_6 rfl rfl ?_
  refine g_cVi1 hC hO hl (ci := 4) rfl (nn_lt (Nat.le_of_ble_eq_true rfl)) rfl (c_X4_isBag l κ _ (by first | exact hM | exact hM.upA 9 _ (by decide) (by decide) (by decide)) _) mi_X4_isBag q_ml_RX4_76 rfl rfl ⟨Nat.le_of_ble_eq_true rfl, Nat.le_of_ble_eq_true rfl⟩ (Nat.le_of_ble_eq_true rfl) ⟨Nat.zero_le _, Nat.zero_le _⟩ dX4_move_7 (fun r σ1 F th H locs hr hO => ?_)
  obtain ⟨rfl, rfl⟩ := hr
  refine lv_if_ne (tgt := 16) hC.1 hC.2.1 dX4_move_10 (by decide) (fun c_1 => ?_) (fun c_1 => ?_)
  · skip
    have c_1 := bI_nz c_1
    obtain ⟨k, hq, hk, rfl⟩ := recOf_isSome c_1
    have hbt := thing_bag hq
    have ck : (nI k).toNatClampNeg = k := nI_clamp (by omega)
    have cb : (nI (1001 + k)).toNatClampNeg = 1001 + k := nI_clamp (by omega)
    refine g_iload_n hC hl dX4_move_16 rfl rfl ?_
    refine lv_if_lt (tgt := 26) hC.1 hC.2.1 dX4_move_17 (by decide) (fun c_2 => ?_) (fun c_2 => ?_)
    · skip
      refine lv_bipush (v := (-12)) hC.1 hC.2.1 dX4_move_26 (by decide) ?_
      exact g_iret hC hO dX4_move_28 (by unfold mMove; simp [hq, c_2])
    · skip
      refine g_iload_n hC hl dX4_move_20 rfl rfl ?_
      refine lv_bipush (v := 9) hC.1 hC.2.1 dX4_move_21 (by decide) ?_
      refine lv_icmp_le (tgt := 29) hC.1 hC.2.1 dX4_move_23 (by decide) (fun c_3 => ?_) (fun c_3 => ?_)
      · skip
        refine g_aload_n hC hl dX4_move_29 rfl rfl ?_
        refine g_get (ci := 4) (k := 7) hC hO rfl inX4 (by decide) q_fl_RX4_22 (nn_lt (Nat.le_of_ble_eq_true rfl)) rfl rfl dX4_move_30 ?_
        refine g_iload_n hC hl dX4_move_33 rfl rfl ?_
        refine lv_sipush (v := 1001) hC.1 hC.2.1 dX4_move_34 (by decide) ?_
        refine lv_isub hC.1 hC.2.1 dX4_move_37 ?_
        rw [sub1001 (by omega)]
        refine g_zald hC hO (nn_lt (Nat.le_of_ble_eq_true rfl)) rfl (vp_in_nI (by omega) (by omega)) dX4_move_38 ?_
        refine lv_if_eq (tgt := 60) hC.1 hC.2.1 dX4_move_39 (by decide) (fun c_4 => ?_) (fun c_4 => ?_)
        · skip
          rw [ck] at c_4
          refine lv_bipush (v := (-13)) hC.1 hC.2.1 dX4_move_60 (by decide) ?_
          exact g_iret hC hO dX4_move_62 (by unfold mMove; simp [hq, c_2, c_3, c_4])
        · skip
          rw [ck] at c_4
          refine g_aload_n hC hl dX4_move_42 rfl rfl ?_
          refine g_get (ci := 4) (k := 1) hC hO rfl inX4 (by decide) q_fl_RX4_7 (nn_lt (Nat.le_of_ble_eq_true rfl)) rfl rfl dX4_move_43 ?_
          refine g_iload_n hC hl dX4_move_46 rfl rfl ?_
          refine g_iald hC hO (nn_lt (Nat.le_of_ble_eq_true rfl)) rfl (vp_in_nI (by omega) (by omega)) dX4_move_47 ?_
          refine lv_if_ne (tgt := 60) hC.1 hC.2.1 dX4_move_48 (by decide) (fun c_5 => ?_) (fun c_5 => ?_)
          · skip
            rw [cb] at c_5
            refine lv_bipush (v := (-13)) hC.1 hC.2.1 dX4_move_60 (by decide) ?_
            exact g_iret hC hO dX4_move_62 (by unfold mMove; simp [hq, c_2, c_3, c_4, c_5])
          · skip
            rw [cb] at c_5
            refine g_aload_n hC hl dX4_move_51 rfl rfl ?_
            refine g_iload_n hC hl dX4_move_52 rfl rfl ?_
            refine g_iload_n hC hl dX4_move_53 rfl rfl ?_
            refine g_cVi2 hC hO hl (ci := 4) rfl (nn_lt (Nat.le_of_ble_eq_true rfl)) rfl (c_X4_bring l κ _ (by first | exact hM | exact hM.upA 9 _ (by decide) (by decide) (by decide)) (1001 + k) (by omega) (by omega) _) mi_X4_bring q_ml_RX4_127 rfl rfl ⟨Nat.le_of_ble_eq_true rfl, Nat.le_of_ble_eq_true rfl⟩ (Nat.le_of_ble_eq_true rfl) ⟨Nat.zero_le _, Nat.zero_le _⟩ dX4_move_54 (fun r σ1 F th H locs hr hO => ?_)
            obtain ⟨rfl, rfl⟩ := hr
            refine lv_goto (tgt := 62) hC.1 hC.2.1 dX4_move_57 (by decide) ?_
            exact g_iret hC hO dX4_move_62 (by unfold mMove; simp [hq, c_2, c_3, c_4, c_5])
      · skip
        refine lv_bipush (v := (-12)) hC.1 hC.2.1 dX4_move_26 (by decide) ?_
        exact g_iret hC hO dX4_move_28 (by unfold mMove; simp [hq, c_2, c_3])
  · skip
    have c_1 := bI_z c_1
    have hq := recOf_no c_1
    refine lv_bipush (v := (-11)) hC.1 hC.2.1 dX4_move_13 (by decide) ?_
    exact g_iret hC hO dX4_move_15 (by unfold mMove; simp [hq])

set_option maxHeartbeats 4000000 in
set_option maxRecDepth 100000 in
/-- BagRowsModel.weight -/
theorem c_X4_weight (l : Launch) (κ : KK) (σ : ST) (hM : MB σ) (hL : ML σ) (n : Nat) (hn : sI σ 6 21 = nI n) (hn2 : n < 2000) (p0 : Int32) (p1 : Int64) : Met l yX4_weight (wA yX4_weight cX4_weight 9 (some .int)) ({ frames := 2, cells := 0, slots := 0, locals := 45 }) (va_Pc [.ref (kad κ 6), .int p0, .long p1] (WX κ σ)) (va_Qi (fun r σ' => (r, σ') = mWeightF σ p0 p1) (WX κ) (FA κ)) 0 0 (FA κ) := by
  refine g_met 5 (by decide) rfl (Nat.le_of_ble_eq_true rfl) ?_
  intro p e s m args below meth c hC F th hO ls hl
  have hl : LL ls 9 [some _, some _, some _, none, none, none, none, none, none] := hl
  have h60 := hM.2.1
  have loop43 : ∀ (k : Nat), k < 60 → (∀ (F : Nat → Nat → Int32) (th : Int32) (H : Heap) (locs : List Loc), OS κ s.heap σ F th H locs → ∀ ls : Array Slot, LL ls 9 [some (.ref (kad κ 6)), some (.int (nI (1001 + k))), some (.long p1), none, some (.long (mws σ (1001 + k) 1061)), none, none, none, none] → W p l e ({ frames := 2, cells := 0, slots := 0, locals := 45 } : Room) s m args below meth c H locs 0 0 (MQ below (va_Qi (fun r σ' => (r, σ') = mWeightF σ p0 p1) (WX κ) (FA κ)) args s 0 0 (FA κ)) (F0 m 83 ls [])) → ∀ (n2 i : Nat), 1062 ≤ i + n2 → i ≤ 1061 → 1 ≤ i → ∀ (F : Nat → Nat → Int32) (th : Int32) (H : Heap) (locs : List Loc), OS κ s.heap σ F th H locs → ∀ ls : Array Slot, LL ls 9 [some (.ref (kad κ 6)), some (.int (nI (1001 + k))), some (.long p1), none, some (.long (mws σ (1001 + k) i)), none, some (.int (nI i)), none, none] → W p l e ({ frames := 2, cells := 0, slots := 0, locals := 45 } : Room) s m args below meth c H locs 0 0 (MQ below (va_Qi (fun r σ' => (r, σ') = mWeightF σ p0 p1) (WX κ) (FA κ)) args s 0 0 (FA κ)) (F0 m 43 ls []) := by
    intro k hk K n2
    induction n2 with
    | zero => intro i h1 h2; exact absurd h1 (by omega)
    | succ n2 ih =>
      intro i h1 h2 h3 F th H locs hO ls hl
      refine g_iload hC hl dX4_weight_43 rfl ?_
      refine lv_sipush (v := 1061) hC.1 hC.2.1 dX4_weight_45 (by decide) ?_
      refine lv_icmp_ge (tgt := 83) hC.1 hC.2.1 dX4_weight_48 (by decide) (fun c_1 => ?_) (fun c_1 => ?_)
      · skip
        rw [show (1061 : Int32) = nI 1061 from rfl, nI_leI (by omega) (by omega)] at c_1
        have ei : i = 1061 := by omega
        subst ei
        exact K _ _ _ _ hO ls (LL.drop hl 6)
      · skip
        rw [show (1061 : Int32) = nI 1061 from rfl, nI_leI (by omega) (by omega)] at c_1
        refine g_aload_n hC hl dX4_weight_51 rfl rfl ?_
        refine g_iload hC hl dX4_weight_52 rfl ?_
        refine g_iload_n hC hl dX4_weight_54 rfl rfl ?_
        refine g_cVi2 hC hO hl (ci := 4) rfl (nn_lt (Nat.le_of_ble_eq_true rfl)) rfl (c_X4_liesIn l κ _ (by first | exact hM | exact hM.upA 9 _ (by decide) (by decide) (by decide)) i (by omega) _) mi_X4_liesIn q_ml_RX4_116 rfl rfl ⟨Nat.le_of_ble_eq_true rfl, Nat.le_of_ble_eq_true rfl⟩ (Nat.le_of_ble_eq_true rfl) ⟨Nat.zero_le _, Nat.zero_le _⟩ dX4_weight_55 (fun r σ1 F th H locs hr hO => ?_)
        obtain ⟨rfl, rfl⟩ := hr
        refine lv_if_eq (tgt := 73) hC.1 hC.2.1 dX4_weight_58 (by decide) (fun c_2 => ?_) (fun c_2 => ?_)
        · skip
          have c_2 := bI_z c_2
          have hw : mws σ (1001 + k) (i + 1) = mws σ (1001 + k) i := by rw [mws, if_neg (fun q => by rw [c_2] at q; exact absurd q.2 (by decide))]
          refine g_lload hC hl dX4_weight_73 rfl ?_
          refine g_lstore hC hl dX4_weight_75 (Nat.le_of_ble_eq_true rfl) rfl (fun ls hl => ?_)
          have hl : LL ls 9 [some _, some _, some _, none, some _, none, some _, none, none] := hl
          refine g_iinc (v := nI (i + 1)) hC hl dX4_weight_77 rfl (nI_i1 i) (Nat.le_of_ble_eq_true rfl) rfl (fun ls hl => ?_)
          have hl : LL ls 9 [some _, some _, some _, none, some _, none, some _, none, none] := hl
          refine lv_goto (tgt := 43) hC.1 hC.2.1 dX4_weight_80 (by decide) ?_
          exact ih (i + 1) (by omega) (by omega) (by omega) _ _ _ _ hO ls (by rw [hw]; exact hl)
        · skip
          have c_2 := bI_nz c_2
          have hw : mws σ (1001 + k) (i + 1) = mws σ (1001 + k) i + ownM σ i := by rw [mws, if_pos ⟨h3, c_2⟩]
          refine g_lload hC hl dX4_weight_61 rfl ?_
          refine g_aload_n hC hl dX4_weight_63 rfl rfl ?_
          refine g_iload hC hl dX4_weight_64 rfl ?_
          refine g_cVl1 hC hO hl (ci := 4) rfl (nn_lt (Nat.le_of_ble_eq_true rfl)) rfl (c_X4_own l κ _ i (by omega)) mi_X4_own q_ml_RX4_142 rfl rfl ⟨Nat.le_of_ble_eq_true rfl, Nat.le_of_ble_eq_true rfl⟩ (Nat.le_of_ble_eq_true rfl) ⟨Nat.zero_le _, Nat.zero_le _⟩ dX4_weight_66 (fun r σ1 F th H locs hr hO => ?_)
          obtain ⟨rfl, rfl⟩ := hr
          refine lv_ladd hC.1 hC.2.1 dX4_weight_69 ?_
          refine lv_goto (tgt := 75) hC.1 hC.2.1 dX4_weight_70 (by decide) ?_
          refine g_lstore hC hl dX4_weight_75 (Nat.le_of_ble_eq_true rfl) rfl (fun ls hl => ?_)
          have hl : LL ls 9 [some _, some _, some _, none, some _, none, some _, none, none] := hl
          refine g_iinc (v := nI (i + 1)) hC hl dX4_weight_77 rfl (nI_i1 i) (Nat.le_of_ble_eq_true rfl) rfl (fun ls hl => ?_)
          have hl : LL ls 9 [some _, some _, some _, none, some _, none, some _, none, none] := hl
          refine lv_goto (tgt := 43) hC.1 hC.2.1 dX4_weight_80 (by decide) ?_
          exact ih (i + 1) (by omega) (by omega) (by omega) _ _ _ _ hO ls (by rw [hw]; exact hl)
  refine g_aload_n hC hl dX4_weight_0 rfl rfl ?_
  refine lv_iconst (v := 0) hC.1 hC.2.1 dX4_weight_1 (by decide) ?_
  refine g_putT hC hO q_fl_RX4_69 dX4_weight_2 (fun H locs hO => ?_)
  refine g_aload_n hC hl dX4_weight_5 rfl rfl ?_
  refine g_iload_n hC hl dX4_weight_6 rfl rfl ?_
  refine g_cVi1 hC hO hl (ci := 4) rfl (nn_lt (Nat.le_of_ble_eq_true rfl)) rfl (c_X4_isBag l κ _ (by first | exact hM | exact hM.upA 9 _ (by decide) (by decide) (by decide)) _) mi_X4_isBag q_ml_RX4_76 rfl rfl ⟨Nat.le_of_ble_eq_true rfl, Nat.le_of_ble_eq_true rfl⟩ (Nat.le_of_ble_eq_true rfl) ⟨Nat.zero_le _, Nat.zero_le _⟩ dX4_weight_7 (fun r σ1 F th H locs hr hO => ?_)
  obtain ⟨rfl, rfl⟩ := hr
  refine lv_if_ne (tgt := 16) hC.1 hC.2.1 dX4_weight_10 (by decide) (fun c_3 => ?_) (fun c_3 => ?_)
  · skip
    have c_3 := bI_nz c_3
    obtain ⟨k, hq, hk, rfl⟩ := recOf_isSome c_3
    have hbt := thing_bag hq
    have ck : (nI k).toNatClampNeg = k := nI_clamp (by omega)
    have cb : (nI (1001 + k)).toNatClampNeg = 1001 + k := nI_clamp (by omega)
    refine g_lload_n hC hl dX4_weight_16 rfl rfl ?_
    refine lv_lconst (v := 0) hC.1 hC.2.1 dX4_weight_17 (by decide) ?_
    refine W.lcmp hC.1 hC.2.1 dX4_weight_18 ?_
    refine lv_if_lt (tgt := 30) hC.1 hC.2.1 dX4_weight_19 (by decide) (fun c_4 => ?_) (fun c_4 => ?_)
    · skip
      rw [lg_cmp_lt] at c_4
      refine lv_bipush (v := (-12)) hC.1 hC.2.1 dX4_weight_30 (by decide) ?_
      exact g_iret hC hO dX4_weight_32 (by unfold mWeightF mWeight; rw [hq]; simp only [hq, c_4, if_true, if_false, not_false_eq_true, reduceIte, not_true_eq_false])
    · skip
      rw [lg_cmp_lt] at c_4
      refine g_lload_n hC hl dX4_weight_22 rfl rfl ?_
      refine lv_ldc2 hC.1 hC.2.1 hC.2.2.2.1 (hC.2.2.2.2.1 _ q_kl_RX4_111) dX4_weight_23 ?_
      refine W.lcmp hC.1 hC.2.1 dX4_weight_26 ?_
      refine lv_if_le (tgt := 33) hC.1 hC.2.1 dX4_weight_27 (by decide) (fun c_5 => ?_) (fun c_5 => ?_)
      · skip
        rw [lg_cmp_le] at c_5
        refine g_aload_n hC hl dX4_weight_33 rfl rfl ?_
        refine g_iload_n hC hl dX4_weight_34 rfl rfl ?_
        refine g_cVl1 hC hO hl (ci := 4) rfl (nn_lt (Nat.le_of_ble_eq_true rfl)) rfl (c_X4_own l κ _ (1001 + k) (by omega)) mi_X4_own q_ml_RX4_142 rfl rfl ⟨Nat.le_of_ble_eq_true rfl, Nat.le_of_ble_eq_true rfl⟩ (Nat.le_of_ble_eq_true rfl) ⟨Nat.zero_le _, Nat.zero_le _⟩ dX4_weight_35 (fun r σ1 F th H locs hr hO => ?_)
        obtain ⟨rfl, rfl⟩ := hr
        refine g_lstore hC hl dX4_weight_38 (Nat.le_of_ble_eq_true rfl) rfl (fun ls hl => ?_)
        have hl : LL ls 9 [some _, some _, some _, none, some _, none, none, none, none] := hl
        refine lv_iconst (v := 1) hC.1 hC.2.1 dX4_weight_40 (by decide) ?_
        refine g_istore hC hl dX4_weight_41 (Nat.le_of_ble_eq_true rfl) rfl (fun ls hl => ?_)
        have hl : LL ls 9 [some _, some _, some _, none, some _, none, some _, none, none] := hl
        refine loop43 k (by omega) ?_ 1061 1 (by omega) (by omega) (by omega) _ _ _ _ hO ls hl
        intro F th H locs hO ls hl
        refine g_lload_n hC hl dX4_weight_83 rfl rfl ?_
        refine g_lload hC hl dX4_weight_84 rfl ?_
        refine W.lcmp hC.1 hC.2.1 dX4_weight_86 ?_
        refine lv_if_ge (tgt := 97) hC.1 hC.2.1 dX4_weight_87 (by decide) (fun c_6 => ?_) (fun c_6 => ?_)
        · skip
          rw [lg_cmp_ge] at c_6
          refine g_lload_n hC hl dX4_weight_97 rfl rfl ?_
          refine g_lload hC hl dX4_weight_98 rfl ?_
          refine lv_lsub hC.1 hC.2.1 dX4_weight_100 ?_
          refine g_lstore hC hl dX4_weight_101 (Nat.le_of_ble_eq_true rfl) rfl (fun ls hl => ?_)
          have hl : LL ls 9 [some _, some _, some _, none, some _, none, some _, none, none] := hl
          refine g_lload hC hl dX4_weight_103 rfl ?_
          refine g_lload hC hl dX4_weight_105 rfl ?_
          refine lv_ldc2 hC.1 hC.2.1 hC.2.2.2.1 (hC.2.2.2.2.1 _ q_kl_RX4_146) dX4_weight_107 ?_
          refine lv_ldiv hC.1 hC.2.1 dX4_weight_110 (by decide) ?_
          refine W.lcmp hC.1 hC.2.1 dX4_weight_111 ?_
          refine lv_if_gt (tgt := 117) hC.1 hC.2.1 dX4_weight_112 (by decide) (fun c_7 => ?_) (fun c_7 => ?_)
          · skip
            rw [lg_cmp_gt] at c_7
            refine g_iload_n hC hl dX4_weight_117 rfl rfl ?_
            refine lv_sipush (v := 1001) hC.1 hC.2.1 dX4_weight_118 (by decide) ?_
            refine lv_isub hC.1 hC.2.1 dX4_weight_121 ?_
            rw [sub1001 (by omega)]
            refine g_istore hC hl dX4_weight_122 (Nat.le_of_ble_eq_true rfl) rfl (fun ls hl => ?_)
            have hl : LL ls 9 [some _, some _, some _, none, some _, none, some _, none, some _] := hl
            refine g_aload_n hC hl dX4_weight_124 rfl rfl ?_
            refine g_get (ci := 4) (k := 17) hC hO rfl inX4 (by decide) q_fl_RX4_54 (nn_lt (Nat.le_of_ble_eq_true rfl)) rfl rfl dX4_weight_125 ?_
            refine g_iload hC hl dX4_weight_128 rfl ?_
            refine g_iald hC hO (nn_lt (Nat.le_of_ble_eq_true rfl)) rfl (vp_in_nI (by omega) (by omega)) dX4_weight_130 ?_
            refine lv_bipush (v := 6) hC.1 hC.2.1 dX4_weight_131 (by decide) ?_
            refine lv_icmp_ge (tgt := 166) hC.1 hC.2.1 dX4_weight_133 (by decide) (fun c_8 => ?_) (fun c_8 => ?_)
            · skip
              rw [ck, (hL k hk).2.2.2.2.1, show (6 : Int32) = nI 6 from rfl, nI_leI (by omega) (by have := (hL k hk).2.2.2.2.2; omega)] at c_8
              have h6 : ¬ weS σ k < 6 := by omega
              refine g_aload_n hC hl dX4_weight_166 rfl rfl ?_
              refine g_cVv0 hC hO hl (ci := 4) rfl (nn_lt (Nat.le_of_ble_eq_true rfl)) rfl (c_X4_addNote l κ _ n (by exact hn) hn2) mi_X4_addNote q_ml_RX4_113 rfl rfl ⟨Nat.le_of_ble_eq_true rfl, Nat.le_of_ble_eq_true rfl⟩ (Nat.le_of_ble_eq_true rfl) ⟨Nat.zero_le _, Nat.zero_le _⟩ dX4_weight_167 (fun σ1 F th H locs hr hO => ?_)
              subst hr
              refine lv_iconst (v := 0) hC.1 hC.2.1 dX4_weight_170 (by decide) ?_
              exact g_iret hC hO dX4_weight_171 (by unfold mWeightF mWeight; rw [hq]; simp only [hq, c_4, c_5, c_6, c_7, h6, if_true, if_false, not_false_eq_true, reduceIte, not_true_eq_false])
            · skip
              rw [ck, (hL k hk).2.2.2.2.1, show (6 : Int32) = nI 6 from rfl, nI_leI (by omega) (by have := (hL k hk).2.2.2.2.2; omega)] at c_8
              have h6 : weS σ k < 6 := by omega
              refine g_aload_n hC hl dX4_weight_136 rfl rfl ?_
              refine g_get (ci := 4) (k := 18) hC hO rfl inX4 (by decide) q_fl_RX4_57 (nn_lt (Nat.le_of_ble_eq_true rfl)) rfl rfl dX4_weight_137 ?_
              refine lv_bipush (v := 6) hC.1 hC.2.1 dX4_weight_140 (by decide) ?_
              refine g_iload hC hl dX4_weight_142 rfl ?_
              refine lv_imul hC.1 hC.2.1 dX4_weight_144 ?_
              refine g_aload_n hC hl dX4_weight_145 rfl rfl ?_
              refine g_get (ci := 4) (k := 17) hC hO rfl inX4 (by decide) q_fl_RX4_54 (nn_lt (Nat.le_of_ble_eq_true rfl)) rfl rfl dX4_weight_146 ?_
              refine g_iload hC hl dX4_weight_149 rfl ?_
              refine g_iald hC hO (nn_lt (Nat.le_of_ble_eq_true rfl)) rfl (vp_in_nI (by omega) (by omega)) dX4_weight_151 ?_
              refine lv_topi (fun v9 ev9 => ?_)
              have ev9 : v9 = nI (weS σ k) := ev9.trans (by rw [ck]; exact (hL k hk).2.2.2.2.1)
              subst ev9
              refine lv_iadd hC.1 hC.2.1 dX4_weight_152 ?_
              rw [ix6]
              refine g_lload_n hC hl dX4_weight_153 rfl rfl ?_
              refine g_last hC hO (nn_lt (Nat.le_of_ble_eq_true rfl)) (fun _ _ => rfl) (vp_in_nI (by omega) (by omega)) dX4_weight_154 (fun H locs hO => ?_)
              rw [nI_clamp (n := 6 * k + weS σ k) (by omega)] at hO
              refine g_aload_n hC hl dX4_weight_155 rfl rfl ?_
              refine g_get (ci := 4) (k := 17) hC hO rfl inX4 (by decide) q_fl_RX4_54 (nn_lt (Nat.le_of_ble_eq_true rfl)) rfl rfl dX4_weight_156 ?_
              refine g_iload hC hl dX4_weight_159 rfl ?_
              refine lv_dup2_11 hC.1 hC.2.1 dX4_weight_161 rfl rfl ?_
              refine g_iald hC hO (nn_lt (Nat.le_of_ble_eq_true rfl)) rfl (vp_in_nI (by omega) (by omega)) dX4_weight_162 ?_
              refine lv_topi (fun v9 ev9 => ?_)
              have ev9 : v9 = nI (weS σ k) := ev9.trans (by rw [ck]; exact (hL k hk).2.2.2.2.1)
              subst ev9
              refine lv_iconst (v := 1) hC.1 hC.2.1 dX4_weight_163 (by decide) ?_
              refine lv_iadd hC.1 hC.2.1 dX4_weight_164 ?_
              rw [nI_1]
              refine g_iast hC hO (nn_lt (Nat.le_of_ble_eq_true rfl)) (fun _ _ => rfl) (vp_in_nI (by omega) (by omega)) dX4_weight_165 (fun H locs hO => ?_)
              rw [ck] at hO
              refine g_aload_n hC hl dX4_weight_166 rfl rfl ?_
              refine g_cVv0 hC hO hl (ci := 4) rfl (nn_lt (Nat.le_of_ble_eq_true rfl)) rfl (c_X4_addNote l κ _ n (by exact hn) hn2) mi_X4_addNote q_ml_RX4_113 rfl rfl ⟨Nat.le_of_ble_eq_true rfl, Nat.le_of_ble_eq_true rfl⟩ (Nat.le_of_ble_eq_true rfl) ⟨Nat.zero_le _, Nat.zero_le _⟩ dX4_weight_167 (fun σ1 F th H locs hr hO => ?_)
              subst hr
              refine lv_iconst (v := 0) hC.1 hC.2.1 dX4_weight_170 (by decide) ?_
              exact g_iret hC hO dX4_weight_171 (by unfold mWeightF mWeight; rw [hq]; simp only [hq, c_4, c_5, c_6, c_7, h6, if_true, if_false, not_false_eq_true, reduceIte, not_true_eq_false])
          · skip
            rw [lg_cmp_gt] at c_7
            refine lv_iconst (v := 1) hC.1 hC.2.1 dX4_weight_115 (by decide) ?_
            exact g_iret hC hO dX4_weight_116 (by unfold mWeightF mWeight; rw [hq]; simp only [hq, c_4, c_5, c_6, c_7, if_true, if_false, not_false_eq_true, reduceIte, not_true_eq_false])
        · skip
          rw [lg_cmp_ge] at c_6
          refine g_lload hC hl dX4_weight_90 rfl ?_
          refine g_lload_n hC hl dX4_weight_92 rfl rfl ?_
          refine lv_lsub hC.1 hC.2.1 dX4_weight_93 ?_
          refine lv_goto (tgt := 101) hC.1 hC.2.1 dX4_weight_94 (by decide) ?_
          refine g_lstore hC hl dX4_weight_101 (Nat.le_of_ble_eq_true rfl) rfl (fun ls hl => ?_)
          have hl : LL ls 9 [some _, some _, some _, none, some _, none, some _, none, none] := hl
          refine g_lload hC hl dX4_weight_103 rfl ?_
          refine g_lload hC hl dX4_weight_105 rfl ?_
          refine lv_ldc2 hC.1 hC.2.1 hC.2.2.2.1 (hC.2.2.2.2.1 _ q_kl_RX4_146) dX4_weight_107 ?_
          refine lv_ldiv hC.1 hC.2.1 dX4_weight_110 (by decide) ?_
          refine W.lcmp hC.1 hC.2.1 dX4_weight_111 ?_
          refine lv_if_gt (tgt := 117) hC.1 hC.2.1 dX4_weight_112 (by decide) (fun c_9 => ?_) (fun c_9 => ?_)
          · skip
            rw [lg_cmp_gt] at c_9
            refine g_iload_n hC hl dX4_weight_117 rfl rfl ?_
            refine lv_sipush (v := 1001) hC.1 hC.2.1 dX4_weight_118 (by decide) ?_
            refine lv_isub hC.1 hC.2.1 dX4_weight_121 ?_
            rw [sub1001 (by omega)]
            refine g_istore hC hl dX4_weight_122 (Nat.le_of_ble_eq_true rfl) rfl (fun ls hl => ?_)
            have hl : LL ls 9 [some _, some _, some _, none, some _, none, some _, none, some _] := hl
            refine g_aload_n hC hl dX4_weight_124 rfl rfl ?_
            refine g_get (ci := 4) (k := 17) hC hO rfl inX4 (by decide) q_fl_RX4_54 (nn_lt (Nat.le_of_ble_eq_true rfl)) rfl rfl dX4_weight_125 ?_
            refine g_iload hC hl dX4_weight_128 rfl ?_
            refine g_iald hC hO (nn_lt (Nat.le_of_ble_eq_true rfl)) rfl (vp_in_nI (by omega) (by omega)) dX4_weight_130 ?_
            refine lv_bipush (v := 6) hC.1 hC.2.1 dX4_weight_131 (by decide) ?_
            refine lv_icmp_ge (tgt := 166) hC.1 hC.2.1 dX4_weight_133 (by decide) (fun c_10 => ?_) (fun c_10 => ?_)
            · skip
              rw [ck, (hL k hk).2.2.2.2.1, show (6 : Int32) = nI 6 from rfl, nI_leI (by omega) (by have := (hL k hk).2.2.2.2.2; omega)] at c_10
              have h6 : ¬ weS σ k < 6 := by omega
              refine g_aload_n hC hl dX4_weight_166 rfl rfl ?_
              refine g_cVv0 hC hO hl (ci := 4) rfl (nn_lt (Nat.le_of_ble_eq_true rfl)) rfl (c_X4_addNote l κ _ n (by exact hn) hn2) mi_X4_addNote q_ml_RX4_113 rfl rfl ⟨Nat.le_of_ble_eq_true rfl, Nat.le_of_ble_eq_true rfl⟩ (Nat.le_of_ble_eq_true rfl) ⟨Nat.zero_le _, Nat.zero_le _⟩ dX4_weight_167 (fun σ1 F th H locs hr hO => ?_)
              subst hr
              refine lv_iconst (v := 0) hC.1 hC.2.1 dX4_weight_170 (by decide) ?_
              exact g_iret hC hO dX4_weight_171 (by unfold mWeightF mWeight; rw [hq]; simp only [hq, c_4, c_5, c_6, c_9, h6, if_true, if_false, not_false_eq_true, reduceIte, not_true_eq_false])
            · skip
              rw [ck, (hL k hk).2.2.2.2.1, show (6 : Int32) = nI 6 from rfl, nI_leI (by omega) (by have := (hL k hk).2.2.2.2.2; omega)] at c_10
              have h6 : weS σ k < 6 := by omega
              refine g_aload_n hC hl dX4_weight_136 rfl rfl ?_
              refine g_get (ci := 4) (k := 18) hC hO rfl inX4 (by decide) q_fl_RX4_57 (nn_lt (Nat.le_of_ble_eq_true rfl)) rfl rfl dX4_weight_137 ?_
              refine lv_bipush (v := 6) hC.1 hC.2.1 dX4_weight_140 (by decide) ?_
              refine g_iload hC hl dX4_weight_142 rfl ?_
              refine lv_imul hC.1 hC.2.1 dX4_weight_144 ?_
              refine g_aload_n hC hl dX4_weight_145 rfl rfl ?_
              refine g_get (ci := 4) (k := 17) hC hO rfl inX4 (by decide) q_fl_RX4_54 (nn_lt (Nat.le_of_ble_eq_true rfl)) rfl rfl dX4_weight_146 ?_
              refine g_iload hC hl dX4_weight_149 rfl ?_
              refine g_iald hC hO (nn_lt (Nat.le_of_ble_eq_true rfl)) rfl (vp_in_nI (by omega) (by omega)) dX4_weight_151 ?_
              refine lv_topi (fun v9 ev9 => ?_)
              have ev9 : v9 = nI (weS σ k) := ev9.trans (by rw [ck]; exact (hL k hk).2.2.2.2.1)
              subst ev9
              refine lv_iadd hC.1 hC.2.1 dX4_weight_152 ?_
              rw [ix6]
              refine g_lload_n hC hl dX4_weight_153 rfl rfl ?_
              refine g_last hC hO (nn_lt (Nat.le_of_ble_eq_true rfl)) (fun _ _ => rfl) (vp_in_nI (by omega) (by omega)) dX4_weight_154 (fun H locs hO => ?_)
              rw [nI_clamp (n := 6 * k + weS σ k) (by omega)] at hO
              refine g_aload_n hC hl dX4_weight_155 rfl rfl ?_
              refine g_get (ci := 4) (k := 17) hC hO rfl inX4 (by decide) q_fl_RX4_54 (nn_lt (Nat.le_of_ble_eq_true rfl)) rfl rfl dX4_weight_156 ?_
              refine g_iload hC hl dX4_weight_159 rfl ?_
              refine lv_dup2_11 hC.1 hC.2.1 dX4_weight_161 rfl rfl ?_
              refine g_iald hC hO (nn_lt (Nat.le_of_ble_eq_true rfl)) rfl (vp_in_nI (by omega) (by omega)) dX4_weight_162 ?_
              refine lv_topi (fun v9 ev9 => ?_)
              have ev9 : v9 = nI (weS σ k) := ev9.trans (by rw [ck]; exact (hL k hk).2.2.2.2.1)
              subst ev9
              refine lv_iconst (v := 1) hC.1 hC.2.1 dX4_weight_163 (by decide) ?_
              refine lv_iadd hC.1 hC.2.1 dX4_weight_164 ?_
              rw [nI_1]
              refine g_iast hC hO (nn_lt (Nat.le_of_ble_eq_true rfl)) (fun _ _ => rfl) (vp_in_nI (by omega) (by omega)) dX4_weight_165 (fun H locs hO => ?_)
              rw [ck] at hO
              refine g_aload_n hC hl dX4_weight_166 rfl rfl ?_
              refine g_cVv0 hC hO hl (ci := 4) rfl (nn_lt (Nat.le_of_ble_eq_true rfl)) rfl (c_X4_addNote l κ _ n (by exact hn) hn2) mi_X4_addNote q_ml_RX4_113 rfl rfl ⟨Nat.le_of_ble_eq_true rfl, Nat.le_of_ble_eq_true rfl⟩ (Nat.le_of_ble_eq_true rfl) ⟨Nat.zero_le _, Nat.zero_le _⟩ dX4_weight_167 (fun σ1 F th H locs hr hO => ?_)
              subst hr
              refine lv_iconst (v := 0) hC.1 hC.2.1 dX4_weight_170 (by decide) ?_
              exact g_iret hC hO dX4_weight_171 (by unfold mWeightF mWeight; rw [hq]; simp only [hq, c_4, c_5, c_6, c_9, h6, if_true, if_false, not_false_eq_true, reduceIte, not_true_eq_false])
          · skip
            rw [lg_cmp_gt] at c_9
            refine lv_iconst (v := 1) hC.1 hC.2.1 dX4_weight_115 (by decide) ?_
            exact g_iret hC hO dX4_weight_116 (by unfold mWeightF mWeight; rw [hq]; simp only [hq, c_4, c_5, c_6, c_9, if_true, if_false, not_false_eq_true, reduceIte, not_true_eq_false])
      · skip
        rw [lg_cmp_le] at c_5
        refine lv_bipush (v := (-12)) hC.1 hC.2.1 dX4_weight_30 (by decide) ?_
        exact g_iret hC hO dX4_weight_32 (by unfold mWeightF mWeight; rw [hq]; simp only [hq, c_4, c_5, if_true, if_false, not_false_eq_true, reduceIte, not_true_eq_false])
  · skip
    have c_3 := bI_z c_3
    have hq := recOf_no c_3
    refine lv_bipush (v := (-11)) hC.1 hC.2.1 dX4_weight_13 (by decide) ?_
    exact g_iret hC hO dX4_weight_15 (by unfold mWeightF mWeight; simp [hq])

set_option maxHeartbeats 4000000 in
set_option maxRecDepth 100000 in
/-- BagRowsModel.tick -/
theorem c_X4_tick (l : Launch) (κ : KK) (σ : ST) (n : Nat) (hn : sI σ 6 21 = nI n) (hn2 : n < 2000) (p0 : Int64) : Met l yX4_tick (wA yX4_tick cX4_tick 5 (some .int)) ({ frames := 0, cells := 0, slots := 0, locals := 0 }) (va_Pc [.ref (kad κ 6), .long p0] (WX κ σ)) (va_Qi (fun r σ' => (r, σ') = mTick σ n p0) (WX κ) (FA κ)) 0 0 (FA κ) := by
  refine g_met 2 (by decide) rfl (Nat.le_of_ble_eq_true rfl) ?_
  intro p e s m args below meth c hC F th hO ls hl
  have hl : LL ls 5 [some _, some _, none, none, none] := hl
  skip
  have loop35 : mTick σ n p0 = (nI (tkN σ (sJ σ 6 20) p0 n), upJ (upJ σ 6 19 p0) 6 20 p0) → ∀ (n2 i : Nat), n + 1 ≤ i + n2 → i ≤ n → ∀ (F : Nat → Nat → Int32) (th : Int32) (H : Heap) (locs : List Loc), OS κ s.heap (upJ σ 6 19 p0) F th H locs → ∀ ls : Array Slot, LL ls 5 [some (.ref (kad κ 6)), some (.long p0), none, some (.int (nI (tkN σ (sJ σ 6 20) p0 i))), some (.int (nI i))] → W p l e ({ frames := 0, cells := 0, slots := 0, locals := 0 } : Room) s m args below meth c H locs 0 0 (MQ below (va_Qi (fun r σ' => (r, σ') = mTick σ n p0) (WX κ) (FA κ)) args s 0 0 (FA κ)) (F0 m 35 ls []) := by
    intro hres n2
    induction n2 with
    | zero => intro i h1 h2; exact absurd h1 (by omega)
    | succ n2 ih =>
      intro i h1 h2 F th H locs hO ls hl
      refine g_iload hC hl dX4_tick_35 rfl ?_
      refine g_aload_n hC hl dX4_tick_37 rfl rfl ?_
      refine g_get (ci := 4) (k := 21) hC hO rfl inX4 (by decide) q_fl_RX4_87 (nn_lt (Nat.le_of_ble_eq_true rfl)) rfl rfl dX4_tick_38 ?_
      refine lv_icmp_ge (tgt := 88) hC.1 hC.2.1 dX4_tick_41 (by decide) (fun c_1 => ?_) (fun c_1 => ?_)
      · skip
        rw [show sI (upJ σ 6 19 p0) 6 21 = nI n from hn, nI_leI (by omega) (by omega)] at c_1
        have ei : i = n := by omega
        subst ei
        refine g_aload_n hC hl dX4_tick_88 rfl rfl ?_
        refine g_aload_n hC hl dX4_tick_89 rfl rfl ?_
        refine g_get (ci := 4) (k := 19) hC hO rfl inX4 (by decide) q_fl_RX4_90 (nn_lt (Nat.le_of_ble_eq_true rfl)) rfl rfl dX4_tick_90 ?_
        refine g_putl (ci := 4) (k := 20) hC hO rfl inX4 tyX4_ok nmX4 (by decide) q_fl_RX4_62 rfl (nn_lt (Nat.le_of_ble_eq_true rfl)) rfl (Nat.le_of_ble_eq_true rfl) rfl rfl rfl dX4_tick_93 (fun H locs hO => ?_)
        refine g_iload_n hC hl dX4_tick_96 rfl rfl ?_
        exact g_iret hC hO dX4_tick_97 (hres.symm)
      · skip
        rw [show sI (upJ σ 6 19 p0) 6 21 = nI n from hn, nI_leI (by omega) (by omega)] at c_1
        refine g_aload_n hC hl dX4_tick_44 rfl rfl ?_
        refine g_get (ci := 4) (k := 22) hC hO rfl inX4 (by decide) q_fl_RX4_66 (nn_lt (Nat.le_of_ble_eq_true rfl)) rfl rfl dX4_tick_45 ?_
        refine g_iload hC hl dX4_tick_48 rfl ?_
        refine g_lald hC hO (nn_lt (Nat.le_of_ble_eq_true rfl)) rfl (vp_in_nI (by omega) (by omega)) dX4_tick_50 ?_
        refine g_aload_n hC hl dX4_tick_51 rfl rfl ?_
        refine g_get (ci := 4) (k := 20) hC hO rfl inX4 (by decide) q_fl_RX4_62 (nn_lt (Nat.le_of_ble_eq_true rfl)) rfl rfl dX4_tick_52 ?_
        refine W.lcmp hC.1 hC.2.1 dX4_tick_55 ?_
        refine lv_if_le (tgt := 80) hC.1 hC.2.1 dX4_tick_56 (by decide) (fun c_2 => ?_) (fun c_2 => ?_)
        · skip
          rw [lg_cmp_le] at c_2
          rw [nI_clamp (n := i) (by omega)] at c_2
          have hw : nI (tkN σ (sJ σ 6 20) p0 (i + 1)) = nI (tkN σ (sJ σ 6 20) p0 i) := by rw [tkN, if_neg (fun q => absurd q.1 (Int64.not_lt.mpr c_2))]
          refine g_iload_n hC hl dX4_tick_80 rfl rfl ?_
          refine g_istore_n hC hl dX4_tick_81 rfl (Nat.le_of_ble_eq_true rfl) rfl (fun ls hl => ?_)
          have hl : LL ls 5 [some _, some _, none, some _, some _] := hl
          refine g_iinc (v := nI (i + 1)) hC hl dX4_tick_82 rfl (nI_i1 i) (Nat.le_of_ble_eq_true rfl) rfl (fun ls hl => ?_)
          have hl : LL ls 5 [some _, some _, none, some _, some _] := hl
          refine lv_goto (tgt := 35) hC.1 hC.2.1 dX4_tick_85 (by decide) ?_
          exact ih (i + 1) (by omega) (by omega) _ _ _ _ hO ls (by rw [hw]; exact hl)
        · skip
          rw [lg_cmp_le] at c_2
          rw [nI_clamp (n := i) (by omega)] at c_2
          have h56 : sJ σ 6 20 < sJ σ 23 i := Int64.not_le.mp c_2
          refine g_aload_n hC hl dX4_tick_59 rfl rfl ?_
          refine g_get (ci := 4) (k := 22) hC hO rfl inX4 (by decide) q_fl_RX4_66 (nn_lt (Nat.le_of_ble_eq_true rfl)) rfl rfl dX4_tick_60 ?_
          refine g_iload hC hl dX4_tick_63 rfl ?_
          refine g_lald hC hO (nn_lt (Nat.le_of_ble_eq_true rfl)) rfl (vp_in_nI (by omega) (by omega)) dX4_tick_65 ?_
          refine g_aload_n hC hl dX4_tick_66 rfl rfl ?_
          refine g_get (ci := 4) (k := 19) hC hO rfl inX4 (by decide) q_fl_RX4_90 (nn_lt (Nat.le_of_ble_eq_true rfl)) rfl rfl dX4_tick_67 ?_
          refine W.lcmp hC.1 hC.2.1 dX4_tick_70 ?_
          refine lv_if_gt (tgt := 80) hC.1 hC.2.1 dX4_tick_71 (by decide) (fun c_3 => ?_) (fun c_3 => ?_)
          · skip
            rw [lg_cmp_gt] at c_3
            rw [nI_clamp (n := i) (by omega)] at c_3
            have h70 : p0 < sJ σ 23 i := c_3
            have hw : nI (tkN σ (sJ σ 6 20) p0 (i + 1)) = nI (tkN σ (sJ σ 6 20) p0 i) := by rw [tkN, if_neg (fun q => absurd q.2 (Int64.not_le.mpr h70))]
            refine g_iload_n hC hl dX4_tick_80 rfl rfl ?_
            refine g_istore_n hC hl dX4_tick_81 rfl (Nat.le_of_ble_eq_true rfl) rfl (fun ls hl => ?_)
            have hl : LL ls 5 [some _, some _, none, some _, some _] := hl
            refine g_iinc (v := nI (i + 1)) hC hl dX4_tick_82 rfl (nI_i1 i) (Nat.le_of_ble_eq_true rfl) rfl (fun ls hl => ?_)
            have hl : LL ls 5 [some _, some _, none, some _, some _] := hl
            refine lv_goto (tgt := 35) hC.1 hC.2.1 dX4_tick_85 (by decide) ?_
            exact ih (i + 1) (by omega) (by omega) _ _ _ _ hO ls (by rw [hw]; exact hl)
          · skip
            rw [lg_cmp_gt] at c_3
            rw [nI_clamp (n := i) (by omega)] at c_3
            have h70 : ¬ p0 < sJ σ 23 i := c_3
            have hw : nI (tkN σ (sJ σ 6 20) p0 (i + 1)) = nI (tkN σ (sJ σ 6 20) p0 i) + 1 := by rw [tkN, if_pos ⟨h56, Int64.not_lt.mp h70⟩, nI_1]
            refine g_iload_n hC hl dX4_tick_74 rfl rfl ?_
            refine lv_iconst (v := 1) hC.1 hC.2.1 dX4_tick_75 (by decide) ?_
            refine lv_iadd hC.1 hC.2.1 dX4_tick_76 ?_
            refine lv_goto (tgt := 81) hC.1 hC.2.1 dX4_tick_77 (by decide) ?_
            refine g_istore_n hC hl dX4_tick_81 rfl (Nat.le_of_ble_eq_true rfl) rfl (fun ls hl => ?_)
            have hl : LL ls 5 [some _, some _, none, some _, some _] := hl
            refine g_iinc (v := nI (i + 1)) hC hl dX4_tick_82 rfl (nI_i1 i) (Nat.le_of_ble_eq_true rfl) rfl (fun ls hl => ?_)
            have hl : LL ls 5 [some _, some _, none, some _, some _] := hl
            refine lv_goto (tgt := 35) hC.1 hC.2.1 dX4_tick_85 (by decide) ?_
            exact ih (i + 1) (by omega) (by omega) _ _ _ _ hO ls (by rw [hw]; exact hl)
  refine g_aload_n hC hl dX4_tick_0 rfl rfl ?_
  refine lv_iconst (v := 0) hC.1 hC.2.1 dX4_tick_1 (by decide) ?_
  refine g_putT hC hO q_fl_RX4_69 dX4_tick_2 (fun H locs hO => ?_)
  refine g_lload_n hC hl dX4_tick_5 rfl rfl ?_
  refine g_aload_n hC hl dX4_tick_6 rfl rfl ?_
  refine g_get (ci := 4) (k := 19) hC hO rfl inX4 (by decide) q_fl_RX4_90 (nn_lt (Nat.le_of_ble_eq_true rfl)) rfl rfl dX4_tick_7 ?_
  refine W.lcmp hC.1 hC.2.1 dX4_tick_10 ?_
  refine lv_if_lt (tgt := 22) hC.1 hC.2.1 dX4_tick_11 (by decide) (fun c_4 => ?_) (fun c_4 => ?_)
  · skip
    rw [lg_cmp_lt] at c_4
    --
    refine lv_bipush (v := (-12)) hC.1 hC.2.1 dX4_tick_22 (by decide) ?_
    exact g_iret hC hO dX4_tick_24 (by unfold mTick; simp only [c_4, if_true, if_false, not_false_eq_true, reduceIte, not_true_eq_false])
  · skip
    rw [lg_cmp_lt] at c_4
    have h11 := c_4
    refine g_lload_n hC hl dX4_tick_14 rfl rfl ?_
    refine lv_ldc2 hC.1 hC.2.1 hC.2.2.2.1 (hC.2.2.2.2.1 _ q_kl_RX4_148) dX4_tick_15 ?_
    refine W.lcmp hC.1 hC.2.1 dX4_tick_18 ?_
    refine lv_if_le (tgt := 25) hC.1 hC.2.1 dX4_tick_19 (by decide) (fun c_5 => ?_) (fun c_5 => ?_)
    · skip
      rw [lg_cmp_le] at c_5
      have h19 := c_5
      refine g_aload_n hC hl dX4_tick_25 rfl rfl ?_
      refine g_lload_n hC hl dX4_tick_26 rfl rfl ?_
      refine g_putl (ci := 4) (k := 19) hC hO rfl inX4 tyX4_ok nmX4 (by decide) q_fl_RX4_90 rfl (nn_lt (Nat.le_of_ble_eq_true rfl)) rfl (Nat.le_of_ble_eq_true rfl) rfl rfl rfl dX4_tick_27 (fun H locs hO => ?_)
      refine lv_iconst (v := 0) hC.1 hC.2.1 dX4_tick_30 (by decide) ?_
      refine g_istore_n hC hl dX4_tick_31 rfl (Nat.le_of_ble_eq_true rfl) rfl (fun ls hl => ?_)
      have hl : LL ls 5 [some _, some _, none, some _, none] := hl
      refine lv_iconst (v := 0) hC.1 hC.2.1 dX4_tick_32 (by decide) ?_
      refine g_istore hC hl dX4_tick_33 (Nat.le_of_ble_eq_true rfl) rfl (fun ls hl => ?_)
      have hl : LL ls 5 [some _, some _, none, some _, some _] := hl
      exact loop35 (by unfold mTick; rw [if_neg h11, if_neg (fun q => q h19)]) (n + 1) 0 (by omega) (by omega) _ _ _ _ hO ls hl
    · skip
      rw [lg_cmp_le] at c_5
      --
      refine lv_bipush (v := (-12)) hC.1 hC.2.1 dX4_tick_22 (by decide) ?_
      exact g_iret hC hO dX4_tick_24 (by unfold mTick; simp only [c_4, c_5, if_true, if_false, not_false_eq_true, reduceIte, not_true_eq_false])

set_option maxHeartbeats 4000000 in
set_option maxRecDepth 100000 in
/-- BagRowsModel.bag -/
theorem c_X4_bag (l : Launch) (κ : KK) (σ : ST) (c2 : Nat) (hc : sI σ 6 5 = nI c2) (hc2 : c2 ≤ 60) (p0 : Int32) : Met l yX4_bag (wA yX4_bag cX4_bag 2 (some .int)) ({ frames := 0, cells := 0, slots := 0, locals := 0 }) (va_Pc [.ref (kad κ 6), .int p0] (WX κ σ)) (va_Qi (fun r σ' => (r, σ') = mBag σ c2 p0) (WX κ) (FA κ)) 0 0 (FA κ) := by
  refine g_met 0 (by decide) rfl (Nat.le_of_ble_eq_true rfl) ?_
  intro p e s m args below meth c hC F th hO ls hl
  have hl : LL ls 2 [some _, some _] := hl
  skip
  refine g_aload_n hC hl dX4_bag_0 rfl rfl ?_
  refine lv_iconst (v := 0) hC.1 hC.2.1 dX4_bag_1 (by decide) ?_
  refine g_putT hC hO q_fl_RX4_69 dX4_bag_2 (fun H locs hO => ?_)
  refine g_iload_n hC hl dX4_bag_5 rfl rfl ?_
  refine lv_if_lt (tgt := 14) hC.1 hC.2.1 dX4_bag_6 (by decide) (fun c_1 => ?_) (fun c_1 => ?_)
  · skip
    refine lv_bipush (v := (-12)) hC.1 hC.2.1 dX4_bag_14 (by decide) ?_
    exact g_iret hC hO dX4_bag_16 (by unfold mBag; simp [c_1])
  · skip
    refine g_iload_n hC hl dX4_bag_9 rfl rfl ?_
    refine lv_iconst (v := 3) hC.1 hC.2.1 dX4_bag_10 (by decide) ?_
    refine lv_icmp_le (tgt := 17) hC.1 hC.2.1 dX4_bag_11 (by decide) (fun c_2 => ?_) (fun c_2 => ?_)
    · skip
      refine g_aload_n hC hl dX4_bag_17 rfl rfl ?_
      refine g_get (ci := 4) (k := 5) hC hO rfl inX4 (by decide) q_fl_RX4_73 (nn_lt (Nat.le_of_ble_eq_true rfl)) rfl rfl dX4_bag_18 ?_
      refine lv_bipush (v := 60) hC.1 hC.2.1 dX4_bag_21 (by decide) ?_
      refine lv_icmp_ne (tgt := 29) hC.1 hC.2.1 dX4_bag_23 (by decide) (fun c_3 => ?_) (fun c_3 => ?_)
      · skip
        rw [hc, show (60 : Int32) = nI 60 from rfl, nI_eq (by omega) (by omega)] at c_3
        refine g_aload_n hC hl dX4_bag_29 rfl rfl ?_
        refine g_get (ci := 4) (k := 6) hC hO rfl inX4 (by decide) q_fl_RX4_19 (nn_lt (Nat.le_of_ble_eq_true rfl)) rfl rfl dX4_bag_30 ?_
        refine g_aload_n hC hl dX4_bag_33 rfl rfl ?_
        refine g_get (ci := 4) (k := 5) hC hO rfl inX4 (by decide) q_fl_RX4_73 (nn_lt (Nat.le_of_ble_eq_true rfl)) rfl rfl dX4_bag_34 ?_
        refine g_iload_n hC hl dX4_bag_37 rfl rfl ?_
        refine g_iast hC hO (nn_lt (Nat.le_of_ble_eq_true rfl)) (fun _ _ => rfl) (by rw [hc]; exact vp_in_nI (by omega) (by omega)) dX4_bag_38 (fun H locs hO => ?_)
        rw [hc, nI_clamp (by omega)] at hO
        refine g_aload_n hC hl dX4_bag_39 rfl rfl ?_
        refine lv_dup hC.1 hC.2.1 dX4_bag_40 rfl ?_
        refine g_get (ci := 4) (k := 5) hC hO rfl inX4 (by decide) q_fl_RX4_73 (nn_lt (Nat.le_of_ble_eq_true rfl)) rfl rfl dX4_bag_41 ?_
        refine lv_iconst (v := 1) hC.1 hC.2.1 dX4_bag_44 (by decide) ?_
        refine lv_iadd hC.1 hC.2.1 dX4_bag_45 ?_
        refine g_puti (ci := 4) (k := 5) hC hO rfl inX4 tyX4_ok nmX4 (by decide) q_fl_RX4_73 rfl (nn_lt (Nat.le_of_ble_eq_true rfl)) rfl (Nat.le_of_ble_eq_true rfl) rfl rfl rfl dX4_bag_46 (fun H locs hO => ?_)
        rw [show sI (upI σ 10 c2 p0) 6 5 = nI c2 from hc, nI_1] at hO
        refine lv_sipush (v := 1000) hC.1 hC.2.1 dX4_bag_49 (by decide) ?_
        refine g_aload_n hC hl dX4_bag_52 rfl rfl ?_
        refine g_get (ci := 4) (k := 5) hC hO rfl inX4 (by decide) q_fl_RX4_73 (nn_lt (Nat.le_of_ble_eq_true rfl)) rfl rfl dX4_bag_53 ?_
        refine lv_iadd hC.1 hC.2.1 dX4_bag_56 ?_
        rw [show sI (upI (upI σ 10 c2 p0) 6 5 (nI (c2 + 1))) 6 5 = nI (c2 + 1) from by rw [sI_upI]; simp, show (1000 : Int32) = nI 1000 from rfl, nI_add, show 1000 + (c2 + 1) = 1001 + c2 by omega]
        exact g_iret hC hO dX4_bag_57 (by unfold mBag; simp [c_1, c_2, c_3])
      · skip
        rw [hc, show (60 : Int32) = nI 60 from rfl, nI_eq (by omega) (by omega)] at c_3
        refine lv_bipush (v := (-14)) hC.1 hC.2.1 dX4_bag_26 (by decide) ?_
        exact g_iret hC hO dX4_bag_28 (by unfold mBag; simp [c_1, c_2, c_3])
    · skip
      refine lv_bipush (v := (-12)) hC.1 hC.2.1 dX4_bag_14 (by decide) ?_
      exact g_iret hC hO dX4_bag_16 (by unfold mBag; simp [c_1, c_2])
end
section
/-- the row l is what lies in b, in the order of 'since' -/
def RowM (σ : ST) (b : Int32) (l : List Int32) : Prop := l.length ≤ 12 ∧ (∀ x ∈ l, ∃ t, 1 ≤ t ∧ t < 1061 ∧ x = nI t ∧ sI σ 7 t = b ∧ 0 < sI σ 8 t) ∧ (∀ t, 1 ≤ t → t < 1061 → sI σ 7 t = b → nI t ∈ l) ∧ l.Pairwise (fun x y => sI σ 8 x.toNatClampNeg < sI σ 8 y.toNatClampNeg)
def aft (σ : ST) (l : List Int32) : Nat → Int32
  | 0 => 0
  | n + 1 => sI σ 8 (l.getD n 0).toNatClampNeg
theorem nxF_spec (σ : ST) (b a : Int32) : ∀ i, i ≤ 1061 → (nxF σ b a i = 0 ∧ ∀ j, 1 ≤ j → j < i → sI σ 7 j = b → ¬ a < sI σ 8 j) ∨ (∃ j, 1 ≤ j ∧ j < i ∧ nxF σ b a i = nI j ∧ sI σ 7 j = b ∧ a < sI σ 8 j ∧ ∀ j2, 1 ≤ j2 → j2 < i → sI σ 7 j2 = b → a < sI σ 8 j2 → ¬ sI σ 8 j2 < sI σ 8 j) := by
  intro i
  induction i with
  | zero => intro _; exact Or.inl ⟨rfl, fun j h1 h2 => absurd h2 (by omega)⟩
  | succ i ih =>
    intro hi
    by_cases hc : 1 ≤ i ∧ sI σ 7 i = b ∧ a < sI σ 8 i ∧ (nxF σ b a i = 0 ∨ sI σ 8 i < sI σ 8 (nxF σ b a i).toNatClampNeg)
    · refine Or.inr ⟨i, hc.1, by omega, by rw [nxF, if_pos hc], hc.2.1, hc.2.2.1, fun j2 h1 h2 h3 h4 h5 => ?_⟩
      by_cases hj : j2 = i
      · subst hj; exact Int32.lt_irrefl h5
      · rcases ih (by omega) with ⟨e0, hn⟩ | ⟨j, g1, g2, g3, g4, g5, g6⟩
        · exact hn j2 h1 (by omega) h3 h4
        · rcases hc.2.2.2 with e | e
          · rw [g3] at e
            exact absurd ((nI_eq0 (by omega)).mp e) (by omega)
          · rw [g3, nI_clamp (by omega)] at e
            exact g6 j2 h1 (by omega) h3 h4 (Int32.lt_trans h5 e)
    · have e1 : nxF σ b a (i + 1) = nxF σ b a i := by rw [nxF, if_neg hc]
      rcases ih (by omega) with ⟨e0, hn⟩ | ⟨j, g1, g2, g3, g4, g5, g6⟩
      · refine Or.inl ⟨by rw [e1, e0], fun j h1 h2 h3 h4 => ?_⟩
        by_cases hj : j = i
        · subst hj; exact hc ⟨h1, h3, h4, Or.inl e0⟩
        · exact hn j h1 (by omega) h3 h4
      · refine Or.inr ⟨j, g1, by omega, by rw [e1, g3], g4, g5, fun j2 h1 h2 h3 h4 h5 => ?_⟩
        by_cases hj : j2 = i
        · subst hj
          exact hc ⟨h1, h3, h4, Or.inr (by rw [g3, nI_clamp (by omega)]; exact h5)⟩
        · exact g6 j2 h1 (by omega) h3 h4 h5
theorem RowM.lt {σ : ST} {b : Int32} {l : List Int32} (h : RowM σ b l) {n m : Nat} (hnm : n < m) (hm : m < l.length) : sI σ 8 (l.getD n 0).toNatClampNeg < sI σ 8 (l.getD m 0).toNatClampNeg := by
  have h1 := List.pairwise_iff_getElem.mp h.2.2.2 n m (by omega) hm hnm
  rw [List.getD_eq_getElem?_getD, List.getD_eq_getElem?_getD, List.getElem?_eq_getElem hm, List.getElem?_eq_getElem (show n < l.length by omega)]
  exact h1
theorem RowM.mem {σ : ST} {b : Int32} {l : List Int32} (h : RowM σ b l) {n : Nat} (hn : n < l.length) : ∃ t, 1 ≤ t ∧ t < 1061 ∧ l.getD n 0 = nI t ∧ sI σ 7 t = b ∧ 0 < sI σ 8 t :=
  h.2.1 _ (row_mem.mpr ⟨n, hn, rfl⟩)
theorem RowM.aft {σ : ST} {b : Int32} {l : List Int32} (h : RowM σ b l) {n m : Nat} (hn : n ≤ l.length) (hm : m < l.length) : aft σ l n < sI σ 8 (l.getD m 0).toNatClampNeg ↔ n ≤ m := by
  cases n with
  | zero =>
    obtain ⟨t, -, h2, h3, -, h5⟩ := h.mem hm
    rw [h3, nI_clamp (by omega)]
    exact ⟨fun _ => Nat.zero_le _, fun _ => h5⟩
  | succ n =>
    show sI σ 8 (l.getD n 0).toNatClampNeg < _ ↔ _
    constructor
    · intro q
      rcases Nat.lt_or_ge n m with z | z
      · exact z
      · exfalso
        by_cases e : m = n
        · subst e; exact Int32.lt_irrefl q
        · exact Int32.lt_irrefl (Int32.lt_trans q (h.lt (by omega) (by omega)))
    · intro q
      exact h.lt (by omega) hm
theorem nx_row {σ : ST} {b : Int32} {l : List Int32} (h : RowM σ b l) {n : Nat} (hn : n ≤ l.length) : nxF σ b (aft σ l n) 1061 = l.getD n 0 := by
  rcases nxF_spec σ b (aft σ l n) 1061 (Nat.le_refl _) with ⟨e0, hno⟩ | ⟨j, g1, g2, g3, g4, g5, g6⟩
  · rcases Nat.lt_or_ge n l.length with z | z
    · obtain ⟨t, h1, h2, h3, h4, -⟩ := h.mem z
      have h5 := (h.aft hn z).mpr (Nat.le_refl _)
      rw [h3, nI_clamp (by omega)] at h5
      exact absurd h5 (hno t h1 h2 h4)
    · rw [e0, List.getD_eq_getElem?_getD, List.getElem?_eq_none z]
      rfl
  · obtain ⟨m, hm, em⟩ := row_mem.mp (h.2.2.1 j g1 g2 g4)
    have g5' : aft σ l n < sI σ 8 (l.getD m 0).toNatClampNeg := by rw [em, nI_clamp (by omega)]; exact g5
    have hnm := (h.aft hn hm).mp g5'
    by_cases e : n = m
    · subst e
      rw [g3, em]
    · exfalso
      have hz : n < l.length := by omega
      obtain ⟨t, h1, h2, h3, h4, -⟩ := h.mem hz
      have h5 := (h.aft hn hz).mpr (Nat.le_refl _)
      rw [h3, nI_clamp (by omega)] at h5
      have h6 := h.lt (n := n) (m := m) (by omega) hm
      rw [h3, em, nI_clamp (by omega), nI_clamp (by omega)] at h6
      exact g6 t h1 h2 h4 h5 h6
theorem RowM.zero {σ : ST} {b : Int32} {l : List Int32} (h : RowM σ b l) {n : Nat} (hn : n ≤ l.length) (e : l.getD n 0 = 0) : n = l.length := by
  rcases Nat.lt_or_ge n l.length with z | z
  · obtain ⟨t, h1, h2, h3, -⟩ := h.mem z
    rw [h3, nI_eq0 (by omega)] at e
    omega
  · omega
theorem lstP_nil (σ : ST) (k : Nat) : lstP σ k [] = sI σ 17 := by
  funext x
  unfold lstP
  rw [if_neg (by rw [List.length_nil]; omega)]
theorem lstP_s (σ : ST) (k : Nat) {l : List Int32} {n : Nat} (hn : n < l.length) : upd (lstP σ k (l.take n)) (12 * k + n) (l.getD n 0) = lstP σ k (l.take (n + 1)) := by
  funext x
  have e1 : (l.take n).length = n := by rw [List.length_take]; omega
  have e2 : (l.take (n + 1)).length = n + 1 := by rw [List.length_take]; omega
  have e3 : ∀ {m i : Nat}, i < m → (l.take m).getD i 0 = l.getD i 0 := fun h => by
    rw [List.getD_eq_getElem?_getD, List.getD_eq_getElem?_getD, List.getElem?_take_of_lt h]
  unfold upd lstP
  rw [e1, e2]
  by_cases hx : x = 12 * k + n
  · rw [if_pos hx, if_pos (by omega), e3 (by omega), hx, show 12 * k + n - 12 * k = n by omega]
  · rw [if_neg hx]
    show (if 12 * k ≤ x ∧ x < 12 * k + n then (l.take n).getD (x - 12 * k) 0 else sI σ 17 x) = _
    by_cases hc : 12 * k ≤ x ∧ x < 12 * k + n
    · rw [if_pos hc, if_pos (by omega), e3 (by omega), e3 (by omega)]
    · rw [if_neg hc, if_neg (by omega)]
end
section
set_option maxHeartbeats 4000000 in
set_option maxRecDepth 100000 in
/-- BagRowsModel.close -/
theorem c_X4_close (l : Launch) (κ : KK) (σ : ST) (hM : MB σ) (l2 : List Int32) (p0 : Int32) (p1 : Int64) (p2 : Int32) (hrow : ∀ k, recOf σ p0 = some k → RowM σ (nI (1001 + k)) l2) : Met l yX4_close (wA yX4_close cX4_close 12 (some .int)) ({ frames := 2, cells := 0, slots := 0, locals := 44 }) (va_Pc [.ref (kad κ 6), .int p0, .long p1, .int p2] (WX κ σ)) (va_Qi (fun r σ' => (r, σ') = mClose σ l2 p0 p1 p2) (WX κ) (FA κ)) 0 0 (FA κ) := by
  refine g_met 7 (by decide) rfl (Nat.le_of_ble_eq_true rfl) ?_
  intro p e s m args below meth c hC F th hO ls hl
  have hl : LL ls 12 [some _, some _, some _, none, some _, none, none, none, none, none, none, none] := hl
  have h60 := hM.2.1
  have loop134 : ∀ (k : Nat), k < 60 → ∀ (S : ST), (∀ t, sI S 7 t = sI σ 7 t) → (∀ t, sI S 8 t = sI σ 8 t) → ∀ (v6 a v8 : Int32), (∀ (F : Nat → Nat → Int32) (th : Int32) (H : Heap) (locs : List Loc), OS κ s.heap S F th H locs → ∀ ls : Array Slot, LL ls 12 [some (.ref (kad κ 6)), some (.int (nI (1001 + k))), some (.long p1), none, some (.int p2), some (.int (nI k)), some (.int v6), some (.int a), some (.int v8), some (.int (nxF σ (nI (1001 + k)) a 1061)), none, none] → W p l e ({ frames := 2, cells := 0, slots := 0, locals := 44 } : Room) s m args below meth c H locs 0 0 (MQ below (va_Qi (fun r σ' => (r, σ') = mClose σ l2 p0 p1 p2) (WX κ) (FA κ)) args s 0 0 (FA κ)) (F0 m 214 ls [])) → ∀ (n2 i : Nat), 1062 ≤ i + n2 → i ≤ 1061 → 1 ≤ i → ∀ (F : Nat → Nat → Int32) (th : Int32) (H : Heap) (locs : List Loc), OS κ s.heap S F th H locs → ∀ ls : Array Slot, LL ls 12 [some (.ref (kad κ 6)), some (.int (nI (1001 + k))), some (.long p1), none, some (.int p2), some (.int (nI k)), some (.int v6), some (.int a), some (.int v8), some (.int (nxF σ (nI (1001 + k)) a i)), some (.int (nI i)), none] → W p l e ({ frames := 2, cells := 0, slots := 0, locals := 44 } : Room) s m args below meth c H locs 0 0 (MQ below (va_Qi (fun r σ' => (r, σ') = mClose σ l2 p0 p1 p2) (WX κ) (FA κ)) args s 0 0 (FA κ)) (F0 m 134 ls []) := by
    intro k hk S h7 h8 v6 a v8 K n2
    induction n2 with
    | zero => intro i h1 h2; exact absurd h1 (by omega)
    | succ n2 ih =>
      intro i h1 h2 h3 F th H locs hO ls hl
      refine g_iload hC hl dX4_close_134 rfl ?_
      refine lv_sipush (v := 1061) hC.1 hC.2.1 dX4_close_136 (by decide) ?_
      refine lv_icmp_ge (tgt := 214) hC.1 hC.2.1 dX4_close_139 (by decide) (fun c_1 => ?_) (fun c_1 => ?_)
      · skip
        rw [show (1061 : Int32) = nI 1061 from rfl, nI_leI (by omega) (by omega)] at c_1
        have ei : i = 1061 := by omega
        subst ei
        exact K _ _ _ _ hO ls (LL.drop hl 10)
      · skip
        rw [show (1061 : Int32) = nI 1061 from rfl, nI_leI (by omega) (by omega)] at c_1
        refine g_aload_n hC hl dX4_close_142 rfl rfl ?_
        refine g_get (ci := 4) (k := 1) hC hO rfl inX4 (by decide) q_fl_RX4_7 (nn_lt (Nat.le_of_ble_eq_true rfl)) rfl rfl dX4_close_143 ?_
        refine g_iload hC hl dX4_close_146 rfl ?_
        refine g_iald hC hO (nn_lt (Nat.le_of_ble_eq_true rfl)) rfl (vp_in_nI (by omega) (by omega)) dX4_close_148 ?_
        refine g_iload_n hC hl dX4_close_149 rfl rfl ?_
        refine lv_icmp_ne (tgt := 169) hC.1 hC.2.1 dX4_close_150 (by decide) (fun c_2 => ?_) (fun c_2 => ?_)
        · skip
          rw [nI_clamp (n := i) (by omega), h7] at c_2
          have hw : nxF σ (nI (1001 + k)) a (i + 1) = nxF σ (nI (1001 + k)) a i := by rw [nxF, if_neg (fun q => c_2 q.2.1)]
          refine lv_iconst (v := 0) hC.1 hC.2.1 dX4_close_169 (by decide) ?_
          refine g_istore hC hl dX4_close_170 (Nat.le_of_ble_eq_true rfl) rfl (fun ls hl => ?_)
          have hl : LL ls 12 [some _, some _, some _, none, some _, some _, some _, some _, some _, some _, some _, some _] := hl
          refine g_iload hC hl dX4_close_172 rfl ?_
          refine lv_if_eq (tgt := 204) hC.1 hC.2.1 dX4_close_174 (by decide) (fun c_3 => ?_) (fun c_3 => ?_)
          · skip
            refine g_iload hC hl dX4_close_204 rfl ?_
            refine g_istore hC hl dX4_close_206 (Nat.le_of_ble_eq_true rfl) rfl (fun ls hl => ?_)
            have hl : LL ls 12 [some _, some _, some _, none, some _, some _, some _, some _, some _, some _, some _, some _] := hl
            refine g_iinc (v := nI (i + 1)) hC hl dX4_close_208 rfl (nI_i1 i) (Nat.le_of_ble_eq_true rfl) rfl (fun ls hl => ?_)
            have hl : LL ls 12 [some _, some _, some _, none, some _, some _, some _, some _, some _, some _, some _, some _] := hl
            refine lv_goto (tgt := 134) hC.1 hC.2.1 dX4_close_211 (by decide) ?_
            have hl := LL.drop hl 11
            exact ih (i + 1) (by omega) (by omega) (by omega) _ _ _ _ hO ls (by rw [hw]; exact hl)
          · skip
            exact absurd c_3 (by decide)
        · skip
          rw [nI_clamp (n := i) (by omega), h7] at c_2
          have h150 := c_2
          refine g_aload_n hC hl dX4_close_153 rfl rfl ?_
          refine g_get (ci := 4) (k := 2) hC hO rfl inX4 (by decide) q_fl_RX4_13 (nn_lt (Nat.le_of_ble_eq_true rfl)) rfl rfl dX4_close_154 ?_
          refine g_iload hC hl dX4_close_157 rfl ?_
          refine g_iald hC hO (nn_lt (Nat.le_of_ble_eq_true rfl)) rfl (vp_in_nI (by omega) (by omega)) dX4_close_159 ?_
          refine g_iload hC hl dX4_close_160 rfl ?_
          refine lv_icmp_le (tgt := 169) hC.1 hC.2.1 dX4_close_162 (by decide) (fun c_4 => ?_) (fun c_4 => ?_)
          · skip
            rw [nI_clamp (n := i) (by omega), h8] at c_4
            have hw : nxF σ (nI (1001 + k)) a (i + 1) = nxF σ (nI (1001 + k)) a i := by rw [nxF, if_neg (fun q => absurd q.2.2.1 (Int32.not_lt.mpr c_4))]
            refine lv_iconst (v := 0) hC.1 hC.2.1 dX4_close_169 (by decide) ?_
            refine g_istore hC hl dX4_close_170 (Nat.le_of_ble_eq_true rfl) rfl (fun ls hl => ?_)
            have hl : LL ls 12 [some _, some _, some _, none, some _, some _, some _, some _, some _, some _, some _, some _] := hl
            refine g_iload hC hl dX4_close_172 rfl ?_
            refine lv_if_eq (tgt := 204) hC.1 hC.2.1 dX4_close_174 (by decide) (fun c_5 => ?_) (fun c_5 => ?_)
            · skip
              refine g_iload hC hl dX4_close_204 rfl ?_
              refine g_istore hC hl dX4_close_206 (Nat.le_of_ble_eq_true rfl) rfl (fun ls hl => ?_)
              have hl : LL ls 12 [some _, some _, some _, none, some _, some _, some _, some _, some _, some _, some _, some _] := hl
              refine g_iinc (v := nI (i + 1)) hC hl dX4_close_208 rfl (nI_i1 i) (Nat.le_of_ble_eq_true rfl) rfl (fun ls hl => ?_)
              have hl : LL ls 12 [some _, some _, some _, none, some _, some _, some _, some _, some _, some _, some _, some _] := hl
              refine lv_goto (tgt := 134) hC.1 hC.2.1 dX4_close_211 (by decide) ?_
              have hl := LL.drop hl 11
              exact ih (i + 1) (by omega) (by omega) (by omega) _ _ _ _ hO ls (by rw [hw]; exact hl)
            · skip
              exact absurd c_5 (by decide)
          · skip
            rw [nI_clamp (n := i) (by omega), h8] at c_4
            have h162 : a < sI σ 8 i := Int32.not_le.mp c_4
            refine lv_iconst (v := 1) hC.1 hC.2.1 dX4_close_165 (by decide) ?_
            refine lv_goto (tgt := 170) hC.1 hC.2.1 dX4_close_166 (by decide) ?_
            refine g_istore hC hl dX4_close_170 (Nat.le_of_ble_eq_true rfl) rfl (fun ls hl => ?_)
            have hl : LL ls 12 [some _, some _, some _, none, some _, some _, some _, some _, some _, some _, some _, some _] := hl
            refine g_iload hC hl dX4_close_172 rfl ?_
            refine lv_if_eq (tgt := 204) hC.1 hC.2.1 dX4_close_174 (by decide) (fun c_6 => ?_) (fun c_6 => ?_)
            · skip
              exact absurd c_6 (by decide)
            · skip
              refine g_iload hC hl dX4_close_177 rfl ?_
              refine lv_if_eq (tgt := 199) hC.1 hC.2.1 dX4_close_179 (by decide) (fun c_7 => ?_) (fun c_7 => ?_)
              · skip
                have hw : nxF σ (nI (1001 + k)) a (i + 1) = nI i := by rw [nxF, if_pos ⟨h3, h150, h162, Or.inl c_7⟩]
                refine g_iload hC hl dX4_close_199 rfl ?_
                refine lv_goto (tgt := 206) hC.1 hC.2.1 dX4_close_201 (by decide) ?_
                refine g_istore hC hl dX4_close_206 (Nat.le_of_ble_eq_true rfl) rfl (fun ls hl => ?_)
                have hl : LL ls 12 [some _, some _, some _, none, some _, some _, some _, some _, some _, some _, some _, some _] := hl
                refine g_iinc (v := nI (i + 1)) hC hl dX4_close_208 rfl (nI_i1 i) (Nat.le_of_ble_eq_true rfl) rfl (fun ls hl => ?_)
                have hl : LL ls 12 [some _, some _, some _, none, some _, some _, some _, some _, some _, some _, some _, some _] := hl
                refine lv_goto (tgt := 134) hC.1 hC.2.1 dX4_close_211 (by decide) ?_
                have hl := LL.drop hl 11
                exact ih (i + 1) (by omega) (by omega) (by omega) _ _ _ _ hO ls (by rw [hw]; exact hl)
              · skip
                have h179 := c_7
                obtain ⟨j9, hj9, ej9⟩ := (nxF_in σ (nI (1001 + k)) a i).resolve_left c_7
                refine g_aload_n hC hl dX4_close_182 rfl rfl ?_
                refine g_get (ci := 4) (k := 2) hC hO rfl inX4 (by decide) q_fl_RX4_13 (nn_lt (Nat.le_of_ble_eq_true rfl)) rfl rfl dX4_close_183 ?_
                refine g_iload hC hl dX4_close_186 rfl ?_
                refine g_iald hC hO (nn_lt (Nat.le_of_ble_eq_true rfl)) rfl (vp_in_nI (by omega) (by omega)) dX4_close_188 ?_
                refine g_aload_n hC hl dX4_close_189 rfl rfl ?_
                refine g_get (ci := 4) (k := 2) hC hO rfl inX4 (by decide) q_fl_RX4_13 (nn_lt (Nat.le_of_ble_eq_true rfl)) rfl rfl dX4_close_190 ?_
                refine g_iload hC hl dX4_close_193 rfl ?_
                refine g_iald hC hO (nn_lt (Nat.le_of_ble_eq_true rfl)) rfl (by rw [ej9]; exact vp_in_nI (by omega) (by omega)) dX4_close_195 ?_
                refine lv_icmp_ge (tgt := 204) hC.1 hC.2.1 dX4_close_196 (by decide) (fun c_8 => ?_) (fun c_8 => ?_)
                · skip
                  rw [nI_clamp (n := i) (by omega), h8, h8] at c_8
                  have hw : nxF σ (nI (1001 + k)) a (i + 1) = nxF σ (nI (1001 + k)) a i := by rw [nxF, if_neg (fun q => q.2.2.2.elim h179 (fun z => absurd z (Int32.not_lt.mpr c_8)))]
                  refine g_iload hC hl dX4_close_204 rfl ?_
                  refine g_istore hC hl dX4_close_206 (Nat.le_of_ble_eq_true rfl) rfl (fun ls hl => ?_)
                  have hl : LL ls 12 [some _, some _, some _, none, some _, some _, some _, some _, some _, some _, some _, some _] := hl
                  refine g_iinc (v := nI (i + 1)) hC hl dX4_close_208 rfl (nI_i1 i) (Nat.le_of_ble_eq_true rfl) rfl (fun ls hl => ?_)
                  have hl : LL ls 12 [some _, some _, some _, none, some _, some _, some _, some _, some _, some _, some _, some _] := hl
                  refine lv_goto (tgt := 134) hC.1 hC.2.1 dX4_close_211 (by decide) ?_
                  have hl := LL.drop hl 11
                  exact ih (i + 1) (by omega) (by omega) (by omega) _ _ _ _ hO ls (by rw [hw]; exact hl)
                · skip
                  rw [nI_clamp (n := i) (by omega), h8, h8] at c_8
                  have hw : nxF σ (nI (1001 + k)) a (i + 1) = nI i := by rw [nxF, if_pos ⟨h3, h150, h162, Or.inr (Int32.not_le.mp c_8)⟩]
                  refine g_iload hC hl dX4_close_199 rfl ?_
                  refine lv_goto (tgt := 206) hC.1 hC.2.1 dX4_close_201 (by decide) ?_
                  refine g_istore hC hl dX4_close_206 (Nat.le_of_ble_eq_true rfl) rfl (fun ls hl => ?_)
                  have hl : LL ls 12 [some _, some _, some _, none, some _, some _, some _, some _, some _, some _, some _, some _] := hl
                  refine g_iinc (v := nI (i + 1)) hC hl dX4_close_208 rfl (nI_i1 i) (Nat.le_of_ble_eq_true rfl) rfl (fun ls hl => ?_)
                  have hl : LL ls 12 [some _, some _, some _, none, some _, some _, some _, some _, some _, some _, some _, some _] := hl
                  refine lv_goto (tgt := 134) hC.1 hC.2.1 dX4_close_211 (by decide) ?_
                  have hl := LL.drop hl 11
                  exact ih (i + 1) (by omega) (by omega) (by omega) _ _ _ _ hO ls (by rw [hw]; exact hl)
  have loop123 : ∀ (k : Nat), k < 60 → ∀ (l9 : List Int32), RowM σ (nI (1001 + k)) l9 → (∀ (F : Nat → Nat → Int32) (th : Int32) (H : Heap) (locs : List Loc), OS κ s.heap (upA (mShut σ k p1 p2) 17 (lstP σ k l9)) F th H locs → ∀ ls : Array Slot, LL ls 12 [some (.ref (kad κ 6)), some (.int (nI (1001 + k))), some (.long p1), none, some (.int p2), some (.int (nI k)), some (.int (nI l9.length)), none, none, none, none, none] → W p l e ({ frames := 2, cells := 0, slots := 0, locals := 44 } : Room) s m args below meth c H locs 0 0 (MQ below (va_Qi (fun r σ' => (r, σ') = mClose σ l2 p0 p1 p2) (WX κ) (FA κ)) args s 0 0 (FA κ)) (F0 m 261 ls [])) → ∀ (n2 n : Nat) (mr : Bool), (mr = true → l9.length + 2 ≤ n + n2) → 1 ≤ n2 → n ≤ l9.length → (mr = false → n = l9.length) → ∀ (F : Nat → Nat → Int32) (th : Int32) (H : Heap) (locs : List Loc), OS κ s.heap (upA (mShut σ k p1 p2) 17 (lstP σ k (l9.take n))) F th H locs → ∀ ls : Array Slot, LL ls 12 [some (.ref (kad κ 6)), some (.int (nI (1001 + k))), some (.long p1), none, some (.int p2), some (.int (nI k)), some (.int (nI n)), some (.int (aft σ l9 n)), some (.int (bI mr)), none, none, none] → W p l e ({ frames := 2, cells := 0, slots := 0, locals := 44 } : Room) s m args below meth c H locs 0 0 (MQ below (va_Qi (fun r σ' => (r, σ') = mClose σ l2 p0 p1 p2) (WX κ) (FA κ)) args s 0 0 (FA κ)) (F0 m 123 ls []) := by
    intro k hk l9 hRM K n2
    induction n2 with
    | zero => intro n mr h1 h1b; exact absurd h1b (by omega)
    | succ n2 ih =>
      intro n mr h1 h1b h2 h3 F th H locs hO ls hl
      refine g_iload hC hl dX4_close_123 rfl ?_
      refine lv_if_eq (tgt := 261) hC.1 hC.2.1 dX4_close_125 (by decide) (fun c_9 => ?_) (fun c_9 => ?_)
      · skip
        have c_9 := bI_z c_9
        have hnl := h3 c_9
        subst hnl
        rw [List.take_of_length_le (Nat.le_refl _)] at hO
        exact K _ _ _ _ hO ls (LL.drop (LL.drop hl 7) 8)
      · skip
        have c_9 := bI_nz c_9
        have hmr := c_9
        refine lv_iconst (v := 0) hC.1 hC.2.1 dX4_close_128 (by decide) ?_
        refine g_istore hC hl dX4_close_129 (Nat.le_of_ble_eq_true rfl) rfl (fun ls hl => ?_)
        have hl : LL ls 12 [some _, some _, some _, none, some _, some _, some _, some _, some _, some _, none, none] := hl
        refine lv_iconst (v := 1) hC.1 hC.2.1 dX4_close_131 (by decide) ?_
        refine g_istore hC hl dX4_close_132 (Nat.le_of_ble_eq_true rfl) rfl (fun ls hl => ?_)
        have hl : LL ls 12 [some _, some _, some _, none, some _, some _, some _, some _, some _, some _, some _, none] := hl
        refine loop134 k hk (upA (mShut σ k p1 p2) 17 (lstP σ k (l9.take n))) (fun t => rfl) (fun t => rfl) _ _ _ ?_ 1061 1 (by omega) (by omega) (by omega) _ _ _ _ hO ls (by rw [show nxF σ (nI (1001 + k)) (aft σ l9 n) 1 = 0 from rfl]; exact hl)
        intro F th H locs hO ls hl
        rw [nx_row hRM h2] at hl
        refine g_iload hC hl dX4_close_214 rfl ?_
        refine lv_if_eq (tgt := 223) hC.1 hC.2.1 dX4_close_216 (by decide) (fun c_10 => ?_) (fun c_10 => ?_)
        · skip
          have hn9 : n = l9.length := hRM.zero h2 c_10
          refine lv_iconst (v := 0) hC.1 hC.2.1 dX4_close_223 (by decide) ?_
          refine g_istore hC hl dX4_close_224 (Nat.le_of_ble_eq_true rfl) rfl (fun ls hl => ?_)
          have hl : LL ls 12 [some _, some _, some _, none, some _, some _, some _, some _, some _, some _, none, none] := hl
          refine g_iload hC hl dX4_close_226 rfl ?_
          refine lv_if_eq (tgt := 258) hC.1 hC.2.1 dX4_close_228 (by decide) (fun c_11 => ?_) (fun c_11 => ?_)
          · skip
            refine lv_goto (tgt := 123) hC.1 hC.2.1 dX4_close_258 (by decide) ?_
            have hl := LL.drop hl 9
            have h1c := h1 hmr
            first
              | exact ih (n + 1) true (fun _ => by omega) (by omega) (by omega) (fun h => by cases h) _ _ _ _ hO ls hl
              | exact ih n false (fun h => by cases h) (by omega) h2 (fun _ => hn9) _ _ _ _ hO ls hl
          · skip
            exact absurd c_11 (by decide)
        · skip
          have hn9 : n < l9.length := by
            rcases Nat.lt_or_ge n l9.length with z | z
            · exact z
            · exact absurd (by rw [List.getD_eq_getElem?_getD, List.getElem?_eq_none z]; rfl) c_10
          obtain ⟨t9, ht91, ht92, et9, -, -⟩ := hRM.mem hn9
          have hl12 := hRM.1
          refine lv_iconst (v := 1) hC.1 hC.2.1 dX4_close_219 (by decide) ?_
          refine lv_goto (tgt := 224) hC.1 hC.2.1 dX4_close_220 (by decide) ?_
          refine g_istore hC hl dX4_close_224 (Nat.le_of_ble_eq_true rfl) rfl (fun ls hl => ?_)
          have hl : LL ls 12 [some _, some _, some _, none, some _, some _, some _, some _, some _, some _, none, none] := hl
          refine g_iload hC hl dX4_close_226 rfl ?_
          refine lv_if_eq (tgt := 258) hC.1 hC.2.1 dX4_close_228 (by decide) (fun c_12 => ?_) (fun c_12 => ?_)
          · skip
            exact absurd c_12 (by decide)
          · skip
            refine g_aload_n hC hl dX4_close_231 rfl rfl ?_
            refine g_get (ci := 4) (k := 13) hC hO rfl inX4 (by decide) q_fl_RX4_42 (nn_lt (Nat.le_of_ble_eq_true rfl)) rfl rfl dX4_close_232 ?_
            refine lv_bipush (v := 12) hC.1 hC.2.1 dX4_close_235 (by decide) ?_
            refine g_iload hC hl dX4_close_237 rfl ?_
            refine lv_imul hC.1 hC.2.1 dX4_close_239 ?_
            refine g_iload hC hl dX4_close_240 rfl ?_
            refine lv_iadd hC.1 hC.2.1 dX4_close_242 ?_
            rw [ix12]
            refine g_iload hC hl dX4_close_243 rfl ?_
            refine g_iast hC hO (nn_lt (Nat.le_of_ble_eq_true rfl)) (fun _ _ => rfl) (vp_in_nI (by omega) (by omega)) dX4_close_245 (fun H locs hO => ?_)
            rw [nI_clamp (n := 12 * k + n) (by omega), upI_upA, lstP_s σ k hn9] at hO
            refine g_aload_n hC hl dX4_close_246 rfl rfl ?_
            refine g_get (ci := 4) (k := 2) hC hO rfl inX4 (by decide) q_fl_RX4_13 (nn_lt (Nat.le_of_ble_eq_true rfl)) rfl rfl dX4_close_247 ?_
            refine g_iload hC hl dX4_close_250 rfl ?_
            refine g_iald hC hO (nn_lt (Nat.le_of_ble_eq_true rfl)) rfl (by rw [et9]; exact vp_in_nI (by omega) (by omega)) dX4_close_252 ?_
            refine g_istore hC hl dX4_close_253 (Nat.le_of_ble_eq_true rfl) rfl (fun ls hl => ?_)
            have hl : LL ls 12 [some _, some _, some _, none, some _, some _, some _, some _, some _, some _, none, none] := hl
            refine g_iinc (v := nI (n + 1)) hC hl dX4_close_255 rfl (nI_i1 n) (Nat.le_of_ble_eq_true rfl) rfl (fun ls hl => ?_)
            have hl : LL ls 12 [some _, some _, some _, none, some _, some _, some _, some _, some _, some _, none, none] := hl
            refine lv_goto (tgt := 123) hC.1 hC.2.1 dX4_close_258 (by decide) ?_
            have hl := LL.drop hl 9
            have h1c := h1 hmr
            first
              | exact ih (n + 1) true (fun _ => by omega) (by omega) (by omega) (fun h => by cases h) _ _ _ _ hO ls hl
              | exact ih n false (fun h => by cases h) (by omega) h2 (fun _ => hn9) _ _ _ _ hO ls hl
  refine g_aload_n hC hl dX4_close_0 rfl rfl ?_
  refine lv_iconst (v := 0) hC.1 hC.2.1 dX4_close_1 (by decide) ?_
  refine g_putT hC hO q_fl_RX4_69 dX4_close_2 (fun H locs hO => ?_)
  refine g_aload_n hC hl dX4_close_5 rfl rfl ?_
  refine g_iload_n hC hl dX4_close_6 rfl rfl ?_
  refine g_cVi1 hC hO hl (ci := 4) rfl (nn_lt (Nat.le_of_ble_eq_true rfl)) rfl (c_X4_isBag l κ _ (by first | exact hM | exact hM.upA 9 _ (by decide) (by decide) (by decide)) _) mi_X4_isBag q_ml_RX4_76 rfl rfl ⟨Nat.le_of_ble_eq_true rfl, Nat.le_of_ble_eq_true rfl⟩ (Nat.le_of_ble_eq_true rfl) ⟨Nat.zero_le _, Nat.zero_le _⟩ dX4_close_7 (fun r σ1 F th H locs hr hO => ?_)
  obtain ⟨rfl, rfl⟩ := hr
  refine lv_if_ne (tgt := 16) hC.1 hC.2.1 dX4_close_10 (by decide) (fun c_13 => ?_) (fun c_13 => ?_)
  · skip
    have c_13 := bI_nz c_13
    obtain ⟨k, hq, hk, rfl⟩ := recOf_isSome c_13
    have hbt := thing_bag hq
    have ck : (nI k).toNatClampNeg = k := nI_clamp (by omega)
    have cb : (nI (1001 + k)).toNatClampNeg = 1001 + k := nI_clamp (by omega)
    refine g_lload_n hC hl dX4_close_16 rfl rfl ?_
    refine lv_lconst (v := 1) hC.1 hC.2.1 dX4_close_17 (by decide) ?_
    refine W.lcmp hC.1 hC.2.1 dX4_close_18 ?_
    refine lv_if_lt (tgt := 42) hC.1 hC.2.1 dX4_close_19 (by decide) (fun c_14 => ?_) (fun c_14 => ?_)
    · skip
      rw [lg_cmp_lt] at c_14
      have hs := sealB_f1 c_14
      refine lv_bipush (v := (-12)) hC.1 hC.2.1 dX4_close_42 (by decide) ?_
      exact g_iret hC hO dX4_close_44 (by unfold mClose; simp [hq, hs])
    · skip
      rw [lg_cmp_lt] at c_14
      have hs1 := c_14
      refine g_lload_n hC hl dX4_close_22 rfl rfl ?_
      refine lv_ldc2 hC.1 hC.2.1 hC.2.2.2.1 (hC.2.2.2.2.1 _ q_kl_RX4_111) dX4_close_23 ?_
      refine W.lcmp hC.1 hC.2.1 dX4_close_26 ?_
      refine lv_if_gt (tgt := 42) hC.1 hC.2.1 dX4_close_27 (by decide) (fun c_15 => ?_) (fun c_15 => ?_)
      · skip
        rw [lg_cmp_gt] at c_15
        have hs := sealB_f2 c_15
        refine lv_bipush (v := (-12)) hC.1 hC.2.1 dX4_close_42 (by decide) ?_
        exact g_iret hC hO dX4_close_44 (by unfold mClose; simp [hq, hs])
      · skip
        rw [lg_cmp_gt] at c_15
        have hs := sealB_t hs1 c_15
        refine g_iload hC hl dX4_close_30 rfl ?_
        refine lv_if_lt (tgt := 42) hC.1 hC.2.1 dX4_close_32 (by decide) (fun c_16 => ?_) (fun c_16 => ?_)
        · skip
          have hpp := personB_f1 c_16
          refine lv_bipush (v := (-12)) hC.1 hC.2.1 dX4_close_42 (by decide) ?_
          exact g_iret hC hO dX4_close_44 (by unfold mClose; simp [hq, hs, hpp])
        · skip
          have hp1 := c_16
          refine g_iload hC hl dX4_close_35 rfl ?_
          refine lv_bipush (v := 49) hC.1 hC.2.1 dX4_close_37 (by decide) ?_
          refine lv_icmp_le (tgt := 45) hC.1 hC.2.1 dX4_close_39 (by decide) (fun c_17 => ?_) (fun c_17 => ?_)
          · skip
            have hpp := personB_t hp1 c_17
            refine g_iload_n hC hl dX4_close_45 rfl rfl ?_
            refine lv_sipush (v := 1001) hC.1 hC.2.1 dX4_close_46 (by decide) ?_
            refine lv_isub hC.1 hC.2.1 dX4_close_49 ?_
            rw [sub1001 (by omega)]
            refine g_istore hC hl dX4_close_50 (Nat.le_of_ble_eq_true rfl) rfl (fun ls hl => ?_)
            have hl : LL ls 12 [some _, some _, some _, none, some _, some _, none, none, none, none, none, none] := hl
            refine g_aload_n hC hl dX4_close_52 rfl rfl ?_
            refine g_get (ci := 4) (k := 7) hC hO rfl inX4 (by decide) q_fl_RX4_22 (nn_lt (Nat.le_of_ble_eq_true rfl)) rfl rfl dX4_close_53 ?_
            refine g_iload hC hl dX4_close_56 rfl ?_
            refine g_zald hC hO (nn_lt (Nat.le_of_ble_eq_true rfl)) rfl (vp_in_nI (by omega) (by omega)) dX4_close_58 ?_
            refine lv_if_ne (tgt := 70) hC.1 hC.2.1 dX4_close_59 (by decide) (fun c_18 => ?_) (fun c_18 => ?_)
            · skip
              rw [ck] at c_18
              refine lv_bipush (v := (-13)) hC.1 hC.2.1 dX4_close_70 (by decide) ?_
              exact g_iret hC hO dX4_close_72 (by unfold mClose; simp [hq, hs, hpp, c_18])
            · skip
              rw [ck] at c_18
              refine g_aload_n hC hl dX4_close_62 rfl rfl ?_
              refine g_iload_n hC hl dX4_close_63 rfl rfl ?_
              refine g_cVi1 hC hO hl (ci := 4) rfl (nn_lt (Nat.le_of_ble_eq_true rfl)) rfl (c_X4_isShutIn l κ _ (by first | exact hM | exact hM.upA 9 _ (by decide) (by decide) (by decide)) (1001 + k) (by omega)) mi_X4_isShutIn q_ml_RX4_98 rfl rfl ⟨Nat.le_of_ble_eq_true rfl, Nat.le_of_ble_eq_true rfl⟩ (Nat.le_of_ble_eq_true rfl) ⟨Nat.zero_le _, Nat.zero_le _⟩ dX4_close_64 (fun r σ1 F th H locs hr hO => ?_)
              obtain ⟨rfl, rfl⟩ := hr
              refine lv_if_eq (tgt := 73) hC.1 hC.2.1 dX4_close_67 (by decide) (fun c_19 => ?_) (fun c_19 => ?_)
              · skip
                have c_19 := bI_z c_19
                refine g_aload_n hC hl dX4_close_73 rfl rfl ?_
                refine g_get (ci := 4) (k := 7) hC hO rfl inX4 (by decide) q_fl_RX4_22 (nn_lt (Nat.le_of_ble_eq_true rfl)) rfl rfl dX4_close_74 ?_
                refine g_iload hC hl dX4_close_77 rfl ?_
                refine lv_iconst (v := 1) hC.1 hC.2.1 dX4_close_79 (by decide) ?_
                refine g_zast hC hO (nn_lt (Nat.le_of_ble_eq_true rfl)) (fun _ _ => rfl) (vp_in_nI (by omega) (by omega)) (by decide) dX4_close_80 (fun H locs hO => ?_)
                rw [ck] at hO
                refine g_aload_n hC hl dX4_close_81 rfl rfl ?_
                refine g_get (ci := 4) (k := 8) hC hO rfl inX4 (by decide) q_fl_RX4_26 (nn_lt (Nat.le_of_ble_eq_true rfl)) rfl rfl dX4_close_82 ?_
                refine g_iload hC hl dX4_close_85 rfl ?_
                refine lv_iconst (v := 0) hC.1 hC.2.1 dX4_close_87 (by decide) ?_
                refine g_zast hC hO (nn_lt (Nat.le_of_ble_eq_true rfl)) (fun _ _ => rfl) (vp_in_nI (by omega) (by omega)) (by decide) dX4_close_88 (fun H locs hO => ?_)
                rw [ck] at hO
                refine g_aload_n hC hl dX4_close_89 rfl rfl ?_
                refine g_get (ci := 4) (k := 9) hC hO rfl inX4 (by decide) q_fl_RX4_29 (nn_lt (Nat.le_of_ble_eq_true rfl)) rfl rfl dX4_close_90 ?_
                refine g_iload hC hl dX4_close_93 rfl ?_
                refine g_lload_n hC hl dX4_close_95 rfl rfl ?_
                refine g_last hC hO (nn_lt (Nat.le_of_ble_eq_true rfl)) (fun _ _ => rfl) (vp_in_nI (by omega) (by omega)) dX4_close_96 (fun H locs hO => ?_)
                rw [ck] at hO
                refine g_aload_n hC hl dX4_close_97 rfl rfl ?_
                refine g_get (ci := 4) (k := 10) hC hO rfl inX4 (by decide) q_fl_RX4_33 (nn_lt (Nat.le_of_ble_eq_true rfl)) rfl rfl dX4_close_98 ?_
                refine g_iload hC hl dX4_close_101 rfl ?_
                refine g_iload hC hl dX4_close_103 rfl ?_
                refine g_iast hC hO (nn_lt (Nat.le_of_ble_eq_true rfl)) (fun _ _ => rfl) (vp_in_nI (by omega) (by omega)) dX4_close_105 (fun H locs hO => ?_)
                rw [ck] at hO
                refine g_aload_n hC hl dX4_close_106 rfl rfl ?_
                refine g_get (ci := 4) (k := 17) hC hO rfl inX4 (by decide) q_fl_RX4_54 (nn_lt (Nat.le_of_ble_eq_true rfl)) rfl rfl dX4_close_107 ?_
                refine g_iload hC hl dX4_close_110 rfl ?_
                refine lv_iconst (v := 0) hC.1 hC.2.1 dX4_close_112 (by decide) ?_
                refine g_iast hC hO (nn_lt (Nat.le_of_ble_eq_true rfl)) (fun _ _ => rfl) (vp_in_nI (by omega) (by omega)) dX4_close_113 (fun H locs hO => ?_)
                rw [ck] at hO
                refine lv_iconst (v := 0) hC.1 hC.2.1 dX4_close_114 (by decide) ?_
                refine g_istore hC hl dX4_close_115 (Nat.le_of_ble_eq_true rfl) rfl (fun ls hl => ?_)
                have hl : LL ls 12 [some _, some _, some _, none, some _, some _, some _, none, none, none, none, none] := hl
                refine lv_iconst (v := 0) hC.1 hC.2.1 dX4_close_117 (by decide) ?_
                refine g_istore hC hl dX4_close_118 (Nat.le_of_ble_eq_true rfl) rfl (fun ls hl => ?_)
                have hl : LL ls 12 [some _, some _, some _, none, some _, some _, some _, some _, none, none, none, none] := hl
                refine lv_iconst (v := 1) hC.1 hC.2.1 dX4_close_120 (by decide) ?_
                refine g_istore hC hl dX4_close_121 (Nat.le_of_ble_eq_true rfl) rfl (fun ls hl => ?_)
                have hl : LL ls 12 [some _, some _, some _, none, some _, some _, some _, some _, some _, none, none, none] := hl
                have hRM := hrow k hq
                refine loop123 k (by omega) l2 hRM ?_ (l2.length + 2) 0 true (fun _ => by omega) (by omega) (by omega) (fun h => by cases h) _ _ _ _ (by rw [show lstP σ k (l2.take 0) = sI (mShut σ k p1 p2) 17 from lstP_nil _ _, upA_self]; exact hO) ls hl
                intro F th H locs hO ls hl
                refine g_aload_n hC hl dX4_close_261 rfl rfl ?_
                refine g_get (ci := 4) (k := 12) hC hO rfl inX4 (by decide) q_fl_RX4_39 (nn_lt (Nat.le_of_ble_eq_true rfl)) rfl rfl dX4_close_262 ?_
                refine g_iload hC hl dX4_close_265 rfl ?_
                refine g_iload hC hl dX4_close_267 rfl ?_
                refine g_iast hC hO (nn_lt (Nat.le_of_ble_eq_true rfl)) (fun _ _ => rfl) (vp_in_nI (by omega) (by omega)) dX4_close_269 (fun H locs hO => ?_)
                rw [ck] at hO
                refine g_iload hC hl dX4_close_270 rfl ?_
                exact g_iret hC hO dX4_close_272 (by unfold mClose; simp [hq, hs, hpp, c_18, c_19])
              · skip
                have c_19 := bI_nz c_19
                refine lv_bipush (v := (-13)) hC.1 hC.2.1 dX4_close_70 (by decide) ?_
                exact g_iret hC hO dX4_close_72 (by unfold mClose; simp [hq, hs, hpp, c_18, c_19])
          · skip
            have hpp := personB_f2 c_17
            refine lv_bipush (v := (-12)) hC.1 hC.2.1 dX4_close_42 (by decide) ?_
            exact g_iret hC hO dX4_close_44 (by unfold mClose; simp [hq, hs, hpp])
  · skip
    have c_13 := bI_z c_13
    have hq := recOf_no c_13
    refine lv_bipush (v := (-11)) hC.1 hC.2.1 dX4_close_13 (by decide) ?_
    exact g_iret hC hO dX4_close_15 (by unfold mClose; simp [hq])
end
section
/-! worlds in the making: any cells, by codes; the addresses grow -/
def OR (κ : KK) (H0 : Heap) (C : Nat → va_E) (n : Nat) (H : Heap) (locs : List Loc) : Prop := va_P (kD κ) vwCl (wz (kad κ) C n) H ∧ adOk κ n ∧ va_S (FA κ) H0 H locs ∧ kS κ ≤ H0.size
def WR (κ : KK) (C : Nat → va_E) (n : Nat) (U : State) : Prop := va_K (kD κ) vwCl (kT κ) U ∧ va_P (kD κ) vwCl (wz (kad κ) C n) U.heap ∧ adOk κ n ∧ kS κ ≤ U.heap.size
theorem WR.blind {κ : KK} {C : Nat → va_E} {n : Nat} {U : State} (g : JFrame) (mk : MethodId) (a : Array Value) (h : WR κ C n U) : WR κ C n (U.calling g mk a) := ⟨va_K.moved (u := U) (U := U.calling g mk a) (Vm.Alike.refl U.vm) h.1, h.2.1, h.2.2.1, h.2.2.2⟩
theorem OR.wr {κ : KK} {H0 : Heap} {C : Nat → va_E} {n : Nat} {H : Heap} {locs : List Loc} (h : OR κ H0 C n H locs) {U : State} (hU : U.heap = H) (hK : va_K (kD κ) vwCl (kT κ) U) : WR κ C n U := ⟨hK, by rw [hU]; exact h.1, h.2.1, by rw [hU]; exact Nat.le_trans h.2.2.2 h.2.2.1.1⟩
theorem OR.back {κ κ2 : KK} {H0 H H1 : Heap} {C C2 : Nat → va_E} {n n2 : Nat} {locs locs1 : List Loc} {t : State} (h : OR κ H0 C n H locs) (hs : kS κ2 = kS κ) (ht : t.heap = H1) (hB : WR κ2 C2 n2 t) (hS : va_S (FA κ) H0 H1 locs1) : OR κ2 H0 C2 n2 H1 locs1 := ⟨by rw [← ht]; exact hB.2.1, hB.2.2.1, by unfold FA at hS ⊢; rw [hs]; exact hS, by rw [hs]; exact h.2.2.2⟩
theorem kad_kup (κ : KK) (n q c : Nat) : kad (kup κ n q) c = if c = n then q else kad κ c := rfl
section RAW
variable {p : Program} {l : Launch} {e : Env} {R : Room} {s : State} {m : MethodId} {args : Array Value} {below : List Frame} {meth : Method} {c : Code} {H : Heap} {locs : List Loc} {cells slots : Nat} {Q : State → Prop}
variable {cc : ByteArray} {nL : Nat} {own : String} {rt : Option FieldType} {κ : KK} {pc : Nat} {ls : Array Slot} {rest : List Value} {vs : List (Option Value)} {H0 : Heap} {C : Nat → va_E} {n : Nat}
theorem r_get {a co ci N k index : Nat} {Cn : String} {T : u_T} {fs : List Value} {v : Value} (hC : CX p s m args meth c cc nL own rt κ) (hO : OR κ H0 C n H locs) (hca : kad κ co = a) (hcl : vwCl[ci]? = some (Cn, T, N)) (hin : ∀ w ∈ u_ws Cn T N, w ∈ lw_g) (hk : k < N) (hfl : Cond.fieldLink own index (T k).1 (T k).2.1 (T k).2.2.1 ∈ lw_g) (hco : co < n) (he : C co = .inr (ci, fs)) (hv : fs[k]? = some v) (hdg : decode cc pc = .ok (.getfield index, 3))
    (kk : W p l e R s m args below meth c H locs cells slots Q (F0 m (pc + 3) ls (v :: rest))) : W p l e R s m args below meth c H locs cells slots Q (F0 m pc ls (.ref a :: rest)) := by
  subst hca
  exact va_get hC.1 hC.2.1 hC.2.2.2.2.1 hin hC.2.2.2.1 hC.2.2.2.2.2.1 hO.1 co (by rw [wz_get hco, he]) hcl k hk (hC.2.2.2.2.1 _ hfl) (fun _ h9 => h9) hv hdg kk
theorem OR.put {co : Nat} {e2 : va_E} {H1 : Heap} {locs1 : List Loc} (hO : OR κ H0 C n H locs) (hco : co < n) (hP : va_P (kD κ) vwCl ((wz (kad κ) C n).set co (kad κ co, e2)) H1) (hS : va_S (FA κ) H0 H1 locs1) : OR κ H0 (va_up C co e2) n H1 locs1 := by
  rw [wz_set hco] at hP
  exact ⟨hP, hO.2.1, hS, hO.2.2.2⟩
theorem r_put {a co ci N k index : Nat} {Cn : String} {T : u_T} {ty0 : Nat → FieldType} {fs : List Value} {v : Value} (hC : CX p s m args meth c cc nL own rt κ) (hO : OR κ H0 C n H locs) (hca : kad κ co = a) (hcl : vwCl[ci]? = some (Cn, T, N)) (hin : ∀ w ∈ u_ws Cn T N, w ∈ lw_g) (hty : ∀ k, k < N → parseFieldDescriptor (T k).2.2.1 = some (ty0 k)) (hnm : ∀ a, a < N → ∀ b, b < N → a ≠ b → (T a).2.1 ≠ (T b).2.1) (hk : k < N) (hfl : Cond.fieldLink own index (T k).1 (T k).2.1 (T k).2.2.1 ∈ lw_g) (hfin : (T k).2.2.2 = false) (hco : co < n) (he : C co = .inr (ci, fs)) (hlen : k < fs.length) (hnr : narrow (ty0 k) v = v) (hfit : fits (ty0 k) v = true) (hdg : decode cc pc = .ok (.putfield index, 3))
    (kk : ∀ (H1 : Heap) (locs1 : List Loc), OR κ H0 (va_up C co (.inr (ci, fs.set k v))) n H1 locs1 → W p l e R s m args below meth c H1 locs1 cells slots Q (F0 m (pc + 3) ls rest)) : W p l e R s m args below meth c H locs cells slots Q (F0 m pc ls (v :: .ref a :: rest)) := by
  subst hca
  exact va_put hC.1 hC.2.1 hC.2.2.2.2.1 hin ty0 hty hnm hC.2.2.2.1 hC.2.2.2.2.2.1 hO.1 (hO.2.1.D _) hO.2.2.1 co (by rw [wz_get hco, he]) hcl k hk (hC.2.2.2.2.1 _ hfl) (fun _ h9 => h9) hfin (hty k hk) hnr hfit hlen hdg (fun H1 locs1 hP _ hS => kk H1 locs1 (hO.put hco hP hS))
theorem r_putF {a co ci N k index : Nat} {Cn : String} {T : u_T} {ty0 : Nat → FieldType} {fs : List Value} {v : Value} (hC : CX p s m args meth c cc nL own rt κ) (hni : meth.name = "<init>") (hO : OR κ H0 C n H locs) (hca : kad κ co = a) (hcl : vwCl[ci]? = some (Cn, T, N)) (hin : ∀ w ∈ u_ws Cn T N, w ∈ lw_g) (hty : ∀ k, k < N → parseFieldDescriptor (T k).2.2.1 = some (ty0 k)) (hnm : ∀ a, a < N → ∀ b, b < N → a ≠ b → (T a).2.1 ≠ (T b).2.1) (hk : k < N) (hfl : Cond.fieldLink own index (T k).1 (T k).2.1 (T k).2.2.1 ∈ lw_g) (hfin : (T k).2.2.2 = true) (hdc : (T k).1 = own) (hco : co < n) (he : C co = .inr (ci, fs)) (hlen : k < fs.length) (hnr : narrow (ty0 k) v = v) (hfit : fits (ty0 k) v = true) (hdg : decode cc pc = .ok (.putfield index, 3))
    (kk : ∀ (H1 : Heap) (locs1 : List Loc), OR κ H0 (va_up C co (.inr (ci, fs.set k v))) n H1 locs1 → W p l e R s m args below meth c H1 locs1 cells slots Q (F0 m (pc + 3) ls rest)) : W p l e R s m args below meth c H locs cells slots Q (F0 m pc ls (v :: .ref a :: rest)) := by
  subst hca
  exact va_putF hC.1 hC.2.1 hC.2.2.2.2.1 hin ty0 hty hnm hC.2.2.2.1 hC.2.2.2.2.2.1 hO.1 (hO.2.1.D _) hO.2.2.1 co (by rw [wz_get hco, he]) hcl k hk (hC.2.2.2.2.1 _ hfl) (fun _ h9 => h9) hfin hni hdc (hty k hk) hnr hfit hlen hdg (fun H1 locs1 hP _ hS => kk H1 locs1 (hO.put hco hP hS))
theorem OR.hA (hO : OR κ H0 C n H locs) : ∀ q : Nat, H0.size ≤ q → FA κ q := fun _ h => Nat.le_trans hO.2.2.2 h
theorem OR.grow {q : Nat} {e2 : va_E} {H1 : Heap} {locs1 : List Loc} (hO : OR κ H0 C n H locs) (hP : va_P (kD κ) vwCl (wz (kad κ) C n ++ [(q, e2)]) H1) (hD : va_D (FA κ) (wz (kad κ) C n ++ [(q, e2)])) (hS : va_S (FA κ) H0 H1 locs1) : OR (kup κ n q) H0 (va_up C n e2) (n + 1) H1 locs1 := by
  rw [wz_push] at hP hD
  exact ⟨hP, adOk.of (κ := kup κ n q) (C := va_up C n e2) hD, hS, hO.2.2.2⟩
theorem CX.kup (hC : CX p s m args meth c cc nL own rt κ) (n q : Nat) : CX p s m args meth c cc nL own rt (kup κ n q) := hC
theorem r_new {ci N index : Nat} {Cn : String} {T : u_T} {ty0 : Nat → FieldType} {fs : List Value} (hC : CX p s m args meth c cc nL own rt κ) (hO : OR κ H0 C n H locs) (hcl : vwCl[ci]? = some (Cn, T, N)) (hin : ∀ w ∈ u_ws Cn T N, w ∈ lw_g) (hty : ∀ k, k < N → parseFieldDescriptor (T k).2.2.1 = some (ty0 k)) (h1 : Cond.classLink own index Cn ∈ lw_g) (h2 : Cond.instantiable Cn N ∈ lw_g) (h3 : Cond.initialized Cn ∈ lw_g) (hfs : ∀ j, j < N → defaultValue (ty0 j) = vp_V fs j) (hcells : cells + 1 ≤ R.cells) (hslots : slots + N ≤ R.slots) (hdg : decode cc pc = .ok (.new index, 3))
    (kk : ∀ (q : Nat) (H1 : Heap), OR (kup κ n q) H0 (va_up C n (.inr (ci, fs))) (n + 1) H1 locs → W p l e R s m args below meth c H1 locs (cells + 1) (slots + N) Q (F0 m (pc + 3) ls (.ref q :: rest))) : W p l e R s m args below meth c H locs cells slots Q (F0 m pc ls rest) :=
  va_new hC.1 hC.2.1 hC.2.2.2.2.1 hin ty0 hty hC.2.2.2.1 (hC.2.2.2.2.1 _ h1) (hC.2.2.2.2.1 _ h2) (hC.2.2.2.2.1 _ h3) hC.2.2.2.2.2.1 hO.1 (hO.2.1.D _) hO.2.2.1 hO.hA hcl hfs hcells hslots hdg (fun q H1 hP hD hS => kk q H1 (hO.grow hP hD hS))
theorem same_arr {tys : List (ClassId × FieldType)} {cA : ClassId} {ty : FieldType} (hp : ∀ C, ty ≠ .object C) (h : va_K (kD κ) vwCl (tys ++ [(cA, ty)]) s) {k : Nat} {cB : ClassId} (h2 : va_K (kD κ) vwCl tys s) (hk : tys[k]? = some (cB, ty)) : cA = cB := by
  have a1 := (h.2 tys.length (cA, ty) (by simp)).2
  have a2 := (h2.2 k _ hk).2
  have b1 : s.vm.findClass ("[" ++ ty.toString) = some cA := by
    cases ty <;> first | exact a1 | exact absurd rfl (hp _)
  have b2 : s.vm.findClass ("[" ++ ty.toString) = some cB := by
    cases ty <;> first | exact a2 | exact absurd rfl (hp _)
  exact Option.some.inj (b1.symm.trans b2)
theorem r_newI {x : Int32} (N : Nat) (hC : CX p s m args meth c cc nL own rt κ) (hO : OR κ H0 C n H locs) (hn : ¬ x < 0) (hN : x.toNatClampNeg = N) (hby : N * 4 ≤ 536870912) (hcells : cells + 1 ≤ R.cells) (hslots : slots + N ≤ R.slots) (hdg : decode cc pc = .ok (.newarray .int, 2))
    (kk : ∀ (q : Nat) (H1 : Heap), OR (kup κ n q) H0 (va_up C n (.inl (kcI κ, N, .inl (fun _ => 0)))) (n + 1) H1 locs → W p l e R s m args below meth c H1 locs (cells + 1) (slots + N) Q (F0 m (pc + 2) ls (.ref q :: rest))) : W p l e R s m args below meth c H locs cells slots Q (F0 m pc ls (.int x :: rest)) :=
  va_newa (atype := .int) (a0 := (N, .inl (fun _ => 0))) hC.1 hC.2.1 (hC.2.2.2.2.1 _ q_ac_int) (ty := .int) rfl hC.2.2.2.2.2.1 hO.1 (hO.2.1.D _) hO.2.2.1 hO.hA (fun cA => rfl) hn hN hby hcells hslots hdg (fun q cA H1 hK hP hD hS => by
    have e9 := same_arr (κ := κ) (k := 0) (fun C h => by cases h) hK hC.2.2.2.2.2.1 rfl
    subst e9
    exact kk q H1 (hO.grow hP hD hS))
theorem r_newL {x : Int32} (N : Nat) (hC : CX p s m args meth c cc nL own rt κ) (hO : OR κ H0 C n H locs) (hn : ¬ x < 0) (hN : x.toNatClampNeg = N) (hby : N * 8 ≤ 536870912) (hcells : cells + 1 ≤ R.cells) (hslots : slots + N ≤ R.slots) (hdg : decode cc pc = .ok (.newarray .long, 2))
    (kk : ∀ (q : Nat) (H1 : Heap), OR (kup κ n q) H0 (va_up C n (.inl (kcL κ, N, .inr (.inl (fun _ => 0))))) (n + 1) H1 locs → W p l e R s m args below meth c H1 locs (cells + 1) (slots + N) Q (F0 m (pc + 2) ls (.ref q :: rest))) : W p l e R s m args below meth c H locs cells slots Q (F0 m pc ls (.int x :: rest)) :=
  va_newa (atype := .long) (a0 := (N, .inr (.inl (fun _ => 0)))) hC.1 hC.2.1 (hC.2.2.2.2.1 _ q_ac_long) (ty := .long) rfl hC.2.2.2.2.2.1 hO.1 (hO.2.1.D _) hO.2.2.1 hO.hA (fun cA => rfl) hn hN hby hcells hslots hdg (fun q cA H1 hK hP hD hS => by
    have e9 := same_arr (κ := κ) (k := 1) (fun C h => by cases h) hK hC.2.2.2.2.2.1 rfl
    subst e9
    exact kk q H1 (hO.grow hP hD hS))
theorem r_newZ {x : Int32} (N : Nat) (hC : CX p s m args meth c cc nL own rt κ) (hO : OR κ H0 C n H locs) (hn : ¬ x < 0) (hN : x.toNatClampNeg = N) (hby : N * 1 ≤ 536870912) (hcells : cells + 1 ≤ R.cells) (hslots : slots + N ≤ R.slots) (hdg : decode cc pc = .ok (.newarray .boolean, 2))
    (kk : ∀ (q : Nat) (H1 : Heap), OR (kup κ n q) H0 (va_up C n (.inl (kcZ κ, N, .inl (fun _ => 0)))) (n + 1) H1 locs → W p l e R s m args below meth c H1 locs (cells + 1) (slots + N) Q (F0 m (pc + 2) ls (.ref q :: rest))) : W p l e R s m args below meth c H locs cells slots Q (F0 m pc ls (.int x :: rest)) :=
  va_newa (atype := .boolean) (a0 := (N, .inl (fun _ => 0))) hC.1 hC.2.1 (hC.2.2.2.2.1 _ q_ac_boolean) (ty := .boolean) rfl hC.2.2.2.2.2.1 hO.1 (hO.2.1.D _) hO.2.2.1 hO.hA (fun cA => rfl) hn hN hby hcells hslots hdg (fun q cA H1 hK hP hD hS => by
    have e9 := same_arr (κ := κ) (k := 2) (fun C h => by cases h) hK hC.2.2.2.2.2.1 rfl
    subst e9
    exact kk q H1 (hO.grow hP hD hS))
theorem r_newR {x : Int32} {index : Nat} (N : Nat) (hC : CX p s m args meth c cc nL own rt κ) (hao : va_AO RX1 s) (hO : OR κ H0 C n H locs) (h1 : Cond.classLink own index RX1 ∈ lw_g) (hn : ¬ x < 0) (hN : x.toNatClampNeg = N) (hby : N * 4 ≤ 536870912) (hcells : cells + 1 ≤ R.cells) (hslots : slots + N ≤ R.slots) (hdg : decode cc pc = .ok (.anewarray index, 3))
    (kk : ∀ (q : Nat) (H1 : Heap), OR (kup κ n q) H0 (va_up C n (.inl (kcR κ, N, .inr (.inr (.inr (.inr (fun _ => none))))))) (n + 1) H1 locs → W p l e R s m args below meth c H1 locs (cells + 1) (slots + N) Q (F0 m (pc + 3) ls (.ref q :: rest))) : W p l e R s m args below meth c H locs cells slots Q (F0 m pc ls (.int x :: rest)) :=
  va_newq (C := RX1) hC.1 hC.2.1 hC.2.2.2.1 (hC.2.2.2.2.1 _ h1) hao hC.2.2.2.2.2.1 hO.1 (hO.2.1.D _) hO.2.2.1 hO.hA hn hN hby hcells hslots hdg (fun q cA H1 hK hP hD hS => by
    have a1 := (hK.2 (kT κ).length (cA, .object RX1) (by simp)).2
    have a2 := (hC.2.2.2.2.2.1.2 3 (kcR κ, .object RX1) rfl).2
    obtain ⟨-, -, -, -, -, b1⟩ := a1
    obtain ⟨-, -, -, -, -, b2⟩ := a2
    have e9 : cA = kcR κ := Option.some.inj (b1.symm.trans b2)
    subst e9
    exact kk q H1 (hO.grow hP hD hS))
theorem r_aast {a v co cv ci N2 N : Nat} {T : u_T} {f : Nat → Option Nat} {fs : List Value} {i : Int32} (hC : CX p s m args meth c cc nL own rt κ) (hO : OR κ H0 C n H locs) (hca : kad κ co = a) (hcv : kad κ cv = v) (hco : co < n) (hcvn : cv < n) (he : C co = .inl (kcR κ, N, .inr (.inr (.inr (.inr f))))) (hcl : vwCl[ci]? = some (RX1, T, N2)) (hev : C cv = .inr (ci, fs)) (hin : vp_in i N) (hdg : decode cc pc = .ok (.aastore, 1))
    (kk : ∀ (H1 : Heap) (locs1 : List Loc), OR κ H0 (va_up C co (.inl (kcR κ, N, .inr (.inr (.inr (.inr (va_up f i.toNatClampNeg (some v)))))))) n H1 locs1 → W p l e R s m args below meth c H1 locs1 cells slots Q (F0 m (pc + 1) ls rest)) : W p l e R s m args below meth c H locs cells slots Q (F0 m pc ls (.ref v :: .int i :: .ref a :: rest)) := by
  subst hca
  subst hcv
  exact va_astq hC.1 hC.2.1 hC.2.2.2.2.2.1 hO.1 (hO.2.1.D _) hO.2.2.1 co 3 cv ci (by rw [wz_get hco, he]) rfl (by rw [wz_get hcvn, hev]) hcl hin hdg (fun H1 locs1 hP _ hS => kk H1 locs1 (hO.put hco hP hS))
/-- a constructor's call -/
theorem r_cI {S : Type} {post : S → Prop} {Bp : State → Prop} {B2 : S → State → Prop} {y : MethodName} {Cn : String} {cc2 : ByteArray} {mx nA index mc ms : Nat} {rm : Room} {As : List Value} {b : Addr} (hC : CX p s m args meth c cc nL own rt κ) (hO : OR κ H0 C n H locs) (hl : LL ls nL vs) (hM : Met l y (wA y cc2 mx none) rm (va_Pc (.ref b :: As) Bp) (va_Qv post B2 (FA κ)) mc ms (FA κ)) (mi : MN y Cn cc2 mx nA) (hy : y.cls = Cn) (ml : Cond.methodLink own index y ∈ lw_g)
    (hbl : ∀ (U : State) (g : JFrame) (mk : MethodId) (a : Array Value), Bp U → Bp (U.calling g mk a)) (hB : ∀ U : State, U.heap = H → s.WarmedH U.vm → va_K (kD κ) vwCl (kT κ) U → Bp U) (hn : As.length = nA) (hrc : rm.cells = mc) (hrs : rm.slots = ms) (hR : rm.frames + 1 ≤ R.frames ∧ 8 + (mx + 11) + rm.locals ≤ R.locals) (hw : (rest.map fun v => v.category).sum ≤ 8) (hf : cells + mc ≤ R.cells ∧ slots + ms ≤ R.slots) (hdg : decode cc pc = .ok (.invokespecial index, 3))
    (kk : ∀ (u : S) (t : State) (H1 : Heap) (locs1 : List Loc), t.heap = H1 → post u → B2 u t → va_S (FA κ) H0 H1 locs1 → W p l e R s m args below meth c H1 locs1 (cells + mc) (slots + ms) Q (F0 m (pc + 3) ls rest)) : W p l e R s m args below meth c H locs cells slots Q (F0 m pc ls (As.reverse ++ .ref b :: rest)) :=
  va_callv (va_runI (As := As) (rest := rest) ⟨hC.1, hC.2.1, hC.2.2.1, hC.2.2.2.1, hC.2.2.2.2.1⟩ hM (cwI nA hC.2.2.2.2.1 (gI mi.2.2.1) rfl hrc hrs (by rw [hy]; exact hC.2.2.2.2.1 _ mi.2.1) (hC.2.2.2.2.1 _ ml) (hC.2.2.2.2.1 _ mi.1) mi.2.2.2.1 mi.2.2.2.2 hR) ⟨fun a U g mk q => ⟨q.1, hbl U g mk a q.2⟩, fun U hU hW => ⟨rfl, hB U hU hW (va_K.moved hW.alike hC.2.2.2.2.2.1)⟩⟩ rfl hn hl.1 rfl (lv_room hw) hdg hf) hO.2.2.1 (fun _ _ h => h) (fun _ h => h) (fun u t H1 locs1 ht _ hp hB2 _ _ hS => kk u t H1 locs1 ht hp hB2 hS)
theorem r_vret {S : Type} {post : S → Prop} {B : S → State → Prop} {κ2 : KK} {C2 : Nat → va_E} {n2 : Nat} (u : S) (hC : CX p s m args meth c cc nL own none κ) (hO : OR κ2 s.heap C2 n2 H locs) (hs : kS κ2 = kS κ) (hdg : decode cc pc = .ok (.return_, 1)) (hpost : post u) (hB : ∀ t : State, t.heap = H → va_K (kD κ) vwCl (kT κ) t → B u t) : W p l e R s m args below meth c H locs cells slots (MQ below (va_Qv post B (FA κ)) args s cells slots (FA κ)) (F0 m pc ls []) := by
  have hS : va_S (FA κ) s.heap H locs := by
    have h := hO.2.2.1
    unfold FA at h ⊢
    rw [← hs]
    exact h
  exact W.vret (hlocks := hC.2.2.2.2.2.2.1) hC.1 hC.2.1 hC.2.2.2.2.2.2.2 (fun t ht hW => ⟨⟨u, rfl, hpost, hB t ht (va_K.moved hW.alike hC.2.2.2.2.2.1)⟩, hS.F ht⟩) hS.2.2 hdg
end RAW
theorem r_met {l : Launch} {y : MethodName} {cc : ByteArray} {mx : Nat} {ret : Option FieldType} {rm : Room} {As : List Value} {Qc : Array Value → State → Outcome → State → Prop} {own : String} {κ : KK} {C : Nat → va_E} {n mc ms : Nat} {X : State → Prop} (r : Nat) (hy : plainName y.cls = true) (hc : y.cls = own) (hlen : (lg_sl As).length ≤ mx)
    (body : ∀ (p : Program) (e : Env) (s : State) (m : MethodId) (args : Array Value) (below : List Frame) (meth : Method) (c : Code), CX p s m args meth c cc mx own ret κ → meth.name = y.name → X s → OR κ s.heap C n s.heap [] → ∀ ls : Array Slot, LL ls mx (lo As ++ List.replicate r none) → W p l e rm s m args below meth c s.heap [] 0 0 (MQ below Qc args s mc ms (FA κ)) (F0 m 0 ls [])) : Met l y (wA y cc mx ret) rm (va_Pc As (fun U => WR κ C n U ∧ X U)) Qc mc ms (FA κ) := by
  refine Met.ofW (cc := cc) (maxL := mx) (ret := ret) hy rfl ?_
  intro p e s m args below meth c s₁ B hml hv
  obtain ⟨rfl, ⟨hK, h2, h3, h4⟩, hX⟩ := hv
  have hts := atoms_spec (ws := wA y cc mx ret) B.pre
  have hown : s.vm.findClass own = some m.cls := by rw [← hc]; exact findClass_of_methodNamed B.named
  have hl := lv_entry As (n := mx) hlen
  rw [lg_entry_eq]
  refine body p e s m _ below meth c ⟨B.exec, B.bytes, hml, hown, fun w hw => hts w (List.mem_cons_of_mem _ hw), hK, B.notSynchronized, B.returns⟩ (name_of_methodNamed B.named B.method).1 hX ⟨h2, h3, va_S.rf, h4⟩ _ ?_
  show lv_has _ _ _
  rw [lz_lo]
  exact hl
end
section
def kSame (κ κ2 : KK) (n : Nat) : Prop := κ2.1 = κ.1 ∧ κ2.2.1 = κ.2.1 ∧ κ2.2.2.1 = κ.2.2.1 ∧ ∀ c, c < n → kad κ2 c = kad κ c
def st0 : ST := (0, fun _ _ => 0, fun c => if c = 6 then (fun i => if i = 20 then -1 else 0) else fun _ => 0, fun _ => [])
set_option maxHeartbeats 4000000 in
set_option maxRecDepth 100000 in
theorem k_X2_init (l : Launch) (κ : KK) (C : Nat → va_E) (n o a cap : Nat) (ho : o < n) (ha : kad κ o = a) (he : C o = .inr (2, [.null, .int 0])) (hcap : cap ≤ 12) : Met l yX2_init (wA yX2_init cX2_init 2 none) ({ frames := 1, cells := 1, slots := cap, locals := 12 }) (va_Pc [.ref a, .int (nI cap)] (fun U => WR κ C n U ∧ True)) (va_Qv (fun _ : Nat => True) (fun q t => WR (kup κ n q) (va_up (va_up C n (.inl (kcI κ, cap, .inl (fun _ => 0)))) o (.inr (2, [.ref q, .int 0]))) (n + 1) t) (FA κ)) 1 cap (FA κ) := by
  refine r_met 0 (by decide) rfl (Nat.le_of_ble_eq_true rfl) ?_
  intro p e s m args below meth c hC hni hX hO ls hl
  have hl : LL ls 2 [some (.ref a), some (.int (nI cap))] := hl
  refine g_aload_n hC hl dX2_init_0 rfl rfl ?_
  refine W.objInit hC.1 hC.2.1 hC.2.2.2.1 (hC.2.2.2.2.1 _ q_ml_RX2_1) (hC.2.2.2.2.1 _ q_im_objectInit) (hC.2.2.2.2.1 _ q_co_objectInit) rfl (by rw [hC.2.2.1]; exact hl.1) rfl dX2_init_1 (Nat.le_of_ble_eq_true rfl) (Nat.le_of_ble_eq_true rfl) ?_
  refine W.eq (g2 := F0 m 4 ls []) rfl ?_
  refine g_aload_n hC hl dX2_init_4 rfl rfl ?_
  refine g_iload_n hC hl dX2_init_5 rfl rfl ?_
  refine lv_if_ge (tgt := 13) hC.1 hC.2.1 dX2_init_6 (by decide) (fun _ => ?_) (fun c1 => absurd (nI_pos' (by omega)) c1)
  refine g_iload_n hC hl dX2_init_13 rfl rfl ?_
  refine r_newI cap hC hO (nI_pos (by omega)) (nI_clamp (by omega)) (by omega) (Nat.le_of_ble_eq_true rfl) (by show 0 + cap ≤ cap; omega) dX2_init_14 (fun q H hO => ?_)
  refine r_putF (co := o) (ci := 2) (k := 0) (fs := [.null, .int 0]) (hC.kup n q) hni hO (by rw [kad_kup, if_neg (by omega)]; exact ha) rfl inX2 tyX2_ok nmX2 (by decide) q_fl_RX2_7 rfl rfl (by omega) (by rw [va_up_ne _ _ (by omega)]; exact he) (Nat.le_of_ble_eq_true rfl) rfl rfl dX2_init_16 (fun H locs hO => ?_)
  refine W.widen (k := 1) (n := cap) (by omega) (by omega) ?_
  exact r_vret q hC hO rfl dX2_init_19 trivial (fun t ht hK => hO.wr ht hK)
set_option maxHeartbeats 4000000 in
set_option maxRecDepth 100000 in
theorem k_X0_init (l : Launch) (κ : KK) (C : Nat → va_E) (n o a : Nat) (ho : o < n) (ha : kad κ o = a) (he : C o = .inr (0, [.null, .int 0, .int 0])) : Met l yX0_init (wA yX0_init cX0_init 1 none) ({ frames := 1, cells := 1, slots := 512, locals := 12 }) (va_Pc [.ref a] (fun U => WR κ C n U ∧ True)) (va_Qv (fun _ : Nat => True) (fun q t => WR (kup κ n q) (va_up (va_up C n (.inl (kcL κ, 512, .inr (.inl (fun _ => 0))))) o (.inr (0, [.ref q, .int 0, .int 0]))) (n + 1) t) (FA κ)) 1 512 (FA κ) := by
  refine r_met 0 (by decide) rfl (Nat.le_of_ble_eq_true rfl) ?_
  intro p e s m args below meth c hC hni hX hO ls hl
  have hl : LL ls 1 [some (.ref a)] := hl
  refine g_aload_n hC hl dX0_init_0 rfl rfl ?_
  refine W.objInit hC.1 hC.2.1 hC.2.2.2.1 (hC.2.2.2.2.1 _ q_ml_RX0_3) (hC.2.2.2.2.1 _ q_im_objectInit) (hC.2.2.2.2.1 _ q_co_objectInit) rfl (by rw [hC.2.2.1]; exact hl.1) rfl dX0_init_1 (Nat.le_of_ble_eq_true rfl) (Nat.le_of_ble_eq_true rfl) ?_
  refine W.eq (g2 := F0 m 4 ls []) rfl ?_
  refine g_aload_n hC hl dX0_init_4 rfl rfl ?_
  refine lv_sipush (v := 512) hC.1 hC.2.1 dX0_init_5 (by decide) ?_
  refine r_newL 512 hC hO (by decide) (by decide) (by decide) (Nat.le_of_ble_eq_true rfl) (Nat.le_of_ble_eq_true rfl) dX0_init_8 (fun q H hO => ?_)
  refine r_putF (co := o) (ci := 0) (k := 0) (fs := [.null, .int 0, .int 0]) (hC.kup n q) hni hO (by rw [kad_kup, if_neg (by omega)]; exact ha) rfl inX0 tyX0_ok nmX0 (by decide) q_fl_RX0_9 rfl rfl (by omega) (by rw [va_up_ne _ _ (by omega)]; exact he) (Nat.le_of_ble_eq_true rfl) rfl rfl dX0_init_10 (fun H locs hO => ?_)
  refine W.widen (k := 1) (n := 512) (by omega) (by omega) ?_
  exact r_vret q hC hO rfl dX0_init_13 trivial (fun t ht hK => hO.wr ht hK)
theorem kSame.refl (κ : KK) (n : Nat) : kSame κ κ n := ⟨rfl, rfl, rfl, fun _ _ => rfl⟩
theorem CX.same {p : Program} {s : State} {m : MethodId} {args : Array Value} {meth : Method} {c : Code} {cc : ByteArray} {nL : Nat} {own : String} {rt : Option FieldType} {κ κ2 : KK} {n : Nat} (hC : CX p s m args meth c cc nL own rt κ) (h : kSame κ κ2 n) : CX p s m args meth c cc nL own rt κ2 := by
  obtain ⟨h1, h2, h3, h4⟩ := h
  unfold CX kD kT kcI kcL kcZ kcR at *
  rw [h2, h3]
  exact hC
def PD (κ : KK) (C : Nat → va_E) (κi : KK) (Ci : Nat → va_E) (n o i : Nat) : Prop := kSame κ κi n ∧ (∀ c, c < n → c ≠ o → Ci c = C c) ∧ ∀ j, j < i → Ci (n + 2 * j) = .inr (2, [.ref (kad κi (n + 2 * j + 1)), .int 0]) ∧ Ci (n + 2 * j + 1) = .inl (kcI κ, capj j, .inl (fun _ => 0))
theorem PD.zero {κ : KK} {C C2 : Nat → va_E} {n o : Nat} {e : va_E} (h : C2 = va_up C o e) : PD κ C κ C2 n o 0 := ⟨kSame.refl κ n, fun c _ hc => by rw [h, va_up_ne _ _ hc], fun j hj => absurd hj (Nat.not_lt_zero j)⟩
theorem pstep {κ κi : KK} {C Ci : Nat → va_E} {n o i N q w cap : Nat} {fs : List Value} {H0 H : Heap} {locs : List Loc} (ho : o < n) (hN : N = n + 2 * i) (hcap : cap = capj i) (hP : PD κ C κi Ci n o i) (h : OR (kup (kup κi N q) (N + 1) w) H0 (va_up (va_up (va_up (va_up Ci N (.inr (2, [.null, .int 0]))) (N + 1) (.inl (kcI (kup κi N q), cap, .inl (fun _ => 0)))) N (.inr (2, [.ref w, .int 0]))) o (.inr (1, fs))) (N + 1 + 1) H locs) : ∃ (κ2 : KK) (C2 : Nat → va_E), OR κ2 H0 C2 (N + 1 + 1) H locs ∧ PD κ C κ2 C2 n o (i + 1) ∧ kad κ2 N = q ∧ (∀ c, c < N → kad κ2 c = kad κi c) ∧ C2 o = .inr (1, fs) := by
  have hk : ∀ c, c < N → kad (kup (kup κi N q) (N + 1) w) c = kad κi c := fun c hc => by rw [kad_kup, if_neg (by omega), kad_kup, if_neg (by omega)]
  refine ⟨_, _, h, ⟨⟨hP.1.1, hP.1.2.1, hP.1.2.2.1, fun c hc => by rw [hk c (by omega)]; exact hP.1.2.2.2 c hc⟩, fun c hc hco => ?_, fun j hj => ?_⟩, by rw [kad_kup, if_neg (by omega), kad_kup, if_pos rfl], hk, va_up_self _ _ _⟩
  · rw [va_up_ne _ _ hco, va_up_ne _ _ (by omega), va_up_ne _ _ (by omega), va_up_ne _ _ (by omega)]; exact hP.2.1 c hc hco
  · by_cases hji : j = i
    · subst hji
      rw [← hN]
      refine ⟨?_, ?_⟩
      · rw [va_up_ne _ _ (by omega), va_up_self, kad_kup, if_pos rfl]
      · rw [va_up_ne _ _ (by omega), va_up_ne _ _ (by omega), va_up_self, ← hcap]
        have e9 : kcI (kup κi N q) = kcI κ := by show kcI κi = kcI κ; unfold kcI; rw [hP.1.2.2.1]
        rw [e9]
    · have h9 := hP.2.2 j (by omega)
      refine ⟨?_, ?_⟩
      · rw [va_up_ne _ _ (by omega), va_up_ne _ _ (by omega), va_up_ne _ _ (by omega), va_up_ne _ _ (by omega), hk _ (by omega)]; exact h9.1
      · rw [va_up_ne _ _ (by omega), va_up_ne _ _ (by omega), va_up_ne _ _ (by omega), va_up_ne _ _ (by omega)]; exact h9.2
set_option maxHeartbeats 4000000 in
set_option maxRecDepth 100000 in
theorem k_X1_init (l : Launch) (κ : KK) (C : Nat → va_E) (n o a : Nat) (kd : Int32) (ho : o < n) (ha : kad κ o = a) (he : C o = .inr (1, [.int 0, .int 0, .int 0, .long 0, .int 0, .null, .null, .null, .null, .null, .null])) : Met l yX1_init (wA yX1_init cX1_init 2 none) ({ frames := 2, cells := 12, slots := 67, locals := 33 }) (va_Pc [.ref a, .int kd] (fun U => WR κ C n U ∧ True)) (va_Qv (fun u : KK × (Nat → va_E) => kSame κ u.1 n ∧ (∀ c, c < n → c ≠ o → u.2 c = C c) ∧ u.2 o = .inr (1, [.int kd, .int 0, .int 0, .long 0, .int 0, .ref (kad u.1 (n + 0)), .ref (kad u.1 (n + 2)), .ref (kad u.1 (n + 4)), .ref (kad u.1 (n + 6)), .ref (kad u.1 (n + 8)), .ref (kad u.1 (n + 10))]) ∧ ∀ j, j < 6 → u.2 (n + 2 * j) = .inr (2, [.ref (kad u.1 (n + 2 * j + 1)), .int 0]) ∧ u.2 (n + 2 * j + 1) = .inl (kcI κ, capj j, .inl (fun _ => 0))) (fun u t => WR u.1 u.2 (n + 1 + 1 + 1 + 1 + 1 + 1 + 1 + 1 + 1 + 1 + 1 + 1) t) (FA κ)) 12 67 (FA κ) := by
  refine r_met 0 (by decide) rfl (Nat.le_of_ble_eq_true rfl) ?_
  intro p e s m args below meth c hC hni hX hO ls hl
  have hl : LL ls 2 [some (.ref a), some (.int kd)] := hl
  refine g_aload_n hC hl dX1_init_0 rfl rfl ?_
  refine W.objInit hC.1 hC.2.1 hC.2.2.2.1 (hC.2.2.2.2.1 _ q_ml_RX1_3) (hC.2.2.2.2.1 _ q_im_objectInit) (hC.2.2.2.2.1 _ q_co_objectInit) rfl (by rw [hC.2.2.1]; exact hl.1) rfl dX1_init_1 (Nat.le_of_ble_eq_true rfl) (Nat.le_of_ble_eq_true rfl) ?_
  refine W.eq (g2 := F0 m 4 ls []) rfl ?_
  refine g_aload_n hC hl dX1_init_4 rfl rfl ?_
  refine g_iload_n hC hl dX1_init_5 rfl rfl ?_
  refine r_putF (co := o) (ci := 1) (k := 0) (fs := [.int 0, .int 0, .int 0, .long 0, .int 0, .null, .null, .null, .null, .null, .null]) (hC) hni hO ha rfl inX1 tyX1_ok nmX1 (by decide) q_fl_RX1_9 rfl rfl (by omega) he (Nat.le_of_ble_eq_true rfl) rfl rfl dX1_init_6 (fun H locs hO => ?_)
  obtain ⟨C0, hC0⟩ : ∃ C0, C0 = va_up C o (.inr (1, [.int kd, .int 0, .int 0, .long 0, .int 0, .null, .null, .null, .null, .null, .null])) := ⟨_, rfl⟩
  replace hO : OR κ s.heap C0 n H locs := by rw [hC0]; exact hO
  have P0 : PD κ C κ C0 n o 0 := PD.zero hC0
  have he0 : C0 o = .inr (1, [.int kd, .int 0, .int 0, .long 0, .int 0, .null, .null, .null, .null, .null, .null]) := by rw [hC0, va_up_self]
  have K0 := hC
  refine g_aload_n hC hl dX1_init_9 rfl rfl ?_
  refine r_new (ci := 2) (fs := [.null, .int 0]) K0 hO rfl inX2 tyX2_ok q_cl_RX1_15 q_in_RX2 q_ini_RX2 (fun j hj => by rcases (show j = 0 ∨ j = 1 by omega) with rfl | rfl <;> rfl) (Nat.le_of_ble_eq_true rfl) (Nat.le_of_ble_eq_true rfl) dX1_init_10 (fun q0 H hO => ?_)
  refine lv_dup hC.1 hC.2.1 dX1_init_13 rfl ?_
  refine lv_bipush (v := nI 12) hC.1 hC.2.1 dX1_init_14 (by decide) ?_
  refine r_cI (As := [.int (nI 12)]) (K0.kup (n) q0) hO hl (k_X2_init l _ _ (n + 1) (n) q0 12 (by omega) (by rw [kad_kup, if_pos rfl]) (by rw [va_up_self]) (by omega)) mi_X2_init rfl q_ml_RX1_17 (fun U g mk a h => ⟨h.1.blind g mk a, trivial⟩) (fun U hU _ hK => ⟨hO.wr hU hK, trivial⟩) rfl rfl rfl ⟨Nat.le_of_ble_eq_true rfl, Nat.le_of_ble_eq_true rfl⟩ (Nat.le_of_ble_eq_true rfl) ⟨Nat.le_of_ble_eq_true rfl, Nat.le_of_ble_eq_true rfl⟩ dX1_init_16 (fun w0 t H locs ht _ hB hS => ?_)
  have hO := OR.back (κ2 := kup (kup κ (n) q0) (n + 1) w0) hO rfl ht hB hS
  refine r_putF (co := o) (ci := 1) (k := 5) (fs := [.int kd, .int 0, .int 0, .long 0, .int 0, .null, .null, .null, .null, .null, .null]) ((K0.kup (n) q0).kup (n + 1) w0) hni hO (by rw [kad_kup, if_neg (by omega), kad_kup, if_neg (by omega), P0.1.2.2.2 o ho]; exact ha) rfl inX1 tyX1_ok nmX1 (by decide) q_fl_RX1_20 rfl rfl (by omega) (by rw [va_up_ne _ _ (by omega), va_up_ne _ _ (by omega), va_up_ne _ _ (by omega)]; exact he0) (Nat.le_of_ble_eq_true rfl) rfl rfl dX1_init_19 (fun H locs hO => ?_)
  obtain ⟨κ1, C1, hO, P1, hq0_1, hk1, he1⟩ := pstep (i := 0) ho (by omega) rfl P0 hO
  have K1 := hC.same P1.1
  replace he1 : C1 o = .inr (1, [.int kd, .int 0, .int 0, .long 0, .int 0, .ref q0, .null, .null, .null, .null, .null]) := he1
  refine g_aload_n hC hl dX1_init_22 rfl rfl ?_
  refine r_new (ci := 2) (fs := [.null, .int 0]) K1 hO rfl inX2 tyX2_ok q_cl_RX1_15 q_in_RX2 q_ini_RX2 (fun j hj => by rcases (show j = 0 ∨ j = 1 by omega) with rfl | rfl <;> rfl) (Nat.le_of_ble_eq_true rfl) (Nat.le_of_ble_eq_true rfl) dX1_init_23 (fun q1 H hO => ?_)
  refine lv_dup hC.1 hC.2.1 dX1_init_26 rfl ?_
  refine lv_bipush (v := nI 12) hC.1 hC.2.1 dX1_init_27 (by decide) ?_
  refine r_cI (As := [.int (nI 12)]) (K1.kup (n + 1 + 1) q1) hO hl (k_X2_init l _ _ (n + 1 + 1 + 1) (n + 1 + 1) q1 12 (by omega) (by rw [kad_kup, if_pos rfl]) (by rw [va_up_self]) (by omega)) mi_X2_init rfl q_ml_RX1_17 (fun U g mk a h => ⟨h.1.blind g mk a, trivial⟩) (fun U hU _ hK => ⟨hO.wr hU hK, trivial⟩) rfl rfl rfl ⟨Nat.le_of_ble_eq_true rfl, Nat.le_of_ble_eq_true rfl⟩ (Nat.le_of_ble_eq_true rfl) ⟨Nat.le_of_ble_eq_true rfl, Nat.le_of_ble_eq_true rfl⟩ dX1_init_29 (fun w1 t H locs ht _ hB hS => ?_)
  have hO := OR.back (κ2 := kup (kup κ1 (n + 1 + 1) q1) (n + 1 + 1 + 1) w1) hO rfl ht hB hS
  refine r_putF (co := o) (ci := 1) (k := 6) (fs := [.int kd, .int 0, .int 0, .long 0, .int 0, .ref q0, .null, .null, .null, .null, .null]) ((K1.kup (n + 1 + 1) q1).kup (n + 1 + 1 + 1) w1) hni hO (by rw [kad_kup, if_neg (by omega), kad_kup, if_neg (by omega), P1.1.2.2.2 o ho]; exact ha) rfl inX1 tyX1_ok nmX1 (by decide) q_fl_RX1_24 rfl rfl (by omega) (by rw [va_up_ne _ _ (by omega), va_up_ne _ _ (by omega), va_up_ne _ _ (by omega)]; exact he1) (Nat.le_of_ble_eq_true rfl) rfl rfl dX1_init_32 (fun H locs hO => ?_)
  obtain ⟨κ2, C2, hO, P2, hq1_2, hk2, he2⟩ := pstep (i := 1) ho (by omega) rfl P1 hO
  have hq0_2 : kad κ2 (n + 0) = q0 := by rw [← hq0_1]; exact hk2 _ (by omega)
  have K2 := hC.same P2.1
  replace he2 : C2 o = .inr (1, [.int kd, .int 0, .int 0, .long 0, .int 0, .ref q0, .ref q1, .null, .null, .null, .null]) := he2
  refine g_aload_n hC hl dX1_init_35 rfl rfl ?_
  refine r_new (ci := 2) (fs := [.null, .int 0]) K2 hO rfl inX2 tyX2_ok q_cl_RX1_15 q_in_RX2 q_ini_RX2 (fun j hj => by rcases (show j = 0 ∨ j = 1 by omega) with rfl | rfl <;> rfl) (Nat.le_of_ble_eq_true rfl) (Nat.le_of_ble_eq_true rfl) dX1_init_36 (fun q2 H hO => ?_)
  refine lv_dup hC.1 hC.2.1 dX1_init_39 rfl ?_
  refine lv_iconst (v := nI 1) hC.1 hC.2.1 dX1_init_40 (by decide) ?_
  refine r_cI (As := [.int (nI 1)]) (K2.kup (n + 1 + 1 + 1 + 1) q2) hO hl (k_X2_init l _ _ (n + 1 + 1 + 1 + 1 + 1) (n + 1 + 1 + 1 + 1) q2 1 (by omega) (by rw [kad_kup, if_pos rfl]) (by rw [va_up_self]) (by omega)) mi_X2_init rfl q_ml_RX1_17 (fun U g mk a h => ⟨h.1.blind g mk a, trivial⟩) (fun U hU _ hK => ⟨hO.wr hU hK, trivial⟩) rfl rfl rfl ⟨Nat.le_of_ble_eq_true rfl, Nat.le_of_ble_eq_true rfl⟩ (Nat.le_of_ble_eq_true rfl) ⟨Nat.le_of_ble_eq_true rfl, Nat.le_of_ble_eq_true rfl⟩ dX1_init_41 (fun w2 t H locs ht _ hB hS => ?_)
  have hO := OR.back (κ2 := kup (kup κ2 (n + 1 + 1 + 1 + 1) q2) (n + 1 + 1 + 1 + 1 + 1) w2) hO rfl ht hB hS
  refine r_putF (co := o) (ci := 1) (k := 7) (fs := [.int kd, .int 0, .int 0, .long 0, .int 0, .ref q0, .ref q1, .null, .null, .null, .null]) ((K2.kup (n + 1 + 1 + 1 + 1) q2).kup (n + 1 + 1 + 1 + 1 + 1) w2) hni hO (by rw [kad_kup, if_neg (by omega), kad_kup, if_neg (by omega), P2.1.2.2.2 o ho]; exact ha) rfl inX1 tyX1_ok nmX1 (by decide) q_fl_RX1_27 rfl rfl (by omega) (by rw [va_up_ne _ _ (by omega), va_up_ne _ _ (by omega), va_up_ne _ _ (by omega)]; exact he2) (Nat.le_of_ble_eq_true rfl) rfl rfl dX1_init_44 (fun H locs hO => ?_)
  obtain ⟨κ3, C3, hO, P3, hq2_3, hk3, he3⟩ := pstep (i := 2) ho (by omega) rfl P2 hO
  have hq0_3 : kad κ3 (n + 0) = q0 := by rw [← hq0_2]; exact hk3 _ (by omega)
  have hq1_3 : kad κ3 (n + 2) = q1 := by rw [← hq1_2]; exact hk3 _ (by omega)
  have K3 := hC.same P3.1
  replace he3 : C3 o = .inr (1, [.int kd, .int 0, .int 0, .long 0, .int 0, .ref q0, .ref q1, .ref q2, .null, .null, .null]) := he3
  refine g_aload_n hC hl dX1_init_47 rfl rfl ?_
  refine r_new (ci := 2) (fs := [.null, .int 0]) K3 hO rfl inX2 tyX2_ok q_cl_RX1_15 q_in_RX2 q_ini_RX2 (fun j hj => by rcases (show j = 0 ∨ j = 1 by omega) with rfl | rfl <;> rfl) (Nat.le_of_ble_eq_true rfl) (Nat.le_of_ble_eq_true rfl) dX1_init_48 (fun q3 H hO => ?_)
  refine lv_dup hC.1 hC.2.1 dX1_init_51 rfl ?_
  refine lv_bipush (v := nI 6) hC.1 hC.2.1 dX1_init_52 (by decide) ?_
  refine r_cI (As := [.int (nI 6)]) (K3.kup (n + 1 + 1 + 1 + 1 + 1 + 1) q3) hO hl (k_X2_init l _ _ (n + 1 + 1 + 1 + 1 + 1 + 1 + 1) (n + 1 + 1 + 1 + 1 + 1 + 1) q3 6 (by omega) (by rw [kad_kup, if_pos rfl]) (by rw [va_up_self]) (by omega)) mi_X2_init rfl q_ml_RX1_17 (fun U g mk a h => ⟨h.1.blind g mk a, trivial⟩) (fun U hU _ hK => ⟨hO.wr hU hK, trivial⟩) rfl rfl rfl ⟨Nat.le_of_ble_eq_true rfl, Nat.le_of_ble_eq_true rfl⟩ (Nat.le_of_ble_eq_true rfl) ⟨Nat.le_of_ble_eq_true rfl, Nat.le_of_ble_eq_true rfl⟩ dX1_init_54 (fun w3 t H locs ht _ hB hS => ?_)
  have hO := OR.back (κ2 := kup (kup κ3 (n + 1 + 1 + 1 + 1 + 1 + 1) q3) (n + 1 + 1 + 1 + 1 + 1 + 1 + 1) w3) hO rfl ht hB hS
  refine r_putF (co := o) (ci := 1) (k := 8) (fs := [.int kd, .int 0, .int 0, .long 0, .int 0, .ref q0, .ref q1, .ref q2, .null, .null, .null]) ((K3.kup (n + 1 + 1 + 1 + 1 + 1 + 1) q3).kup (n + 1 + 1 + 1 + 1 + 1 + 1 + 1) w3) hni hO (by rw [kad_kup, if_neg (by omega), kad_kup, if_neg (by omega), P3.1.2.2.2 o ho]; exact ha) rfl inX1 tyX1_ok nmX1 (by decide) q_fl_RX1_30 rfl rfl (by omega) (by rw [va_up_ne _ _ (by omega), va_up_ne _ _ (by omega), va_up_ne _ _ (by omega)]; exact he3) (Nat.le_of_ble_eq_true rfl) rfl rfl dX1_init_57 (fun H locs hO => ?_)
  obtain ⟨κ4, C4, hO, P4, hq3_4, hk4, he4⟩ := pstep (i := 3) ho (by omega) rfl P3 hO
  have hq0_4 : kad κ4 (n + 0) = q0 := by rw [← hq0_3]; exact hk4 _ (by omega)
  have hq1_4 : kad κ4 (n + 2) = q1 := by rw [← hq1_3]; exact hk4 _ (by omega)
  have hq2_4 : kad κ4 (n + 4) = q2 := by rw [← hq2_3]; exact hk4 _ (by omega)
  have K4 := hC.same P4.1
  replace he4 : C4 o = .inr (1, [.int kd, .int 0, .int 0, .long 0, .int 0, .ref q0, .ref q1, .ref q2, .ref q3, .null, .null]) := he4
  refine g_aload_n hC hl dX1_init_60 rfl rfl ?_
  refine r_new (ci := 2) (fs := [.null, .int 0]) K4 hO rfl inX2 tyX2_ok q_cl_RX1_15 q_in_RX2 q_ini_RX2 (fun j hj => by rcases (show j = 0 ∨ j = 1 by omega) with rfl | rfl <;> rfl) (Nat.le_of_ble_eq_true rfl) (Nat.le_of_ble_eq_true rfl) dX1_init_61 (fun q4 H hO => ?_)
  refine lv_dup hC.1 hC.2.1 dX1_init_64 rfl ?_
  refine lv_bipush (v := nI 12) hC.1 hC.2.1 dX1_init_65 (by decide) ?_
  refine r_cI (As := [.int (nI 12)]) (K4.kup (n + 1 + 1 + 1 + 1 + 1 + 1 + 1 + 1) q4) hO hl (k_X2_init l _ _ (n + 1 + 1 + 1 + 1 + 1 + 1 + 1 + 1 + 1) (n + 1 + 1 + 1 + 1 + 1 + 1 + 1 + 1) q4 12 (by omega) (by rw [kad_kup, if_pos rfl]) (by rw [va_up_self]) (by omega)) mi_X2_init rfl q_ml_RX1_17 (fun U g mk a h => ⟨h.1.blind g mk a, trivial⟩) (fun U hU _ hK => ⟨hO.wr hU hK, trivial⟩) rfl rfl rfl ⟨Nat.le_of_ble_eq_true rfl, Nat.le_of_ble_eq_true rfl⟩ (Nat.le_of_ble_eq_true rfl) ⟨Nat.le_of_ble_eq_true rfl, Nat.le_of_ble_eq_true rfl⟩ dX1_init_67 (fun w4 t H locs ht _ hB hS => ?_)
  have hO := OR.back (κ2 := kup (kup κ4 (n + 1 + 1 + 1 + 1 + 1 + 1 + 1 + 1) q4) (n + 1 + 1 + 1 + 1 + 1 + 1 + 1 + 1 + 1) w4) hO rfl ht hB hS
  refine r_putF (co := o) (ci := 1) (k := 9) (fs := [.int kd, .int 0, .int 0, .long 0, .int 0, .ref q0, .ref q1, .ref q2, .ref q3, .null, .null]) ((K4.kup (n + 1 + 1 + 1 + 1 + 1 + 1 + 1 + 1) q4).kup (n + 1 + 1 + 1 + 1 + 1 + 1 + 1 + 1 + 1) w4) hni hO (by rw [kad_kup, if_neg (by omega), kad_kup, if_neg (by omega), P4.1.2.2.2 o ho]; exact ha) rfl inX1 tyX1_ok nmX1 (by decide) q_fl_RX1_33 rfl rfl (by omega) (by rw [va_up_ne _ _ (by omega), va_up_ne _ _ (by omega), va_up_ne _ _ (by omega)]; exact he4) (Nat.le_of_ble_eq_true rfl) rfl rfl dX1_init_70 (fun H locs hO => ?_)
  obtain ⟨κ5, C5, hO, P5, hq4_5, hk5, he5⟩ := pstep (i := 4) ho (by omega) rfl P4 hO
  have hq0_5 : kad κ5 (n + 0) = q0 := by rw [← hq0_4]; exact hk5 _ (by omega)
  have hq1_5 : kad κ5 (n + 2) = q1 := by rw [← hq1_4]; exact hk5 _ (by omega)
  have hq2_5 : kad κ5 (n + 4) = q2 := by rw [← hq2_4]; exact hk5 _ (by omega)
  have hq3_5 : kad κ5 (n + 6) = q3 := by rw [← hq3_4]; exact hk5 _ (by omega)
  have K5 := hC.same P5.1
  replace he5 : C5 o = .inr (1, [.int kd, .int 0, .int 0, .long 0, .int 0, .ref q0, .ref q1, .ref q2, .ref q3, .ref q4, .null]) := he5
  refine g_aload_n hC hl dX1_init_73 rfl rfl ?_
  refine r_new (ci := 2) (fs := [.null, .int 0]) K5 hO rfl inX2 tyX2_ok q_cl_RX1_15 q_in_RX2 q_ini_RX2 (fun j hj => by rcases (show j = 0 ∨ j = 1 by omega) with rfl | rfl <;> rfl) (Nat.le_of_ble_eq_true rfl) (Nat.le_of_ble_eq_true rfl) dX1_init_74 (fun q5 H hO => ?_)
  refine lv_dup hC.1 hC.2.1 dX1_init_77 rfl ?_
  refine lv_bipush (v := nI 12) hC.1 hC.2.1 dX1_init_78 (by decide) ?_
  refine r_cI (As := [.int (nI 12)]) (K5.kup (n + 1 + 1 + 1 + 1 + 1 + 1 + 1 + 1 + 1 + 1) q5) hO hl (k_X2_init l _ _ (n + 1 + 1 + 1 + 1 + 1 + 1 + 1 + 1 + 1 + 1 + 1) (n + 1 + 1 + 1 + 1 + 1 + 1 + 1 + 1 + 1 + 1) q5 12 (by omega) (by rw [kad_kup, if_pos rfl]) (by rw [va_up_self]) (by omega)) mi_X2_init rfl q_ml_RX1_17 (fun U g mk a h => ⟨h.1.blind g mk a, trivial⟩) (fun U hU _ hK => ⟨hO.wr hU hK, trivial⟩) rfl rfl rfl ⟨Nat.le_of_ble_eq_true rfl, Nat.le_of_ble_eq_true rfl⟩ (Nat.le_of_ble_eq_true rfl) ⟨Nat.le_of_ble_eq_true rfl, Nat.le_of_ble_eq_true rfl⟩ dX1_init_80 (fun w5 t H locs ht _ hB hS => ?_)
  have hO := OR.back (κ2 := kup (kup κ5 (n + 1 + 1 + 1 + 1 + 1 + 1 + 1 + 1 + 1 + 1) q5) (n + 1 + 1 + 1 + 1 + 1 + 1 + 1 + 1 + 1 + 1 + 1) w5) hO rfl ht hB hS
  refine r_putF (co := o) (ci := 1) (k := 10) (fs := [.int kd, .int 0, .int 0, .long 0, .int 0, .ref q0, .ref q1, .ref q2, .ref q3, .ref q4, .null]) ((K5.kup (n + 1 + 1 + 1 + 1 + 1 + 1 + 1 + 1 + 1 + 1) q5).kup (n + 1 + 1 + 1 + 1 + 1 + 1 + 1 + 1 + 1 + 1 + 1) w5) hni hO (by rw [kad_kup, if_neg (by omega), kad_kup, if_neg (by omega), P5.1.2.2.2 o ho]; exact ha) rfl inX1 tyX1_ok nmX1 (by decide) q_fl_RX1_36 rfl rfl (by omega) (by rw [va_up_ne _ _ (by omega), va_up_ne _ _ (by omega), va_up_ne _ _ (by omega)]; exact he5) (Nat.le_of_ble_eq_true rfl) rfl rfl dX1_init_83 (fun H locs hO => ?_)
  obtain ⟨κ6, C6, hO, P6, hq5_6, hk6, he6⟩ := pstep (i := 5) ho (by omega) rfl P5 hO
  have hq0_6 : kad κ6 (n + 0) = q0 := by rw [← hq0_5]; exact hk6 _ (by omega)
  have hq1_6 : kad κ6 (n + 2) = q1 := by rw [← hq1_5]; exact hk6 _ (by omega)
  have hq2_6 : kad κ6 (n + 4) = q2 := by rw [← hq2_5]; exact hk6 _ (by omega)
  have hq3_6 : kad κ6 (n + 6) = q3 := by rw [← hq3_5]; exact hk6 _ (by omega)
  have hq4_6 : kad κ6 (n + 8) = q4 := by rw [← hq4_5]; exact hk6 _ (by omega)
  have K6 := hC.same P6.1
  replace he6 : C6 o = .inr (1, [.int kd, .int 0, .int 0, .long 0, .int 0, .ref q0, .ref q1, .ref q2, .ref q3, .ref q4, .ref q5]) := he6
  refine W.widen (k := 12) (n := 67) (by omega) (by omega) ?_
  refine r_vret (κ6, C6) hC hO P6.1.1 dX1_init_86 ⟨P6.1, P6.2.1, ?_, P6.2.2⟩ (fun t ht hK => hO.wr ht (by unfold kD kT kcI kcL kcZ kcR; rw [P6.1.2.1, P6.1.2.2.1]; exact hK))
  show C6 o = .inr (1, [.int kd, .int 0, .int 0, .long 0, .int 0, .ref (kad κ6 (n + 0)), .ref (kad κ6 (n + 2)), .ref (kad κ6 (n + 4)), .ref (kad κ6 (n + 6)), .ref (kad κ6 (n + 8)), .ref (kad κ6 (n + 10))])
  rw [he6, show kad κ6 (n + 0) = q0 from hq0_6, show kad κ6 (n + 2) = q1 from hq1_6, show kad κ6 (n + 4) = q2 from hq2_6, show kad κ6 (n + 6) = q3 from hq3_6, show kad κ6 (n + 8) = q4 from hq4_6, show kad κ6 (n + 10) = q5 from hq5_6]
set_option maxHeartbeats 4000000 in
set_option maxRecDepth 100000 in
theorem k_X3_init (l : Launch) (κ : KK) (C : Nat → va_E) (he : C 0 = .inr (3, [.null, .int 0, .null, .null, .null, .long 0])) : Met l yX3_init (wA yX3_init cX3_init 1 none) ({ frames := 2, cells := 5, slots := 2697, locals := 32 }) (va_Pc [.ref (kad κ 0)] (fun U => WR κ C 1 U ∧ va_AO RX1 U)) (va_Qv (fun u : KK × (Nat → va_E) => kSame κ u.1 1 ∧ ∀ c, c < 6 → u.2 c = sh u.1 st0 (fun _ _ => 0) 0 c) (fun u t => WR u.1 u.2 6 t) (FA κ)) 5 2697 (FA κ) := by
  refine r_met 0 (by decide) rfl (Nat.le_of_ble_eq_true rfl) ?_
  intro p e s m args below meth c hC hni hX hO ls hl
  have hl : LL ls 1 [some (.ref (kad κ 0))] := hl
  refine g_aload_n hC hl dX3_init_0 rfl rfl ?_
  refine W.objInit hC.1 hC.2.1 hC.2.2.2.1 (hC.2.2.2.2.1 _ q_ml_RX3_3) (hC.2.2.2.2.1 _ q_im_objectInit) (hC.2.2.2.2.1 _ q_co_objectInit) rfl (by rw [hC.2.2.1]; exact hl.1) rfl dX3_init_1 (Nat.le_of_ble_eq_true rfl) (Nat.le_of_ble_eq_true rfl) ?_
  refine W.eq (g2 := F0 m 4 ls []) rfl ?_
  refine g_aload_n hC hl dX3_init_4 rfl rfl ?_
  refine lv_bipush (v := 60) hC.1 hC.2.1 dX3_init_5 (by decide) ?_
  refine r_newR 60 hC hX hO q_cl_RX3_9 (by decide) (by decide) (by decide) (Nat.le_of_ble_eq_true rfl) (Nat.le_of_ble_eq_true rfl) dX3_init_7 (fun q1 H hO => ?_)
  refine r_putF (co := 0) (ci := 3) (k := 0) (fs := [.null, .int 0, .null, .null, .null, .long 0]) ((hC).kup 1 q1) hni hO rfl rfl inX3 tyX3_ok nmX3 (by decide) q_fl_RX3_11 rfl rfl (by decide) he (Nat.le_of_ble_eq_true rfl) rfl rfl dX3_init_10 (fun H locs hO => ?_)
  refine g_aload_n hC hl dX3_init_13 rfl rfl ?_
  refine lv_sipush (v := 1061) hC.1 hC.2.1 dX3_init_14 (by decide) ?_
  refine r_newI 1061 ((hC).kup 1 q1) hO (by decide) (by decide) (by decide) (Nat.le_of_ble_eq_true rfl) (Nat.le_of_ble_eq_true rfl) dX3_init_17 (fun q2 H hO => ?_)
  refine r_putF (co := 0) (ci := 3) (k := 2) (fs := [.ref q1, .int 0, .null, .null, .null, .long 0]) (((hC).kup 1 q1).kup 2 q2) hni hO rfl rfl inX3 tyX3_ok nmX3 (by decide) q_fl_RX3_15 rfl rfl (by decide) rfl (Nat.le_of_ble_eq_true rfl) rfl rfl dX3_init_19 (fun H locs hO => ?_)
  refine g_aload_n hC hl dX3_init_22 rfl rfl ?_
  refine lv_sipush (v := 1061) hC.1 hC.2.1 dX3_init_23 (by decide) ?_
  refine r_newI 1061 (((hC).kup 1 q1).kup 2 q2) hO (by decide) (by decide) (by decide) (Nat.le_of_ble_eq_true rfl) (Nat.le_of_ble_eq_true rfl) dX3_init_26 (fun q3 H hO => ?_)
  refine r_putF (co := 0) (ci := 3) (k := 3) (fs := [.ref q1, .int 0, .ref q2, .null, .null, .long 0]) ((((hC).kup 1 q1).kup 2 q2).kup 3 q3) hni hO rfl rfl inX3 tyX3_ok nmX3 (by decide) q_fl_RX3_19 rfl rfl (by decide) rfl (Nat.le_of_ble_eq_true rfl) rfl rfl dX3_init_28 (fun H locs hO => ?_)
  refine g_aload_n hC hl dX3_init_31 rfl rfl ?_
  refine r_new (ci := 0) (fs := [.null, .int 0, .int 0]) ((((hC).kup 1 q1).kup 2 q2).kup 3 q3) hO rfl inX0 tyX0_ok q_cl_RX3_22 q_in_RX0 q_ini_RX0 (fun j hj => by rcases (show j = 0 ∨ j = 1 ∨ j = 2 by omega) with rfl | rfl | rfl <;> rfl) (Nat.le_of_ble_eq_true rfl) (Nat.le_of_ble_eq_true rfl) dX3_init_32 (fun q4 H hO => ?_)
  refine lv_dup hC.1 hC.2.1 dX3_init_35 rfl ?_
  refine r_cI (As := []) (((((hC).kup 1 q1).kup 2 q2).kup 3 q3).kup 4 q4) hO hl (k_X0_init l _ _ 5 4 q4 (by omega) rfl rfl) mi_X0_init rfl q_ml_RX3_24 (fun U g mk a h => ⟨h.1.blind g mk a, trivial⟩) (fun U hU _ hK => ⟨hO.wr hU hK, trivial⟩) rfl rfl rfl ⟨Nat.le_of_ble_eq_true rfl, Nat.le_of_ble_eq_true rfl⟩ (Nat.le_of_ble_eq_true rfl) ⟨Nat.le_of_ble_eq_true rfl, Nat.le_of_ble_eq_true rfl⟩ dX3_init_36 (fun q5 t H locs ht _ hB hS => ?_)
  have hO := OR.back (κ2 := kup (kup (kup (kup (kup κ 1 q1) 2 q2) 3 q3) 4 q4) 5 q5) hO rfl ht hB hS
  refine r_putF (co := 0) (ci := 3) (k := 4) (fs := [.ref q1, .int 0, .ref q2, .ref q3, .null, .long 0]) ((((((hC).kup 1 q1).kup 2 q2).kup 3 q3).kup 4 q4).kup 5 q5) hni hO rfl rfl inX3 tyX3_ok nmX3 (by decide) q_fl_RX3_25 rfl rfl (by decide) rfl (Nat.le_of_ble_eq_true rfl) rfl rfl dX3_init_39 (fun H locs hO => ?_)
  exact r_vret (kup (kup (kup (kup (kup κ 1 q1) 2 q2) 3 q3) 4 q4) 5 q5, _) hC hO rfl dX3_init_42 ⟨⟨rfl, rfl, rfl, fun c hc => by rcases (show c = 0 by omega) with rfl; rfl⟩, fun c hc => by rcases (show c = 0 ∨ c = 1 ∨ c = 2 ∨ c = 3 ∨ c = 4 ∨ c = 5 by omega) with rfl | rfl | rfl | rfl | rfl | rfl <;> rfl⟩ (fun t ht hK => hO.wr ht hK)
end
section
/-! the method bag: a receptacle is made -/
theorem wz_congr {ad : Nat → Nat} {C C2 : Nat → va_E} {n : Nat} (h : ∀ c, c < n → C c = C2 c) : wz ad C n = wz ad C2 n := by
  unfold wz
  apply List.map_congr_left
  intro c hc
  rw [h c (List.mem_range.mp hc)]
theorem kcI_same {κ κ2 : KK} {n : Nat} (h : kSame κ κ2 n) : kcI κ2 = kcI κ := by unfold kcI; rw [h.2.2.1]
theorem kcL_same {κ κ2 : KK} {n : Nat} (h : kSame κ κ2 n) : kcL κ2 = kcL κ := by unfold kcL; rw [h.2.2.1]
theorem kcZ_same {κ κ2 : KK} {n : Nat} (h : kSame κ κ2 n) : kcZ κ2 = kcZ κ := by unfold kcZ; rw [h.2.2.1]
theorem kcR_same {κ κ2 : KK} {n : Nat} (h : kSame κ κ2 n) : kcR κ2 = kcR κ := by unfold kcR; rw [h.2.2.1]
theorem kSame.trans {κ κ2 κ3 : KK} {n m : Nat} (h : kSame κ κ2 n) (h2 : kSame κ2 κ3 m) (hm : n ≤ m) : kSame κ κ3 n := ⟨h2.1.trans h.1, h2.2.1.trans h.2.1, h2.2.2.1.trans h.2.2.1, fun c hc => (h2.2.2.2 c (by omega)).trans (h.2.2.2 c hc)⟩
theorem kSame.mono {κ κ2 : KK} {n m : Nat} (h : kSame κ κ2 n) (hm : m ≤ n) : kSame κ κ2 m := ⟨h.1, h.2.1, h.2.2.1, fun c hc => h.2.2.2 c (by omega)⟩
theorem kSame_kup (κ : KK) (n q : Nat) : kSame κ (kup κ n q) n := ⟨rfl, rfl, rfl, fun c hc => by rw [kad_kup, if_neg (by omega)]⟩
theorem kT_same {κ κ2 : KK} {n : Nat} (h : kSame κ κ2 n) {U : State} (hK : va_K (kD κ) vwCl (kT κ) U) : va_K (kD κ2) vwCl (kT κ2) U := by
  unfold kT kD
  rw [kcI_same h, kcL_same h, kcZ_same h, kcR_same h, h.2.1]
  exact hK
set_option maxHeartbeats 4000000 in
theorem sh_same {κ κ2 : KK} {σ σ2 : ST} {F F2 : Nat → Nat → Int32} {th : Int32} {c : Nat} (hs : kSame κ κ2 (nn σ)) (hc : c < nn σ) (h0 : c ≠ 0) (h1 : c ≠ 1) (hI : sI σ2 c = sI σ c) (hJ : sJ σ2 c = sJ σ c) (hR : sR σ2 c = sR σ c) (hF : F2 c = F c) : sh κ2 σ2 F2 th c = sh κ σ F th c := by
  unfold sh
  rw [hI, hJ, hR, hF]
  have eI := kcI_same hs
  have eL := kcL_same hs
  have eZ := kcZ_same hs
  have hk : ∀ d, d < nn σ → kad κ2 d = kad κ d := hs.2.2.2
  by_cases h24 : c < 24
  · have k5 := hk 5 (nn_lt (by decide))
    have k7 := hk 7 (nn_lt (by decide))
    have k8 := hk 8 (nn_lt (by decide))
    have k9 := hk 9 (nn_lt (by decide))
    have k10 := hk 10 (nn_lt (by decide))
    have k11 := hk 11 (nn_lt (by decide))
    have k12 := hk 12 (nn_lt (by decide))
    have k13 := hk 13 (nn_lt (by decide))
    have k14 := hk 14 (nn_lt (by decide))
    have k15 := hk 15 (nn_lt (by decide))
    have k16 := hk 16 (nn_lt (by decide))
    have k17 := hk 17 (nn_lt (by decide))
    have k18 := hk 18 (nn_lt (by decide))
    have k19 := hk 19 (nn_lt (by decide))
    have k20 := hk 20 (nn_lt (by decide))
    have k21 := hk 21 (nn_lt (by decide))
    have k22 := hk 22 (nn_lt (by decide))
    have k23 := hk 23 (nn_lt (by decide))
    rcases (show c = 2 ∨ c = 3 ∨ c = 4 ∨ c = 5 ∨ c = 6 ∨ c = 7 ∨ c = 8 ∨ c = 9 ∨ c = 10 ∨ c = 11 ∨ c = 12 ∨ c = 13 ∨ c = 14 ∨ c = 15 ∨ c = 16 ∨ c = 17 ∨ c = 18 ∨ c = 19 ∨ c = 20 ∨ c = 21 ∨ c = 22 ∨ c = 23 by omega) with rfl | rfl | rfl | rfl | rfl | rfl | rfl | rfl | rfl | rfl | rfl | rfl | rfl | rfl | rfl | rfl | rfl | rfl | rfl | rfl | rfl | rfl <;> simp only [shc, eI, eL, eZ, k5, k7, k8, k9, k10, k11, k12, k13, k14, k15, k16, k17, k18, k19, k20, k21, k22, k23]
  · obtain ⟨d, rfl⟩ : ∃ d, c = d + 24 := ⟨c - 24, by omega⟩
    show shr κ2 (d % 13) (d + 24) _ _ _ _ = shr κ (d % 13) (d + 24) _ _ _ _
    unfold nn at hc
    unfold shr
    by_cases hd : d % 13 = 0
    · have k1 := hk (d + 24 + 1) (by unfold nn; omega)
      have k3 := hk (d + 24 + 3) (by unfold nn; omega)
      have k5 := hk (d + 24 + 5) (by unfold nn; omega)
      have k7 := hk (d + 24 + 7) (by unfold nn; omega)
      have k9 := hk (d + 24 + 9) (by unfold nn; omega)
      have k11 := hk (d + 24 + 11) (by unfold nn; omega)
      rw [if_pos hd, if_pos hd, k1, k3, k5, k7, k9, k11]
    · rw [if_neg hd, if_neg hd]
      by_cases h2 : d % 13 % 2 = 1
      · rw [if_pos h2, if_pos h2, hk (d + 24 + 1) (by unfold nn; omega)]
      · rw [if_neg h2, if_neg h2, eI]
def newR (σ : ST) (kd : Int32) : ST := (σ.1 + 1, va_up σ.2.1 (rb σ.1) (fun i => if i = 0 then kd else 0), va_up σ.2.2.1 (rb σ.1) (fun _ => 0), fun c => if rb σ.1 ≤ c then [] else sR σ c)
def xBag (σ : ST) (p : Int32) : Int32 × ST := if p < 0 ∨ 3 < p then (-12, σ) else if σ.1 < 60 then (1000 + nI (σ.1 + 1), newR σ p) else (-14, σ)
theorem rowsOK.newR {σ : ST} {F : Nat → Nat → Int32} (h : rowsOK σ F) (h60 : σ.1 < 60) (kd : Int32) : rowsOK (newR σ kd) (fun c => if rb σ.1 ≤ c then fun _ => 0 else F c) := by
  refine ⟨h60, fun k j hk hj => ?_⟩
  have hk : k < σ.1 + 1 := hk
  show ((if rb σ.1 ≤ rc k j then [] else sR σ (rc k j)) : List Int32).length ≤ capj j ∧ ∀ (i : Nat) (x : Int32), ((if rb σ.1 ≤ rc k j then [] else sR σ (rc k j)) : List Int32)[i]? = some x → _
  by_cases hr : rb σ.1 ≤ rc k j
  · rw [if_pos hr]
    exact ⟨Nat.zero_le _, fun i x hx => by simp at hx⟩
  · have hk2 : k < σ.1 := by unfold rb rc at hr; omega
    rw [if_neg hr]
    have h9 := h.2 k j hk2 hj
    refine ⟨h9.1, fun i x hx => ?_⟩
    have hr2 : ¬ rb σ.1 ≤ rc k j + 1 := by unfold rb rc at *; omega
    show (if rb σ.1 ≤ rc k j + 1 then fun _ => 0 else F (rc k j + 1)) i = x
    rw [if_neg hr2]
    exact h9.2 i x hx
theorem newWX {κ κ2 : KK} {σ : ST} {F : Nat → Nat → Int32} {th : Int32} {C2 : Nat → va_E} {H0 H : Heap} {locs : List Loc} {kd : Int32} (hR : rowsOK σ F) (h60 : σ.1 < 60) (hs : kSame κ κ2 (nn σ)) (hO : OR κ2 H0 C2 (nn σ + 13) H locs)
    (h0 : C2 0 = .inr (3, [.ref (kad κ 1), .int (nI (σ.1 + 1)), .ref (kad κ 2), .ref (kad κ 3), .ref (kad κ 4), .long (sJ σ 0 5)])) (h1 : C2 1 = .inl (kcR κ, 60, .inr (.inr (.inr (.inr (va_up (fun q => if q < σ.1 then some (kad κ (rb q)) else none) σ.1 (some (kad κ2 (nn σ)))))))))
    (hlo : ∀ c, c < nn σ → c ≠ 0 → c ≠ 1 → C2 c = sh κ σ F th c)
    (hr : C2 (nn σ) = .inr (1, [.int kd, .int 0, .int 0, .long 0, .int 0, .ref (kad κ2 (nn σ + 1)), .ref (kad κ2 (nn σ + 3)), .ref (kad κ2 (nn σ + 5)), .ref (kad κ2 (nn σ + 7)), .ref (kad κ2 (nn σ + 9)), .ref (kad κ2 (nn σ + 11))]))
    (hj : ∀ j, j < 6 → C2 (nn σ + 1 + 2 * j) = .inr (2, [.ref (kad κ2 (nn σ + 1 + 2 * j + 1)), .int 0]) ∧ C2 (nn σ + 1 + 2 * j + 1) = .inl (kcI κ, capj j, .inl (fun _ => 0)))
    {t : State} (ht : t.heap = H) (hK : va_K (kD κ) vwCl (kT κ) t) : WX κ2 (newR σ kd) t := by
  obtain ⟨hP, hA, hS, hz⟩ := hO
  refine ⟨kT_same hs hK, ⟨(fun c => if rb σ.1 ≤ c then fun _ => 0 else F c), th, hR.newR h60 kd, ?_⟩, ?_, ?_⟩
  · rw [ht]
    have e : nn (newR σ kd) = nn σ + 13 := by unfold nn newR; omega
    rw [e, ← wz_congr (ad := kad κ2) (C := C2) (n := nn σ + 13)]
    · exact hP
    intro c hc
    by_cases hlt : c < nn σ
    · by_cases hc0 : c = 0
      · subst hc0
        rw [h0]
        have k1 := hs.2.2.2 1 (nn_lt (by decide))
        have k2 := hs.2.2.2 2 (nn_lt (by decide))
        have k3 := hs.2.2.2 3 (nn_lt (by decide))
        have k4 := hs.2.2.2 4 (nn_lt (by decide))
        show (_ : va_E) = (Sum.inr (3, [.ref (kad κ2 1), .int (nI (σ.1 + 1)), .ref (kad κ2 2), .ref (kad κ2 3), .ref (kad κ2 4), .long (sJ (newR σ kd) 0 5)]) : va_E)
        rw [k1, k2, k3, k4]
        have e5 : sJ (newR σ kd) 0 5 = sJ σ 0 5 := by
          show va_up σ.2.2.1 (rb σ.1) (fun _ => 0) 0 5 = σ.2.2.1 0 5
          rw [va_up_ne _ _ (by unfold rb; omega)]
        rw [e5]
      · by_cases hc1 : c = 1
        · subst hc1
          rw [h1]
          show (_ : va_E) = (Sum.inl (kcR κ2, 60, .inr (.inr (.inr (.inr (fun q => if q < σ.1 + 1 then some (kad κ2 (rb q)) else none))))) : va_E)
          rw [kcR_same hs]
          have ef : va_up (fun q => if q < σ.1 then some (kad κ (rb q)) else none) σ.1 (some (kad κ2 (nn σ))) = fun q => if q < σ.1 + 1 then some (kad κ2 (rb q)) else none := by
            funext q
            by_cases hq : q = σ.1
            · subst hq
              rw [va_up_self, if_pos (by omega)]
              rfl
            · rw [va_up_ne _ _ hq]
              by_cases hq2 : q < σ.1
              · rw [if_pos hq2, if_pos (by omega), hs.2.2.2 (rb q) (nn_rb hq2)]
              · rw [if_neg hq2, if_neg (by omega)]
          rw [ef]
        · rw [hlo c hlt hc0 hc1]
          have hrb : ¬ rb σ.1 ≤ c := by unfold rb; unfold nn at hlt; omega
          have hne : c ≠ rb σ.1 := by unfold rb; unfold nn at hlt; omega
          refine (sh_same hs hlt hc0 hc1 ?_ ?_ ?_ ?_).symm
          · exact va_up_ne _ _ hne
          · exact va_up_ne _ _ hne
          · exact if_neg hrb
          · exact if_neg hrb
    · have hcases : c = nn σ ∨ ∃ j, j < 6 ∧ (c = nn σ + 1 + 2 * j ∨ c = nn σ + 1 + 2 * j + 1) := by
        by_cases hce : c = nn σ
        · exact Or.inl hce
        · exact Or.inr ⟨(c - nn σ - 1) / 2, by omega, by omega⟩
      rcases hcases with rfl | ⟨j, hj6, rfl | rfl⟩
      · rw [hr]
        have e9 := sh_rec κ2 (newR σ kd) (fun c => if rb σ.1 ≤ c then fun _ => 0 else F c) th σ.1
        have e8 : nn σ = rb σ.1 := rfl
        rw [e8, e9]
        have i0 : ∀ i, sI (newR σ kd) (rb σ.1) i = if i = 0 then kd else 0 := fun i => by show va_up σ.2.1 (rb σ.1) (fun i => if i = 0 then kd else 0) (rb σ.1) i = _; rw [va_up_self]
        have j0 : ∀ i, sJ (newR σ kd) (rb σ.1) i = 0 := fun i => by show va_up σ.2.2.1 (rb σ.1) (fun _ => 0) (rb σ.1) i = _; rw [va_up_self]
        rw [i0, i0, i0, i0, j0]
        rfl
      · rw [(hj j hj6).1]
        have e8 : nn σ + 1 + 2 * j = rc σ.1 j := by unfold nn rc; omega
        rw [e8, sh_row _ _ _ _ _ hj6]
        have er : sR (newR σ kd) (rc σ.1 j) = [] := if_pos (by unfold rb rc; omega)
        rw [er]
        rfl
      · rw [(hj j hj6).2]
        have e8 : nn σ + 1 + 2 * j = rc σ.1 j := by unfold nn rc; omega
        rw [e8, sh_arr _ _ _ _ _ hj6, kcI_same hs]
        have er : (if rb σ.1 ≤ rc σ.1 j + 1 then fun _ => 0 else F (rc σ.1 j + 1)) = fun _ : Nat => (0 : Int32) := if_pos (by unfold rb rc; omega)
        rw [er]
  · have e : nn (newR σ kd) = nn σ + 13 := by unfold nn newR; omega
    rw [e]
    exact hA
  · rw [ht]
    exact Nat.le_trans hz hS.1
theorem r_iret {S : Type} {post : Int32 → S → Prop} {B : S → State → Prop} {p : Program} {l : Launch} {e : Env} {R : Room} {s : State} {m : MethodId} {args : Array Value} {below : List Frame} {meth : Method} {c : Code} {H : Heap} {locs : List Loc} {cells slots : Nat} {cc : ByteArray} {nL : Nat} {own : String} {κ κ2 : KK} {pc n2 : Nat} {ls : Array Slot} {C2 : Nat → va_E} {x : Int32} (u : S) (hC : CX p s m args meth c cc nL own (some .int) κ) (hO : OR κ2 s.heap C2 n2 H locs) (hs : kS κ2 = kS κ) (hdg : decode cc pc = .ok (.ireturn, 1)) (hpost : post x u) (hB : ∀ t : State, t.heap = H → va_K (kD κ) vwCl (kT κ) t → B u t) : W p l e R s m args below meth c H locs cells slots (MQ below (va_Qi post B (FA κ)) args s cells slots (FA κ)) (F0 m pc ls [.int x]) := by
  have hS : va_S (FA κ) s.heap H locs := by
    have h := hO.2.2.1
    unfold FA at h ⊢
    rw [← hs]
    exact h
  exact W.iret (hlocks := hC.2.2.2.2.2.2.1) hC.1 hC.2.1 hC.2.2.2.2.2.2.2 (fun t ht hW => ⟨⟨x, u, rfl, hpost, hB t ht (va_K.moved hW.alike hC.2.2.2.2.2.1)⟩, hS.F ht⟩) hS.2.2 hdg
theorem OS.or {κ : KK} {H0 : Heap} {σ : ST} {F : Nat → Nat → Int32} {th : Int32} {H : Heap} {locs : List Loc} (h : OS κ H0 σ F th H locs) : OR κ H0 (sh κ σ F th) (nn σ) H locs := ⟨h.2.1, h.2.2.1, h.2.2.2.1, h.2.2.2.2⟩
theorem g_metN {l : Launch} {y : MethodName} {cc : ByteArray} {mx : Nat} {ret : Option FieldType} {rm : Room} {As : List Value} {Qc : Array Value → State → Outcome → State → Prop} {own : String} {κ : KK} {σ : ST} {mc ms : Nat} (r : Nat) (hy : plainName y.cls = true) (hc : y.cls = own) (hlen : (lg_sl As).length ≤ mx)
    (body : ∀ (p : Program) (e : Env) (s : State) (m : MethodId) (args : Array Value) (below : List Frame) (meth : Method) (c : Code), CX p s m args meth c cc mx own ret κ → ∀ (F : Nat → Nat → Int32) (th : Int32), OS κ s.heap σ F th s.heap [] → ∀ ls : Array Slot, LL ls mx (lo As ++ List.replicate r none) → W p l e rm s m args below meth c s.heap [] 0 0 (MQ below Qc args s mc ms (FA κ)) (F0 m 0 ls [])) : Met l y (wA y cc mx ret) rm (va_Pc As (WX κ σ)) Qc mc ms (FA κ) := by
  refine Met.ofW (cc := cc) (maxL := mx) (ret := ret) hy rfl ?_
  intro p e s m args below meth c s₁ B hml hv
  obtain ⟨rfl, hK, ⟨F, th, h1, h2⟩, h3, h4⟩ := hv
  have hts := atoms_spec (ws := wA y cc mx ret) B.pre
  have hown : s.vm.findClass own = some m.cls := by rw [← hc]; exact findClass_of_methodNamed B.named
  have hl := lv_entry As (n := mx) hlen
  rw [lg_entry_eq]
  refine body p e s m _ below meth c ⟨B.exec, B.bytes, hml, hown, fun w hw => hts w (List.mem_cons_of_mem _ hw), hK, B.notSynchronized, B.returns⟩ F th ⟨h1, h2, h3, va_S.rf, h4⟩ _ ?_
  show lv_has _ _ _
  rw [lz_lo]
  exact hl
set_option maxHeartbeats 4000000 in
set_option maxRecDepth 100000 in
theorem c_X3_bag (l : Launch) (κ : KK) (σ : ST) (p0 : Int32) : Met l yX3_bag (wA yX3_bag cX3_bag 3 (some .int)) ({ frames := 3, cells := 13, slots := 78, locals := 60 }) (va_Pc [.ref (kad κ 0), .int p0] (WX κ σ)) (va_Qi (fun (r : Int32) (u : KK × ST) => kSame κ u.1 (nn σ) ∧ (r, u.2) = xBag σ p0) (fun u t => WX u.1 u.2 t) (FA κ)) 13 78 (FA κ) := by
  refine g_metN 1 (by decide) rfl (Nat.le_of_ble_eq_true rfl) ?_
  intro p e s m args below meth c hC F th hO ls hl
  have hl : LL ls 3 [some (.ref (kad κ 0)), some (.int p0), none] := hl
  have h60 := hO.1.1
  have hno : ∀ (H : Heap) (locs : List Loc), OS κ s.heap σ F th H locs → ∀ (x : Int32) (pc : Nat) (ls : Array Slot), decode cX3_bag pc = .ok (.ireturn, 1) → (x, σ) = xBag σ p0 → W p l e ({ frames := 3, cells := 13, slots := 78, locals := 60 }) s m args below meth c H locs 0 0 (MQ below (va_Qi (fun (r : Int32) (u : KK × ST) => kSame κ u.1 (nn σ) ∧ (r, u.2) = xBag σ p0) (fun u t => WX u.1 u.2 t) (FA κ)) args s 13 78 (FA κ)) (F0 m pc ls [.int x]) := by
    intro H locs hO x pc ls hd hx
    refine W.widen (k := 13) (n := 78) (Nat.zero_le _) (Nat.zero_le _) ?_
    exact r_iret (κ, σ) hC hO.or rfl hd ⟨kSame.refl κ _, hx⟩ (fun t ht hK => hO.wx ht hK)
  refine g_iload_n hC hl dX3_bag_0 rfl rfl ?_
  refine lv_if_lt (tgt := 9) hC.1 hC.2.1 dX3_bag_1 (by decide) (fun c_1 => ?_) (fun c_1 => ?_)
  · refine lv_bipush (v := (-12)) hC.1 hC.2.1 dX3_bag_9 (by decide) ?_
    exact hno _ _ hO _ _ _ dX3_bag_11 (by unfold xBag; rw [if_pos (Or.inl c_1)])
  refine g_iload_n hC hl dX3_bag_4 rfl rfl ?_
  refine lv_iconst (v := 3) hC.1 hC.2.1 dX3_bag_5 (by decide) ?_
  refine lv_icmp_le (tgt := 12) hC.1 hC.2.1 dX3_bag_6 (by decide) (fun c_2 => ?_) (fun c_2 => ?_)
  rotate_left
  · refine lv_bipush (v := (-12)) hC.1 hC.2.1 dX3_bag_9 (by decide) ?_
    exact hno _ _ hO _ _ _ dX3_bag_11 (by unfold xBag; rw [if_pos (Or.inr (Int32.not_le.mp c_2))])
  have hkd : ¬ (p0 < 0 ∨ 3 < p0) := fun h => by
    rcases h with h | h
    · exact c_1 h
    · exact absurd c_2 (Int32.not_le.mpr h)
  refine g_aload_n hC hl dX3_bag_12 rfl rfl ?_
  refine g_get (ci := 3) (k := 1) (fs := [.ref (kad κ 1), .int (nI σ.1), .ref (kad κ 2), .ref (kad κ 3), .ref (kad κ 4), .long (sJ σ 0 5)]) hC hO rfl inX3 (by decide) q_fl_RX3_29 (nn_lt (by decide)) rfl rfl dX3_bag_13 ?_
  refine g_istore_n hC hl dX3_bag_16 rfl (Nat.le_of_ble_eq_true rfl) rfl (fun ls hl => ?_)
  have hl : LL ls 3 [some (.ref (kad κ 0)), some (.int p0), some (.int (nI σ.1))] := hl
  refine g_iload_n hC hl dX3_bag_17 rfl rfl ?_
  refine lv_if_lt (tgt := 30) hC.1 hC.2.1 dX3_bag_18 (by decide) (fun c_3 => absurd c_3 (nI_pos (by omega))) (fun _ => ?_)
  refine g_iload_n hC hl dX3_bag_21 rfl rfl ?_
  refine g_aload_n hC hl dX3_bag_22 rfl rfl ?_
  refine g_get (ci := 3) (k := 0) (fs := [.ref (kad κ 1), .int (nI σ.1), .ref (kad κ 2), .ref (kad κ 3), .ref (kad κ 4), .long (sJ σ 0 5)]) hC hO rfl inX3 (by decide) q_fl_RX3_11 (nn_lt (by decide)) rfl rfl dX3_bag_23 ?_
  refine g_alenR (v := nI 60) hC hO (nn_lt (by decide)) rfl rfl dX3_bag_26 ?_
  refine lv_icmp_lt (tgt := 33) hC.1 hC.2.1 dX3_bag_27 (by decide) (fun c_3 => ?_) (fun c_3 => ?_)
  rotate_left
  · rw [nI_ltI (by omega) (by omega)] at c_3
    refine lv_bipush (v := (-14)) hC.1 hC.2.1 dX3_bag_30 (by decide) ?_
    exact hno _ _ hO _ _ _ dX3_bag_32 (by unfold xBag; rw [if_neg hkd, if_neg c_3])
  rw [nI_ltI (by omega) (by omega)] at c_3
  refine g_aload_n hC hl dX3_bag_33 rfl rfl ?_
  refine g_get (ci := 3) (k := 0) (fs := [.ref (kad κ 1), .int (nI σ.1), .ref (kad κ 2), .ref (kad κ 3), .ref (kad κ 4), .long (sJ σ 0 5)]) hC hO rfl inX3 (by decide) q_fl_RX3_11 (nn_lt (by decide)) rfl rfl dX3_bag_34 ?_
  refine g_iload_n hC hl dX3_bag_37 rfl rfl ?_
  have hR := hO.1
  have hO := hO.or
  obtain ⟨C0, hC0⟩ : ∃ C0, C0 = sh κ σ F th := ⟨_, rfl⟩
  rw [← hC0] at hO
  have n24 : 24 ≤ nn σ := by unfold nn; omega
  refine r_new (ci := 1) (fs := [.int 0, .int 0, .int 0, .long 0, .int 0, .null, .null, .null, .null, .null, .null]) hC hO rfl inX1 tyX1_ok q_cl_RX3_9 q_in_RX1 q_ini_RX1 (fun j hj => by rcases (show j = 0 ∨ j = 1 ∨ j = 2 ∨ j = 3 ∨ j = 4 ∨ j = 5 ∨ j = 6 ∨ j = 7 ∨ j = 8 ∨ j = 9 ∨ j = 10 by omega) with rfl | rfl | rfl | rfl | rfl | rfl | rfl | rfl | rfl | rfl | rfl <;> rfl) (Nat.le_of_ble_eq_true rfl) (Nat.le_of_ble_eq_true rfl) dX3_bag_38 (fun q H hO => ?_)
  refine lv_dup hC.1 hC.2.1 dX3_bag_41 rfl ?_
  refine g_iload_n hC hl dX3_bag_42 rfl rfl ?_
  refine r_cI (As := [.int p0]) (hC.kup (nn σ) q) hO hl (k_X1_init l _ _ (nn σ + 1) (nn σ) q p0 (by omega) (by rw [kad_kup, if_pos rfl]) (by rw [va_up_self])) mi_X1_init rfl q_ml_RX3_33 (fun U g mk a h => ⟨h.1.blind g mk a, trivial⟩) (fun U hU _ hK => ⟨hO.wr hU hK, trivial⟩) rfl rfl rfl ⟨Nat.le_of_ble_eq_true rfl, Nat.le_of_ble_eq_true rfl⟩ (Nat.le_of_ble_eq_true rfl) ⟨Nat.le_of_ble_eq_true rfl, Nat.le_of_ble_eq_true rfl⟩ dX3_bag_43 (fun u t H locs ht hp hB hS => ?_)
  obtain ⟨hs, hlo, hr, hj⟩ := hp
  obtain ⟨κ2, C2⟩ := u
  have hs : kSame (kup κ (nn σ) q) κ2 (nn σ + 1) := hs
  have hO := OR.back (κ2 := κ2) hO hs.1 ht hB hS
  have hs0 : kSame κ κ2 (nn σ) := (kSame_kup κ (nn σ) q).trans hs (by omega)
  have hK2 := hC.same hs0
  have hq : kad κ2 (nn σ) = q := by rw [hs.2.2.2 (nn σ) (by omega), kad_kup, if_pos rfl]
  have hlo2 : ∀ c, c < nn σ → C2 c = sh κ σ F th c := fun c hc => by
    have h9 : C2 c = _ := hlo c (by omega) (by omega)
    rw [h9, va_up_ne _ _ (by omega), hC0]
  have e1 : C2 1 = .inl (kcR κ2, 60, .inr (.inr (.inr (.inr (fun q => if q < σ.1 then some (kad κ (rb q)) else none))))) := by
    rw [hlo2 1 (by omega), kcR_same hs0]
    rfl
  have e0 : C2 0 = .inr (3, [.ref (kad κ 1), .int (nI σ.1), .ref (kad κ 2), .ref (kad κ 3), .ref (kad κ 4), .long (sJ σ 0 5)]) := by
    rw [hlo2 0 (by omega)]
    rfl
  refine r_aast (co := 1) (cv := nn σ) (ci := 1) hK2 hO (hs0.2.2.2 1 (by omega)) hq (by omega) (by omega) e1 rfl hr (vp_in_nI (by omega) (by omega)) dX3_bag_46 (fun H locs hO => ?_)
  rw [nI_clamp (by omega)] at hO
  refine g_aload_n hC hl dX3_bag_47 rfl rfl ?_
  refine g_iload_n hC hl dX3_bag_48 rfl rfl ?_
  refine lv_iconst (v := 1) hC.1 hC.2.1 dX3_bag_49 (by decide) ?_
  refine lv_iadd hC.1 hC.2.1 dX3_bag_50 ?_
  rw [nI_1]
  refine r_put (co := 0) (ci := 3) (k := 1) (fs := [.ref (kad κ 1), .int (nI σ.1), .ref (kad κ 2), .ref (kad κ 3), .ref (kad κ 4), .long (sJ σ 0 5)]) hK2 hO (hs0.2.2.2 0 (by omega)) rfl inX3 tyX3_ok nmX3 (by decide) q_fl_RX3_29 rfl (by omega) (by rw [va_up_ne _ _ (by decide)]; exact e0) (Nat.le_of_ble_eq_true rfl) rfl rfl dX3_bag_51 (fun H locs hO => ?_)
  refine lv_sipush (v := 1000) hC.1 hC.2.1 dX3_bag_54 (by decide) ?_
  refine g_aload_n hC hl dX3_bag_57 rfl rfl ?_
  refine r_get (co := 0) (ci := 3) (k := 1) (v := .int (nI (σ.1 + 1))) hK2 hO (hs0.2.2.2 0 (by omega)) rfl inX3 (by decide) q_fl_RX3_29 (by omega) (by rw [va_up_self]) rfl dX3_bag_58 ?_
  refine lv_iadd hC.1 hC.2.1 dX3_bag_61 ?_
  refine r_iret (κ2, newR σ p0) hC hO hs0.1 dX3_bag_62 ⟨hs0, by unfold xBag; rw [if_neg hkd, if_pos c_3]⟩ (fun t ht hK => ?_)
  refine newWX (th := th) (kd := p0) hR c_3 hs0 (H := H) hO ?_ ?_ ?_ ?_ ?_ ht hK
  · rw [va_up_self]
    rfl
  · rw [va_up_ne _ _ (by decide), va_up_self, kcR_same hs0, hq]
  · intro c hc h0 h1
    rw [va_up_ne _ _ h0, va_up_ne _ _ h1]
    exact hlo2 c hc
  · rw [va_up_ne _ _ (by omega), va_up_ne _ _ (by omega)]
    exact hr
  · intro j hj6
    rw [va_up_ne _ _ (by omega), va_up_ne _ _ (by omega), va_up_ne _ _ (by omega), va_up_ne _ _ (by omega)]
    have h9 := hj j hj6
    have e9 : kcI (kup κ (nn σ) q) = kcI κ := rfl
    exact h9
end
section
/-! sums over numbers, in any commutative sum -/
section SUMS
variable {G : Type} (ad : G → G → G) (z : G)
def suN (w : Nat → G) (P : Nat → Bool) : Nat → G
  | 0 => z
  | i + 1 => if P i = true then ad (suN w P i) (w i) else suN w P i
def suL (w : Nat → G) : List Int32 → G
  | [] => z
  | x :: l => ad (w x.toNatClampNeg) (suL w l)
theorem suN_congr {w w2 : Nat → G} {P P2 : Nat → Bool} : ∀ n : Nat, (∀ i, i < n → P i = P2 i) → (∀ i, i < n → P i = true → w i = w2 i) → suN ad z w P n = suN ad z w2 P2 n := by
  intro n
  induction n with
  | zero => intro _ _; rfl
  | succ n ih =>
    intro h1 h2
    rw [suN, suN, ← h1 n (by omega), ih (fun i hi => h1 i (by omega)) (fun i hi => h2 i (by omega))]
    by_cases h : P n = true
    · rw [if_pos h, if_pos h, h2 n (by omega) h]
    · rw [if_neg h, if_neg h]
theorem suN_none {w : Nat → G} {P : Nat → Bool} : ∀ n : Nat, (∀ i, i < n → P i = false) → suN ad z w P n = z := by
  intro n
  induction n with
  | zero => intro _; rfl
  | succ n ih =>
    intro h
    rw [suN, if_neg (by rw [h n (by omega)]; decide), ih (fun i hi => h i (by omega))]
def cmL : Prop := (∀ a b, ad a b = ad b a) ∧ (∀ a b c, ad (ad a b) c = ad a (ad b c)) ∧ ∀ a, ad z a = a
theorem suN_take (hm : cmL ad z) {w : Nat → G} {P : Nat → Bool} {t : Nat} (hP : P t = true) : ∀ n : Nat, t < n → suN ad z w P n = ad (w t) (suN ad z w (fun i => P i && !decide (i = t)) n) := by
  obtain ⟨hc, ha, h0⟩ := hm
  intro n
  induction n with
  | zero => intro h; exact absurd h (Nat.not_lt_zero _)
  | succ n ih =>
    intro h
    by_cases e : n = t
    · subst e
      rw [suN, suN, if_pos hP, if_neg (by simp), hc (suN ad z w P n)]
      rw [suN_congr ad z (P := P) (P2 := fun i => P i && !decide (i = n)) n (fun i hi => by rw [decide_eq_false (by omega)]; simp) (fun _ _ _ => rfl)]
    · rw [suN, suN, ih (by omega)]
      have e2 : (P n && !decide (n = t)) = P n := by rw [decide_eq_false e]; simp
      rw [e2]
      by_cases h2 : P n = true
      · rw [if_pos h2, if_pos h2, ha]
      · rw [if_neg h2, if_neg h2]
theorem suL_of (hm : cmL ad z) {w : Nat → G} {n : Nat} (hn : n < 2 ^ 31) : ∀ (l : List Int32) (P : Nat → Bool), l.Nodup → (∀ x ∈ l, ∃ t, t < n ∧ x = nI t) → (∀ t, t < n → (P t = true ↔ nI t ∈ l)) → suN ad z w P n = suL ad z w l := by
  obtain ⟨hc, ha, h0⟩ := hm
  intro l
  induction l with
  | nil =>
    intro P _ _ h
    rw [suN_none ad z n (fun i hi => by
      cases e : P i with
      | false => rfl
      | true => exact absurd ((h i hi).mp e) List.not_mem_nil)]
    rfl
  | cons x l ih =>
    intro P hd hx h
    obtain ⟨t, ht, rfl⟩ := hx x List.mem_cons_self
    rw [suN_take ad z ⟨hc, ha, h0⟩ (P := P) (t := t) ((h t ht).mpr List.mem_cons_self) n ht]
    rw [suL, nI_clamp (by omega)]
    have hd2 := List.nodup_cons.mp hd
    rw [ih (fun i => P i && !decide (i = t)) hd2.2 (fun y hy => hx y (List.mem_cons_of_mem _ hy)) (fun u hu => ?_)]
    rw [Bool.and_eq_true, h u hu, List.mem_cons]
    constructor
    · rintro ⟨h1, h2⟩
      rcases h1 with h1 | h1
      · have e := (nI_eq (by omega) (by omega)).mp h1
        rw [decide_eq_true e] at h2
        exact absurd h2 (by decide)
      · exact h1
    · intro h1
      refine ⟨Or.inr h1, ?_⟩
      by_cases e : u = t
      · subst e; exact absurd h1 hd2.1
      · rw [decide_eq_false e]; rfl
theorem suN_or (hm : cmL ad z) {w : Nat → G} {P P2 : Nat → Bool} : ∀ n : Nat, (∀ i, i < n → ¬ (P i = true ∧ P2 i = true)) → suN ad z w (fun i => P i || P2 i) n = ad (suN ad z w P n) (suN ad z w P2 n) := by
  obtain ⟨hc, ha, h0⟩ := hm
  intro n
  induction n with
  | zero => intro _; exact (h0 z).symm
  | succ n ih =>
    intro h
    have ih := ih (fun i hi => h i (by omega))
    have hn := h n (by omega)
    rw [suN, suN, suN, ih]
    cases e1 : P n <;> cases e2 : P2 n
    · simp
    · simp [ha]
    · simp only [Bool.or_false, if_true, Bool.false_eq_true, if_false]
      rw [ha, ha, hc (suN ad z w P2 n)]
    · exact absurd ⟨e1, e2⟩ hn
/-- the sums of the classes make the sum of all -/
theorem suN_swap (hm : cmL ad z) {w : Nat → G} {n : Nat} {Q : Nat → Bool} {R : Nat → Nat → Bool} (hR : ∀ i j k, i < n → R i j = true → R i k = true → j = k) : ∀ K : Nat, suN ad z (fun k => suN ad z w (fun i => R i k) n) Q K = suN ad z w (fun i => (List.range K).any (fun k => Q k && R i k)) n := by
  obtain ⟨hc, ha, h0⟩ := hm
  intro K
  induction K with
  | zero => exact (suN_none ad z n (fun i _ => by simp)).symm
  | succ K ih =>
    rw [suN, ih]
    by_cases h : Q K = true
    · rw [if_pos h, ← suN_or ad z ⟨hc, ha, h0⟩]
      · refine suN_congr ad z n (fun i _ => ?_) (fun _ _ _ => rfl)
        rw [List.range_succ, List.any_append]
        simp [h]
      · rintro i hi ⟨h1, h2⟩
        obtain ⟨k, hk, h3⟩ := List.any_eq_true.mp h1
        rw [Bool.and_eq_true] at h3
        have e := hR i k K hi h3.2 h2
        have := List.mem_range.mp hk
        omega
    · rw [if_neg h]
      refine suN_congr ad z n (fun i _ => ?_) (fun _ _ _ => rfl)
      rw [List.range_succ, List.any_append]
      have h2 : Q K = false := by cases e : Q K with
        | false => rfl
        | true => exact absurd e h
      simp [h2]
theorem suN_add (hm : cmL ad z) {w w2 : Nat → G} {P : Nat → Bool} : ∀ n : Nat, suN ad z (fun i => ad (w i) (w2 i)) P n = ad (suN ad z w P n) (suN ad z w2 P n) := by
  obtain ⟨hc, ha, h0⟩ := hm
  intro n
  induction n with
  | zero => exact (h0 z).symm
  | succ n ih =>
    rw [suN, suN, suN, ih]
    by_cases h : P n = true
    · rw [if_pos h, if_pos h, if_pos h, ha, ha]
      congr 1
      rw [← ha, ← ha, hc (suN ad z w2 P n) (w n)]
    · rw [if_neg h, if_neg h, if_neg h]
theorem suN_shift (hm : cmL ad z) {w : Nat → G} {P : Nat → Bool} {m : Nat} : ∀ n : Nat, suN ad z w P (m + n) = ad (suN ad z w P m) (suN ad z (fun i => w (m + i)) (fun i => P (m + i)) n) := by
  obtain ⟨hc, ha, h0⟩ := hm
  intro n
  induction n with
  | zero =>
    show suN ad z w P m = ad (suN ad z w P m) z
    rw [hc, h0]
  | succ n ih =>
    rw [← Nat.add_assoc, suN, suN, ih]
    by_cases h : P (m + n) = true
    · rw [if_pos h, if_pos h, ha]
    · rw [if_neg h, if_neg h]
theorem suN_zero (hm : cmL ad z) {w : Nat → G} {P : Nat → Bool} : ∀ n : Nat, (∀ i, i < n → P i = true → w i = z) → suN ad z w P n = z := by
  obtain ⟨hc, ha, h0⟩ := hm
  intro n
  induction n with
  | zero => intro _; rfl
  | succ n ih =>
    intro h
    rw [suN, ih (fun i hi => h i (by omega))]
    by_cases h2 : P n = true
    · rw [if_pos h2, h n (by omega) h2, h0]
    · rw [if_neg h2]
end SUMS
end
