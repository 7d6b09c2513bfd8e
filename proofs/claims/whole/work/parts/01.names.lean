-- ===== PART A: goes FIRST, ahead of the names: the tables' words, and 'selects' of the private methods out of them =====
/-- a private method of a class that the tables say can be made, by its rows of tables_1 -/
def lw_okq (q : MethodName × Nat) : Prop := (q.1.cls ≠ "java/lang/invoke/MethodHandle" ∧ q.1.cls ≠ "java/lang/invoke/VarHandle") ∧ Cond.instantiable q.1.cls q.2 ∈ tables_1 ∧ Cond.privateMethod q.1 ∈ tables_1 ∧ Cond.instanceMethod q.1 ∈ tables_1
theorem lw_p0 : lw_okq (⟨"BagRows", "receptacleOf", "(I)LBagRows$Receptacle;"⟩, 6) := ⟨⟨by decide +kernel, by decide +kernel⟩, List.mem_of_getElem? (i := 8) (by decide +kernel), List.mem_of_getElem? (i := 122) (by decide +kernel), List.mem_of_getElem? (i := 123) (by decide +kernel)⟩
theorem lw_p1 : lw_okq (⟨"BagRows", "isThing", "(I)Z"⟩, 6) := ⟨⟨by decide +kernel, by decide +kernel⟩, List.mem_of_getElem? (i := 8) (by decide +kernel), List.mem_of_getElem? (i := 126) (by decide +kernel), List.mem_of_getElem? (i := 127) (by decide +kernel)⟩
theorem lw_p2 : lw_okq (⟨"BagRows", "isShut", "(I)Z"⟩, 6) := ⟨⟨by decide +kernel, by decide +kernel⟩, List.mem_of_getElem? (i := 8) (by decide +kernel), List.mem_of_getElem? (i := 133) (by decide +kernel), List.mem_of_getElem? (i := 134) (by decide +kernel)⟩
theorem lw_p3 : lw_okq (⟨"BagRows", "holderOf", "(I)I"⟩, 6) := ⟨⟨by decide +kernel, by decide +kernel⟩, List.mem_of_getElem? (i := 8) (by decide +kernel), List.mem_of_getElem? (i := 137) (by decide +kernel), List.mem_of_getElem? (i := 138) (by decide +kernel)⟩
theorem lw_p4 : lw_okq (⟨"BagRows", "isLesser", "(ILBagRows$Receptacle;)Z"⟩, 6) := ⟨⟨by decide +kernel, by decide +kernel⟩, List.mem_of_getElem? (i := 8) (by decide +kernel), List.mem_of_getElem? (i := 141) (by decide +kernel), List.mem_of_getElem? (i := 142) (by decide +kernel)⟩
theorem lw_p5 : lw_okq (⟨"BagRows", "placeOf", "(I)I"⟩, 6) := ⟨⟨by decide +kernel, by decide +kernel⟩, List.mem_of_getElem? (i := 8) (by decide +kernel), List.mem_of_getElem? (i := 145) (by decide +kernel), List.mem_of_getElem? (i := 146) (by decide +kernel)⟩
theorem lw_p6 : lw_okq (⟨"BagRows", "putIn", "(LBagRows$Receptacle;II)V"⟩, 6) := ⟨⟨by decide +kernel, by decide +kernel⟩, List.mem_of_getElem? (i := 8) (by decide +kernel), List.mem_of_getElem? (i := 153) (by decide +kernel), List.mem_of_getElem? (i := 154) (by decide +kernel)⟩
theorem lw_p7 : lw_okq (⟨"BagRows", "setHolder", "(II)V"⟩, 6) := ⟨⟨by decide +kernel, by decide +kernel⟩, List.mem_of_getElem? (i := 8) (by decide +kernel), List.mem_of_getElem? (i := 161) (by decide +kernel), List.mem_of_getElem? (i := 162) (by decide +kernel)⟩
theorem lw_p8 : lw_okq (⟨"BagRows", "takeOut", "(I)V"⟩, 6) := ⟨⟨by decide +kernel, by decide +kernel⟩, List.mem_of_getElem? (i := 8) (by decide +kernel), List.mem_of_getElem? (i := 169) (by decide +kernel), List.mem_of_getElem? (i := 170) (by decide +kernel)⟩
theorem lw_p9 : lw_okq (⟨"BagRows", "setOwnPlace", "(II)V"⟩, 6) := ⟨⟨by decide +kernel, by decide +kernel⟩, List.mem_of_getElem? (i := 8) (by decide +kernel), List.mem_of_getElem? (i := 173) (by decide +kernel), List.mem_of_getElem? (i := 174) (by decide +kernel)⟩
theorem lw_p10 : lw_okq (⟨"BagRows", "foundExtra", "(LBagRows$Receptacle;II)I"⟩, 6) := ⟨⟨by decide +kernel, by decide +kernel⟩, List.mem_of_getElem? (i := 8) (by decide +kernel), List.mem_of_getElem? (i := 245) (by decide +kernel), List.mem_of_getElem? (i := 246) (by decide +kernel)⟩
theorem lw_p11 : lw_okq (⟨"BagRows", "weightOf", "(I)J"⟩, 6) := ⟨⟨by decide +kernel, by decide +kernel⟩, List.mem_of_getElem? (i := 8) (by decide +kernel), List.mem_of_getElem? (i := 266) (by decide +kernel), List.mem_of_getElem? (i := 267) (by decide +kernel)⟩
theorem lw_p12 : lw_okq (⟨"BagRows", "isWithin", "(II)Z"⟩, 6) := ⟨⟨by decide +kernel, by decide +kernel⟩, List.mem_of_getElem? (i := 8) (by decide +kernel), List.mem_of_getElem? (i := 270) (by decide +kernel), List.mem_of_getElem? (i := 271) (by decide +kernel)⟩
theorem lw_p13 : lw_okq (⟨"BagRows", "thingsOf", "(I)I"⟩, 6) := ⟨⟨by decide +kernel, by decide +kernel⟩, List.mem_of_getElem? (i := 8) (by decide +kernel), List.mem_of_getElem? (i := 289) (by decide +kernel), List.mem_of_getElem? (i := 290) (by decide +kernel)⟩
theorem lw_p14 : lw_okq (⟨"BagRowsModel", "isBag", "(I)Z"⟩, 23) := ⟨⟨by decide +kernel, by decide +kernel⟩, List.mem_of_getElem? (i := 306) (by decide +kernel), List.mem_of_getElem? (i := 392) (by decide +kernel), List.mem_of_getElem? (i := 393) (by decide +kernel)⟩
theorem lw_p15 : lw_okq (⟨"BagRowsModel", "isThing", "(I)Z"⟩, 23) := ⟨⟨by decide +kernel, by decide +kernel⟩, List.mem_of_getElem? (i := 306) (by decide +kernel), List.mem_of_getElem? (i := 396) (by decide +kernel), List.mem_of_getElem? (i := 397) (by decide +kernel)⟩
def lw_privs_1 : List (MethodName × Nat) := [(⟨"BagRows", "receptacleOf", "(I)LBagRows$Receptacle;"⟩, 6), (⟨"BagRows", "isThing", "(I)Z"⟩, 6), (⟨"BagRows", "isShut", "(I)Z"⟩, 6), (⟨"BagRows", "holderOf", "(I)I"⟩, 6), (⟨"BagRows", "isLesser", "(ILBagRows$Receptacle;)Z"⟩, 6), (⟨"BagRows", "placeOf", "(I)I"⟩, 6), (⟨"BagRows", "putIn", "(LBagRows$Receptacle;II)V"⟩, 6), (⟨"BagRows", "setHolder", "(II)V"⟩, 6), (⟨"BagRows", "takeOut", "(I)V"⟩, 6), (⟨"BagRows", "setOwnPlace", "(II)V"⟩, 6), (⟨"BagRows", "foundExtra", "(LBagRows$Receptacle;II)I"⟩, 6), (⟨"BagRows", "weightOf", "(I)J"⟩, 6), (⟨"BagRows", "isWithin", "(II)Z"⟩, 6), (⟨"BagRows", "thingsOf", "(I)I"⟩, 6), (⟨"BagRowsModel", "isBag", "(I)Z"⟩, 23), (⟨"BagRowsModel", "isThing", "(I)Z"⟩, 23)]
theorem lw_r1 : ∀ q ∈ lw_privs_1, lw_okq q := List.forall_mem_cons.mpr ⟨lw_p0, List.forall_mem_cons.mpr ⟨lw_p1, List.forall_mem_cons.mpr ⟨lw_p2, List.forall_mem_cons.mpr ⟨lw_p3, List.forall_mem_cons.mpr ⟨lw_p4, List.forall_mem_cons.mpr ⟨lw_p5, List.forall_mem_cons.mpr ⟨lw_p6, List.forall_mem_cons.mpr ⟨lw_p7, List.forall_mem_cons.mpr ⟨lw_p8, List.forall_mem_cons.mpr ⟨lw_p9, List.forall_mem_cons.mpr ⟨lw_p10, List.forall_mem_cons.mpr ⟨lw_p11, List.forall_mem_cons.mpr ⟨lw_p12, List.forall_mem_cons.mpr ⟨lw_p13, List.forall_mem_cons.mpr ⟨lw_p14, List.forall_mem_cons.mpr ⟨lw_p15, fun _ h => absurd h List.not_mem_nil⟩⟩⟩⟩⟩⟩⟩⟩⟩⟩⟩⟩⟩⟩⟩⟩
theorem lw_p16 : lw_okq (⟨"BagRowsModel", "isShutIn", "(I)Z"⟩, 23) := ⟨⟨by decide +kernel, by decide +kernel⟩, List.mem_of_getElem? (i := 306) (by decide +kernel), List.mem_of_getElem? (i := 400) (by decide +kernel), List.mem_of_getElem? (i := 401) (by decide +kernel)⟩
theorem lw_p17 : lw_okq (⟨"BagRowsModel", "outer", "(I)I"⟩, 23) := ⟨⟨by decide +kernel, by decide +kernel⟩, List.mem_of_getElem? (i := 306) (by decide +kernel), List.mem_of_getElem? (i := 404) (by decide +kernel), List.mem_of_getElem? (i := 405) (by decide +kernel)⟩
theorem lw_p18 : lw_okq (⟨"BagRowsModel", "kindOf", "(I)I"⟩, 23) := ⟨⟨by decide +kernel, by decide +kernel⟩, List.mem_of_getElem? (i := 306) (by decide +kernel), List.mem_of_getElem? (i := 408) (by decide +kernel), List.mem_of_getElem? (i := 409) (by decide +kernel)⟩
theorem lw_p19 : lw_okq (⟨"BagRowsModel", "count", "(I)I"⟩, 23) := ⟨⟨by decide +kernel, by decide +kernel⟩, List.mem_of_getElem? (i := 306) (by decide +kernel), List.mem_of_getElem? (i := 412) (by decide +kernel), List.mem_of_getElem? (i := 413) (by decide +kernel)⟩
theorem lw_p20 : lw_okq (⟨"BagRowsModel", "put", "(II)V"⟩, 23) := ⟨⟨by decide +kernel, by decide +kernel⟩, List.mem_of_getElem? (i := 306) (by decide +kernel), List.mem_of_getElem? (i := 416) (by decide +kernel), List.mem_of_getElem? (i := 417) (by decide +kernel)⟩
theorem lw_p21 : lw_okq (⟨"BagRowsModel", "addNote", "()V"⟩, 23) := ⟨⟨by decide +kernel, by decide +kernel⟩, List.mem_of_getElem? (i := 306) (by decide +kernel), List.mem_of_getElem? (i := 433) (by decide +kernel), List.mem_of_getElem? (i := 434) (by decide +kernel)⟩
theorem lw_p22 : lw_okq (⟨"BagRowsModel", "liesIn", "(II)Z"⟩, 23) := ⟨⟨by decide +kernel, by decide +kernel⟩, List.mem_of_getElem? (i := 306) (by decide +kernel), List.mem_of_getElem? (i := 442) (by decide +kernel), List.mem_of_getElem? (i := 443) (by decide +kernel)⟩
theorem lw_p23 : lw_okq (⟨"BagRowsModel", "listPlace", "(II)I"⟩, 23) := ⟨⟨by decide +kernel, by decide +kernel⟩, List.mem_of_getElem? (i := 306) (by decide +kernel), List.mem_of_getElem? (i := 446) (by decide +kernel), List.mem_of_getElem? (i := 447) (by decide +kernel)⟩
theorem lw_p24 : lw_okq (⟨"BagRowsModel", "isExtra", "(II)Z"⟩, 23) := ⟨⟨by decide +kernel, by decide +kernel⟩, List.mem_of_getElem? (i := 306) (by decide +kernel), List.mem_of_getElem? (i := 450) (by decide +kernel), List.mem_of_getElem? (i := 451) (by decide +kernel)⟩
theorem lw_p25 : lw_okq (⟨"BagRowsModel", "bring", "(II)I"⟩, 23) := ⟨⟨by decide +kernel, by decide +kernel⟩, List.mem_of_getElem? (i := 306) (by decide +kernel), List.mem_of_getElem? (i := 454) (by decide +kernel), List.mem_of_getElem? (i := 455) (by decide +kernel)⟩
theorem lw_p26 : lw_okq (⟨"BagRowsModel", "difference", "(III)I"⟩, 23) := ⟨⟨by decide +kernel, by decide +kernel⟩, List.mem_of_getElem? (i := 306) (by decide +kernel), List.mem_of_getElem? (i := 462) (by decide +kernel), List.mem_of_getElem? (i := 463) (by decide +kernel)⟩
theorem lw_p27 : lw_okq (⟨"BagRowsModel", "pick", "(IIJ)I"⟩, 23) := ⟨⟨by decide +kernel, by decide +kernel⟩, List.mem_of_getElem? (i := 306) (by decide +kernel), List.mem_of_getElem? (i := 466) (by decide +kernel), List.mem_of_getElem? (i := 467) (by decide +kernel)⟩
theorem lw_p28 : lw_okq (⟨"BagRowsModel", "own", "(I)J"⟩, 23) := ⟨⟨by decide +kernel, by decide +kernel⟩, List.mem_of_getElem? (i := 306) (by decide +kernel), List.mem_of_getElem? (i := 478) (by decide +kernel), List.mem_of_getElem? (i := 479) (by decide +kernel)⟩
def lw_privs_2 : List (MethodName × Nat) := [(⟨"BagRowsModel", "isShutIn", "(I)Z"⟩, 23), (⟨"BagRowsModel", "outer", "(I)I"⟩, 23), (⟨"BagRowsModel", "kindOf", "(I)I"⟩, 23), (⟨"BagRowsModel", "count", "(I)I"⟩, 23), (⟨"BagRowsModel", "put", "(II)V"⟩, 23), (⟨"BagRowsModel", "addNote", "()V"⟩, 23), (⟨"BagRowsModel", "liesIn", "(II)Z"⟩, 23), (⟨"BagRowsModel", "listPlace", "(II)I"⟩, 23), (⟨"BagRowsModel", "isExtra", "(II)Z"⟩, 23), (⟨"BagRowsModel", "bring", "(II)I"⟩, 23), (⟨"BagRowsModel", "difference", "(III)I"⟩, 23), (⟨"BagRowsModel", "pick", "(IIJ)I"⟩, 23), (⟨"BagRowsModel", "own", "(I)J"⟩, 23)]
theorem lw_r2 : ∀ q ∈ lw_privs_2, lw_okq q := List.forall_mem_cons.mpr ⟨lw_p16, List.forall_mem_cons.mpr ⟨lw_p17, List.forall_mem_cons.mpr ⟨lw_p18, List.forall_mem_cons.mpr ⟨lw_p19, List.forall_mem_cons.mpr ⟨lw_p20, List.forall_mem_cons.mpr ⟨lw_p21, List.forall_mem_cons.mpr ⟨lw_p22, List.forall_mem_cons.mpr ⟨lw_p23, List.forall_mem_cons.mpr ⟨lw_p24, List.forall_mem_cons.mpr ⟨lw_p25, List.forall_mem_cons.mpr ⟨lw_p26, List.forall_mem_cons.mpr ⟨lw_p27, List.forall_mem_cons.mpr ⟨lw_p28, fun _ h => absurd h List.not_mem_nil⟩⟩⟩⟩⟩⟩⟩⟩⟩⟩⟩⟩⟩
def lw_privs : List (MethodName × Nat) := lw_privs_1 ++ (lw_privs_2)
def lw_tbl : List Cond := k2_sels lw_privs ++ tables_1
theorem lw_privs_ok : ∀ q ∈ lw_privs, lw_okq q := by
  show ∀ q ∈ lw_privs_1 ++ (lw_privs_2), lw_okq q
  exact List.forall_mem_append.mpr ⟨lw_r1, lw_r2⟩
-- ===== end of PART A; then your names; then what follows =====
def RX0 : String := "BagRows$Notes"
def TX0 : u_T := fun k => match k with
  | 0 => ("BagRows$Notes", "dueTimes", "[J", true)
  | 1 => ("BagRows$Notes", "count", "I", false)
  | _ => ("BagRows$Notes", "told", "I", false)
def tyX0 : Nat → FieldType := fun k => match k with
  | 0 => .array .long
  | 1 => .int
  | _ => .int
abbrev wsX00 : List Cond := u_ws RX0 TX0 3
theorem nmX0 : ∀ a, a < 3 → ∀ b, b < 3 → a ≠ b → (TX0 a).2.1 ≠ (TX0 b).2.1 := by decide +kernel
theorem tyX0_ok : ∀ k, k < 3 → parseFieldDescriptor (TX0 k).2.2.1 = some (tyX0 k) := by decide +kernel
abbrev cX0_init : ByteArray := prog_2_method_1_code
def yX0_init : MethodName := ⟨RX0, "<init>", "()V"⟩
abbrev cX0_add : ByteArray := prog_2_method_2_code
def yX0_add : MethodName := ⟨RX0, "add", "(J)V"⟩
abbrev cX0_tellUntil : ByteArray := prog_2_method_3_code
def yX0_tellUntil : MethodName := ⟨RX0, "tellUntil", "(J)I"⟩
def RX1 : String := "BagRows$Receptacle"
def TX1 : u_T := fun k => match k with
  | 0 => ("BagRows$Receptacle", "kind", "I", true)
  | 1 => ("BagRows$Receptacle", "closed", "Z", false)
  | 2 => ("BagRows$Receptacle", "everClosed", "Z", false)
  | 3 => ("BagRows$Receptacle", "seal", "J", false)
  | 4 => ("BagRows$Receptacle", "closer", "I", false)
  | 5 => ("BagRows$Receptacle", "content", "LBagRows$Row;", true)
  | 6 => ("BagRows$Receptacle", "list", "LBagRows$Row;", true)
  | 7 => ("BagRows$Receptacle", "wrongSeals", "LBagRows$Row;", true)
  | 8 => ("BagRows$Receptacle", "wrongWeighings", "LBagRows$Row;", true)
  | 9 => ("BagRows$Receptacle", "missing", "LBagRows$Row;", true)
  | _ => ("BagRows$Receptacle", "extras", "LBagRows$Row;", true)
def tyX1 : Nat → FieldType := fun k => match k with
  | 0 => .int
  | 1 => .boolean
  | 2 => .boolean
  | 3 => .long
  | 4 => .int
  | 5 => .object "BagRows$Row"
  | 6 => .object "BagRows$Row"
  | 7 => .object "BagRows$Row"
  | 8 => .object "BagRows$Row"
  | 9 => .object "BagRows$Row"
  | _ => .object "BagRows$Row"
abbrev wsX10 : List Cond := u_ws RX1 TX1 11
theorem nmX1 : ∀ a, a < 11 → ∀ b, b < 11 → a ≠ b → (TX1 a).2.1 ≠ (TX1 b).2.1 := by decide +kernel
theorem tyX1_ok : ∀ k, k < 11 → parseFieldDescriptor (TX1 k).2.2.1 = some (tyX1 k) := by decide +kernel
abbrev cX1_init : ByteArray := prog_3_method_1_code
def yX1_init : MethodName := ⟨RX1, "<init>", "(I)V"⟩
abbrev cX1_shut : ByteArray := prog_3_method_2_code
def yX1_shut : MethodName := ⟨RX1, "shut", "(JI)V"⟩
abbrev cX1_mayBeOpenedBy : ByteArray := prog_3_method_3_code
def yX1_mayBeOpenedBy : MethodName := ⟨RX1, "mayBeOpenedBy", "(II)Z"⟩
abbrev cX1_unseal : ByteArray := prog_3_method_4_code
def yX1_unseal : MethodName := ⟨RX1, "unseal", "(J)Z"⟩
abbrev cX1_isChecked : ByteArray := prog_3_method_5_code
def yX1_isChecked : MethodName := ⟨RX1, "isChecked", "()Z"⟩
abbrev cX1_differencesOf : ByteArray := prog_3_method_6_code
def yX1_differencesOf : MethodName := ⟨RX1, "differencesOf", "(I)LBagRows$Row;"⟩
def RX2 : String := "BagRows$Row"
def TX2 : u_T := fun k => match k with
  | 0 => ("BagRows$Row", "numbers", "[I", true)
  | _ => ("BagRows$Row", "size", "I", false)
def tyX2 : Nat → FieldType := fun k => match k with
  | 0 => .array .int
  | _ => .int
abbrev wsX20 : List Cond := u_ws RX2 TX2 2
theorem nmX2 : ∀ a, a < 2 → ∀ b, b < 2 → a ≠ b → (TX2 a).2.1 ≠ (TX2 b).2.1 := by decide +kernel
theorem tyX2_ok : ∀ k, k < 2 → parseFieldDescriptor (TX2 k).2.2.1 = some (tyX2 k) := by decide +kernel
abbrev cX2_init : ByteArray := prog_4_method_1_code
def yX2_init : MethodName := ⟨RX2, "<init>", "(I)V"⟩
abbrev cX2_size : ByteArray := prog_4_method_2_code
def yX2_size : MethodName := ⟨RX2, "size", "()I"⟩
abbrev cX2_isFull : ByteArray := prog_4_method_3_code
def yX2_isFull : MethodName := ⟨RX2, "isFull", "()Z"⟩
abbrev cX2_at : ByteArray := prog_4_method_4_code
def yX2_at : MethodName := ⟨RX2, "at", "(I)I"⟩
abbrev cX2_holds : ByteArray := prog_4_method_5_code
def yX2_holds : MethodName := ⟨RX2, "holds", "(I)Z"⟩
abbrev cX2_append : ByteArray := prog_4_method_6_code
def yX2_append : MethodName := ⟨RX2, "append", "(I)V"⟩
abbrev cX2_remove : ByteArray := prog_4_method_7_code
def yX2_remove : MethodName := ⟨RX2, "remove", "(I)V"⟩
abbrev cX2_clear : ByteArray := prog_4_method_8_code
def yX2_clear : MethodName := ⟨RX2, "clear", "()V"⟩
abbrev cX2_becomeLike : ByteArray := prog_4_method_9_code
def yX2_becomeLike : MethodName := ⟨RX2, "becomeLike", "(LBagRows$Row;)V"⟩
def RX3 : String := "BagRows"
def TX3 : u_T := fun k => match k with
  | 0 => ("BagRows", "receptacles", "[LBagRows$Receptacle;", true)
  | 1 => ("BagRows", "receptacleCount", "I", false)
  | 2 => ("BagRows", "holders", "[I", true)
  | 3 => ("BagRows", "ownPlaces", "[I", true)
  | 4 => ("BagRows", "notes", "LBagRows$Notes;", true)
  | _ => ("BagRows", "time", "J", false)
def tyX3 : Nat → FieldType := fun k => match k with
  | 0 => .array (.object "BagRows$Receptacle")
  | 1 => .int
  | 2 => .array .int
  | 3 => .array .int
  | 4 => .object "BagRows$Notes"
  | _ => .long
abbrev wsX30 : List Cond := u_ws RX3 TX3 6
theorem nmX3 : ∀ a, a < 6 → ∀ b, b < 6 → a ≠ b → (TX3 a).2.1 ≠ (TX3 b).2.1 := by decide +kernel
theorem tyX3_ok : ∀ k, k < 6 → parseFieldDescriptor (TX3 k).2.2.1 = some (tyX3 k) := by decide +kernel
abbrev cX3_init : ByteArray := prog_1_method_1_code
def yX3_init : MethodName := ⟨RX3, "<init>", "()V"⟩
abbrev cX3_bag : ByteArray := prog_1_method_2_code
def yX3_bag : MethodName := ⟨RX3, "bag", "(I)I"⟩
abbrev cX3_into : ByteArray := prog_1_method_3_code
def yX3_into : MethodName := ⟨RX3, "into", "(II)I"⟩
abbrev cX3_take : ByteArray := prog_1_method_4_code
def yX3_take : MethodName := ⟨RX3, "take", "(I)I"⟩
abbrev cX3_close : ByteArray := prog_1_method_5_code
def yX3_close : MethodName := ⟨RX3, "close", "(IJI)I"⟩
abbrev cX3_open : ByteArray := prog_1_method_6_code
def yX3_open : MethodName := ⟨RX3, "open", "(IJII)I"⟩
abbrev cX3_found : ByteArray := prog_1_method_7_code
def yX3_found : MethodName := ⟨RX3, "found", "(II)I"⟩
abbrev cX3_differ : ByteArray := prog_1_method_8_code
def yX3_differ : MethodName := ⟨RX3, "differ", "(III)I"⟩
abbrev cX3_inside : ByteArray := prog_1_method_9_code
def yX3_inside : MethodName := ⟨RX3, "inside", "(I)I"⟩
abbrev cX3_weight : ByteArray := prog_1_method_10_code
def yX3_weight : MethodName := ⟨RX3, "weight", "(IJ)I"⟩
abbrev cX3_document : ByteArray := prog_1_method_11_code
def yX3_document : MethodName := ⟨RX3, "document", "(II)I"⟩
abbrev cX3_move : ByteArray := prog_1_method_12_code
def yX3_move : MethodName := ⟨RX3, "move", "(II)I"⟩
abbrev cX3_place : ByteArray := prog_1_method_13_code
def yX3_place : MethodName := ⟨RX3, "place", "(I)I"⟩
abbrev cX3_tick : ByteArray := prog_1_method_14_code
def yX3_tick : MethodName := ⟨RX3, "tick", "(J)I"⟩
abbrev cX3_isSeal : ByteArray := prog_1_method_15_code
def yX3_isSeal : MethodName := ⟨RX3, "isSeal", "(J)Z"⟩
abbrev cX3_isPerson : ByteArray := prog_1_method_16_code
def yX3_isPerson : MethodName := ⟨RX3, "isPerson", "(I)Z"⟩
abbrev cX3_isItem : ByteArray := prog_1_method_17_code
def yX3_isItem : MethodName := ⟨RX3, "isItem", "(I)Z"⟩
abbrev cX3_isThing : ByteArray := prog_1_method_18_code
def yX3_isThing : MethodName := ⟨RX3, "isThing", "(I)Z"⟩
abbrev cX3_receptacleOf : ByteArray := prog_1_method_19_code
def yX3_receptacleOf : MethodName := ⟨RX3, "receptacleOf", "(I)LBagRows$Receptacle;"⟩
abbrev cX3_holderOf : ByteArray := prog_1_method_20_code
def yX3_holderOf : MethodName := ⟨RX3, "holderOf", "(I)I"⟩
abbrev cX3_setHolder : ByteArray := prog_1_method_21_code
def yX3_setHolder : MethodName := ⟨RX3, "setHolder", "(II)V"⟩
abbrev cX3_setOwnPlace : ByteArray := prog_1_method_22_code
def yX3_setOwnPlace : MethodName := ⟨RX3, "setOwnPlace", "(II)V"⟩
abbrev cX3_placeOf : ByteArray := prog_1_method_23_code
def yX3_placeOf : MethodName := ⟨RX3, "placeOf", "(I)I"⟩
abbrev cX3_isShut : ByteArray := prog_1_method_24_code
def yX3_isShut : MethodName := ⟨RX3, "isShut", "(I)Z"⟩
abbrev cX3_isWithin : ByteArray := prog_1_method_25_code
def yX3_isWithin : MethodName := ⟨RX3, "isWithin", "(II)Z"⟩
abbrev cX3_isLesser : ByteArray := prog_1_method_26_code
def yX3_isLesser : MethodName := ⟨RX3, "isLesser", "(ILBagRows$Receptacle;)Z"⟩
abbrev cX3_putIn : ByteArray := prog_1_method_27_code
def yX3_putIn : MethodName := ⟨RX3, "putIn", "(LBagRows$Receptacle;II)V"⟩
abbrev cX3_takeOut : ByteArray := prog_1_method_28_code
def yX3_takeOut : MethodName := ⟨RX3, "takeOut", "(I)V"⟩
abbrev cX3_foundExtra : ByteArray := prog_1_method_29_code
def yX3_foundExtra : MethodName := ⟨RX3, "foundExtra", "(LBagRows$Receptacle;II)I"⟩
abbrev cX3_weightOf : ByteArray := prog_1_method_30_code
def yX3_weightOf : MethodName := ⟨RX3, "weightOf", "(I)J"⟩
abbrev cX3_weightOfItems : ByteArray := prog_1_method_31_code
def yX3_weightOfItems : MethodName := ⟨RX3, "weightOfItems", "(LBagRows$Row;)J"⟩
abbrev cX3_thingsOf : ByteArray := prog_1_method_32_code
def yX3_thingsOf : MethodName := ⟨RX3, "thingsOf", "(I)I"⟩
def RX4 : String := "BagRowsModel"
def TX4 : u_T := fun k => match k with
  | 0 => ("BagRowsModel", "thrown", "I", false)
  | 1 => ("BagRowsModel", "in", "[I", true)
  | 2 => ("BagRowsModel", "since", "[I", true)
  | 3 => ("BagRowsModel", "place", "[I", true)
  | 4 => ("BagRowsModel", "turns", "I", false)
  | 5 => ("BagRowsModel", "bags", "I", false)
  | 6 => ("BagRowsModel", "kind", "[I", true)
  | 7 => ("BagRowsModel", "closed", "[Z", true)
  | 8 => ("BagRowsModel", "opened", "[Z", true)
  | 9 => ("BagRowsModel", "seal", "[J", true)
  | 10 => ("BagRowsModel", "closer", "[I", true)
  | 11 => ("BagRowsModel", "read", "[J", true)
  | 12 => ("BagRowsModel", "listed", "[I", true)
  | 13 => ("BagRowsModel", "list", "[I", true)
  | 14 => ("BagRowsModel", "seen", "[Z", true)
  | 15 => ("BagRowsModel", "extras", "[I", true)
  | 16 => ("BagRowsModel", "extra", "[I", true)
  | 17 => ("BagRowsModel", "weighed", "[I", true)
  | 18 => ("BagRowsModel", "weighing", "[J", true)
  | 19 => ("BagRowsModel", "now", "J", false)
  | 20 => ("BagRowsModel", "toldUntil", "J", false)
  | 21 => ("BagRowsModel", "notes", "I", false)
  | _ => ("BagRowsModel", "due", "[J", true)
def tyX4 : Nat → FieldType := fun k => match k with
  | 0 => .int
  | 1 => .array .int
  | 2 => .array .int
  | 3 => .array .int
  | 4 => .int
  | 5 => .int
  | 6 => .array .int
  | 7 => .array .boolean
  | 8 => .array .boolean
  | 9 => .array .long
  | 10 => .array .int
  | 11 => .array .long
  | 12 => .array .int
  | 13 => .array .int
  | 14 => .array .boolean
  | 15 => .array .int
  | 16 => .array .int
  | 17 => .array .int
  | 18 => .array .long
  | 19 => .long
  | 20 => .long
  | 21 => .int
  | _ => .array .long
abbrev wsX40 : List Cond := u_ws RX4 TX4 23
theorem nmX4 : ∀ a, a < 23 → ∀ b, b < 23 → a ≠ b → (TX4 a).2.1 ≠ (TX4 b).2.1 := by decide +kernel
theorem tyX4_ok : ∀ k, k < 23 → parseFieldDescriptor (TX4 k).2.2.1 = some (tyX4 k) := by decide +kernel
abbrev cX4_init : ByteArray := prog_6_method_1_code
def yX4_init : MethodName := ⟨RX4, "<init>", "()V"⟩
abbrev cX4_isBag : ByteArray := prog_6_method_3_code
def yX4_isBag : MethodName := ⟨RX4, "isBag", "(I)Z"⟩
abbrev cX4_isThing : ByteArray := prog_6_method_4_code
def yX4_isThing : MethodName := ⟨RX4, "isThing", "(I)Z"⟩
abbrev cX4_kindOf : ByteArray := prog_6_method_5_code
def yX4_kindOf : MethodName := ⟨RX4, "kindOf", "(I)I"⟩
abbrev cX4_outer : ByteArray := prog_6_method_6_code
def yX4_outer : MethodName := ⟨RX4, "outer", "(I)I"⟩
abbrev cX4_liesIn : ByteArray := prog_6_method_7_code
def yX4_liesIn : MethodName := ⟨RX4, "liesIn", "(II)Z"⟩
abbrev cX4_isShutIn : ByteArray := prog_6_method_8_code
def yX4_isShutIn : MethodName := ⟨RX4, "isShutIn", "(I)Z"⟩
abbrev cX4_count : ByteArray := prog_6_method_9_code
def yX4_count : MethodName := ⟨RX4, "count", "(I)I"⟩
abbrev cX4_put : ByteArray := prog_6_method_10_code
def yX4_put : MethodName := ⟨RX4, "put", "(II)V"⟩
abbrev cX4_addNote : ByteArray := prog_6_method_11_code
def yX4_addNote : MethodName := ⟨RX4, "addNote", "()V"⟩
abbrev cX4_bag : ByteArray := prog_6_method_12_code
def yX4_bag : MethodName := ⟨RX4, "bag", "(I)I"⟩
abbrev cX4_into : ByteArray := prog_6_method_13_code
def yX4_into : MethodName := ⟨RX4, "into", "(II)I"⟩
abbrev cX4_take : ByteArray := prog_6_method_14_code
def yX4_take : MethodName := ⟨RX4, "take", "(I)I"⟩
abbrev cX4_close : ByteArray := prog_6_method_15_code
def yX4_close : MethodName := ⟨RX4, "close", "(IJI)I"⟩
abbrev cX4_open : ByteArray := prog_6_method_16_code
def yX4_open : MethodName := ⟨RX4, "open", "(IJII)I"⟩
abbrev cX4_listPlace : ByteArray := prog_6_method_17_code
def yX4_listPlace : MethodName := ⟨RX4, "listPlace", "(II)I"⟩
abbrev cX4_isExtra : ByteArray := prog_6_method_18_code
def yX4_isExtra : MethodName := ⟨RX4, "isExtra", "(II)Z"⟩
abbrev cX4_bring : ByteArray := prog_6_method_19_code
def yX4_bring : MethodName := ⟨RX4, "bring", "(II)I"⟩
abbrev cX4_found : ByteArray := prog_6_method_20_code
def yX4_found : MethodName := ⟨RX4, "found", "(II)I"⟩
abbrev cX4_pick : ByteArray := prog_6_method_21_code
def yX4_pick : MethodName := ⟨RX4, "pick", "(IIJ)I"⟩
abbrev cX4_difference : ByteArray := prog_6_method_22_code
def yX4_difference : MethodName := ⟨RX4, "difference", "(III)I"⟩
abbrev cX4_differ : ByteArray := prog_6_method_23_code
def yX4_differ : MethodName := ⟨RX4, "differ", "(III)I"⟩
abbrev cX4_inside : ByteArray := prog_6_method_24_code
def yX4_inside : MethodName := ⟨RX4, "inside", "(I)I"⟩
abbrev cX4_own : ByteArray := prog_6_method_25_code
def yX4_own : MethodName := ⟨RX4, "own", "(I)J"⟩
abbrev cX4_weight : ByteArray := prog_6_method_26_code
def yX4_weight : MethodName := ⟨RX4, "weight", "(IJ)I"⟩
abbrev cX4_document : ByteArray := prog_6_method_27_code
def yX4_document : MethodName := ⟨RX4, "document", "(II)I"⟩
abbrev cX4_move : ByteArray := prog_6_method_28_code
def yX4_move : MethodName := ⟨RX4, "move", "(II)I"⟩
abbrev cX4_place : ByteArray := prog_6_method_29_code
def yX4_place : MethodName := ⟨RX4, "place", "(I)I"⟩
abbrev cX4_tick : ByteArray := prog_6_method_30_code
def yX4_tick : MethodName := ⟨RX4, "tick", "(J)I"⟩
def RJ9 : String := "java/lang/Math"
abbrev cJ9_abs_067f4 : ByteArray := prog_7_method_61_code
def yJ9_abs_067f4 : MethodName := ⟨RJ9, "abs", "(J)J"⟩
def RL : String := "BagRowsLaw"
abbrev cL_law : ByteArray := code
def yL_law : MethodName := ⟨RL, "law", "([I)Z"⟩
abbrev vwCl : List vw_C := [(RX0, TX0, 3), (RX1, TX1, 11), (RX2, TX2, 2), (RX3, TX3, 6), (RX4, TX4, 23)]
/-- the words of every method: its own code first, then all that the tables say -/
def lw_g : List Cond := lw_tbl.filter goodWord
def wA (y : MethodName) (cc : ByteArray) (maxL : Nat) (ret : Option FieldType) : List Cond := .code y cc maxL ret :: lw_g
theorem qa0 {w : Cond} (i : Nat) (h : (k2_sels lw_privs)[i]? = some w) (g : goodWord w = true) : w ∈ lw_g := List.mem_filter.mpr ⟨List.mem_append_left _ (List.mem_of_getElem? h), g⟩
theorem qa1 {w : Cond} (i : Nat) (h : tables_1_1[i]? = some w) (g : goodWord w = true) : w ∈ lw_g := List.mem_filter.mpr ⟨List.mem_append_right _ (List.mem_append_left _ (List.mem_of_getElem? h)), g⟩
theorem qa2 {w : Cond} (i : Nat) (h : tables_1_2[i]? = some w) (g : goodWord w = true) : w ∈ lw_g := List.mem_filter.mpr ⟨List.mem_append_right _ (List.mem_append_right _ (List.mem_append_left _ (List.mem_of_getElem? h))), g⟩
theorem qa3 {w : Cond} (i : Nat) (h : tables_1_3[i]? = some w) (g : goodWord w = true) : w ∈ lw_g := List.mem_filter.mpr ⟨List.mem_append_right _ (List.mem_append_right _ (List.mem_append_right _ (List.mem_of_getElem? h))), g⟩
theorem q_ao : (Cond.arrayOver (.object RX1)) ∈ lw_tbl := List.mem_append_right _ (List.mem_append_left _ (List.mem_of_getElem? (i := 16) (by decide +kernel)))
theorem q_ini_RL : (Cond.initialized RL) ∈ lw_g := qa1 0 (by decide +kernel) rfl
theorem q_ini_RX3 : (Cond.initialized RX3) ∈ lw_g := qa1 1 (by decide +kernel) rfl
theorem q_ini_RX0 : (Cond.initialized RX0) ∈ lw_g := qa1 2 (by decide +kernel) rfl
theorem q_ini_RX4 : (Cond.initialized RX4) ∈ lw_g := qa1 3 (by decide +kernel) rfl
theorem q_ini_RX1 : (Cond.initialized RX1) ∈ lw_g := qa1 4 (by decide +kernel) rfl
theorem q_ini_RX2 : (Cond.initialized RX2) ∈ lw_g := qa1 5 (by decide +kernel) rfl
theorem q_ini_RJ9 : (Cond.initialized RJ9) ∈ lw_g := qa1 6 (by decide +kernel) rfl
theorem q_cl_RL_7 : (Cond.classLink RL 7 RX3) ∈ lw_g := qa1 7 (by decide +kernel) rfl
theorem q_in_RX3 : (Cond.instantiable RX3 6) ∈ lw_g := qa1 8 (by decide +kernel) rfl
theorem q_ml_RL_9 : (Cond.methodLink RL 9 yX3_init) ∈ lw_g := qa1 9 (by decide +kernel) rfl
theorem q_im_yX3_init : (Cond.instanceMethod yX3_init) ∈ lw_g := qa1 10 (by decide +kernel) rfl
theorem q_co_yX3_init : (Cond.code yX3_init cX3_init 1 none) ∈ lw_g := qa1 11 (by decide +kernel) rfl
theorem q_ml_RX3_3 : (Cond.methodLink RX3 3 objectInit) ∈ lw_g := qa1 12 (by decide +kernel) rfl
theorem q_im_objectInit : (Cond.instanceMethod objectInit) ∈ lw_g := qa1 13 (by decide +kernel) rfl
theorem q_co_objectInit : (Cond.code objectInit ⟨#[0xb1]⟩ 1 none) ∈ lw_g := qa1 14 (by decide +kernel) rfl
theorem q_cl_RX3_9 : (Cond.classLink RX3 9 RX1) ∈ lw_g := qa1 15 (by decide +kernel) rfl
theorem q_cl_RX3_22 : (Cond.classLink RX3 22 RX0) ∈ lw_g := qa1 17 (by decide +kernel) rfl
theorem q_in_RX0 : (Cond.instantiable RX0 3) ∈ lw_g := qa1 18 (by decide +kernel) rfl
theorem q_ml_RX3_24 : (Cond.methodLink RX3 24 yX0_init) ∈ lw_g := qa1 19 (by decide +kernel) rfl
theorem q_im_yX0_init : (Cond.instanceMethod yX0_init) ∈ lw_g := qa1 20 (by decide +kernel) rfl
theorem q_co_yX0_init : (Cond.code yX0_init cX0_init 1 none) ∈ lw_g := qa1 21 (by decide +kernel) rfl
theorem q_ml_RX0_3 : (Cond.methodLink RX0 3 objectInit) ∈ lw_g := qa1 22 (by decide +kernel) rfl
theorem q_fl_RX0_9 : (Cond.fieldLink RX0 9 "BagRows$Notes" "dueTimes" "[J") ∈ lw_g := qa1 23 (by decide +kernel) rfl
theorem q_fl_RX0_15 : (Cond.fieldLink RX0 15 "BagRows$Notes" "count" "I") ∈ lw_g := qa1 24 (by decide +kernel) rfl
theorem q_fl_RX0_19 : (Cond.fieldLink RX0 19 "BagRows$Notes" "told" "I") ∈ lw_g := qa1 25 (by decide +kernel) rfl
theorem q_ac_int : (Cond.arrayClass .int) ∈ lw_g := qa1 33 (by decide +kernel) rfl
theorem q_ac_long : (Cond.arrayClass .long) ∈ lw_g := qa1 34 (by decide +kernel) rfl
theorem q_fl_RX3_11 : (Cond.fieldLink RX3 11 "BagRows" "receptacles" "[LBagRows$Receptacle;") ∈ lw_g := qa1 35 (by decide +kernel) rfl
theorem q_fl_RX3_29 : (Cond.fieldLink RX3 29 "BagRows" "receptacleCount" "I") ∈ lw_g := qa1 36 (by decide +kernel) rfl
theorem q_fl_RX3_15 : (Cond.fieldLink RX3 15 "BagRows" "holders" "[I") ∈ lw_g := qa1 37 (by decide +kernel) rfl
theorem q_fl_RX3_19 : (Cond.fieldLink RX3 19 "BagRows" "ownPlaces" "[I") ∈ lw_g := qa1 38 (by decide +kernel) rfl
theorem q_fl_RX3_25 : (Cond.fieldLink RX3 25 "BagRows" "notes" "LBagRows$Notes;") ∈ lw_g := qa1 39 (by decide +kernel) rfl
theorem q_fl_RX3_104 : (Cond.fieldLink RX3 104 "BagRows" "time" "J") ∈ lw_g := qa1 40 (by decide +kernel) rfl
theorem q_ml_RL_13 : (Cond.methodLink RL 13 yX3_bag) ∈ lw_g := qa1 54 (by decide +kernel) rfl
theorem q_im_yX3_bag : (Cond.instanceMethod yX3_bag) ∈ lw_g := qa1 55 (by decide +kernel) rfl
theorem q_se_yX3_bag : (Cond.selects RX3 yX3_bag yX3_bag) ∈ lw_g := qa1 56 (by decide +kernel) rfl
theorem q_co_yX3_bag : (Cond.code yX3_bag cX3_bag 3 (some .int)) ∈ lw_g := qa1 57 (by decide +kernel) rfl
theorem q_in_RX1 : (Cond.instantiable RX1 11) ∈ lw_g := qa1 58 (by decide +kernel) rfl
theorem q_ml_RX3_33 : (Cond.methodLink RX3 33 yX1_init) ∈ lw_g := qa1 59 (by decide +kernel) rfl
theorem q_im_yX1_init : (Cond.instanceMethod yX1_init) ∈ lw_g := qa1 60 (by decide +kernel) rfl
theorem q_co_yX1_init : (Cond.code yX1_init cX1_init 2 none) ∈ lw_g := qa1 61 (by decide +kernel) rfl
theorem q_ml_RX1_3 : (Cond.methodLink RX1 3 objectInit) ∈ lw_g := qa1 62 (by decide +kernel) rfl
theorem q_cl_RX1_15 : (Cond.classLink RX1 15 RX2) ∈ lw_g := qa1 63 (by decide +kernel) rfl
theorem q_in_RX2 : (Cond.instantiable RX2 2) ∈ lw_g := qa1 64 (by decide +kernel) rfl
theorem q_ml_RX1_17 : (Cond.methodLink RX1 17 yX2_init) ∈ lw_g := qa1 65 (by decide +kernel) rfl
theorem q_im_yX2_init : (Cond.instanceMethod yX2_init) ∈ lw_g := qa1 66 (by decide +kernel) rfl
theorem q_co_yX2_init : (Cond.code yX2_init cX2_init 2 none) ∈ lw_g := qa1 67 (by decide +kernel) rfl
theorem q_ml_RX2_1 : (Cond.methodLink RX2 1 objectInit) ∈ lw_g := qa1 68 (by decide +kernel) rfl
theorem q_fl_RX2_7 : (Cond.fieldLink RX2 7 "BagRows$Row" "numbers" "[I") ∈ lw_g := qa1 69 (by decide +kernel) rfl
theorem q_fl_RX2_13 : (Cond.fieldLink RX2 13 "BagRows$Row" "size" "I") ∈ lw_g := qa1 70 (by decide +kernel) rfl
theorem q_fl_RX1_9 : (Cond.fieldLink RX1 9 "BagRows$Receptacle" "kind" "I") ∈ lw_g := qa1 76 (by decide +kernel) rfl
theorem q_fl_RX3_176 : (Cond.fieldLink RX3 176 "BagRows$Receptacle" "kind" "I") ∈ lw_g := qa1 77 (by decide +kernel) rfl
theorem q_fl_RX1_39 : (Cond.fieldLink RX1 39 "BagRows$Receptacle" "closed" "Z") ∈ lw_g := qa1 78 (by decide +kernel) rfl
theorem q_fl_RX3_93 : (Cond.fieldLink RX3 93 "BagRows$Receptacle" "closed" "Z") ∈ lw_g := qa1 79 (by decide +kernel) rfl
theorem q_fl_RX1_43 : (Cond.fieldLink RX1 43 "BagRows$Receptacle" "everClosed" "Z") ∈ lw_g := qa1 80 (by decide +kernel) rfl
theorem q_fl_RX1_46 : (Cond.fieldLink RX1 46 "BagRows$Receptacle" "seal" "J") ∈ lw_g := qa1 81 (by decide +kernel) rfl
theorem q_fl_RX1_50 : (Cond.fieldLink RX1 50 "BagRows$Receptacle" "closer" "I") ∈ lw_g := qa1 82 (by decide +kernel) rfl
theorem q_fl_RX1_20 : (Cond.fieldLink RX1 20 "BagRows$Receptacle" "content" "LBagRows$Row;") ∈ lw_g := qa1 83 (by decide +kernel) rfl
theorem q_fl_RX3_58 : (Cond.fieldLink RX3 58 "BagRows$Receptacle" "content" "LBagRows$Row;") ∈ lw_g := qa1 84 (by decide +kernel) rfl
theorem q_fl_RX1_24 : (Cond.fieldLink RX1 24 "BagRows$Receptacle" "list" "LBagRows$Row;") ∈ lw_g := qa1 85 (by decide +kernel) rfl
theorem q_fl_RX3_86 : (Cond.fieldLink RX3 86 "BagRows$Receptacle" "list" "LBagRows$Row;") ∈ lw_g := qa1 86 (by decide +kernel) rfl
theorem q_fl_RX1_27 : (Cond.fieldLink RX1 27 "BagRows$Receptacle" "wrongSeals" "LBagRows$Row;") ∈ lw_g := qa1 87 (by decide +kernel) rfl
theorem q_fl_RX1_30 : (Cond.fieldLink RX1 30 "BagRows$Receptacle" "wrongWeighings" "LBagRows$Row;") ∈ lw_g := qa1 88 (by decide +kernel) rfl
theorem q_fl_RX3_154 : (Cond.fieldLink RX3 154 "BagRows$Receptacle" "wrongWeighings" "LBagRows$Row;") ∈ lw_g := qa1 89 (by decide +kernel) rfl
theorem q_fl_RX1_33 : (Cond.fieldLink RX1 33 "BagRows$Receptacle" "missing" "LBagRows$Row;") ∈ lw_g := qa1 90 (by decide +kernel) rfl
theorem q_fl_RX3_120 : (Cond.fieldLink RX3 120 "BagRows$Receptacle" "missing" "LBagRows$Row;") ∈ lw_g := qa1 91 (by decide +kernel) rfl
theorem q_fl_RX1_36 : (Cond.fieldLink RX1 36 "BagRows$Receptacle" "extras" "LBagRows$Row;") ∈ lw_g := qa1 92 (by decide +kernel) rfl
theorem q_fl_RX3_126 : (Cond.fieldLink RX3 126 "BagRows$Receptacle" "extras" "LBagRows$Row;") ∈ lw_g := qa1 93 (by decide +kernel) rfl
theorem q_ml_RL_18 : (Cond.methodLink RL 18 yX3_into) ∈ lw_g := qa1 117 (by decide +kernel) rfl
theorem q_im_yX3_into : (Cond.instanceMethod yX3_into) ∈ lw_g := qa1 118 (by decide +kernel) rfl
theorem q_se_yX3_into : (Cond.selects RX3 yX3_into yX3_into) ∈ lw_g := qa1 119 (by decide +kernel) rfl
theorem q_co_yX3_into : (Cond.code yX3_into cX3_into 4 (some .int)) ∈ lw_g := qa1 120 (by decide +kernel) rfl
theorem q_ml_RX3_36 : (Cond.methodLink RX3 36 yX3_receptacleOf) ∈ lw_g := qa1 121 (by decide +kernel) rfl
theorem q_im_yX3_receptacleOf : (Cond.instanceMethod yX3_receptacleOf) ∈ lw_g := qa1 123 (by decide +kernel) rfl
theorem q_co_yX3_receptacleOf : (Cond.code yX3_receptacleOf cX3_receptacleOf 3 (some (.object "BagRows$Receptacle"))) ∈ lw_g := qa1 124 (by decide +kernel) rfl
theorem q_ml_RX3_40 : (Cond.methodLink RX3 40 yX3_isThing) ∈ lw_g := qa1 125 (by decide +kernel) rfl
theorem q_im_yX3_isThing : (Cond.instanceMethod yX3_isThing) ∈ lw_g := qa1 127 (by decide +kernel) rfl
theorem q_co_yX3_isThing : (Cond.code yX3_isThing cX3_isThing 2 (some .boolean)) ∈ lw_g := qa1 128 (by decide +kernel) rfl
theorem q_ml_RX3_173 : (Cond.methodLink RX3 173 yX3_isItem) ∈ lw_g := qa1 129 (by decide +kernel) rfl
theorem q_st_yX3_isItem : (Cond.static yX3_isItem) ∈ lw_g := qa1 130 (by decide +kernel) rfl
theorem q_co_yX3_isItem : (Cond.code yX3_isItem cX3_isItem 1 (some .boolean)) ∈ lw_g := qa1 131 (by decide +kernel) rfl
theorem q_ml_RX3_44 : (Cond.methodLink RX3 44 yX3_isShut) ∈ lw_g := qa1 132 (by decide +kernel) rfl
theorem q_im_yX3_isShut : (Cond.instanceMethod yX3_isShut) ∈ lw_g := qa1 134 (by decide +kernel) rfl
theorem q_co_yX3_isShut : (Cond.code yX3_isShut cX3_isShut 5 (some .boolean)) ∈ lw_g := qa1 135 (by decide +kernel) rfl
theorem q_ml_RX3_47 : (Cond.methodLink RX3 47 yX3_holderOf) ∈ lw_g := qa1 136 (by decide +kernel) rfl
theorem q_im_yX3_holderOf : (Cond.instanceMethod yX3_holderOf) ∈ lw_g := qa1 138 (by decide +kernel) rfl
theorem q_co_yX3_holderOf : (Cond.code yX3_holderOf cX3_holderOf 2 (some .int)) ∈ lw_g := qa1 139 (by decide +kernel) rfl
theorem q_ml_RX3_51 : (Cond.methodLink RX3 51 yX3_isLesser) ∈ lw_g := qa1 140 (by decide +kernel) rfl
theorem q_im_yX3_isLesser : (Cond.instanceMethod yX3_isLesser) ∈ lw_g := qa1 142 (by decide +kernel) rfl
theorem q_co_yX3_isLesser : (Cond.code yX3_isLesser cX3_isLesser 5 (some .boolean)) ∈ lw_g := qa1 143 (by decide +kernel) rfl
theorem q_ml_RX3_55 : (Cond.methodLink RX3 55 yX3_placeOf) ∈ lw_g := qa1 144 (by decide +kernel) rfl
theorem q_im_yX3_placeOf : (Cond.instanceMethod yX3_placeOf) ∈ lw_g := qa1 146 (by decide +kernel) rfl
theorem q_co_yX3_placeOf : (Cond.code yX3_placeOf cX3_placeOf 4 (some .int)) ∈ lw_g := qa1 147 (by decide +kernel) rfl
theorem q_ml_RX3_62 : (Cond.methodLink RX3 62 yX2_isFull) ∈ lw_g := qa1 148 (by decide +kernel) rfl
theorem q_im_yX2_isFull : (Cond.instanceMethod yX2_isFull) ∈ lw_g := qa1 149 (by decide +kernel) rfl
theorem q_se_yX2_isFull : (Cond.selects RX2 yX2_isFull yX2_isFull) ∈ lw_g := qa1 150 (by decide +kernel) rfl
theorem q_co_yX2_isFull : (Cond.code yX2_isFull cX2_isFull 1 (some .boolean)) ∈ lw_g := qa1 151 (by decide +kernel) rfl
theorem q_ml_RX3_68 : (Cond.methodLink RX3 68 yX3_putIn) ∈ lw_g := qa1 152 (by decide +kernel) rfl
theorem q_im_yX3_putIn : (Cond.instanceMethod yX3_putIn) ∈ lw_g := qa1 154 (by decide +kernel) rfl
theorem q_co_yX3_putIn : (Cond.code yX3_putIn cX3_putIn 4 none) ∈ lw_g := qa1 155 (by decide +kernel) rfl
theorem q_ml_RX3_157 : (Cond.methodLink RX3 157 yX2_append) ∈ lw_g := qa1 156 (by decide +kernel) rfl
theorem q_im_yX2_append : (Cond.instanceMethod yX2_append) ∈ lw_g := qa1 157 (by decide +kernel) rfl
theorem q_se_yX2_append : (Cond.selects RX2 yX2_append yX2_append) ∈ lw_g := qa1 158 (by decide +kernel) rfl
theorem q_co_yX2_append : (Cond.code yX2_append cX2_append 2 none) ∈ lw_g := qa1 159 (by decide +kernel) rfl
theorem q_ml_RX3_179 : (Cond.methodLink RX3 179 yX3_setHolder) ∈ lw_g := qa1 160 (by decide +kernel) rfl
theorem q_im_yX3_setHolder : (Cond.instanceMethod yX3_setHolder) ∈ lw_g := qa1 162 (by decide +kernel) rfl
theorem q_co_yX3_setHolder : (Cond.code yX3_setHolder cX3_setHolder 3 none) ∈ lw_g := qa1 163 (by decide +kernel) rfl
theorem q_ml_RL_23 : (Cond.methodLink RL 23 yX3_take) ∈ lw_g := qa1 164 (by decide +kernel) rfl
theorem q_im_yX3_take : (Cond.instanceMethod yX3_take) ∈ lw_g := qa1 165 (by decide +kernel) rfl
theorem q_se_yX3_take : (Cond.selects RX3 yX3_take yX3_take) ∈ lw_g := qa1 166 (by decide +kernel) rfl
theorem q_co_yX3_take : (Cond.code yX3_take cX3_take 3 (some .int)) ∈ lw_g := qa1 167 (by decide +kernel) rfl
theorem q_ml_RX3_72 : (Cond.methodLink RX3 72 yX3_takeOut) ∈ lw_g := qa1 168 (by decide +kernel) rfl
theorem q_im_yX3_takeOut : (Cond.instanceMethod yX3_takeOut) ∈ lw_g := qa1 170 (by decide +kernel) rfl
theorem q_co_yX3_takeOut : (Cond.code yX3_takeOut cX3_takeOut 3 none) ∈ lw_g := qa1 171 (by decide +kernel) rfl
theorem q_ml_RX3_160 : (Cond.methodLink RX3 160 yX3_setOwnPlace) ∈ lw_g := qa1 172 (by decide +kernel) rfl
theorem q_im_yX3_setOwnPlace : (Cond.instanceMethod yX3_setOwnPlace) ∈ lw_g := qa1 174 (by decide +kernel) rfl
theorem q_co_yX3_setOwnPlace : (Cond.code yX3_setOwnPlace cX3_setOwnPlace 3 none) ∈ lw_g := qa1 175 (by decide +kernel) rfl
theorem q_ml_RX3_123 : (Cond.methodLink RX3 123 yX2_remove) ∈ lw_g := qa1 176 (by decide +kernel) rfl
theorem q_im_yX2_remove : (Cond.instanceMethod yX2_remove) ∈ lw_g := qa1 177 (by decide +kernel) rfl
theorem q_se_yX2_remove : (Cond.selects RX2 yX2_remove yX2_remove) ∈ lw_g := qa1 178 (by decide +kernel) rfl
theorem q_co_yX2_remove : (Cond.code yX2_remove cX2_remove 4 none) ∈ lw_g := qa1 179 (by decide +kernel) rfl
theorem q_ml_RL_29 : (Cond.methodLink RL 29 yX3_close) ∈ lw_g := qa1 180 (by decide +kernel) rfl
theorem q_im_yX3_close : (Cond.instanceMethod yX3_close) ∈ lw_g := qa1 181 (by decide +kernel) rfl
theorem q_se_yX3_close : (Cond.selects RX3 yX3_close yX3_close) ∈ lw_g := qa1 182 (by decide +kernel) rfl
theorem q_co_yX3_close : (Cond.code yX3_close cX3_close 6 (some .int)) ∈ lw_g := qa1 183 (by decide +kernel) rfl
theorem q_ml_RX3_75 : (Cond.methodLink RX3 75 yX3_isSeal) ∈ lw_g := qa1 184 (by decide +kernel) rfl
theorem q_st_yX3_isSeal : (Cond.static yX3_isSeal) ∈ lw_g := qa1 185 (by decide +kernel) rfl
theorem q_co_yX3_isSeal : (Cond.code yX3_isSeal cX3_isSeal 2 (some .boolean)) ∈ lw_g := qa1 186 (by decide +kernel) rfl
theorem q_kl_RX3_140 : (Cond.constantLong RX3 140 (1000000000)) ∈ lw_g := qa1 187 (by decide +kernel) rfl
theorem q_ml_RX3_79 : (Cond.methodLink RX3 79 yX3_isPerson) ∈ lw_g := qa1 188 (by decide +kernel) rfl
theorem q_st_yX3_isPerson : (Cond.static yX3_isPerson) ∈ lw_g := qa1 189 (by decide +kernel) rfl
theorem q_co_yX3_isPerson : (Cond.code yX3_isPerson cX3_isPerson 1 (some .boolean)) ∈ lw_g := qa1 190 (by decide +kernel) rfl
theorem q_ml_RX3_82 : (Cond.methodLink RX3 82 yX1_shut) ∈ lw_g := qa1 191 (by decide +kernel) rfl
theorem q_im_yX1_shut : (Cond.instanceMethod yX1_shut) ∈ lw_g := qa1 192 (by decide +kernel) rfl
theorem q_se_yX1_shut : (Cond.selects RX1 yX1_shut yX1_shut) ∈ lw_g := qa1 193 (by decide +kernel) rfl
theorem q_co_yX1_shut : (Cond.code yX1_shut cX1_shut 4 none) ∈ lw_g := qa1 194 (by decide +kernel) rfl
theorem q_ml_RX1_53 : (Cond.methodLink RX1 53 yX2_becomeLike) ∈ lw_g := qa1 195 (by decide +kernel) rfl
theorem q_im_yX2_becomeLike : (Cond.instanceMethod yX2_becomeLike) ∈ lw_g := qa1 196 (by decide +kernel) rfl
theorem q_se_yX2_becomeLike : (Cond.selects RX2 yX2_becomeLike yX2_becomeLike) ∈ lw_g := qa1 197 (by decide +kernel) rfl
theorem q_co_yX2_becomeLike : (Cond.code yX2_becomeLike cX2_becomeLike 3 none) ∈ lw_g := qa1 198 (by decide +kernel) rfl
theorem q_ml_RX2_17 : (Cond.methodLink RX2 17 yX2_clear) ∈ lw_g := qa1 199 (by decide +kernel) rfl
theorem q_im_yX2_clear : (Cond.instanceMethod yX2_clear) ∈ lw_g := qa1 200 (by decide +kernel) rfl
theorem q_se_yX2_clear : (Cond.selects RX2 yX2_clear yX2_clear) ∈ lw_g := qa1 201 (by decide +kernel) rfl
theorem q_co_yX2_clear : (Cond.code yX2_clear cX2_clear 1 none) ∈ lw_g := qa1 202 (by decide +kernel) rfl
theorem q_ml_RX2_20 : (Cond.methodLink RX2 20 yX2_size) ∈ lw_g := qa1 203 (by decide +kernel) rfl
theorem q_im_yX2_size : (Cond.instanceMethod yX2_size) ∈ lw_g := qa1 204 (by decide +kernel) rfl
theorem q_se_yX2_size : (Cond.selects RX2 yX2_size yX2_size) ∈ lw_g := qa1 205 (by decide +kernel) rfl
theorem q_co_yX2_size : (Cond.code yX2_size cX2_size 1 (some .int)) ∈ lw_g := qa1 206 (by decide +kernel) rfl
theorem q_ml_RX2_23 : (Cond.methodLink RX2 23 yX2_at) ∈ lw_g := qa1 207 (by decide +kernel) rfl
theorem q_im_yX2_at : (Cond.instanceMethod yX2_at) ∈ lw_g := qa1 208 (by decide +kernel) rfl
theorem q_se_yX2_at : (Cond.selects RX2 yX2_at yX2_at) ∈ lw_g := qa1 209 (by decide +kernel) rfl
theorem q_co_yX2_at : (Cond.code yX2_at cX2_at 2 (some .int)) ∈ lw_g := qa1 210 (by decide +kernel) rfl
theorem q_ml_RX2_27 : (Cond.methodLink RX2 27 yX2_append) ∈ lw_g := qa1 211 (by decide +kernel) rfl
theorem q_ml_RX1_57 : (Cond.methodLink RX1 57 yX2_clear) ∈ lw_g := qa1 212 (by decide +kernel) rfl
theorem q_ml_RX3_89 : (Cond.methodLink RX3 89 yX2_size) ∈ lw_g := qa1 213 (by decide +kernel) rfl
theorem q_ml_RL_34 : (Cond.methodLink RL 34 yX3_open) ∈ lw_g := qa1 214 (by decide +kernel) rfl
theorem q_im_yX3_open : (Cond.instanceMethod yX3_open) ∈ lw_g := qa1 215 (by decide +kernel) rfl
theorem q_se_yX3_open : (Cond.selects RX3 yX3_open yX3_open) ∈ lw_g := qa1 216 (by decide +kernel) rfl
theorem q_co_yX3_open : (Cond.code yX3_open cX3_open 7 (some .int)) ∈ lw_g := qa1 217 (by decide +kernel) rfl
theorem q_ml_RX3_97 : (Cond.methodLink RX3 97 yX1_mayBeOpenedBy) ∈ lw_g := qa1 218 (by decide +kernel) rfl
theorem q_im_yX1_mayBeOpenedBy : (Cond.instanceMethod yX1_mayBeOpenedBy) ∈ lw_g := qa1 219 (by decide +kernel) rfl
theorem q_se_yX1_mayBeOpenedBy : (Cond.selects RX1 yX1_mayBeOpenedBy yX1_mayBeOpenedBy) ∈ lw_g := qa1 220 (by decide +kernel) rfl
theorem q_co_yX1_mayBeOpenedBy : (Cond.code yX1_mayBeOpenedBy cX1_mayBeOpenedBy 3 (some .boolean)) ∈ lw_g := qa1 221 (by decide +kernel) rfl
theorem q_ml_RX3_101 : (Cond.methodLink RX3 101 yX1_unseal) ∈ lw_g := qa1 222 (by decide +kernel) rfl
theorem q_im_yX1_unseal : (Cond.instanceMethod yX1_unseal) ∈ lw_g := qa1 223 (by decide +kernel) rfl
theorem q_se_yX1_unseal : (Cond.selects RX1 yX1_unseal yX1_unseal) ∈ lw_g := qa1 224 (by decide +kernel) rfl
theorem q_co_yX1_unseal : (Cond.code yX1_unseal cX1_unseal 3 (some .boolean)) ∈ lw_g := qa1 225 (by decide +kernel) rfl
theorem q_ml_RX1_60 : (Cond.methodLink RX1 60 yX2_append) ∈ lw_g := qa1 226 (by decide +kernel) rfl
theorem q_kl_RX3_108 : (Cond.constantLong RX3 108 (100)) ∈ lw_g := qa1 227 (by decide +kernel) rfl
theorem q_ml_RX3_110 : (Cond.methodLink RX3 110 yX0_add) ∈ lw_g := qa1 228 (by decide +kernel) rfl
theorem q_im_yX0_add : (Cond.instanceMethod yX0_add) ∈ lw_g := qa1 229 (by decide +kernel) rfl
theorem q_se_yX0_add : (Cond.selects RX0 yX0_add yX0_add) ∈ lw_g := qa1 230 (by decide +kernel) rfl
theorem q_co_yX0_add : (Cond.code yX0_add cX0_add 3 none) ∈ lw_g := qa1 231 (by decide +kernel) rfl
theorem q_ml_RL_39 : (Cond.methodLink RL 39 yX3_found) ∈ lw_g := qa1 232 (by decide +kernel) rfl
theorem q_im_yX3_found : (Cond.instanceMethod yX3_found) ∈ lw_g := qa1 233 (by decide +kernel) rfl
theorem q_se_yX3_found : (Cond.selects RX3 yX3_found yX3_found) ∈ lw_g := qa1 234 (by decide +kernel) rfl
theorem q_co_yX3_found : (Cond.code yX3_found cX3_found 4 (some .int)) ∈ lw_g := qa1 235 (by decide +kernel) rfl
theorem q_ml_RX3_114 : (Cond.methodLink RX3 114 yX1_isChecked) ∈ lw_g := qa1 236 (by decide +kernel) rfl
theorem q_im_yX1_isChecked : (Cond.instanceMethod yX1_isChecked) ∈ lw_g := qa1 237 (by decide +kernel) rfl
theorem q_se_yX1_isChecked : (Cond.selects RX1 yX1_isChecked yX1_isChecked) ∈ lw_g := qa1 238 (by decide +kernel) rfl
theorem q_co_yX1_isChecked : (Cond.code yX1_isChecked cX1_isChecked 1 (some .boolean)) ∈ lw_g := qa1 239 (by decide +kernel) rfl
theorem q_ml_RX3_117 : (Cond.methodLink RX3 117 yX2_holds) ∈ lw_g := qa2 0 (by decide +kernel) rfl
theorem q_im_yX2_holds : (Cond.instanceMethod yX2_holds) ∈ lw_g := qa2 1 (by decide +kernel) rfl
theorem q_se_yX2_holds : (Cond.selects RX2 yX2_holds yX2_holds) ∈ lw_g := qa2 2 (by decide +kernel) rfl
theorem q_co_yX2_holds : (Cond.code yX2_holds cX2_holds 3 (some .boolean)) ∈ lw_g := qa2 3 (by decide +kernel) rfl
theorem q_ml_RX3_129 : (Cond.methodLink RX3 129 yX3_foundExtra) ∈ lw_g := qa2 4 (by decide +kernel) rfl
theorem q_im_yX3_foundExtra : (Cond.instanceMethod yX3_foundExtra) ∈ lw_g := qa2 6 (by decide +kernel) rfl
theorem q_co_yX3_foundExtra : (Cond.code yX3_foundExtra cX3_foundExtra 5 (some .int)) ∈ lw_g := qa2 7 (by decide +kernel) rfl
theorem q_ml_RL_43 : (Cond.methodLink RL 43 yX3_differ) ∈ lw_g := qa2 8 (by decide +kernel) rfl
theorem q_im_yX3_differ : (Cond.instanceMethod yX3_differ) ∈ lw_g := qa2 9 (by decide +kernel) rfl
theorem q_se_yX3_differ : (Cond.selects RX3 yX3_differ yX3_differ) ∈ lw_g := qa2 10 (by decide +kernel) rfl
theorem q_co_yX3_differ : (Cond.code yX3_differ cX3_differ 8 (some .int)) ∈ lw_g := qa2 11 (by decide +kernel) rfl
theorem q_ml_RX3_133 : (Cond.methodLink RX3 133 yX1_differencesOf) ∈ lw_g := qa2 12 (by decide +kernel) rfl
theorem q_im_yX1_differencesOf : (Cond.instanceMethod yX1_differencesOf) ∈ lw_g := qa2 13 (by decide +kernel) rfl
theorem q_se_yX1_differencesOf : (Cond.selects RX1 yX1_differencesOf yX1_differencesOf) ∈ lw_g := qa2 14 (by decide +kernel) rfl
theorem q_co_yX1_differencesOf : (Cond.code yX1_differencesOf cX1_differencesOf 2 (some (.object "BagRows$Row"))) ∈ lw_g := qa2 15 (by decide +kernel) rfl
theorem q_ml_RX3_137 : (Cond.methodLink RX3 137 yX2_at) ∈ lw_g := qa2 16 (by decide +kernel) rfl
theorem q_ml_RL_48 : (Cond.methodLink RL 48 yX3_inside) ∈ lw_g := qa2 17 (by decide +kernel) rfl
theorem q_im_yX3_inside : (Cond.instanceMethod yX3_inside) ∈ lw_g := qa2 18 (by decide +kernel) rfl
theorem q_se_yX3_inside : (Cond.selects RX3 yX3_inside yX3_inside) ∈ lw_g := qa2 19 (by decide +kernel) rfl
theorem q_co_yX3_inside : (Cond.code yX3_inside cX3_inside 2 (some .int)) ∈ lw_g := qa2 20 (by decide +kernel) rfl
theorem q_ml_RL_52 : (Cond.methodLink RL 52 yX3_weight) ∈ lw_g := qa2 21 (by decide +kernel) rfl
theorem q_im_yX3_weight : (Cond.instanceMethod yX3_weight) ∈ lw_g := qa2 22 (by decide +kernel) rfl
theorem q_se_yX3_weight : (Cond.selects RX3 yX3_weight yX3_weight) ∈ lw_g := qa2 23 (by decide +kernel) rfl
theorem q_co_yX3_weight : (Cond.code yX3_weight cX3_weight 7 (some .int)) ∈ lw_g := qa2 24 (by decide +kernel) rfl
theorem q_ml_RX3_142 : (Cond.methodLink RX3 142 yX3_weightOf) ∈ lw_g := qa2 25 (by decide +kernel) rfl
theorem q_im_yX3_weightOf : (Cond.instanceMethod yX3_weightOf) ∈ lw_g := qa2 27 (by decide +kernel) rfl
theorem q_co_yX3_weightOf : (Cond.code yX3_weightOf cX3_weightOf 6 (some .long)) ∈ lw_g := qa2 28 (by decide +kernel) rfl
theorem q_ml_RX3_182 : (Cond.methodLink RX3 182 yX3_isWithin) ∈ lw_g := qa2 29 (by decide +kernel) rfl
theorem q_im_yX3_isWithin : (Cond.instanceMethod yX3_isWithin) ∈ lw_g := qa2 31 (by decide +kernel) rfl
theorem q_co_yX3_isWithin : (Cond.code yX3_isWithin cX3_isWithin 5 (some .boolean)) ∈ lw_g := qa2 32 (by decide +kernel) rfl
theorem q_ml_RX3_185 : (Cond.methodLink RX3 185 yX3_weightOfItems) ∈ lw_g := qa2 33 (by decide +kernel) rfl
theorem q_st_yX3_weightOfItems : (Cond.static yX3_weightOfItems) ∈ lw_g := qa2 34 (by decide +kernel) rfl
theorem q_co_yX3_weightOfItems : (Cond.code yX3_weightOfItems cX3_weightOfItems 5 (some .long)) ∈ lw_g := qa2 35 (by decide +kernel) rfl
theorem q_ml_RX3_146 : (Cond.methodLink RX3 146 yJ9_abs_067f4) ∈ lw_g := qa2 36 (by decide +kernel) rfl
theorem q_st_Lib_MathLoose_abs_long_x : (Cond.static Lib.MathLoose.abs_long.x) ∈ lw_g := qa2 37 (by decide +kernel) rfl
theorem q_co_mabs : (Cond.code Lib.MathLoose.abs_long.x Lib.MathLoose.abs_long.code 2 (some .long)) ∈ lw_g := qa2 38 (by decide +kernel) rfl
theorem q_kl_RX3_152 : (Cond.constantLong RX3 152 (50)) ∈ lw_g := qa2 39 (by decide +kernel) rfl
theorem q_ml_RL_57 : (Cond.methodLink RL 57 yX3_document) ∈ lw_g := qa2 40 (by decide +kernel) rfl
theorem q_im_yX3_document : (Cond.instanceMethod yX3_document) ∈ lw_g := qa2 41 (by decide +kernel) rfl
theorem q_se_yX3_document : (Cond.selects RX3 yX3_document yX3_document) ∈ lw_g := qa2 42 (by decide +kernel) rfl
theorem q_co_yX3_document : (Cond.code yX3_document cX3_document 4 (some .int)) ∈ lw_g := qa2 43 (by decide +kernel) rfl
theorem q_ml_RL_61 : (Cond.methodLink RL 61 yX3_move) ∈ lw_g := qa2 44 (by decide +kernel) rfl
theorem q_im_yX3_move : (Cond.instanceMethod yX3_move) ∈ lw_g := qa2 45 (by decide +kernel) rfl
theorem q_se_yX3_move : (Cond.selects RX3 yX3_move yX3_move) ∈ lw_g := qa2 46 (by decide +kernel) rfl
theorem q_co_yX3_move : (Cond.code yX3_move cX3_move 4 (some .int)) ∈ lw_g := qa2 47 (by decide +kernel) rfl
theorem q_ml_RX3_164 : (Cond.methodLink RX3 164 yX3_thingsOf) ∈ lw_g := qa2 48 (by decide +kernel) rfl
theorem q_im_yX3_thingsOf : (Cond.instanceMethod yX3_thingsOf) ∈ lw_g := qa2 50 (by decide +kernel) rfl
theorem q_co_yX3_thingsOf : (Cond.code yX3_thingsOf cX3_thingsOf 5 (some .int)) ∈ lw_g := qa2 51 (by decide +kernel) rfl
theorem q_ml_RL_65 : (Cond.methodLink RL 65 yX3_place) ∈ lw_g := qa2 52 (by decide +kernel) rfl
theorem q_im_yX3_place : (Cond.instanceMethod yX3_place) ∈ lw_g := qa2 53 (by decide +kernel) rfl
theorem q_se_yX3_place : (Cond.selects RX3 yX3_place yX3_place) ∈ lw_g := qa2 54 (by decide +kernel) rfl
theorem q_co_yX3_place : (Cond.code yX3_place cX3_place 2 (some .int)) ∈ lw_g := qa2 55 (by decide +kernel) rfl
theorem q_ml_RL_69 : (Cond.methodLink RL 69 yX3_tick) ∈ lw_g := qa2 56 (by decide +kernel) rfl
theorem q_im_yX3_tick : (Cond.instanceMethod yX3_tick) ∈ lw_g := qa2 57 (by decide +kernel) rfl
theorem q_se_yX3_tick : (Cond.selects RX3 yX3_tick yX3_tick) ∈ lw_g := qa2 58 (by decide +kernel) rfl
theorem q_co_yX3_tick : (Cond.code yX3_tick cX3_tick 3 (some .int)) ∈ lw_g := qa2 59 (by decide +kernel) rfl
theorem q_kl_RX3_167 : (Cond.constantLong RX3 167 (1000000000000)) ∈ lw_g := qa2 60 (by decide +kernel) rfl
theorem q_ml_RX3_169 : (Cond.methodLink RX3 169 yX0_tellUntil) ∈ lw_g := qa2 61 (by decide +kernel) rfl
theorem q_im_yX0_tellUntil : (Cond.instanceMethod yX0_tellUntil) ∈ lw_g := qa2 62 (by decide +kernel) rfl
theorem q_se_yX0_tellUntil : (Cond.selects RX0 yX0_tellUntil yX0_tellUntil) ∈ lw_g := qa2 63 (by decide +kernel) rfl
theorem q_co_yX0_tellUntil : (Cond.code yX0_tellUntil cX0_tellUntil 5 (some .int)) ∈ lw_g := qa2 64 (by decide +kernel) rfl
theorem q_cl_RL_10 : (Cond.classLink RL 10 RX4) ∈ lw_g := qa2 65 (by decide +kernel) rfl
theorem q_in_RX4 : (Cond.instantiable RX4 23) ∈ lw_g := qa2 66 (by decide +kernel) rfl
theorem q_ml_RL_12 : (Cond.methodLink RL 12 yX4_init) ∈ lw_g := qa2 67 (by decide +kernel) rfl
theorem q_im_yX4_init : (Cond.instanceMethod yX4_init) ∈ lw_g := qa2 68 (by decide +kernel) rfl
theorem q_co_yX4_init : (Cond.code yX4_init cX4_init 1 none) ∈ lw_g := qa2 69 (by decide +kernel) rfl
theorem q_ml_RX4_1 : (Cond.methodLink RX4 1 objectInit) ∈ lw_g := qa2 70 (by decide +kernel) rfl
theorem q_kl_RX4_60 : (Cond.constantLong RX4 60 (-1)) ∈ lw_g := qa2 71 (by decide +kernel) rfl
theorem q_fl_RX4_69 : (Cond.fieldLink RX4 69 "BagRowsModel" "thrown" "I") ∈ lw_g := qa2 72 (by decide +kernel) rfl
theorem q_fl_RX4_7 : (Cond.fieldLink RX4 7 "BagRowsModel" "in" "[I") ∈ lw_g := qa2 73 (by decide +kernel) rfl
theorem q_fl_RX4_13 : (Cond.fieldLink RX4 13 "BagRowsModel" "since" "[I") ∈ lw_g := qa2 74 (by decide +kernel) rfl
theorem q_fl_RX4_16 : (Cond.fieldLink RX4 16 "BagRowsModel" "place" "[I") ∈ lw_g := qa2 75 (by decide +kernel) rfl
theorem q_fl_RX4_84 : (Cond.fieldLink RX4 84 "BagRowsModel" "turns" "I") ∈ lw_g := qa2 76 (by decide +kernel) rfl
theorem q_fl_RX4_73 : (Cond.fieldLink RX4 73 "BagRowsModel" "bags" "I") ∈ lw_g := qa2 77 (by decide +kernel) rfl
theorem q_fl_RX4_19 : (Cond.fieldLink RX4 19 "BagRowsModel" "kind" "[I") ∈ lw_g := qa2 78 (by decide +kernel) rfl
theorem q_fl_RX4_22 : (Cond.fieldLink RX4 22 "BagRowsModel" "closed" "[Z") ∈ lw_g := qa2 79 (by decide +kernel) rfl
theorem q_fl_RX4_26 : (Cond.fieldLink RX4 26 "BagRowsModel" "opened" "[Z") ∈ lw_g := qa2 80 (by decide +kernel) rfl
theorem q_fl_RX4_29 : (Cond.fieldLink RX4 29 "BagRowsModel" "seal" "[J") ∈ lw_g := qa2 81 (by decide +kernel) rfl
theorem q_fl_RX4_33 : (Cond.fieldLink RX4 33 "BagRowsModel" "closer" "[I") ∈ lw_g := qa2 82 (by decide +kernel) rfl
theorem q_fl_RX4_36 : (Cond.fieldLink RX4 36 "BagRowsModel" "read" "[J") ∈ lw_g := qa2 83 (by decide +kernel) rfl
theorem q_fl_RX4_39 : (Cond.fieldLink RX4 39 "BagRowsModel" "listed" "[I") ∈ lw_g := qa2 84 (by decide +kernel) rfl
theorem q_fl_RX4_42 : (Cond.fieldLink RX4 42 "BagRowsModel" "list" "[I") ∈ lw_g := qa2 85 (by decide +kernel) rfl
theorem q_fl_RX4_45 : (Cond.fieldLink RX4 45 "BagRowsModel" "seen" "[Z") ∈ lw_g := qa2 86 (by decide +kernel) rfl
theorem q_fl_RX4_48 : (Cond.fieldLink RX4 48 "BagRowsModel" "extras" "[I") ∈ lw_g := qa2 87 (by decide +kernel) rfl
theorem q_fl_RX4_51 : (Cond.fieldLink RX4 51 "BagRowsModel" "extra" "[I") ∈ lw_g := qa2 88 (by decide +kernel) rfl
theorem q_fl_RX4_54 : (Cond.fieldLink RX4 54 "BagRowsModel" "weighed" "[I") ∈ lw_g := qa2 89 (by decide +kernel) rfl
theorem q_fl_RX4_57 : (Cond.fieldLink RX4 57 "BagRowsModel" "weighing" "[J") ∈ lw_g := qa2 90 (by decide +kernel) rfl
theorem q_fl_RX4_90 : (Cond.fieldLink RX4 90 "BagRowsModel" "now" "J") ∈ lw_g := qa2 91 (by decide +kernel) rfl
theorem q_fl_RX4_62 : (Cond.fieldLink RX4 62 "BagRowsModel" "toldUntil" "J") ∈ lw_g := qa2 92 (by decide +kernel) rfl
theorem q_fl_RX4_87 : (Cond.fieldLink RX4 87 "BagRowsModel" "notes" "I") ∈ lw_g := qa2 93 (by decide +kernel) rfl
theorem q_fl_RX4_66 : (Cond.fieldLink RX4 66 "BagRowsModel" "due" "[J") ∈ lw_g := qa2 94 (by decide +kernel) rfl
theorem q_ac_boolean : (Cond.arrayClass .boolean) ∈ lw_g := qa2 142 (by decide +kernel) rfl
theorem q_ml_RL_17 : (Cond.methodLink RL 17 yX4_bag) ∈ lw_g := qa2 143 (by decide +kernel) rfl
theorem q_im_yX4_bag : (Cond.instanceMethod yX4_bag) ∈ lw_g := qa2 144 (by decide +kernel) rfl
theorem q_se_yX4_bag : (Cond.selects RX4 yX4_bag yX4_bag) ∈ lw_g := qa2 145 (by decide +kernel) rfl
theorem q_co_yX4_bag : (Cond.code yX4_bag cX4_bag 2 (some .int)) ∈ lw_g := qa2 146 (by decide +kernel) rfl
theorem q_ml_RL_22 : (Cond.methodLink RL 22 yX4_into) ∈ lw_g := qa2 147 (by decide +kernel) rfl
theorem q_im_yX4_into : (Cond.instanceMethod yX4_into) ∈ lw_g := qa2 148 (by decide +kernel) rfl
theorem q_se_yX4_into : (Cond.selects RX4 yX4_into yX4_into) ∈ lw_g := qa2 149 (by decide +kernel) rfl
theorem q_co_yX4_into : (Cond.code yX4_into cX4_into 3 (some .int)) ∈ lw_g := qa2 150 (by decide +kernel) rfl
theorem q_ml_RX4_76 : (Cond.methodLink RX4 76 yX4_isBag) ∈ lw_g := qa2 151 (by decide +kernel) rfl
theorem q_im_yX4_isBag : (Cond.instanceMethod yX4_isBag) ∈ lw_g := qa2 153 (by decide +kernel) rfl
theorem q_co_yX4_isBag : (Cond.code yX4_isBag cX4_isBag 2 (some .boolean)) ∈ lw_g := qa2 154 (by decide +kernel) rfl
theorem q_ml_RX4_95 : (Cond.methodLink RX4 95 yX4_isThing) ∈ lw_g := qa2 155 (by decide +kernel) rfl
theorem q_im_yX4_isThing : (Cond.instanceMethod yX4_isThing) ∈ lw_g := qa2 157 (by decide +kernel) rfl
theorem q_co_yX4_isThing : (Cond.code yX4_isThing cX4_isThing 2 (some .boolean)) ∈ lw_g := qa2 158 (by decide +kernel) rfl
theorem q_ml_RX4_98 : (Cond.methodLink RX4 98 yX4_isShutIn) ∈ lw_g := qa2 159 (by decide +kernel) rfl
theorem q_im_yX4_isShutIn : (Cond.instanceMethod yX4_isShutIn) ∈ lw_g := qa2 161 (by decide +kernel) rfl
theorem q_co_yX4_isShutIn : (Cond.code yX4_isShutIn cX4_isShutIn 4 (some .boolean)) ∈ lw_g := qa2 162 (by decide +kernel) rfl
theorem q_ml_RX4_80 : (Cond.methodLink RX4 80 yX4_outer) ∈ lw_g := qa2 163 (by decide +kernel) rfl
theorem q_im_yX4_outer : (Cond.instanceMethod yX4_outer) ∈ lw_g := qa2 165 (by decide +kernel) rfl
theorem q_co_yX4_outer : (Cond.code yX4_outer cX4_outer 2 (some .int)) ∈ lw_g := qa2 166 (by decide +kernel) rfl
theorem q_ml_RX4_101 : (Cond.methodLink RX4 101 yX4_kindOf) ∈ lw_g := qa2 167 (by decide +kernel) rfl
theorem q_im_yX4_kindOf : (Cond.instanceMethod yX4_kindOf) ∈ lw_g := qa2 169 (by decide +kernel) rfl
theorem q_co_yX4_kindOf : (Cond.code yX4_kindOf cX4_kindOf 2 (some .int)) ∈ lw_g := qa2 170 (by decide +kernel) rfl
theorem q_ml_RX4_104 : (Cond.methodLink RX4 104 yX4_count) ∈ lw_g := qa2 171 (by decide +kernel) rfl
theorem q_im_yX4_count : (Cond.instanceMethod yX4_count) ∈ lw_g := qa2 173 (by decide +kernel) rfl
theorem q_co_yX4_count : (Cond.code yX4_count cX4_count 4 (some .int)) ∈ lw_g := qa2 174 (by decide +kernel) rfl
theorem q_ml_RX4_107 : (Cond.methodLink RX4 107 yX4_put) ∈ lw_g := qa2 175 (by decide +kernel) rfl
theorem q_im_yX4_put : (Cond.instanceMethod yX4_put) ∈ lw_g := qa2 177 (by decide +kernel) rfl
theorem q_co_yX4_put : (Cond.code yX4_put cX4_put 3 none) ∈ lw_g := qa2 178 (by decide +kernel) rfl
theorem q_ml_RL_26 : (Cond.methodLink RL 26 yX4_take) ∈ lw_g := qa2 179 (by decide +kernel) rfl
theorem q_im_yX4_take : (Cond.instanceMethod yX4_take) ∈ lw_g := qa2 180 (by decide +kernel) rfl
theorem q_se_yX4_take : (Cond.selects RX4 yX4_take yX4_take) ∈ lw_g := qa2 181 (by decide +kernel) rfl
theorem q_co_yX4_take : (Cond.code yX4_take cX4_take 3 (some .int)) ∈ lw_g := qa2 182 (by decide +kernel) rfl
theorem q_ml_RL_33 : (Cond.methodLink RL 33 yX4_close) ∈ lw_g := qa2 183 (by decide +kernel) rfl
theorem q_im_yX4_close : (Cond.instanceMethod yX4_close) ∈ lw_g := qa2 184 (by decide +kernel) rfl
theorem q_se_yX4_close : (Cond.selects RX4 yX4_close yX4_close) ∈ lw_g := qa2 185 (by decide +kernel) rfl
theorem q_co_yX4_close : (Cond.code yX4_close cX4_close 12 (some .int)) ∈ lw_g := qa2 186 (by decide +kernel) rfl
theorem q_kl_RX4_111 : (Cond.constantLong RX4 111 (1000000000)) ∈ lw_g := qa2 187 (by decide +kernel) rfl
theorem q_ml_RL_38 : (Cond.methodLink RL 38 yX4_open) ∈ lw_g := qa2 188 (by decide +kernel) rfl
theorem q_im_yX4_open : (Cond.instanceMethod yX4_open) ∈ lw_g := qa2 189 (by decide +kernel) rfl
theorem q_se_yX4_open : (Cond.selects RX4 yX4_open yX4_open) ∈ lw_g := qa2 190 (by decide +kernel) rfl
theorem q_co_yX4_open : (Cond.code yX4_open cX4_open 9 (some .int)) ∈ lw_g := qa2 191 (by decide +kernel) rfl
theorem q_ml_RX4_113 : (Cond.methodLink RX4 113 yX4_addNote) ∈ lw_g := qa2 192 (by decide +kernel) rfl
theorem q_im_yX4_addNote : (Cond.instanceMethod yX4_addNote) ∈ lw_g := qa2 194 (by decide +kernel) rfl
theorem q_co_yX4_addNote : (Cond.code yX4_addNote cX4_addNote 1 none) ∈ lw_g := qa2 195 (by decide +kernel) rfl
theorem q_kl_RX4_93 : (Cond.constantLong RX4 93 (100)) ∈ lw_g := qa2 196 (by decide +kernel) rfl
theorem q_ml_RL_42 : (Cond.methodLink RL 42 yX4_found) ∈ lw_g := qa2 197 (by decide +kernel) rfl
theorem q_im_yX4_found : (Cond.instanceMethod yX4_found) ∈ lw_g := qa2 198 (by decide +kernel) rfl
theorem q_se_yX4_found : (Cond.selects RX4 yX4_found yX4_found) ∈ lw_g := qa2 199 (by decide +kernel) rfl
theorem q_co_yX4_found : (Cond.code yX4_found cX4_found 6 (some .int)) ∈ lw_g := qa2 200 (by decide +kernel) rfl
theorem q_ml_RX4_116 : (Cond.methodLink RX4 116 yX4_liesIn) ∈ lw_g := qa2 201 (by decide +kernel) rfl
theorem q_im_yX4_liesIn : (Cond.instanceMethod yX4_liesIn) ∈ lw_g := qa2 203 (by decide +kernel) rfl
theorem q_co_yX4_liesIn : (Cond.code yX4_liesIn cX4_liesIn 5 (some .boolean)) ∈ lw_g := qa2 204 (by decide +kernel) rfl
theorem q_ml_RX4_120 : (Cond.methodLink RX4 120 yX4_listPlace) ∈ lw_g := qa2 205 (by decide +kernel) rfl
theorem q_im_yX4_listPlace : (Cond.instanceMethod yX4_listPlace) ∈ lw_g := qa2 207 (by decide +kernel) rfl
theorem q_co_yX4_listPlace : (Cond.code yX4_listPlace cX4_listPlace 5 (some .int)) ∈ lw_g := qa2 208 (by decide +kernel) rfl
theorem q_ml_RX4_124 : (Cond.methodLink RX4 124 yX4_isExtra) ∈ lw_g := qa2 209 (by decide +kernel) rfl
theorem q_im_yX4_isExtra : (Cond.instanceMethod yX4_isExtra) ∈ lw_g := qa2 211 (by decide +kernel) rfl
theorem q_co_yX4_isExtra : (Cond.code yX4_isExtra cX4_isExtra 5 (some .boolean)) ∈ lw_g := qa2 212 (by decide +kernel) rfl
theorem q_ml_RX4_127 : (Cond.methodLink RX4 127 yX4_bring) ∈ lw_g := qa2 213 (by decide +kernel) rfl
theorem q_im_yX4_bring : (Cond.instanceMethod yX4_bring) ∈ lw_g := qa2 215 (by decide +kernel) rfl
theorem q_co_yX4_bring : (Cond.code yX4_bring cX4_bring 5 (some .int)) ∈ lw_g := qa2 216 (by decide +kernel) rfl
theorem q_ml_RL_47 : (Cond.methodLink RL 47 yX4_differ) ∈ lw_g := qa2 217 (by decide +kernel) rfl
theorem q_im_yX4_differ : (Cond.instanceMethod yX4_differ) ∈ lw_g := qa2 218 (by decide +kernel) rfl
theorem q_se_yX4_differ : (Cond.selects RX4 yX4_differ yX4_differ) ∈ lw_g := qa2 219 (by decide +kernel) rfl
theorem q_co_yX4_differ : (Cond.code yX4_differ cX4_differ 4 (some .int)) ∈ lw_g := qa2 220 (by decide +kernel) rfl
theorem q_ml_RX4_134 : (Cond.methodLink RX4 134 yX4_difference) ∈ lw_g := qa2 221 (by decide +kernel) rfl
theorem q_im_yX4_difference : (Cond.instanceMethod yX4_difference) ∈ lw_g := qa2 223 (by decide +kernel) rfl
theorem q_co_yX4_difference : (Cond.code yX4_difference cX4_difference 6 (some .int)) ∈ lw_g := qa2 224 (by decide +kernel) rfl
theorem q_ml_RX4_130 : (Cond.methodLink RX4 130 yX4_pick) ∈ lw_g := qa2 225 (by decide +kernel) rfl
theorem q_im_yX4_pick : (Cond.instanceMethod yX4_pick) ∈ lw_g := qa2 227 (by decide +kernel) rfl
theorem q_co_yX4_pick : (Cond.code yX4_pick cX4_pick 5 (some .int)) ∈ lw_g := qa2 228 (by decide +kernel) rfl
theorem q_ml_RL_51 : (Cond.methodLink RL 51 yX4_inside) ∈ lw_g := qa2 229 (by decide +kernel) rfl
theorem q_im_yX4_inside : (Cond.instanceMethod yX4_inside) ∈ lw_g := qa2 230 (by decide +kernel) rfl
theorem q_se_yX4_inside : (Cond.selects RX4 yX4_inside yX4_inside) ∈ lw_g := qa2 231 (by decide +kernel) rfl
theorem q_co_yX4_inside : (Cond.code yX4_inside cX4_inside 2 (some .int)) ∈ lw_g := qa2 232 (by decide +kernel) rfl
theorem q_ml_RL_56 : (Cond.methodLink RL 56 yX4_weight) ∈ lw_g := qa2 233 (by decide +kernel) rfl
theorem q_im_yX4_weight : (Cond.instanceMethod yX4_weight) ∈ lw_g := qa2 234 (by decide +kernel) rfl
theorem q_se_yX4_weight : (Cond.selects RX4 yX4_weight yX4_weight) ∈ lw_g := qa2 235 (by decide +kernel) rfl
theorem q_co_yX4_weight : (Cond.code yX4_weight cX4_weight 9 (some .int)) ∈ lw_g := qa2 236 (by decide +kernel) rfl
theorem q_ml_RX4_142 : (Cond.methodLink RX4 142 yX4_own) ∈ lw_g := qa2 237 (by decide +kernel) rfl
theorem q_im_yX4_own : (Cond.instanceMethod yX4_own) ∈ lw_g := qa2 239 (by decide +kernel) rfl
theorem q_co_yX4_own : (Cond.code yX4_own cX4_own 2 (some .long)) ∈ lw_g := qa3 0 (by decide +kernel) rfl
theorem q_kl_RX4_138 : (Cond.constantLong RX4 138 (5)) ∈ lw_g := qa3 1 (by decide +kernel) rfl
theorem q_kl_RX4_140 : (Cond.constantLong RX4 140 (10)) ∈ lw_g := qa3 2 (by decide +kernel) rfl
theorem q_kl_RX4_146 : (Cond.constantLong RX4 146 (50)) ∈ lw_g := qa3 3 (by decide +kernel) rfl
theorem q_ml_RL_60 : (Cond.methodLink RL 60 yX4_document) ∈ lw_g := qa3 4 (by decide +kernel) rfl
theorem q_im_yX4_document : (Cond.instanceMethod yX4_document) ∈ lw_g := qa3 5 (by decide +kernel) rfl
theorem q_se_yX4_document : (Cond.selects RX4 yX4_document yX4_document) ∈ lw_g := qa3 6 (by decide +kernel) rfl
theorem q_co_yX4_document : (Cond.code yX4_document cX4_document 3 (some .int)) ∈ lw_g := qa3 7 (by decide +kernel) rfl
theorem q_ml_RL_64 : (Cond.methodLink RL 64 yX4_move) ∈ lw_g := qa3 8 (by decide +kernel) rfl
theorem q_im_yX4_move : (Cond.instanceMethod yX4_move) ∈ lw_g := qa3 9 (by decide +kernel) rfl
theorem q_se_yX4_move : (Cond.selects RX4 yX4_move yX4_move) ∈ lw_g := qa3 10 (by decide +kernel) rfl
theorem q_co_yX4_move : (Cond.code yX4_move cX4_move 3 (some .int)) ∈ lw_g := qa3 11 (by decide +kernel) rfl
theorem q_ml_RL_68 : (Cond.methodLink RL 68 yX4_place) ∈ lw_g := qa3 12 (by decide +kernel) rfl
theorem q_im_yX4_place : (Cond.instanceMethod yX4_place) ∈ lw_g := qa3 13 (by decide +kernel) rfl
theorem q_se_yX4_place : (Cond.selects RX4 yX4_place yX4_place) ∈ lw_g := qa3 14 (by decide +kernel) rfl
theorem q_co_yX4_place : (Cond.code yX4_place cX4_place 2 (some .int)) ∈ lw_g := qa3 15 (by decide +kernel) rfl
theorem q_ml_RL_73 : (Cond.methodLink RL 73 yX4_tick) ∈ lw_g := qa3 16 (by decide +kernel) rfl
theorem q_im_yX4_tick : (Cond.instanceMethod yX4_tick) ∈ lw_g := qa3 17 (by decide +kernel) rfl
theorem q_se_yX4_tick : (Cond.selects RX4 yX4_tick yX4_tick) ∈ lw_g := qa3 18 (by decide +kernel) rfl
theorem q_co_yX4_tick : (Cond.code yX4_tick cX4_tick 5 (some .int)) ∈ lw_g := qa3 19 (by decide +kernel) rfl
theorem q_kl_RX4_148 : (Cond.constantLong RX4 148 (1000000000000)) ∈ lw_g := qa3 20 (by decide +kernel) rfl
theorem q_kl_RL_27 : (Cond.constantLong RL 27 (4294967295)) ∈ lw_g := qa3 21 (by decide +kernel) rfl
theorem q_se_yX3_receptacleOf : (Cond.selects RX3 yX3_receptacleOf yX3_receptacleOf) ∈ lw_g := qa0 0 (by decide +kernel) rfl
theorem q_se_yX3_isThing : (Cond.selects RX3 yX3_isThing yX3_isThing) ∈ lw_g := qa0 1 (by decide +kernel) rfl
theorem q_se_yX3_isShut : (Cond.selects RX3 yX3_isShut yX3_isShut) ∈ lw_g := qa0 2 (by decide +kernel) rfl
theorem q_se_yX3_holderOf : (Cond.selects RX3 yX3_holderOf yX3_holderOf) ∈ lw_g := qa0 3 (by decide +kernel) rfl
theorem q_se_yX3_isLesser : (Cond.selects RX3 yX3_isLesser yX3_isLesser) ∈ lw_g := qa0 4 (by decide +kernel) rfl
theorem q_se_yX3_placeOf : (Cond.selects RX3 yX3_placeOf yX3_placeOf) ∈ lw_g := qa0 5 (by decide +kernel) rfl
theorem q_se_yX3_putIn : (Cond.selects RX3 yX3_putIn yX3_putIn) ∈ lw_g := qa0 6 (by decide +kernel) rfl
theorem q_se_yX3_setHolder : (Cond.selects RX3 yX3_setHolder yX3_setHolder) ∈ lw_g := qa0 7 (by decide +kernel) rfl
theorem q_se_yX3_takeOut : (Cond.selects RX3 yX3_takeOut yX3_takeOut) ∈ lw_g := qa0 8 (by decide +kernel) rfl
theorem q_se_yX3_setOwnPlace : (Cond.selects RX3 yX3_setOwnPlace yX3_setOwnPlace) ∈ lw_g := qa0 9 (by decide +kernel) rfl
theorem q_se_yX3_foundExtra : (Cond.selects RX3 yX3_foundExtra yX3_foundExtra) ∈ lw_g := qa0 10 (by decide +kernel) rfl
theorem q_se_yX3_weightOf : (Cond.selects RX3 yX3_weightOf yX3_weightOf) ∈ lw_g := qa0 11 (by decide +kernel) rfl
theorem q_se_yX3_isWithin : (Cond.selects RX3 yX3_isWithin yX3_isWithin) ∈ lw_g := qa0 12 (by decide +kernel) rfl
theorem q_se_yX3_thingsOf : (Cond.selects RX3 yX3_thingsOf yX3_thingsOf) ∈ lw_g := qa0 13 (by decide +kernel) rfl
theorem q_se_yX4_isBag : (Cond.selects RX4 yX4_isBag yX4_isBag) ∈ lw_g := qa0 14 (by decide +kernel) rfl
theorem q_se_yX4_isThing : (Cond.selects RX4 yX4_isThing yX4_isThing) ∈ lw_g := qa0 15 (by decide +kernel) rfl
theorem q_se_yX4_isShutIn : (Cond.selects RX4 yX4_isShutIn yX4_isShutIn) ∈ lw_g := qa0 16 (by decide +kernel) rfl
theorem q_se_yX4_outer : (Cond.selects RX4 yX4_outer yX4_outer) ∈ lw_g := qa0 17 (by decide +kernel) rfl
theorem q_se_yX4_kindOf : (Cond.selects RX4 yX4_kindOf yX4_kindOf) ∈ lw_g := qa0 18 (by decide +kernel) rfl
theorem q_se_yX4_count : (Cond.selects RX4 yX4_count yX4_count) ∈ lw_g := qa0 19 (by decide +kernel) rfl
theorem q_se_yX4_put : (Cond.selects RX4 yX4_put yX4_put) ∈ lw_g := qa0 20 (by decide +kernel) rfl
theorem q_se_yX4_addNote : (Cond.selects RX4 yX4_addNote yX4_addNote) ∈ lw_g := qa0 21 (by decide +kernel) rfl
theorem q_se_yX4_liesIn : (Cond.selects RX4 yX4_liesIn yX4_liesIn) ∈ lw_g := qa0 22 (by decide +kernel) rfl
theorem q_se_yX4_listPlace : (Cond.selects RX4 yX4_listPlace yX4_listPlace) ∈ lw_g := qa0 23 (by decide +kernel) rfl
theorem q_se_yX4_isExtra : (Cond.selects RX4 yX4_isExtra yX4_isExtra) ∈ lw_g := qa0 24 (by decide +kernel) rfl
theorem q_se_yX4_bring : (Cond.selects RX4 yX4_bring yX4_bring) ∈ lw_g := qa0 25 (by decide +kernel) rfl
theorem q_se_yX4_difference : (Cond.selects RX4 yX4_difference yX4_difference) ∈ lw_g := qa0 26 (by decide +kernel) rfl
theorem q_se_yX4_pick : (Cond.selects RX4 yX4_pick yX4_pick) ∈ lw_g := qa0 27 (by decide +kernel) rfl
theorem q_se_yX4_own : (Cond.selects RX4 yX4_own yX4_own) ∈ lw_g := qa0 28 (by decide +kernel) rfl
set_option maxRecDepth 20000 in
theorem inX0 : ∀ w ∈ wsX00, w ∈ lw_g := by
  have h : wsX00 = ([55, 57, 59] : List Nat).filterMap (fun i => lw_tbl[i]?) := by decide +kernel
  intro w hw
  rw [h] at hw
  obtain ⟨i, -, hi⟩ := List.mem_filterMap.mp hw
  exact List.mem_filter.mpr ⟨List.mem_of_getElem? hi, List.all_eq_true.mp (show wsX00.all goodWord = true by decide +kernel) w (by rw [h]; exact hw)⟩
set_option maxRecDepth 20000 in
theorem inX1 : ∀ w ∈ wsX10, w ∈ lw_g := by
  have h : wsX10 = ([123, 125, 127, 129, 131, 133, 135, 137, 139, 141, 143] : List Nat).filterMap (fun i => lw_tbl[i]?) := by decide +kernel
  intro w hw
  rw [h] at hw
  obtain ⟨i, -, hi⟩ := List.mem_filterMap.mp hw
  exact List.mem_filter.mpr ⟨List.mem_of_getElem? hi, List.all_eq_true.mp (show wsX10.all goodWord = true by decide +kernel) w (by rw [h]; exact hw)⟩
set_option maxRecDepth 20000 in
theorem inX2 : ∀ w ∈ wsX20, w ∈ lw_g := by
  have h : wsX20 = ([100, 102] : List Nat).filterMap (fun i => lw_tbl[i]?) := by decide +kernel
  intro w hw
  rw [h] at hw
  obtain ⟨i, -, hi⟩ := List.mem_filterMap.mp hw
  exact List.mem_filter.mpr ⟨List.mem_of_getElem? hi, List.all_eq_true.mp (show wsX20.all goodWord = true by decide +kernel) w (by rw [h]; exact hw)⟩
set_option maxRecDepth 20000 in
theorem inX3 : ∀ w ∈ wsX30, w ∈ lw_g := by
  have h : wsX30 = ([70, 72, 74, 76, 78, 80] : List Nat).filterMap (fun i => lw_tbl[i]?) := by decide +kernel
  intro w hw
  rw [h] at hw
  obtain ⟨i, -, hi⟩ := List.mem_filterMap.mp hw
  exact List.mem_filter.mpr ⟨List.mem_of_getElem? hi, List.all_eq_true.mp (show wsX30.all goodWord = true by decide +kernel) w (by rw [h]; exact hw)⟩
set_option maxRecDepth 20000 in
theorem inX4 : ∀ w ∈ wsX40, w ∈ lw_g := by
  have h : wsX40 = ([364, 366, 368, 370, 372, 374, 376, 378, 380, 382, 384, 386, 388, 390, 392, 394, 396, 398, 400, 402, 404, 406, 408] : List Nat).filterMap (fun i => lw_tbl[i]?) := by decide +kernel
  intro w hw
  rw [h] at hw
  obtain ⟨i, -, hi⟩ := List.mem_filterMap.mp hw
  exact List.mem_filter.mpr ⟨List.mem_of_getElem? hi, List.all_eq_true.mp (show wsX40.all goodWord = true by decide +kernel) w (by rw [h]; exact hw)⟩
theorem lw_good : lw_g.all goodWord = true := List.all_eq_true.mpr fun w h => (List.mem_filter.mp h).2
theorem gK : ∀ w ∈ lw_g, w ∈ lw_g ∧ ((w.onTables && w.keeps) = true ∨ ∃ ty, w = .arrayClass ty) := fun w h => ⟨h, good_of_word (List.all_eq_true.mp lw_good w h)⟩
theorem gV {own C : String} {idx maxL : Nat} {y : MethodName} {cc : ByteArray} {ret : Option FieldType} (h1 : Cond.methodLink own idx y ∈ lw_g) (h2 : Cond.instanceMethod y ∈ lw_g) (h3 : Cond.selects C y y ∈ lw_g) (h4 : Cond.initialized C ∈ lw_g) (h5 : Cond.code y cc maxL ret ∈ lw_g) : GoodIn lw_g (wsV own idx C y (wA y cc maxL ret)) := by
  intro w hw
  simp only [wsV, wA, List.mem_append, List.mem_cons, List.not_mem_nil, or_false] at hw
  rcases hw with (rfl | rfl | rfl | rfl) | (rfl | h)
  · exact gK _ h1
  · exact gK _ h2
  · exact gK _ h3
  · exact gK _ h4
  · exact gK _ h5
  · exact gK _ h
theorem gI {maxL : Nat} {y : MethodName} {cc : ByteArray} {ret : Option FieldType} (h5 : Cond.code y cc maxL ret ∈ lw_g) : GoodIn lw_g (wA y cc maxL ret) := by
  intro w hw
  simp only [wA, List.mem_cons] at hw
  rcases hw with rfl | h
  · exact gK _ h5
  · exact gK _ h
theorem gS {own : String} {idx maxL : Nat} {y : MethodName} {cc : ByteArray} {ret : Option FieldType} (h1 : Cond.methodLink own idx y ∈ lw_g) (h2 : Cond.static y ∈ lw_g) (h4 : Cond.initialized own ∈ lw_g) (h5 : Cond.code y cc maxL ret ∈ lw_g) : GoodIn lw_g (wsS own idx y (wA y cc maxL ret)) := by
  intro w hw
  simp only [wsS, wA, List.mem_append, List.mem_cons, List.not_mem_nil, or_false] at hw
  rcases hw with (rfl | rfl | rfl) | (rfl | h)
  · exact gK _ h1
  · exact gK _ h2
  · exact gK _ h4
  · exact gK _ h5
  · exact gK _ h
/-- what a call of a method needs of the words -/
def MI (y : MethodName) (C : String) (cc : ByteArray) (maxL : Nat) (ret : Option FieldType) (n : Nat) : Prop := Cond.instanceMethod y ∈ lw_g ∧ Cond.selects C y y ∈ lw_g ∧ Cond.initialized C ∈ lw_g ∧ Cond.code y cc maxL ret ∈ lw_g ∧ y.cls = C ∧ y.cls ≠ "java/lang/invoke/MethodHandle" ∧ y.cls ≠ "java/lang/invoke/VarHandle" ∧ (parseMethodDescriptor y.desc).map (fun d => d.parameters.length) = some n
def MS (y : MethodName) (C : String) (cc : ByteArray) (maxL : Nat) (ret : Option FieldType) (n : Nat) : Prop := Cond.static y ∈ lw_g ∧ Cond.initialized C ∈ lw_g ∧ Cond.code y cc maxL ret ∈ lw_g ∧ y.cls = C ∧ y.cls ≠ "java/lang/invoke/MethodHandle" ∧ y.cls ≠ "java/lang/invoke/VarHandle" ∧ (parseMethodDescriptor y.desc).map (fun d => d.parameters.length) = some n
def MN (y : MethodName) (C : String) (cc : ByteArray) (maxL : Nat) (n : Nat) : Prop := Cond.instanceMethod y ∈ lw_g ∧ Cond.initialized C ∈ lw_g ∧ Cond.code y cc maxL none ∈ lw_g ∧ y.name = "<init>" ∧ y.cls ≠ "java/lang/invoke/MethodHandle" ∧ y.cls ≠ "java/lang/invoke/VarHandle" ∧ (parseMethodDescriptor y.desc).map (fun d => d.parameters.length) = some n
theorem mi_X3_init : MN yX3_init RX3 cX3_init 1 0 := ⟨q_im_yX3_init, q_ini_RX3, q_co_yX3_init, by decide +kernel, by decide +kernel, by decide +kernel, by decide +kernel⟩
theorem mi_X0_init : MN yX0_init RX0 cX0_init 1 0 := ⟨q_im_yX0_init, q_ini_RX0, q_co_yX0_init, by decide +kernel, by decide +kernel, by decide +kernel, by decide +kernel⟩
theorem mi_X3_bag : MI yX3_bag RX3 cX3_bag 3 (some .int) 1 := ⟨q_im_yX3_bag, q_se_yX3_bag, q_ini_RX3, q_co_yX3_bag, by decide +kernel, by decide +kernel, by decide +kernel, by decide +kernel⟩
theorem mi_X1_init : MN yX1_init RX1 cX1_init 2 1 := ⟨q_im_yX1_init, q_ini_RX1, q_co_yX1_init, by decide +kernel, by decide +kernel, by decide +kernel, by decide +kernel⟩
theorem mi_X2_init : MN yX2_init RX2 cX2_init 2 1 := ⟨q_im_yX2_init, q_ini_RX2, q_co_yX2_init, by decide +kernel, by decide +kernel, by decide +kernel, by decide +kernel⟩
theorem mi_X3_into : MI yX3_into RX3 cX3_into 4 (some .int) 2 := ⟨q_im_yX3_into, q_se_yX3_into, q_ini_RX3, q_co_yX3_into, by decide +kernel, by decide +kernel, by decide +kernel, by decide +kernel⟩
theorem mi_X3_receptacleOf : MI yX3_receptacleOf RX3 cX3_receptacleOf 3 (some (.object "BagRows$Receptacle")) 1 := ⟨q_im_yX3_receptacleOf, q_se_yX3_receptacleOf, q_ini_RX3, q_co_yX3_receptacleOf, by decide +kernel, by decide +kernel, by decide +kernel, by decide +kernel⟩
theorem mi_X3_isThing : MI yX3_isThing RX3 cX3_isThing 2 (some .boolean) 1 := ⟨q_im_yX3_isThing, q_se_yX3_isThing, q_ini_RX3, q_co_yX3_isThing, by decide +kernel, by decide +kernel, by decide +kernel, by decide +kernel⟩
theorem mi_X3_isItem : MS yX3_isItem RX3 cX3_isItem 1 (some .boolean) 1 := ⟨q_st_yX3_isItem, q_ini_RX3, q_co_yX3_isItem, by decide +kernel, by decide +kernel, by decide +kernel, by decide +kernel⟩
theorem mi_X3_isShut : MI yX3_isShut RX3 cX3_isShut 5 (some .boolean) 1 := ⟨q_im_yX3_isShut, q_se_yX3_isShut, q_ini_RX3, q_co_yX3_isShut, by decide +kernel, by decide +kernel, by decide +kernel, by decide +kernel⟩
theorem mi_X3_holderOf : MI yX3_holderOf RX3 cX3_holderOf 2 (some .int) 1 := ⟨q_im_yX3_holderOf, q_se_yX3_holderOf, q_ini_RX3, q_co_yX3_holderOf, by decide +kernel, by decide +kernel, by decide +kernel, by decide +kernel⟩
theorem mi_X3_isLesser : MI yX3_isLesser RX3 cX3_isLesser 5 (some .boolean) 2 := ⟨q_im_yX3_isLesser, q_se_yX3_isLesser, q_ini_RX3, q_co_yX3_isLesser, by decide +kernel, by decide +kernel, by decide +kernel, by decide +kernel⟩
theorem mi_X3_placeOf : MI yX3_placeOf RX3 cX3_placeOf 4 (some .int) 1 := ⟨q_im_yX3_placeOf, q_se_yX3_placeOf, q_ini_RX3, q_co_yX3_placeOf, by decide +kernel, by decide +kernel, by decide +kernel, by decide +kernel⟩
theorem mi_X2_isFull : MI yX2_isFull RX2 cX2_isFull 1 (some .boolean) 0 := ⟨q_im_yX2_isFull, q_se_yX2_isFull, q_ini_RX2, q_co_yX2_isFull, by decide +kernel, by decide +kernel, by decide +kernel, by decide +kernel⟩
theorem mi_X3_putIn : MI yX3_putIn RX3 cX3_putIn 4 none 3 := ⟨q_im_yX3_putIn, q_se_yX3_putIn, q_ini_RX3, q_co_yX3_putIn, by decide +kernel, by decide +kernel, by decide +kernel, by decide +kernel⟩
theorem mi_X2_append : MI yX2_append RX2 cX2_append 2 none 1 := ⟨q_im_yX2_append, q_se_yX2_append, q_ini_RX2, q_co_yX2_append, by decide +kernel, by decide +kernel, by decide +kernel, by decide +kernel⟩
theorem mi_X3_setHolder : MI yX3_setHolder RX3 cX3_setHolder 3 none 2 := ⟨q_im_yX3_setHolder, q_se_yX3_setHolder, q_ini_RX3, q_co_yX3_setHolder, by decide +kernel, by decide +kernel, by decide +kernel, by decide +kernel⟩
theorem mi_X3_take : MI yX3_take RX3 cX3_take 3 (some .int) 1 := ⟨q_im_yX3_take, q_se_yX3_take, q_ini_RX3, q_co_yX3_take, by decide +kernel, by decide +kernel, by decide +kernel, by decide +kernel⟩
theorem mi_X3_takeOut : MI yX3_takeOut RX3 cX3_takeOut 3 none 1 := ⟨q_im_yX3_takeOut, q_se_yX3_takeOut, q_ini_RX3, q_co_yX3_takeOut, by decide +kernel, by decide +kernel, by decide +kernel, by decide +kernel⟩
theorem mi_X3_setOwnPlace : MI yX3_setOwnPlace RX3 cX3_setOwnPlace 3 none 2 := ⟨q_im_yX3_setOwnPlace, q_se_yX3_setOwnPlace, q_ini_RX3, q_co_yX3_setOwnPlace, by decide +kernel, by decide +kernel, by decide +kernel, by decide +kernel⟩
theorem mi_X2_remove : MI yX2_remove RX2 cX2_remove 4 none 1 := ⟨q_im_yX2_remove, q_se_yX2_remove, q_ini_RX2, q_co_yX2_remove, by decide +kernel, by decide +kernel, by decide +kernel, by decide +kernel⟩
theorem mi_X3_close : MI yX3_close RX3 cX3_close 6 (some .int) 3 := ⟨q_im_yX3_close, q_se_yX3_close, q_ini_RX3, q_co_yX3_close, by decide +kernel, by decide +kernel, by decide +kernel, by decide +kernel⟩
theorem mi_X3_isSeal : MS yX3_isSeal RX3 cX3_isSeal 2 (some .boolean) 1 := ⟨q_st_yX3_isSeal, q_ini_RX3, q_co_yX3_isSeal, by decide +kernel, by decide +kernel, by decide +kernel, by decide +kernel⟩
theorem mi_X3_isPerson : MS yX3_isPerson RX3 cX3_isPerson 1 (some .boolean) 1 := ⟨q_st_yX3_isPerson, q_ini_RX3, q_co_yX3_isPerson, by decide +kernel, by decide +kernel, by decide +kernel, by decide +kernel⟩
theorem mi_X1_shut : MI yX1_shut RX1 cX1_shut 4 none 2 := ⟨q_im_yX1_shut, q_se_yX1_shut, q_ini_RX1, q_co_yX1_shut, by decide +kernel, by decide +kernel, by decide +kernel, by decide +kernel⟩
theorem mi_X2_becomeLike : MI yX2_becomeLike RX2 cX2_becomeLike 3 none 1 := ⟨q_im_yX2_becomeLike, q_se_yX2_becomeLike, q_ini_RX2, q_co_yX2_becomeLike, by decide +kernel, by decide +kernel, by decide +kernel, by decide +kernel⟩
theorem mi_X2_clear : MI yX2_clear RX2 cX2_clear 1 none 0 := ⟨q_im_yX2_clear, q_se_yX2_clear, q_ini_RX2, q_co_yX2_clear, by decide +kernel, by decide +kernel, by decide +kernel, by decide +kernel⟩
theorem mi_X2_size : MI yX2_size RX2 cX2_size 1 (some .int) 0 := ⟨q_im_yX2_size, q_se_yX2_size, q_ini_RX2, q_co_yX2_size, by decide +kernel, by decide +kernel, by decide +kernel, by decide +kernel⟩
theorem mi_X2_at : MI yX2_at RX2 cX2_at 2 (some .int) 1 := ⟨q_im_yX2_at, q_se_yX2_at, q_ini_RX2, q_co_yX2_at, by decide +kernel, by decide +kernel, by decide +kernel, by decide +kernel⟩
theorem mi_X3_open : MI yX3_open RX3 cX3_open 7 (some .int) 4 := ⟨q_im_yX3_open, q_se_yX3_open, q_ini_RX3, q_co_yX3_open, by decide +kernel, by decide +kernel, by decide +kernel, by decide +kernel⟩
theorem mi_X1_mayBeOpenedBy : MI yX1_mayBeOpenedBy RX1 cX1_mayBeOpenedBy 3 (some .boolean) 2 := ⟨q_im_yX1_mayBeOpenedBy, q_se_yX1_mayBeOpenedBy, q_ini_RX1, q_co_yX1_mayBeOpenedBy, by decide +kernel, by decide +kernel, by decide +kernel, by decide +kernel⟩
theorem mi_X1_unseal : MI yX1_unseal RX1 cX1_unseal 3 (some .boolean) 1 := ⟨q_im_yX1_unseal, q_se_yX1_unseal, q_ini_RX1, q_co_yX1_unseal, by decide +kernel, by decide +kernel, by decide +kernel, by decide +kernel⟩
theorem mi_X0_add : MI yX0_add RX0 cX0_add 3 none 1 := ⟨q_im_yX0_add, q_se_yX0_add, q_ini_RX0, q_co_yX0_add, by decide +kernel, by decide +kernel, by decide +kernel, by decide +kernel⟩
theorem mi_X3_found : MI yX3_found RX3 cX3_found 4 (some .int) 2 := ⟨q_im_yX3_found, q_se_yX3_found, q_ini_RX3, q_co_yX3_found, by decide +kernel, by decide +kernel, by decide +kernel, by decide +kernel⟩
theorem mi_X1_isChecked : MI yX1_isChecked RX1 cX1_isChecked 1 (some .boolean) 0 := ⟨q_im_yX1_isChecked, q_se_yX1_isChecked, q_ini_RX1, q_co_yX1_isChecked, by decide +kernel, by decide +kernel, by decide +kernel, by decide +kernel⟩
theorem mi_X2_holds : MI yX2_holds RX2 cX2_holds 3 (some .boolean) 1 := ⟨q_im_yX2_holds, q_se_yX2_holds, q_ini_RX2, q_co_yX2_holds, by decide +kernel, by decide +kernel, by decide +kernel, by decide +kernel⟩
theorem mi_X3_foundExtra : MI yX3_foundExtra RX3 cX3_foundExtra 5 (some .int) 3 := ⟨q_im_yX3_foundExtra, q_se_yX3_foundExtra, q_ini_RX3, q_co_yX3_foundExtra, by decide +kernel, by decide +kernel, by decide +kernel, by decide +kernel⟩
theorem mi_X3_differ : MI yX3_differ RX3 cX3_differ 8 (some .int) 3 := ⟨q_im_yX3_differ, q_se_yX3_differ, q_ini_RX3, q_co_yX3_differ, by decide +kernel, by decide +kernel, by decide +kernel, by decide +kernel⟩
theorem mi_X1_differencesOf : MI yX1_differencesOf RX1 cX1_differencesOf 2 (some (.object "BagRows$Row")) 1 := ⟨q_im_yX1_differencesOf, q_se_yX1_differencesOf, q_ini_RX1, q_co_yX1_differencesOf, by decide +kernel, by decide +kernel, by decide +kernel, by decide +kernel⟩
theorem mi_X3_inside : MI yX3_inside RX3 cX3_inside 2 (some .int) 1 := ⟨q_im_yX3_inside, q_se_yX3_inside, q_ini_RX3, q_co_yX3_inside, by decide +kernel, by decide +kernel, by decide +kernel, by decide +kernel⟩
theorem mi_X3_weight : MI yX3_weight RX3 cX3_weight 7 (some .int) 2 := ⟨q_im_yX3_weight, q_se_yX3_weight, q_ini_RX3, q_co_yX3_weight, by decide +kernel, by decide +kernel, by decide +kernel, by decide +kernel⟩
theorem mi_X3_weightOf : MI yX3_weightOf RX3 cX3_weightOf 6 (some .long) 1 := ⟨q_im_yX3_weightOf, q_se_yX3_weightOf, q_ini_RX3, q_co_yX3_weightOf, by decide +kernel, by decide +kernel, by decide +kernel, by decide +kernel⟩
theorem mi_X3_isWithin : MI yX3_isWithin RX3 cX3_isWithin 5 (some .boolean) 2 := ⟨q_im_yX3_isWithin, q_se_yX3_isWithin, q_ini_RX3, q_co_yX3_isWithin, by decide +kernel, by decide +kernel, by decide +kernel, by decide +kernel⟩
theorem mi_X3_weightOfItems : MS yX3_weightOfItems RX3 cX3_weightOfItems 5 (some .long) 1 := ⟨q_st_yX3_weightOfItems, q_ini_RX3, q_co_yX3_weightOfItems, by decide +kernel, by decide +kernel, by decide +kernel, by decide +kernel⟩
theorem mi_X3_document : MI yX3_document RX3 cX3_document 4 (some .int) 2 := ⟨q_im_yX3_document, q_se_yX3_document, q_ini_RX3, q_co_yX3_document, by decide +kernel, by decide +kernel, by decide +kernel, by decide +kernel⟩
theorem mi_X3_move : MI yX3_move RX3 cX3_move 4 (some .int) 2 := ⟨q_im_yX3_move, q_se_yX3_move, q_ini_RX3, q_co_yX3_move, by decide +kernel, by decide +kernel, by decide +kernel, by decide +kernel⟩
theorem mi_X3_thingsOf : MI yX3_thingsOf RX3 cX3_thingsOf 5 (some .int) 1 := ⟨q_im_yX3_thingsOf, q_se_yX3_thingsOf, q_ini_RX3, q_co_yX3_thingsOf, by decide +kernel, by decide +kernel, by decide +kernel, by decide +kernel⟩
theorem mi_X3_place : MI yX3_place RX3 cX3_place 2 (some .int) 1 := ⟨q_im_yX3_place, q_se_yX3_place, q_ini_RX3, q_co_yX3_place, by decide +kernel, by decide +kernel, by decide +kernel, by decide +kernel⟩
theorem mi_X3_tick : MI yX3_tick RX3 cX3_tick 3 (some .int) 1 := ⟨q_im_yX3_tick, q_se_yX3_tick, q_ini_RX3, q_co_yX3_tick, by decide +kernel, by decide +kernel, by decide +kernel, by decide +kernel⟩
theorem mi_X0_tellUntil : MI yX0_tellUntil RX0 cX0_tellUntil 5 (some .int) 1 := ⟨q_im_yX0_tellUntil, q_se_yX0_tellUntil, q_ini_RX0, q_co_yX0_tellUntil, by decide +kernel, by decide +kernel, by decide +kernel, by decide +kernel⟩
theorem mi_X4_init : MN yX4_init RX4 cX4_init 1 0 := ⟨q_im_yX4_init, q_ini_RX4, q_co_yX4_init, by decide +kernel, by decide +kernel, by decide +kernel, by decide +kernel⟩
theorem mi_X4_bag : MI yX4_bag RX4 cX4_bag 2 (some .int) 1 := ⟨q_im_yX4_bag, q_se_yX4_bag, q_ini_RX4, q_co_yX4_bag, by decide +kernel, by decide +kernel, by decide +kernel, by decide +kernel⟩
theorem mi_X4_into : MI yX4_into RX4 cX4_into 3 (some .int) 2 := ⟨q_im_yX4_into, q_se_yX4_into, q_ini_RX4, q_co_yX4_into, by decide +kernel, by decide +kernel, by decide +kernel, by decide +kernel⟩
theorem mi_X4_isBag : MI yX4_isBag RX4 cX4_isBag 2 (some .boolean) 1 := ⟨q_im_yX4_isBag, q_se_yX4_isBag, q_ini_RX4, q_co_yX4_isBag, by decide +kernel, by decide +kernel, by decide +kernel, by decide +kernel⟩
theorem mi_X4_isThing : MI yX4_isThing RX4 cX4_isThing 2 (some .boolean) 1 := ⟨q_im_yX4_isThing, q_se_yX4_isThing, q_ini_RX4, q_co_yX4_isThing, by decide +kernel, by decide +kernel, by decide +kernel, by decide +kernel⟩
theorem mi_X4_isShutIn : MI yX4_isShutIn RX4 cX4_isShutIn 4 (some .boolean) 1 := ⟨q_im_yX4_isShutIn, q_se_yX4_isShutIn, q_ini_RX4, q_co_yX4_isShutIn, by decide +kernel, by decide +kernel, by decide +kernel, by decide +kernel⟩
theorem mi_X4_outer : MI yX4_outer RX4 cX4_outer 2 (some .int) 1 := ⟨q_im_yX4_outer, q_se_yX4_outer, q_ini_RX4, q_co_yX4_outer, by decide +kernel, by decide +kernel, by decide +kernel, by decide +kernel⟩
theorem mi_X4_kindOf : MI yX4_kindOf RX4 cX4_kindOf 2 (some .int) 1 := ⟨q_im_yX4_kindOf, q_se_yX4_kindOf, q_ini_RX4, q_co_yX4_kindOf, by decide +kernel, by decide +kernel, by decide +kernel, by decide +kernel⟩
theorem mi_X4_count : MI yX4_count RX4 cX4_count 4 (some .int) 1 := ⟨q_im_yX4_count, q_se_yX4_count, q_ini_RX4, q_co_yX4_count, by decide +kernel, by decide +kernel, by decide +kernel, by decide +kernel⟩
theorem mi_X4_put : MI yX4_put RX4 cX4_put 3 none 2 := ⟨q_im_yX4_put, q_se_yX4_put, q_ini_RX4, q_co_yX4_put, by decide +kernel, by decide +kernel, by decide +kernel, by decide +kernel⟩
theorem mi_X4_take : MI yX4_take RX4 cX4_take 3 (some .int) 1 := ⟨q_im_yX4_take, q_se_yX4_take, q_ini_RX4, q_co_yX4_take, by decide +kernel, by decide +kernel, by decide +kernel, by decide +kernel⟩
theorem mi_X4_close : MI yX4_close RX4 cX4_close 12 (some .int) 3 := ⟨q_im_yX4_close, q_se_yX4_close, q_ini_RX4, q_co_yX4_close, by decide +kernel, by decide +kernel, by decide +kernel, by decide +kernel⟩
theorem mi_X4_open : MI yX4_open RX4 cX4_open 9 (some .int) 4 := ⟨q_im_yX4_open, q_se_yX4_open, q_ini_RX4, q_co_yX4_open, by decide +kernel, by decide +kernel, by decide +kernel, by decide +kernel⟩
theorem mi_X4_addNote : MI yX4_addNote RX4 cX4_addNote 1 none 0 := ⟨q_im_yX4_addNote, q_se_yX4_addNote, q_ini_RX4, q_co_yX4_addNote, by decide +kernel, by decide +kernel, by decide +kernel, by decide +kernel⟩
theorem mi_X4_found : MI yX4_found RX4 cX4_found 6 (some .int) 2 := ⟨q_im_yX4_found, q_se_yX4_found, q_ini_RX4, q_co_yX4_found, by decide +kernel, by decide +kernel, by decide +kernel, by decide +kernel⟩
theorem mi_X4_liesIn : MI yX4_liesIn RX4 cX4_liesIn 5 (some .boolean) 2 := ⟨q_im_yX4_liesIn, q_se_yX4_liesIn, q_ini_RX4, q_co_yX4_liesIn, by decide +kernel, by decide +kernel, by decide +kernel, by decide +kernel⟩
theorem mi_X4_listPlace : MI yX4_listPlace RX4 cX4_listPlace 5 (some .int) 2 := ⟨q_im_yX4_listPlace, q_se_yX4_listPlace, q_ini_RX4, q_co_yX4_listPlace, by decide +kernel, by decide +kernel, by decide +kernel, by decide +kernel⟩
theorem mi_X4_isExtra : MI yX4_isExtra RX4 cX4_isExtra 5 (some .boolean) 2 := ⟨q_im_yX4_isExtra, q_se_yX4_isExtra, q_ini_RX4, q_co_yX4_isExtra, by decide +kernel, by decide +kernel, by decide +kernel, by decide +kernel⟩
theorem mi_X4_bring : MI yX4_bring RX4 cX4_bring 5 (some .int) 2 := ⟨q_im_yX4_bring, q_se_yX4_bring, q_ini_RX4, q_co_yX4_bring, by decide +kernel, by decide +kernel, by decide +kernel, by decide +kernel⟩
theorem mi_X4_differ : MI yX4_differ RX4 cX4_differ 4 (some .int) 3 := ⟨q_im_yX4_differ, q_se_yX4_differ, q_ini_RX4, q_co_yX4_differ, by decide +kernel, by decide +kernel, by decide +kernel, by decide +kernel⟩
theorem mi_X4_difference : MI yX4_difference RX4 cX4_difference 6 (some .int) 3 := ⟨q_im_yX4_difference, q_se_yX4_difference, q_ini_RX4, q_co_yX4_difference, by decide +kernel, by decide +kernel, by decide +kernel, by decide +kernel⟩
theorem mi_X4_pick : MI yX4_pick RX4 cX4_pick 5 (some .int) 3 := ⟨q_im_yX4_pick, q_se_yX4_pick, q_ini_RX4, q_co_yX4_pick, by decide +kernel, by decide +kernel, by decide +kernel, by decide +kernel⟩
theorem mi_X4_inside : MI yX4_inside RX4 cX4_inside 2 (some .int) 1 := ⟨q_im_yX4_inside, q_se_yX4_inside, q_ini_RX4, q_co_yX4_inside, by decide +kernel, by decide +kernel, by decide +kernel, by decide +kernel⟩
theorem mi_X4_weight : MI yX4_weight RX4 cX4_weight 9 (some .int) 2 := ⟨q_im_yX4_weight, q_se_yX4_weight, q_ini_RX4, q_co_yX4_weight, by decide +kernel, by decide +kernel, by decide +kernel, by decide +kernel⟩
theorem mi_X4_own : MI yX4_own RX4 cX4_own 2 (some .long) 1 := ⟨q_im_yX4_own, q_se_yX4_own, q_ini_RX4, q_co_yX4_own, by decide +kernel, by decide +kernel, by decide +kernel, by decide +kernel⟩
theorem mi_X4_document : MI yX4_document RX4 cX4_document 3 (some .int) 2 := ⟨q_im_yX4_document, q_se_yX4_document, q_ini_RX4, q_co_yX4_document, by decide +kernel, by decide +kernel, by decide +kernel, by decide +kernel⟩
theorem mi_X4_move : MI yX4_move RX4 cX4_move 3 (some .int) 2 := ⟨q_im_yX4_move, q_se_yX4_move, q_ini_RX4, q_co_yX4_move, by decide +kernel, by decide +kernel, by decide +kernel, by decide +kernel⟩
theorem mi_X4_place : MI yX4_place RX4 cX4_place 2 (some .int) 1 := ⟨q_im_yX4_place, q_se_yX4_place, q_ini_RX4, q_co_yX4_place, by decide +kernel, by decide +kernel, by decide +kernel, by decide +kernel⟩
theorem mi_X4_tick : MI yX4_tick RX4 cX4_tick 5 (some .int) 1 := ⟨q_im_yX4_tick, q_se_yX4_tick, q_ini_RX4, q_co_yX4_tick, by decide +kernel, by decide +kernel, by decide +kernel, by decide +kernel⟩
