section
-- ===== PART A: goes FIRST, ahead of the names: the tables' words, and 'selects' of the private methods out of them =====
/-- a private method of a class that the tables say can be made, by its rows of tables_1 -/
def lw_okq (q : MethodName × Nat) : Prop := (q.1.cls ≠ "java/lang/invoke/MethodHandle" ∧ q.1.cls ≠ "java/lang/invoke/VarHandle") ∧ Cond.instantiable q.1.cls q.2 ∈ tables_1 ∧ Cond.privateMethod q.1 ∈ tables_1 ∧ Cond.instanceMethod q.1 ∈ tables_1
theorem lw_p0 : lw_okq (⟨"TillHolds", "begin", "(LTillHolds$Till;)Z"⟩, 7) := ⟨⟨by decide +kernel, by decide +kernel⟩, List.mem_of_getElem? (i := 8) (by decide +kernel), List.mem_of_getElem? (i := 120) (by decide +kernel), List.mem_of_getElem? (i := 121) (by decide +kernel)⟩
theorem lw_p1 : lw_okq (⟨"TillHolds", "end", "(I)I"⟩, 7) := ⟨⟨by decide +kernel, by decide +kernel⟩, List.mem_of_getElem? (i := 8) (by decide +kernel), List.mem_of_getElem? (i := 131) (by decide +kernel), List.mem_of_getElem? (i := 132) (by decide +kernel)⟩
theorem lw_p2 : lw_okq (⟨"TillHolds", "layPicked", "(LTillHolds$Till;)I"⟩, 7) := ⟨⟨by decide +kernel, by decide +kernel⟩, List.mem_of_getElem? (i := 8) (by decide +kernel), List.mem_of_getElem? (i := 150) (by decide +kernel), List.mem_of_getElem? (i := 151) (by decide +kernel)⟩
theorem lw_p3 : lw_okq (⟨"TillHolds", "pay", "(LTillHolds$Till;I)I"⟩, 7) := ⟨⟨by decide +kernel, by decide +kernel⟩, List.mem_of_getElem? (i := 8) (by decide +kernel), List.mem_of_getElem? (i := 171) (by decide +kernel), List.mem_of_getElem? (i := 172) (by decide +kernel)⟩
theorem lw_p4 : lw_okq (⟨"TillHolds", "pick", "(LTillHolds$Till;I)Z"⟩, 7) := ⟨⟨by decide +kernel, by decide +kernel⟩, List.mem_of_getElem? (i := 8) (by decide +kernel), List.mem_of_getElem? (i := 175) (by decide +kernel), List.mem_of_getElem? (i := 176) (by decide +kernel)⟩
theorem lw_p5 : lw_okq (⟨"TillHolds", "moveWithin", "(LTillHolds$Till;LTillHolds$Till;IZ)I"⟩, 7) := ⟨⟨by decide +kernel, by decide +kernel⟩, List.mem_of_getElem? (i := 8) (by decide +kernel), List.mem_of_getElem? (i := 188) (by decide +kernel), List.mem_of_getElem? (i := 189) (by decide +kernel)⟩
theorem lw_p6 : lw_okq (⟨"TillHolds", "readRow", "(I)I"⟩, 7) := ⟨⟨by decide +kernel, by decide +kernel⟩, List.mem_of_getElem? (i := 8) (by decide +kernel), List.mem_of_getElem? (i := 196) (by decide +kernel), List.mem_of_getElem? (i := 197) (by decide +kernel)⟩
theorem lw_p7 : lw_okq (⟨"TillHolds", "passFrom", "(IIIZ)I"⟩, 7) := ⟨⟨by decide +kernel, by decide +kernel⟩, List.mem_of_getElem? (i := 8) (by decide +kernel), List.mem_of_getElem? (i := 208) (by decide +kernel), List.mem_of_getElem? (i := 209) (by decide +kernel)⟩
theorem lw_p8 : lw_okq (⟨"TillHolds", "passWithin", "(LTillHolds$Till;IIIZ)I"⟩, 7) := ⟨⟨by decide +kernel, by decide +kernel⟩, List.mem_of_getElem? (i := 8) (by decide +kernel), List.mem_of_getElem? (i := 212) (by decide +kernel), List.mem_of_getElem? (i := 213) (by decide +kernel)⟩
theorem lw_p9 : lw_okq (⟨"TillHolds", "couldPay", "(LTillHolds$Till;I)Z"⟩, 7) := ⟨⟨by decide +kernel, by decide +kernel⟩, List.mem_of_getElem? (i := 8) (by decide +kernel), List.mem_of_getElem? (i := 230) (by decide +kernel), List.mem_of_getElem? (i := 231) (by decide +kernel)⟩
theorem lw_p10 : lw_okq (⟨"TillHolds", "tillsThere", "()I"⟩, 7) := ⟨⟨by decide +kernel, by decide +kernel⟩, List.mem_of_getElem? (i := 8) (by decide +kernel), List.mem_of_getElem? (i := 262) (by decide +kernel), List.mem_of_getElem? (i := 263) (by decide +kernel)⟩
theorem lw_p11 : lw_okq (⟨"TillHoldsModel", "empty", "(I)V"⟩, 11) := ⟨⟨by decide +kernel, by decide +kernel⟩, List.mem_of_getElem? (i := 266) (by decide +kernel), List.mem_of_getElem? (i := 317) (by decide +kernel), List.mem_of_getElem? (i := 318) (by decide +kernel)⟩
theorem lw_p12 : lw_okq (⟨"TillHoldsModel", "hold", "(I)I"⟩, 11) := ⟨⟨by decide +kernel, by decide +kernel⟩, List.mem_of_getElem? (i := 266) (by decide +kernel), List.mem_of_getElem? (i := 329) (by decide +kernel), List.mem_of_getElem? (i := 330) (by decide +kernel)⟩
theorem lw_p13 : lw_okq (⟨"TillHoldsModel", "leave", "(I)I"⟩, 11) := ⟨⟨by decide +kernel, by decide +kernel⟩, List.mem_of_getElem? (i := 266) (by decide +kernel), List.mem_of_getElem? (i := 336) (by decide +kernel), List.mem_of_getElem? (i := 337) (by decide +kernel)⟩
theorem lw_p14 : lw_okq (⟨"TillHoldsModel", "lay", "(I[I)I"⟩, 11) := ⟨⟨by decide +kernel, by decide +kernel⟩, List.mem_of_getElem? (i := 266) (by decide +kernel), List.mem_of_getElem? (i := 344) (by decide +kernel), List.mem_of_getElem? (i := 345) (by decide +kernel)⟩
theorem lw_p15 : lw_okq (⟨"TillHoldsModel", "all", "(I)I"⟩, 11) := ⟨⟨by decide +kernel, by decide +kernel⟩, List.mem_of_getElem? (i := 266) (by decide +kernel), List.mem_of_getElem? (i := 348) (by decide +kernel), List.mem_of_getElem? (i := 349) (by decide +kernel)⟩
def lw_privs_1 : List (MethodName × Nat) := [(⟨"TillHolds", "begin", "(LTillHolds$Till;)Z"⟩, 7), (⟨"TillHolds", "end", "(I)I"⟩, 7), (⟨"TillHolds", "layPicked", "(LTillHolds$Till;)I"⟩, 7), (⟨"TillHolds", "pay", "(LTillHolds$Till;I)I"⟩, 7), (⟨"TillHolds", "pick", "(LTillHolds$Till;I)Z"⟩, 7), (⟨"TillHolds", "moveWithin", "(LTillHolds$Till;LTillHolds$Till;IZ)I"⟩, 7), (⟨"TillHolds", "readRow", "(I)I"⟩, 7), (⟨"TillHolds", "passFrom", "(IIIZ)I"⟩, 7), (⟨"TillHolds", "passWithin", "(LTillHolds$Till;IIIZ)I"⟩, 7), (⟨"TillHolds", "couldPay", "(LTillHolds$Till;I)Z"⟩, 7), (⟨"TillHolds", "tillsThere", "()I"⟩, 7), (⟨"TillHoldsModel", "empty", "(I)V"⟩, 11), (⟨"TillHoldsModel", "hold", "(I)I"⟩, 11), (⟨"TillHoldsModel", "leave", "(I)I"⟩, 11), (⟨"TillHoldsModel", "lay", "(I[I)I"⟩, 11), (⟨"TillHoldsModel", "all", "(I)I"⟩, 11)]
theorem lw_r1 : ∀ q ∈ lw_privs_1, lw_okq q := List.forall_mem_cons.mpr ⟨lw_p0, List.forall_mem_cons.mpr ⟨lw_p1, List.forall_mem_cons.mpr ⟨lw_p2, List.forall_mem_cons.mpr ⟨lw_p3, List.forall_mem_cons.mpr ⟨lw_p4, List.forall_mem_cons.mpr ⟨lw_p5, List.forall_mem_cons.mpr ⟨lw_p6, List.forall_mem_cons.mpr ⟨lw_p7, List.forall_mem_cons.mpr ⟨lw_p8, List.forall_mem_cons.mpr ⟨lw_p9, List.forall_mem_cons.mpr ⟨lw_p10, List.forall_mem_cons.mpr ⟨lw_p11, List.forall_mem_cons.mpr ⟨lw_p12, List.forall_mem_cons.mpr ⟨lw_p13, List.forall_mem_cons.mpr ⟨lw_p14, List.forall_mem_cons.mpr ⟨lw_p15, fun _ h => absurd h List.not_mem_nil⟩⟩⟩⟩⟩⟩⟩⟩⟩⟩⟩⟩⟩⟩⟩⟩
theorem lw_p16 : lw_okq (⟨"TillHoldsModel", "go", "(II[I)V"⟩, 11) := ⟨⟨by decide +kernel, by decide +kernel⟩, List.mem_of_getElem? (i := 266) (by decide +kernel), List.mem_of_getElem? (i := 355) (by decide +kernel), List.mem_of_getElem? (i := 356) (by decide +kernel)⟩
theorem lw_p17 : lw_okq (⟨"TillHoldsModel", "pay", "(II)I"⟩, 11) := ⟨⟨by decide +kernel, by decide +kernel⟩, List.mem_of_getElem? (i := 266) (by decide +kernel), List.mem_of_getElem? (i := 363) (by decide +kernel), List.mem_of_getElem? (i := 364) (by decide +kernel)⟩
theorem lw_p18 : lw_okq (⟨"TillHoldsModel", "lacks", "(II)I"⟩, 11) := ⟨⟨by decide +kernel, by decide +kernel⟩, List.mem_of_getElem? (i := 266) (by decide +kernel), List.mem_of_getElem? (i := 367) (by decide +kernel), List.mem_of_getElem? (i := 368) (by decide +kernel)⟩
theorem lw_p19 : lw_okq (⟨"TillHoldsModel", "keep", "(II)V"⟩, 11) := ⟨⟨by decide +kernel, by decide +kernel⟩, List.mem_of_getElem? (i := 266) (by decide +kernel), List.mem_of_getElem? (i := 389) (by decide +kernel), List.mem_of_getElem? (i := 390) (by decide +kernel)⟩
theorem lw_p20 : lw_okq (⟨"TillHoldsModel", "putBack", "(II)V"⟩, 11) := ⟨⟨by decide +kernel, by decide +kernel⟩, List.mem_of_getElem? (i := 266) (by decide +kernel), List.mem_of_getElem? (i := 393) (by decide +kernel), List.mem_of_getElem? (i := 394) (by decide +kernel)⟩
theorem lw_p21 : lw_okq (⟨"TillHoldsModel", "told", "(III)I"⟩, 11) := ⟨⟨by decide +kernel, by decide +kernel⟩, List.mem_of_getElem? (i := 266) (by decide +kernel), List.mem_of_getElem? (i := 409) (by decide +kernel), List.mem_of_getElem? (i := 410) (by decide +kernel)⟩
theorem lw_p22 : lw_okq (⟨"TillHoldsModel", "worth", "(I)I"⟩, 11) := ⟨⟨by decide +kernel, by decide +kernel⟩, List.mem_of_getElem? (i := 266) (by decide +kernel), List.mem_of_getElem? (i := 413) (by decide +kernel), List.mem_of_getElem? (i := 414) (by decide +kernel)⟩
def lw_privs_2 : List (MethodName × Nat) := [(⟨"TillHoldsModel", "go", "(II[I)V"⟩, 11), (⟨"TillHoldsModel", "pay", "(II)I"⟩, 11), (⟨"TillHoldsModel", "lacks", "(II)I"⟩, 11), (⟨"TillHoldsModel", "keep", "(II)V"⟩, 11), (⟨"TillHoldsModel", "putBack", "(II)V"⟩, 11), (⟨"TillHoldsModel", "told", "(III)I"⟩, 11), (⟨"TillHoldsModel", "worth", "(I)I"⟩, 11)]
theorem lw_r2 : ∀ q ∈ lw_privs_2, lw_okq q := List.forall_mem_cons.mpr ⟨lw_p16, List.forall_mem_cons.mpr ⟨lw_p17, List.forall_mem_cons.mpr ⟨lw_p18, List.forall_mem_cons.mpr ⟨lw_p19, List.forall_mem_cons.mpr ⟨lw_p20, List.forall_mem_cons.mpr ⟨lw_p21, List.forall_mem_cons.mpr ⟨lw_p22, fun _ h => absurd h List.not_mem_nil⟩⟩⟩⟩⟩⟩⟩
def lw_privs : List (MethodName × Nat) := lw_privs_1 ++ (lw_privs_2)
def lw_tbl : List Cond := k2_sels lw_privs ++ tables_1
theorem lw_privs_ok : ∀ q ∈ lw_privs, lw_okq q := by
  show ∀ q ∈ lw_privs_1 ++ (lw_privs_2), lw_okq q
  exact List.forall_mem_append.mpr ⟨lw_r1, lw_r2⟩

def RX0 : String := "TillHolds$Coins"
def TX0 : u_T := fun k => match k with
  | _ => ("TillHolds$Coins", "of", "[I", true)
def tyX0 : Nat → FieldType := fun k => match k with
  | _ => .array .int
abbrev wsX00 : List Cond := u_ws RX0 TX0 1
theorem nmX0 : ∀ a, a < 1 → ∀ b, b < 1 → a ≠ b → (TX0 a).2.1 ≠ (TX0 b).2.1 := by decide +kernel
theorem tyX0_ok : ∀ k, k < 1 → parseFieldDescriptor (TX0 k).2.2.1 = some (tyX0 k) := by decide +kernel
abbrev cX0_init : ByteArray := prog_2_method_1_code
def yX0_init : MethodName := ⟨RX0, "<init>", "()V"⟩
abbrev cX0_number : ByteArray := prog_2_method_2_code
def yX0_number : MethodName := ⟨RX0, "number", "()I"⟩
abbrev cX0_worth : ByteArray := prog_2_method_3_code
def yX0_worth : MethodName := ⟨RX0, "worth", "()I"⟩
abbrev cX0_tell : ByteArray := prog_2_method_4_code
def yX0_tell : MethodName := ⟨RX0, "tell", "(I)I"⟩
abbrev cX0_clear : ByteArray := prog_2_method_5_code
def yX0_clear : MethodName := ⟨RX0, "clear", "()V"⟩
abbrev cX0_become : ByteArray := prog_2_method_6_code
def yX0_become : MethodName := ⟨RX0, "become", "(LTillHolds$Coins;)V"⟩
abbrev cX0_add : ByteArray := prog_2_method_7_code
def yX0_add : MethodName := ⟨RX0, "add", "(LTillHolds$Coins;)V"⟩
abbrev cX0_remove : ByteArray := prog_2_method_8_code
def yX0_remove : MethodName := ⟨RX0, "remove", "(LTillHolds$Coins;)V"⟩
def RX1 : String := "TillHolds$Holds"
def TX1 : u_T := fun k => match k with
  | 0 => ("TillHolds$Holds", "begun", "I", false)
  | 1 => ("TillHolds$Holds", "left", "I", false)
  | 2 => ("TillHolds$Holds", "depth", "I", false)
  | _ => ("TillHolds$Holds", "deepest", "I", false)
def tyX1 : Nat → FieldType := fun k => match k with
  | 0 => .int
  | 1 => .int
  | 2 => .int
  | _ => .int
abbrev wsX10 : List Cond := u_ws RX1 TX1 4
theorem nmX1 : ∀ a, a < 4 → ∀ b, b < 4 → a ≠ b → (TX1 a).2.1 ≠ (TX1 b).2.1 := by decide +kernel
theorem tyX1_ok : ∀ k, k < 4 → parseFieldDescriptor (TX1 k).2.2.1 = some (tyX1 k) := by decide +kernel
abbrev cX1_init : ByteArray := prog_3_method_1_code
def yX1_init : MethodName := ⟨RX1, "<init>", "()V"⟩
abbrev cX1_begin : ByteArray := prog_3_method_2_code
def yX1_begin : MethodName := ⟨RX1, "begin", "()V"⟩
abbrev cX1_end : ByteArray := prog_3_method_3_code
def yX1_end : MethodName := ⟨RX1, "end", "(Z)V"⟩
def RX2 : String := "TillHolds$Till"
def TX2 : u_T := fun k => match k with
  | 0 => ("TillHolds$Till", "coins", "LTillHolds$Coins;", true)
  | 1 => ("TillHolds$Till", "isThere", "Z", false)
  | 2 => ("TillHolds$Till", "isShut", "Z", false)
  | _ => ("TillHolds$Till", "limit", "I", false)
def tyX2 : Nat → FieldType := fun k => match k with
  | 0 => .object "TillHolds$Coins"
  | 1 => .boolean
  | 2 => .boolean
  | _ => .int
abbrev wsX20 : List Cond := u_ws RX2 TX2 4
theorem nmX2 : ∀ a, a < 4 → ∀ b, b < 4 → a ≠ b → (TX2 a).2.1 ≠ (TX2 b).2.1 := by decide +kernel
theorem tyX2_ok : ∀ k, k < 4 → parseFieldDescriptor (TX2 k).2.2.1 = some (tyX2 k) := by decide +kernel
abbrev cX2_init : ByteArray := prog_4_method_1_code
def yX2_init : MethodName := ⟨RX2, "<init>", "()V"⟩
abbrev cX2_hasRoomFor : ByteArray := prog_4_method_2_code
def yX2_hasRoomFor : MethodName := ⟨RX2, "hasRoomFor", "(I)Z"⟩
abbrev cX2_tell : ByteArray := prog_4_method_3_code
def yX2_tell : MethodName := ⟨RX2, "tell", "(I)I"⟩
def RX3 : String := "TillHolds"
def TX3 : u_T := fun k => match k with
  | 0 => ("TillHolds", "tills", "[LTillHolds$Till;", true)
  | 1 => ("TillHolds", "inHand", "LTillHolds$Coins;", true)
  | 2 => ("TillHolds", "holds", "LTillHolds$Holds;", true)
  | 3 => ("TillHolds", "picked", "LTillHolds$Coins;", true)
  | 4 => ("TillHolds", "handBefore", "LTillHolds$Coins;", true)
  | 5 => ("TillHolds", "coinsBefore", "[LTillHolds$Coins;", true)
  | _ => ("TillHolds", "places", "[I", true)
def tyX3 : Nat → FieldType := fun k => match k with
  | 0 => .array (.object "TillHolds$Till")
  | 1 => .object "TillHolds$Coins"
  | 2 => .object "TillHolds$Holds"
  | 3 => .object "TillHolds$Coins"
  | 4 => .object "TillHolds$Coins"
  | 5 => .array (.object "TillHolds$Coins")
  | _ => .array .int
abbrev wsX30 : List Cond := u_ws RX3 TX3 7
theorem nmX3 : ∀ a, a < 7 → ∀ b, b < 7 → a ≠ b → (TX3 a).2.1 ≠ (TX3 b).2.1 := by decide +kernel
theorem tyX3_ok : ∀ k, k < 7 → parseFieldDescriptor (TX3 k).2.2.1 = some (tyX3 k) := by decide +kernel
abbrev cX3_init : ByteArray := prog_1_method_1_code
def yX3_init : MethodName := ⟨RX3, "<init>", "()V"⟩
abbrev cX3_till : ByteArray := prog_1_method_2_code
def yX3_till : MethodName := ⟨RX3, "till", "(II)I"⟩
abbrev cX3_drop : ByteArray := prog_1_method_3_code
def yX3_drop : MethodName := ⟨RX3, "drop", "(I)I"⟩
abbrev cX3_shut : ByteArray := prog_1_method_4_code
def yX3_shut : MethodName := ⟨RX3, "shut", "(IZ)I"⟩
abbrev cX3_put : ByteArray := prog_1_method_5_code
def yX3_put : MethodName := ⟨RX3, "put", "(III)I"⟩
abbrev cX3_take : ByteArray := prog_1_method_6_code
def yX3_take : MethodName := ⟨RX3, "take", "(II)I"⟩
abbrev cX3_move : ByteArray := prog_1_method_7_code
def yX3_move : MethodName := ⟨RX3, "move", "(IIIZ)I"⟩
abbrev cX3_pass : ByteArray := prog_1_method_8_code
def yX3_pass : MethodName := ⟨RX3, "pass", "(IIZ)I"⟩
abbrev cX3_share : ByteArray := prog_1_method_9_code
def yX3_share : MethodName := ⟨RX3, "share", "(III)I"⟩
abbrev cX3_first : ByteArray := prog_1_method_10_code
def yX3_first : MethodName := ⟨RX3, "first", "(I)I"⟩
abbrev cX3_look : ByteArray := prog_1_method_11_code
def yX3_look : MethodName := ⟨RX3, "look", "(II)I"⟩
abbrev cX3_hand : ByteArray := prog_1_method_12_code
def yX3_hand : MethodName := ⟨RX3, "hand", "(I)I"⟩
abbrev cX3_count : ByteArray := prog_1_method_13_code
def yX3_count : MethodName := ⟨RX3, "count", "(I)I"⟩
abbrev cX3_isUpTo : ByteArray := prog_1_method_14_code
def yX3_isUpTo : MethodName := ⟨RX3, "isUpTo", "(II)Z"⟩
abbrev cX3_isTill : ByteArray := prog_1_method_15_code
def yX3_isTill : MethodName := ⟨RX3, "isTill", "(I)Z"⟩
abbrev cX3_isKind : ByteArray := prog_1_method_16_code
def yX3_isKind : MethodName := ⟨RX3, "isKind", "(I)Z"⟩
abbrev cX3_tillsThere : ByteArray := prog_1_method_17_code
def yX3_tillsThere : MethodName := ⟨RX3, "tillsThere", "()I"⟩
abbrev cX3_begin : ByteArray := prog_1_method_18_code
def yX3_begin : MethodName := ⟨RX3, "begin", "(LTillHolds$Till;)Z"⟩
abbrev cX3_end : ByteArray := prog_1_method_19_code
def yX3_end : MethodName := ⟨RX3, "end", "(I)I"⟩
abbrev cX3_pick : ByteArray := prog_1_method_20_code
def yX3_pick : MethodName := ⟨RX3, "pick", "(LTillHolds$Till;I)Z"⟩
abbrev cX3_couldPay : ByteArray := prog_1_method_21_code
def yX3_couldPay : MethodName := ⟨RX3, "couldPay", "(LTillHolds$Till;I)Z"⟩
abbrev cX3_pay : ByteArray := prog_1_method_22_code
def yX3_pay : MethodName := ⟨RX3, "pay", "(LTillHolds$Till;I)I"⟩
abbrev cX3_layPicked : ByteArray := prog_1_method_23_code
def yX3_layPicked : MethodName := ⟨RX3, "layPicked", "(LTillHolds$Till;)I"⟩
abbrev cX3_moveWithin : ByteArray := prog_1_method_24_code
def yX3_moveWithin : MethodName := ⟨RX3, "moveWithin", "(LTillHolds$Till;LTillHolds$Till;IZ)I"⟩
abbrev cX3_readRow : ByteArray := prog_1_method_25_code
def yX3_readRow : MethodName := ⟨RX3, "readRow", "(I)I"⟩
abbrev cX3_digitsOf : ByteArray := prog_1_method_26_code
def yX3_digitsOf : MethodName := ⟨RX3, "digitsOf", "(I)I"⟩
abbrev cX3_passFrom : ByteArray := prog_1_method_27_code
def yX3_passFrom : MethodName := ⟨RX3, "passFrom", "(IIIZ)I"⟩
abbrev cX3_passWithin : ByteArray := prog_1_method_28_code
def yX3_passWithin : MethodName := ⟨RX3, "passWithin", "(LTillHolds$Till;IIIZ)I"⟩
abbrev cX3_halve : ByteArray := prog_1_method_29_code
def yX3_halve : MethodName := ⟨RX3, "halve", "(LTillHolds$Till;LTillHolds$Till;I)I"⟩
abbrev cX3_give : ByteArray := prog_1_method_30_code
def yX3_give : MethodName := ⟨RX3, "give", "(LTillHolds$Till;LTillHolds$Till;II)I"⟩
def RX4 : String := "TillHoldsModel"
def TX4 : u_T := fun k => match k with
  | 0 => ("TillHoldsModel", "thrown", "I", false)
  | 1 => ("TillHoldsModel", "isThere", "[Z", true)
  | 2 => ("TillHoldsModel", "isShut", "[Z", true)
  | 3 => ("TillHoldsModel", "limit", "[I", true)
  | 4 => ("TillHoldsModel", "coins", "[I", true)
  | 5 => ("TillHoldsModel", "holds", "I", false)
  | 6 => ("TillHoldsModel", "left", "I", false)
  | 7 => ("TillHoldsModel", "depth", "I", false)
  | 8 => ("TillHoldsModel", "deepest", "I", false)
  | 9 => ("TillHoldsModel", "paid", "[I", true)
  | _ => ("TillHoldsModel", "kept", "[I", true)
def tyX4 : Nat → FieldType := fun k => match k with
  | 0 => .int
  | 1 => .array .boolean
  | 2 => .array .boolean
  | 3 => .array .int
  | 4 => .array .int
  | 5 => .int
  | 6 => .int
  | 7 => .int
  | 8 => .int
  | 9 => .array .int
  | _ => .array .int
abbrev wsX40 : List Cond := u_ws RX4 TX4 11
theorem nmX4 : ∀ a, a < 11 → ∀ b, b < 11 → a ≠ b → (TX4 a).2.1 ≠ (TX4 b).2.1 := by decide +kernel
theorem tyX4_ok : ∀ k, k < 11 → parseFieldDescriptor (TX4 k).2.2.1 = some (tyX4 k) := by decide +kernel
abbrev cX4_init : ByteArray := prog_6_method_1_code
def yX4_init : MethodName := ⟨RX4, "<init>", "()V"⟩
abbrev cX4_in : ByteArray := prog_6_method_3_code
def yX4_in : MethodName := ⟨RX4, "in", "(III)Z"⟩
abbrev cX4_isTill : ByteArray := prog_6_method_4_code
def yX4_isTill : MethodName := ⟨RX4, "isTill", "(I)Z"⟩
abbrev cX4_worthOf : ByteArray := prog_6_method_5_code
def yX4_worthOf : MethodName := ⟨RX4, "worthOf", "(I)I"⟩
abbrev cX4_all : ByteArray := prog_6_method_6_code
def yX4_all : MethodName := ⟨RX4, "all", "(I)I"⟩
abbrev cX4_worth : ByteArray := prog_6_method_7_code
def yX4_worth : MethodName := ⟨RX4, "worth", "(I)I"⟩
abbrev cX4_go : ByteArray := prog_6_method_8_code
def yX4_go : MethodName := ⟨RX4, "go", "(II[I)V"⟩
abbrev cX4_hold : ByteArray := prog_6_method_9_code
def yX4_hold : MethodName := ⟨RX4, "hold", "(I)I"⟩
abbrev cX4_leave : ByteArray := prog_6_method_10_code
def yX4_leave : MethodName := ⟨RX4, "leave", "(I)I"⟩
abbrev cX4_lacks : ByteArray := prog_6_method_11_code
def yX4_lacks : MethodName := ⟨RX4, "lacks", "(II)I"⟩
abbrev cX4_pay : ByteArray := prog_6_method_12_code
def yX4_pay : MethodName := ⟨RX4, "pay", "(II)I"⟩
abbrev cX4_sum : ByteArray := prog_6_method_13_code
def yX4_sum : MethodName := ⟨RX4, "sum", "([I)I"⟩
abbrev cX4_lay : ByteArray := prog_6_method_14_code
def yX4_lay : MethodName := ⟨RX4, "lay", "(I[I)I"⟩
abbrev cX4_told : ByteArray := prog_6_method_15_code
def yX4_told : MethodName := ⟨RX4, "told", "(II)I"⟩
abbrev cX4_till : ByteArray := prog_6_method_16_code
def yX4_till : MethodName := ⟨RX4, "till", "(II)I"⟩
abbrev cX4_empty : ByteArray := prog_6_method_17_code
def yX4_empty : MethodName := ⟨RX4, "empty", "(I)V"⟩
abbrev cX4_drop : ByteArray := prog_6_method_18_code
def yX4_drop : MethodName := ⟨RX4, "drop", "(I)I"⟩
abbrev cX4_shut : ByteArray := prog_6_method_19_code
def yX4_shut : MethodName := ⟨RX4, "shut", "(IZ)I"⟩
abbrev cX4_put : ByteArray := prog_6_method_20_code
def yX4_put : MethodName := ⟨RX4, "put", "(III)I"⟩
abbrev cX4_take : ByteArray := prog_6_method_21_code
def yX4_take : MethodName := ⟨RX4, "take", "(II)I"⟩
abbrev cX4_move : ByteArray := prog_6_method_22_code
def yX4_move : MethodName := ⟨RX4, "move", "(IIIZ)I"⟩
abbrev cX4_digits : ByteArray := prog_6_method_23_code
def yX4_digits : MethodName := ⟨RX4, "digits", "(I)I"⟩
abbrev cX4_digit : ByteArray := prog_6_method_24_code
def yX4_digit : MethodName := ⟨RX4, "digit", "(III)I"⟩
abbrev cX4_keep : ByteArray := prog_6_method_25_code
def yX4_keep : MethodName := ⟨RX4, "keep", "(II)V"⟩
abbrev cX4_putBack : ByteArray := prog_6_method_26_code
def yX4_putBack : MethodName := ⟨RX4, "putBack", "(II)V"⟩
abbrev cX4_pass : ByteArray := prog_6_method_27_code
def yX4_pass : MethodName := ⟨RX4, "pass", "(IIZ)I"⟩
abbrev cX4_first : ByteArray := prog_6_method_28_code
def yX4_first : MethodName := ⟨RX4, "first", "(I)I"⟩
abbrev cX4_share : ByteArray := prog_6_method_29_code
def yX4_share : MethodName := ⟨RX4, "share", "(III)I"⟩
abbrev cX4_told_ : ByteArray := prog_6_method_30_code
def yX4_told_ : MethodName := ⟨RX4, "told", "(III)I"⟩
abbrev cX4_look : ByteArray := prog_6_method_31_code
def yX4_look : MethodName := ⟨RX4, "look", "(II)I"⟩
abbrev cX4_hand : ByteArray := prog_6_method_32_code
def yX4_hand : MethodName := ⟨RX4, "hand", "(I)I"⟩
abbrev cX4_count : ByteArray := prog_6_method_33_code
def yX4_count : MethodName := ⟨RX4, "count", "(I)I"⟩
def RL : String := "TillHoldsLaw"
abbrev cL_law : ByteArray := code
def yL_law : MethodName := ⟨RL, "law", "([I)Z"⟩
abbrev vwCl : List vw_C := [(RX0, TX0, 1), (RX1, TX1, 4), (RX2, TX2, 4), (RX3, TX3, 7), (RX4, TX4, 11)]
theorem dX0_init_0 : decode cX0_init 0 = .ok (.aload_n 0, 1) := by decide +kernel
theorem dX0_init_1 : decode cX0_init 1 = .ok (.invokespecial 3, 3) := by decide +kernel
theorem dX0_init_4 : decode cX0_init 4 = .ok (.aload_n 0, 1) := by decide +kernel
theorem dX0_init_5 : decode cX0_init 5 = .ok (.iconst 5, 1) := by decide +kernel
theorem dX0_init_6 : decode cX0_init 6 = .ok (.newarray .int, 2) := by decide +kernel
theorem dX0_init_8 : decode cX0_init 8 = .ok (.putfield 9, 3) := by decide +kernel
theorem dX0_init_11 : decode cX0_init 11 = .ok (.return_, 1) := by decide +kernel
theorem dX0_number_0 : decode cX0_number 0 = .ok (.iconst 0, 1) := by decide +kernel
theorem dX0_number_1 : decode cX0_number 1 = .ok (.istore_n 1, 1) := by decide +kernel
theorem dX0_number_2 : decode cX0_number 2 = .ok (.iconst 0, 1) := by decide +kernel
theorem dX0_number_3 : decode cX0_number 3 = .ok (.istore_n 2, 1) := by decide +kernel
theorem dX0_number_4 : decode cX0_number 4 = .ok (.iload_n 2, 1) := by decide +kernel
theorem dX0_number_5 : decode cX0_number 5 = .ok (.iconst 5, 1) := by decide +kernel
theorem dX0_number_6 : decode cX0_number 6 = .ok (.if_icmp .ge 18, 3) := by decide +kernel
theorem dX0_number_9 : decode cX0_number 9 = .ok (.iload_n 1, 1) := by decide +kernel
theorem dX0_number_10 : decode cX0_number 10 = .ok (.aload_n 0, 1) := by decide +kernel
theorem dX0_number_11 : decode cX0_number 11 = .ok (.getfield 9, 3) := by decide +kernel
theorem dX0_number_14 : decode cX0_number 14 = .ok (.iload_n 2, 1) := by decide +kernel
theorem dX0_number_15 : decode cX0_number 15 = .ok (.iaload, 1) := by decide +kernel
theorem dX0_number_16 : decode cX0_number 16 = .ok (.iadd, 1) := by decide +kernel
theorem dX0_number_17 : decode cX0_number 17 = .ok (.istore_n 1, 1) := by decide +kernel
theorem dX0_number_18 : decode cX0_number 18 = .ok (.iinc 2 1, 3) := by decide +kernel
theorem dX0_number_21 : decode cX0_number 21 = .ok (.goto (-17), 3) := by decide +kernel
theorem dX0_number_24 : decode cX0_number 24 = .ok (.iload_n 1, 1) := by decide +kernel
theorem dX0_number_25 : decode cX0_number 25 = .ok (.ireturn, 1) := by decide +kernel
theorem dX0_worth_0 : decode cX0_worth 0 = .ok (.iconst 0, 1) := by decide +kernel
theorem dX0_worth_1 : decode cX0_worth 1 = .ok (.istore_n 1, 1) := by decide +kernel
theorem dX0_worth_2 : decode cX0_worth 2 = .ok (.iconst 0, 1) := by decide +kernel
theorem dX0_worth_3 : decode cX0_worth 3 = .ok (.istore_n 2, 1) := by decide +kernel
theorem dX0_worth_4 : decode cX0_worth 4 = .ok (.iload_n 2, 1) := by decide +kernel
theorem dX0_worth_5 : decode cX0_worth 5 = .ok (.iconst 5, 1) := by decide +kernel
theorem dX0_worth_6 : decode cX0_worth 6 = .ok (.if_icmp .ge 24, 3) := by decide +kernel
theorem dX0_worth_9 : decode cX0_worth 9 = .ok (.iload_n 1, 1) := by decide +kernel
theorem dX0_worth_10 : decode cX0_worth 10 = .ok (.aload_n 0, 1) := by decide +kernel
theorem dX0_worth_11 : decode cX0_worth 11 = .ok (.getfield 9, 3) := by decide +kernel
theorem dX0_worth_14 : decode cX0_worth 14 = .ok (.iload_n 2, 1) := by decide +kernel
theorem dX0_worth_15 : decode cX0_worth 15 = .ok (.iaload, 1) := by decide +kernel
theorem dX0_worth_16 : decode cX0_worth 16 = .ok (.getstatic 15, 3) := by decide +kernel
theorem dX0_worth_19 : decode cX0_worth 19 = .ok (.iload_n 2, 1) := by decide +kernel
theorem dX0_worth_20 : decode cX0_worth 20 = .ok (.iaload, 1) := by decide +kernel
theorem dX0_worth_21 : decode cX0_worth 21 = .ok (.imul, 1) := by decide +kernel
theorem dX0_worth_22 : decode cX0_worth 22 = .ok (.iadd, 1) := by decide +kernel
theorem dX0_worth_23 : decode cX0_worth 23 = .ok (.istore_n 1, 1) := by decide +kernel
theorem dX0_worth_24 : decode cX0_worth 24 = .ok (.iinc 2 1, 3) := by decide +kernel
theorem dX0_worth_27 : decode cX0_worth 27 = .ok (.goto (-23), 3) := by decide +kernel
theorem dX0_worth_30 : decode cX0_worth 30 = .ok (.iload_n 1, 1) := by decide +kernel
theorem dX0_worth_31 : decode cX0_worth 31 = .ok (.ireturn, 1) := by decide +kernel
theorem dX0_tell_0 : decode cX0_tell 0 = .ok (.iload_n 1, 1) := by decide +kernel
theorem dX0_tell_1 : decode cX0_tell 1 = .ok (.invokestatic 18, 3) := by decide +kernel
theorem dX0_tell_4 : decode cX0_tell 4 = .ok (.ifCond .eq 10, 3) := by decide +kernel
theorem dX0_tell_7 : decode cX0_tell 7 = .ok (.aload_n 0, 1) := by decide +kernel
theorem dX0_tell_8 : decode cX0_tell 8 = .ok (.getfield 9, 3) := by decide +kernel
theorem dX0_tell_11 : decode cX0_tell 11 = .ok (.iload_n 1, 1) := by decide +kernel
theorem dX0_tell_12 : decode cX0_tell 12 = .ok (.iaload, 1) := by decide +kernel
theorem dX0_tell_13 : decode cX0_tell 13 = .ok (.ireturn, 1) := by decide +kernel
theorem dX0_tell_14 : decode cX0_tell 14 = .ok (.iload_n 1, 1) := by decide +kernel
theorem dX0_tell_15 : decode cX0_tell 15 = .ok (.iconst 5, 1) := by decide +kernel
theorem dX0_tell_16 : decode cX0_tell 16 = .ok (.if_icmp .ne 10, 3) := by decide +kernel
theorem dX0_tell_19 : decode cX0_tell 19 = .ok (.aload_n 0, 1) := by decide +kernel
theorem dX0_tell_20 : decode cX0_tell 20 = .ok (.invokevirtual 22, 3) := by decide +kernel
theorem dX0_tell_23 : decode cX0_tell 23 = .ok (.goto 7, 3) := by decide +kernel
theorem dX0_tell_26 : decode cX0_tell 26 = .ok (.aload_n 0, 1) := by decide +kernel
theorem dX0_tell_27 : decode cX0_tell 27 = .ok (.invokevirtual 26, 3) := by decide +kernel
theorem dX0_tell_30 : decode cX0_tell 30 = .ok (.ireturn, 1) := by decide +kernel
theorem dX0_clear_0 : decode cX0_clear 0 = .ok (.iconst 0, 1) := by decide +kernel
theorem dX0_clear_1 : decode cX0_clear 1 = .ok (.istore_n 1, 1) := by decide +kernel
theorem dX0_clear_2 : decode cX0_clear 2 = .ok (.iload_n 1, 1) := by decide +kernel
theorem dX0_clear_3 : decode cX0_clear 3 = .ok (.iconst 5, 1) := by decide +kernel
theorem dX0_clear_4 : decode cX0_clear 4 = .ok (.if_icmp .ge 16, 3) := by decide +kernel
theorem dX0_clear_7 : decode cX0_clear 7 = .ok (.aload_n 0, 1) := by decide +kernel
theorem dX0_clear_8 : decode cX0_clear 8 = .ok (.getfield 9, 3) := by decide +kernel
theorem dX0_clear_11 : decode cX0_clear 11 = .ok (.iload_n 1, 1) := by decide +kernel
theorem dX0_clear_12 : decode cX0_clear 12 = .ok (.iconst 0, 1) := by decide +kernel
theorem dX0_clear_13 : decode cX0_clear 13 = .ok (.iastore, 1) := by decide +kernel
theorem dX0_clear_14 : decode cX0_clear 14 = .ok (.iinc 1 1, 3) := by decide +kernel
theorem dX0_clear_17 : decode cX0_clear 17 = .ok (.goto (-15), 3) := by decide +kernel
theorem dX0_clear_20 : decode cX0_clear 20 = .ok (.return_, 1) := by decide +kernel
theorem dX0_become_0 : decode cX0_become 0 = .ok (.iconst 0, 1) := by decide +kernel
theorem dX0_become_1 : decode cX0_become 1 = .ok (.istore_n 2, 1) := by decide +kernel
theorem dX0_become_2 : decode cX0_become 2 = .ok (.iload_n 2, 1) := by decide +kernel
theorem dX0_become_3 : decode cX0_become 3 = .ok (.iconst 5, 1) := by decide +kernel
theorem dX0_become_4 : decode cX0_become 4 = .ok (.if_icmp .ge 21, 3) := by decide +kernel
theorem dX0_become_7 : decode cX0_become 7 = .ok (.aload_n 0, 1) := by decide +kernel
theorem dX0_become_8 : decode cX0_become 8 = .ok (.getfield 9, 3) := by decide +kernel
theorem dX0_become_11 : decode cX0_become 11 = .ok (.iload_n 2, 1) := by decide +kernel
theorem dX0_become_12 : decode cX0_become 12 = .ok (.aload_n 1, 1) := by decide +kernel
theorem dX0_become_13 : decode cX0_become 13 = .ok (.getfield 9, 3) := by decide +kernel
theorem dX0_become_16 : decode cX0_become 16 = .ok (.iload_n 2, 1) := by decide +kernel
theorem dX0_become_17 : decode cX0_become 17 = .ok (.iaload, 1) := by decide +kernel
theorem dX0_become_18 : decode cX0_become 18 = .ok (.iastore, 1) := by decide +kernel
theorem dX0_become_19 : decode cX0_become 19 = .ok (.iinc 2 1, 3) := by decide +kernel
theorem dX0_become_22 : decode cX0_become 22 = .ok (.goto (-20), 3) := by decide +kernel
theorem dX0_become_25 : decode cX0_become 25 = .ok (.return_, 1) := by decide +kernel
theorem dX0_add_0 : decode cX0_add 0 = .ok (.iconst 0, 1) := by decide +kernel
theorem dX0_add_1 : decode cX0_add 1 = .ok (.istore_n 2, 1) := by decide +kernel
theorem dX0_add_2 : decode cX0_add 2 = .ok (.iload_n 2, 1) := by decide +kernel
theorem dX0_add_3 : decode cX0_add 3 = .ok (.iconst 5, 1) := by decide +kernel
theorem dX0_add_4 : decode cX0_add 4 = .ok (.if_icmp .ge 24, 3) := by decide +kernel
theorem dX0_add_7 : decode cX0_add 7 = .ok (.aload_n 0, 1) := by decide +kernel
theorem dX0_add_8 : decode cX0_add 8 = .ok (.getfield 9, 3) := by decide +kernel
theorem dX0_add_11 : decode cX0_add 11 = .ok (.iload_n 2, 1) := by decide +kernel
theorem dX0_add_12 : decode cX0_add 12 = .ok (.dup2, 1) := by decide +kernel
theorem dX0_add_13 : decode cX0_add 13 = .ok (.iaload, 1) := by decide +kernel
theorem dX0_add_14 : decode cX0_add 14 = .ok (.aload_n 1, 1) := by decide +kernel
theorem dX0_add_15 : decode cX0_add 15 = .ok (.getfield 9, 3) := by decide +kernel
theorem dX0_add_18 : decode cX0_add 18 = .ok (.iload_n 2, 1) := by decide +kernel
theorem dX0_add_19 : decode cX0_add 19 = .ok (.iaload, 1) := by decide +kernel
theorem dX0_add_20 : decode cX0_add 20 = .ok (.iadd, 1) := by decide +kernel
theorem dX0_add_21 : decode cX0_add 21 = .ok (.iastore, 1) := by decide +kernel
theorem dX0_add_22 : decode cX0_add 22 = .ok (.iinc 2 1, 3) := by decide +kernel
theorem dX0_add_25 : decode cX0_add 25 = .ok (.goto (-23), 3) := by decide +kernel
theorem dX0_add_28 : decode cX0_add 28 = .ok (.return_, 1) := by decide +kernel
theorem dX0_remove_0 : decode cX0_remove 0 = .ok (.iconst 0, 1) := by decide +kernel
theorem dX0_remove_1 : decode cX0_remove 1 = .ok (.istore_n 2, 1) := by decide +kernel
theorem dX0_remove_2 : decode cX0_remove 2 = .ok (.iload_n 2, 1) := by decide +kernel
theorem dX0_remove_3 : decode cX0_remove 3 = .ok (.iconst 5, 1) := by decide +kernel
theorem dX0_remove_4 : decode cX0_remove 4 = .ok (.if_icmp .ge 24, 3) := by decide +kernel
theorem dX0_remove_7 : decode cX0_remove 7 = .ok (.aload_n 0, 1) := by decide +kernel
theorem dX0_remove_8 : decode cX0_remove 8 = .ok (.getfield 9, 3) := by decide +kernel
theorem dX0_remove_11 : decode cX0_remove 11 = .ok (.iload_n 2, 1) := by decide +kernel
theorem dX0_remove_12 : decode cX0_remove 12 = .ok (.dup2, 1) := by decide +kernel
theorem dX0_remove_13 : decode cX0_remove 13 = .ok (.iaload, 1) := by decide +kernel
theorem dX0_remove_14 : decode cX0_remove 14 = .ok (.aload_n 1, 1) := by decide +kernel
theorem dX0_remove_15 : decode cX0_remove 15 = .ok (.getfield 9, 3) := by decide +kernel
theorem dX0_remove_18 : decode cX0_remove 18 = .ok (.iload_n 2, 1) := by decide +kernel
theorem dX0_remove_19 : decode cX0_remove 19 = .ok (.iaload, 1) := by decide +kernel
theorem dX0_remove_20 : decode cX0_remove 20 = .ok (.isub, 1) := by decide +kernel
theorem dX0_remove_21 : decode cX0_remove 21 = .ok (.iastore, 1) := by decide +kernel
theorem dX0_remove_22 : decode cX0_remove 22 = .ok (.iinc 2 1, 3) := by decide +kernel
theorem dX0_remove_25 : decode cX0_remove 25 = .ok (.goto (-23), 3) := by decide +kernel
theorem dX0_remove_28 : decode cX0_remove 28 = .ok (.return_, 1) := by decide +kernel
theorem dX1_init_0 : decode cX1_init 0 = .ok (.aload_n 0, 1) := by decide +kernel
theorem dX1_init_1 : decode cX1_init 1 = .ok (.invokespecial 1, 3) := by decide +kernel
theorem dX1_init_4 : decode cX1_init 4 = .ok (.return_, 1) := by decide +kernel
theorem dX1_begin_0 : decode cX1_begin 0 = .ok (.aload_n 0, 1) := by decide +kernel
theorem dX1_begin_1 : decode cX1_begin 1 = .ok (.dup, 1) := by decide +kernel
theorem dX1_begin_2 : decode cX1_begin 2 = .ok (.getfield 7, 3) := by decide +kernel
theorem dX1_begin_5 : decode cX1_begin 5 = .ok (.iconst 1, 1) := by decide +kernel
theorem dX1_begin_6 : decode cX1_begin 6 = .ok (.iadd, 1) := by decide +kernel
theorem dX1_begin_7 : decode cX1_begin 7 = .ok (.putfield 7, 3) := by decide +kernel
theorem dX1_begin_10 : decode cX1_begin 10 = .ok (.aload_n 0, 1) := by decide +kernel
theorem dX1_begin_11 : decode cX1_begin 11 = .ok (.dup, 1) := by decide +kernel
theorem dX1_begin_12 : decode cX1_begin 12 = .ok (.getfield 13, 3) := by decide +kernel
theorem dX1_begin_15 : decode cX1_begin 15 = .ok (.iconst 1, 1) := by decide +kernel
theorem dX1_begin_16 : decode cX1_begin 16 = .ok (.iadd, 1) := by decide +kernel
theorem dX1_begin_17 : decode cX1_begin 17 = .ok (.putfield 13, 3) := by decide +kernel
theorem dX1_begin_20 : decode cX1_begin 20 = .ok (.aload_n 0, 1) := by decide +kernel
theorem dX1_begin_21 : decode cX1_begin 21 = .ok (.aload_n 0, 1) := by decide +kernel
theorem dX1_begin_22 : decode cX1_begin 22 = .ok (.getfield 16, 3) := by decide +kernel
theorem dX1_begin_25 : decode cX1_begin 25 = .ok (.aload_n 0, 1) := by decide +kernel
theorem dX1_begin_26 : decode cX1_begin 26 = .ok (.getfield 13, 3) := by decide +kernel
theorem dX1_begin_29 : decode cX1_begin 29 = .ok (.invokestatic 19, 3) := by decide +kernel
theorem dX1_begin_32 : decode cX1_begin 32 = .ok (.putfield 16, 3) := by decide +kernel
theorem dX1_begin_35 : decode cX1_begin 35 = .ok (.return_, 1) := by decide +kernel
theorem dX1_end_0 : decode cX1_end 0 = .ok (.aload_n 0, 1) := by decide +kernel
theorem dX1_end_1 : decode cX1_end 1 = .ok (.dup, 1) := by decide +kernel
theorem dX1_end_2 : decode cX1_end 2 = .ok (.getfield 13, 3) := by decide +kernel
theorem dX1_end_5 : decode cX1_end 5 = .ok (.iconst 1, 1) := by decide +kernel
theorem dX1_end_6 : decode cX1_end 6 = .ok (.isub, 1) := by decide +kernel
theorem dX1_end_7 : decode cX1_end 7 = .ok (.putfield 13, 3) := by decide +kernel
theorem dX1_end_10 : decode cX1_end 10 = .ok (.iload_n 1, 1) := by decide +kernel
theorem dX1_end_11 : decode cX1_end 11 = .ok (.ifCond .eq 13, 3) := by decide +kernel
theorem dX1_end_14 : decode cX1_end 14 = .ok (.aload_n 0, 1) := by decide +kernel
theorem dX1_end_15 : decode cX1_end 15 = .ok (.dup, 1) := by decide +kernel
theorem dX1_end_16 : decode cX1_end 16 = .ok (.getfield 25, 3) := by decide +kernel
theorem dX1_end_19 : decode cX1_end 19 = .ok (.iconst 1, 1) := by decide +kernel
theorem dX1_end_20 : decode cX1_end 20 = .ok (.iadd, 1) := by decide +kernel
theorem dX1_end_21 : decode cX1_end 21 = .ok (.putfield 25, 3) := by decide +kernel
theorem dX1_end_24 : decode cX1_end 24 = .ok (.return_, 1) := by decide +kernel
theorem dX2_init_0 : decode cX2_init 0 = .ok (.aload_n 0, 1) := by decide +kernel
theorem dX2_init_1 : decode cX2_init 1 = .ok (.invokespecial 3, 3) := by decide +kernel
theorem dX2_init_4 : decode cX2_init 4 = .ok (.aload_n 0, 1) := by decide +kernel
theorem dX2_init_5 : decode cX2_init 5 = .ok (.new 9, 3) := by decide +kernel
theorem dX2_init_8 : decode cX2_init 8 = .ok (.dup, 1) := by decide +kernel
theorem dX2_init_9 : decode cX2_init 9 = .ok (.invokespecial 11, 3) := by decide +kernel
theorem dX2_init_12 : decode cX2_init 12 = .ok (.putfield 12, 3) := by decide +kernel
theorem dX2_init_15 : decode cX2_init 15 = .ok (.return_, 1) := by decide +kernel
theorem dX2_hasRoomFor_0 : decode cX2_hasRoomFor 0 = .ok (.aload_n 0, 1) := by decide +kernel
theorem dX2_hasRoomFor_1 : decode cX2_hasRoomFor 1 = .ok (.getfield 12, 3) := by decide +kernel
theorem dX2_hasRoomFor_4 : decode cX2_hasRoomFor 4 = .ok (.invokevirtual 18, 3) := by decide +kernel
theorem dX2_hasRoomFor_7 : decode cX2_hasRoomFor 7 = .ok (.iload_n 1, 1) := by decide +kernel
theorem dX2_hasRoomFor_8 : decode cX2_hasRoomFor 8 = .ok (.iadd, 1) := by decide +kernel
theorem dX2_hasRoomFor_9 : decode cX2_hasRoomFor 9 = .ok (.aload_n 0, 1) := by decide +kernel
theorem dX2_hasRoomFor_10 : decode cX2_hasRoomFor 10 = .ok (.getfield 22, 3) := by decide +kernel
theorem dX2_hasRoomFor_13 : decode cX2_hasRoomFor 13 = .ok (.if_icmp .gt 7, 3) := by decide +kernel
theorem dX2_hasRoomFor_16 : decode cX2_hasRoomFor 16 = .ok (.iconst 1, 1) := by decide +kernel
theorem dX2_hasRoomFor_17 : decode cX2_hasRoomFor 17 = .ok (.goto 4, 3) := by decide +kernel
theorem dX2_hasRoomFor_20 : decode cX2_hasRoomFor 20 = .ok (.iconst 0, 1) := by decide +kernel
theorem dX2_hasRoomFor_21 : decode cX2_hasRoomFor 21 = .ok (.ireturn, 1) := by decide +kernel
theorem dX2_tell_0 : decode cX2_tell 0 = .ok (.iload_n 1, 1) := by decide +kernel
theorem dX2_tell_1 : decode cX2_tell 1 = .ok (.bipush 7, 2) := by decide +kernel
theorem dX2_tell_3 : decode cX2_tell 3 = .ok (.if_icmp .ne 8, 3) := by decide +kernel
theorem dX2_tell_6 : decode cX2_tell 6 = .ok (.aload_n 0, 1) := by decide +kernel
theorem dX2_tell_7 : decode cX2_tell 7 = .ok (.getfield 22, 3) := by decide +kernel
theorem dX2_tell_10 : decode cX2_tell 10 = .ok (.ireturn, 1) := by decide +kernel
theorem dX2_tell_11 : decode cX2_tell 11 = .ok (.iload_n 1, 1) := by decide +kernel
theorem dX2_tell_12 : decode cX2_tell 12 = .ok (.bipush 8, 2) := by decide +kernel
theorem dX2_tell_14 : decode cX2_tell 14 = .ok (.if_icmp .ne 16, 3) := by decide +kernel
theorem dX2_tell_17 : decode cX2_tell 17 = .ok (.aload_n 0, 1) := by decide +kernel
theorem dX2_tell_18 : decode cX2_tell 18 = .ok (.getfield 26, 3) := by decide +kernel
theorem dX2_tell_21 : decode cX2_tell 21 = .ok (.ifCond .eq 7, 3) := by decide +kernel
theorem dX2_tell_24 : decode cX2_tell 24 = .ok (.iconst 1, 1) := by decide +kernel
theorem dX2_tell_25 : decode cX2_tell 25 = .ok (.goto 4, 3) := by decide +kernel
theorem dX2_tell_28 : decode cX2_tell 28 = .ok (.iconst 0, 1) := by decide +kernel
theorem dX2_tell_29 : decode cX2_tell 29 = .ok (.ireturn, 1) := by decide +kernel
theorem dX2_tell_30 : decode cX2_tell 30 = .ok (.aload_n 0, 1) := by decide +kernel
theorem dX2_tell_31 : decode cX2_tell 31 = .ok (.getfield 12, 3) := by decide +kernel
theorem dX2_tell_34 : decode cX2_tell 34 = .ok (.iload_n 1, 1) := by decide +kernel
theorem dX2_tell_35 : decode cX2_tell 35 = .ok (.invokevirtual 30, 3) := by decide +kernel
theorem dX2_tell_38 : decode cX2_tell 38 = .ok (.ireturn, 1) := by decide +kernel
end
section
theorem dX3_init_0 : decode cX3_init 0 = .ok (.aload_n 0, 1) := by decide +kernel
theorem dX3_init_1 : decode cX3_init 1 = .ok (.invokespecial 1, 3) := by decide +kernel
theorem dX3_init_4 : decode cX3_init 4 = .ok (.aload_n 0, 1) := by decide +kernel
theorem dX3_init_5 : decode cX3_init 5 = .ok (.bipush 8, 2) := by decide +kernel
theorem dX3_init_7 : decode cX3_init 7 = .ok (.anewarray 9, 3) := by decide +kernel
theorem dX3_init_10 : decode cX3_init 10 = .ok (.putfield 11, 3) := by decide +kernel
theorem dX3_init_13 : decode cX3_init 13 = .ok (.iconst 0, 1) := by decide +kernel
theorem dX3_init_14 : decode cX3_init 14 = .ok (.istore_n 1, 1) := by decide +kernel
theorem dX3_init_15 : decode cX3_init 15 = .ok (.iload_n 1, 1) := by decide +kernel
theorem dX3_init_16 : decode cX3_init 16 = .ok (.bipush 8, 2) := by decide +kernel
theorem dX3_init_18 : decode cX3_init 18 = .ok (.if_icmp .ge 22, 3) := by decide +kernel
theorem dX3_init_21 : decode cX3_init 21 = .ok (.aload_n 0, 1) := by decide +kernel
theorem dX3_init_22 : decode cX3_init 22 = .ok (.getfield 11, 3) := by decide +kernel
theorem dX3_init_25 : decode cX3_init 25 = .ok (.iload_n 1, 1) := by decide +kernel
theorem dX3_init_26 : decode cX3_init 26 = .ok (.new 9, 3) := by decide +kernel
theorem dX3_init_29 : decode cX3_init 29 = .ok (.dup, 1) := by decide +kernel
theorem dX3_init_30 : decode cX3_init 30 = .ok (.invokespecial 15, 3) := by decide +kernel
theorem dX3_init_33 : decode cX3_init 33 = .ok (.aastore, 1) := by decide +kernel
theorem dX3_init_34 : decode cX3_init 34 = .ok (.iinc 1 1, 3) := by decide +kernel
theorem dX3_init_37 : decode cX3_init 37 = .ok (.goto (-22), 3) := by decide +kernel
theorem dX3_init_40 : decode cX3_init 40 = .ok (.aload_n 0, 1) := by decide +kernel
theorem dX3_init_41 : decode cX3_init 41 = .ok (.new 16, 3) := by decide +kernel
theorem dX3_init_44 : decode cX3_init 44 = .ok (.dup, 1) := by decide +kernel
theorem dX3_init_45 : decode cX3_init 45 = .ok (.invokespecial 18, 3) := by decide +kernel
theorem dX3_init_48 : decode cX3_init 48 = .ok (.putfield 19, 3) := by decide +kernel
theorem dX3_init_51 : decode cX3_init 51 = .ok (.aload_n 0, 1) := by decide +kernel
theorem dX3_init_52 : decode cX3_init 52 = .ok (.new 23, 3) := by decide +kernel
theorem dX3_init_55 : decode cX3_init 55 = .ok (.dup, 1) := by decide +kernel
theorem dX3_init_56 : decode cX3_init 56 = .ok (.invokespecial 25, 3) := by decide +kernel
theorem dX3_init_59 : decode cX3_init 59 = .ok (.putfield 26, 3) := by decide +kernel
theorem dX3_init_62 : decode cX3_init 62 = .ok (.aload_n 0, 1) := by decide +kernel
theorem dX3_init_63 : decode cX3_init 63 = .ok (.new 16, 3) := by decide +kernel
theorem dX3_init_66 : decode cX3_init 66 = .ok (.dup, 1) := by decide +kernel
theorem dX3_init_67 : decode cX3_init 67 = .ok (.invokespecial 18, 3) := by decide +kernel
theorem dX3_init_70 : decode cX3_init 70 = .ok (.putfield 30, 3) := by decide +kernel
theorem dX3_init_73 : decode cX3_init 73 = .ok (.aload_n 0, 1) := by decide +kernel
theorem dX3_init_74 : decode cX3_init 74 = .ok (.new 16, 3) := by decide +kernel
theorem dX3_init_77 : decode cX3_init 77 = .ok (.dup, 1) := by decide +kernel
theorem dX3_init_78 : decode cX3_init 78 = .ok (.invokespecial 18, 3) := by decide +kernel
theorem dX3_init_81 : decode cX3_init 81 = .ok (.putfield 33, 3) := by decide +kernel
theorem dX3_init_84 : decode cX3_init 84 = .ok (.aload_n 0, 1) := by decide +kernel
theorem dX3_init_85 : decode cX3_init 85 = .ok (.bipush 6, 2) := by decide +kernel
theorem dX3_init_87 : decode cX3_init 87 = .ok (.anewarray 16, 3) := by decide +kernel
theorem dX3_init_90 : decode cX3_init 90 = .ok (.putfield 36, 3) := by decide +kernel
theorem dX3_init_93 : decode cX3_init 93 = .ok (.iconst 0, 1) := by decide +kernel
theorem dX3_init_94 : decode cX3_init 94 = .ok (.istore_n 1, 1) := by decide +kernel
theorem dX3_init_95 : decode cX3_init 95 = .ok (.iload_n 1, 1) := by decide +kernel
theorem dX3_init_96 : decode cX3_init 96 = .ok (.bipush 6, 2) := by decide +kernel
theorem dX3_init_98 : decode cX3_init 98 = .ok (.if_icmp .ge 22, 3) := by decide +kernel
theorem dX3_init_101 : decode cX3_init 101 = .ok (.aload_n 0, 1) := by decide +kernel
theorem dX3_init_102 : decode cX3_init 102 = .ok (.getfield 36, 3) := by decide +kernel
theorem dX3_init_105 : decode cX3_init 105 = .ok (.iload_n 1, 1) := by decide +kernel
theorem dX3_init_106 : decode cX3_init 106 = .ok (.new 16, 3) := by decide +kernel
theorem dX3_init_109 : decode cX3_init 109 = .ok (.dup, 1) := by decide +kernel
theorem dX3_init_110 : decode cX3_init 110 = .ok (.invokespecial 18, 3) := by decide +kernel
theorem dX3_init_113 : decode cX3_init 113 = .ok (.aastore, 1) := by decide +kernel
theorem dX3_init_114 : decode cX3_init 114 = .ok (.iinc 1 1, 3) := by decide +kernel
theorem dX3_init_117 : decode cX3_init 117 = .ok (.goto (-22), 3) := by decide +kernel
theorem dX3_init_120 : decode cX3_init 120 = .ok (.aload_n 0, 1) := by decide +kernel
theorem dX3_init_121 : decode cX3_init 121 = .ok (.bipush 6, 2) := by decide +kernel
theorem dX3_init_123 : decode cX3_init 123 = .ok (.newarray .int, 2) := by decide +kernel
theorem dX3_init_125 : decode cX3_init 125 = .ok (.putfield 40, 3) := by decide +kernel
theorem dX3_init_128 : decode cX3_init 128 = .ok (.return_, 1) := by decide +kernel
theorem dX3_till_0 : decode cX3_till 0 = .ok (.iload_n 1, 1) := by decide +kernel
theorem dX3_till_1 : decode cX3_till 1 = .ok (.invokestatic 44, 3) := by decide +kernel
theorem dX3_till_4 : decode cX3_till 4 = .ok (.ifCond .eq 13, 3) := by decide +kernel
theorem dX3_till_7 : decode cX3_till 7 = .ok (.iload_n 2, 1) := by decide +kernel
theorem dX3_till_8 : decode cX3_till 8 = .ok (.sipush 200, 3) := by decide +kernel
theorem dX3_till_11 : decode cX3_till 11 = .ok (.invokestatic 48, 3) := by decide +kernel
theorem dX3_till_14 : decode cX3_till 14 = .ok (.ifCond .ne 5, 3) := by decide +kernel
theorem dX3_till_17 : decode cX3_till 17 = .ok (.iconst (-1), 1) := by decide +kernel
theorem dX3_till_18 : decode cX3_till 18 = .ok (.ireturn, 1) := by decide +kernel
theorem dX3_till_19 : decode cX3_till 19 = .ok (.aload_n 0, 1) := by decide +kernel
theorem dX3_till_20 : decode cX3_till 20 = .ok (.getfield 11, 3) := by decide +kernel
theorem dX3_till_23 : decode cX3_till 23 = .ok (.iload_n 1, 1) := by decide +kernel
theorem dX3_till_24 : decode cX3_till 24 = .ok (.aaload, 1) := by decide +kernel
theorem dX3_till_25 : decode cX3_till 25 = .ok (.astore_n 3, 1) := by decide +kernel
theorem dX3_till_26 : decode cX3_till 26 = .ok (.aload_n 3, 1) := by decide +kernel
theorem dX3_till_27 : decode cX3_till 27 = .ok (.iconst 1, 1) := by decide +kernel
theorem dX3_till_28 : decode cX3_till 28 = .ok (.putfield 52, 3) := by decide +kernel
theorem dX3_till_31 : decode cX3_till 31 = .ok (.aload_n 3, 1) := by decide +kernel
theorem dX3_till_32 : decode cX3_till 32 = .ok (.iconst 0, 1) := by decide +kernel
theorem dX3_till_33 : decode cX3_till 33 = .ok (.putfield 56, 3) := by decide +kernel
theorem dX3_till_36 : decode cX3_till 36 = .ok (.aload_n 3, 1) := by decide +kernel
theorem dX3_till_37 : decode cX3_till 37 = .ok (.iload_n 2, 1) := by decide +kernel
theorem dX3_till_38 : decode cX3_till 38 = .ok (.putfield 59, 3) := by decide +kernel
theorem dX3_till_41 : decode cX3_till 41 = .ok (.aload_n 3, 1) := by decide +kernel
theorem dX3_till_42 : decode cX3_till 42 = .ok (.getfield 63, 3) := by decide +kernel
theorem dX3_till_45 : decode cX3_till 45 = .ok (.invokevirtual 66, 3) := by decide +kernel
theorem dX3_till_48 : decode cX3_till 48 = .ok (.iconst 1, 1) := by decide +kernel
theorem dX3_till_49 : decode cX3_till 49 = .ok (.ireturn, 1) := by decide +kernel
theorem dX3_drop_0 : decode cX3_drop 0 = .ok (.iload_n 1, 1) := by decide +kernel
theorem dX3_drop_1 : decode cX3_drop 1 = .ok (.invokestatic 44, 3) := by decide +kernel
theorem dX3_drop_4 : decode cX3_drop 4 = .ok (.ifCond .ne 5, 3) := by decide +kernel
theorem dX3_drop_7 : decode cX3_drop 7 = .ok (.iconst (-1), 1) := by decide +kernel
theorem dX3_drop_8 : decode cX3_drop 8 = .ok (.ireturn, 1) := by decide +kernel
theorem dX3_drop_9 : decode cX3_drop 9 = .ok (.aload_n 0, 1) := by decide +kernel
theorem dX3_drop_10 : decode cX3_drop 10 = .ok (.getfield 11, 3) := by decide +kernel
theorem dX3_drop_13 : decode cX3_drop 13 = .ok (.iload_n 1, 1) := by decide +kernel
theorem dX3_drop_14 : decode cX3_drop 14 = .ok (.aaload, 1) := by decide +kernel
theorem dX3_drop_15 : decode cX3_drop 15 = .ok (.getfield 52, 3) := by decide +kernel
theorem dX3_drop_18 : decode cX3_drop 18 = .ok (.ifCond .eq 7, 3) := by decide +kernel
theorem dX3_drop_21 : decode cX3_drop 21 = .ok (.iconst 1, 1) := by decide +kernel
theorem dX3_drop_22 : decode cX3_drop 22 = .ok (.goto 4, 3) := by decide +kernel
theorem dX3_drop_25 : decode cX3_drop 25 = .ok (.iconst 0, 1) := by decide +kernel
theorem dX3_drop_26 : decode cX3_drop 26 = .ok (.istore_n 2, 1) := by decide +kernel
theorem dX3_drop_27 : decode cX3_drop 27 = .ok (.aload_n 0, 1) := by decide +kernel
theorem dX3_drop_28 : decode cX3_drop 28 = .ok (.getfield 11, 3) := by decide +kernel
theorem dX3_drop_31 : decode cX3_drop 31 = .ok (.iload_n 1, 1) := by decide +kernel
theorem dX3_drop_32 : decode cX3_drop 32 = .ok (.aaload, 1) := by decide +kernel
theorem dX3_drop_33 : decode cX3_drop 33 = .ok (.iconst 0, 1) := by decide +kernel
theorem dX3_drop_34 : decode cX3_drop 34 = .ok (.putfield 52, 3) := by decide +kernel
theorem dX3_drop_37 : decode cX3_drop 37 = .ok (.iload_n 2, 1) := by decide +kernel
theorem dX3_drop_38 : decode cX3_drop 38 = .ok (.ireturn, 1) := by decide +kernel
theorem dX3_shut_0 : decode cX3_shut 0 = .ok (.iload_n 1, 1) := by decide +kernel
theorem dX3_shut_1 : decode cX3_shut 1 = .ok (.invokestatic 44, 3) := by decide +kernel
theorem dX3_shut_4 : decode cX3_shut 4 = .ok (.ifCond .ne 5, 3) := by decide +kernel
theorem dX3_shut_7 : decode cX3_shut 7 = .ok (.iconst (-1), 1) := by decide +kernel
theorem dX3_shut_8 : decode cX3_shut 8 = .ok (.ireturn, 1) := by decide +kernel
theorem dX3_shut_9 : decode cX3_shut 9 = .ok (.aload_n 0, 1) := by decide +kernel
theorem dX3_shut_10 : decode cX3_shut 10 = .ok (.getfield 11, 3) := by decide +kernel
theorem dX3_shut_13 : decode cX3_shut 13 = .ok (.iload_n 1, 1) := by decide +kernel
theorem dX3_shut_14 : decode cX3_shut 14 = .ok (.aaload, 1) := by decide +kernel
theorem dX3_shut_15 : decode cX3_shut 15 = .ok (.astore_n 3, 1) := by decide +kernel
theorem dX3_shut_16 : decode cX3_shut 16 = .ok (.aload_n 0, 1) := by decide +kernel
theorem dX3_shut_17 : decode cX3_shut 17 = .ok (.aload_n 3, 1) := by decide +kernel
theorem dX3_shut_18 : decode cX3_shut 18 = .ok (.invokevirtual 69, 3) := by decide +kernel
theorem dX3_shut_21 : decode cX3_shut 21 = .ok (.ifCond .ne 6, 3) := by decide +kernel
theorem dX3_shut_24 : decode cX3_shut 24 = .ok (.bipush (-11), 2) := by decide +kernel
theorem dX3_shut_26 : decode cX3_shut 26 = .ok (.ireturn, 1) := by decide +kernel
theorem dX3_shut_27 : decode cX3_shut 27 = .ok (.aload_n 3, 1) := by decide +kernel
theorem dX3_shut_28 : decode cX3_shut 28 = .ok (.getfield 56, 3) := by decide +kernel
theorem dX3_shut_31 : decode cX3_shut 31 = .ok (.ifCond .eq 7, 3) := by decide +kernel
theorem dX3_shut_34 : decode cX3_shut 34 = .ok (.iconst 1, 1) := by decide +kernel
theorem dX3_shut_35 : decode cX3_shut 35 = .ok (.goto 4, 3) := by decide +kernel
theorem dX3_shut_38 : decode cX3_shut 38 = .ok (.iconst 0, 1) := by decide +kernel
theorem dX3_shut_39 : decode cX3_shut 39 = .ok (.istore 4, 2) := by decide +kernel
theorem dX3_shut_41 : decode cX3_shut 41 = .ok (.aload_n 3, 1) := by decide +kernel
theorem dX3_shut_42 : decode cX3_shut 42 = .ok (.iload_n 2, 1) := by decide +kernel
theorem dX3_shut_43 : decode cX3_shut 43 = .ok (.putfield 56, 3) := by decide +kernel
theorem dX3_shut_46 : decode cX3_shut 46 = .ok (.aload_n 0, 1) := by decide +kernel
theorem dX3_shut_47 : decode cX3_shut 47 = .ok (.iload 4, 2) := by decide +kernel
theorem dX3_shut_49 : decode cX3_shut 49 = .ok (.invokevirtual 73, 3) := by decide +kernel
theorem dX3_shut_52 : decode cX3_shut 52 = .ok (.ireturn, 1) := by decide +kernel
theorem dX3_put_0 : decode cX3_put 0 = .ok (.iload_n 1, 1) := by decide +kernel
theorem dX3_put_1 : decode cX3_put 1 = .ok (.invokestatic 44, 3) := by decide +kernel
theorem dX3_put_4 : decode cX3_put 4 = .ok (.ifCond .eq 20, 3) := by decide +kernel
theorem dX3_put_7 : decode cX3_put 7 = .ok (.iload_n 2, 1) := by decide +kernel
theorem dX3_put_8 : decode cX3_put 8 = .ok (.invokestatic 77, 3) := by decide +kernel
theorem dX3_put_11 : decode cX3_put 11 = .ok (.ifCond .eq 13, 3) := by decide +kernel
theorem dX3_put_14 : decode cX3_put 14 = .ok (.iload_n 3, 1) := by decide +kernel
theorem dX3_put_15 : decode cX3_put 15 = .ok (.sipush 200, 3) := by decide +kernel
theorem dX3_put_18 : decode cX3_put 18 = .ok (.invokestatic 48, 3) := by decide +kernel
theorem dX3_put_21 : decode cX3_put 21 = .ok (.ifCond .ne 5, 3) := by decide +kernel
theorem dX3_put_24 : decode cX3_put 24 = .ok (.iconst (-1), 1) := by decide +kernel
theorem dX3_put_25 : decode cX3_put 25 = .ok (.ireturn, 1) := by decide +kernel
theorem dX3_put_26 : decode cX3_put 26 = .ok (.aload_n 0, 1) := by decide +kernel
theorem dX3_put_27 : decode cX3_put 27 = .ok (.getfield 11, 3) := by decide +kernel
theorem dX3_put_30 : decode cX3_put 30 = .ok (.iload_n 1, 1) := by decide +kernel
theorem dX3_put_31 : decode cX3_put 31 = .ok (.aaload, 1) := by decide +kernel
theorem dX3_put_32 : decode cX3_put 32 = .ok (.astore 4, 2) := by decide +kernel
theorem dX3_put_34 : decode cX3_put 34 = .ok (.aload_n 0, 1) := by decide +kernel
theorem dX3_put_35 : decode cX3_put 35 = .ok (.aload 4, 2) := by decide +kernel
theorem dX3_put_37 : decode cX3_put 37 = .ok (.invokevirtual 69, 3) := by decide +kernel
theorem dX3_put_40 : decode cX3_put 40 = .ok (.ifCond .ne 6, 3) := by decide +kernel
theorem dX3_put_43 : decode cX3_put 43 = .ok (.bipush (-11), 2) := by decide +kernel
theorem dX3_put_45 : decode cX3_put 45 = .ok (.ireturn, 1) := by decide +kernel
theorem dX3_put_46 : decode cX3_put 46 = .ok (.aload_n 0, 1) := by decide +kernel
theorem dX3_put_47 : decode cX3_put 47 = .ok (.getfield 30, 3) := by decide +kernel
theorem dX3_put_50 : decode cX3_put 50 = .ok (.invokevirtual 66, 3) := by decide +kernel
theorem dX3_put_53 : decode cX3_put 53 = .ok (.aload_n 0, 1) := by decide +kernel
theorem dX3_put_54 : decode cX3_put 54 = .ok (.getfield 30, 3) := by decide +kernel
theorem dX3_put_57 : decode cX3_put 57 = .ok (.getfield 80, 3) := by decide +kernel
theorem dX3_put_60 : decode cX3_put 60 = .ok (.iload_n 2, 1) := by decide +kernel
theorem dX3_put_61 : decode cX3_put 61 = .ok (.iload_n 3, 1) := by decide +kernel
theorem dX3_put_62 : decode cX3_put 62 = .ok (.iastore, 1) := by decide +kernel
theorem dX3_put_63 : decode cX3_put 63 = .ok (.aload_n 0, 1) := by decide +kernel
theorem dX3_put_64 : decode cX3_put 64 = .ok (.getfield 19, 3) := by decide +kernel
theorem dX3_put_67 : decode cX3_put 67 = .ok (.aload_n 0, 1) := by decide +kernel
theorem dX3_put_68 : decode cX3_put 68 = .ok (.getfield 30, 3) := by decide +kernel
theorem dX3_put_71 : decode cX3_put 71 = .ok (.invokevirtual 83, 3) := by decide +kernel
theorem dX3_put_74 : decode cX3_put 74 = .ok (.aload_n 0, 1) := by decide +kernel
theorem dX3_put_75 : decode cX3_put 75 = .ok (.aload_n 0, 1) := by decide +kernel
theorem dX3_put_76 : decode cX3_put 76 = .ok (.aload 4, 2) := by decide +kernel
theorem dX3_put_78 : decode cX3_put 78 = .ok (.invokevirtual 87, 3) := by decide +kernel
theorem dX3_put_81 : decode cX3_put 81 = .ok (.invokevirtual 73, 3) := by decide +kernel
theorem dX3_put_84 : decode cX3_put 84 = .ok (.ireturn, 1) := by decide +kernel
theorem dX3_take_0 : decode cX3_take 0 = .ok (.iload_n 1, 1) := by decide +kernel
theorem dX3_take_1 : decode cX3_take 1 = .ok (.invokestatic 44, 3) := by decide +kernel
theorem dX3_take_4 : decode cX3_take 4 = .ok (.ifCond .eq 13, 3) := by decide +kernel
theorem dX3_take_7 : decode cX3_take 7 = .ok (.iload_n 2, 1) := by decide +kernel
theorem dX3_take_8 : decode cX3_take 8 = .ok (.sipush 10000, 3) := by decide +kernel
theorem dX3_take_11 : decode cX3_take 11 = .ok (.invokestatic 48, 3) := by decide +kernel
theorem dX3_take_14 : decode cX3_take 14 = .ok (.ifCond .ne 5, 3) := by decide +kernel
theorem dX3_take_17 : decode cX3_take 17 = .ok (.iconst (-1), 1) := by decide +kernel
theorem dX3_take_18 : decode cX3_take 18 = .ok (.ireturn, 1) := by decide +kernel
theorem dX3_take_19 : decode cX3_take 19 = .ok (.aload_n 0, 1) := by decide +kernel
theorem dX3_take_20 : decode cX3_take 20 = .ok (.getfield 11, 3) := by decide +kernel
theorem dX3_take_23 : decode cX3_take 23 = .ok (.iload_n 1, 1) := by decide +kernel
theorem dX3_take_24 : decode cX3_take 24 = .ok (.aaload, 1) := by decide +kernel
theorem dX3_take_25 : decode cX3_take 25 = .ok (.astore_n 3, 1) := by decide +kernel
theorem dX3_take_26 : decode cX3_take 26 = .ok (.aload_n 0, 1) := by decide +kernel
theorem dX3_take_27 : decode cX3_take 27 = .ok (.aload_n 3, 1) := by decide +kernel
theorem dX3_take_28 : decode cX3_take 28 = .ok (.invokevirtual 69, 3) := by decide +kernel
theorem dX3_take_31 : decode cX3_take 31 = .ok (.ifCond .eq 16, 3) := by decide +kernel
theorem dX3_take_34 : decode cX3_take 34 = .ok (.aload_n 0, 1) := by decide +kernel
theorem dX3_take_35 : decode cX3_take 35 = .ok (.aload_n 0, 1) := by decide +kernel
theorem dX3_take_36 : decode cX3_take 36 = .ok (.aload_n 3, 1) := by decide +kernel
theorem dX3_take_37 : decode cX3_take 37 = .ok (.iload_n 2, 1) := by decide +kernel
theorem dX3_take_38 : decode cX3_take 38 = .ok (.invokevirtual 91, 3) := by decide +kernel
theorem dX3_take_41 : decode cX3_take 41 = .ok (.invokevirtual 73, 3) := by decide +kernel
theorem dX3_take_44 : decode cX3_take 44 = .ok (.goto 5, 3) := by decide +kernel
theorem dX3_take_47 : decode cX3_take 47 = .ok (.bipush (-11), 2) := by decide +kernel
theorem dX3_take_49 : decode cX3_take 49 = .ok (.ireturn, 1) := by decide +kernel
theorem dX3_move_0 : decode cX3_move 0 = .ok (.iload_n 1, 1) := by decide +kernel
theorem dX3_move_1 : decode cX3_move 1 = .ok (.invokestatic 44, 3) := by decide +kernel
theorem dX3_move_4 : decode cX3_move 4 = .ok (.ifCond .eq 20, 3) := by decide +kernel
theorem dX3_move_7 : decode cX3_move 7 = .ok (.iload_n 2, 1) := by decide +kernel
theorem dX3_move_8 : decode cX3_move 8 = .ok (.invokestatic 44, 3) := by decide +kernel
theorem dX3_move_11 : decode cX3_move 11 = .ok (.ifCond .eq 13, 3) := by decide +kernel
theorem dX3_move_14 : decode cX3_move 14 = .ok (.iload_n 3, 1) := by decide +kernel
theorem dX3_move_15 : decode cX3_move 15 = .ok (.sipush 10000, 3) := by decide +kernel
theorem dX3_move_18 : decode cX3_move 18 = .ok (.invokestatic 48, 3) := by decide +kernel
theorem dX3_move_21 : decode cX3_move 21 = .ok (.ifCond .ne 5, 3) := by decide +kernel
theorem dX3_move_24 : decode cX3_move 24 = .ok (.iconst (-1), 1) := by decide +kernel
theorem dX3_move_25 : decode cX3_move 25 = .ok (.ireturn, 1) := by decide +kernel
theorem dX3_move_26 : decode cX3_move 26 = .ok (.aload_n 0, 1) := by decide +kernel
theorem dX3_move_27 : decode cX3_move 27 = .ok (.getfield 11, 3) := by decide +kernel
theorem dX3_move_30 : decode cX3_move 30 = .ok (.iload_n 1, 1) := by decide +kernel
theorem dX3_move_31 : decode cX3_move 31 = .ok (.aaload, 1) := by decide +kernel
theorem dX3_move_32 : decode cX3_move 32 = .ok (.astore 5, 2) := by decide +kernel
theorem dX3_move_34 : decode cX3_move 34 = .ok (.aload_n 0, 1) := by decide +kernel
theorem dX3_move_35 : decode cX3_move 35 = .ok (.aload 5, 2) := by decide +kernel
theorem dX3_move_37 : decode cX3_move 37 = .ok (.invokevirtual 69, 3) := by decide +kernel
theorem dX3_move_40 : decode cX3_move 40 = .ok (.ifCond .eq 25, 3) := by decide +kernel
theorem dX3_move_43 : decode cX3_move 43 = .ok (.aload_n 0, 1) := by decide +kernel
theorem dX3_move_44 : decode cX3_move 44 = .ok (.aload_n 0, 1) := by decide +kernel
theorem dX3_move_45 : decode cX3_move 45 = .ok (.aload 5, 2) := by decide +kernel
theorem dX3_move_47 : decode cX3_move 47 = .ok (.aload_n 0, 1) := by decide +kernel
theorem dX3_move_48 : decode cX3_move 48 = .ok (.getfield 11, 3) := by decide +kernel
theorem dX3_move_51 : decode cX3_move 51 = .ok (.iload_n 2, 1) := by decide +kernel
theorem dX3_move_52 : decode cX3_move 52 = .ok (.aaload, 1) := by decide +kernel
theorem dX3_move_53 : decode cX3_move 53 = .ok (.iload_n 3, 1) := by decide +kernel
theorem dX3_move_54 : decode cX3_move 54 = .ok (.iload 4, 2) := by decide +kernel
theorem dX3_move_56 : decode cX3_move 56 = .ok (.invokevirtual 95, 3) := by decide +kernel
theorem dX3_move_59 : decode cX3_move 59 = .ok (.invokevirtual 73, 3) := by decide +kernel
theorem dX3_move_62 : decode cX3_move 62 = .ok (.goto 5, 3) := by decide +kernel
theorem dX3_move_65 : decode cX3_move 65 = .ok (.bipush (-11), 2) := by decide +kernel
theorem dX3_move_67 : decode cX3_move 67 = .ok (.ireturn, 1) := by decide +kernel
theorem dX3_pass_0 : decode cX3_pass 0 = .ok (.aload_n 0, 1) := by decide +kernel
theorem dX3_pass_1 : decode cX3_pass 1 = .ok (.iload_n 1, 1) := by decide +kernel
theorem dX3_pass_2 : decode cX3_pass 2 = .ok (.invokevirtual 99, 3) := by decide +kernel
theorem dX3_pass_5 : decode cX3_pass 5 = .ok (.istore 4, 2) := by decide +kernel
theorem dX3_pass_7 : decode cX3_pass 7 = .ok (.iload 4, 2) := by decide +kernel
theorem dX3_pass_9 : decode cX3_pass 9 = .ok (.iconst (-1), 1) := by decide +kernel
theorem dX3_pass_10 : decode cX3_pass 10 = .ok (.if_icmp .eq 13, 3) := by decide +kernel
theorem dX3_pass_13 : decode cX3_pass 13 = .ok (.iload_n 2, 1) := by decide +kernel
theorem dX3_pass_14 : decode cX3_pass 14 = .ok (.sipush 10000, 3) := by decide +kernel
theorem dX3_pass_17 : decode cX3_pass 17 = .ok (.invokestatic 48, 3) := by decide +kernel
theorem dX3_pass_20 : decode cX3_pass 20 = .ok (.ifCond .ne 5, 3) := by decide +kernel
theorem dX3_pass_23 : decode cX3_pass 23 = .ok (.iconst (-1), 1) := by decide +kernel
theorem dX3_pass_24 : decode cX3_pass 24 = .ok (.ireturn, 1) := by decide +kernel
theorem dX3_pass_25 : decode cX3_pass 25 = .ok (.aload_n 0, 1) := by decide +kernel
theorem dX3_pass_26 : decode cX3_pass 26 = .ok (.getfield 33, 3) := by decide +kernel
theorem dX3_pass_29 : decode cX3_pass 29 = .ok (.aload_n 0, 1) := by decide +kernel
theorem dX3_pass_30 : decode cX3_pass 30 = .ok (.getfield 19, 3) := by decide +kernel
theorem dX3_pass_33 : decode cX3_pass 33 = .ok (.invokevirtual 102, 3) := by decide +kernel
theorem dX3_pass_36 : decode cX3_pass 36 = .ok (.aload_n 0, 1) := by decide +kernel
theorem dX3_pass_37 : decode cX3_pass 37 = .ok (.iconst 0, 1) := by decide +kernel
theorem dX3_pass_38 : decode cX3_pass 38 = .ok (.iload 4, 2) := by decide +kernel
theorem dX3_pass_40 : decode cX3_pass 40 = .ok (.iload_n 2, 1) := by decide +kernel
theorem dX3_pass_41 : decode cX3_pass 41 = .ok (.iload_n 3, 1) := by decide +kernel
theorem dX3_pass_42 : decode cX3_pass 42 = .ok (.invokevirtual 105, 3) := by decide +kernel
theorem dX3_pass_45 : decode cX3_pass 45 = .ok (.istore 5, 2) := by decide +kernel
theorem dX3_pass_47 : decode cX3_pass 47 = .ok (.iload 5, 2) := by decide +kernel
theorem dX3_pass_49 : decode cX3_pass 49 = .ok (.ifCond .ge 18, 3) := by decide +kernel
theorem dX3_pass_52 : decode cX3_pass 52 = .ok (.iload_n 3, 1) := by decide +kernel
theorem dX3_pass_53 : decode cX3_pass 53 = .ok (.ifCond .eq 14, 3) := by decide +kernel
theorem dX3_pass_56 : decode cX3_pass 56 = .ok (.aload_n 0, 1) := by decide +kernel
theorem dX3_pass_57 : decode cX3_pass 57 = .ok (.getfield 19, 3) := by decide +kernel
theorem dX3_pass_60 : decode cX3_pass 60 = .ok (.aload_n 0, 1) := by decide +kernel
theorem dX3_pass_61 : decode cX3_pass 61 = .ok (.getfield 33, 3) := by decide +kernel
theorem dX3_pass_64 : decode cX3_pass 64 = .ok (.invokevirtual 102, 3) := by decide +kernel
theorem dX3_pass_67 : decode cX3_pass 67 = .ok (.iload 5, 2) := by decide +kernel
theorem dX3_pass_69 : decode cX3_pass 69 = .ok (.ireturn, 1) := by decide +kernel
theorem dX3_share_0 : decode cX3_share 0 = .ok (.iload_n 1, 1) := by decide +kernel
theorem dX3_share_1 : decode cX3_share 1 = .ok (.invokestatic 44, 3) := by decide +kernel
theorem dX3_share_4 : decode cX3_share 4 = .ok (.ifCond .eq 17, 3) := by decide +kernel
theorem dX3_share_7 : decode cX3_share 7 = .ok (.iload_n 2, 1) := by decide +kernel
theorem dX3_share_8 : decode cX3_share 8 = .ok (.invokestatic 44, 3) := by decide +kernel
theorem dX3_share_11 : decode cX3_share 11 = .ok (.ifCond .eq 10, 3) := by decide +kernel
theorem dX3_share_14 : decode cX3_share 14 = .ok (.iload_n 3, 1) := by decide +kernel
theorem dX3_share_15 : decode cX3_share 15 = .ok (.invokestatic 77, 3) := by decide +kernel
theorem dX3_share_18 : decode cX3_share 18 = .ok (.ifCond .ne 5, 3) := by decide +kernel
theorem dX3_share_21 : decode cX3_share 21 = .ok (.iconst (-1), 1) := by decide +kernel
theorem dX3_share_22 : decode cX3_share 22 = .ok (.ireturn, 1) := by decide +kernel
theorem dX3_share_23 : decode cX3_share 23 = .ok (.aload_n 0, 1) := by decide +kernel
theorem dX3_share_24 : decode cX3_share 24 = .ok (.getfield 11, 3) := by decide +kernel
theorem dX3_share_27 : decode cX3_share 27 = .ok (.iload_n 1, 1) := by decide +kernel
theorem dX3_share_28 : decode cX3_share 28 = .ok (.aaload, 1) := by decide +kernel
theorem dX3_share_29 : decode cX3_share 29 = .ok (.astore 4, 2) := by decide +kernel
theorem dX3_share_31 : decode cX3_share 31 = .ok (.aload_n 0, 1) := by decide +kernel
theorem dX3_share_32 : decode cX3_share 32 = .ok (.getfield 11, 3) := by decide +kernel
theorem dX3_share_35 : decode cX3_share 35 = .ok (.iload_n 2, 1) := by decide +kernel
theorem dX3_share_36 : decode cX3_share 36 = .ok (.aaload, 1) := by decide +kernel
theorem dX3_share_37 : decode cX3_share 37 = .ok (.astore 5, 2) := by decide +kernel
theorem dX3_share_39 : decode cX3_share 39 = .ok (.aload_n 0, 1) := by decide +kernel
theorem dX3_share_40 : decode cX3_share 40 = .ok (.aload 4, 2) := by decide +kernel
theorem dX3_share_42 : decode cX3_share 42 = .ok (.invokevirtual 69, 3) := by decide +kernel
theorem dX3_share_45 : decode cX3_share 45 = .ok (.ifCond .ne 6, 3) := by decide +kernel
theorem dX3_share_48 : decode cX3_share 48 = .ok (.bipush (-11), 2) := by decide +kernel
theorem dX3_share_50 : decode cX3_share 50 = .ok (.ireturn, 1) := by decide +kernel
theorem dX3_share_51 : decode cX3_share 51 = .ok (.aload_n 0, 1) := by decide +kernel
theorem dX3_share_52 : decode cX3_share 52 = .ok (.aload_n 0, 1) := by decide +kernel
theorem dX3_share_53 : decode cX3_share 53 = .ok (.aload 5, 2) := by decide +kernel
theorem dX3_share_55 : decode cX3_share 55 = .ok (.invokevirtual 69, 3) := by decide +kernel
theorem dX3_share_58 : decode cX3_share 58 = .ok (.ifCond .eq 18, 3) := by decide +kernel
theorem dX3_share_61 : decode cX3_share 61 = .ok (.aload_n 0, 1) := by decide +kernel
theorem dX3_share_62 : decode cX3_share 62 = .ok (.aload 4, 2) := by decide +kernel
theorem dX3_share_64 : decode cX3_share 64 = .ok (.aload 5, 2) := by decide +kernel
theorem dX3_share_66 : decode cX3_share 66 = .ok (.iload_n 3, 1) := by decide +kernel
theorem dX3_share_67 : decode cX3_share 67 = .ok (.invokestatic 109, 3) := by decide +kernel
theorem dX3_share_70 : decode cX3_share 70 = .ok (.invokevirtual 73, 3) := by decide +kernel
theorem dX3_share_73 : decode cX3_share 73 = .ok (.goto 5, 3) := by decide +kernel
theorem dX3_share_76 : decode cX3_share 76 = .ok (.bipush (-11), 2) := by decide +kernel
theorem dX3_share_78 : decode cX3_share 78 = .ok (.invokevirtual 73, 3) := by decide +kernel
theorem dX3_share_81 : decode cX3_share 81 = .ok (.ireturn, 1) := by decide +kernel
theorem dX3_first_0 : decode cX3_first 0 = .ok (.iload_n 1, 1) := by decide +kernel
theorem dX3_first_1 : decode cX3_first 1 = .ok (.sipush 10000, 3) := by decide +kernel
theorem dX3_first_4 : decode cX3_first 4 = .ok (.invokestatic 48, 3) := by decide +kernel
theorem dX3_first_7 : decode cX3_first 7 = .ok (.ifCond .ne 5, 3) := by decide +kernel
theorem dX3_first_10 : decode cX3_first 10 = .ok (.iconst (-1), 1) := by decide +kernel
theorem dX3_first_11 : decode cX3_first 11 = .ok (.ireturn, 1) := by decide +kernel
theorem dX3_first_12 : decode cX3_first 12 = .ok (.iconst 0, 1) := by decide +kernel
theorem dX3_first_13 : decode cX3_first 13 = .ok (.istore_n 2, 1) := by decide +kernel
theorem dX3_first_14 : decode cX3_first 14 = .ok (.iload_n 2, 1) := by decide +kernel
theorem dX3_first_15 : decode cX3_first 15 = .ok (.bipush 8, 2) := by decide +kernel
theorem dX3_first_17 : decode cX3_first 17 = .ok (.if_icmp .ge 25, 3) := by decide +kernel
theorem dX3_first_20 : decode cX3_first 20 = .ok (.aload_n 0, 1) := by decide +kernel
theorem dX3_first_21 : decode cX3_first 21 = .ok (.aload_n 0, 1) := by decide +kernel
theorem dX3_first_22 : decode cX3_first 22 = .ok (.getfield 11, 3) := by decide +kernel
theorem dX3_first_25 : decode cX3_first 25 = .ok (.iload_n 2, 1) := by decide +kernel
theorem dX3_first_26 : decode cX3_first 26 = .ok (.aaload, 1) := by decide +kernel
theorem dX3_first_27 : decode cX3_first 27 = .ok (.iload_n 1, 1) := by decide +kernel
theorem dX3_first_28 : decode cX3_first 28 = .ok (.invokevirtual 113, 3) := by decide +kernel
theorem dX3_first_31 : decode cX3_first 31 = .ok (.ifCond .eq 5, 3) := by decide +kernel
theorem dX3_first_34 : decode cX3_first 34 = .ok (.iload_n 2, 1) := by decide +kernel
theorem dX3_first_35 : decode cX3_first 35 = .ok (.ireturn, 1) := by decide +kernel
theorem dX3_first_36 : decode cX3_first 36 = .ok (.iinc 2 1, 3) := by decide +kernel
theorem dX3_first_39 : decode cX3_first 39 = .ok (.goto (-25), 3) := by decide +kernel
theorem dX3_first_42 : decode cX3_first 42 = .ok (.bipush (-2), 2) := by decide +kernel
theorem dX3_first_44 : decode cX3_first 44 = .ok (.ireturn, 1) := by decide +kernel
theorem dX3_look_0 : decode cX3_look 0 = .ok (.iload_n 1, 1) := by decide +kernel
theorem dX3_look_1 : decode cX3_look 1 = .ok (.invokestatic 44, 3) := by decide +kernel
theorem dX3_look_4 : decode cX3_look 4 = .ok (.ifCond .eq 12, 3) := by decide +kernel
theorem dX3_look_7 : decode cX3_look 7 = .ok (.iload_n 2, 1) := by decide +kernel
theorem dX3_look_8 : decode cX3_look 8 = .ok (.bipush 8, 2) := by decide +kernel
theorem dX3_look_10 : decode cX3_look 10 = .ok (.invokestatic 48, 3) := by decide +kernel
theorem dX3_look_13 : decode cX3_look 13 = .ok (.ifCond .ne 5, 3) := by decide +kernel
theorem dX3_look_16 : decode cX3_look 16 = .ok (.iconst (-1), 1) := by decide +kernel
theorem dX3_look_17 : decode cX3_look 17 = .ok (.ireturn, 1) := by decide +kernel
theorem dX3_look_18 : decode cX3_look 18 = .ok (.aload_n 0, 1) := by decide +kernel
theorem dX3_look_19 : decode cX3_look 19 = .ok (.getfield 11, 3) := by decide +kernel
theorem dX3_look_22 : decode cX3_look 22 = .ok (.iload_n 1, 1) := by decide +kernel
theorem dX3_look_23 : decode cX3_look 23 = .ok (.aaload, 1) := by decide +kernel
theorem dX3_look_24 : decode cX3_look 24 = .ok (.astore_n 3, 1) := by decide +kernel
theorem dX3_look_25 : decode cX3_look 25 = .ok (.aload_n 0, 1) := by decide +kernel
theorem dX3_look_26 : decode cX3_look 26 = .ok (.aload_n 3, 1) := by decide +kernel
theorem dX3_look_27 : decode cX3_look 27 = .ok (.invokevirtual 69, 3) := by decide +kernel
theorem dX3_look_30 : decode cX3_look 30 = .ok (.ifCond .eq 15, 3) := by decide +kernel
theorem dX3_look_33 : decode cX3_look 33 = .ok (.aload_n 0, 1) := by decide +kernel
theorem dX3_look_34 : decode cX3_look 34 = .ok (.aload_n 3, 1) := by decide +kernel
theorem dX3_look_35 : decode cX3_look 35 = .ok (.iload_n 2, 1) := by decide +kernel
theorem dX3_look_36 : decode cX3_look 36 = .ok (.invokevirtual 117, 3) := by decide +kernel
theorem dX3_look_39 : decode cX3_look 39 = .ok (.invokevirtual 73, 3) := by decide +kernel
theorem dX3_look_42 : decode cX3_look 42 = .ok (.goto 5, 3) := by decide +kernel
theorem dX3_look_45 : decode cX3_look 45 = .ok (.bipush (-11), 2) := by decide +kernel
theorem dX3_look_47 : decode cX3_look 47 = .ok (.ireturn, 1) := by decide +kernel
theorem dX3_hand_0 : decode cX3_hand 0 = .ok (.iload_n 1, 1) := by decide +kernel
theorem dX3_hand_1 : decode cX3_hand 1 = .ok (.bipush 6, 2) := by decide +kernel
theorem dX3_hand_3 : decode cX3_hand 3 = .ok (.invokestatic 48, 3) := by decide +kernel
theorem dX3_hand_6 : decode cX3_hand 6 = .ok (.ifCond .eq 14, 3) := by decide +kernel
theorem dX3_hand_9 : decode cX3_hand 9 = .ok (.aload_n 0, 1) := by decide +kernel
theorem dX3_hand_10 : decode cX3_hand 10 = .ok (.getfield 19, 3) := by decide +kernel
theorem dX3_hand_13 : decode cX3_hand 13 = .ok (.iload_n 1, 1) := by decide +kernel
theorem dX3_hand_14 : decode cX3_hand 14 = .ok (.invokevirtual 120, 3) := by decide +kernel
theorem dX3_hand_17 : decode cX3_hand 17 = .ok (.goto 4, 3) := by decide +kernel
theorem dX3_hand_20 : decode cX3_hand 20 = .ok (.iconst (-1), 1) := by decide +kernel
theorem dX3_hand_21 : decode cX3_hand 21 = .ok (.ireturn, 1) := by decide +kernel
theorem dX3_count_0 : decode cX3_count 0 = .ok (.iload_n 1, 1) := by decide +kernel
theorem dX3_count_1 : decode cX3_count 1 = .ok (.tableswitch 60 0 3 #[31, 39, 47, 55], 31) := by decide +kernel
theorem dX3_count_32 : decode cX3_count 32 = .ok (.aload_n 0, 1) := by decide +kernel
theorem dX3_count_33 : decode cX3_count 33 = .ok (.getfield 26, 3) := by decide +kernel
theorem dX3_count_36 : decode cX3_count 36 = .ok (.getfield 121, 3) := by decide +kernel
theorem dX3_count_39 : decode cX3_count 39 = .ok (.ireturn, 1) := by decide +kernel
theorem dX3_count_40 : decode cX3_count 40 = .ok (.aload_n 0, 1) := by decide +kernel
theorem dX3_count_41 : decode cX3_count 41 = .ok (.getfield 26, 3) := by decide +kernel
theorem dX3_count_44 : decode cX3_count 44 = .ok (.getfield 124, 3) := by decide +kernel
theorem dX3_count_47 : decode cX3_count 47 = .ok (.ireturn, 1) := by decide +kernel
theorem dX3_count_48 : decode cX3_count 48 = .ok (.aload_n 0, 1) := by decide +kernel
theorem dX3_count_49 : decode cX3_count 49 = .ok (.getfield 26, 3) := by decide +kernel
theorem dX3_count_52 : decode cX3_count 52 = .ok (.getfield 127, 3) := by decide +kernel
theorem dX3_count_55 : decode cX3_count 55 = .ok (.ireturn, 1) := by decide +kernel
theorem dX3_count_56 : decode cX3_count 56 = .ok (.aload_n 0, 1) := by decide +kernel
theorem dX3_count_57 : decode cX3_count 57 = .ok (.invokevirtual 130, 3) := by decide +kernel
theorem dX3_count_60 : decode cX3_count 60 = .ok (.ireturn, 1) := by decide +kernel
theorem dX3_count_61 : decode cX3_count 61 = .ok (.iconst (-1), 1) := by decide +kernel
theorem dX3_count_62 : decode cX3_count 62 = .ok (.ireturn, 1) := by decide +kernel
theorem dX3_isUpTo_0 : decode cX3_isUpTo 0 = .ok (.iload_n 0, 1) := by decide +kernel
theorem dX3_isUpTo_1 : decode cX3_isUpTo 1 = .ok (.ifCond .lt 12, 3) := by decide +kernel
theorem dX3_isUpTo_4 : decode cX3_isUpTo 4 = .ok (.iload_n 0, 1) := by decide +kernel
theorem dX3_isUpTo_5 : decode cX3_isUpTo 5 = .ok (.iload_n 1, 1) := by decide +kernel
theorem dX3_isUpTo_6 : decode cX3_isUpTo 6 = .ok (.if_icmp .gt 7, 3) := by decide +kernel
theorem dX3_isUpTo_9 : decode cX3_isUpTo 9 = .ok (.iconst 1, 1) := by decide +kernel
theorem dX3_isUpTo_10 : decode cX3_isUpTo 10 = .ok (.goto 4, 3) := by decide +kernel
theorem dX3_isUpTo_13 : decode cX3_isUpTo 13 = .ok (.iconst 0, 1) := by decide +kernel
theorem dX3_isUpTo_14 : decode cX3_isUpTo 14 = .ok (.ireturn, 1) := by decide +kernel
theorem dX3_isTill_0 : decode cX3_isTill 0 = .ok (.iload_n 0, 1) := by decide +kernel
theorem dX3_isTill_1 : decode cX3_isTill 1 = .ok (.ifCond .lt 13, 3) := by decide +kernel
theorem dX3_isTill_4 : decode cX3_isTill 4 = .ok (.iload_n 0, 1) := by decide +kernel
theorem dX3_isTill_5 : decode cX3_isTill 5 = .ok (.bipush 8, 2) := by decide +kernel
theorem dX3_isTill_7 : decode cX3_isTill 7 = .ok (.if_icmp .ge 7, 3) := by decide +kernel
theorem dX3_isTill_10 : decode cX3_isTill 10 = .ok (.iconst 1, 1) := by decide +kernel
theorem dX3_isTill_11 : decode cX3_isTill 11 = .ok (.goto 4, 3) := by decide +kernel
theorem dX3_isTill_14 : decode cX3_isTill 14 = .ok (.iconst 0, 1) := by decide +kernel
theorem dX3_isTill_15 : decode cX3_isTill 15 = .ok (.ireturn, 1) := by decide +kernel
theorem dX3_isKind_0 : decode cX3_isKind 0 = .ok (.iload_n 0, 1) := by decide +kernel
theorem dX3_isKind_1 : decode cX3_isKind 1 = .ok (.ifCond .lt 12, 3) := by decide +kernel
theorem dX3_isKind_4 : decode cX3_isKind 4 = .ok (.iload_n 0, 1) := by decide +kernel
theorem dX3_isKind_5 : decode cX3_isKind 5 = .ok (.iconst 5, 1) := by decide +kernel
theorem dX3_isKind_6 : decode cX3_isKind 6 = .ok (.if_icmp .ge 7, 3) := by decide +kernel
theorem dX3_isKind_9 : decode cX3_isKind 9 = .ok (.iconst 1, 1) := by decide +kernel
theorem dX3_isKind_10 : decode cX3_isKind 10 = .ok (.goto 4, 3) := by decide +kernel
theorem dX3_isKind_13 : decode cX3_isKind 13 = .ok (.iconst 0, 1) := by decide +kernel
theorem dX3_isKind_14 : decode cX3_isKind 14 = .ok (.ireturn, 1) := by decide +kernel
theorem dX3_tillsThere_0 : decode cX3_tillsThere 0 = .ok (.iconst 0, 1) := by decide +kernel
theorem dX3_tillsThere_1 : decode cX3_tillsThere 1 = .ok (.istore_n 1, 1) := by decide +kernel
theorem dX3_tillsThere_2 : decode cX3_tillsThere 2 = .ok (.iconst 0, 1) := by decide +kernel
theorem dX3_tillsThere_3 : decode cX3_tillsThere 3 = .ok (.istore_n 2, 1) := by decide +kernel
theorem dX3_tillsThere_4 : decode cX3_tillsThere 4 = .ok (.iload_n 2, 1) := by decide +kernel
theorem dX3_tillsThere_5 : decode cX3_tillsThere 5 = .ok (.bipush 8, 2) := by decide +kernel
theorem dX3_tillsThere_7 : decode cX3_tillsThere 7 = .ok (.if_icmp .ge 24, 3) := by decide +kernel
theorem dX3_tillsThere_10 : decode cX3_tillsThere 10 = .ok (.aload_n 0, 1) := by decide +kernel
theorem dX3_tillsThere_11 : decode cX3_tillsThere 11 = .ok (.getfield 11, 3) := by decide +kernel
theorem dX3_tillsThere_14 : decode cX3_tillsThere 14 = .ok (.iload_n 2, 1) := by decide +kernel
theorem dX3_tillsThere_15 : decode cX3_tillsThere 15 = .ok (.aaload, 1) := by decide +kernel
theorem dX3_tillsThere_16 : decode cX3_tillsThere 16 = .ok (.getfield 52, 3) := by decide +kernel
theorem dX3_tillsThere_19 : decode cX3_tillsThere 19 = .ok (.ifCond .eq 6, 3) := by decide +kernel
theorem dX3_tillsThere_22 : decode cX3_tillsThere 22 = .ok (.iinc 1 1, 3) := by decide +kernel
theorem dX3_tillsThere_25 : decode cX3_tillsThere 25 = .ok (.iinc 2 1, 3) := by decide +kernel
theorem dX3_tillsThere_28 : decode cX3_tillsThere 28 = .ok (.goto (-24), 3) := by decide +kernel
theorem dX3_tillsThere_31 : decode cX3_tillsThere 31 = .ok (.iload_n 1, 1) := by decide +kernel
theorem dX3_tillsThere_32 : decode cX3_tillsThere 32 = .ok (.ireturn, 1) := by decide +kernel
theorem dX3_begin_0 : decode cX3_begin 0 = .ok (.aload_n 1, 1) := by decide +kernel
theorem dX3_begin_1 : decode cX3_begin 1 = .ok (.getfield 52, 3) := by decide +kernel
theorem dX3_begin_4 : decode cX3_begin 4 = .ok (.ifCond .eq 10, 3) := by decide +kernel
theorem dX3_begin_7 : decode cX3_begin 7 = .ok (.aload_n 0, 1) := by decide +kernel
theorem dX3_begin_8 : decode cX3_begin 8 = .ok (.getfield 26, 3) := by decide +kernel
theorem dX3_begin_11 : decode cX3_begin 11 = .ok (.invokevirtual 134, 3) := by decide +kernel
theorem dX3_begin_14 : decode cX3_begin 14 = .ok (.aload_n 1, 1) := by decide +kernel
theorem dX3_begin_15 : decode cX3_begin 15 = .ok (.getfield 52, 3) := by decide +kernel
theorem dX3_begin_18 : decode cX3_begin 18 = .ok (.ireturn, 1) := by decide +kernel
theorem dX3_end_0 : decode cX3_end 0 = .ok (.aload_n 0, 1) := by decide +kernel
theorem dX3_end_1 : decode cX3_end 1 = .ok (.getfield 26, 3) := by decide +kernel
theorem dX3_end_4 : decode cX3_end 4 = .ok (.iload_n 1, 1) := by decide +kernel
theorem dX3_end_5 : decode cX3_end 5 = .ok (.ifCond .ge 7, 3) := by decide +kernel
theorem dX3_end_8 : decode cX3_end 8 = .ok (.iconst 1, 1) := by decide +kernel
theorem dX3_end_9 : decode cX3_end 9 = .ok (.goto 4, 3) := by decide +kernel
theorem dX3_end_12 : decode cX3_end 12 = .ok (.iconst 0, 1) := by decide +kernel
theorem dX3_end_13 : decode cX3_end 13 = .ok (.invokevirtual 136, 3) := by decide +kernel
theorem dX3_end_16 : decode cX3_end 16 = .ok (.iload_n 1, 1) := by decide +kernel
theorem dX3_end_17 : decode cX3_end 17 = .ok (.ireturn, 1) := by decide +kernel
theorem dX3_pick_0 : decode cX3_pick 0 = .ok (.iload_n 2, 1) := by decide +kernel
theorem dX3_pick_1 : decode cX3_pick 1 = .ok (.istore_n 3, 1) := by decide +kernel
theorem dX3_pick_2 : decode cX3_pick 2 = .ok (.iconst 4, 1) := by decide +kernel
theorem dX3_pick_3 : decode cX3_pick 3 = .ok (.istore 4, 2) := by decide +kernel
theorem dX3_pick_5 : decode cX3_pick 5 = .ok (.iload 4, 2) := by decide +kernel
theorem dX3_pick_7 : decode cX3_pick 7 = .ok (.ifCond .lt 56, 3) := by decide +kernel
theorem dX3_pick_10 : decode cX3_pick 10 = .ok (.aload_n 1, 1) := by decide +kernel
theorem dX3_pick_11 : decode cX3_pick 11 = .ok (.getfield 63, 3) := by decide +kernel
theorem dX3_pick_14 : decode cX3_pick 14 = .ok (.getfield 80, 3) := by decide +kernel
theorem dX3_pick_17 : decode cX3_pick 17 = .ok (.iload 4, 2) := by decide +kernel
theorem dX3_pick_19 : decode cX3_pick 19 = .ok (.iaload, 1) := by decide +kernel
theorem dX3_pick_20 : decode cX3_pick 20 = .ok (.iload_n 3, 1) := by decide +kernel
theorem dX3_pick_21 : decode cX3_pick 21 = .ok (.getstatic 139, 3) := by decide +kernel
theorem dX3_pick_24 : decode cX3_pick 24 = .ok (.iload 4, 2) := by decide +kernel
theorem dX3_pick_26 : decode cX3_pick 26 = .ok (.iaload, 1) := by decide +kernel
theorem dX3_pick_27 : decode cX3_pick 27 = .ok (.idiv, 1) := by decide +kernel
theorem dX3_pick_28 : decode cX3_pick 28 = .ok (.invokestatic 142, 3) := by decide +kernel
theorem dX3_pick_31 : decode cX3_pick 31 = .ok (.istore 5, 2) := by decide +kernel
theorem dX3_pick_33 : decode cX3_pick 33 = .ok (.aload_n 0, 1) := by decide +kernel
theorem dX3_pick_34 : decode cX3_pick 34 = .ok (.getfield 30, 3) := by decide +kernel
theorem dX3_pick_37 : decode cX3_pick 37 = .ok (.getfield 80, 3) := by decide +kernel
theorem dX3_pick_40 : decode cX3_pick 40 = .ok (.iload 4, 2) := by decide +kernel
theorem dX3_pick_42 : decode cX3_pick 42 = .ok (.iload 5, 2) := by decide +kernel
theorem dX3_pick_44 : decode cX3_pick 44 = .ok (.iastore, 1) := by decide +kernel
theorem dX3_pick_45 : decode cX3_pick 45 = .ok (.iload_n 3, 1) := by decide +kernel
theorem dX3_pick_46 : decode cX3_pick 46 = .ok (.iload 5, 2) := by decide +kernel
theorem dX3_pick_48 : decode cX3_pick 48 = .ok (.getstatic 139, 3) := by decide +kernel
theorem dX3_pick_51 : decode cX3_pick 51 = .ok (.iload 4, 2) := by decide +kernel
theorem dX3_pick_53 : decode cX3_pick 53 = .ok (.iaload, 1) := by decide +kernel
theorem dX3_pick_54 : decode cX3_pick 54 = .ok (.imul, 1) := by decide +kernel
theorem dX3_pick_55 : decode cX3_pick 55 = .ok (.isub, 1) := by decide +kernel
theorem dX3_pick_56 : decode cX3_pick 56 = .ok (.istore_n 3, 1) := by decide +kernel
theorem dX3_pick_57 : decode cX3_pick 57 = .ok (.iinc 4 (-1), 3) := by decide +kernel
theorem dX3_pick_60 : decode cX3_pick 60 = .ok (.goto (-55), 3) := by decide +kernel
theorem dX3_pick_63 : decode cX3_pick 63 = .ok (.iload_n 3, 1) := by decide +kernel
theorem dX3_pick_64 : decode cX3_pick 64 = .ok (.ifCond .ne 7, 3) := by decide +kernel
theorem dX3_pick_67 : decode cX3_pick 67 = .ok (.iconst 1, 1) := by decide +kernel
theorem dX3_pick_68 : decode cX3_pick 68 = .ok (.goto 4, 3) := by decide +kernel
theorem dX3_pick_71 : decode cX3_pick 71 = .ok (.iconst 0, 1) := by decide +kernel
theorem dX3_pick_72 : decode cX3_pick 72 = .ok (.ireturn, 1) := by decide +kernel
theorem dX3_couldPay_0 : decode cX3_couldPay 0 = .ok (.aload_n 0, 1) := by decide +kernel
theorem dX3_couldPay_1 : decode cX3_couldPay 1 = .ok (.aload_n 1, 1) := by decide +kernel
theorem dX3_couldPay_2 : decode cX3_couldPay 2 = .ok (.invokevirtual 69, 3) := by decide +kernel
theorem dX3_couldPay_5 : decode cX3_couldPay 5 = .ok (.ifCond .ne 5, 3) := by decide +kernel
theorem dX3_couldPay_8 : decode cX3_couldPay 8 = .ok (.iconst 0, 1) := by decide +kernel
theorem dX3_couldPay_9 : decode cX3_couldPay 9 = .ok (.ireturn, 1) := by decide +kernel
theorem dX3_couldPay_10 : decode cX3_couldPay 10 = .ok (.aload_n 1, 1) := by decide +kernel
theorem dX3_couldPay_11 : decode cX3_couldPay 11 = .ok (.getfield 56, 3) := by decide +kernel
theorem dX3_couldPay_14 : decode cX3_couldPay 14 = .ok (.ifCond .ne 16, 3) := by decide +kernel
theorem dX3_couldPay_17 : decode cX3_couldPay 17 = .ok (.aload_n 0, 1) := by decide +kernel
theorem dX3_couldPay_18 : decode cX3_couldPay 18 = .ok (.aload_n 1, 1) := by decide +kernel
theorem dX3_couldPay_19 : decode cX3_couldPay 19 = .ok (.iload_n 2, 1) := by decide +kernel
theorem dX3_couldPay_20 : decode cX3_couldPay 20 = .ok (.invokevirtual 148, 3) := by decide +kernel
theorem dX3_couldPay_23 : decode cX3_couldPay 23 = .ok (.ifCond .eq 7, 3) := by decide +kernel
theorem dX3_couldPay_26 : decode cX3_couldPay 26 = .ok (.iconst 1, 1) := by decide +kernel
theorem dX3_couldPay_27 : decode cX3_couldPay 27 = .ok (.goto 4, 3) := by decide +kernel
theorem dX3_couldPay_30 : decode cX3_couldPay 30 = .ok (.iconst 0, 1) := by decide +kernel
theorem dX3_couldPay_31 : decode cX3_couldPay 31 = .ok (.istore_n 3, 1) := by decide +kernel
theorem dX3_couldPay_32 : decode cX3_couldPay 32 = .ok (.aload_n 0, 1) := by decide +kernel
theorem dX3_couldPay_33 : decode cX3_couldPay 33 = .ok (.iconst 0, 1) := by decide +kernel
theorem dX3_couldPay_34 : decode cX3_couldPay 34 = .ok (.invokevirtual 73, 3) := by decide +kernel
theorem dX3_couldPay_37 : decode cX3_couldPay 37 = .ok (.pop, 1) := by decide +kernel
theorem dX3_couldPay_38 : decode cX3_couldPay 38 = .ok (.iload_n 3, 1) := by decide +kernel
theorem dX3_couldPay_39 : decode cX3_couldPay 39 = .ok (.ireturn, 1) := by decide +kernel
theorem dX3_pay_0 : decode cX3_pay 0 = .ok (.aload_n 1, 1) := by decide +kernel
theorem dX3_pay_1 : decode cX3_pay 1 = .ok (.getfield 56, 3) := by decide +kernel
theorem dX3_pay_4 : decode cX3_pay 4 = .ok (.ifCond .eq 6, 3) := by decide +kernel
theorem dX3_pay_7 : decode cX3_pay 7 = .ok (.bipush (-12), 2) := by decide +kernel
theorem dX3_pay_9 : decode cX3_pay 9 = .ok (.ireturn, 1) := by decide +kernel
theorem dX3_pay_10 : decode cX3_pay 10 = .ok (.aload_n 0, 1) := by decide +kernel
theorem dX3_pay_11 : decode cX3_pay 11 = .ok (.aload_n 1, 1) := by decide +kernel
theorem dX3_pay_12 : decode cX3_pay 12 = .ok (.iload_n 2, 1) := by decide +kernel
theorem dX3_pay_13 : decode cX3_pay 13 = .ok (.invokevirtual 148, 3) := by decide +kernel
theorem dX3_pay_16 : decode cX3_pay 16 = .ok (.ifCond .ne 6, 3) := by decide +kernel
theorem dX3_pay_19 : decode cX3_pay 19 = .ok (.bipush (-13), 2) := by decide +kernel
theorem dX3_pay_21 : decode cX3_pay 21 = .ok (.ireturn, 1) := by decide +kernel
theorem dX3_pay_22 : decode cX3_pay 22 = .ok (.aload_n 1, 1) := by decide +kernel
theorem dX3_pay_23 : decode cX3_pay 23 = .ok (.getfield 63, 3) := by decide +kernel
theorem dX3_pay_26 : decode cX3_pay 26 = .ok (.aload_n 0, 1) := by decide +kernel
theorem dX3_pay_27 : decode cX3_pay 27 = .ok (.getfield 30, 3) := by decide +kernel
theorem dX3_pay_30 : decode cX3_pay 30 = .ok (.invokevirtual 151, 3) := by decide +kernel
theorem dX3_pay_33 : decode cX3_pay 33 = .ok (.aload_n 0, 1) := by decide +kernel
theorem dX3_pay_34 : decode cX3_pay 34 = .ok (.getfield 19, 3) := by decide +kernel
theorem dX3_pay_37 : decode cX3_pay 37 = .ok (.aload_n 0, 1) := by decide +kernel
theorem dX3_pay_38 : decode cX3_pay 38 = .ok (.getfield 30, 3) := by decide +kernel
theorem dX3_pay_41 : decode cX3_pay 41 = .ok (.invokevirtual 83, 3) := by decide +kernel
theorem dX3_pay_44 : decode cX3_pay 44 = .ok (.aload_n 0, 1) := by decide +kernel
theorem dX3_pay_45 : decode cX3_pay 45 = .ok (.getfield 30, 3) := by decide +kernel
theorem dX3_pay_48 : decode cX3_pay 48 = .ok (.invokevirtual 154, 3) := by decide +kernel
theorem dX3_pay_51 : decode cX3_pay 51 = .ok (.ireturn, 1) := by decide +kernel
theorem dX3_layPicked_0 : decode cX3_layPicked 0 = .ok (.aload_n 1, 1) := by decide +kernel
theorem dX3_layPicked_1 : decode cX3_layPicked 1 = .ok (.getfield 56, 3) := by decide +kernel
theorem dX3_layPicked_4 : decode cX3_layPicked 4 = .ok (.ifCond .eq 6, 3) := by decide +kernel
theorem dX3_layPicked_7 : decode cX3_layPicked 7 = .ok (.bipush (-12), 2) := by decide +kernel
theorem dX3_layPicked_9 : decode cX3_layPicked 9 = .ok (.ireturn, 1) := by decide +kernel
theorem dX3_layPicked_10 : decode cX3_layPicked 10 = .ok (.aload_n 1, 1) := by decide +kernel
theorem dX3_layPicked_11 : decode cX3_layPicked 11 = .ok (.aload_n 0, 1) := by decide +kernel
theorem dX3_layPicked_12 : decode cX3_layPicked 12 = .ok (.getfield 30, 3) := by decide +kernel
theorem dX3_layPicked_15 : decode cX3_layPicked 15 = .ok (.invokevirtual 154, 3) := by decide +kernel
theorem dX3_layPicked_18 : decode cX3_layPicked 18 = .ok (.invokevirtual 157, 3) := by decide +kernel
theorem dX3_layPicked_21 : decode cX3_layPicked 21 = .ok (.ifCond .ne 6, 3) := by decide +kernel
theorem dX3_layPicked_24 : decode cX3_layPicked 24 = .ok (.bipush (-14), 2) := by decide +kernel
theorem dX3_layPicked_26 : decode cX3_layPicked 26 = .ok (.ireturn, 1) := by decide +kernel
theorem dX3_layPicked_27 : decode cX3_layPicked 27 = .ok (.aload_n 0, 1) := by decide +kernel
theorem dX3_layPicked_28 : decode cX3_layPicked 28 = .ok (.getfield 19, 3) := by decide +kernel
theorem dX3_layPicked_31 : decode cX3_layPicked 31 = .ok (.aload_n 0, 1) := by decide +kernel
theorem dX3_layPicked_32 : decode cX3_layPicked 32 = .ok (.getfield 30, 3) := by decide +kernel
theorem dX3_layPicked_35 : decode cX3_layPicked 35 = .ok (.invokevirtual 151, 3) := by decide +kernel
theorem dX3_layPicked_38 : decode cX3_layPicked 38 = .ok (.aload_n 1, 1) := by decide +kernel
theorem dX3_layPicked_39 : decode cX3_layPicked 39 = .ok (.getfield 63, 3) := by decide +kernel
theorem dX3_layPicked_42 : decode cX3_layPicked 42 = .ok (.aload_n 0, 1) := by decide +kernel
theorem dX3_layPicked_43 : decode cX3_layPicked 43 = .ok (.getfield 30, 3) := by decide +kernel
theorem dX3_layPicked_46 : decode cX3_layPicked 46 = .ok (.invokevirtual 83, 3) := by decide +kernel
theorem dX3_layPicked_49 : decode cX3_layPicked 49 = .ok (.aload_n 1, 1) := by decide +kernel
theorem dX3_layPicked_50 : decode cX3_layPicked 50 = .ok (.getfield 63, 3) := by decide +kernel
theorem dX3_layPicked_53 : decode cX3_layPicked 53 = .ok (.invokevirtual 154, 3) := by decide +kernel
theorem dX3_layPicked_56 : decode cX3_layPicked 56 = .ok (.ireturn, 1) := by decide +kernel
theorem dX3_moveWithin_0 : decode cX3_moveWithin 0 = .ok (.aload_n 0, 1) := by decide +kernel
theorem dX3_moveWithin_1 : decode cX3_moveWithin 1 = .ok (.aload_n 1, 1) := by decide +kernel
theorem dX3_moveWithin_2 : decode cX3_moveWithin 2 = .ok (.iload_n 3, 1) := by decide +kernel
theorem dX3_moveWithin_3 : decode cX3_moveWithin 3 = .ok (.invokevirtual 91, 3) := by decide +kernel
theorem dX3_moveWithin_6 : decode cX3_moveWithin 6 = .ok (.istore 5, 2) := by decide +kernel
theorem dX3_moveWithin_8 : decode cX3_moveWithin 8 = .ok (.iload 5, 2) := by decide +kernel
theorem dX3_moveWithin_10 : decode cX3_moveWithin 10 = .ok (.ifCond .ge 6, 3) := by decide +kernel
theorem dX3_moveWithin_13 : decode cX3_moveWithin 13 = .ok (.iload 5, 2) := by decide +kernel
theorem dX3_moveWithin_15 : decode cX3_moveWithin 15 = .ok (.ireturn, 1) := by decide +kernel
theorem dX3_moveWithin_16 : decode cX3_moveWithin 16 = .ok (.aload_n 0, 1) := by decide +kernel
theorem dX3_moveWithin_17 : decode cX3_moveWithin 17 = .ok (.aload_n 2, 1) := by decide +kernel
theorem dX3_moveWithin_18 : decode cX3_moveWithin 18 = .ok (.invokevirtual 69, 3) := by decide +kernel
theorem dX3_moveWithin_21 : decode cX3_moveWithin 21 = .ok (.ifCond .eq 15, 3) := by decide +kernel
theorem dX3_moveWithin_24 : decode cX3_moveWithin 24 = .ok (.aload_n 0, 1) := by decide +kernel
theorem dX3_moveWithin_25 : decode cX3_moveWithin 25 = .ok (.aload_n 0, 1) := by decide +kernel
theorem dX3_moveWithin_26 : decode cX3_moveWithin 26 = .ok (.aload_n 2, 1) := by decide +kernel
theorem dX3_moveWithin_27 : decode cX3_moveWithin 27 = .ok (.invokevirtual 87, 3) := by decide +kernel
theorem dX3_moveWithin_30 : decode cX3_moveWithin 30 = .ok (.invokevirtual 73, 3) := by decide +kernel
theorem dX3_moveWithin_33 : decode cX3_moveWithin 33 = .ok (.goto 5, 3) := by decide +kernel
theorem dX3_moveWithin_36 : decode cX3_moveWithin 36 = .ok (.bipush (-11), 2) := by decide +kernel
theorem dX3_moveWithin_38 : decode cX3_moveWithin 38 = .ok (.istore 6, 2) := by decide +kernel
theorem dX3_moveWithin_40 : decode cX3_moveWithin 40 = .ok (.iload 6, 2) := by decide +kernel
theorem dX3_moveWithin_42 : decode cX3_moveWithin 42 = .ok (.ifCond .lt 6, 3) := by decide +kernel
theorem dX3_moveWithin_45 : decode cX3_moveWithin 45 = .ok (.iload 5, 2) := by decide +kernel
theorem dX3_moveWithin_47 : decode cX3_moveWithin 47 = .ok (.ireturn, 1) := by decide +kernel
theorem dX3_moveWithin_48 : decode cX3_moveWithin 48 = .ok (.iload 4, 2) := by decide +kernel
theorem dX3_moveWithin_50 : decode cX3_moveWithin 50 = .ok (.ifCond .eq 25, 3) := by decide +kernel
theorem dX3_moveWithin_53 : decode cX3_moveWithin 53 = .ok (.aload_n 0, 1) := by decide +kernel
theorem dX3_moveWithin_54 : decode cX3_moveWithin 54 = .ok (.getfield 19, 3) := by decide +kernel
theorem dX3_moveWithin_57 : decode cX3_moveWithin 57 = .ok (.aload_n 0, 1) := by decide +kernel
theorem dX3_moveWithin_58 : decode cX3_moveWithin 58 = .ok (.getfield 30, 3) := by decide +kernel
theorem dX3_moveWithin_61 : decode cX3_moveWithin 61 = .ok (.invokevirtual 151, 3) := by decide +kernel
theorem dX3_moveWithin_64 : decode cX3_moveWithin 64 = .ok (.aload_n 1, 1) := by decide +kernel
theorem dX3_moveWithin_65 : decode cX3_moveWithin 65 = .ok (.getfield 63, 3) := by decide +kernel
theorem dX3_moveWithin_68 : decode cX3_moveWithin 68 = .ok (.aload_n 0, 1) := by decide +kernel
theorem dX3_moveWithin_69 : decode cX3_moveWithin 69 = .ok (.getfield 30, 3) := by decide +kernel
theorem dX3_moveWithin_72 : decode cX3_moveWithin 72 = .ok (.invokevirtual 83, 3) := by decide +kernel
theorem dX3_moveWithin_75 : decode cX3_moveWithin 75 = .ok (.iload 6, 2) := by decide +kernel
theorem dX3_moveWithin_77 : decode cX3_moveWithin 77 = .ok (.ireturn, 1) := by decide +kernel
theorem dX3_readRow_0 : decode cX3_readRow 0 = .ok (.iload_n 1, 1) := by decide +kernel
theorem dX3_readRow_1 : decode cX3_readRow 1 = .ok (.ldc 160, 2) := by decide +kernel
theorem dX3_readRow_3 : decode cX3_readRow 3 = .ok (.invokestatic 48, 3) := by decide +kernel
theorem dX3_readRow_6 : decode cX3_readRow 6 = .ok (.ifCond .ne 5, 3) := by decide +kernel
theorem dX3_readRow_9 : decode cX3_readRow 9 = .ok (.iconst (-1), 1) := by decide +kernel
theorem dX3_readRow_10 : decode cX3_readRow 10 = .ok (.ireturn, 1) := by decide +kernel
theorem dX3_readRow_11 : decode cX3_readRow 11 = .ok (.iload_n 1, 1) := by decide +kernel
theorem dX3_readRow_12 : decode cX3_readRow 12 = .ok (.invokestatic 161, 3) := by decide +kernel
theorem dX3_readRow_15 : decode cX3_readRow 15 = .ok (.istore_n 2, 1) := by decide +kernel
theorem dX3_readRow_16 : decode cX3_readRow 16 = .ok (.iload_n 1, 1) := by decide +kernel
theorem dX3_readRow_17 : decode cX3_readRow 17 = .ok (.istore_n 3, 1) := by decide +kernel
theorem dX3_readRow_18 : decode cX3_readRow 18 = .ok (.iload_n 2, 1) := by decide +kernel
theorem dX3_readRow_19 : decode cX3_readRow 19 = .ok (.iconst 1, 1) := by decide +kernel
theorem dX3_readRow_20 : decode cX3_readRow 20 = .ok (.isub, 1) := by decide +kernel
theorem dX3_readRow_21 : decode cX3_readRow 21 = .ok (.istore 4, 2) := by decide +kernel
theorem dX3_readRow_23 : decode cX3_readRow 23 = .ok (.iload 4, 2) := by decide +kernel
theorem dX3_readRow_25 : decode cX3_readRow 25 = .ok (.ifCond .lt 39, 3) := by decide +kernel
theorem dX3_readRow_28 : decode cX3_readRow 28 = .ok (.iload_n 3, 1) := by decide +kernel
theorem dX3_readRow_29 : decode cX3_readRow 29 = .ok (.bipush 10, 2) := by decide +kernel
theorem dX3_readRow_31 : decode cX3_readRow 31 = .ok (.irem, 1) := by decide +kernel
theorem dX3_readRow_32 : decode cX3_readRow 32 = .ok (.istore 5, 2) := by decide +kernel
theorem dX3_readRow_34 : decode cX3_readRow 34 = .ok (.iload 5, 2) := by decide +kernel
theorem dX3_readRow_36 : decode cX3_readRow 36 = .ok (.invokestatic 44, 3) := by decide +kernel
theorem dX3_readRow_39 : decode cX3_readRow 39 = .ok (.ifCond .ne 5, 3) := by decide +kernel
theorem dX3_readRow_42 : decode cX3_readRow 42 = .ok (.iconst (-1), 1) := by decide +kernel
theorem dX3_readRow_43 : decode cX3_readRow 43 = .ok (.ireturn, 1) := by decide +kernel
theorem dX3_readRow_44 : decode cX3_readRow 44 = .ok (.aload_n 0, 1) := by decide +kernel
theorem dX3_readRow_45 : decode cX3_readRow 45 = .ok (.getfield 40, 3) := by decide +kernel
theorem dX3_readRow_48 : decode cX3_readRow 48 = .ok (.iload 4, 2) := by decide +kernel
theorem dX3_readRow_50 : decode cX3_readRow 50 = .ok (.iload 5, 2) := by decide +kernel
theorem dX3_readRow_52 : decode cX3_readRow 52 = .ok (.iastore, 1) := by decide +kernel
theorem dX3_readRow_53 : decode cX3_readRow 53 = .ok (.iload_n 3, 1) := by decide +kernel
theorem dX3_readRow_54 : decode cX3_readRow 54 = .ok (.bipush 10, 2) := by decide +kernel
theorem dX3_readRow_56 : decode cX3_readRow 56 = .ok (.idiv, 1) := by decide +kernel
theorem dX3_readRow_57 : decode cX3_readRow 57 = .ok (.istore_n 3, 1) := by decide +kernel
theorem dX3_readRow_58 : decode cX3_readRow 58 = .ok (.iinc 4 (-1), 3) := by decide +kernel
theorem dX3_readRow_61 : decode cX3_readRow 61 = .ok (.goto (-38), 3) := by decide +kernel
theorem dX3_readRow_64 : decode cX3_readRow 64 = .ok (.iload_n 2, 1) := by decide +kernel
theorem dX3_readRow_65 : decode cX3_readRow 65 = .ok (.ireturn, 1) := by decide +kernel
theorem dX3_digitsOf_0 : decode cX3_digitsOf 0 = .ok (.iconst 1, 1) := by decide +kernel
theorem dX3_digitsOf_1 : decode cX3_digitsOf 1 = .ok (.istore_n 1, 1) := by decide +kernel
theorem dX3_digitsOf_2 : decode cX3_digitsOf 2 = .ok (.bipush 10, 2) := by decide +kernel
theorem dX3_digitsOf_4 : decode cX3_digitsOf 4 = .ok (.istore_n 2, 1) := by decide +kernel
theorem dX3_digitsOf_5 : decode cX3_digitsOf 5 = .ok (.iload_n 1, 1) := by decide +kernel
theorem dX3_digitsOf_6 : decode cX3_digitsOf 6 = .ok (.bipush 6, 2) := by decide +kernel
theorem dX3_digitsOf_8 : decode cX3_digitsOf 8 = .ok (.if_icmp .ge 19, 3) := by decide +kernel
theorem dX3_digitsOf_11 : decode cX3_digitsOf 11 = .ok (.iload_n 0, 1) := by decide +kernel
theorem dX3_digitsOf_12 : decode cX3_digitsOf 12 = .ok (.iload_n 2, 1) := by decide +kernel
theorem dX3_digitsOf_13 : decode cX3_digitsOf 13 = .ok (.if_icmp .lt 14, 3) := by decide +kernel
theorem dX3_digitsOf_16 : decode cX3_digitsOf 16 = .ok (.iinc 1 1, 3) := by decide +kernel
theorem dX3_digitsOf_19 : decode cX3_digitsOf 19 = .ok (.iload_n 2, 1) := by decide +kernel
theorem dX3_digitsOf_20 : decode cX3_digitsOf 20 = .ok (.bipush 10, 2) := by decide +kernel
theorem dX3_digitsOf_22 : decode cX3_digitsOf 22 = .ok (.imul, 1) := by decide +kernel
theorem dX3_digitsOf_23 : decode cX3_digitsOf 23 = .ok (.istore_n 2, 1) := by decide +kernel
theorem dX3_digitsOf_24 : decode cX3_digitsOf 24 = .ok (.goto (-19), 3) := by decide +kernel
theorem dX3_digitsOf_27 : decode cX3_digitsOf 27 = .ok (.iload_n 1, 1) := by decide +kernel
theorem dX3_digitsOf_28 : decode cX3_digitsOf 28 = .ok (.ireturn, 1) := by decide +kernel
theorem dX3_passFrom_0 : decode cX3_passFrom 0 = .ok (.iload_n 1, 1) := by decide +kernel
theorem dX3_passFrom_1 : decode cX3_passFrom 1 = .ok (.iload_n 2, 1) := by decide +kernel
theorem dX3_passFrom_2 : decode cX3_passFrom 2 = .ok (.if_icmp .ge 9, 3) := by decide +kernel
theorem dX3_passFrom_5 : decode cX3_passFrom 5 = .ok (.iload_n 1, 1) := by decide +kernel
theorem dX3_passFrom_6 : decode cX3_passFrom 6 = .ok (.bipush 6, 2) := by decide +kernel
theorem dX3_passFrom_8 : decode cX3_passFrom 8 = .ok (.if_icmp .lt 5, 3) := by decide +kernel
theorem dX3_passFrom_11 : decode cX3_passFrom 11 = .ok (.iload_n 2, 1) := by decide +kernel
theorem dX3_passFrom_12 : decode cX3_passFrom 12 = .ok (.ireturn, 1) := by decide +kernel
theorem dX3_passFrom_13 : decode cX3_passFrom 13 = .ok (.aload_n 0, 1) := by decide +kernel
theorem dX3_passFrom_14 : decode cX3_passFrom 14 = .ok (.getfield 11, 3) := by decide +kernel
theorem dX3_passFrom_17 : decode cX3_passFrom 17 = .ok (.aload_n 0, 1) := by decide +kernel
theorem dX3_passFrom_18 : decode cX3_passFrom 18 = .ok (.getfield 40, 3) := by decide +kernel
theorem dX3_passFrom_21 : decode cX3_passFrom 21 = .ok (.iload_n 1, 1) := by decide +kernel
theorem dX3_passFrom_22 : decode cX3_passFrom 22 = .ok (.iaload, 1) := by decide +kernel
theorem dX3_passFrom_23 : decode cX3_passFrom 23 = .ok (.aaload, 1) := by decide +kernel
theorem dX3_passFrom_24 : decode cX3_passFrom 24 = .ok (.astore 5, 2) := by decide +kernel
theorem dX3_passFrom_26 : decode cX3_passFrom 26 = .ok (.aload_n 0, 1) := by decide +kernel
theorem dX3_passFrom_27 : decode cX3_passFrom 27 = .ok (.aload 5, 2) := by decide +kernel
theorem dX3_passFrom_29 : decode cX3_passFrom 29 = .ok (.invokevirtual 69, 3) := by decide +kernel
theorem dX3_passFrom_32 : decode cX3_passFrom 32 = .ok (.ifCond .ne 6, 3) := by decide +kernel
theorem dX3_passFrom_35 : decode cX3_passFrom 35 = .ok (.bipush (-11), 2) := by decide +kernel
theorem dX3_passFrom_37 : decode cX3_passFrom 37 = .ok (.ireturn, 1) := by decide +kernel
theorem dX3_passFrom_38 : decode cX3_passFrom 38 = .ok (.aload_n 0, 1) := by decide +kernel
theorem dX3_passFrom_39 : decode cX3_passFrom 39 = .ok (.getfield 36, 3) := by decide +kernel
theorem dX3_passFrom_42 : decode cX3_passFrom 42 = .ok (.iload_n 1, 1) := by decide +kernel
theorem dX3_passFrom_43 : decode cX3_passFrom 43 = .ok (.aaload, 1) := by decide +kernel
theorem dX3_passFrom_44 : decode cX3_passFrom 44 = .ok (.aload 5, 2) := by decide +kernel
theorem dX3_passFrom_46 : decode cX3_passFrom 46 = .ok (.getfield 63, 3) := by decide +kernel
theorem dX3_passFrom_49 : decode cX3_passFrom 49 = .ok (.invokevirtual 102, 3) := by decide +kernel
theorem dX3_passFrom_52 : decode cX3_passFrom 52 = .ok (.aload_n 0, 1) := by decide +kernel
theorem dX3_passFrom_53 : decode cX3_passFrom 53 = .ok (.aload 5, 2) := by decide +kernel
theorem dX3_passFrom_55 : decode cX3_passFrom 55 = .ok (.iload_n 1, 1) := by decide +kernel
theorem dX3_passFrom_56 : decode cX3_passFrom 56 = .ok (.iload_n 2, 1) := by decide +kernel
theorem dX3_passFrom_57 : decode cX3_passFrom 57 = .ok (.iload_n 3, 1) := by decide +kernel
theorem dX3_passFrom_58 : decode cX3_passFrom 58 = .ok (.iload 4, 2) := by decide +kernel
theorem dX3_passFrom_60 : decode cX3_passFrom 60 = .ok (.invokevirtual 164, 3) := by decide +kernel
theorem dX3_passFrom_63 : decode cX3_passFrom 63 = .ok (.istore 6, 2) := by decide +kernel
theorem dX3_passFrom_65 : decode cX3_passFrom 65 = .ok (.iload 6, 2) := by decide +kernel
theorem dX3_passFrom_67 : decode cX3_passFrom 67 = .ok (.ifCond .ge 22, 3) := by decide +kernel
theorem dX3_passFrom_70 : decode cX3_passFrom 70 = .ok (.iload 4, 2) := by decide +kernel
theorem dX3_passFrom_72 : decode cX3_passFrom 72 = .ok (.ifCond .eq 17, 3) := by decide +kernel
theorem dX3_passFrom_75 : decode cX3_passFrom 75 = .ok (.aload 5, 2) := by decide +kernel
theorem dX3_passFrom_77 : decode cX3_passFrom 77 = .ok (.getfield 63, 3) := by decide +kernel
theorem dX3_passFrom_80 : decode cX3_passFrom 80 = .ok (.aload_n 0, 1) := by decide +kernel
theorem dX3_passFrom_81 : decode cX3_passFrom 81 = .ok (.getfield 36, 3) := by decide +kernel
theorem dX3_passFrom_84 : decode cX3_passFrom 84 = .ok (.iload_n 1, 1) := by decide +kernel
theorem dX3_passFrom_85 : decode cX3_passFrom 85 = .ok (.aaload, 1) := by decide +kernel
theorem dX3_passFrom_86 : decode cX3_passFrom 86 = .ok (.invokevirtual 102, 3) := by decide +kernel
theorem dX3_passFrom_89 : decode cX3_passFrom 89 = .ok (.aload_n 0, 1) := by decide +kernel
theorem dX3_passFrom_90 : decode cX3_passFrom 90 = .ok (.iload 6, 2) := by decide +kernel
theorem dX3_passFrom_92 : decode cX3_passFrom 92 = .ok (.invokevirtual 73, 3) := by decide +kernel
theorem dX3_passFrom_95 : decode cX3_passFrom 95 = .ok (.ireturn, 1) := by decide +kernel
theorem dX3_passWithin_0 : decode cX3_passWithin 0 = .ok (.iload_n 2, 1) := by decide +kernel
theorem dX3_passWithin_1 : decode cX3_passWithin 1 = .ok (.ifCond .ne 7, 3) := by decide +kernel
theorem dX3_passWithin_4 : decode cX3_passWithin 4 = .ok (.iconst 1, 1) := by decide +kernel
theorem dX3_passWithin_5 : decode cX3_passWithin 5 = .ok (.goto 4, 3) := by decide +kernel
theorem dX3_passWithin_8 : decode cX3_passWithin 8 = .ok (.iconst 0, 1) := by decide +kernel
theorem dX3_passWithin_9 : decode cX3_passWithin 9 = .ok (.istore 6, 2) := by decide +kernel
theorem dX3_passWithin_11 : decode cX3_passWithin 11 = .ok (.iload_n 2, 1) := by decide +kernel
theorem dX3_passWithin_12 : decode cX3_passWithin 12 = .ok (.iload_n 3, 1) := by decide +kernel
theorem dX3_passWithin_13 : decode cX3_passWithin 13 = .ok (.iconst 1, 1) := by decide +kernel
theorem dX3_passWithin_14 : decode cX3_passWithin 14 = .ok (.isub, 1) := by decide +kernel
theorem dX3_passWithin_15 : decode cX3_passWithin 15 = .ok (.if_icmp .ne 7, 3) := by decide +kernel
theorem dX3_passWithin_18 : decode cX3_passWithin 18 = .ok (.iconst 1, 1) := by decide +kernel
theorem dX3_passWithin_19 : decode cX3_passWithin 19 = .ok (.goto 4, 3) := by decide +kernel
theorem dX3_passWithin_22 : decode cX3_passWithin 22 = .ok (.iconst 0, 1) := by decide +kernel
theorem dX3_passWithin_23 : decode cX3_passWithin 23 = .ok (.istore 7, 2) := by decide +kernel
theorem dX3_passWithin_25 : decode cX3_passWithin 25 = .ok (.iload 6, 2) := by decide +kernel
theorem dX3_passWithin_27 : decode cX3_passWithin 27 = .ok (.ifCond .eq 7, 3) := by decide +kernel
theorem dX3_passWithin_30 : decode cX3_passWithin 30 = .ok (.iconst 0, 1) := by decide +kernel
theorem dX3_passWithin_31 : decode cX3_passWithin 31 = .ok (.goto 8, 3) := by decide +kernel
theorem dX3_passWithin_34 : decode cX3_passWithin 34 = .ok (.aload_n 0, 1) := by decide +kernel
theorem dX3_passWithin_35 : decode cX3_passWithin 35 = .ok (.aload_n 1, 1) := by decide +kernel
theorem dX3_passWithin_36 : decode cX3_passWithin 36 = .ok (.invokevirtual 87, 3) := by decide +kernel
theorem dX3_passWithin_39 : decode cX3_passWithin 39 = .ok (.istore 8, 2) := by decide +kernel
theorem dX3_passWithin_41 : decode cX3_passWithin 41 = .ok (.iload 8, 2) := by decide +kernel
theorem dX3_passWithin_43 : decode cX3_passWithin 43 = .ok (.ifCond .lt 22, 3) := by decide +kernel
theorem dX3_passWithin_46 : decode cX3_passWithin 46 = .ok (.iload 6, 2) := by decide +kernel
theorem dX3_passWithin_48 : decode cX3_passWithin 48 = .ok (.ifCond .ne 8, 3) := by decide +kernel
theorem dX3_passWithin_51 : decode cX3_passWithin 51 = .ok (.iload 7, 2) := by decide +kernel
theorem dX3_passWithin_53 : decode cX3_passWithin 53 = .ok (.ifCond .ne 12, 3) := by decide +kernel
theorem dX3_passWithin_56 : decode cX3_passWithin 56 = .ok (.aload_n 0, 1) := by decide +kernel
theorem dX3_passWithin_57 : decode cX3_passWithin 57 = .ok (.aload_n 1, 1) := by decide +kernel
theorem dX3_passWithin_58 : decode cX3_passWithin 58 = .ok (.iload 4, 2) := by decide +kernel
theorem dX3_passWithin_60 : decode cX3_passWithin 60 = .ok (.invokevirtual 91, 3) := by decide +kernel
theorem dX3_passWithin_63 : decode cX3_passWithin 63 = .ok (.istore 8, 2) := by decide +kernel
theorem dX3_passWithin_65 : decode cX3_passWithin 65 = .ok (.iload 8, 2) := by decide +kernel
theorem dX3_passWithin_67 : decode cX3_passWithin 67 = .ok (.ifCond .ge 8, 3) := by decide +kernel
theorem dX3_passWithin_70 : decode cX3_passWithin 70 = .ok (.iload 8, 2) := by decide +kernel
theorem dX3_passWithin_72 : decode cX3_passWithin 72 = .ok (.goto 15, 3) := by decide +kernel
theorem dX3_passWithin_75 : decode cX3_passWithin 75 = .ok (.aload_n 0, 1) := by decide +kernel
theorem dX3_passWithin_76 : decode cX3_passWithin 76 = .ok (.iload_n 2, 1) := by decide +kernel
theorem dX3_passWithin_77 : decode cX3_passWithin 77 = .ok (.iconst 1, 1) := by decide +kernel
theorem dX3_passWithin_78 : decode cX3_passWithin 78 = .ok (.iadd, 1) := by decide +kernel
theorem dX3_passWithin_79 : decode cX3_passWithin 79 = .ok (.iload_n 3, 1) := by decide +kernel
theorem dX3_passWithin_80 : decode cX3_passWithin 80 = .ok (.iload 4, 2) := by decide +kernel
theorem dX3_passWithin_82 : decode cX3_passWithin 82 = .ok (.iload 5, 2) := by decide +kernel
theorem dX3_passWithin_84 : decode cX3_passWithin 84 = .ok (.invokevirtual 105, 3) := by decide +kernel
theorem dX3_passWithin_87 : decode cX3_passWithin 87 = .ok (.ireturn, 1) := by decide +kernel
theorem dX3_halve_0 : decode cX3_halve 0 = .ok (.aload_n 0, 1) := by decide +kernel
theorem dX3_halve_1 : decode cX3_halve 1 = .ok (.getfield 56, 3) := by decide +kernel
theorem dX3_halve_4 : decode cX3_halve 4 = .ok (.ifCond .ne 10, 3) := by decide +kernel
theorem dX3_halve_7 : decode cX3_halve 7 = .ok (.aload_n 1, 1) := by decide +kernel
theorem dX3_halve_8 : decode cX3_halve 8 = .ok (.getfield 56, 3) := by decide +kernel
theorem dX3_halve_11 : decode cX3_halve 11 = .ok (.ifCond .eq 6, 3) := by decide +kernel
theorem dX3_halve_14 : decode cX3_halve 14 = .ok (.bipush (-12), 2) := by decide +kernel
theorem dX3_halve_16 : decode cX3_halve 16 = .ok (.ireturn, 1) := by decide +kernel
theorem dX3_halve_17 : decode cX3_halve 17 = .ok (.aload_n 0, 1) := by decide +kernel
theorem dX3_halve_18 : decode cX3_halve 18 = .ok (.getfield 63, 3) := by decide +kernel
theorem dX3_halve_21 : decode cX3_halve 21 = .ok (.getfield 80, 3) := by decide +kernel
theorem dX3_halve_24 : decode cX3_halve 24 = .ok (.iload_n 2, 1) := by decide +kernel
theorem dX3_halve_25 : decode cX3_halve 25 = .ok (.iaload, 1) := by decide +kernel
theorem dX3_halve_26 : decode cX3_halve 26 = .ok (.aload_n 1, 1) := by decide +kernel
theorem dX3_halve_27 : decode cX3_halve 27 = .ok (.getfield 63, 3) := by decide +kernel
theorem dX3_halve_30 : decode cX3_halve 30 = .ok (.getfield 80, 3) := by decide +kernel
theorem dX3_halve_33 : decode cX3_halve 33 = .ok (.iload_n 2, 1) := by decide +kernel
theorem dX3_halve_34 : decode cX3_halve 34 = .ok (.iaload, 1) := by decide +kernel
theorem dX3_halve_35 : decode cX3_halve 35 = .ok (.isub, 1) := by decide +kernel
theorem dX3_halve_36 : decode cX3_halve 36 = .ok (.iconst 2, 1) := by decide +kernel
theorem dX3_halve_37 : decode cX3_halve 37 = .ok (.idiv, 1) := by decide +kernel
theorem dX3_halve_38 : decode cX3_halve 38 = .ok (.istore_n 3, 1) := by decide +kernel
theorem dX3_halve_39 : decode cX3_halve 39 = .ok (.iload_n 3, 1) := by decide +kernel
theorem dX3_halve_40 : decode cX3_halve 40 = .ok (.ifCond .ge 14, 3) := by decide +kernel
theorem dX3_halve_43 : decode cX3_halve 43 = .ok (.aload_n 1, 1) := by decide +kernel
theorem dX3_halve_44 : decode cX3_halve 44 = .ok (.aload_n 0, 1) := by decide +kernel
theorem dX3_halve_45 : decode cX3_halve 45 = .ok (.iload_n 2, 1) := by decide +kernel
theorem dX3_halve_46 : decode cX3_halve 46 = .ok (.iload_n 3, 1) := by decide +kernel
theorem dX3_halve_47 : decode cX3_halve 47 = .ok (.ineg, 1) := by decide +kernel
theorem dX3_halve_48 : decode cX3_halve 48 = .ok (.invokestatic 168, 3) := by decide +kernel
theorem dX3_halve_51 : decode cX3_halve 51 = .ok (.goto 10, 3) := by decide +kernel
theorem dX3_halve_54 : decode cX3_halve 54 = .ok (.aload_n 0, 1) := by decide +kernel
theorem dX3_halve_55 : decode cX3_halve 55 = .ok (.aload_n 1, 1) := by decide +kernel
theorem dX3_halve_56 : decode cX3_halve 56 = .ok (.iload_n 2, 1) := by decide +kernel
theorem dX3_halve_57 : decode cX3_halve 57 = .ok (.iload_n 3, 1) := by decide +kernel
theorem dX3_halve_58 : decode cX3_halve 58 = .ok (.invokestatic 168, 3) := by decide +kernel
theorem dX3_halve_61 : decode cX3_halve 61 = .ok (.ireturn, 1) := by decide +kernel
theorem dX3_give_0 : decode cX3_give 0 = .ok (.aload_n 1, 1) := by decide +kernel
theorem dX3_give_1 : decode cX3_give 1 = .ok (.iload_n 3, 1) := by decide +kernel
theorem dX3_give_2 : decode cX3_give 2 = .ok (.invokevirtual 157, 3) := by decide +kernel
theorem dX3_give_5 : decode cX3_give 5 = .ok (.ifCond .ne 6, 3) := by decide +kernel
theorem dX3_give_8 : decode cX3_give 8 = .ok (.bipush (-14), 2) := by decide +kernel
theorem dX3_give_10 : decode cX3_give 10 = .ok (.ireturn, 1) := by decide +kernel
theorem dX3_give_11 : decode cX3_give 11 = .ok (.aload_n 0, 1) := by decide +kernel
theorem dX3_give_12 : decode cX3_give 12 = .ok (.getfield 63, 3) := by decide +kernel
theorem dX3_give_15 : decode cX3_give 15 = .ok (.getfield 80, 3) := by decide +kernel
theorem dX3_give_18 : decode cX3_give 18 = .ok (.iload_n 2, 1) := by decide +kernel
theorem dX3_give_19 : decode cX3_give 19 = .ok (.dup2, 1) := by decide +kernel
theorem dX3_give_20 : decode cX3_give 20 = .ok (.iaload, 1) := by decide +kernel
theorem dX3_give_21 : decode cX3_give 21 = .ok (.iload_n 3, 1) := by decide +kernel
theorem dX3_give_22 : decode cX3_give 22 = .ok (.isub, 1) := by decide +kernel
theorem dX3_give_23 : decode cX3_give 23 = .ok (.iastore, 1) := by decide +kernel
theorem dX3_give_24 : decode cX3_give 24 = .ok (.aload_n 1, 1) := by decide +kernel
theorem dX3_give_25 : decode cX3_give 25 = .ok (.getfield 63, 3) := by decide +kernel
theorem dX3_give_28 : decode cX3_give 28 = .ok (.getfield 80, 3) := by decide +kernel
theorem dX3_give_31 : decode cX3_give 31 = .ok (.iload_n 2, 1) := by decide +kernel
theorem dX3_give_32 : decode cX3_give 32 = .ok (.dup2, 1) := by decide +kernel
theorem dX3_give_33 : decode cX3_give 33 = .ok (.iaload, 1) := by decide +kernel
theorem dX3_give_34 : decode cX3_give 34 = .ok (.iload_n 3, 1) := by decide +kernel
theorem dX3_give_35 : decode cX3_give 35 = .ok (.iadd, 1) := by decide +kernel
theorem dX3_give_36 : decode cX3_give 36 = .ok (.iastore, 1) := by decide +kernel
theorem dX3_give_37 : decode cX3_give 37 = .ok (.iload_n 3, 1) := by decide +kernel
theorem dX3_give_38 : decode cX3_give 38 = .ok (.ireturn, 1) := by decide +kernel
end
section
theorem dX4_init_0 : decode cX4_init 0 = .ok (.aload_n 0, 1) := by decide +kernel
theorem dX4_init_1 : decode cX4_init 1 = .ok (.invokespecial 1, 3) := by decide +kernel
theorem dX4_init_4 : decode cX4_init 4 = .ok (.aload_n 0, 1) := by decide +kernel
theorem dX4_init_5 : decode cX4_init 5 = .ok (.bipush 8, 2) := by decide +kernel
theorem dX4_init_7 : decode cX4_init 7 = .ok (.newarray .boolean, 2) := by decide +kernel
theorem dX4_init_9 : decode cX4_init 9 = .ok (.putfield 7, 3) := by decide +kernel
theorem dX4_init_12 : decode cX4_init 12 = .ok (.aload_n 0, 1) := by decide +kernel
theorem dX4_init_13 : decode cX4_init 13 = .ok (.bipush 8, 2) := by decide +kernel
theorem dX4_init_15 : decode cX4_init 15 = .ok (.newarray .boolean, 2) := by decide +kernel
theorem dX4_init_17 : decode cX4_init 17 = .ok (.putfield 13, 3) := by decide +kernel
theorem dX4_init_20 : decode cX4_init 20 = .ok (.aload_n 0, 1) := by decide +kernel
theorem dX4_init_21 : decode cX4_init 21 = .ok (.bipush 8, 2) := by decide +kernel
theorem dX4_init_23 : decode cX4_init 23 = .ok (.newarray .int, 2) := by decide +kernel
theorem dX4_init_25 : decode cX4_init 25 = .ok (.putfield 16, 3) := by decide +kernel
theorem dX4_init_28 : decode cX4_init 28 = .ok (.aload_n 0, 1) := by decide +kernel
theorem dX4_init_29 : decode cX4_init 29 = .ok (.bipush 45, 2) := by decide +kernel
theorem dX4_init_31 : decode cX4_init 31 = .ok (.newarray .int, 2) := by decide +kernel
theorem dX4_init_33 : decode cX4_init 33 = .ok (.putfield 20, 3) := by decide +kernel
theorem dX4_init_36 : decode cX4_init 36 = .ok (.aload_n 0, 1) := by decide +kernel
theorem dX4_init_37 : decode cX4_init 37 = .ok (.iconst 5, 1) := by decide +kernel
theorem dX4_init_38 : decode cX4_init 38 = .ok (.newarray .int, 2) := by decide +kernel
theorem dX4_init_40 : decode cX4_init 40 = .ok (.putfield 23, 3) := by decide +kernel
theorem dX4_init_43 : decode cX4_init 43 = .ok (.aload_n 0, 1) := by decide +kernel
theorem dX4_init_44 : decode cX4_init 44 = .ok (.bipush 35, 2) := by decide +kernel
theorem dX4_init_46 : decode cX4_init 46 = .ok (.newarray .int, 2) := by decide +kernel
theorem dX4_init_48 : decode cX4_init 48 = .ok (.putfield 26, 3) := by decide +kernel
theorem dX4_init_51 : decode cX4_init 51 = .ok (.return_, 1) := by decide +kernel
theorem dX4_in_0 : decode cX4_in 0 = .ok (.iload_n 0, 1) := by decide +kernel
theorem dX4_in_1 : decode cX4_in 1 = .ok (.iload_n 1, 1) := by decide +kernel
theorem dX4_in_2 : decode cX4_in 2 = .ok (.if_icmp .lt 12, 3) := by decide +kernel
theorem dX4_in_5 : decode cX4_in 5 = .ok (.iload_n 0, 1) := by decide +kernel
theorem dX4_in_6 : decode cX4_in 6 = .ok (.iload_n 2, 1) := by decide +kernel
theorem dX4_in_7 : decode cX4_in 7 = .ok (.if_icmp .gt 7, 3) := by decide +kernel
theorem dX4_in_10 : decode cX4_in 10 = .ok (.iconst 1, 1) := by decide +kernel
theorem dX4_in_11 : decode cX4_in 11 = .ok (.goto 4, 3) := by decide +kernel
theorem dX4_in_14 : decode cX4_in 14 = .ok (.iconst 0, 1) := by decide +kernel
theorem dX4_in_15 : decode cX4_in 15 = .ok (.ireturn, 1) := by decide +kernel
theorem dX4_isTill_0 : decode cX4_isTill 0 = .ok (.iload_n 0, 1) := by decide +kernel
theorem dX4_isTill_1 : decode cX4_isTill 1 = .ok (.iconst 0, 1) := by decide +kernel
theorem dX4_isTill_2 : decode cX4_isTill 2 = .ok (.bipush 7, 2) := by decide +kernel
theorem dX4_isTill_4 : decode cX4_isTill 4 = .ok (.invokestatic 33, 3) := by decide +kernel
theorem dX4_isTill_7 : decode cX4_isTill 7 = .ok (.ireturn, 1) := by decide +kernel
theorem dX4_worthOf_0 : decode cX4_worthOf 0 = .ok (.iload_n 0, 1) := by decide +kernel
theorem dX4_worthOf_1 : decode cX4_worthOf 1 = .ok (.ifCond .ne 7, 3) := by decide +kernel
theorem dX4_worthOf_4 : decode cX4_worthOf 4 = .ok (.iconst 1, 1) := by decide +kernel
theorem dX4_worthOf_5 : decode cX4_worthOf 5 = .ok (.goto 33, 3) := by decide +kernel
theorem dX4_worthOf_8 : decode cX4_worthOf 8 = .ok (.iload_n 0, 1) := by decide +kernel
theorem dX4_worthOf_9 : decode cX4_worthOf 9 = .ok (.iconst 1, 1) := by decide +kernel
theorem dX4_worthOf_10 : decode cX4_worthOf 10 = .ok (.if_icmp .ne 7, 3) := by decide +kernel
theorem dX4_worthOf_13 : decode cX4_worthOf 13 = .ok (.iconst 2, 1) := by decide +kernel
theorem dX4_worthOf_14 : decode cX4_worthOf 14 = .ok (.goto 24, 3) := by decide +kernel
theorem dX4_worthOf_17 : decode cX4_worthOf 17 = .ok (.iload_n 0, 1) := by decide +kernel
theorem dX4_worthOf_18 : decode cX4_worthOf 18 = .ok (.iconst 2, 1) := by decide +kernel
theorem dX4_worthOf_19 : decode cX4_worthOf 19 = .ok (.if_icmp .ne 7, 3) := by decide +kernel
theorem dX4_worthOf_22 : decode cX4_worthOf 22 = .ok (.iconst 5, 1) := by decide +kernel
theorem dX4_worthOf_23 : decode cX4_worthOf 23 = .ok (.goto 15, 3) := by decide +kernel
theorem dX4_worthOf_26 : decode cX4_worthOf 26 = .ok (.iload_n 0, 1) := by decide +kernel
theorem dX4_worthOf_27 : decode cX4_worthOf 27 = .ok (.iconst 3, 1) := by decide +kernel
theorem dX4_worthOf_28 : decode cX4_worthOf 28 = .ok (.if_icmp .ne 8, 3) := by decide +kernel
theorem dX4_worthOf_31 : decode cX4_worthOf 31 = .ok (.bipush 10, 2) := by decide +kernel
theorem dX4_worthOf_33 : decode cX4_worthOf 33 = .ok (.goto 5, 3) := by decide +kernel
theorem dX4_worthOf_36 : decode cX4_worthOf 36 = .ok (.bipush 20, 2) := by decide +kernel
theorem dX4_worthOf_38 : decode cX4_worthOf 38 = .ok (.ireturn, 1) := by decide +kernel
theorem dX4_all_0 : decode cX4_all 0 = .ok (.iconst 0, 1) := by decide +kernel
theorem dX4_all_1 : decode cX4_all 1 = .ok (.istore_n 2, 1) := by decide +kernel
theorem dX4_all_2 : decode cX4_all 2 = .ok (.iconst 0, 1) := by decide +kernel
theorem dX4_all_3 : decode cX4_all 3 = .ok (.istore_n 3, 1) := by decide +kernel
theorem dX4_all_4 : decode cX4_all 4 = .ok (.iload_n 3, 1) := by decide +kernel
theorem dX4_all_5 : decode cX4_all 5 = .ok (.iconst 5, 1) := by decide +kernel
theorem dX4_all_6 : decode cX4_all 6 = .ok (.if_icmp .ge 22, 3) := by decide +kernel
theorem dX4_all_9 : decode cX4_all 9 = .ok (.iload_n 2, 1) := by decide +kernel
theorem dX4_all_10 : decode cX4_all 10 = .ok (.aload_n 0, 1) := by decide +kernel
theorem dX4_all_11 : decode cX4_all 11 = .ok (.getfield 20, 3) := by decide +kernel
theorem dX4_all_14 : decode cX4_all 14 = .ok (.iconst 5, 1) := by decide +kernel
theorem dX4_all_15 : decode cX4_all 15 = .ok (.iload_n 1, 1) := by decide +kernel
theorem dX4_all_16 : decode cX4_all 16 = .ok (.imul, 1) := by decide +kernel
theorem dX4_all_17 : decode cX4_all 17 = .ok (.iload_n 3, 1) := by decide +kernel
theorem dX4_all_18 : decode cX4_all 18 = .ok (.iadd, 1) := by decide +kernel
theorem dX4_all_19 : decode cX4_all 19 = .ok (.iaload, 1) := by decide +kernel
theorem dX4_all_20 : decode cX4_all 20 = .ok (.iadd, 1) := by decide +kernel
theorem dX4_all_21 : decode cX4_all 21 = .ok (.istore_n 2, 1) := by decide +kernel
theorem dX4_all_22 : decode cX4_all 22 = .ok (.iinc 3 1, 3) := by decide +kernel
theorem dX4_all_25 : decode cX4_all 25 = .ok (.goto (-21), 3) := by decide +kernel
theorem dX4_all_28 : decode cX4_all 28 = .ok (.iload_n 2, 1) := by decide +kernel
theorem dX4_all_29 : decode cX4_all 29 = .ok (.ireturn, 1) := by decide +kernel
theorem dX4_worth_0 : decode cX4_worth 0 = .ok (.iconst 0, 1) := by decide +kernel
theorem dX4_worth_1 : decode cX4_worth 1 = .ok (.istore_n 2, 1) := by decide +kernel
theorem dX4_worth_2 : decode cX4_worth 2 = .ok (.iconst 0, 1) := by decide +kernel
theorem dX4_worth_3 : decode cX4_worth 3 = .ok (.istore_n 3, 1) := by decide +kernel
theorem dX4_worth_4 : decode cX4_worth 4 = .ok (.iload_n 3, 1) := by decide +kernel
theorem dX4_worth_5 : decode cX4_worth 5 = .ok (.iconst 5, 1) := by decide +kernel
theorem dX4_worth_6 : decode cX4_worth 6 = .ok (.if_icmp .ge 27, 3) := by decide +kernel
theorem dX4_worth_9 : decode cX4_worth 9 = .ok (.iload_n 2, 1) := by decide +kernel
theorem dX4_worth_10 : decode cX4_worth 10 = .ok (.iload_n 3, 1) := by decide +kernel
theorem dX4_worth_11 : decode cX4_worth 11 = .ok (.invokestatic 37, 3) := by decide +kernel
theorem dX4_worth_14 : decode cX4_worth 14 = .ok (.aload_n 0, 1) := by decide +kernel
theorem dX4_worth_15 : decode cX4_worth 15 = .ok (.getfield 20, 3) := by decide +kernel
theorem dX4_worth_18 : decode cX4_worth 18 = .ok (.iconst 5, 1) := by decide +kernel
theorem dX4_worth_19 : decode cX4_worth 19 = .ok (.iload_n 1, 1) := by decide +kernel
theorem dX4_worth_20 : decode cX4_worth 20 = .ok (.imul, 1) := by decide +kernel
theorem dX4_worth_21 : decode cX4_worth 21 = .ok (.iload_n 3, 1) := by decide +kernel
theorem dX4_worth_22 : decode cX4_worth 22 = .ok (.iadd, 1) := by decide +kernel
theorem dX4_worth_23 : decode cX4_worth 23 = .ok (.iaload, 1) := by decide +kernel
theorem dX4_worth_24 : decode cX4_worth 24 = .ok (.imul, 1) := by decide +kernel
theorem dX4_worth_25 : decode cX4_worth 25 = .ok (.iadd, 1) := by decide +kernel
theorem dX4_worth_26 : decode cX4_worth 26 = .ok (.istore_n 2, 1) := by decide +kernel
theorem dX4_worth_27 : decode cX4_worth 27 = .ok (.iinc 3 1, 3) := by decide +kernel
theorem dX4_worth_30 : decode cX4_worth 30 = .ok (.goto (-26), 3) := by decide +kernel
theorem dX4_worth_33 : decode cX4_worth 33 = .ok (.iload_n 2, 1) := by decide +kernel
theorem dX4_worth_34 : decode cX4_worth 34 = .ok (.ireturn, 1) := by decide +kernel
theorem dX4_go_0 : decode cX4_go 0 = .ok (.iconst 0, 1) := by decide +kernel
theorem dX4_go_1 : decode cX4_go 1 = .ok (.istore 4, 2) := by decide +kernel
theorem dX4_go_3 : decode cX4_go 3 = .ok (.iload 4, 2) := by decide +kernel
theorem dX4_go_5 : decode cX4_go 5 = .ok (.iconst 5, 1) := by decide +kernel
theorem dX4_go_6 : decode cX4_go 6 = .ok (.if_icmp .ge 45, 3) := by decide +kernel
theorem dX4_go_9 : decode cX4_go 9 = .ok (.aload_n 0, 1) := by decide +kernel
theorem dX4_go_10 : decode cX4_go 10 = .ok (.getfield 20, 3) := by decide +kernel
theorem dX4_go_13 : decode cX4_go 13 = .ok (.iconst 5, 1) := by decide +kernel
theorem dX4_go_14 : decode cX4_go 14 = .ok (.iload_n 1, 1) := by decide +kernel
theorem dX4_go_15 : decode cX4_go 15 = .ok (.imul, 1) := by decide +kernel
theorem dX4_go_16 : decode cX4_go 16 = .ok (.iload 4, 2) := by decide +kernel
theorem dX4_go_18 : decode cX4_go 18 = .ok (.iadd, 1) := by decide +kernel
theorem dX4_go_19 : decode cX4_go 19 = .ok (.dup2, 1) := by decide +kernel
theorem dX4_go_20 : decode cX4_go 20 = .ok (.iaload, 1) := by decide +kernel
theorem dX4_go_21 : decode cX4_go 21 = .ok (.aload_n 3, 1) := by decide +kernel
theorem dX4_go_22 : decode cX4_go 22 = .ok (.iload 4, 2) := by decide +kernel
theorem dX4_go_24 : decode cX4_go 24 = .ok (.iaload, 1) := by decide +kernel
theorem dX4_go_25 : decode cX4_go 25 = .ok (.isub, 1) := by decide +kernel
theorem dX4_go_26 : decode cX4_go 26 = .ok (.iastore, 1) := by decide +kernel
theorem dX4_go_27 : decode cX4_go 27 = .ok (.aload_n 0, 1) := by decide +kernel
theorem dX4_go_28 : decode cX4_go 28 = .ok (.getfield 20, 3) := by decide +kernel
theorem dX4_go_31 : decode cX4_go 31 = .ok (.iconst 5, 1) := by decide +kernel
theorem dX4_go_32 : decode cX4_go 32 = .ok (.iload_n 2, 1) := by decide +kernel
theorem dX4_go_33 : decode cX4_go 33 = .ok (.imul, 1) := by decide +kernel
theorem dX4_go_34 : decode cX4_go 34 = .ok (.iload 4, 2) := by decide +kernel
theorem dX4_go_36 : decode cX4_go 36 = .ok (.iadd, 1) := by decide +kernel
theorem dX4_go_37 : decode cX4_go 37 = .ok (.dup2, 1) := by decide +kernel
theorem dX4_go_38 : decode cX4_go 38 = .ok (.iaload, 1) := by decide +kernel
theorem dX4_go_39 : decode cX4_go 39 = .ok (.aload_n 3, 1) := by decide +kernel
theorem dX4_go_40 : decode cX4_go 40 = .ok (.iload 4, 2) := by decide +kernel
theorem dX4_go_42 : decode cX4_go 42 = .ok (.iaload, 1) := by decide +kernel
theorem dX4_go_43 : decode cX4_go 43 = .ok (.iadd, 1) := by decide +kernel
theorem dX4_go_44 : decode cX4_go 44 = .ok (.iastore, 1) := by decide +kernel
theorem dX4_go_45 : decode cX4_go 45 = .ok (.iinc 4 1, 3) := by decide +kernel
theorem dX4_go_48 : decode cX4_go 48 = .ok (.goto (-45), 3) := by decide +kernel
theorem dX4_go_51 : decode cX4_go 51 = .ok (.return_, 1) := by decide +kernel
theorem dX4_hold_0 : decode cX4_hold 0 = .ok (.aload_n 0, 1) := by decide +kernel
theorem dX4_hold_1 : decode cX4_hold 1 = .ok (.getfield 7, 3) := by decide +kernel
theorem dX4_hold_4 : decode cX4_hold 4 = .ok (.iload_n 1, 1) := by decide +kernel
theorem dX4_hold_5 : decode cX4_hold 5 = .ok (.baload, 1) := by decide +kernel
theorem dX4_hold_6 : decode cX4_hold 6 = .ok (.ifCond .ne 5, 3) := by decide +kernel
theorem dX4_hold_9 : decode cX4_hold 9 = .ok (.iconst 1, 1) := by decide +kernel
theorem dX4_hold_10 : decode cX4_hold 10 = .ok (.ireturn, 1) := by decide +kernel
theorem dX4_hold_11 : decode cX4_hold 11 = .ok (.aload_n 0, 1) := by decide +kernel
theorem dX4_hold_12 : decode cX4_hold 12 = .ok (.dup, 1) := by decide +kernel
theorem dX4_hold_13 : decode cX4_hold 13 = .ok (.getfield 41, 3) := by decide +kernel
theorem dX4_hold_16 : decode cX4_hold 16 = .ok (.iconst 1, 1) := by decide +kernel
theorem dX4_hold_17 : decode cX4_hold 17 = .ok (.iadd, 1) := by decide +kernel
theorem dX4_hold_18 : decode cX4_hold 18 = .ok (.putfield 41, 3) := by decide +kernel
theorem dX4_hold_21 : decode cX4_hold 21 = .ok (.aload_n 0, 1) := by decide +kernel
theorem dX4_hold_22 : decode cX4_hold 22 = .ok (.dup, 1) := by decide +kernel
theorem dX4_hold_23 : decode cX4_hold 23 = .ok (.getfield 44, 3) := by decide +kernel
theorem dX4_hold_26 : decode cX4_hold 26 = .ok (.iconst 1, 1) := by decide +kernel
theorem dX4_hold_27 : decode cX4_hold 27 = .ok (.iadd, 1) := by decide +kernel
theorem dX4_hold_28 : decode cX4_hold 28 = .ok (.putfield 44, 3) := by decide +kernel
theorem dX4_hold_31 : decode cX4_hold 31 = .ok (.aload_n 0, 1) := by decide +kernel
theorem dX4_hold_32 : decode cX4_hold 32 = .ok (.aload_n 0, 1) := by decide +kernel
theorem dX4_hold_33 : decode cX4_hold 33 = .ok (.getfield 44, 3) := by decide +kernel
theorem dX4_hold_36 : decode cX4_hold 36 = .ok (.aload_n 0, 1) := by decide +kernel
theorem dX4_hold_37 : decode cX4_hold 37 = .ok (.getfield 47, 3) := by decide +kernel
theorem dX4_hold_40 : decode cX4_hold 40 = .ok (.if_icmp .le 10, 3) := by decide +kernel
theorem dX4_hold_43 : decode cX4_hold 43 = .ok (.aload_n 0, 1) := by decide +kernel
theorem dX4_hold_44 : decode cX4_hold 44 = .ok (.getfield 44, 3) := by decide +kernel
theorem dX4_hold_47 : decode cX4_hold 47 = .ok (.goto 7, 3) := by decide +kernel
theorem dX4_hold_50 : decode cX4_hold 50 = .ok (.aload_n 0, 1) := by decide +kernel
theorem dX4_hold_51 : decode cX4_hold 51 = .ok (.getfield 47, 3) := by decide +kernel
theorem dX4_hold_54 : decode cX4_hold 54 = .ok (.putfield 47, 3) := by decide +kernel
theorem dX4_hold_57 : decode cX4_hold 57 = .ok (.iconst 0, 1) := by decide +kernel
theorem dX4_hold_58 : decode cX4_hold 58 = .ok (.ireturn, 1) := by decide +kernel
theorem dX4_leave_0 : decode cX4_leave 0 = .ok (.aload_n 0, 1) := by decide +kernel
theorem dX4_leave_1 : decode cX4_leave 1 = .ok (.dup, 1) := by decide +kernel
theorem dX4_leave_2 : decode cX4_leave 2 = .ok (.getfield 44, 3) := by decide +kernel
theorem dX4_leave_5 : decode cX4_leave 5 = .ok (.iconst 1, 1) := by decide +kernel
theorem dX4_leave_6 : decode cX4_leave 6 = .ok (.isub, 1) := by decide +kernel
theorem dX4_leave_7 : decode cX4_leave 7 = .ok (.putfield 44, 3) := by decide +kernel
theorem dX4_leave_10 : decode cX4_leave 10 = .ok (.aload_n 0, 1) := by decide +kernel
theorem dX4_leave_11 : decode cX4_leave 11 = .ok (.dup, 1) := by decide +kernel
theorem dX4_leave_12 : decode cX4_leave 12 = .ok (.getfield 50, 3) := by decide +kernel
theorem dX4_leave_15 : decode cX4_leave 15 = .ok (.iload_n 1, 1) := by decide +kernel
theorem dX4_leave_16 : decode cX4_leave 16 = .ok (.ifCond .ne 7, 3) := by decide +kernel
theorem dX4_leave_19 : decode cX4_leave 19 = .ok (.iconst 0, 1) := by decide +kernel
theorem dX4_leave_20 : decode cX4_leave 20 = .ok (.goto 4, 3) := by decide +kernel
theorem dX4_leave_23 : decode cX4_leave 23 = .ok (.iconst 1, 1) := by decide +kernel
theorem dX4_leave_24 : decode cX4_leave 24 = .ok (.iadd, 1) := by decide +kernel
theorem dX4_leave_25 : decode cX4_leave 25 = .ok (.putfield 50, 3) := by decide +kernel
theorem dX4_leave_28 : decode cX4_leave 28 = .ok (.iload_n 1, 1) := by decide +kernel
theorem dX4_leave_29 : decode cX4_leave 29 = .ok (.ireturn, 1) := by decide +kernel
theorem dX4_lacks_0 : decode cX4_lacks 0 = .ok (.iload_n 2, 1) := by decide +kernel
theorem dX4_lacks_1 : decode cX4_lacks 1 = .ok (.istore_n 3, 1) := by decide +kernel
theorem dX4_lacks_2 : decode cX4_lacks 2 = .ok (.iconst 4, 1) := by decide +kernel
theorem dX4_lacks_3 : decode cX4_lacks 3 = .ok (.istore 4, 2) := by decide +kernel
theorem dX4_lacks_5 : decode cX4_lacks 5 = .ok (.iload 4, 2) := by decide +kernel
theorem dX4_lacks_7 : decode cX4_lacks 7 = .ok (.ifCond .lt 73, 3) := by decide +kernel
theorem dX4_lacks_10 : decode cX4_lacks 10 = .ok (.iload_n 3, 1) := by decide +kernel
theorem dX4_lacks_11 : decode cX4_lacks 11 = .ok (.iload 4, 2) := by decide +kernel
theorem dX4_lacks_13 : decode cX4_lacks 13 = .ok (.invokestatic 37, 3) := by decide +kernel
theorem dX4_lacks_16 : decode cX4_lacks 16 = .ok (.idiv, 1) := by decide +kernel
theorem dX4_lacks_17 : decode cX4_lacks 17 = .ok (.istore 5, 2) := by decide +kernel
theorem dX4_lacks_19 : decode cX4_lacks 19 = .ok (.aload_n 0, 1) := by decide +kernel
theorem dX4_lacks_20 : decode cX4_lacks 20 = .ok (.getfield 23, 3) := by decide +kernel
theorem dX4_lacks_23 : decode cX4_lacks 23 = .ok (.iload 4, 2) := by decide +kernel
theorem dX4_lacks_25 : decode cX4_lacks 25 = .ok (.iload 5, 2) := by decide +kernel
theorem dX4_lacks_27 : decode cX4_lacks 27 = .ok (.aload_n 0, 1) := by decide +kernel
theorem dX4_lacks_28 : decode cX4_lacks 28 = .ok (.getfield 20, 3) := by decide +kernel
theorem dX4_lacks_31 : decode cX4_lacks 31 = .ok (.iconst 5, 1) := by decide +kernel
theorem dX4_lacks_32 : decode cX4_lacks 32 = .ok (.iload_n 1, 1) := by decide +kernel
theorem dX4_lacks_33 : decode cX4_lacks 33 = .ok (.imul, 1) := by decide +kernel
theorem dX4_lacks_34 : decode cX4_lacks 34 = .ok (.iload 4, 2) := by decide +kernel
theorem dX4_lacks_36 : decode cX4_lacks 36 = .ok (.iadd, 1) := by decide +kernel
theorem dX4_lacks_37 : decode cX4_lacks 37 = .ok (.iaload, 1) := by decide +kernel
theorem dX4_lacks_38 : decode cX4_lacks 38 = .ok (.if_icmp .ge 8, 3) := by decide +kernel
theorem dX4_lacks_41 : decode cX4_lacks 41 = .ok (.iload 5, 2) := by decide +kernel
theorem dX4_lacks_43 : decode cX4_lacks 43 = .ok (.goto 14, 3) := by decide +kernel
theorem dX4_lacks_46 : decode cX4_lacks 46 = .ok (.aload_n 0, 1) := by decide +kernel
theorem dX4_lacks_47 : decode cX4_lacks 47 = .ok (.getfield 20, 3) := by decide +kernel
theorem dX4_lacks_50 : decode cX4_lacks 50 = .ok (.iconst 5, 1) := by decide +kernel
theorem dX4_lacks_51 : decode cX4_lacks 51 = .ok (.iload_n 1, 1) := by decide +kernel
theorem dX4_lacks_52 : decode cX4_lacks 52 = .ok (.imul, 1) := by decide +kernel
theorem dX4_lacks_53 : decode cX4_lacks 53 = .ok (.iload 4, 2) := by decide +kernel
theorem dX4_lacks_55 : decode cX4_lacks 55 = .ok (.iadd, 1) := by decide +kernel
theorem dX4_lacks_56 : decode cX4_lacks 56 = .ok (.iaload, 1) := by decide +kernel
theorem dX4_lacks_57 : decode cX4_lacks 57 = .ok (.iastore, 1) := by decide +kernel
theorem dX4_lacks_58 : decode cX4_lacks 58 = .ok (.iload_n 3, 1) := by decide +kernel
theorem dX4_lacks_59 : decode cX4_lacks 59 = .ok (.aload_n 0, 1) := by decide +kernel
theorem dX4_lacks_60 : decode cX4_lacks 60 = .ok (.getfield 23, 3) := by decide +kernel
theorem dX4_lacks_63 : decode cX4_lacks 63 = .ok (.iload 4, 2) := by decide +kernel
theorem dX4_lacks_65 : decode cX4_lacks 65 = .ok (.iaload, 1) := by decide +kernel
theorem dX4_lacks_66 : decode cX4_lacks 66 = .ok (.iload 4, 2) := by decide +kernel
theorem dX4_lacks_68 : decode cX4_lacks 68 = .ok (.invokestatic 37, 3) := by decide +kernel
theorem dX4_lacks_71 : decode cX4_lacks 71 = .ok (.imul, 1) := by decide +kernel
theorem dX4_lacks_72 : decode cX4_lacks 72 = .ok (.isub, 1) := by decide +kernel
theorem dX4_lacks_73 : decode cX4_lacks 73 = .ok (.istore_n 3, 1) := by decide +kernel
theorem dX4_lacks_74 : decode cX4_lacks 74 = .ok (.iinc 4 (-1), 3) := by decide +kernel
theorem dX4_lacks_77 : decode cX4_lacks 77 = .ok (.goto (-72), 3) := by decide +kernel
theorem dX4_lacks_80 : decode cX4_lacks 80 = .ok (.iload_n 3, 1) := by decide +kernel
theorem dX4_lacks_81 : decode cX4_lacks 81 = .ok (.ireturn, 1) := by decide +kernel
theorem dX4_pay_0 : decode cX4_pay 0 = .ok (.aload_n 0, 1) := by decide +kernel
theorem dX4_pay_1 : decode cX4_pay 1 = .ok (.getfield 13, 3) := by decide +kernel
theorem dX4_pay_4 : decode cX4_pay 4 = .ok (.iload_n 1, 1) := by decide +kernel
theorem dX4_pay_5 : decode cX4_pay 5 = .ok (.baload, 1) := by decide +kernel
theorem dX4_pay_6 : decode cX4_pay 6 = .ok (.ifCond .eq 5, 3) := by decide +kernel
theorem dX4_pay_9 : decode cX4_pay 9 = .ok (.iconst 2, 1) := by decide +kernel
theorem dX4_pay_10 : decode cX4_pay 10 = .ok (.ireturn, 1) := by decide +kernel
theorem dX4_pay_11 : decode cX4_pay 11 = .ok (.aload_n 0, 1) := by decide +kernel
theorem dX4_pay_12 : decode cX4_pay 12 = .ok (.iload_n 1, 1) := by decide +kernel
theorem dX4_pay_13 : decode cX4_pay 13 = .ok (.iload_n 2, 1) := by decide +kernel
theorem dX4_pay_14 : decode cX4_pay 14 = .ok (.invokevirtual 53, 3) := by decide +kernel
theorem dX4_pay_17 : decode cX4_pay 17 = .ok (.ifCond .le 5, 3) := by decide +kernel
theorem dX4_pay_20 : decode cX4_pay 20 = .ok (.iconst 3, 1) := by decide +kernel
theorem dX4_pay_21 : decode cX4_pay 21 = .ok (.ireturn, 1) := by decide +kernel
theorem dX4_pay_22 : decode cX4_pay 22 = .ok (.aload_n 0, 1) := by decide +kernel
theorem dX4_pay_23 : decode cX4_pay 23 = .ok (.iload_n 1, 1) := by decide +kernel
theorem dX4_pay_24 : decode cX4_pay 24 = .ok (.bipush 8, 2) := by decide +kernel
theorem dX4_pay_26 : decode cX4_pay 26 = .ok (.aload_n 0, 1) := by decide +kernel
theorem dX4_pay_27 : decode cX4_pay 27 = .ok (.getfield 23, 3) := by decide +kernel
theorem dX4_pay_30 : decode cX4_pay 30 = .ok (.invokevirtual 57, 3) := by decide +kernel
theorem dX4_pay_33 : decode cX4_pay 33 = .ok (.iconst 0, 1) := by decide +kernel
theorem dX4_pay_34 : decode cX4_pay 34 = .ok (.ireturn, 1) := by decide +kernel
theorem dX4_sum_0 : decode cX4_sum 0 = .ok (.iconst 0, 1) := by decide +kernel
theorem dX4_sum_1 : decode cX4_sum 1 = .ok (.istore_n 1, 1) := by decide +kernel
theorem dX4_sum_2 : decode cX4_sum 2 = .ok (.iconst 0, 1) := by decide +kernel
theorem dX4_sum_3 : decode cX4_sum 3 = .ok (.istore_n 2, 1) := by decide +kernel
theorem dX4_sum_4 : decode cX4_sum 4 = .ok (.iload_n 2, 1) := by decide +kernel
theorem dX4_sum_5 : decode cX4_sum 5 = .ok (.iconst 5, 1) := by decide +kernel
theorem dX4_sum_6 : decode cX4_sum 6 = .ok (.if_icmp .ge 15, 3) := by decide +kernel
theorem dX4_sum_9 : decode cX4_sum 9 = .ok (.iload_n 1, 1) := by decide +kernel
theorem dX4_sum_10 : decode cX4_sum 10 = .ok (.aload_n 0, 1) := by decide +kernel
theorem dX4_sum_11 : decode cX4_sum 11 = .ok (.iload_n 2, 1) := by decide +kernel
theorem dX4_sum_12 : decode cX4_sum 12 = .ok (.iaload, 1) := by decide +kernel
theorem dX4_sum_13 : decode cX4_sum 13 = .ok (.iadd, 1) := by decide +kernel
theorem dX4_sum_14 : decode cX4_sum 14 = .ok (.istore_n 1, 1) := by decide +kernel
theorem dX4_sum_15 : decode cX4_sum 15 = .ok (.iinc 2 1, 3) := by decide +kernel
theorem dX4_sum_18 : decode cX4_sum 18 = .ok (.goto (-14), 3) := by decide +kernel
theorem dX4_sum_21 : decode cX4_sum 21 = .ok (.iload_n 1, 1) := by decide +kernel
theorem dX4_sum_22 : decode cX4_sum 22 = .ok (.ireturn, 1) := by decide +kernel
theorem dX4_lay_0 : decode cX4_lay 0 = .ok (.aload_n 0, 1) := by decide +kernel
theorem dX4_lay_1 : decode cX4_lay 1 = .ok (.getfield 13, 3) := by decide +kernel
theorem dX4_lay_4 : decode cX4_lay 4 = .ok (.iload_n 1, 1) := by decide +kernel
theorem dX4_lay_5 : decode cX4_lay 5 = .ok (.baload, 1) := by decide +kernel
theorem dX4_lay_6 : decode cX4_lay 6 = .ok (.ifCond .eq 5, 3) := by decide +kernel
theorem dX4_lay_9 : decode cX4_lay 9 = .ok (.iconst 2, 1) := by decide +kernel
theorem dX4_lay_10 : decode cX4_lay 10 = .ok (.ireturn, 1) := by decide +kernel
theorem dX4_lay_11 : decode cX4_lay 11 = .ok (.aload_n 0, 1) := by decide +kernel
theorem dX4_lay_12 : decode cX4_lay 12 = .ok (.iload_n 1, 1) := by decide +kernel
theorem dX4_lay_13 : decode cX4_lay 13 = .ok (.invokevirtual 61, 3) := by decide +kernel
theorem dX4_lay_16 : decode cX4_lay 16 = .ok (.aload_n 2, 1) := by decide +kernel
theorem dX4_lay_17 : decode cX4_lay 17 = .ok (.invokestatic 64, 3) := by decide +kernel
theorem dX4_lay_20 : decode cX4_lay 20 = .ok (.iadd, 1) := by decide +kernel
theorem dX4_lay_21 : decode cX4_lay 21 = .ok (.aload_n 0, 1) := by decide +kernel
theorem dX4_lay_22 : decode cX4_lay 22 = .ok (.getfield 16, 3) := by decide +kernel
theorem dX4_lay_25 : decode cX4_lay 25 = .ok (.iload_n 1, 1) := by decide +kernel
theorem dX4_lay_26 : decode cX4_lay 26 = .ok (.iaload, 1) := by decide +kernel
theorem dX4_lay_27 : decode cX4_lay 27 = .ok (.if_icmp .le 5, 3) := by decide +kernel
theorem dX4_lay_30 : decode cX4_lay 30 = .ok (.iconst 4, 1) := by decide +kernel
theorem dX4_lay_31 : decode cX4_lay 31 = .ok (.ireturn, 1) := by decide +kernel
theorem dX4_lay_32 : decode cX4_lay 32 = .ok (.aload_n 0, 1) := by decide +kernel
theorem dX4_lay_33 : decode cX4_lay 33 = .ok (.bipush 8, 2) := by decide +kernel
theorem dX4_lay_35 : decode cX4_lay 35 = .ok (.iload_n 1, 1) := by decide +kernel
theorem dX4_lay_36 : decode cX4_lay 36 = .ok (.aload_n 2, 1) := by decide +kernel
theorem dX4_lay_37 : decode cX4_lay 37 = .ok (.invokevirtual 57, 3) := by decide +kernel
theorem dX4_lay_40 : decode cX4_lay 40 = .ok (.iconst 0, 1) := by decide +kernel
theorem dX4_lay_41 : decode cX4_lay 41 = .ok (.ireturn, 1) := by decide +kernel
theorem dX4_told_0 : decode cX4_told 0 = .ok (.iload_n 0, 1) := by decide +kernel
theorem dX4_told_1 : decode cX4_told 1 = .ok (.ifCond .ne 7, 3) := by decide +kernel
theorem dX4_told_4 : decode cX4_told 4 = .ok (.iload_n 1, 1) := by decide +kernel
theorem dX4_told_5 : decode cX4_told 5 = .ok (.goto 7, 3) := by decide +kernel
theorem dX4_told_8 : decode cX4_told 8 = .ok (.bipush (-10), 2) := by decide +kernel
theorem dX4_told_10 : decode cX4_told 10 = .ok (.iload_n 0, 1) := by decide +kernel
theorem dX4_told_11 : decode cX4_told 11 = .ok (.isub, 1) := by decide +kernel
theorem dX4_told_12 : decode cX4_told 12 = .ok (.ireturn, 1) := by decide +kernel
theorem dX4_till_0 : decode cX4_till 0 = .ok (.aload_n 0, 1) := by decide +kernel
theorem dX4_till_1 : decode cX4_till 1 = .ok (.iconst 0, 1) := by decide +kernel
theorem dX4_till_2 : decode cX4_till 2 = .ok (.putfield 29, 3) := by decide +kernel
theorem dX4_till_5 : decode cX4_till 5 = .ok (.iload_n 1, 1) := by decide +kernel
theorem dX4_till_6 : decode cX4_till 6 = .ok (.invokestatic 68, 3) := by decide +kernel
theorem dX4_till_9 : decode cX4_till 9 = .ok (.ifCond .eq 14, 3) := by decide +kernel
theorem dX4_till_12 : decode cX4_till 12 = .ok (.iload_n 2, 1) := by decide +kernel
theorem dX4_till_13 : decode cX4_till 13 = .ok (.iconst 0, 1) := by decide +kernel
theorem dX4_till_14 : decode cX4_till 14 = .ok (.sipush 200, 3) := by decide +kernel
theorem dX4_till_17 : decode cX4_till 17 = .ok (.invokestatic 33, 3) := by decide +kernel
theorem dX4_till_20 : decode cX4_till 20 = .ok (.ifCond .ne 5, 3) := by decide +kernel
theorem dX4_till_23 : decode cX4_till 23 = .ok (.iconst (-1), 1) := by decide +kernel
theorem dX4_till_24 : decode cX4_till 24 = .ok (.ireturn, 1) := by decide +kernel
theorem dX4_till_25 : decode cX4_till 25 = .ok (.aload_n 0, 1) := by decide +kernel
theorem dX4_till_26 : decode cX4_till 26 = .ok (.getfield 7, 3) := by decide +kernel
theorem dX4_till_29 : decode cX4_till 29 = .ok (.iload_n 1, 1) := by decide +kernel
theorem dX4_till_30 : decode cX4_till 30 = .ok (.iconst 1, 1) := by decide +kernel
theorem dX4_till_31 : decode cX4_till 31 = .ok (.bastore, 1) := by decide +kernel
theorem dX4_till_32 : decode cX4_till 32 = .ok (.aload_n 0, 1) := by decide +kernel
theorem dX4_till_33 : decode cX4_till 33 = .ok (.getfield 13, 3) := by decide +kernel
theorem dX4_till_36 : decode cX4_till 36 = .ok (.iload_n 1, 1) := by decide +kernel
theorem dX4_till_37 : decode cX4_till 37 = .ok (.iconst 0, 1) := by decide +kernel
theorem dX4_till_38 : decode cX4_till 38 = .ok (.bastore, 1) := by decide +kernel
theorem dX4_till_39 : decode cX4_till 39 = .ok (.aload_n 0, 1) := by decide +kernel
theorem dX4_till_40 : decode cX4_till 40 = .ok (.getfield 16, 3) := by decide +kernel
theorem dX4_till_43 : decode cX4_till 43 = .ok (.iload_n 1, 1) := by decide +kernel
theorem dX4_till_44 : decode cX4_till 44 = .ok (.iload_n 2, 1) := by decide +kernel
theorem dX4_till_45 : decode cX4_till 45 = .ok (.iastore, 1) := by decide +kernel
theorem dX4_till_46 : decode cX4_till 46 = .ok (.aload_n 0, 1) := by decide +kernel
theorem dX4_till_47 : decode cX4_till 47 = .ok (.iload_n 1, 1) := by decide +kernel
theorem dX4_till_48 : decode cX4_till 48 = .ok (.invokevirtual 72, 3) := by decide +kernel
theorem dX4_till_51 : decode cX4_till 51 = .ok (.iconst 1, 1) := by decide +kernel
theorem dX4_till_52 : decode cX4_till 52 = .ok (.ireturn, 1) := by decide +kernel
theorem dX4_empty_0 : decode cX4_empty 0 = .ok (.iconst 0, 1) := by decide +kernel
theorem dX4_empty_1 : decode cX4_empty 1 = .ok (.istore_n 2, 1) := by decide +kernel
theorem dX4_empty_2 : decode cX4_empty 2 = .ok (.iload_n 2, 1) := by decide +kernel
theorem dX4_empty_3 : decode cX4_empty 3 = .ok (.iconst 5, 1) := by decide +kernel
theorem dX4_empty_4 : decode cX4_empty 4 = .ok (.if_icmp .ge 20, 3) := by decide +kernel
theorem dX4_empty_7 : decode cX4_empty 7 = .ok (.aload_n 0, 1) := by decide +kernel
theorem dX4_empty_8 : decode cX4_empty 8 = .ok (.getfield 20, 3) := by decide +kernel
theorem dX4_empty_11 : decode cX4_empty 11 = .ok (.iconst 5, 1) := by decide +kernel
theorem dX4_empty_12 : decode cX4_empty 12 = .ok (.iload_n 1, 1) := by decide +kernel
theorem dX4_empty_13 : decode cX4_empty 13 = .ok (.imul, 1) := by decide +kernel
theorem dX4_empty_14 : decode cX4_empty 14 = .ok (.iload_n 2, 1) := by decide +kernel
theorem dX4_empty_15 : decode cX4_empty 15 = .ok (.iadd, 1) := by decide +kernel
theorem dX4_empty_16 : decode cX4_empty 16 = .ok (.iconst 0, 1) := by decide +kernel
theorem dX4_empty_17 : decode cX4_empty 17 = .ok (.iastore, 1) := by decide +kernel
theorem dX4_empty_18 : decode cX4_empty 18 = .ok (.iinc 2 1, 3) := by decide +kernel
theorem dX4_empty_21 : decode cX4_empty 21 = .ok (.goto (-19), 3) := by decide +kernel
theorem dX4_empty_24 : decode cX4_empty 24 = .ok (.return_, 1) := by decide +kernel
theorem dX4_drop_0 : decode cX4_drop 0 = .ok (.aload_n 0, 1) := by decide +kernel
theorem dX4_drop_1 : decode cX4_drop 1 = .ok (.iconst 0, 1) := by decide +kernel
theorem dX4_drop_2 : decode cX4_drop 2 = .ok (.putfield 29, 3) := by decide +kernel
theorem dX4_drop_5 : decode cX4_drop 5 = .ok (.iload_n 1, 1) := by decide +kernel
theorem dX4_drop_6 : decode cX4_drop 6 = .ok (.invokestatic 68, 3) := by decide +kernel
theorem dX4_drop_9 : decode cX4_drop 9 = .ok (.ifCond .ne 5, 3) := by decide +kernel
theorem dX4_drop_12 : decode cX4_drop 12 = .ok (.iconst (-1), 1) := by decide +kernel
theorem dX4_drop_13 : decode cX4_drop 13 = .ok (.ireturn, 1) := by decide +kernel
theorem dX4_drop_14 : decode cX4_drop 14 = .ok (.aload_n 0, 1) := by decide +kernel
theorem dX4_drop_15 : decode cX4_drop 15 = .ok (.getfield 7, 3) := by decide +kernel
theorem dX4_drop_18 : decode cX4_drop 18 = .ok (.iload_n 1, 1) := by decide +kernel
theorem dX4_drop_19 : decode cX4_drop 19 = .ok (.baload, 1) := by decide +kernel
theorem dX4_drop_20 : decode cX4_drop 20 = .ok (.ifCond .eq 7, 3) := by decide +kernel
theorem dX4_drop_23 : decode cX4_drop 23 = .ok (.iconst 1, 1) := by decide +kernel
theorem dX4_drop_24 : decode cX4_drop 24 = .ok (.goto 4, 3) := by decide +kernel
theorem dX4_drop_27 : decode cX4_drop 27 = .ok (.iconst 0, 1) := by decide +kernel
theorem dX4_drop_28 : decode cX4_drop 28 = .ok (.istore_n 2, 1) := by decide +kernel
theorem dX4_drop_29 : decode cX4_drop 29 = .ok (.aload_n 0, 1) := by decide +kernel
theorem dX4_drop_30 : decode cX4_drop 30 = .ok (.getfield 7, 3) := by decide +kernel
theorem dX4_drop_33 : decode cX4_drop 33 = .ok (.iload_n 1, 1) := by decide +kernel
theorem dX4_drop_34 : decode cX4_drop 34 = .ok (.iconst 0, 1) := by decide +kernel
theorem dX4_drop_35 : decode cX4_drop 35 = .ok (.bastore, 1) := by decide +kernel
theorem dX4_drop_36 : decode cX4_drop 36 = .ok (.aload_n 0, 1) := by decide +kernel
theorem dX4_drop_37 : decode cX4_drop 37 = .ok (.iload_n 1, 1) := by decide +kernel
theorem dX4_drop_38 : decode cX4_drop 38 = .ok (.invokevirtual 72, 3) := by decide +kernel
theorem dX4_drop_41 : decode cX4_drop 41 = .ok (.iload_n 2, 1) := by decide +kernel
theorem dX4_drop_42 : decode cX4_drop 42 = .ok (.ireturn, 1) := by decide +kernel
theorem dX4_shut_0 : decode cX4_shut 0 = .ok (.aload_n 0, 1) := by decide +kernel
theorem dX4_shut_1 : decode cX4_shut 1 = .ok (.iconst 0, 1) := by decide +kernel
theorem dX4_shut_2 : decode cX4_shut 2 = .ok (.putfield 29, 3) := by decide +kernel
theorem dX4_shut_5 : decode cX4_shut 5 = .ok (.iload_n 1, 1) := by decide +kernel
theorem dX4_shut_6 : decode cX4_shut 6 = .ok (.invokestatic 68, 3) := by decide +kernel
theorem dX4_shut_9 : decode cX4_shut 9 = .ok (.ifCond .ne 5, 3) := by decide +kernel
theorem dX4_shut_12 : decode cX4_shut 12 = .ok (.iconst (-1), 1) := by decide +kernel
theorem dX4_shut_13 : decode cX4_shut 13 = .ok (.ireturn, 1) := by decide +kernel
theorem dX4_shut_14 : decode cX4_shut 14 = .ok (.aload_n 0, 1) := by decide +kernel
theorem dX4_shut_15 : decode cX4_shut 15 = .ok (.iload_n 1, 1) := by decide +kernel
theorem dX4_shut_16 : decode cX4_shut 16 = .ok (.invokevirtual 76, 3) := by decide +kernel
theorem dX4_shut_19 : decode cX4_shut 19 = .ok (.istore_n 3, 1) := by decide +kernel
theorem dX4_shut_20 : decode cX4_shut 20 = .ok (.iload_n 3, 1) := by decide +kernel
theorem dX4_shut_21 : decode cX4_shut 21 = .ok (.ifCond .eq 9, 3) := by decide +kernel
theorem dX4_shut_24 : decode cX4_shut 24 = .ok (.iload_n 3, 1) := by decide +kernel
theorem dX4_shut_25 : decode cX4_shut 25 = .ok (.iconst 0, 1) := by decide +kernel
theorem dX4_shut_26 : decode cX4_shut 26 = .ok (.invokestatic 79, 3) := by decide +kernel
theorem dX4_shut_29 : decode cX4_shut 29 = .ok (.ireturn, 1) := by decide +kernel
theorem dX4_shut_30 : decode cX4_shut 30 = .ok (.aload_n 0, 1) := by decide +kernel
theorem dX4_shut_31 : decode cX4_shut 31 = .ok (.getfield 13, 3) := by decide +kernel
theorem dX4_shut_34 : decode cX4_shut 34 = .ok (.iload_n 1, 1) := by decide +kernel
theorem dX4_shut_35 : decode cX4_shut 35 = .ok (.baload, 1) := by decide +kernel
theorem dX4_shut_36 : decode cX4_shut 36 = .ok (.ifCond .eq 7, 3) := by decide +kernel
theorem dX4_shut_39 : decode cX4_shut 39 = .ok (.iconst 1, 1) := by decide +kernel
theorem dX4_shut_40 : decode cX4_shut 40 = .ok (.goto 4, 3) := by decide +kernel
theorem dX4_shut_43 : decode cX4_shut 43 = .ok (.iconst 0, 1) := by decide +kernel
theorem dX4_shut_44 : decode cX4_shut 44 = .ok (.istore 4, 2) := by decide +kernel
theorem dX4_shut_46 : decode cX4_shut 46 = .ok (.aload_n 0, 1) := by decide +kernel
theorem dX4_shut_47 : decode cX4_shut 47 = .ok (.getfield 13, 3) := by decide +kernel
theorem dX4_shut_50 : decode cX4_shut 50 = .ok (.iload_n 1, 1) := by decide +kernel
theorem dX4_shut_51 : decode cX4_shut 51 = .ok (.iload_n 2, 1) := by decide +kernel
theorem dX4_shut_52 : decode cX4_shut 52 = .ok (.bastore, 1) := by decide +kernel
theorem dX4_shut_53 : decode cX4_shut 53 = .ok (.aload_n 0, 1) := by decide +kernel
theorem dX4_shut_54 : decode cX4_shut 54 = .ok (.iconst 0, 1) := by decide +kernel
theorem dX4_shut_55 : decode cX4_shut 55 = .ok (.invokevirtual 82, 3) := by decide +kernel
theorem dX4_shut_58 : decode cX4_shut 58 = .ok (.iload 4, 2) := by decide +kernel
theorem dX4_shut_60 : decode cX4_shut 60 = .ok (.invokestatic 79, 3) := by decide +kernel
theorem dX4_shut_63 : decode cX4_shut 63 = .ok (.ireturn, 1) := by decide +kernel
theorem dX4_put_0 : decode cX4_put 0 = .ok (.aload_n 0, 1) := by decide +kernel
theorem dX4_put_1 : decode cX4_put 1 = .ok (.iconst 0, 1) := by decide +kernel
theorem dX4_put_2 : decode cX4_put 2 = .ok (.putfield 29, 3) := by decide +kernel
theorem dX4_put_5 : decode cX4_put 5 = .ok (.iload_n 1, 1) := by decide +kernel
theorem dX4_put_6 : decode cX4_put 6 = .ok (.invokestatic 68, 3) := by decide +kernel
theorem dX4_put_9 : decode cX4_put 9 = .ok (.ifCond .eq 23, 3) := by decide +kernel
theorem dX4_put_12 : decode cX4_put 12 = .ok (.iload_n 2, 1) := by decide +kernel
theorem dX4_put_13 : decode cX4_put 13 = .ok (.iconst 0, 1) := by decide +kernel
theorem dX4_put_14 : decode cX4_put 14 = .ok (.iconst 4, 1) := by decide +kernel
theorem dX4_put_15 : decode cX4_put 15 = .ok (.invokestatic 33, 3) := by decide +kernel
theorem dX4_put_18 : decode cX4_put 18 = .ok (.ifCond .eq 14, 3) := by decide +kernel
theorem dX4_put_21 : decode cX4_put 21 = .ok (.iload_n 3, 1) := by decide +kernel
theorem dX4_put_22 : decode cX4_put 22 = .ok (.iconst 0, 1) := by decide +kernel
theorem dX4_put_23 : decode cX4_put 23 = .ok (.sipush 200, 3) := by decide +kernel
theorem dX4_put_26 : decode cX4_put 26 = .ok (.invokestatic 33, 3) := by decide +kernel
theorem dX4_put_29 : decode cX4_put 29 = .ok (.ifCond .ne 5, 3) := by decide +kernel
theorem dX4_put_32 : decode cX4_put 32 = .ok (.iconst (-1), 1) := by decide +kernel
theorem dX4_put_33 : decode cX4_put 33 = .ok (.ireturn, 1) := by decide +kernel
theorem dX4_put_34 : decode cX4_put 34 = .ok (.aload_n 0, 1) := by decide +kernel
theorem dX4_put_35 : decode cX4_put 35 = .ok (.iload_n 1, 1) := by decide +kernel
theorem dX4_put_36 : decode cX4_put 36 = .ok (.invokevirtual 76, 3) := by decide +kernel
theorem dX4_put_39 : decode cX4_put 39 = .ok (.istore 4, 2) := by decide +kernel
theorem dX4_put_41 : decode cX4_put 41 = .ok (.iload 4, 2) := by decide +kernel
theorem dX4_put_43 : decode cX4_put 43 = .ok (.ifCond .eq 10, 3) := by decide +kernel
theorem dX4_put_46 : decode cX4_put 46 = .ok (.iload 4, 2) := by decide +kernel
theorem dX4_put_48 : decode cX4_put 48 = .ok (.iconst 0, 1) := by decide +kernel
theorem dX4_put_49 : decode cX4_put 49 = .ok (.invokestatic 79, 3) := by decide +kernel
theorem dX4_put_52 : decode cX4_put 52 = .ok (.ireturn, 1) := by decide +kernel
theorem dX4_put_53 : decode cX4_put 53 = .ok (.aload_n 0, 1) := by decide +kernel
theorem dX4_put_54 : decode cX4_put 54 = .ok (.getfield 20, 3) := by decide +kernel
theorem dX4_put_57 : decode cX4_put 57 = .ok (.bipush 40, 2) := by decide +kernel
theorem dX4_put_59 : decode cX4_put 59 = .ok (.iload_n 2, 1) := by decide +kernel
theorem dX4_put_60 : decode cX4_put 60 = .ok (.iadd, 1) := by decide +kernel
theorem dX4_put_61 : decode cX4_put 61 = .ok (.dup2, 1) := by decide +kernel
theorem dX4_put_62 : decode cX4_put 62 = .ok (.iaload, 1) := by decide +kernel
theorem dX4_put_63 : decode cX4_put 63 = .ok (.iload_n 3, 1) := by decide +kernel
theorem dX4_put_64 : decode cX4_put 64 = .ok (.iadd, 1) := by decide +kernel
theorem dX4_put_65 : decode cX4_put 65 = .ok (.iastore, 1) := by decide +kernel
theorem dX4_put_66 : decode cX4_put 66 = .ok (.iconst 5, 1) := by decide +kernel
theorem dX4_put_67 : decode cX4_put 67 = .ok (.newarray .int, 2) := by decide +kernel
theorem dX4_put_69 : decode cX4_put 69 = .ok (.astore 5, 2) := by decide +kernel
theorem dX4_put_71 : decode cX4_put 71 = .ok (.aload 5, 2) := by decide +kernel
theorem dX4_put_73 : decode cX4_put 73 = .ok (.iload_n 2, 1) := by decide +kernel
theorem dX4_put_74 : decode cX4_put 74 = .ok (.iload_n 3, 1) := by decide +kernel
theorem dX4_put_75 : decode cX4_put 75 = .ok (.iastore, 1) := by decide +kernel
theorem dX4_put_76 : decode cX4_put 76 = .ok (.aload_n 0, 1) := by decide +kernel
theorem dX4_put_77 : decode cX4_put 77 = .ok (.aload_n 0, 1) := by decide +kernel
theorem dX4_put_78 : decode cX4_put 78 = .ok (.iload_n 1, 1) := by decide +kernel
theorem dX4_put_79 : decode cX4_put 79 = .ok (.aload 5, 2) := by decide +kernel
theorem dX4_put_81 : decode cX4_put 81 = .ok (.invokevirtual 85, 3) := by decide +kernel
theorem dX4_put_84 : decode cX4_put 84 = .ok (.invokevirtual 82, 3) := by decide +kernel
theorem dX4_put_87 : decode cX4_put 87 = .ok (.istore 4, 2) := by decide +kernel
theorem dX4_put_89 : decode cX4_put 89 = .ok (.iload 4, 2) := by decide +kernel
theorem dX4_put_91 : decode cX4_put 91 = .ok (.aload_n 0, 1) := by decide +kernel
theorem dX4_put_92 : decode cX4_put 92 = .ok (.iload_n 1, 1) := by decide +kernel
theorem dX4_put_93 : decode cX4_put 93 = .ok (.invokevirtual 61, 3) := by decide +kernel
theorem dX4_put_96 : decode cX4_put 96 = .ok (.invokestatic 79, 3) := by decide +kernel
theorem dX4_put_99 : decode cX4_put 99 = .ok (.ireturn, 1) := by decide +kernel
theorem dX4_take_0 : decode cX4_take 0 = .ok (.aload_n 0, 1) := by decide +kernel
theorem dX4_take_1 : decode cX4_take 1 = .ok (.iconst 0, 1) := by decide +kernel
theorem dX4_take_2 : decode cX4_take 2 = .ok (.putfield 29, 3) := by decide +kernel
theorem dX4_take_5 : decode cX4_take 5 = .ok (.iload_n 1, 1) := by decide +kernel
theorem dX4_take_6 : decode cX4_take 6 = .ok (.invokestatic 68, 3) := by decide +kernel
theorem dX4_take_9 : decode cX4_take 9 = .ok (.ifCond .eq 14, 3) := by decide +kernel
theorem dX4_take_12 : decode cX4_take 12 = .ok (.iload_n 2, 1) := by decide +kernel
theorem dX4_take_13 : decode cX4_take 13 = .ok (.iconst 0, 1) := by decide +kernel
theorem dX4_take_14 : decode cX4_take 14 = .ok (.sipush 10000, 3) := by decide +kernel
theorem dX4_take_17 : decode cX4_take 17 = .ok (.invokestatic 33, 3) := by decide +kernel
theorem dX4_take_20 : decode cX4_take 20 = .ok (.ifCond .ne 5, 3) := by decide +kernel
theorem dX4_take_23 : decode cX4_take 23 = .ok (.iconst (-1), 1) := by decide +kernel
theorem dX4_take_24 : decode cX4_take 24 = .ok (.ireturn, 1) := by decide +kernel
theorem dX4_take_25 : decode cX4_take 25 = .ok (.aload_n 0, 1) := by decide +kernel
theorem dX4_take_26 : decode cX4_take 26 = .ok (.iload_n 1, 1) := by decide +kernel
theorem dX4_take_27 : decode cX4_take 27 = .ok (.invokevirtual 76, 3) := by decide +kernel
theorem dX4_take_30 : decode cX4_take 30 = .ok (.istore_n 3, 1) := by decide +kernel
theorem dX4_take_31 : decode cX4_take 31 = .ok (.iload_n 3, 1) := by decide +kernel
theorem dX4_take_32 : decode cX4_take 32 = .ok (.ifCond .eq 9, 3) := by decide +kernel
theorem dX4_take_35 : decode cX4_take 35 = .ok (.iload_n 3, 1) := by decide +kernel
theorem dX4_take_36 : decode cX4_take 36 = .ok (.iconst 0, 1) := by decide +kernel
theorem dX4_take_37 : decode cX4_take 37 = .ok (.invokestatic 79, 3) := by decide +kernel
theorem dX4_take_40 : decode cX4_take 40 = .ok (.ireturn, 1) := by decide +kernel
theorem dX4_take_41 : decode cX4_take 41 = .ok (.aload_n 0, 1) := by decide +kernel
theorem dX4_take_42 : decode cX4_take 42 = .ok (.aload_n 0, 1) := by decide +kernel
theorem dX4_take_43 : decode cX4_take 43 = .ok (.iload_n 1, 1) := by decide +kernel
theorem dX4_take_44 : decode cX4_take 44 = .ok (.iload_n 2, 1) := by decide +kernel
theorem dX4_take_45 : decode cX4_take 45 = .ok (.invokevirtual 89, 3) := by decide +kernel
theorem dX4_take_48 : decode cX4_take 48 = .ok (.invokevirtual 82, 3) := by decide +kernel
theorem dX4_take_51 : decode cX4_take 51 = .ok (.istore_n 3, 1) := by decide +kernel
theorem dX4_take_52 : decode cX4_take 52 = .ok (.iload_n 3, 1) := by decide +kernel
theorem dX4_take_53 : decode cX4_take 53 = .ok (.aload_n 0, 1) := by decide +kernel
theorem dX4_take_54 : decode cX4_take 54 = .ok (.getfield 23, 3) := by decide +kernel
theorem dX4_take_57 : decode cX4_take 57 = .ok (.invokestatic 64, 3) := by decide +kernel
theorem dX4_take_60 : decode cX4_take 60 = .ok (.invokestatic 79, 3) := by decide +kernel
theorem dX4_take_63 : decode cX4_take 63 = .ok (.ireturn, 1) := by decide +kernel
theorem dX4_move_0 : decode cX4_move 0 = .ok (.aload_n 0, 1) := by decide +kernel
theorem dX4_move_1 : decode cX4_move 1 = .ok (.iconst 0, 1) := by decide +kernel
theorem dX4_move_2 : decode cX4_move 2 = .ok (.putfield 29, 3) := by decide +kernel
theorem dX4_move_5 : decode cX4_move 5 = .ok (.iload_n 1, 1) := by decide +kernel
theorem dX4_move_6 : decode cX4_move 6 = .ok (.invokestatic 68, 3) := by decide +kernel
theorem dX4_move_9 : decode cX4_move 9 = .ok (.ifCond .eq 21, 3) := by decide +kernel
theorem dX4_move_12 : decode cX4_move 12 = .ok (.iload_n 2, 1) := by decide +kernel
theorem dX4_move_13 : decode cX4_move 13 = .ok (.invokestatic 68, 3) := by decide +kernel
theorem dX4_move_16 : decode cX4_move 16 = .ok (.ifCond .eq 14, 3) := by decide +kernel
theorem dX4_move_19 : decode cX4_move 19 = .ok (.iload_n 3, 1) := by decide +kernel
theorem dX4_move_20 : decode cX4_move 20 = .ok (.iconst 0, 1) := by decide +kernel
theorem dX4_move_21 : decode cX4_move 21 = .ok (.sipush 10000, 3) := by decide +kernel
theorem dX4_move_24 : decode cX4_move 24 = .ok (.invokestatic 33, 3) := by decide +kernel
theorem dX4_move_27 : decode cX4_move 27 = .ok (.ifCond .ne 5, 3) := by decide +kernel
theorem dX4_move_30 : decode cX4_move 30 = .ok (.iconst (-1), 1) := by decide +kernel
theorem dX4_move_31 : decode cX4_move 31 = .ok (.ireturn, 1) := by decide +kernel
theorem dX4_move_32 : decode cX4_move 32 = .ok (.aload_n 0, 1) := by decide +kernel
theorem dX4_move_33 : decode cX4_move 33 = .ok (.iload_n 1, 1) := by decide +kernel
theorem dX4_move_34 : decode cX4_move 34 = .ok (.invokevirtual 76, 3) := by decide +kernel
theorem dX4_move_37 : decode cX4_move 37 = .ok (.istore 5, 2) := by decide +kernel
theorem dX4_move_39 : decode cX4_move 39 = .ok (.iload 5, 2) := by decide +kernel
theorem dX4_move_41 : decode cX4_move 41 = .ok (.ifCond .eq 10, 3) := by decide +kernel
theorem dX4_move_44 : decode cX4_move 44 = .ok (.iload 5, 2) := by decide +kernel
theorem dX4_move_46 : decode cX4_move 46 = .ok (.iconst 0, 1) := by decide +kernel
theorem dX4_move_47 : decode cX4_move 47 = .ok (.invokestatic 79, 3) := by decide +kernel
theorem dX4_move_50 : decode cX4_move 50 = .ok (.ireturn, 1) := by decide +kernel
theorem dX4_move_51 : decode cX4_move 51 = .ok (.aload_n 0, 1) := by decide +kernel
theorem dX4_move_52 : decode cX4_move 52 = .ok (.iload_n 1, 1) := by decide +kernel
theorem dX4_move_53 : decode cX4_move 53 = .ok (.iload_n 3, 1) := by decide +kernel
theorem dX4_move_54 : decode cX4_move 54 = .ok (.invokevirtual 89, 3) := by decide +kernel
theorem dX4_move_57 : decode cX4_move 57 = .ok (.istore 5, 2) := by decide +kernel
theorem dX4_move_59 : decode cX4_move 59 = .ok (.iload 5, 2) := by decide +kernel
theorem dX4_move_61 : decode cX4_move 61 = .ok (.ifCond .ne 56, 3) := by decide +kernel
theorem dX4_move_64 : decode cX4_move 64 = .ok (.aload_n 0, 1) := by decide +kernel
theorem dX4_move_65 : decode cX4_move 65 = .ok (.iload_n 2, 1) := by decide +kernel
theorem dX4_move_66 : decode cX4_move 66 = .ok (.invokevirtual 76, 3) := by decide +kernel
theorem dX4_move_69 : decode cX4_move 69 = .ok (.istore 5, 2) := by decide +kernel
theorem dX4_move_71 : decode cX4_move 71 = .ok (.iload 5, 2) := by decide +kernel
theorem dX4_move_73 : decode cX4_move 73 = .ok (.ifCond .ne 19, 3) := by decide +kernel
theorem dX4_move_76 : decode cX4_move 76 = .ok (.aload_n 0, 1) := by decide +kernel
theorem dX4_move_77 : decode cX4_move 77 = .ok (.aload_n 0, 1) := by decide +kernel
theorem dX4_move_78 : decode cX4_move 78 = .ok (.iload_n 2, 1) := by decide +kernel
theorem dX4_move_79 : decode cX4_move 79 = .ok (.aload_n 0, 1) := by decide +kernel
theorem dX4_move_80 : decode cX4_move 80 = .ok (.getfield 23, 3) := by decide +kernel
theorem dX4_move_83 : decode cX4_move 83 = .ok (.invokevirtual 85, 3) := by decide +kernel
theorem dX4_move_86 : decode cX4_move 86 = .ok (.invokevirtual 82, 3) := by decide +kernel
theorem dX4_move_89 : decode cX4_move 89 = .ok (.goto 5, 3) := by decide +kernel
theorem dX4_move_92 : decode cX4_move 92 = .ok (.iload 5, 2) := by decide +kernel
theorem dX4_move_94 : decode cX4_move 94 = .ok (.istore 5, 2) := by decide +kernel
theorem dX4_move_96 : decode cX4_move 96 = .ok (.iload 5, 2) := by decide +kernel
theorem dX4_move_98 : decode cX4_move 98 = .ok (.ifCond .eq 19, 3) := by decide +kernel
theorem dX4_move_101 : decode cX4_move 101 = .ok (.iload 4, 2) := by decide +kernel
theorem dX4_move_103 : decode cX4_move 103 = .ok (.ifCond .eq 14, 3) := by decide +kernel
theorem dX4_move_106 : decode cX4_move 106 = .ok (.aload_n 0, 1) := by decide +kernel
theorem dX4_move_107 : decode cX4_move 107 = .ok (.bipush 8, 2) := by decide +kernel
theorem dX4_move_109 : decode cX4_move 109 = .ok (.iload_n 1, 1) := by decide +kernel
theorem dX4_move_110 : decode cX4_move 110 = .ok (.aload_n 0, 1) := by decide +kernel
theorem dX4_move_111 : decode cX4_move 111 = .ok (.getfield 23, 3) := by decide +kernel
theorem dX4_move_114 : decode cX4_move 114 = .ok (.invokevirtual 57, 3) := by decide +kernel
theorem dX4_move_117 : decode cX4_move 117 = .ok (.aload_n 0, 1) := by decide +kernel
theorem dX4_move_118 : decode cX4_move 118 = .ok (.iload 5, 2) := by decide +kernel
theorem dX4_move_120 : decode cX4_move 120 = .ok (.invokevirtual 82, 3) := by decide +kernel
theorem dX4_move_123 : decode cX4_move 123 = .ok (.aload_n 0, 1) := by decide +kernel
theorem dX4_move_124 : decode cX4_move 124 = .ok (.getfield 23, 3) := by decide +kernel
theorem dX4_move_127 : decode cX4_move 127 = .ok (.invokestatic 64, 3) := by decide +kernel
theorem dX4_move_130 : decode cX4_move 130 = .ok (.invokestatic 79, 3) := by decide +kernel
theorem dX4_move_133 : decode cX4_move 133 = .ok (.ireturn, 1) := by decide +kernel
theorem dX4_digits_0 : decode cX4_digits 0 = .ok (.iconst 1, 1) := by decide +kernel
theorem dX4_digits_1 : decode cX4_digits 1 = .ok (.istore_n 1, 1) := by decide +kernel
theorem dX4_digits_2 : decode cX4_digits 2 = .ok (.iload_n 0, 1) := by decide +kernel
theorem dX4_digits_3 : decode cX4_digits 3 = .ok (.istore_n 2, 1) := by decide +kernel
theorem dX4_digits_4 : decode cX4_digits 4 = .ok (.iload_n 2, 1) := by decide +kernel
theorem dX4_digits_5 : decode cX4_digits 5 = .ok (.bipush 9, 2) := by decide +kernel
theorem dX4_digits_7 : decode cX4_digits 7 = .ok (.if_icmp .le 14, 3) := by decide +kernel
theorem dX4_digits_10 : decode cX4_digits 10 = .ok (.iinc 1 1, 3) := by decide +kernel
theorem dX4_digits_13 : decode cX4_digits 13 = .ok (.iload_n 2, 1) := by decide +kernel
theorem dX4_digits_14 : decode cX4_digits 14 = .ok (.bipush 10, 2) := by decide +kernel
theorem dX4_digits_16 : decode cX4_digits 16 = .ok (.idiv, 1) := by decide +kernel
theorem dX4_digits_17 : decode cX4_digits 17 = .ok (.istore_n 2, 1) := by decide +kernel
theorem dX4_digits_18 : decode cX4_digits 18 = .ok (.goto (-14), 3) := by decide +kernel
theorem dX4_digits_21 : decode cX4_digits 21 = .ok (.iload_n 1, 1) := by decide +kernel
theorem dX4_digits_22 : decode cX4_digits 22 = .ok (.ireturn, 1) := by decide +kernel
theorem dX4_digit_0 : decode cX4_digit 0 = .ok (.iload_n 0, 1) := by decide +kernel
theorem dX4_digit_1 : decode cX4_digit 1 = .ok (.istore_n 3, 1) := by decide +kernel
theorem dX4_digit_2 : decode cX4_digit 2 = .ok (.iload_n 2, 1) := by decide +kernel
theorem dX4_digit_3 : decode cX4_digit 3 = .ok (.iconst 1, 1) := by decide +kernel
theorem dX4_digit_4 : decode cX4_digit 4 = .ok (.iadd, 1) := by decide +kernel
theorem dX4_digit_5 : decode cX4_digit 5 = .ok (.istore 4, 2) := by decide +kernel
theorem dX4_digit_7 : decode cX4_digit 7 = .ok (.iload 4, 2) := by decide +kernel
theorem dX4_digit_9 : decode cX4_digit 9 = .ok (.iload_n 1, 1) := by decide +kernel
theorem dX4_digit_10 : decode cX4_digit 10 = .ok (.if_icmp .ge 14, 3) := by decide +kernel
theorem dX4_digit_13 : decode cX4_digit 13 = .ok (.iload_n 3, 1) := by decide +kernel
theorem dX4_digit_14 : decode cX4_digit 14 = .ok (.bipush 10, 2) := by decide +kernel
theorem dX4_digit_16 : decode cX4_digit 16 = .ok (.idiv, 1) := by decide +kernel
theorem dX4_digit_17 : decode cX4_digit 17 = .ok (.istore_n 3, 1) := by decide +kernel
theorem dX4_digit_18 : decode cX4_digit 18 = .ok (.iinc 4 1, 3) := by decide +kernel
theorem dX4_digit_21 : decode cX4_digit 21 = .ok (.goto (-14), 3) := by decide +kernel
theorem dX4_digit_24 : decode cX4_digit 24 = .ok (.iload_n 3, 1) := by decide +kernel
theorem dX4_digit_25 : decode cX4_digit 25 = .ok (.bipush 10, 2) := by decide +kernel
theorem dX4_digit_27 : decode cX4_digit 27 = .ok (.irem, 1) := by decide +kernel
theorem dX4_digit_28 : decode cX4_digit 28 = .ok (.ireturn, 1) := by decide +kernel
theorem dX4_keep_0 : decode cX4_keep 0 = .ok (.iconst 0, 1) := by decide +kernel
theorem dX4_keep_1 : decode cX4_keep 1 = .ok (.istore_n 3, 1) := by decide +kernel
theorem dX4_keep_2 : decode cX4_keep 2 = .ok (.iload_n 3, 1) := by decide +kernel
theorem dX4_keep_3 : decode cX4_keep 3 = .ok (.iconst 5, 1) := by decide +kernel
theorem dX4_keep_4 : decode cX4_keep 4 = .ok (.if_icmp .ge 29, 3) := by decide +kernel
theorem dX4_keep_7 : decode cX4_keep 7 = .ok (.aload_n 0, 1) := by decide +kernel
theorem dX4_keep_8 : decode cX4_keep 8 = .ok (.getfield 26, 3) := by decide +kernel
theorem dX4_keep_11 : decode cX4_keep 11 = .ok (.iconst 5, 1) := by decide +kernel
theorem dX4_keep_12 : decode cX4_keep 12 = .ok (.iload_n 2, 1) := by decide +kernel
theorem dX4_keep_13 : decode cX4_keep 13 = .ok (.imul, 1) := by decide +kernel
theorem dX4_keep_14 : decode cX4_keep 14 = .ok (.iload_n 3, 1) := by decide +kernel
theorem dX4_keep_15 : decode cX4_keep 15 = .ok (.iadd, 1) := by decide +kernel
theorem dX4_keep_16 : decode cX4_keep 16 = .ok (.aload_n 0, 1) := by decide +kernel
theorem dX4_keep_17 : decode cX4_keep 17 = .ok (.getfield 20, 3) := by decide +kernel
theorem dX4_keep_20 : decode cX4_keep 20 = .ok (.iconst 5, 1) := by decide +kernel
theorem dX4_keep_21 : decode cX4_keep 21 = .ok (.iload_n 1, 1) := by decide +kernel
theorem dX4_keep_22 : decode cX4_keep 22 = .ok (.imul, 1) := by decide +kernel
theorem dX4_keep_23 : decode cX4_keep 23 = .ok (.iload_n 3, 1) := by decide +kernel
theorem dX4_keep_24 : decode cX4_keep 24 = .ok (.iadd, 1) := by decide +kernel
theorem dX4_keep_25 : decode cX4_keep 25 = .ok (.iaload, 1) := by decide +kernel
theorem dX4_keep_26 : decode cX4_keep 26 = .ok (.iastore, 1) := by decide +kernel
theorem dX4_keep_27 : decode cX4_keep 27 = .ok (.iinc 3 1, 3) := by decide +kernel
theorem dX4_keep_30 : decode cX4_keep 30 = .ok (.goto (-28), 3) := by decide +kernel
theorem dX4_keep_33 : decode cX4_keep 33 = .ok (.return_, 1) := by decide +kernel
theorem dX4_putBack_0 : decode cX4_putBack 0 = .ok (.iconst 0, 1) := by decide +kernel
theorem dX4_putBack_1 : decode cX4_putBack 1 = .ok (.istore_n 3, 1) := by decide +kernel
theorem dX4_putBack_2 : decode cX4_putBack 2 = .ok (.iload_n 3, 1) := by decide +kernel
theorem dX4_putBack_3 : decode cX4_putBack 3 = .ok (.iconst 5, 1) := by decide +kernel
theorem dX4_putBack_4 : decode cX4_putBack 4 = .ok (.if_icmp .ge 29, 3) := by decide +kernel
theorem dX4_putBack_7 : decode cX4_putBack 7 = .ok (.aload_n 0, 1) := by decide +kernel
theorem dX4_putBack_8 : decode cX4_putBack 8 = .ok (.getfield 20, 3) := by decide +kernel
theorem dX4_putBack_11 : decode cX4_putBack 11 = .ok (.iconst 5, 1) := by decide +kernel
theorem dX4_putBack_12 : decode cX4_putBack 12 = .ok (.iload_n 1, 1) := by decide +kernel
theorem dX4_putBack_13 : decode cX4_putBack 13 = .ok (.imul, 1) := by decide +kernel
theorem dX4_putBack_14 : decode cX4_putBack 14 = .ok (.iload_n 3, 1) := by decide +kernel
theorem dX4_putBack_15 : decode cX4_putBack 15 = .ok (.iadd, 1) := by decide +kernel
theorem dX4_putBack_16 : decode cX4_putBack 16 = .ok (.aload_n 0, 1) := by decide +kernel
theorem dX4_putBack_17 : decode cX4_putBack 17 = .ok (.getfield 26, 3) := by decide +kernel
theorem dX4_putBack_20 : decode cX4_putBack 20 = .ok (.iconst 5, 1) := by decide +kernel
theorem dX4_putBack_21 : decode cX4_putBack 21 = .ok (.iload_n 2, 1) := by decide +kernel
theorem dX4_putBack_22 : decode cX4_putBack 22 = .ok (.imul, 1) := by decide +kernel
theorem dX4_putBack_23 : decode cX4_putBack 23 = .ok (.iload_n 3, 1) := by decide +kernel
theorem dX4_putBack_24 : decode cX4_putBack 24 = .ok (.iadd, 1) := by decide +kernel
theorem dX4_putBack_25 : decode cX4_putBack 25 = .ok (.iaload, 1) := by decide +kernel
theorem dX4_putBack_26 : decode cX4_putBack 26 = .ok (.iastore, 1) := by decide +kernel
theorem dX4_putBack_27 : decode cX4_putBack 27 = .ok (.iinc 3 1, 3) := by decide +kernel
theorem dX4_putBack_30 : decode cX4_putBack 30 = .ok (.goto (-28), 3) := by decide +kernel
theorem dX4_putBack_33 : decode cX4_putBack 33 = .ok (.return_, 1) := by decide +kernel
theorem dX4_pass_0 : decode cX4_pass 0 = .ok (.aload_n 0, 1) := by decide +kernel
theorem dX4_pass_1 : decode cX4_pass 1 = .ok (.iconst 0, 1) := by decide +kernel
theorem dX4_pass_2 : decode cX4_pass 2 = .ok (.putfield 29, 3) := by decide +kernel
theorem dX4_pass_5 : decode cX4_pass 5 = .ok (.iload_n 1, 1) := by decide +kernel
theorem dX4_pass_6 : decode cX4_pass 6 = .ok (.iconst 0, 1) := by decide +kernel
theorem dX4_pass_7 : decode cX4_pass 7 = .ok (.ldc 92, 2) := by decide +kernel
theorem dX4_pass_9 : decode cX4_pass 9 = .ok (.invokestatic 33, 3) := by decide +kernel
theorem dX4_pass_12 : decode cX4_pass 12 = .ok (.ifCond .eq 18, 3) := by decide +kernel
theorem dX4_pass_15 : decode cX4_pass 15 = .ok (.iload_n 2, 1) := by decide +kernel
theorem dX4_pass_16 : decode cX4_pass 16 = .ok (.iconst 0, 1) := by decide +kernel
theorem dX4_pass_17 : decode cX4_pass 17 = .ok (.sipush 10000, 3) := by decide +kernel
theorem dX4_pass_20 : decode cX4_pass 20 = .ok (.invokestatic 33, 3) := by decide +kernel
theorem dX4_pass_23 : decode cX4_pass 23 = .ok (.ifCond .eq 7, 3) := by decide +kernel
theorem dX4_pass_26 : decode cX4_pass 26 = .ok (.iconst 1, 1) := by decide +kernel
theorem dX4_pass_27 : decode cX4_pass 27 = .ok (.goto 4, 3) := by decide +kernel
theorem dX4_pass_30 : decode cX4_pass 30 = .ok (.iconst 0, 1) := by decide +kernel
theorem dX4_pass_31 : decode cX4_pass 31 = .ok (.istore 4, 2) := by decide +kernel
theorem dX4_pass_33 : decode cX4_pass 33 = .ok (.iload 4, 2) := by decide +kernel
theorem dX4_pass_35 : decode cX4_pass 35 = .ok (.ifCond .eq 10, 3) := by decide +kernel
theorem dX4_pass_38 : decode cX4_pass 38 = .ok (.iload_n 1, 1) := by decide +kernel
theorem dX4_pass_39 : decode cX4_pass 39 = .ok (.invokestatic 93, 3) := by decide +kernel
theorem dX4_pass_42 : decode cX4_pass 42 = .ok (.goto 4, 3) := by decide +kernel
theorem dX4_pass_45 : decode cX4_pass 45 = .ok (.iconst 0, 1) := by decide +kernel
theorem dX4_pass_46 : decode cX4_pass 46 = .ok (.istore 5, 2) := by decide +kernel
theorem dX4_pass_48 : decode cX4_pass 48 = .ok (.iconst 0, 1) := by decide +kernel
theorem dX4_pass_49 : decode cX4_pass 49 = .ok (.istore 6, 2) := by decide +kernel
theorem dX4_pass_51 : decode cX4_pass 51 = .ok (.iload 6, 2) := by decide +kernel
theorem dX4_pass_53 : decode cX4_pass 53 = .ok (.iload 5, 2) := by decide +kernel
theorem dX4_pass_55 : decode cX4_pass 55 = .ok (.if_icmp .ge 34, 3) := by decide +kernel
theorem dX4_pass_58 : decode cX4_pass 58 = .ok (.iload 4, 2) := by decide +kernel
theorem dX4_pass_60 : decode cX4_pass 60 = .ok (.ifCond .eq 20, 3) := by decide +kernel
theorem dX4_pass_63 : decode cX4_pass 63 = .ok (.iload_n 1, 1) := by decide +kernel
theorem dX4_pass_64 : decode cX4_pass 64 = .ok (.iload 5, 2) := by decide +kernel
theorem dX4_pass_66 : decode cX4_pass 66 = .ok (.iload 6, 2) := by decide +kernel
theorem dX4_pass_68 : decode cX4_pass 68 = .ok (.invokestatic 96, 3) := by decide +kernel
theorem dX4_pass_71 : decode cX4_pass 71 = .ok (.bipush 8, 2) := by decide +kernel
theorem dX4_pass_73 : decode cX4_pass 73 = .ok (.if_icmp .ge 7, 3) := by decide +kernel
theorem dX4_pass_76 : decode cX4_pass 76 = .ok (.iconst 1, 1) := by decide +kernel
theorem dX4_pass_77 : decode cX4_pass 77 = .ok (.goto 4, 3) := by decide +kernel
theorem dX4_pass_80 : decode cX4_pass 80 = .ok (.iconst 0, 1) := by decide +kernel
theorem dX4_pass_81 : decode cX4_pass 81 = .ok (.istore 4, 2) := by decide +kernel
theorem dX4_pass_83 : decode cX4_pass 83 = .ok (.iinc 6 1, 3) := by decide +kernel
theorem dX4_pass_86 : decode cX4_pass 86 = .ok (.goto (-35), 3) := by decide +kernel
theorem dX4_pass_89 : decode cX4_pass 89 = .ok (.iload 4, 2) := by decide +kernel
theorem dX4_pass_91 : decode cX4_pass 91 = .ok (.ifCond .ne 5, 3) := by decide +kernel
theorem dX4_pass_94 : decode cX4_pass 94 = .ok (.iconst (-1), 1) := by decide +kernel
theorem dX4_pass_95 : decode cX4_pass 95 = .ok (.ireturn, 1) := by decide +kernel
theorem dX4_pass_96 : decode cX4_pass 96 = .ok (.aload_n 0, 1) := by decide +kernel
theorem dX4_pass_97 : decode cX4_pass 97 = .ok (.bipush 8, 2) := by decide +kernel
theorem dX4_pass_99 : decode cX4_pass 99 = .ok (.bipush 6, 2) := by decide +kernel
theorem dX4_pass_101 : decode cX4_pass 101 = .ok (.invokevirtual 100, 3) := by decide +kernel
theorem dX4_pass_104 : decode cX4_pass 104 = .ok (.iconst 0, 1) := by decide +kernel
theorem dX4_pass_105 : decode cX4_pass 105 = .ok (.istore 6, 2) := by decide +kernel
theorem dX4_pass_107 : decode cX4_pass 107 = .ok (.iconst 0, 1) := by decide +kernel
theorem dX4_pass_108 : decode cX4_pass 108 = .ok (.istore 7, 2) := by decide +kernel
theorem dX4_pass_110 : decode cX4_pass 110 = .ok (.iload 6, 2) := by decide +kernel
theorem dX4_pass_112 : decode cX4_pass 112 = .ok (.iload 5, 2) := by decide +kernel
theorem dX4_pass_114 : decode cX4_pass 114 = .ok (.if_icmp .ge 99, 3) := by decide +kernel
theorem dX4_pass_117 : decode cX4_pass 117 = .ok (.iload 7, 2) := by decide +kernel
theorem dX4_pass_119 : decode cX4_pass 119 = .ok (.ifCond .ne 94, 3) := by decide +kernel
theorem dX4_pass_122 : decode cX4_pass 122 = .ok (.iload_n 1, 1) := by decide +kernel
theorem dX4_pass_123 : decode cX4_pass 123 = .ok (.iload 5, 2) := by decide +kernel
theorem dX4_pass_125 : decode cX4_pass 125 = .ok (.iload 6, 2) := by decide +kernel
theorem dX4_pass_127 : decode cX4_pass 127 = .ok (.invokestatic 96, 3) := by decide +kernel
theorem dX4_pass_130 : decode cX4_pass 130 = .ok (.istore 8, 2) := by decide +kernel
theorem dX4_pass_132 : decode cX4_pass 132 = .ok (.aload_n 0, 1) := by decide +kernel
theorem dX4_pass_133 : decode cX4_pass 133 = .ok (.iload 8, 2) := by decide +kernel
theorem dX4_pass_135 : decode cX4_pass 135 = .ok (.invokevirtual 76, 3) := by decide +kernel
theorem dX4_pass_138 : decode cX4_pass 138 = .ok (.istore 7, 2) := by decide +kernel
theorem dX4_pass_140 : decode cX4_pass 140 = .ok (.iload 7, 2) := by decide +kernel
theorem dX4_pass_142 : decode cX4_pass 142 = .ok (.ifCond .ne 68, 3) := by decide +kernel
theorem dX4_pass_145 : decode cX4_pass 145 = .ok (.aload_n 0, 1) := by decide +kernel
theorem dX4_pass_146 : decode cX4_pass 146 = .ok (.iload 8, 2) := by decide +kernel
theorem dX4_pass_148 : decode cX4_pass 148 = .ok (.iload 6, 2) := by decide +kernel
theorem dX4_pass_150 : decode cX4_pass 150 = .ok (.invokevirtual 100, 3) := by decide +kernel
theorem dX4_pass_153 : decode cX4_pass 153 = .ok (.iinc 6 1, 3) := by decide +kernel
theorem dX4_pass_156 : decode cX4_pass 156 = .ok (.iload 6, 2) := by decide +kernel
theorem dX4_pass_158 : decode cX4_pass 158 = .ok (.iconst 1, 1) := by decide +kernel
theorem dX4_pass_159 : decode cX4_pass 159 = .ok (.if_icmp .le 16, 3) := by decide +kernel
theorem dX4_pass_162 : decode cX4_pass 162 = .ok (.aload_n 0, 1) := by decide +kernel
theorem dX4_pass_163 : decode cX4_pass 163 = .ok (.iload 8, 2) := by decide +kernel
theorem dX4_pass_165 : decode cX4_pass 165 = .ok (.aload_n 0, 1) := by decide +kernel
theorem dX4_pass_166 : decode cX4_pass 166 = .ok (.getfield 23, 3) := by decide +kernel
theorem dX4_pass_169 : decode cX4_pass 169 = .ok (.invokevirtual 85, 3) := by decide +kernel
theorem dX4_pass_172 : decode cX4_pass 172 = .ok (.goto 4, 3) := by decide +kernel
theorem dX4_pass_175 : decode cX4_pass 175 = .ok (.iconst 0, 1) := by decide +kernel
theorem dX4_pass_176 : decode cX4_pass 176 = .ok (.istore 7, 2) := by decide +kernel
theorem dX4_pass_178 : decode cX4_pass 178 = .ok (.iload 7, 2) := by decide +kernel
theorem dX4_pass_180 : decode cX4_pass 180 = .ok (.ifCond .ne 26, 3) := by decide +kernel
theorem dX4_pass_183 : decode cX4_pass 183 = .ok (.iload 6, 2) := by decide +kernel
theorem dX4_pass_185 : decode cX4_pass 185 = .ok (.iload 5, 2) := by decide +kernel
theorem dX4_pass_187 : decode cX4_pass 187 = .ok (.if_icmp .lt 9, 3) := by decide +kernel
theorem dX4_pass_190 : decode cX4_pass 190 = .ok (.iload 5, 2) := by decide +kernel
theorem dX4_pass_192 : decode cX4_pass 192 = .ok (.iconst 1, 1) := by decide +kernel
theorem dX4_pass_193 : decode cX4_pass 193 = .ok (.if_icmp .ne 13, 3) := by decide +kernel
theorem dX4_pass_196 : decode cX4_pass 196 = .ok (.aload_n 0, 1) := by decide +kernel
theorem dX4_pass_197 : decode cX4_pass 197 = .ok (.iload 8, 2) := by decide +kernel
theorem dX4_pass_199 : decode cX4_pass 199 = .ok (.iload_n 2, 1) := by decide +kernel
theorem dX4_pass_200 : decode cX4_pass 200 = .ok (.invokevirtual 89, 3) := by decide +kernel
theorem dX4_pass_203 : decode cX4_pass 203 = .ok (.goto 5, 3) := by decide +kernel
theorem dX4_pass_206 : decode cX4_pass 206 = .ok (.iload 7, 2) := by decide +kernel
theorem dX4_pass_208 : decode cX4_pass 208 = .ok (.istore 7, 2) := by decide +kernel
theorem dX4_pass_210 : decode cX4_pass 210 = .ok (.goto (-100), 3) := by decide +kernel
theorem dX4_pass_213 : decode cX4_pass 213 = .ok (.iload 6, 2) := by decide +kernel
theorem dX4_pass_215 : decode cX4_pass 215 = .ok (.iconst 1, 1) := by decide +kernel
theorem dX4_pass_216 : decode cX4_pass 216 = .ok (.isub, 1) := by decide +kernel
theorem dX4_pass_217 : decode cX4_pass 217 = .ok (.istore 8, 2) := by decide +kernel
theorem dX4_pass_219 : decode cX4_pass 219 = .ok (.iload 8, 2) := by decide +kernel
theorem dX4_pass_221 : decode cX4_pass 221 = .ok (.ifCond .lt 40, 3) := by decide +kernel
theorem dX4_pass_224 : decode cX4_pass 224 = .ok (.aload_n 0, 1) := by decide +kernel
theorem dX4_pass_225 : decode cX4_pass 225 = .ok (.iload 7, 2) := by decide +kernel
theorem dX4_pass_227 : decode cX4_pass 227 = .ok (.invokevirtual 82, 3) := by decide +kernel
theorem dX4_pass_230 : decode cX4_pass 230 = .ok (.istore 7, 2) := by decide +kernel
theorem dX4_pass_232 : decode cX4_pass 232 = .ok (.iload 7, 2) := by decide +kernel
theorem dX4_pass_234 : decode cX4_pass 234 = .ok (.ifCond .eq 21, 3) := by decide +kernel
theorem dX4_pass_237 : decode cX4_pass 237 = .ok (.iload_n 3, 1) := by decide +kernel
theorem dX4_pass_238 : decode cX4_pass 238 = .ok (.ifCond .eq 17, 3) := by decide +kernel
theorem dX4_pass_241 : decode cX4_pass 241 = .ok (.aload_n 0, 1) := by decide +kernel
theorem dX4_pass_242 : decode cX4_pass 242 = .ok (.iload_n 1, 1) := by decide +kernel
theorem dX4_pass_243 : decode cX4_pass 243 = .ok (.iload 5, 2) := by decide +kernel
theorem dX4_pass_245 : decode cX4_pass 245 = .ok (.iload 8, 2) := by decide +kernel
theorem dX4_pass_247 : decode cX4_pass 247 = .ok (.invokestatic 96, 3) := by decide +kernel
theorem dX4_pass_250 : decode cX4_pass 250 = .ok (.iload 8, 2) := by decide +kernel
theorem dX4_pass_252 : decode cX4_pass 252 = .ok (.invokevirtual 104, 3) := by decide +kernel
theorem dX4_pass_255 : decode cX4_pass 255 = .ok (.iinc 8 (-1), 3) := by decide +kernel
theorem dX4_pass_258 : decode cX4_pass 258 = .ok (.goto (-39), 3) := by decide +kernel
theorem dX4_pass_261 : decode cX4_pass 261 = .ok (.iload 7, 2) := by decide +kernel
theorem dX4_pass_263 : decode cX4_pass 263 = .ok (.ifCond .eq 15, 3) := by decide +kernel
theorem dX4_pass_266 : decode cX4_pass 266 = .ok (.iload_n 3, 1) := by decide +kernel
theorem dX4_pass_267 : decode cX4_pass 267 = .ok (.ifCond .eq 11, 3) := by decide +kernel
theorem dX4_pass_270 : decode cX4_pass 270 = .ok (.aload_n 0, 1) := by decide +kernel
theorem dX4_pass_271 : decode cX4_pass 271 = .ok (.bipush 8, 2) := by decide +kernel
theorem dX4_pass_273 : decode cX4_pass 273 = .ok (.bipush 6, 2) := by decide +kernel
theorem dX4_pass_275 : decode cX4_pass 275 = .ok (.invokevirtual 104, 3) := by decide +kernel
theorem dX4_pass_278 : decode cX4_pass 278 = .ok (.iload 7, 2) := by decide +kernel
theorem dX4_pass_280 : decode cX4_pass 280 = .ok (.iload 5, 2) := by decide +kernel
theorem dX4_pass_282 : decode cX4_pass 282 = .ok (.invokestatic 79, 3) := by decide +kernel
theorem dX4_pass_285 : decode cX4_pass 285 = .ok (.ireturn, 1) := by decide +kernel
theorem dX4_first_0 : decode cX4_first 0 = .ok (.aload_n 0, 1) := by decide +kernel
theorem dX4_first_1 : decode cX4_first 1 = .ok (.iconst 0, 1) := by decide +kernel
theorem dX4_first_2 : decode cX4_first 2 = .ok (.putfield 29, 3) := by decide +kernel
theorem dX4_first_5 : decode cX4_first 5 = .ok (.iload_n 1, 1) := by decide +kernel
theorem dX4_first_6 : decode cX4_first 6 = .ok (.iconst 0, 1) := by decide +kernel
theorem dX4_first_7 : decode cX4_first 7 = .ok (.sipush 10000, 3) := by decide +kernel
theorem dX4_first_10 : decode cX4_first 10 = .ok (.invokestatic 33, 3) := by decide +kernel
theorem dX4_first_13 : decode cX4_first 13 = .ok (.ifCond .ne 5, 3) := by decide +kernel
theorem dX4_first_16 : decode cX4_first 16 = .ok (.iconst (-1), 1) := by decide +kernel
theorem dX4_first_17 : decode cX4_first 17 = .ok (.ireturn, 1) := by decide +kernel
theorem dX4_first_18 : decode cX4_first 18 = .ok (.iconst 0, 1) := by decide +kernel
theorem dX4_first_19 : decode cX4_first 19 = .ok (.istore_n 2, 1) := by decide +kernel
theorem dX4_first_20 : decode cX4_first 20 = .ok (.iload_n 2, 1) := by decide +kernel
theorem dX4_first_21 : decode cX4_first 21 = .ok (.bipush 8, 2) := by decide +kernel
theorem dX4_first_23 : decode cX4_first 23 = .ok (.if_icmp .ge 43, 3) := by decide +kernel
theorem dX4_first_26 : decode cX4_first 26 = .ok (.aload_n 0, 1) := by decide +kernel
theorem dX4_first_27 : decode cX4_first 27 = .ok (.iload_n 2, 1) := by decide +kernel
theorem dX4_first_28 : decode cX4_first 28 = .ok (.invokevirtual 76, 3) := by decide +kernel
theorem dX4_first_31 : decode cX4_first 31 = .ok (.ifCond .ne 29, 3) := by decide +kernel
theorem dX4_first_34 : decode cX4_first 34 = .ok (.aload_n 0, 1) := by decide +kernel
theorem dX4_first_35 : decode cX4_first 35 = .ok (.iconst 0, 1) := by decide +kernel
theorem dX4_first_36 : decode cX4_first 36 = .ok (.invokevirtual 82, 3) := by decide +kernel
theorem dX4_first_39 : decode cX4_first 39 = .ok (.istore_n 3, 1) := by decide +kernel
theorem dX4_first_40 : decode cX4_first 40 = .ok (.aload_n 0, 1) := by decide +kernel
theorem dX4_first_41 : decode cX4_first 41 = .ok (.getfield 13, 3) := by decide +kernel
theorem dX4_first_44 : decode cX4_first 44 = .ok (.iload_n 2, 1) := by decide +kernel
theorem dX4_first_45 : decode cX4_first 45 = .ok (.baload, 1) := by decide +kernel
theorem dX4_first_46 : decode cX4_first 46 = .ok (.ifCond .ne 14, 3) := by decide +kernel
theorem dX4_first_49 : decode cX4_first 49 = .ok (.aload_n 0, 1) := by decide +kernel
theorem dX4_first_50 : decode cX4_first 50 = .ok (.iload_n 2, 1) := by decide +kernel
theorem dX4_first_51 : decode cX4_first 51 = .ok (.iload_n 1, 1) := by decide +kernel
theorem dX4_first_52 : decode cX4_first 52 = .ok (.invokevirtual 53, 3) := by decide +kernel
theorem dX4_first_55 : decode cX4_first 55 = .ok (.ifCond .ne 5, 3) := by decide +kernel
theorem dX4_first_58 : decode cX4_first 58 = .ok (.iload_n 2, 1) := by decide +kernel
theorem dX4_first_59 : decode cX4_first 59 = .ok (.ireturn, 1) := by decide +kernel
theorem dX4_first_60 : decode cX4_first 60 = .ok (.iinc 2 1, 3) := by decide +kernel
theorem dX4_first_63 : decode cX4_first 63 = .ok (.goto (-43), 3) := by decide +kernel
theorem dX4_first_66 : decode cX4_first 66 = .ok (.bipush (-2), 2) := by decide +kernel
theorem dX4_first_68 : decode cX4_first 68 = .ok (.ireturn, 1) := by decide +kernel
theorem dX4_share_0 : decode cX4_share 0 = .ok (.aload_n 0, 1) := by decide +kernel
theorem dX4_share_1 : decode cX4_share 1 = .ok (.iconst 0, 1) := by decide +kernel
theorem dX4_share_2 : decode cX4_share 2 = .ok (.putfield 29, 3) := by decide +kernel
theorem dX4_share_5 : decode cX4_share 5 = .ok (.iload_n 1, 1) := by decide +kernel
theorem dX4_share_6 : decode cX4_share 6 = .ok (.invokestatic 68, 3) := by decide +kernel
theorem dX4_share_9 : decode cX4_share 9 = .ok (.ifCond .eq 19, 3) := by decide +kernel
theorem dX4_share_12 : decode cX4_share 12 = .ok (.iload_n 2, 1) := by decide +kernel
theorem dX4_share_13 : decode cX4_share 13 = .ok (.invokestatic 68, 3) := by decide +kernel
theorem dX4_share_16 : decode cX4_share 16 = .ok (.ifCond .eq 12, 3) := by decide +kernel
theorem dX4_share_19 : decode cX4_share 19 = .ok (.iload_n 3, 1) := by decide +kernel
theorem dX4_share_20 : decode cX4_share 20 = .ok (.iconst 0, 1) := by decide +kernel
theorem dX4_share_21 : decode cX4_share 21 = .ok (.iconst 4, 1) := by decide +kernel
theorem dX4_share_22 : decode cX4_share 22 = .ok (.invokestatic 33, 3) := by decide +kernel
theorem dX4_share_25 : decode cX4_share 25 = .ok (.ifCond .ne 5, 3) := by decide +kernel
theorem dX4_share_28 : decode cX4_share 28 = .ok (.iconst (-1), 1) := by decide +kernel
theorem dX4_share_29 : decode cX4_share 29 = .ok (.ireturn, 1) := by decide +kernel
theorem dX4_share_30 : decode cX4_share 30 = .ok (.aload_n 0, 1) := by decide +kernel
theorem dX4_share_31 : decode cX4_share 31 = .ok (.iload_n 1, 1) := by decide +kernel
theorem dX4_share_32 : decode cX4_share 32 = .ok (.invokevirtual 76, 3) := by decide +kernel
theorem dX4_share_35 : decode cX4_share 35 = .ok (.istore 4, 2) := by decide +kernel
theorem dX4_share_37 : decode cX4_share 37 = .ok (.iload 4, 2) := by decide +kernel
theorem dX4_share_39 : decode cX4_share 39 = .ok (.ifCond .eq 10, 3) := by decide +kernel
theorem dX4_share_42 : decode cX4_share 42 = .ok (.iload 4, 2) := by decide +kernel
theorem dX4_share_44 : decode cX4_share 44 = .ok (.iconst 0, 1) := by decide +kernel
theorem dX4_share_45 : decode cX4_share 45 = .ok (.invokestatic 79, 3) := by decide +kernel
theorem dX4_share_48 : decode cX4_share 48 = .ok (.ireturn, 1) := by decide +kernel
theorem dX4_share_49 : decode cX4_share 49 = .ok (.aload_n 0, 1) := by decide +kernel
theorem dX4_share_50 : decode cX4_share 50 = .ok (.iload_n 2, 1) := by decide +kernel
theorem dX4_share_51 : decode cX4_share 51 = .ok (.invokevirtual 76, 3) := by decide +kernel
theorem dX4_share_54 : decode cX4_share 54 = .ok (.istore 4, 2) := by decide +kernel
theorem dX4_share_56 : decode cX4_share 56 = .ok (.iconst 0, 1) := by decide +kernel
theorem dX4_share_57 : decode cX4_share 57 = .ok (.istore 5, 2) := by decide +kernel
theorem dX4_share_59 : decode cX4_share 59 = .ok (.iload 4, 2) := by decide +kernel
theorem dX4_share_61 : decode cX4_share 61 = .ok (.ifCond .ne 177, 3) := by decide +kernel
theorem dX4_share_64 : decode cX4_share 64 = .ok (.aload_n 0, 1) := by decide +kernel
theorem dX4_share_65 : decode cX4_share 65 = .ok (.getfield 20, 3) := by decide +kernel
theorem dX4_share_68 : decode cX4_share 68 = .ok (.iconst 5, 1) := by decide +kernel
theorem dX4_share_69 : decode cX4_share 69 = .ok (.iload_n 1, 1) := by decide +kernel
theorem dX4_share_70 : decode cX4_share 70 = .ok (.imul, 1) := by decide +kernel
theorem dX4_share_71 : decode cX4_share 71 = .ok (.iload_n 3, 1) := by decide +kernel
theorem dX4_share_72 : decode cX4_share 72 = .ok (.iadd, 1) := by decide +kernel
theorem dX4_share_73 : decode cX4_share 73 = .ok (.iaload, 1) := by decide +kernel
theorem dX4_share_74 : decode cX4_share 74 = .ok (.istore 6, 2) := by decide +kernel
theorem dX4_share_76 : decode cX4_share 76 = .ok (.aload_n 0, 1) := by decide +kernel
theorem dX4_share_77 : decode cX4_share 77 = .ok (.getfield 20, 3) := by decide +kernel
theorem dX4_share_80 : decode cX4_share 80 = .ok (.iconst 5, 1) := by decide +kernel
theorem dX4_share_81 : decode cX4_share 81 = .ok (.iload_n 2, 1) := by decide +kernel
theorem dX4_share_82 : decode cX4_share 82 = .ok (.imul, 1) := by decide +kernel
theorem dX4_share_83 : decode cX4_share 83 = .ok (.iload_n 3, 1) := by decide +kernel
theorem dX4_share_84 : decode cX4_share 84 = .ok (.iadd, 1) := by decide +kernel
theorem dX4_share_85 : decode cX4_share 85 = .ok (.iaload, 1) := by decide +kernel
theorem dX4_share_86 : decode cX4_share 86 = .ok (.istore 7, 2) := by decide +kernel
theorem dX4_share_88 : decode cX4_share 88 = .ok (.iload 6, 2) := by decide +kernel
theorem dX4_share_90 : decode cX4_share 90 = .ok (.iload 7, 2) := by decide +kernel
theorem dX4_share_92 : decode cX4_share 92 = .ok (.if_icmp .le 7, 3) := by decide +kernel
theorem dX4_share_95 : decode cX4_share 95 = .ok (.iload_n 1, 1) := by decide +kernel
theorem dX4_share_96 : decode cX4_share 96 = .ok (.goto 4, 3) := by decide +kernel
theorem dX4_share_99 : decode cX4_share 99 = .ok (.iload_n 2, 1) := by decide +kernel
theorem dX4_share_100 : decode cX4_share 100 = .ok (.istore 8, 2) := by decide +kernel
theorem dX4_share_102 : decode cX4_share 102 = .ok (.iload 6, 2) := by decide +kernel
theorem dX4_share_104 : decode cX4_share 104 = .ok (.iload 7, 2) := by decide +kernel
theorem dX4_share_106 : decode cX4_share 106 = .ok (.if_icmp .le 7, 3) := by decide +kernel
theorem dX4_share_109 : decode cX4_share 109 = .ok (.iload_n 2, 1) := by decide +kernel
theorem dX4_share_110 : decode cX4_share 110 = .ok (.goto 4, 3) := by decide +kernel
theorem dX4_share_113 : decode cX4_share 113 = .ok (.iload_n 1, 1) := by decide +kernel
theorem dX4_share_114 : decode cX4_share 114 = .ok (.istore 9, 2) := by decide +kernel
theorem dX4_share_116 : decode cX4_share 116 = .ok (.iload 6, 2) := by decide +kernel
theorem dX4_share_118 : decode cX4_share 118 = .ok (.iload 7, 2) := by decide +kernel
theorem dX4_share_120 : decode cX4_share 120 = .ok (.if_icmp .le 11, 3) := by decide +kernel
theorem dX4_share_123 : decode cX4_share 123 = .ok (.iload 6, 2) := by decide +kernel
theorem dX4_share_125 : decode cX4_share 125 = .ok (.iload 7, 2) := by decide +kernel
theorem dX4_share_127 : decode cX4_share 127 = .ok (.isub, 1) := by decide +kernel
theorem dX4_share_128 : decode cX4_share 128 = .ok (.goto 8, 3) := by decide +kernel
theorem dX4_share_131 : decode cX4_share 131 = .ok (.iload 7, 2) := by decide +kernel
theorem dX4_share_133 : decode cX4_share 133 = .ok (.iload 6, 2) := by decide +kernel
theorem dX4_share_135 : decode cX4_share 135 = .ok (.isub, 1) := by decide +kernel
theorem dX4_share_136 : decode cX4_share 136 = .ok (.iconst 2, 1) := by decide +kernel
theorem dX4_share_137 : decode cX4_share 137 = .ok (.idiv, 1) := by decide +kernel
theorem dX4_share_138 : decode cX4_share 138 = .ok (.istore 5, 2) := by decide +kernel
theorem dX4_share_140 : decode cX4_share 140 = .ok (.aload_n 0, 1) := by decide +kernel
theorem dX4_share_141 : decode cX4_share 141 = .ok (.getfield 13, 3) := by decide +kernel
theorem dX4_share_144 : decode cX4_share 144 = .ok (.iload_n 1, 1) := by decide +kernel
theorem dX4_share_145 : decode cX4_share 145 = .ok (.baload, 1) := by decide +kernel
theorem dX4_share_146 : decode cX4_share 146 = .ok (.ifCond .ne 12, 3) := by decide +kernel
theorem dX4_share_149 : decode cX4_share 149 = .ok (.aload_n 0, 1) := by decide +kernel
theorem dX4_share_150 : decode cX4_share 150 = .ok (.getfield 13, 3) := by decide +kernel
theorem dX4_share_153 : decode cX4_share 153 = .ok (.iload_n 2, 1) := by decide +kernel
theorem dX4_share_154 : decode cX4_share 154 = .ok (.baload, 1) := by decide +kernel
theorem dX4_share_155 : decode cX4_share 155 = .ok (.ifCond .eq 7, 3) := by decide +kernel
theorem dX4_share_158 : decode cX4_share 158 = .ok (.iconst 2, 1) := by decide +kernel
theorem dX4_share_159 : decode cX4_share 159 = .ok (.goto 32, 3) := by decide +kernel
theorem dX4_share_162 : decode cX4_share 162 = .ok (.iload 5, 2) := by decide +kernel
theorem dX4_share_164 : decode cX4_share 164 = .ok (.ifCond .le 26, 3) := by decide +kernel
theorem dX4_share_167 : decode cX4_share 167 = .ok (.aload_n 0, 1) := by decide +kernel
theorem dX4_share_168 : decode cX4_share 168 = .ok (.iload 9, 2) := by decide +kernel
theorem dX4_share_170 : decode cX4_share 170 = .ok (.invokevirtual 61, 3) := by decide +kernel
theorem dX4_share_173 : decode cX4_share 173 = .ok (.iload 5, 2) := by decide +kernel
theorem dX4_share_175 : decode cX4_share 175 = .ok (.iadd, 1) := by decide +kernel
theorem dX4_share_176 : decode cX4_share 176 = .ok (.aload_n 0, 1) := by decide +kernel
theorem dX4_share_177 : decode cX4_share 177 = .ok (.getfield 16, 3) := by decide +kernel
theorem dX4_share_180 : decode cX4_share 180 = .ok (.iload 9, 2) := by decide +kernel
theorem dX4_share_182 : decode cX4_share 182 = .ok (.iaload, 1) := by decide +kernel
theorem dX4_share_183 : decode cX4_share 183 = .ok (.if_icmp .le 7, 3) := by decide +kernel
theorem dX4_share_186 : decode cX4_share 186 = .ok (.iconst 4, 1) := by decide +kernel
theorem dX4_share_187 : decode cX4_share 187 = .ok (.goto 4, 3) := by decide +kernel
theorem dX4_share_190 : decode cX4_share 190 = .ok (.iconst 0, 1) := by decide +kernel
theorem dX4_share_191 : decode cX4_share 191 = .ok (.istore 4, 2) := by decide +kernel
theorem dX4_share_193 : decode cX4_share 193 = .ok (.iload 4, 2) := by decide +kernel
theorem dX4_share_195 : decode cX4_share 195 = .ok (.ifCond .ne 35, 3) := by decide +kernel
theorem dX4_share_198 : decode cX4_share 198 = .ok (.aload_n 0, 1) := by decide +kernel
theorem dX4_share_199 : decode cX4_share 199 = .ok (.getfield 20, 3) := by decide +kernel
theorem dX4_share_202 : decode cX4_share 202 = .ok (.iconst 5, 1) := by decide +kernel
theorem dX4_share_203 : decode cX4_share 203 = .ok (.iload 8, 2) := by decide +kernel
theorem dX4_share_205 : decode cX4_share 205 = .ok (.imul, 1) := by decide +kernel
theorem dX4_share_206 : decode cX4_share 206 = .ok (.iload_n 3, 1) := by decide +kernel
theorem dX4_share_207 : decode cX4_share 207 = .ok (.iadd, 1) := by decide +kernel
theorem dX4_share_208 : decode cX4_share 208 = .ok (.dup2, 1) := by decide +kernel
theorem dX4_share_209 : decode cX4_share 209 = .ok (.iaload, 1) := by decide +kernel
theorem dX4_share_210 : decode cX4_share 210 = .ok (.iload 5, 2) := by decide +kernel
theorem dX4_share_212 : decode cX4_share 212 = .ok (.isub, 1) := by decide +kernel
theorem dX4_share_213 : decode cX4_share 213 = .ok (.iastore, 1) := by decide +kernel
theorem dX4_share_214 : decode cX4_share 214 = .ok (.aload_n 0, 1) := by decide +kernel
theorem dX4_share_215 : decode cX4_share 215 = .ok (.getfield 20, 3) := by decide +kernel
theorem dX4_share_218 : decode cX4_share 218 = .ok (.iconst 5, 1) := by decide +kernel
theorem dX4_share_219 : decode cX4_share 219 = .ok (.iload 9, 2) := by decide +kernel
theorem dX4_share_221 : decode cX4_share 221 = .ok (.imul, 1) := by decide +kernel
theorem dX4_share_222 : decode cX4_share 222 = .ok (.iload_n 3, 1) := by decide +kernel
theorem dX4_share_223 : decode cX4_share 223 = .ok (.iadd, 1) := by decide +kernel
theorem dX4_share_224 : decode cX4_share 224 = .ok (.dup2, 1) := by decide +kernel
theorem dX4_share_225 : decode cX4_share 225 = .ok (.iaload, 1) := by decide +kernel
theorem dX4_share_226 : decode cX4_share 226 = .ok (.iload 5, 2) := by decide +kernel
theorem dX4_share_228 : decode cX4_share 228 = .ok (.iadd, 1) := by decide +kernel
theorem dX4_share_229 : decode cX4_share 229 = .ok (.iastore, 1) := by decide +kernel
theorem dX4_share_230 : decode cX4_share 230 = .ok (.aload_n 0, 1) := by decide +kernel
theorem dX4_share_231 : decode cX4_share 231 = .ok (.iload 4, 2) := by decide +kernel
theorem dX4_share_233 : decode cX4_share 233 = .ok (.invokevirtual 82, 3) := by decide +kernel
theorem dX4_share_236 : decode cX4_share 236 = .ok (.istore 4, 2) := by decide +kernel
theorem dX4_share_238 : decode cX4_share 238 = .ok (.aload_n 0, 1) := by decide +kernel
theorem dX4_share_239 : decode cX4_share 239 = .ok (.iload 4, 2) := by decide +kernel
theorem dX4_share_241 : decode cX4_share 241 = .ok (.invokevirtual 82, 3) := by decide +kernel
theorem dX4_share_244 : decode cX4_share 244 = .ok (.iload 5, 2) := by decide +kernel
theorem dX4_share_246 : decode cX4_share 246 = .ok (.invokestatic 79, 3) := by decide +kernel
theorem dX4_share_249 : decode cX4_share 249 = .ok (.ireturn, 1) := by decide +kernel
theorem dX4_told__0 : decode cX4_told_ 0 = .ok (.iload_n 2, 1) := by decide +kernel
theorem dX4_told__1 : decode cX4_told_ 1 = .ok (.iconst 5, 1) := by decide +kernel
theorem dX4_told__2 : decode cX4_told_ 2 = .ok (.if_icmp .ge 16, 3) := by decide +kernel
theorem dX4_told__5 : decode cX4_told_ 5 = .ok (.aload_n 0, 1) := by decide +kernel
theorem dX4_told__6 : decode cX4_told_ 6 = .ok (.getfield 20, 3) := by decide +kernel
theorem dX4_told__9 : decode cX4_told_ 9 = .ok (.iconst 5, 1) := by decide +kernel
theorem dX4_told__10 : decode cX4_told_ 10 = .ok (.iload_n 1, 1) := by decide +kernel
theorem dX4_told__11 : decode cX4_told_ 11 = .ok (.imul, 1) := by decide +kernel
theorem dX4_told__12 : decode cX4_told_ 12 = .ok (.iload_n 2, 1) := by decide +kernel
theorem dX4_told__13 : decode cX4_told_ 13 = .ok (.iadd, 1) := by decide +kernel
theorem dX4_told__14 : decode cX4_told_ 14 = .ok (.iaload, 1) := by decide +kernel
theorem dX4_told__15 : decode cX4_told_ 15 = .ok (.goto 59, 3) := by decide +kernel
theorem dX4_told__18 : decode cX4_told_ 18 = .ok (.iload_n 2, 1) := by decide +kernel
theorem dX4_told__19 : decode cX4_told_ 19 = .ok (.iconst 5, 1) := by decide +kernel
theorem dX4_told__20 : decode cX4_told_ 20 = .ok (.if_icmp .ne 11, 3) := by decide +kernel
theorem dX4_told__23 : decode cX4_told_ 23 = .ok (.aload_n 0, 1) := by decide +kernel
theorem dX4_told__24 : decode cX4_told_ 24 = .ok (.iload_n 1, 1) := by decide +kernel
theorem dX4_told__25 : decode cX4_told_ 25 = .ok (.invokevirtual 61, 3) := by decide +kernel
theorem dX4_told__28 : decode cX4_told_ 28 = .ok (.goto 46, 3) := by decide +kernel
theorem dX4_told__31 : decode cX4_told_ 31 = .ok (.iload_n 2, 1) := by decide +kernel
theorem dX4_told__32 : decode cX4_told_ 32 = .ok (.bipush 6, 2) := by decide +kernel
theorem dX4_told__34 : decode cX4_told_ 34 = .ok (.if_icmp .ne 11, 3) := by decide +kernel
theorem dX4_told__37 : decode cX4_told_ 37 = .ok (.aload_n 0, 1) := by decide +kernel
theorem dX4_told__38 : decode cX4_told_ 38 = .ok (.iload_n 1, 1) := by decide +kernel
theorem dX4_told__39 : decode cX4_told_ 39 = .ok (.invokevirtual 107, 3) := by decide +kernel
theorem dX4_told__42 : decode cX4_told_ 42 = .ok (.goto 32, 3) := by decide +kernel
theorem dX4_told__45 : decode cX4_told_ 45 = .ok (.iload_n 2, 1) := by decide +kernel
theorem dX4_told__46 : decode cX4_told_ 46 = .ok (.bipush 7, 2) := by decide +kernel
theorem dX4_told__48 : decode cX4_told_ 48 = .ok (.if_icmp .ne 12, 3) := by decide +kernel
theorem dX4_told__51 : decode cX4_told_ 51 = .ok (.aload_n 0, 1) := by decide +kernel
theorem dX4_told__52 : decode cX4_told_ 52 = .ok (.getfield 16, 3) := by decide +kernel
theorem dX4_told__55 : decode cX4_told_ 55 = .ok (.iload_n 1, 1) := by decide +kernel
theorem dX4_told__56 : decode cX4_told_ 56 = .ok (.iaload, 1) := by decide +kernel
theorem dX4_told__57 : decode cX4_told_ 57 = .ok (.goto 17, 3) := by decide +kernel
theorem dX4_told__60 : decode cX4_told_ 60 = .ok (.aload_n 0, 1) := by decide +kernel
theorem dX4_told__61 : decode cX4_told_ 61 = .ok (.getfield 13, 3) := by decide +kernel
theorem dX4_told__64 : decode cX4_told_ 64 = .ok (.iload_n 1, 1) := by decide +kernel
theorem dX4_told__65 : decode cX4_told_ 65 = .ok (.baload, 1) := by decide +kernel
theorem dX4_told__66 : decode cX4_told_ 66 = .ok (.ifCond .eq 7, 3) := by decide +kernel
theorem dX4_told__69 : decode cX4_told_ 69 = .ok (.iconst 1, 1) := by decide +kernel
theorem dX4_told__70 : decode cX4_told_ 70 = .ok (.goto 4, 3) := by decide +kernel
theorem dX4_told__73 : decode cX4_told_ 73 = .ok (.iconst 0, 1) := by decide +kernel
theorem dX4_told__74 : decode cX4_told_ 74 = .ok (.ireturn, 1) := by decide +kernel
theorem dX4_look_0 : decode cX4_look 0 = .ok (.aload_n 0, 1) := by decide +kernel
theorem dX4_look_1 : decode cX4_look 1 = .ok (.iconst 0, 1) := by decide +kernel
theorem dX4_look_2 : decode cX4_look 2 = .ok (.putfield 29, 3) := by decide +kernel
theorem dX4_look_5 : decode cX4_look 5 = .ok (.iload_n 1, 1) := by decide +kernel
theorem dX4_look_6 : decode cX4_look 6 = .ok (.invokestatic 68, 3) := by decide +kernel
theorem dX4_look_9 : decode cX4_look 9 = .ok (.ifCond .eq 13, 3) := by decide +kernel
theorem dX4_look_12 : decode cX4_look 12 = .ok (.iload_n 2, 1) := by decide +kernel
theorem dX4_look_13 : decode cX4_look 13 = .ok (.iconst 0, 1) := by decide +kernel
theorem dX4_look_14 : decode cX4_look 14 = .ok (.bipush 8, 2) := by decide +kernel
theorem dX4_look_16 : decode cX4_look 16 = .ok (.invokestatic 33, 3) := by decide +kernel
theorem dX4_look_19 : decode cX4_look 19 = .ok (.ifCond .ne 5, 3) := by decide +kernel
theorem dX4_look_22 : decode cX4_look 22 = .ok (.iconst (-1), 1) := by decide +kernel
theorem dX4_look_23 : decode cX4_look 23 = .ok (.ireturn, 1) := by decide +kernel
theorem dX4_look_24 : decode cX4_look 24 = .ok (.aload_n 0, 1) := by decide +kernel
theorem dX4_look_25 : decode cX4_look 25 = .ok (.iload_n 1, 1) := by decide +kernel
theorem dX4_look_26 : decode cX4_look 26 = .ok (.invokevirtual 76, 3) := by decide +kernel
theorem dX4_look_29 : decode cX4_look 29 = .ok (.istore_n 3, 1) := by decide +kernel
theorem dX4_look_30 : decode cX4_look 30 = .ok (.iload_n 3, 1) := by decide +kernel
theorem dX4_look_31 : decode cX4_look 31 = .ok (.ifCond .eq 9, 3) := by decide +kernel
theorem dX4_look_34 : decode cX4_look 34 = .ok (.iload_n 3, 1) := by decide +kernel
theorem dX4_look_35 : decode cX4_look 35 = .ok (.iconst 0, 1) := by decide +kernel
theorem dX4_look_36 : decode cX4_look 36 = .ok (.invokestatic 79, 3) := by decide +kernel
theorem dX4_look_39 : decode cX4_look 39 = .ok (.ireturn, 1) := by decide +kernel
theorem dX4_look_40 : decode cX4_look 40 = .ok (.aload_n 0, 1) := by decide +kernel
theorem dX4_look_41 : decode cX4_look 41 = .ok (.iconst 0, 1) := by decide +kernel
theorem dX4_look_42 : decode cX4_look 42 = .ok (.invokevirtual 82, 3) := by decide +kernel
theorem dX4_look_45 : decode cX4_look 45 = .ok (.aload_n 0, 1) := by decide +kernel
theorem dX4_look_46 : decode cX4_look 46 = .ok (.iload_n 1, 1) := by decide +kernel
theorem dX4_look_47 : decode cX4_look 47 = .ok (.iload_n 2, 1) := by decide +kernel
theorem dX4_look_48 : decode cX4_look 48 = .ok (.bipush 8, 2) := by decide +kernel
theorem dX4_look_50 : decode cX4_look 50 = .ok (.invokevirtual 110, 3) := by decide +kernel
theorem dX4_look_53 : decode cX4_look 53 = .ok (.invokestatic 79, 3) := by decide +kernel
theorem dX4_look_56 : decode cX4_look 56 = .ok (.ireturn, 1) := by decide +kernel
theorem dX4_hand_0 : decode cX4_hand 0 = .ok (.aload_n 0, 1) := by decide +kernel
theorem dX4_hand_1 : decode cX4_hand 1 = .ok (.iconst 0, 1) := by decide +kernel
theorem dX4_hand_2 : decode cX4_hand 2 = .ok (.putfield 29, 3) := by decide +kernel
theorem dX4_hand_5 : decode cX4_hand 5 = .ok (.iload_n 1, 1) := by decide +kernel
theorem dX4_hand_6 : decode cX4_hand 6 = .ok (.iconst 0, 1) := by decide +kernel
theorem dX4_hand_7 : decode cX4_hand 7 = .ok (.bipush 6, 2) := by decide +kernel
theorem dX4_hand_9 : decode cX4_hand 9 = .ok (.invokestatic 33, 3) := by decide +kernel
theorem dX4_hand_12 : decode cX4_hand 12 = .ok (.ifCond .eq 15, 3) := by decide +kernel
theorem dX4_hand_15 : decode cX4_hand 15 = .ok (.aload_n 0, 1) := by decide +kernel
theorem dX4_hand_16 : decode cX4_hand 16 = .ok (.bipush 8, 2) := by decide +kernel
theorem dX4_hand_18 : decode cX4_hand 18 = .ok (.iload_n 1, 1) := by decide +kernel
theorem dX4_hand_19 : decode cX4_hand 19 = .ok (.bipush 6, 2) := by decide +kernel
theorem dX4_hand_21 : decode cX4_hand 21 = .ok (.invokevirtual 110, 3) := by decide +kernel
theorem dX4_hand_24 : decode cX4_hand 24 = .ok (.goto 4, 3) := by decide +kernel
theorem dX4_hand_27 : decode cX4_hand 27 = .ok (.iconst (-1), 1) := by decide +kernel
theorem dX4_hand_28 : decode cX4_hand 28 = .ok (.ireturn, 1) := by decide +kernel
theorem dX4_count_0 : decode cX4_count 0 = .ok (.aload_n 0, 1) := by decide +kernel
theorem dX4_count_1 : decode cX4_count 1 = .ok (.iconst 0, 1) := by decide +kernel
theorem dX4_count_2 : decode cX4_count 2 = .ok (.putfield 29, 3) := by decide +kernel
theorem dX4_count_5 : decode cX4_count 5 = .ok (.iconst 0, 1) := by decide +kernel
theorem dX4_count_6 : decode cX4_count 6 = .ok (.istore_n 2, 1) := by decide +kernel
theorem dX4_count_7 : decode cX4_count 7 = .ok (.iconst 0, 1) := by decide +kernel
theorem dX4_count_8 : decode cX4_count 8 = .ok (.istore_n 3, 1) := by decide +kernel
theorem dX4_count_9 : decode cX4_count 9 = .ok (.iload_n 3, 1) := by decide +kernel
theorem dX4_count_10 : decode cX4_count 10 = .ok (.bipush 8, 2) := by decide +kernel
theorem dX4_count_12 : decode cX4_count 12 = .ok (.if_icmp .ge 26, 3) := by decide +kernel
theorem dX4_count_15 : decode cX4_count 15 = .ok (.iload_n 2, 1) := by decide +kernel
theorem dX4_count_16 : decode cX4_count 16 = .ok (.aload_n 0, 1) := by decide +kernel
theorem dX4_count_17 : decode cX4_count 17 = .ok (.getfield 7, 3) := by decide +kernel
theorem dX4_count_20 : decode cX4_count 20 = .ok (.iload_n 3, 1) := by decide +kernel
theorem dX4_count_21 : decode cX4_count 21 = .ok (.baload, 1) := by decide +kernel
theorem dX4_count_22 : decode cX4_count 22 = .ok (.ifCond .eq 7, 3) := by decide +kernel
theorem dX4_count_25 : decode cX4_count 25 = .ok (.iconst 1, 1) := by decide +kernel
theorem dX4_count_26 : decode cX4_count 26 = .ok (.goto 4, 3) := by decide +kernel
theorem dX4_count_29 : decode cX4_count 29 = .ok (.iconst 0, 1) := by decide +kernel
theorem dX4_count_30 : decode cX4_count 30 = .ok (.iadd, 1) := by decide +kernel
theorem dX4_count_31 : decode cX4_count 31 = .ok (.istore_n 2, 1) := by decide +kernel
theorem dX4_count_32 : decode cX4_count 32 = .ok (.iinc 3 1, 3) := by decide +kernel
theorem dX4_count_35 : decode cX4_count 35 = .ok (.goto (-26), 3) := by decide +kernel
theorem dX4_count_38 : decode cX4_count 38 = .ok (.iload_n 1, 1) := by decide +kernel
theorem dX4_count_39 : decode cX4_count 39 = .ok (.ifCond .ne 10, 3) := by decide +kernel
theorem dX4_count_42 : decode cX4_count 42 = .ok (.aload_n 0, 1) := by decide +kernel
theorem dX4_count_43 : decode cX4_count 43 = .ok (.getfield 41, 3) := by decide +kernel
theorem dX4_count_46 : decode cX4_count 46 = .ok (.goto 37, 3) := by decide +kernel
theorem dX4_count_49 : decode cX4_count 49 = .ok (.iload_n 1, 1) := by decide +kernel
theorem dX4_count_50 : decode cX4_count 50 = .ok (.iconst 1, 1) := by decide +kernel
theorem dX4_count_51 : decode cX4_count 51 = .ok (.if_icmp .ne 10, 3) := by decide +kernel
theorem dX4_count_54 : decode cX4_count 54 = .ok (.aload_n 0, 1) := by decide +kernel
theorem dX4_count_55 : decode cX4_count 55 = .ok (.getfield 50, 3) := by decide +kernel
theorem dX4_count_58 : decode cX4_count 58 = .ok (.goto 25, 3) := by decide +kernel
theorem dX4_count_61 : decode cX4_count 61 = .ok (.iload_n 1, 1) := by decide +kernel
theorem dX4_count_62 : decode cX4_count 62 = .ok (.iconst 2, 1) := by decide +kernel
theorem dX4_count_63 : decode cX4_count 63 = .ok (.if_icmp .ne 10, 3) := by decide +kernel
theorem dX4_count_66 : decode cX4_count 66 = .ok (.aload_n 0, 1) := by decide +kernel
theorem dX4_count_67 : decode cX4_count 67 = .ok (.getfield 47, 3) := by decide +kernel
theorem dX4_count_70 : decode cX4_count 70 = .ok (.goto 13, 3) := by decide +kernel
theorem dX4_count_73 : decode cX4_count 73 = .ok (.iload_n 1, 1) := by decide +kernel
theorem dX4_count_74 : decode cX4_count 74 = .ok (.iconst 3, 1) := by decide +kernel
theorem dX4_count_75 : decode cX4_count 75 = .ok (.if_icmp .ne 7, 3) := by decide +kernel
theorem dX4_count_78 : decode cX4_count 78 = .ok (.iload_n 2, 1) := by decide +kernel
theorem dX4_count_79 : decode cX4_count 79 = .ok (.goto 4, 3) := by decide +kernel
theorem dX4_count_82 : decode cX4_count 82 = .ok (.iconst (-1), 1) := by decide +kernel
theorem dX4_count_83 : decode cX4_count 83 = .ok (.ireturn, 1) := by decide +kernel
end
section
theorem dL_law_0 : decode cL_law 0 = .ok (.new 7, 3) := by decide +kernel
theorem dL_law_3 : decode cL_law 3 = .ok (.dup, 1) := by decide +kernel
theorem dL_law_4 : decode cL_law 4 = .ok (.invokespecial 9, 3) := by decide +kernel
theorem dL_law_7 : decode cL_law 7 = .ok (.astore_n 1, 1) := by decide +kernel
theorem dL_law_8 : decode cL_law 8 = .ok (.new 10, 3) := by decide +kernel
theorem dL_law_11 : decode cL_law 11 = .ok (.dup, 1) := by decide +kernel
theorem dL_law_12 : decode cL_law 12 = .ok (.invokespecial 12, 3) := by decide +kernel
theorem dL_law_15 : decode cL_law 15 = .ok (.astore_n 2, 1) := by decide +kernel
theorem dL_law_16 : decode cL_law 16 = .ok (.iconst 0, 1) := by decide +kernel
theorem dL_law_17 : decode cL_law 17 = .ok (.istore_n 3, 1) := by decide +kernel
theorem dL_law_18 : decode cL_law 18 = .ok (.iload_n 3, 1) := by decide +kernel
theorem dL_law_19 : decode cL_law 19 = .ok (.aload_n 0, 1) := by decide +kernel
theorem dL_law_20 : decode cL_law 20 = .ok (.arraylength, 1) := by decide +kernel
theorem dL_law_21 : decode cL_law 21 = .ok (.iconst 5, 1) := by decide +kernel
theorem dL_law_22 : decode cL_law 22 = .ok (.isub, 1) := by decide +kernel
theorem dL_law_23 : decode cL_law 23 = .ok (.if_icmp .gt 533, 3) := by decide +kernel
theorem dL_law_26 : decode cL_law 26 = .ok (.aload_n 0, 1) := by decide +kernel
theorem dL_law_27 : decode cL_law 27 = .ok (.iload_n 3, 1) := by decide +kernel
theorem dL_law_28 : decode cL_law 28 = .ok (.iaload, 1) := by decide +kernel
theorem dL_law_29 : decode cL_law 29 = .ok (.bipush 15, 2) := by decide +kernel
theorem dL_law_31 : decode cL_law 31 = .ok (.iand, 1) := by decide +kernel
theorem dL_law_32 : decode cL_law 32 = .ok (.tableswitch 518 0 11 #[64, 97, 120, 169, 212, 245, 314, 373, 416, 439, 472, 495], 64) := by decide +kernel
theorem dL_law_96 : decode cL_law 96 = .ok (.aload_n 1, 1) := by decide +kernel
theorem dL_law_97 : decode cL_law 97 = .ok (.aload_n 0, 1) := by decide +kernel
theorem dL_law_98 : decode cL_law 98 = .ok (.iload_n 3, 1) := by decide +kernel
theorem dL_law_99 : decode cL_law 99 = .ok (.iconst 1, 1) := by decide +kernel
theorem dL_law_100 : decode cL_law 100 = .ok (.iadd, 1) := by decide +kernel
theorem dL_law_101 : decode cL_law 101 = .ok (.iaload, 1) := by decide +kernel
theorem dL_law_102 : decode cL_law 102 = .ok (.aload_n 0, 1) := by decide +kernel
theorem dL_law_103 : decode cL_law 103 = .ok (.iload_n 3, 1) := by decide +kernel
theorem dL_law_104 : decode cL_law 104 = .ok (.iconst 2, 1) := by decide +kernel
theorem dL_law_105 : decode cL_law 105 = .ok (.iadd, 1) := by decide +kernel
theorem dL_law_106 : decode cL_law 106 = .ok (.iaload, 1) := by decide +kernel
theorem dL_law_107 : decode cL_law 107 = .ok (.invokevirtual 13, 3) := by decide +kernel
theorem dL_law_110 : decode cL_law 110 = .ok (.aload_n 2, 1) := by decide +kernel
theorem dL_law_111 : decode cL_law 111 = .ok (.aload_n 0, 1) := by decide +kernel
theorem dL_law_112 : decode cL_law 112 = .ok (.iload_n 3, 1) := by decide +kernel
theorem dL_law_113 : decode cL_law 113 = .ok (.iconst 1, 1) := by decide +kernel
theorem dL_law_114 : decode cL_law 114 = .ok (.iadd, 1) := by decide +kernel
theorem dL_law_115 : decode cL_law 115 = .ok (.iaload, 1) := by decide +kernel
theorem dL_law_116 : decode cL_law 116 = .ok (.aload_n 0, 1) := by decide +kernel
theorem dL_law_117 : decode cL_law 117 = .ok (.iload_n 3, 1) := by decide +kernel
theorem dL_law_118 : decode cL_law 118 = .ok (.iconst 2, 1) := by decide +kernel
theorem dL_law_119 : decode cL_law 119 = .ok (.iadd, 1) := by decide +kernel
theorem dL_law_120 : decode cL_law 120 = .ok (.iaload, 1) := by decide +kernel
theorem dL_law_121 : decode cL_law 121 = .ok (.invokevirtual 17, 3) := by decide +kernel
theorem dL_law_124 : decode cL_law 124 = .ok (.if_icmp .eq 426, 3) := by decide +kernel
theorem dL_law_127 : decode cL_law 127 = .ok (.iconst 0, 1) := by decide +kernel
theorem dL_law_128 : decode cL_law 128 = .ok (.ireturn, 1) := by decide +kernel
theorem dL_law_129 : decode cL_law 129 = .ok (.aload_n 1, 1) := by decide +kernel
theorem dL_law_130 : decode cL_law 130 = .ok (.aload_n 0, 1) := by decide +kernel
theorem dL_law_131 : decode cL_law 131 = .ok (.iload_n 3, 1) := by decide +kernel
theorem dL_law_132 : decode cL_law 132 = .ok (.iconst 1, 1) := by decide +kernel
theorem dL_law_133 : decode cL_law 133 = .ok (.iadd, 1) := by decide +kernel
theorem dL_law_134 : decode cL_law 134 = .ok (.iaload, 1) := by decide +kernel
theorem dL_law_135 : decode cL_law 135 = .ok (.invokevirtual 18, 3) := by decide +kernel
theorem dL_law_138 : decode cL_law 138 = .ok (.aload_n 2, 1) := by decide +kernel
theorem dL_law_139 : decode cL_law 139 = .ok (.aload_n 0, 1) := by decide +kernel
theorem dL_law_140 : decode cL_law 140 = .ok (.iload_n 3, 1) := by decide +kernel
theorem dL_law_141 : decode cL_law 141 = .ok (.iconst 1, 1) := by decide +kernel
theorem dL_law_142 : decode cL_law 142 = .ok (.iadd, 1) := by decide +kernel
theorem dL_law_143 : decode cL_law 143 = .ok (.iaload, 1) := by decide +kernel
theorem dL_law_144 : decode cL_law 144 = .ok (.invokevirtual 22, 3) := by decide +kernel
theorem dL_law_147 : decode cL_law 147 = .ok (.if_icmp .eq 403, 3) := by decide +kernel
theorem dL_law_150 : decode cL_law 150 = .ok (.iconst 0, 1) := by decide +kernel
theorem dL_law_151 : decode cL_law 151 = .ok (.ireturn, 1) := by decide +kernel
theorem dL_law_152 : decode cL_law 152 = .ok (.aload_n 1, 1) := by decide +kernel
theorem dL_law_153 : decode cL_law 153 = .ok (.aload_n 0, 1) := by decide +kernel
theorem dL_law_154 : decode cL_law 154 = .ok (.iload_n 3, 1) := by decide +kernel
theorem dL_law_155 : decode cL_law 155 = .ok (.iconst 1, 1) := by decide +kernel
theorem dL_law_156 : decode cL_law 156 = .ok (.iadd, 1) := by decide +kernel
theorem dL_law_157 : decode cL_law 157 = .ok (.iaload, 1) := by decide +kernel
theorem dL_law_158 : decode cL_law 158 = .ok (.aload_n 0, 1) := by decide +kernel
theorem dL_law_159 : decode cL_law 159 = .ok (.iload_n 3, 1) := by decide +kernel
theorem dL_law_160 : decode cL_law 160 = .ok (.iconst 2, 1) := by decide +kernel
theorem dL_law_161 : decode cL_law 161 = .ok (.iadd, 1) := by decide +kernel
theorem dL_law_162 : decode cL_law 162 = .ok (.iaload, 1) := by decide +kernel
theorem dL_law_163 : decode cL_law 163 = .ok (.ifCond .eq 7, 3) := by decide +kernel
theorem dL_law_166 : decode cL_law 166 = .ok (.iconst 1, 1) := by decide +kernel
theorem dL_law_167 : decode cL_law 167 = .ok (.goto 4, 3) := by decide +kernel
theorem dL_law_170 : decode cL_law 170 = .ok (.iconst 0, 1) := by decide +kernel
theorem dL_law_171 : decode cL_law 171 = .ok (.invokevirtual 23, 3) := by decide +kernel
theorem dL_law_174 : decode cL_law 174 = .ok (.aload_n 2, 1) := by decide +kernel
theorem dL_law_175 : decode cL_law 175 = .ok (.aload_n 0, 1) := by decide +kernel
theorem dL_law_176 : decode cL_law 176 = .ok (.iload_n 3, 1) := by decide +kernel
theorem dL_law_177 : decode cL_law 177 = .ok (.iconst 1, 1) := by decide +kernel
theorem dL_law_178 : decode cL_law 178 = .ok (.iadd, 1) := by decide +kernel
theorem dL_law_179 : decode cL_law 179 = .ok (.iaload, 1) := by decide +kernel
theorem dL_law_180 : decode cL_law 180 = .ok (.aload_n 0, 1) := by decide +kernel
theorem dL_law_181 : decode cL_law 181 = .ok (.iload_n 3, 1) := by decide +kernel
theorem dL_law_182 : decode cL_law 182 = .ok (.iconst 2, 1) := by decide +kernel
theorem dL_law_183 : decode cL_law 183 = .ok (.iadd, 1) := by decide +kernel
theorem dL_law_184 : decode cL_law 184 = .ok (.iaload, 1) := by decide +kernel
theorem dL_law_185 : decode cL_law 185 = .ok (.ifCond .eq 7, 3) := by decide +kernel
theorem dL_law_188 : decode cL_law 188 = .ok (.iconst 1, 1) := by decide +kernel
theorem dL_law_189 : decode cL_law 189 = .ok (.goto 4, 3) := by decide +kernel
theorem dL_law_192 : decode cL_law 192 = .ok (.iconst 0, 1) := by decide +kernel
theorem dL_law_193 : decode cL_law 193 = .ok (.invokevirtual 27, 3) := by decide +kernel
theorem dL_law_196 : decode cL_law 196 = .ok (.if_icmp .eq 354, 3) := by decide +kernel
theorem dL_law_199 : decode cL_law 199 = .ok (.iconst 0, 1) := by decide +kernel
theorem dL_law_200 : decode cL_law 200 = .ok (.ireturn, 1) := by decide +kernel
theorem dL_law_201 : decode cL_law 201 = .ok (.aload_n 1, 1) := by decide +kernel
theorem dL_law_202 : decode cL_law 202 = .ok (.aload_n 0, 1) := by decide +kernel
theorem dL_law_203 : decode cL_law 203 = .ok (.iload_n 3, 1) := by decide +kernel
theorem dL_law_204 : decode cL_law 204 = .ok (.iconst 1, 1) := by decide +kernel
theorem dL_law_205 : decode cL_law 205 = .ok (.iadd, 1) := by decide +kernel
theorem dL_law_206 : decode cL_law 206 = .ok (.iaload, 1) := by decide +kernel
theorem dL_law_207 : decode cL_law 207 = .ok (.aload_n 0, 1) := by decide +kernel
theorem dL_law_208 : decode cL_law 208 = .ok (.iload_n 3, 1) := by decide +kernel
theorem dL_law_209 : decode cL_law 209 = .ok (.iconst 2, 1) := by decide +kernel
theorem dL_law_210 : decode cL_law 210 = .ok (.iadd, 1) := by decide +kernel
theorem dL_law_211 : decode cL_law 211 = .ok (.iaload, 1) := by decide +kernel
theorem dL_law_212 : decode cL_law 212 = .ok (.aload_n 0, 1) := by decide +kernel
theorem dL_law_213 : decode cL_law 213 = .ok (.iload_n 3, 1) := by decide +kernel
theorem dL_law_214 : decode cL_law 214 = .ok (.iconst 3, 1) := by decide +kernel
theorem dL_law_215 : decode cL_law 215 = .ok (.iadd, 1) := by decide +kernel
theorem dL_law_216 : decode cL_law 216 = .ok (.iaload, 1) := by decide +kernel
theorem dL_law_217 : decode cL_law 217 = .ok (.invokevirtual 28, 3) := by decide +kernel
theorem dL_law_220 : decode cL_law 220 = .ok (.aload_n 2, 1) := by decide +kernel
theorem dL_law_221 : decode cL_law 221 = .ok (.aload_n 0, 1) := by decide +kernel
theorem dL_law_222 : decode cL_law 222 = .ok (.iload_n 3, 1) := by decide +kernel
theorem dL_law_223 : decode cL_law 223 = .ok (.iconst 1, 1) := by decide +kernel
theorem dL_law_224 : decode cL_law 224 = .ok (.iadd, 1) := by decide +kernel
theorem dL_law_225 : decode cL_law 225 = .ok (.iaload, 1) := by decide +kernel
theorem dL_law_226 : decode cL_law 226 = .ok (.aload_n 0, 1) := by decide +kernel
theorem dL_law_227 : decode cL_law 227 = .ok (.iload_n 3, 1) := by decide +kernel
theorem dL_law_228 : decode cL_law 228 = .ok (.iconst 2, 1) := by decide +kernel
theorem dL_law_229 : decode cL_law 229 = .ok (.iadd, 1) := by decide +kernel
theorem dL_law_230 : decode cL_law 230 = .ok (.iaload, 1) := by decide +kernel
theorem dL_law_231 : decode cL_law 231 = .ok (.aload_n 0, 1) := by decide +kernel
theorem dL_law_232 : decode cL_law 232 = .ok (.iload_n 3, 1) := by decide +kernel
theorem dL_law_233 : decode cL_law 233 = .ok (.iconst 3, 1) := by decide +kernel
theorem dL_law_234 : decode cL_law 234 = .ok (.iadd, 1) := by decide +kernel
theorem dL_law_235 : decode cL_law 235 = .ok (.iaload, 1) := by decide +kernel
theorem dL_law_236 : decode cL_law 236 = .ok (.invokevirtual 32, 3) := by decide +kernel
theorem dL_law_239 : decode cL_law 239 = .ok (.if_icmp .eq 311, 3) := by decide +kernel
theorem dL_law_242 : decode cL_law 242 = .ok (.iconst 0, 1) := by decide +kernel
theorem dL_law_243 : decode cL_law 243 = .ok (.ireturn, 1) := by decide +kernel
theorem dL_law_244 : decode cL_law 244 = .ok (.aload_n 1, 1) := by decide +kernel
theorem dL_law_245 : decode cL_law 245 = .ok (.aload_n 0, 1) := by decide +kernel
theorem dL_law_246 : decode cL_law 246 = .ok (.iload_n 3, 1) := by decide +kernel
theorem dL_law_247 : decode cL_law 247 = .ok (.iconst 1, 1) := by decide +kernel
theorem dL_law_248 : decode cL_law 248 = .ok (.iadd, 1) := by decide +kernel
theorem dL_law_249 : decode cL_law 249 = .ok (.iaload, 1) := by decide +kernel
theorem dL_law_250 : decode cL_law 250 = .ok (.aload_n 0, 1) := by decide +kernel
theorem dL_law_251 : decode cL_law 251 = .ok (.iload_n 3, 1) := by decide +kernel
theorem dL_law_252 : decode cL_law 252 = .ok (.iconst 2, 1) := by decide +kernel
theorem dL_law_253 : decode cL_law 253 = .ok (.iadd, 1) := by decide +kernel
theorem dL_law_254 : decode cL_law 254 = .ok (.iaload, 1) := by decide +kernel
theorem dL_law_255 : decode cL_law 255 = .ok (.invokevirtual 33, 3) := by decide +kernel
theorem dL_law_258 : decode cL_law 258 = .ok (.aload_n 2, 1) := by decide +kernel
theorem dL_law_259 : decode cL_law 259 = .ok (.aload_n 0, 1) := by decide +kernel
theorem dL_law_260 : decode cL_law 260 = .ok (.iload_n 3, 1) := by decide +kernel
theorem dL_law_261 : decode cL_law 261 = .ok (.iconst 1, 1) := by decide +kernel
theorem dL_law_262 : decode cL_law 262 = .ok (.iadd, 1) := by decide +kernel
theorem dL_law_263 : decode cL_law 263 = .ok (.iaload, 1) := by decide +kernel
theorem dL_law_264 : decode cL_law 264 = .ok (.aload_n 0, 1) := by decide +kernel
theorem dL_law_265 : decode cL_law 265 = .ok (.iload_n 3, 1) := by decide +kernel
theorem dL_law_266 : decode cL_law 266 = .ok (.iconst 2, 1) := by decide +kernel
theorem dL_law_267 : decode cL_law 267 = .ok (.iadd, 1) := by decide +kernel
theorem dL_law_268 : decode cL_law 268 = .ok (.iaload, 1) := by decide +kernel
theorem dL_law_269 : decode cL_law 269 = .ok (.invokevirtual 36, 3) := by decide +kernel
theorem dL_law_272 : decode cL_law 272 = .ok (.if_icmp .eq 278, 3) := by decide +kernel
theorem dL_law_275 : decode cL_law 275 = .ok (.iconst 0, 1) := by decide +kernel
theorem dL_law_276 : decode cL_law 276 = .ok (.ireturn, 1) := by decide +kernel
theorem dL_law_277 : decode cL_law 277 = .ok (.aload_n 1, 1) := by decide +kernel
theorem dL_law_278 : decode cL_law 278 = .ok (.aload_n 0, 1) := by decide +kernel
theorem dL_law_279 : decode cL_law 279 = .ok (.iload_n 3, 1) := by decide +kernel
theorem dL_law_280 : decode cL_law 280 = .ok (.iconst 1, 1) := by decide +kernel
theorem dL_law_281 : decode cL_law 281 = .ok (.iadd, 1) := by decide +kernel
theorem dL_law_282 : decode cL_law 282 = .ok (.iaload, 1) := by decide +kernel
theorem dL_law_283 : decode cL_law 283 = .ok (.aload_n 0, 1) := by decide +kernel
theorem dL_law_284 : decode cL_law 284 = .ok (.iload_n 3, 1) := by decide +kernel
theorem dL_law_285 : decode cL_law 285 = .ok (.iconst 2, 1) := by decide +kernel
theorem dL_law_286 : decode cL_law 286 = .ok (.iadd, 1) := by decide +kernel
theorem dL_law_287 : decode cL_law 287 = .ok (.iaload, 1) := by decide +kernel
theorem dL_law_288 : decode cL_law 288 = .ok (.aload_n 0, 1) := by decide +kernel
theorem dL_law_289 : decode cL_law 289 = .ok (.iload_n 3, 1) := by decide +kernel
theorem dL_law_290 : decode cL_law 290 = .ok (.iconst 3, 1) := by decide +kernel
theorem dL_law_291 : decode cL_law 291 = .ok (.iadd, 1) := by decide +kernel
theorem dL_law_292 : decode cL_law 292 = .ok (.iaload, 1) := by decide +kernel
theorem dL_law_293 : decode cL_law 293 = .ok (.aload_n 0, 1) := by decide +kernel
theorem dL_law_294 : decode cL_law 294 = .ok (.iload_n 3, 1) := by decide +kernel
theorem dL_law_295 : decode cL_law 295 = .ok (.iconst 4, 1) := by decide +kernel
theorem dL_law_296 : decode cL_law 296 = .ok (.iadd, 1) := by decide +kernel
theorem dL_law_297 : decode cL_law 297 = .ok (.iaload, 1) := by decide +kernel
theorem dL_law_298 : decode cL_law 298 = .ok (.ifCond .eq 7, 3) := by decide +kernel
theorem dL_law_301 : decode cL_law 301 = .ok (.iconst 1, 1) := by decide +kernel
theorem dL_law_302 : decode cL_law 302 = .ok (.goto 4, 3) := by decide +kernel
theorem dL_law_305 : decode cL_law 305 = .ok (.iconst 0, 1) := by decide +kernel
theorem dL_law_306 : decode cL_law 306 = .ok (.invokevirtual 37, 3) := by decide +kernel
theorem dL_law_309 : decode cL_law 309 = .ok (.aload_n 2, 1) := by decide +kernel
theorem dL_law_310 : decode cL_law 310 = .ok (.aload_n 0, 1) := by decide +kernel
theorem dL_law_311 : decode cL_law 311 = .ok (.iload_n 3, 1) := by decide +kernel
theorem dL_law_312 : decode cL_law 312 = .ok (.iconst 1, 1) := by decide +kernel
theorem dL_law_313 : decode cL_law 313 = .ok (.iadd, 1) := by decide +kernel
theorem dL_law_314 : decode cL_law 314 = .ok (.iaload, 1) := by decide +kernel
theorem dL_law_315 : decode cL_law 315 = .ok (.aload_n 0, 1) := by decide +kernel
theorem dL_law_316 : decode cL_law 316 = .ok (.iload_n 3, 1) := by decide +kernel
theorem dL_law_317 : decode cL_law 317 = .ok (.iconst 2, 1) := by decide +kernel
theorem dL_law_318 : decode cL_law 318 = .ok (.iadd, 1) := by decide +kernel
theorem dL_law_319 : decode cL_law 319 = .ok (.iaload, 1) := by decide +kernel
theorem dL_law_320 : decode cL_law 320 = .ok (.aload_n 0, 1) := by decide +kernel
theorem dL_law_321 : decode cL_law 321 = .ok (.iload_n 3, 1) := by decide +kernel
theorem dL_law_322 : decode cL_law 322 = .ok (.iconst 3, 1) := by decide +kernel
theorem dL_law_323 : decode cL_law 323 = .ok (.iadd, 1) := by decide +kernel
theorem dL_law_324 : decode cL_law 324 = .ok (.iaload, 1) := by decide +kernel
theorem dL_law_325 : decode cL_law 325 = .ok (.aload_n 0, 1) := by decide +kernel
theorem dL_law_326 : decode cL_law 326 = .ok (.iload_n 3, 1) := by decide +kernel
theorem dL_law_327 : decode cL_law 327 = .ok (.iconst 4, 1) := by decide +kernel
theorem dL_law_328 : decode cL_law 328 = .ok (.iadd, 1) := by decide +kernel
theorem dL_law_329 : decode cL_law 329 = .ok (.iaload, 1) := by decide +kernel
theorem dL_law_330 : decode cL_law 330 = .ok (.ifCond .eq 7, 3) := by decide +kernel
theorem dL_law_333 : decode cL_law 333 = .ok (.iconst 1, 1) := by decide +kernel
theorem dL_law_334 : decode cL_law 334 = .ok (.goto 4, 3) := by decide +kernel
theorem dL_law_337 : decode cL_law 337 = .ok (.iconst 0, 1) := by decide +kernel
theorem dL_law_338 : decode cL_law 338 = .ok (.invokevirtual 41, 3) := by decide +kernel
theorem dL_law_341 : decode cL_law 341 = .ok (.if_icmp .eq 209, 3) := by decide +kernel
theorem dL_law_344 : decode cL_law 344 = .ok (.iconst 0, 1) := by decide +kernel
theorem dL_law_345 : decode cL_law 345 = .ok (.ireturn, 1) := by decide +kernel
theorem dL_law_346 : decode cL_law 346 = .ok (.aload_n 1, 1) := by decide +kernel
theorem dL_law_347 : decode cL_law 347 = .ok (.aload_n 0, 1) := by decide +kernel
theorem dL_law_348 : decode cL_law 348 = .ok (.iload_n 3, 1) := by decide +kernel
theorem dL_law_349 : decode cL_law 349 = .ok (.iconst 1, 1) := by decide +kernel
theorem dL_law_350 : decode cL_law 350 = .ok (.iadd, 1) := by decide +kernel
theorem dL_law_351 : decode cL_law 351 = .ok (.iaload, 1) := by decide +kernel
theorem dL_law_352 : decode cL_law 352 = .ok (.aload_n 0, 1) := by decide +kernel
theorem dL_law_353 : decode cL_law 353 = .ok (.iload_n 3, 1) := by decide +kernel
theorem dL_law_354 : decode cL_law 354 = .ok (.iconst 2, 1) := by decide +kernel
theorem dL_law_355 : decode cL_law 355 = .ok (.iadd, 1) := by decide +kernel
theorem dL_law_356 : decode cL_law 356 = .ok (.iaload, 1) := by decide +kernel
theorem dL_law_357 : decode cL_law 357 = .ok (.aload_n 0, 1) := by decide +kernel
theorem dL_law_358 : decode cL_law 358 = .ok (.iload_n 3, 1) := by decide +kernel
theorem dL_law_359 : decode cL_law 359 = .ok (.iconst 3, 1) := by decide +kernel
theorem dL_law_360 : decode cL_law 360 = .ok (.iadd, 1) := by decide +kernel
theorem dL_law_361 : decode cL_law 361 = .ok (.iaload, 1) := by decide +kernel
theorem dL_law_362 : decode cL_law 362 = .ok (.ifCond .eq 7, 3) := by decide +kernel
theorem dL_law_365 : decode cL_law 365 = .ok (.iconst 1, 1) := by decide +kernel
theorem dL_law_366 : decode cL_law 366 = .ok (.goto 4, 3) := by decide +kernel
theorem dL_law_369 : decode cL_law 369 = .ok (.iconst 0, 1) := by decide +kernel
theorem dL_law_370 : decode cL_law 370 = .ok (.invokevirtual 42, 3) := by decide +kernel
theorem dL_law_373 : decode cL_law 373 = .ok (.aload_n 2, 1) := by decide +kernel
theorem dL_law_374 : decode cL_law 374 = .ok (.aload_n 0, 1) := by decide +kernel
theorem dL_law_375 : decode cL_law 375 = .ok (.iload_n 3, 1) := by decide +kernel
theorem dL_law_376 : decode cL_law 376 = .ok (.iconst 1, 1) := by decide +kernel
theorem dL_law_377 : decode cL_law 377 = .ok (.iadd, 1) := by decide +kernel
theorem dL_law_378 : decode cL_law 378 = .ok (.iaload, 1) := by decide +kernel
theorem dL_law_379 : decode cL_law 379 = .ok (.aload_n 0, 1) := by decide +kernel
theorem dL_law_380 : decode cL_law 380 = .ok (.iload_n 3, 1) := by decide +kernel
theorem dL_law_381 : decode cL_law 381 = .ok (.iconst 2, 1) := by decide +kernel
theorem dL_law_382 : decode cL_law 382 = .ok (.iadd, 1) := by decide +kernel
theorem dL_law_383 : decode cL_law 383 = .ok (.iaload, 1) := by decide +kernel
theorem dL_law_384 : decode cL_law 384 = .ok (.aload_n 0, 1) := by decide +kernel
theorem dL_law_385 : decode cL_law 385 = .ok (.iload_n 3, 1) := by decide +kernel
theorem dL_law_386 : decode cL_law 386 = .ok (.iconst 3, 1) := by decide +kernel
theorem dL_law_387 : decode cL_law 387 = .ok (.iadd, 1) := by decide +kernel
theorem dL_law_388 : decode cL_law 388 = .ok (.iaload, 1) := by decide +kernel
theorem dL_law_389 : decode cL_law 389 = .ok (.ifCond .eq 7, 3) := by decide +kernel
theorem dL_law_392 : decode cL_law 392 = .ok (.iconst 1, 1) := by decide +kernel
theorem dL_law_393 : decode cL_law 393 = .ok (.goto 4, 3) := by decide +kernel
theorem dL_law_396 : decode cL_law 396 = .ok (.iconst 0, 1) := by decide +kernel
theorem dL_law_397 : decode cL_law 397 = .ok (.invokevirtual 46, 3) := by decide +kernel
theorem dL_law_400 : decode cL_law 400 = .ok (.if_icmp .eq 150, 3) := by decide +kernel
theorem dL_law_403 : decode cL_law 403 = .ok (.iconst 0, 1) := by decide +kernel
theorem dL_law_404 : decode cL_law 404 = .ok (.ireturn, 1) := by decide +kernel
theorem dL_law_405 : decode cL_law 405 = .ok (.aload_n 1, 1) := by decide +kernel
theorem dL_law_406 : decode cL_law 406 = .ok (.aload_n 0, 1) := by decide +kernel
theorem dL_law_407 : decode cL_law 407 = .ok (.iload_n 3, 1) := by decide +kernel
theorem dL_law_408 : decode cL_law 408 = .ok (.iconst 1, 1) := by decide +kernel
theorem dL_law_409 : decode cL_law 409 = .ok (.iadd, 1) := by decide +kernel
theorem dL_law_410 : decode cL_law 410 = .ok (.iaload, 1) := by decide +kernel
theorem dL_law_411 : decode cL_law 411 = .ok (.aload_n 0, 1) := by decide +kernel
theorem dL_law_412 : decode cL_law 412 = .ok (.iload_n 3, 1) := by decide +kernel
theorem dL_law_413 : decode cL_law 413 = .ok (.iconst 2, 1) := by decide +kernel
theorem dL_law_414 : decode cL_law 414 = .ok (.iadd, 1) := by decide +kernel
theorem dL_law_415 : decode cL_law 415 = .ok (.iaload, 1) := by decide +kernel
theorem dL_law_416 : decode cL_law 416 = .ok (.aload_n 0, 1) := by decide +kernel
theorem dL_law_417 : decode cL_law 417 = .ok (.iload_n 3, 1) := by decide +kernel
theorem dL_law_418 : decode cL_law 418 = .ok (.iconst 3, 1) := by decide +kernel
theorem dL_law_419 : decode cL_law 419 = .ok (.iadd, 1) := by decide +kernel
theorem dL_law_420 : decode cL_law 420 = .ok (.iaload, 1) := by decide +kernel
theorem dL_law_421 : decode cL_law 421 = .ok (.invokevirtual 47, 3) := by decide +kernel
theorem dL_law_424 : decode cL_law 424 = .ok (.aload_n 2, 1) := by decide +kernel
theorem dL_law_425 : decode cL_law 425 = .ok (.aload_n 0, 1) := by decide +kernel
theorem dL_law_426 : decode cL_law 426 = .ok (.iload_n 3, 1) := by decide +kernel
theorem dL_law_427 : decode cL_law 427 = .ok (.iconst 1, 1) := by decide +kernel
theorem dL_law_428 : decode cL_law 428 = .ok (.iadd, 1) := by decide +kernel
theorem dL_law_429 : decode cL_law 429 = .ok (.iaload, 1) := by decide +kernel
theorem dL_law_430 : decode cL_law 430 = .ok (.aload_n 0, 1) := by decide +kernel
theorem dL_law_431 : decode cL_law 431 = .ok (.iload_n 3, 1) := by decide +kernel
theorem dL_law_432 : decode cL_law 432 = .ok (.iconst 2, 1) := by decide +kernel
theorem dL_law_433 : decode cL_law 433 = .ok (.iadd, 1) := by decide +kernel
theorem dL_law_434 : decode cL_law 434 = .ok (.iaload, 1) := by decide +kernel
theorem dL_law_435 : decode cL_law 435 = .ok (.aload_n 0, 1) := by decide +kernel
theorem dL_law_436 : decode cL_law 436 = .ok (.iload_n 3, 1) := by decide +kernel
theorem dL_law_437 : decode cL_law 437 = .ok (.iconst 3, 1) := by decide +kernel
theorem dL_law_438 : decode cL_law 438 = .ok (.iadd, 1) := by decide +kernel
theorem dL_law_439 : decode cL_law 439 = .ok (.iaload, 1) := by decide +kernel
theorem dL_law_440 : decode cL_law 440 = .ok (.invokevirtual 50, 3) := by decide +kernel
theorem dL_law_443 : decode cL_law 443 = .ok (.if_icmp .eq 107, 3) := by decide +kernel
theorem dL_law_446 : decode cL_law 446 = .ok (.iconst 0, 1) := by decide +kernel
theorem dL_law_447 : decode cL_law 447 = .ok (.ireturn, 1) := by decide +kernel
theorem dL_law_448 : decode cL_law 448 = .ok (.aload_n 1, 1) := by decide +kernel
theorem dL_law_449 : decode cL_law 449 = .ok (.aload_n 0, 1) := by decide +kernel
theorem dL_law_450 : decode cL_law 450 = .ok (.iload_n 3, 1) := by decide +kernel
theorem dL_law_451 : decode cL_law 451 = .ok (.iconst 1, 1) := by decide +kernel
theorem dL_law_452 : decode cL_law 452 = .ok (.iadd, 1) := by decide +kernel
theorem dL_law_453 : decode cL_law 453 = .ok (.iaload, 1) := by decide +kernel
theorem dL_law_454 : decode cL_law 454 = .ok (.invokevirtual 51, 3) := by decide +kernel
theorem dL_law_457 : decode cL_law 457 = .ok (.aload_n 2, 1) := by decide +kernel
theorem dL_law_458 : decode cL_law 458 = .ok (.aload_n 0, 1) := by decide +kernel
theorem dL_law_459 : decode cL_law 459 = .ok (.iload_n 3, 1) := by decide +kernel
theorem dL_law_460 : decode cL_law 460 = .ok (.iconst 1, 1) := by decide +kernel
theorem dL_law_461 : decode cL_law 461 = .ok (.iadd, 1) := by decide +kernel
theorem dL_law_462 : decode cL_law 462 = .ok (.iaload, 1) := by decide +kernel
theorem dL_law_463 : decode cL_law 463 = .ok (.invokevirtual 54, 3) := by decide +kernel
theorem dL_law_466 : decode cL_law 466 = .ok (.if_icmp .eq 84, 3) := by decide +kernel
theorem dL_law_469 : decode cL_law 469 = .ok (.iconst 0, 1) := by decide +kernel
theorem dL_law_470 : decode cL_law 470 = .ok (.ireturn, 1) := by decide +kernel
theorem dL_law_471 : decode cL_law 471 = .ok (.aload_n 1, 1) := by decide +kernel
theorem dL_law_472 : decode cL_law 472 = .ok (.aload_n 0, 1) := by decide +kernel
theorem dL_law_473 : decode cL_law 473 = .ok (.iload_n 3, 1) := by decide +kernel
theorem dL_law_474 : decode cL_law 474 = .ok (.iconst 1, 1) := by decide +kernel
theorem dL_law_475 : decode cL_law 475 = .ok (.iadd, 1) := by decide +kernel
theorem dL_law_476 : decode cL_law 476 = .ok (.iaload, 1) := by decide +kernel
theorem dL_law_477 : decode cL_law 477 = .ok (.aload_n 0, 1) := by decide +kernel
theorem dL_law_478 : decode cL_law 478 = .ok (.iload_n 3, 1) := by decide +kernel
theorem dL_law_479 : decode cL_law 479 = .ok (.iconst 2, 1) := by decide +kernel
theorem dL_law_480 : decode cL_law 480 = .ok (.iadd, 1) := by decide +kernel
theorem dL_law_481 : decode cL_law 481 = .ok (.iaload, 1) := by decide +kernel
theorem dL_law_482 : decode cL_law 482 = .ok (.invokevirtual 55, 3) := by decide +kernel
theorem dL_law_485 : decode cL_law 485 = .ok (.aload_n 2, 1) := by decide +kernel
theorem dL_law_486 : decode cL_law 486 = .ok (.aload_n 0, 1) := by decide +kernel
theorem dL_law_487 : decode cL_law 487 = .ok (.iload_n 3, 1) := by decide +kernel
theorem dL_law_488 : decode cL_law 488 = .ok (.iconst 1, 1) := by decide +kernel
theorem dL_law_489 : decode cL_law 489 = .ok (.iadd, 1) := by decide +kernel
theorem dL_law_490 : decode cL_law 490 = .ok (.iaload, 1) := by decide +kernel
theorem dL_law_491 : decode cL_law 491 = .ok (.aload_n 0, 1) := by decide +kernel
theorem dL_law_492 : decode cL_law 492 = .ok (.iload_n 3, 1) := by decide +kernel
theorem dL_law_493 : decode cL_law 493 = .ok (.iconst 2, 1) := by decide +kernel
theorem dL_law_494 : decode cL_law 494 = .ok (.iadd, 1) := by decide +kernel
theorem dL_law_495 : decode cL_law 495 = .ok (.iaload, 1) := by decide +kernel
theorem dL_law_496 : decode cL_law 496 = .ok (.invokevirtual 58, 3) := by decide +kernel
theorem dL_law_499 : decode cL_law 499 = .ok (.if_icmp .eq 51, 3) := by decide +kernel
theorem dL_law_502 : decode cL_law 502 = .ok (.iconst 0, 1) := by decide +kernel
theorem dL_law_503 : decode cL_law 503 = .ok (.ireturn, 1) := by decide +kernel
theorem dL_law_504 : decode cL_law 504 = .ok (.aload_n 1, 1) := by decide +kernel
theorem dL_law_505 : decode cL_law 505 = .ok (.aload_n 0, 1) := by decide +kernel
theorem dL_law_506 : decode cL_law 506 = .ok (.iload_n 3, 1) := by decide +kernel
theorem dL_law_507 : decode cL_law 507 = .ok (.iconst 1, 1) := by decide +kernel
theorem dL_law_508 : decode cL_law 508 = .ok (.iadd, 1) := by decide +kernel
theorem dL_law_509 : decode cL_law 509 = .ok (.iaload, 1) := by decide +kernel
theorem dL_law_510 : decode cL_law 510 = .ok (.invokevirtual 59, 3) := by decide +kernel
theorem dL_law_513 : decode cL_law 513 = .ok (.aload_n 2, 1) := by decide +kernel
theorem dL_law_514 : decode cL_law 514 = .ok (.aload_n 0, 1) := by decide +kernel
theorem dL_law_515 : decode cL_law 515 = .ok (.iload_n 3, 1) := by decide +kernel
theorem dL_law_516 : decode cL_law 516 = .ok (.iconst 1, 1) := by decide +kernel
theorem dL_law_517 : decode cL_law 517 = .ok (.iadd, 1) := by decide +kernel
theorem dL_law_518 : decode cL_law 518 = .ok (.iaload, 1) := by decide +kernel
theorem dL_law_519 : decode cL_law 519 = .ok (.invokevirtual 62, 3) := by decide +kernel
theorem dL_law_522 : decode cL_law 522 = .ok (.if_icmp .eq 28, 3) := by decide +kernel
theorem dL_law_525 : decode cL_law 525 = .ok (.iconst 0, 1) := by decide +kernel
theorem dL_law_526 : decode cL_law 526 = .ok (.ireturn, 1) := by decide +kernel
theorem dL_law_527 : decode cL_law 527 = .ok (.aload_n 1, 1) := by decide +kernel
theorem dL_law_528 : decode cL_law 528 = .ok (.aload_n 0, 1) := by decide +kernel
theorem dL_law_529 : decode cL_law 529 = .ok (.iload_n 3, 1) := by decide +kernel
theorem dL_law_530 : decode cL_law 530 = .ok (.iconst 1, 1) := by decide +kernel
theorem dL_law_531 : decode cL_law 531 = .ok (.iadd, 1) := by decide +kernel
theorem dL_law_532 : decode cL_law 532 = .ok (.iaload, 1) := by decide +kernel
theorem dL_law_533 : decode cL_law 533 = .ok (.invokevirtual 63, 3) := by decide +kernel
theorem dL_law_536 : decode cL_law 536 = .ok (.aload_n 2, 1) := by decide +kernel
theorem dL_law_537 : decode cL_law 537 = .ok (.aload_n 0, 1) := by decide +kernel
theorem dL_law_538 : decode cL_law 538 = .ok (.iload_n 3, 1) := by decide +kernel
theorem dL_law_539 : decode cL_law 539 = .ok (.iconst 1, 1) := by decide +kernel
theorem dL_law_540 : decode cL_law 540 = .ok (.iadd, 1) := by decide +kernel
theorem dL_law_541 : decode cL_law 541 = .ok (.iaload, 1) := by decide +kernel
theorem dL_law_542 : decode cL_law 542 = .ok (.invokevirtual 66, 3) := by decide +kernel
theorem dL_law_545 : decode cL_law 545 = .ok (.if_icmp .eq 5, 3) := by decide +kernel
theorem dL_law_548 : decode cL_law 548 = .ok (.iconst 0, 1) := by decide +kernel
theorem dL_law_549 : decode cL_law 549 = .ok (.ireturn, 1) := by decide +kernel
theorem dL_law_550 : decode cL_law 550 = .ok (.iinc 3 5, 3) := by decide +kernel
theorem dL_law_553 : decode cL_law 553 = .ok (.goto (-535), 3) := by decide +kernel
theorem dL_law_556 : decode cL_law 556 = .ok (.iconst 1, 1) := by decide +kernel
theorem dL_law_557 : decode cL_law 557 = .ok (.ireturn, 1) := by decide +kernel
end
section
/-! the words that every contract here takes: the good words of the tables -/
def gtbl : List Cond := lw_tbl.filter goodWord
theorem gm {w : Cond} (h : w ∈ lw_tbl) (hg : goodWord w = true) : w ∈ gtbl := List.mem_filter.mpr ⟨h, hg⟩
theorem gg_1 {c1 : Cond} (h : c1 ∈ gtbl) : GoodIn gtbl (c1 :: gtbl) := fun w hw => by
  rcases List.mem_cons.mp hw with rfl | hw
  · exact ⟨h, good_of_word (List.mem_filter.mp h).2⟩
  · exact ⟨hw, good_of_word (List.mem_filter.mp hw).2⟩
/-! numbers: a memory of rows of ints; a truth value as 0 or 1 -/
abbrev St : Type := Nat → Nat → Int32
def up (σ : St) (r k : Nat) (v : Int32) : St := fun r' k' => if r' = r ∧ k' = k then v else σ r' k'
def bz (x : Int32) : Int32 := if x = 0 then 0 else 1
theorem bz_0 : bz 0 = 0 := by decide +kernel
theorem bz_1 : bz 1 = 1 := by decide +kernel
theorem bz_c (x : Int32) : bz x = 0 ∨ bz x = 1 := by unfold bz; split <;> simp
theorem bz_eq0 {x : Int32} : bz x = 0 ↔ x = 0 := by
  unfold bz
  split
  · rename_i h; simp [h]
  · rename_i h
    exact ⟨fun q => absurd q (by decide), fun q => absurd q h⟩
theorem bz_bz (x : Int32) : bz (bz x) = bz x := by rcases bz_c x with h | h <;> rw [h] <;> decide +kernel
theorem bz_nar (x : Int32) : narrow .boolean (.int (bz x)) = .int (bz x) := by rcases bz_c x with h | h <;> rw [h] <;> rfl
theorem bz_fit (x : Int32) : fits .boolean (.int (bz x)) = true := by rcases bz_c x with h | h <;> rw [h] <;> rfl
theorem bz_vp (x : Int32) : vp_nar .boolean (bz x) = bz x := by rcases bz_c x with h | h <;> rw [h] <;> rfl
abbrev tn (x : Int32) : Nat := x.toNatClampNeg
def wof (k : Nat) : Int32 := match k with
  | 0 => 1
  | 1 => 2
  | 2 => 5
  | 3 => 10
  | _ => 20
/-! the world: one table of cells, at addresses that are a variable -/
abbrev EV : Type := va_G × (Nat → Nat) × (Nat → ClassId) × Nat × (Nat → Prop) × Nat
def eD (E : EV) : va_G := E.1
def ea (E : EV) : Nat → Nat := E.2.1
def ek (E : EV) : Nat → ClassId := E.2.2.1
def en (E : EV) : Nat := E.2.2.2.1
def eA (E : EV) : Nat → Prop := E.2.2.2.2.1
def ez (E : EV) : Nat := E.2.2.2.2.2
def etys (E : EV) : List (ClassId × FieldType) := [(ek E 0, .int), (ek E 1, .boolean), (ek E 2, .object "TillHolds$Till"), (ek E 3, .object "TillHolds$Coins")]
def v0 (E : EV) (σ : St) (i : Nat) : va_E := match i with
  | 0 => .inr (3, [.ref (ea E 1), .ref (ea E 21), .ref (ea E 2), .ref (ea E 22), .ref (ea E 23), .ref (ea E 3), .ref (ea E 4)])
  | 1 => .inl (ek E 2, 8, .inr (.inr (.inr (.inr (fun t => if t < 8 then some (ea E (5 + t)) else none)))))
  | 2 => .inr (1, [.int (σ 20 0), .int (σ 20 1), .int (σ 20 2), .int (σ 20 3)])
  | 3 => .inl (ek E 3, 6, .inr (.inr (.inr (.inr (fun t => if t < 6 then some (ea E (24 + t)) else none)))))
  | _ => .inl (ek E 0, 6, .inl (σ 21))
def v1 (E : EV) (σ : St) (t : Nat) : va_E := .inr (2, [.ref (ea E (13 + t)), .int (bz (σ 17 t)), .int (bz (σ 18 t)), .int (σ 19 t)])
def v2 (E : EV) (j : Nat) : va_E := .inr (0, [.ref (ea E (30 + j))])
def v3 (E : EV) (σ : St) (j : Nat) : va_E := .inl (ek E 0, 5, .inl (σ j))
def v4 (E : EV) (μ : St) (i : Nat) : va_E := match i with
  | 0 => .inr (4, [.int (μ 0 0), .ref (ea E 48), .ref (ea E 49), .ref (ea E 50), .ref (ea E 51), .int (μ 0 1), .int (μ 0 2), .int (μ 0 3), .int (μ 0 4), .ref (ea E 52), .ref (ea E 53)])
  | 1 => .inl (ek E 1, 8, .inl (fun t => bz (μ 1 t)))
  | 2 => .inl (ek E 1, 8, .inl (fun t => bz (μ 2 t)))
  | 3 => .inl (ek E 0, 8, .inl (μ 3))
  | 4 => .inl (ek E 0, 45, .inl (μ 4))
  | 5 => .inl (ek E 0, 5, .inl (μ 5))
  | 6 => .inl (ek E 0, 35, .inl (μ 6))
  | 7 => .inl (ek E 0, 5, .inl (μ 7))
  | _ => .inl (ek E 0, 0, .inl (fun _ => 0))
def vv (E : EV) (σ μ : St) (i : Nat) : va_E :=
  if i < 5 then v0 E σ i else if i < 13 then v1 E σ (i - 5) else if i < 30 then v2 E (i - 13) else if i < 47 then v3 E σ (i - 30) else v4 E μ (i - 47)
theorem vv0 {E : EV} {σ μ : St} {i : Nat} (h : i < 5) : vv E σ μ i = v0 E σ i := by simp only [vv, if_pos h]
theorem vv1 {E : EV} {σ μ : St} {t : Nat} (h : t < 8) : vv E σ μ (5 + t) = v1 E σ t := by
  rw [vv, if_neg (by omega), if_pos (by omega), Nat.add_sub_cancel_left]
theorem vv2 {E : EV} {σ μ : St} {t : Nat} (h : t < 17) : vv E σ μ (13 + t) = v2 E t := by
  rw [vv, if_neg (by omega), if_neg (by omega), if_pos (by omega), Nat.add_sub_cancel_left]
theorem vv3 {E : EV} {σ μ : St} {t : Nat} (h : t < 17) : vv E σ μ (30 + t) = v3 E σ t := by
  rw [vv, if_neg (by omega), if_neg (by omega), if_neg (by omega), if_pos (by omega), Nat.add_sub_cancel_left]
theorem vv4 {E : EV} {σ μ : St} (t : Nat) : vv E σ μ (47 + t) = v4 E μ t := by
  rw [vv, if_neg (by omega), if_neg (by omega), if_neg (by omega), if_neg (by omega), Nat.add_sub_cancel_left]
def cells (E : EV) (σ μ : St) : va_W := (List.range (en E)).map fun i => (ea E i, vv E σ μ i)
theorem cells_at {E : EV} {σ μ : St} {i : Nat} {v : va_E} (hi : i < en E) (hv : vv E σ μ i = v) : (cells E σ μ)[i]? = some (ea E i, v) := by
  simp [cells, hi, hv]
theorem cells_of {E : EV} {σ μ : St} {k : Nat} {q : Nat × va_E} (h : (cells E σ μ)[k]? = some q) : k < en E ∧ q = (ea E k, vv E σ μ k) := by
  have hk : k < en E := by
    have := (List.getElem?_eq_some_iff.mp h).1
    simpa [cells] using this
  refine ⟨hk, ?_⟩
  rw [cells_at hk rfl] at h
  exact (Option.some.inj h).symm
theorem cells_set {E : EV} {σ μ σ' μ' : St} {k : Nat} {v : va_E} (hk : vv E σ' μ' k = v) (ho : ∀ i, i ≠ k → vv E σ' μ' i = vv E σ μ i) : (cells E σ μ).set k (ea E k, v) = cells E σ' μ' := by
  apply List.ext_getElem?
  intro i
  rw [List.getElem?_set]
  by_cases hi : i < en E
  · by_cases hik : k = i
    · subst hik
      rw [if_pos rfl, if_pos (by simpa [cells] using hi), cells_at hi hk]
    · rw [if_neg hik, cells_at hi rfl, cells_at hi rfl, ho i (fun q => hik q.symm)]
  · have h1 : (cells E σ' μ')[i]? = none := by simp [cells]; omega
    have h2 : (cells E σ μ)[i]? = none := by simp [cells]; omega
    rw [h1, h2]
    by_cases hik : k = i
    · subst hik
      rw [if_pos rfl, if_neg (by simpa [cells] using hi)]
    · rw [if_neg hik]
def WD (E : EV) (σ μ : St) (H : Heap) : Prop := va_P (eD E) vwCl (cells E σ μ) H
def AD (E : EV) : Prop := (∀ i j : Nat, i < en E → j < en E → ea E i = ea E j → i = j) ∧ (∀ i : Nat, i < en E → eA E (ea E i)) ∧ 54 ≤ en E
theorem AD.d {E : EV} (h : AD E) (σ μ : St) : va_D (eA E) (cells E σ μ) := by
  refine ⟨fun i j p q hi hj e => ?_, fun k q hk => ?_⟩
  · obtain ⟨h1, rfl⟩ := cells_of hi
    obtain ⟨h2, rfl⟩ := cells_of hj
    exact h.1 i j h1 h2 e
  · obtain ⟨h1, rfl⟩ := cells_of hk
    exact h.2.1 k h1
def KS (E : EV) (U : State) : Prop := va_K (eD E) vwCl (etys E) U ∧ va_Nw (.methodLinkNest RX0 18 yX3_isKind "TillHolds") U ∧ va_Nw (.fieldLinkNest RX0 15 "TillHolds" "WORTHS" "[I" "TillHolds") U
theorem KS.warm {E : EV} {s U : State} (hW : s.WarmedH U.vm) (h : KS E s) : KS E U := ⟨va_K.moved hW.alike h.1, va_Nw.warmM hW h.2.1, va_Nw.warmF hW h.2.2⟩
def SZ (E : EV) (U : State) (H : Heap) : Prop := va_Z "TillHolds" "WORTHS" "[I" (.ref (ez E)) (eA E) U H ∧ va_X (ez E) 5 wof U H ∧ ¬ eA E (ez E)
theorem SZ.go {E : EV} {s U : State} {H : Heap} {locs : List Loc} (hW : s.vm.Alike U.vm) (hS : va_S (eA E) s.heap H locs) (h : SZ E s s.heap) : SZ E U H := by
  obtain ⟨h1, h2, h3⟩ := h
  refine ⟨va_Z.moved hW (va_Z.kept h1 (fun a ha hA => hS.2.1 a ha hA)), va_X.moved hW (va_X.kept h2 ?_), h3⟩
  obtain ⟨scr, g, -⟩ := h2
  exact hS.2.1 _ (Array.getElem?_eq_some_iff.mp g).1 h3
def PR (E : EV) (σ μ : St) (U : State) : Prop := KS E U ∧ SZ E U U.heap ∧ WD E σ μ U.heap ∧ ∀ q : Nat, U.heap.size ≤ q → eA E q
def HS (E : EV) (s : State) (σ μ : St) (H : Heap) (locs : List Loc) : Prop := WD E σ μ H ∧ va_S (eA E) s.heap H locs
def QI (E : EV) (r : Int32) (σ μ : St) : Array Value → State → Outcome → State → Prop := va_Qi (S := Unit) (fun r' _ => r' = r) (fun _ t => WD E σ μ t.heap) (eA E)
def QV (E : EV) (σ μ : St) : Array Value → State → Outcome → State → Prop := va_Qv (S := Unit) (fun _ => True) (fun _ t => WD E σ μ t.heap) (eA E)
/-- what stays fixed along a walk -/
def Fx (E : EV) (p : Program) (s : State) (m : MethodId) (args : Array Value) (c : Code) (cc : ByteArray) (own : String) (nL : Nat) : Prop :=
  p.tables.exec = Jvm.exec ∧ c.code = cc ∧ c.maxLocals = nL ∧ s.vm.findClass own = some m.cls ∧ (∀ w ∈ gtbl, w.before args s = true) ∧ KS E s ∧ SZ E s s.heap ∧ AD E ∧ (∀ q : Nat, s.heap.size ≤ q → eA E q)
section FXP
variable {E : EV} {p : Program} {s : State} {m : MethodId} {args : Array Value} {c : Code} {cc : ByteArray} {own : String} {nL : Nat}
theorem Fx.hx (F : Fx E p s m args c cc own nL) : p.tables.exec = Jvm.exec := F.1
theorem Fx.hb (F : Fx E p s m args c cc own nL) : c.code = cc := F.2.1
theorem Fx.hml (F : Fx E p s m args c cc own nL) : c.maxLocals = nL := F.2.2.1
theorem Fx.hown (F : Fx E p s m args c cc own nL) : s.vm.findClass own = some m.cls := F.2.2.2.1
theorem Fx.hts (F : Fx E p s m args c cc own nL) : ∀ w ∈ gtbl, w.before args s = true := F.2.2.2.2.1
theorem Fx.ks (F : Fx E p s m args c cc own nL) : KS E s := F.2.2.2.2.2.1
theorem Fx.hK (F : Fx E p s m args c cc own nL) : va_K (eD E) vwCl (etys E) s := F.2.2.2.2.2.1.1
theorem Fx.sz (F : Fx E p s m args c cc own nL) : SZ E s s.heap := F.2.2.2.2.2.2.1
theorem Fx.ad (F : Fx E p s m args c cc own nL) : AD E := F.2.2.2.2.2.2.2.1
theorem Fx.hA (F : Fx E p s m args c cc own nL) : ∀ q : Nat, s.heap.size ≤ q → eA E q := F.2.2.2.2.2.2.2.2
theorem Fx.lt (F : Fx E p s m args c cc own nL) {i : Nat} (h : i < 54) : i < en E := Nat.lt_of_lt_of_le h F.ad.2.2
theorem HS.pr {σ μ : St} {H : Heap} {locs : List Loc} {U : State} (F : Fx E p s m args c cc own nL) (hH : HS E s σ μ H locs) (hU : U.heap = H) (hW : s.WarmedH U.vm) : PR E σ μ U :=
  ⟨F.ks.warm hW, by rw [hU]; exact F.sz.go hW.alike hH.2, by rw [hU]; exact hH.1, fun q h => F.hA q (Nat.le_trans hH.2.1 (by rw [← hU]; exact h))⟩
end FXP
theorem PR.blind {E : EV} {σ μ : St} {vs : List Value} : FrameBlind (va_Pc vs (PR E σ μ)) := fun a U g mk h =>
  ⟨h.1, ⟨va_K.moved (u := U) (U := U.calling g mk a) (Vm.Alike.refl U.vm) h.2.1.1, va_Nw.same rfl (rfl : U.vm = (U.calling g mk a).vm) h.2.1.2.1, va_Nw.same rfl (rfl : U.vm = (U.calling g mk a).vm) h.2.1.2.2⟩,
    ⟨va_Z.moved (u := U) (U := U.calling g mk a) (Vm.Alike.refl U.vm) h.2.2.1.1, va_X.moved (u := U) (U := U.calling g mk a) (Vm.Alike.refl U.vm) h.2.2.1.2.1, h.2.2.1.2.2⟩, h.2.2.2.1, h.2.2.2.2⟩
/-- a contract out of a walk -/
theorem x_met {l : Launch} {E : EV} {σ μ : St} {y : MethodName} {cc : ByteArray} {maxL : Nat} {ret : Option FieldType} {rm : Room} {vs : List Value} {Qc : Array Value → State → Outcome → State → Prop} {mc ms : Nat} {own : String} (hy : plainName y.cls = true) (hyo : y.cls = own) (hA : AD E) (hlen : (lg_sl vs).length ≤ maxL)
    (body : ∀ (p : Program) (e : Env) (s : State) (m : MethodId) (below : List Frame) (meth : Method) (c : Code) (ls : Array Slot), Fx E p s m vs.toArray c cc own maxL → meth.sig.returnType = ret → meth.locks = false → HS E s σ μ s.heap [] → lv_has ls maxL (lv_args 0 vs) →
      W p l e rm s m vs.toArray below meth c s.heap [] 0 0 (MQ below Qc vs.toArray s mc ms (eA E)) (F0 m 0 ls [])) :
    Met l y (.code y cc maxL ret :: gtbl) rm (va_Pc vs (PR E σ μ)) Qc mc ms (eA E) := by
  refine Met.ofW (cc := cc) (maxL := maxL) (ret := ret) hy rfl ?_
  intro p e s m args below meth c s₁ B hml hv
  obtain ⟨rfl, hK, hZ, hP, hAq⟩ := hv
  have hts := atoms_spec (ws := .code y cc maxL ret :: gtbl) B.pre
  have hown : s.vm.findClass own = some m.cls := by rw [← hyo]; exact findClass_of_methodNamed B.named
  have hl := lv_entry vs (n := maxL) hlen
  rw [lg_entry_eq]
  exact body p e s m below meth c _ ⟨B.exec, B.bytes, hml, hown, fun w hw => hts w (List.mem_cons_of_mem _ hw), hK, hZ, hA, hAq⟩ B.returns B.notSynchronized ⟨hP, va_S.rf⟩ hl
/-- a pure static method's contract -/
def PS (vs : List Value) : Array Value → State → Prop := va_Pc vs (fun _ => True)
theorem x_metS {l : Launch} {y : MethodName} {cc : ByteArray} {maxL : Nat} {ret : Option FieldType} {rm : Room} {vs : List Value} {Qc : Array Value → State → Outcome → State → Prop} (hy : plainName y.cls = true) (hlen : (lg_sl vs).length ≤ maxL)
    (body : ∀ (p : Program) (e : Env) (s : State) (m : MethodId) (below : List Frame) (meth : Method) (c : Code) (ls : Array Slot), p.tables.exec = Jvm.exec → c.code = cc → c.maxLocals = maxL → s.vm.findClass y.cls = some m.cls → (∀ w ∈ gtbl, w.before vs.toArray s = true) → meth.sig.returnType = ret → meth.locks = false → lv_has ls maxL (lv_args 0 vs) →
      W p l e rm s m vs.toArray below meth c s.heap [] 0 0 (MQ below Qc vs.toArray s 0 0 (fun _ => False)) (F0 m 0 ls [])) :
    Met l y (.code y cc maxL ret :: gtbl) rm (PS vs) Qc 0 0 (fun _ => False) := by
  refine Met.ofW (cc := cc) (maxL := maxL) (ret := ret) hy rfl ?_
  intro p e s m args below meth c s₁ B hml hv
  obtain ⟨rfl, -⟩ := hv
  have hts := atoms_spec (ws := .code y cc maxL ret :: gtbl) B.pre
  have hl := lv_entry vs (n := maxL) hlen
  rw [lg_entry_eq]
  exact body p e s m below meth c _ B.exec B.bytes hml (findClass_of_methodNamed B.named) (fun w hw => hts w (List.mem_cons_of_mem _ hw)) B.returns B.notSynchronized hl
abbrev rmL (d : Nat) : Room := { frames := d, cells := 0, slots := 0, locals := 40 * d }
abbrev rmC (d mc ms : Nat) : Room := { frames := d, cells := mc, slots := ms, locals := 40 * d }
/-- the words of a call -/
def CWd (own : String) (idx : Nat) (y : MethodName) (bytes : ByteArray) (maxL : Nat) (ret : Option FieldType) (n : Nat) : Prop :=
  Cond.methodLink own idx y ∈ gtbl ∧ Cond.initialized y.cls ∈ gtbl ∧ Cond.code y bytes maxL ret ∈ gtbl ∧ y.cls ≠ "java/lang/invoke/MethodHandle" ∧ y.cls ≠ "java/lang/invoke/VarHandle" ∧ (parseMethodDescriptor y.desc).map (fun d => d.parameters.length) = some n
def CWv (own : String) (idx : Nat) (y : MethodName) (bytes : ByteArray) (maxL : Nat) (ret : Option FieldType) (n : Nat) : Prop := CWd own idx y bytes maxL ret n ∧ Cond.instanceMethod y ∈ gtbl ∧ Cond.selects y.cls y y ∈ gtbl
def CWs (own : String) (idx : Nat) (y : MethodName) (bytes : ByteArray) (maxL : Nat) (ret : Option FieldType) (n : Nat) : Prop := CWd own idx y bytes maxL ret n ∧ Cond.static y ∈ gtbl
theorem CWd.cb {own : String} {idx : Nat} {y : MethodName} {bytes : ByteArray} {maxL n mc ms : Nat} {ret : Option FieldType} {R rm : Room} {s : State} {args : Array Value} (h : CWd own idx y bytes maxL ret n) (ht : ∀ w ∈ gtbl, w.before args s = true) (hrc : rm.cells = mc) (hrs : rm.slots = ms) (hR : rm.frames + 1 ≤ R.frames ∧ 8 + (maxL + 11) + rm.locals ≤ R.locals) :
    CallB R s args own idx y bytes maxL ret (.code y bytes maxL ret :: gtbl) rm mc ms n :=
  callB_of n ht (gg_1 h.2.2.1) rfl hrc hrs (ht _ h.2.1) (ht _ h.1) ⟨h.2.2.2.1, h.2.2.2.2.1, h.2.2.2.2.2⟩ hR
section XR
variable {p : Program} {l : Launch} {e : Env} {R : Room} {s : State} {m : MethodId} {args : Array Value} {below : List Frame} {meth : Method} {c : Code} {H : Heap} {locs : List Loc} {cells slots : Nat} {Q : State → Prop}
variable {cc : ByteArray} {pc : Nat} {ls : Array Slot} {rest : List Value} {E : EV} {own : String} {nL : Nat} {σ μ : St}
theorem x_top {x y : Int32} (h : x = y) (k : W p l e R s m args below meth c H locs cells slots Q (F0 m pc ls (.int y :: rest))) : W p l e R s m args below meth c H locs cells slots Q (F0 m pc ls (.int x :: rest)) := h ▸ k
theorem x_get (F : Fx E p s m args c cc own nL) (hH : HS E s σ μ H locs) (i : Nat) {ci : Nat} {fs : List Value} (hi : i < en E) (hV : vv E σ μ i = .inr (ci, fs)) {C : String} {T : u_T} {N : Nat} (hc : vwCl[ci]? = some (C, T, N)) (hin : ∀ w ∈ u_ws C T N, w ∈ gtbl) (k : Nat) (hk : k < N) {idx : Nat} (hl : Cond.fieldLink own idx (T k).1 (T k).2.1 (T k).2.2.1 ∈ gtbl) {v : Value} (hv : fs[k]? = some v) (hdg : decode cc pc = .ok (.getfield idx, 3))
    (kk : W p l e R s m args below meth c H locs cells slots Q (F0 m (pc + 3) ls (v :: rest))) : W p l e R s m args below meth c H locs cells slots Q (F0 m pc ls (.ref (ea E i) :: rest)) :=
  va_get (D := eD E) (cl := vwCl) (ci := ci) F.hx F.hb F.hts hin F.hown F.hK hH.1 i (cells_at hi hV) hc k hk (F.hts _ hl) (fun _ h => h) hv hdg kk
theorem x_put (F : Fx E p s m args c cc own nL) (hH : HS E s σ μ H locs) (σ' μ' : St) (i : Nat) {ci : Nat} {fs : List Value} (hi : i < en E) (hV : vv E σ μ i = .inr (ci, fs)) {C : String} {T : u_T} {N : Nat} (hc : vwCl[ci]? = some (C, T, N)) (hin : ∀ w ∈ u_ws C T N, w ∈ gtbl) (ty0 : Nat → FieldType) (hty : ∀ k, k < N → parseFieldDescriptor (T k).2.2.1 = some (ty0 k)) (hnm : ∀ a, a < N → ∀ b, b < N → a ≠ b → (T a).2.1 ≠ (T b).2.1) (k : Nat) (hk : k < N) {idx : Nat} (hl : Cond.fieldLink own idx (T k).1 (T k).2.1 (T k).2.2.1 ∈ gtbl) (hfin : (T k).2.2.2 = false) {v : Value} {ty : FieldType} (hd : parseFieldDescriptor (T k).2.2.1 = some ty) (hn : narrow ty v = v) (hfit : fits ty v = true) (hlen : k < fs.length) (hdg : decode cc pc = .ok (.putfield idx, 3))
    (h1 : vv E σ' μ' i = .inr (ci, fs.set k v)) (h2 : ∀ j, j ≠ i → vv E σ' μ' j = vv E σ μ j)
    (kk : ∀ (H1 : Heap) (locs1 : List Loc), HS E s σ' μ' H1 locs1 → W p l e R s m args below meth c H1 locs1 cells slots Q (F0 m (pc + 3) ls rest)) : W p l e R s m args below meth c H locs cells slots Q (F0 m pc ls (v :: .ref (ea E i) :: rest)) :=
  va_put (D := eD E) (cl := vwCl) (ci := ci) F.hx F.hb F.hts hin ty0 hty hnm F.hown F.hK hH.1 (F.ad.d σ μ) hH.2 i (cells_at hi hV) hc k hk (F.hts _ hl) (fun _ h => h) hfin hd hn hfit hlen hdg (fun H1 locs1 hP _ hS => kk H1 locs1 ⟨by rw [cells_set h1 h2] at hP; exact hP, hS⟩)
theorem x_ild (F : Fx E p s m args c cc own nL) (hH : HS E s σ μ H locs) (i : Nat) {n : Nat} {f : Nat → Int32} (hi : i < en E) (hV : vv E σ μ i = .inl (ek E 0, n, .inl f)) (k : Nat) (hk : k < n) (hn : n < 2 ^ 31) (hdg : decode cc pc = .ok (.iaload, 1))
    (kk : W p l e R s m args below meth c H locs cells slots Q (F0 m (pc + 1) ls (.int (f k) :: rest))) : W p l e R s m args below meth c H locs cells slots Q (F0 m pc ls (.int (nI k) :: .ref (ea E i) :: rest)) :=
  va_iald (D := eD E) (cl := vwCl) F.hx F.hb F.hK hH.1 i 0 (cells_at hi hV) rfl (vp_in_nI hk hn) hdg (by rw [nI_clamp (Nat.lt_trans hk hn)]; exact kk)
theorem x_ist (F : Fx E p s m args c cc own nL) (hH : HS E s σ μ H locs) (σ' μ' : St) (i : Nat) {n : Nat} {f : Nat → Int32} (hi : i < en E) (hV : vv E σ μ i = .inl (ek E 0, n, .inl f)) (k : Nat) (hk : k < n) (hn : n < 2 ^ 31) {x : Int32} (hdg : decode cc pc = .ok (.iastore, 1))
    (h1 : vv E σ' μ' i = .inl (ek E 0, n, .inl (upd f k x))) (h2 : ∀ j, j ≠ i → vv E σ' μ' j = vv E σ μ j)
    (kk : ∀ (H1 : Heap) (locs1 : List Loc), HS E s σ' μ' H1 locs1 → W p l e R s m args below meth c H1 locs1 cells slots Q (F0 m (pc + 1) ls rest)) : W p l e R s m args below meth c H locs cells slots Q (F0 m pc ls (.int x :: .int (nI k) :: .ref (ea E i) :: rest)) :=
  va_iast (D := eD E) (cl := vwCl) F.hx F.hb F.hK hH.1 (F.ad.d σ μ) hH.2 i 0 (cells_at hi hV) rfl (vp_in_nI hk hn) hdg (fun H1 locs1 hP _ hS => kk H1 locs1 ⟨by rw [nI_clamp (Nat.lt_trans hk hn), cells_set h1 h2] at hP; exact hP, hS⟩)
theorem x_zld (F : Fx E p s m args c cc own nL) (hH : HS E s σ μ H locs) (i : Nat) {n : Nat} {f : Nat → Int32} (hi : i < en E) (hV : vv E σ μ i = .inl (ek E 1, n, .inl f)) (k : Nat) (hk : k < n) (hn : n < 2 ^ 31) (hdg : decode cc pc = .ok (.baload, 1))
    (kk : W p l e R s m args below meth c H locs cells slots Q (F0 m (pc + 1) ls (.int (f k) :: rest))) : W p l e R s m args below meth c H locs cells slots Q (F0 m pc ls (.int (nI k) :: .ref (ea E i) :: rest)) :=
  va_zald (D := eD E) (cl := vwCl) F.hx F.hb F.hK hH.1 i 1 (cells_at hi hV) rfl (vp_in_nI hk hn) hdg (by rw [nI_clamp (Nat.lt_trans hk hn)]; exact kk)
theorem x_zst (F : Fx E p s m args c cc own nL) (hH : HS E s σ μ H locs) (σ' μ' : St) (i : Nat) {n : Nat} {f : Nat → Int32} (hi : i < en E) (hV : vv E σ μ i = .inl (ek E 1, n, .inl f)) (k : Nat) (hk : k < n) (hn : n < 2 ^ 31) {x : Int32} (hdg : decode cc pc = .ok (.bastore, 1))
    (h1 : vv E σ' μ' i = .inl (ek E 1, n, .inl (upd f k (vp_nar .boolean x)))) (h2 : ∀ j, j ≠ i → vv E σ' μ' j = vv E σ μ j)
    (kk : ∀ (H1 : Heap) (locs1 : List Loc), HS E s σ' μ' H1 locs1 → W p l e R s m args below meth c H1 locs1 cells slots Q (F0 m (pc + 1) ls rest)) : W p l e R s m args below meth c H locs cells slots Q (F0 m pc ls (.int x :: .int (nI k) :: .ref (ea E i) :: rest)) :=
  va_zast (D := eD E) (cl := vwCl) F.hx F.hb F.hK hH.1 (F.ad.d σ μ) hH.2 i 1 (cells_at hi hV) rfl (vp_in_nI hk hn) hdg (fun H1 locs1 hP _ hS => kk H1 locs1 ⟨by rw [nI_clamp (Nat.lt_trans hk hn), cells_set h1 h2] at hP; exact hP, hS⟩)
theorem x_ald (F : Fx E p s m args c cc own nL) (hH : HS E s σ μ H locs) (i j : Nat) {C : String} {n : Nat} {f : Nat → Option Nat} (hi : i < en E) (hV : vv E σ μ i = .inl (ek E j, n, .inr (.inr (.inr (.inr f))))) (ht : (etys E)[j]? = some (ek E j, .object C)) (k : Nat) {a : Nat} (ha : f k = some a) (hk : k < n) (hn : n < 2 ^ 31) (hdg : decode cc pc = .ok (.aaload, 1))
    (kk : W p l e R s m args below meth c H locs cells slots Q (F0 m (pc + 1) ls (.ref a :: rest))) : W p l e R s m args below meth c H locs cells slots Q (F0 m pc ls (.int (nI k) :: .ref (ea E i) :: rest)) :=
  va_aldq (D := eD E) (cl := vwCl) F.hx F.hb F.hK hH.1 i j (cells_at hi hV) ht (vp_in_nI hk hn) hdg (by rw [nI_clamp (Nat.lt_trans hk hn), ha]; exact kk)
theorem x_wld (F : Fx E p s m args c cc own nL) (hH : HS E s σ μ H locs) (k : Nat) (hk : k < 5) (hdg : decode cc pc = .ok (.iaload, 1))
    (kk : W p l e R s m args below meth c H locs cells slots Q (F0 m (pc + 1) ls (.int (wof k) :: rest))) : W p l e R s m args below meth c H locs cells slots Q (F0 m pc ls (.int (nI k) :: .ref (ez E) :: rest)) := by
  have hX := F.sz.2.1
  have hlt : ez E < s.heap.size := by
    obtain ⟨scr, g, -⟩ := hX
    exact (Array.getElem?_eq_some_iff.mp g).1
  exact va_sld F.hx F.hb hX hlt F.sz.2.2 hH.2 (vp_in_nI hk (by decide)) hdg (by rw [nI_clamp (by omega)]; exact kk)
theorem x_wget (F : Fx E p s m args c cc own nL) (hH : HS E s σ μ H locs) {idx : Nat} (hl : Cond.fieldLink own idx "TillHolds" "WORTHS" "[I" ∈ gtbl) (hdg : decode cc pc = .ok (.getstatic idx, 3))
    (kk : W p l e R s m args below meth c H locs cells slots Q (F0 m (pc + 3) ls (.ref (ez E) :: rest))) : W p l e R s m args below meth c H locs cells slots Q (F0 m pc ls rest) :=
  va_gets F.hx F.hb F.sz.1 hH.2 F.hown (F.hts _ hl) (fun _ h => h) hdg kk
theorem x_wgetN (F : Fx E p s m args c cc RX0 nL) (hH : HS E s σ μ H locs) (hdg : decode cc pc = .ok (.getstatic 15, 3))
    (kk : W p l e R s m args below meth c H locs cells slots Q (F0 m (pc + 3) ls (.ref (ez E) :: rest))) : W p l e R s m args below meth c H locs cells slots Q (F0 m pc ls rest) :=
  va_getsN F.hx F.hb F.sz.1 hH.2 F.hown (va_Nw.use rfl F.ks.2.2) (fun _ h => h) hdg kk
/-- calls: of a method on an object of the world, of a static one over the world, of a pure static one -/
theorem x_calliX (F : Fx E p s m args c cc own nL) (hH : HS E s σ μ H locs) (i : Nat) {ci : Nat} {fs : List Value} (hi : i < en E) (hV : vv E σ μ i = .inr (ci, fs)) {T : u_T} {N : Nat} {y : MethodName} (hc : vwCl[ci]? = some (y.cls, T, N)) {bytes : ByteArray} {maxL n idx : Nat} {ret : Option FieldType} {rm : Room} {As : List Value} {P : Int32 × St}
    (hM : Met l y (.code y bytes maxL ret :: gtbl) rm (va_Pc (.ref (ea E i) :: As) (PR E σ μ)) (QI E P.1 P.2 μ) 0 0 (eA E)) (w : CWv own idx y bytes maxL ret n) (hrc : rm.cells = 0) (hrs : rm.slots = 0) (hR : rm.frames + 1 ≤ R.frames ∧ 8 + (maxL + 11) + rm.locals ≤ R.locals) (hn : As.length = n) (hls : ls.size = nL) {st0 : List Value} (hst : st0 = As.reverse ++ .ref (ea E i) :: rest) (hW : (rest.map fun v => v.category).sum ≤ 8) (hf : cells ≤ R.cells ∧ slots ≤ R.slots) (hdg : decode cc pc = .ok (.invokevirtual idx, 3))
    (kk : ∀ (r : Int32) (σ1 : St) (H1 : Heap) (locs1 : List Loc), P = (r, σ1) → HS E s σ1 μ H1 locs1 → W p l e R s m args below meth c H1 locs1 cells slots Q (F0 m (pc + 3) ls (.int r :: rest))) : W p l e R s m args below meth c H locs cells slots Q (F0 m pc ls st0) :=
  va_calli (va_runV (As := As) (rest := rest) (b := ea E i) ⟨F.hx, F.hb, F.hml, F.hown, F.hts⟩ hM ⟨w.1.cb F.hts hrc hrs hR, F.hts _ w.2.1, F.hts _ w.2.2⟩ ⟨PR.blind, va_recv F.hK hH.1 (ci := ci) (q0 := i) hc (cells_at hi hV), fun U hU hW => ⟨rfl, hH.pr F hU hW⟩⟩ rfl hn hls hst (lv_room hW) hdg hf) hH.2 (fun q _ h => h) (fun q h => h)
    (fun r u t H1 locs1 ht hvm hw hB hz1 hk1 hS => kk r P.2 H1 locs1 (by rw [hw]) ⟨by rw [← ht]; exact hB, hS⟩)
theorem x_calliM (F : Fx E p s m args c cc own nL) (hH : HS E s σ μ H locs) (i : Nat) {ci : Nat} {fs : List Value} (hi : i < en E) (hV : vv E σ μ i = .inr (ci, fs)) {T : u_T} {N : Nat} {y : MethodName} (hc : vwCl[ci]? = some (y.cls, T, N)) {bytes : ByteArray} {maxL n idx : Nat} {ret : Option FieldType} {rm : Room} {As : List Value} {P : Int32 × St}
    (hM : Met l y (.code y bytes maxL ret :: gtbl) rm (va_Pc (.ref (ea E i) :: As) (PR E σ μ)) (QI E P.1 σ P.2) 0 0 (eA E)) (w : CWv own idx y bytes maxL ret n) (hrc : rm.cells = 0) (hrs : rm.slots = 0) (hR : rm.frames + 1 ≤ R.frames ∧ 8 + (maxL + 11) + rm.locals ≤ R.locals) (hn : As.length = n) (hls : ls.size = nL) {st0 : List Value} (hst : st0 = As.reverse ++ .ref (ea E i) :: rest) (hW : (rest.map fun v => v.category).sum ≤ 8) (hf : cells ≤ R.cells ∧ slots ≤ R.slots) (hdg : decode cc pc = .ok (.invokevirtual idx, 3))
    (kk : ∀ (r : Int32) (μ1 : St) (H1 : Heap) (locs1 : List Loc), P = (r, μ1) → HS E s σ μ1 H1 locs1 → W p l e R s m args below meth c H1 locs1 cells slots Q (F0 m (pc + 3) ls (.int r :: rest))) : W p l e R s m args below meth c H locs cells slots Q (F0 m pc ls st0) :=
  va_calli (va_runV (As := As) (rest := rest) (b := ea E i) ⟨F.hx, F.hb, F.hml, F.hown, F.hts⟩ hM ⟨w.1.cb F.hts hrc hrs hR, F.hts _ w.2.1, F.hts _ w.2.2⟩ ⟨PR.blind, va_recv F.hK hH.1 (ci := ci) (q0 := i) hc (cells_at hi hV), fun U hU hW => ⟨rfl, hH.pr F hU hW⟩⟩ rfl hn hls hst (lv_room hW) hdg hf) hH.2 (fun q _ h => h) (fun q h => h)
    (fun r u t H1 locs1 ht hvm hw hB hz1 hk1 hS => kk r P.2 H1 locs1 (by rw [hw]) ⟨by rw [← ht]; exact hB, hS⟩)
/-- a call that leaves the world as it is: the answer alone -/
theorem x_calliR (F : Fx E p s m args c cc own nL) (hH : HS E s σ μ H locs) (i : Nat) {ci : Nat} {fs : List Value} (hi : i < en E) (hV : vv E σ μ i = .inr (ci, fs)) {T : u_T} {N : Nat} {y : MethodName} (hc : vwCl[ci]? = some (y.cls, T, N)) {bytes : ByteArray} {maxL n idx : Nat} {ret : Option FieldType} {rm : Room} {As : List Value} {r : Int32}
    (hM : Met l y (.code y bytes maxL ret :: gtbl) rm (va_Pc (.ref (ea E i) :: As) (PR E σ μ)) (QI E r σ μ) 0 0 (eA E)) (w : CWv own idx y bytes maxL ret n) (hrc : rm.cells = 0) (hrs : rm.slots = 0) (hR : rm.frames + 1 ≤ R.frames ∧ 8 + (maxL + 11) + rm.locals ≤ R.locals) (hn : As.length = n) (hls : ls.size = nL) {st0 : List Value} (hst : st0 = As.reverse ++ .ref (ea E i) :: rest) (hW : (rest.map fun v => v.category).sum ≤ 8) (hf : cells ≤ R.cells ∧ slots ≤ R.slots) (hdg : decode cc pc = .ok (.invokevirtual idx, 3))
    (kk : ∀ (H1 : Heap) (locs1 : List Loc), HS E s σ μ H1 locs1 → W p l e R s m args below meth c H1 locs1 cells slots Q (F0 m (pc + 3) ls (.int r :: rest))) : W p l e R s m args below meth c H locs cells slots Q (F0 m pc ls st0) :=
  va_calli (va_runV (As := As) (rest := rest) (b := ea E i) ⟨F.hx, F.hb, F.hml, F.hown, F.hts⟩ hM ⟨w.1.cb F.hts hrc hrs hR, F.hts _ w.2.1, F.hts _ w.2.2⟩ ⟨PR.blind, va_recv F.hK hH.1 (ci := ci) (q0 := i) hc (cells_at hi hV), fun U hU hW => ⟨rfl, hH.pr F hU hW⟩⟩ rfl hn hls hst (lv_room hW) hdg hf) hH.2 (fun q _ h => h) (fun q h => h)
    (fun r' u t H1 locs1 ht hvm hw hB hz1 hk1 hS => by rw [hw]; exact kk H1 locs1 ⟨by rw [← ht]; exact hB, hS⟩)
theorem x_callv (F : Fx E p s m args c cc own nL) (hH : HS E s σ μ H locs) (i : Nat) {ci : Nat} {fs : List Value} (hi : i < en E) (hV : vv E σ μ i = .inr (ci, fs)) {T : u_T} {N : Nat} {y : MethodName} (hc : vwCl[ci]? = some (y.cls, T, N)) {bytes : ByteArray} {maxL n idx : Nat} {ret : Option FieldType} {rm : Room} {As : List Value} {σ' μ' : St}
    (hM : Met l y (.code y bytes maxL ret :: gtbl) rm (va_Pc (.ref (ea E i) :: As) (PR E σ μ)) (QV E σ' μ') 0 0 (eA E)) (w : CWv own idx y bytes maxL ret n) (hrc : rm.cells = 0) (hrs : rm.slots = 0) (hR : rm.frames + 1 ≤ R.frames ∧ 8 + (maxL + 11) + rm.locals ≤ R.locals) (hn : As.length = n) (hls : ls.size = nL) {st0 : List Value} (hst : st0 = As.reverse ++ .ref (ea E i) :: rest) (hW : (rest.map fun v => v.category).sum ≤ 8) (hf : cells ≤ R.cells ∧ slots ≤ R.slots) (hdg : decode cc pc = .ok (.invokevirtual idx, 3))
    (kk : ∀ (H1 : Heap) (locs1 : List Loc), HS E s σ' μ' H1 locs1 → W p l e R s m args below meth c H1 locs1 cells slots Q (F0 m (pc + 3) ls rest)) : W p l e R s m args below meth c H locs cells slots Q (F0 m pc ls st0) :=
  va_callv (va_runV (As := As) (rest := rest) (b := ea E i) ⟨F.hx, F.hb, F.hml, F.hown, F.hts⟩ hM ⟨w.1.cb F.hts hrc hrs hR, F.hts _ w.2.1, F.hts _ w.2.2⟩ ⟨PR.blind, va_recv F.hK hH.1 (ci := ci) (q0 := i) hc (cells_at hi hV), fun U hU hW => ⟨rfl, hH.pr F hU hW⟩⟩ rfl hn hls hst (lv_room hW) hdg hf) hH.2 (fun q _ h => h) (fun q h => h)
    (fun u t H1 locs1 ht hvm hw hB hz1 hk1 hS => kk H1 locs1 ⟨by rw [← ht]; exact hB, hS⟩)
theorem x_callsX (F : Fx E p s m args c cc own nL) (hH : HS E s σ μ H locs) {y : MethodName} {bytes : ByteArray} {maxL n idx : Nat} {ret : Option FieldType} {rm : Room} {As : List Value} {P : Int32 × St}
    (hM : Met l y (.code y bytes maxL ret :: gtbl) rm (va_Pc As (PR E σ μ)) (QI E P.1 P.2 μ) 0 0 (eA E)) (w : CWs own idx y bytes maxL ret n) (hrc : rm.cells = 0) (hrs : rm.slots = 0) (hR : rm.frames + 1 ≤ R.frames ∧ 8 + (maxL + 11) + rm.locals ≤ R.locals) (hn : As.length = n) (hls : ls.size = nL) {st0 : List Value} (hst : st0 = As.reverse ++ rest) (hW : (rest.map fun v => v.category).sum ≤ 8) (hf : cells ≤ R.cells ∧ slots ≤ R.slots) (hdg : decode cc pc = .ok (.invokestatic idx, 3))
    (kk : ∀ (r : Int32) (σ1 : St) (H1 : Heap) (locs1 : List Loc), P = (r, σ1) → HS E s σ1 μ H1 locs1 → W p l e R s m args below meth c H1 locs1 cells slots Q (F0 m (pc + 3) ls (.int r :: rest))) : W p l e R s m args below meth c H locs cells slots Q (F0 m pc ls st0) :=
  va_calli (va_runS (As := As) (rest := rest) ⟨F.hx, F.hb, F.hml, F.hown, F.hts⟩ hM ⟨w.1.cb F.hts hrc hrs hR, F.hts _ w.2⟩ ⟨PR.blind, fun U hU hW => ⟨rfl, hH.pr F hU hW⟩⟩ rfl hn hls hst (lv_room hW) hdg hf) hH.2 (fun q _ h => h) (fun q h => h)
    (fun r u t H1 locs1 ht hvm hw hB hz1 hk1 hS => kk r P.2 H1 locs1 (by rw [hw]) ⟨by rw [← ht]; exact hB, hS⟩)
theorem x_callsR (F : Fx E p s m args c cc own nL) (hH : HS E s σ μ H locs) {y : MethodName} {bytes : ByteArray} {maxL n idx : Nat} {ret : Option FieldType} {rm : Room} {As : List Value} {r : Int32}
    (hM : Met l y (.code y bytes maxL ret :: gtbl) rm (va_Pc As (PR E σ μ)) (QI E r σ μ) 0 0 (eA E)) (w : CWs own idx y bytes maxL ret n) (hrc : rm.cells = 0) (hrs : rm.slots = 0) (hR : rm.frames + 1 ≤ R.frames ∧ 8 + (maxL + 11) + rm.locals ≤ R.locals) (hn : As.length = n) (hls : ls.size = nL) {st0 : List Value} (hst : st0 = As.reverse ++ rest) (hW : (rest.map fun v => v.category).sum ≤ 8) (hf : cells ≤ R.cells ∧ slots ≤ R.slots) (hdg : decode cc pc = .ok (.invokestatic idx, 3))
    (kk : ∀ (H1 : Heap) (locs1 : List Loc), HS E s σ μ H1 locs1 → W p l e R s m args below meth c H1 locs1 cells slots Q (F0 m (pc + 3) ls (.int r :: rest))) : W p l e R s m args below meth c H locs cells slots Q (F0 m pc ls st0) :=
  va_calli (va_runS (As := As) (rest := rest) ⟨F.hx, F.hb, F.hml, F.hown, F.hts⟩ hM ⟨w.1.cb F.hts hrc hrs hR, F.hts _ w.2⟩ ⟨PR.blind, fun U hU hW => ⟨rfl, hH.pr F hU hW⟩⟩ rfl hn hls hst (lv_room hW) hdg hf) hH.2 (fun q _ h => h) (fun q h => h)
    (fun r' u t H1 locs1 ht hvm hw hB hz1 hk1 hS => by rw [hw]; exact kk H1 locs1 ⟨by rw [← ht]; exact hB, hS⟩)
theorem x_runP {rest : List Value} {st0 : List Value} {a : Array Value} {r : Int32} (hr : va_Run p l e R s m args below meth c H locs cells slots 0 0 (F0 m pc ls st0) rest (QcRead r a) (fun _ => False))
    (kk : W p l e R s m args below meth c H locs cells slots Q (F0 m (pc + 3) ls (.int r :: rest))) : W p l e R s m args below meth c H locs cells slots Q (F0 m pc ls st0) := by
  intro T hT X
  obtain ⟨v, st₀, t, T', L, h0, X', hL, e1, e2, ⟨hv, hh⟩, st⟩ := hr T hT X
  cases hv
  have hLn : L = [] := by
    cases L with
    | nil => rfl
    | cons q _ => exact absurd (hL q List.mem_cons_self) id
  subst hLn
  rw [List.append_nil] at X'
  obtain ⟨t2, a1, b1⟩ := kk T' (by rw [e1, hh, h0]) X'
  exact ⟨t2, st t2 a1, b1⟩
theorem x_pure (hx : p.tables.exec = Jvm.exec) (hb : c.code = cc) (hml : c.maxLocals = nL) (hown : s.vm.findClass own = some m.cls) (hts : ∀ w ∈ gtbl, w.before args s = true) {y : MethodName} {bytes : ByteArray} {maxL n idx : Nat} {ret : Option FieldType} {rm : Room} {As : List Value} {r : Int32}
    (hM : Met l y (.code y bytes maxL ret :: gtbl) rm (PS As) (QcRead r) 0 0 (fun _ => False)) (w : CWs own idx y bytes maxL ret n) (hrc : rm.cells = 0) (hrs : rm.slots = 0) (hR : rm.frames + 1 ≤ R.frames ∧ 8 + (maxL + 11) + rm.locals ≤ R.locals) (hn : As.length = n) (hls : ls.size = nL) {st0 : List Value} (hst : st0 = As.reverse ++ rest) (hW : (rest.map fun v => v.category).sum ≤ 8) (hf : cells ≤ R.cells ∧ slots ≤ R.slots) (hdg : decode cc pc = .ok (.invokestatic idx, 3))
    (kk : W p l e R s m args below meth c H locs cells slots Q (F0 m (pc + 3) ls (.int r :: rest))) : W p l e R s m args below meth c H locs cells slots Q (F0 m pc ls st0) :=
  x_runP (va_runS (As := As) (rest := rest) ⟨hx, hb, hml, hown, hts⟩ hM ⟨w.1.cb hts hrc hrs hR, hts _ w.2⟩ ⟨fun a U g mk h => h, fun U hU hW => ⟨rfl, trivial⟩⟩ rfl hn hls hst (lv_room hW) hdg hf) kk
theorem x_pureN (F : Fx E p s m args c cc RX0 nL) {bytes : ByteArray} {maxL : Nat} {ret : Option FieldType} {rm : Room} {As : List Value} {r : Int32}
    (hM : Met l yX3_isKind (.code yX3_isKind bytes maxL ret :: gtbl) rm (PS As) (QcRead r) 0 0 (fun _ => False)) (hcd : Cond.code yX3_isKind bytes maxL ret ∈ gtbl) (hst : Cond.static yX3_isKind ∈ gtbl) (hini : Cond.initialized yX3_isKind.cls ∈ gtbl) (hrc : rm.cells = 0) (hrs : rm.slots = 0) (hR : rm.frames + 1 ≤ R.frames ∧ 8 + (maxL + 11) + rm.locals ≤ R.locals) (hn : As.length = 1) (hls : ls.size = nL) {st0 : List Value} (hs0 : st0 = As.reverse ++ rest) (hW : (rest.map fun v => v.category).sum ≤ 8) (hf : cells ≤ R.cells ∧ slots ≤ R.slots) (hdg : decode cc pc = .ok (.invokestatic 18, 3))
    (kk : W p l e R s m args below meth c H locs cells slots Q (F0 m (pc + 3) ls (.int r :: rest))) : W p l e R s m args below meth c H locs cells slots Q (F0 m pc ls st0) :=
  x_runP (va_runSN (As := As) (rest := rest) (host := "TillHolds") ⟨F.hx, F.hb, F.hml, F.hown, F.hts⟩ hM ⟨va_cnB 1 F.hts (gg_1 hcd) rfl hrc hrs F.ks.2.1 (F.hts _ hini) (by decide +kernel) hR, F.hts _ hst, trivial⟩ ⟨fun a U g mk h => h, fun U hU hW => ⟨rfl, trivial⟩⟩ rfl hn hls hs0 (lv_room hW) hdg hf) kk
/-- ends -/
theorem x_iretX (F : Fx E p s m args c cc own nL) (hr : meth.sig.returnType = some .int) (hlk : meth.locks = false) (hH : HS E s σ μ H locs) {v : Int32} {P : Int32 × St} (hP : P = (v, σ)) (hdg : decode cc pc = .ok (.ireturn, 1)) : W p l e R s m args below meth c H locs 0 0 (MQ below (QI E P.1 P.2 μ) args s 0 0 (eA E)) (F0 m pc ls [.int v]) := by
  subst hP
  exact W.iret (v := v) F.hx F.hb hr (fun t ht hW => ⟨⟨v, (), rfl, rfl, by subst ht; exact hH.1⟩, hH.2.F ht⟩) hH.2.2.2 hdg
theorem x_iretM (F : Fx E p s m args c cc own nL) (hr : meth.sig.returnType = some .int) (hlk : meth.locks = false) (hH : HS E s σ μ H locs) {v : Int32} {P : Int32 × St} (hP : P = (v, μ)) (hdg : decode cc pc = .ok (.ireturn, 1)) : W p l e R s m args below meth c H locs cells slots (MQ below (QI E P.1 σ P.2) args s cells slots (eA E)) (F0 m pc ls [.int v]) := by
  subst hP
  exact W.iret (v := v) F.hx F.hb hr (fun t ht hW => ⟨⟨v, (), rfl, rfl, by subst ht; exact hH.1⟩, hH.2.F ht⟩) hH.2.2.2 hdg
theorem x_iretR (F : Fx E p s m args c cc own nL) (hr : meth.sig.returnType = some .int) (hlk : meth.locks = false) (hH : HS E s σ μ H locs) {v r : Int32} (hP : r = v) (hdg : decode cc pc = .ok (.ireturn, 1)) : W p l e R s m args below meth c H locs 0 0 (MQ below (QI E r σ μ) args s 0 0 (eA E)) (F0 m pc ls [.int v]) := by
  subst hP
  exact W.iret (v := r) F.hx F.hb hr (fun t ht hW => ⟨⟨r, (), rfl, rfl, by subst ht; exact hH.1⟩, hH.2.F ht⟩) hH.2.2.2 hdg
theorem x_zretX (F : Fx E p s m args c cc own nL) (hr : meth.sig.returnType = some .boolean) (hlk : meth.locks = false) (hH : HS E s σ μ H locs) {v : Int32} (hn : narrow .boolean (.int v) = .int v) {P : Int32 × St} (hP : P = (v, σ)) (hdg : decode cc pc = .ok (.ireturn, 1)) : W p l e R s m args below meth c H locs 0 0 (MQ below (QI E P.1 P.2 μ) args s 0 0 (eA E)) (F0 m pc ls [.int v]) := by
  subst hP
  exact W.zret (v := v) F.hx F.hb hr hn (fun t ht hW => ⟨⟨v, (), rfl, rfl, by subst ht; exact hH.1⟩, hH.2.F ht⟩) hH.2.2.2 hdg
theorem x_zretR (F : Fx E p s m args c cc own nL) (hr : meth.sig.returnType = some .boolean) (hlk : meth.locks = false) (hH : HS E s σ μ H locs) {v r : Int32} (hn : narrow .boolean (.int v) = .int v) (hP : r = v) (hdg : decode cc pc = .ok (.ireturn, 1)) : W p l e R s m args below meth c H locs 0 0 (MQ below (QI E r σ μ) args s 0 0 (eA E)) (F0 m pc ls [.int v]) := by
  subst hP
  exact W.zret (v := r) F.hx F.hb hr hn (fun t ht hW => ⟨⟨r, (), rfl, rfl, by subst ht; exact hH.1⟩, hH.2.F ht⟩) hH.2.2.2 hdg
theorem x_vret (F : Fx E p s m args c cc own nL) (hr : meth.sig.returnType = none) (hlk : meth.locks = false) (hH : HS E s σ μ H locs) {σ' μ' : St} (h1 : σ' = σ) (h2 : μ' = μ) (hdg : decode cc pc = .ok (.return_, 1)) : W p l e R s m args below meth c H locs 0 0 (MQ below (QV E σ' μ') args s 0 0 (eA E)) (F0 m pc ls []) := by
  subst h1; subst h2
  exact W.vret F.hx F.hb hr (fun t ht hW => ⟨⟨(), rfl, trivial, by subst ht; exact hH.1⟩, hH.2.F ht⟩) hH.2.2.2 hdg
theorem x_pret (hx : p.tables.exec = Jvm.exec) (hb : c.code = cc) (hr : meth.sig.returnType = some .int) (hlk : meth.locks = false) {v r : Int32} (hP : r = v) (hdg : decode cc pc = .ok (.ireturn, 1)) : W p l e R s m args below meth c s.heap [] 0 0 (MQ below (QcRead r) args s 0 0 (fun _ => False)) (F0 m pc ls [.int v]) := by
  subst hP
  exact W.iret (v := r) hx hb hr (fun t ht hW => ⟨rfl, ht⟩) (fun q h => by cases h) hdg
theorem x_pretZ (hx : p.tables.exec = Jvm.exec) (hb : c.code = cc) (hr : meth.sig.returnType = some .boolean) (hlk : meth.locks = false) {v r : Int32} (hn : narrow .boolean (.int v) = .int v) (hP : r = v) (hdg : decode cc pc = .ok (.ireturn, 1)) : W p l e R s m args below meth c s.heap [] 0 0 (MQ below (QcRead r) args s 0 0 (fun _ => False)) (F0 m pc ls [.int v]) := by
  subst hP
  exact W.zret (v := r) hx hb hr hn (fun t ht hW => ⟨rfl, ht⟩) (fun q h => by cases h) hdg
end XR
end
section
set_option maxRecDepth 20000 in
theorem gX0 : ∀ w ∈ u_ws RX0 TX0 1, w ∈ gtbl := by decide +kernel
set_option maxRecDepth 20000 in
theorem gX1 : ∀ w ∈ u_ws RX1 TX1 4, w ∈ gtbl := by decide +kernel
set_option maxRecDepth 20000 in
theorem gX2 : ∀ w ∈ u_ws RX2 TX2 4, w ∈ gtbl := by decide +kernel
set_option maxRecDepth 20000 in
theorem gX3 : ∀ w ∈ u_ws RX3 TX3 7, w ∈ gtbl := by decide +kernel
set_option maxRecDepth 20000 in
theorem gX4 : ∀ w ∈ u_ws RX4 TX4 11, w ∈ gtbl := by decide +kernel
theorem up_row {σ : St} {r k r' : Nat} {v : Int32} (h : r' ≠ r) : up σ r k v r' = σ r' := by
  funext q; simp [up, h]
theorem up_at {σ : St} {r k k' : Nat} {v : Int32} (h : k' ≠ k) : up σ r k v r k' = σ r k' := by simp [up, h]
theorem up_same {σ : St} {r k : Nat} {v : Int32} : up σ r k v r k = v := by simp [up]
theorem up_upd {σ : St} {r k : Nat} {v : Int32} : up σ r k v r = upd (σ r) k v := by
  funext q; simp [up, upd]
theorem vv_ne {E : EV} {σ σ' μ μ' : St} {i : Nat} (h2 : i = 2 → σ' 20 = σ 20) (h4 : i = 4 → σ' 21 = σ 21) (h1 : ∀ t, t < 8 → i = 5 + t → σ' 17 t = σ 17 t ∧ σ' 18 t = σ 18 t ∧ σ' 19 t = σ 19 t) (h3 : ∀ j, j < 17 → i = 30 + j → σ' j = σ j) (hm : ∀ r, i = 47 + r → v4 E μ' r = v4 E μ r) : vv E σ' μ' i = vv E σ μ i := by
  by_cases h : i < 5
  · rw [vv0 h, vv0 h]
    match i, h with
    | 0, _ => rfl
    | 1, _ => rfl
    | 2, _ => simp only [v0, h2 rfl]
    | 3, _ => rfl
    | 4, _ => simp only [v0, h4 rfl]
  · by_cases hb : i < 13
    · obtain ⟨t, rfl⟩ : ∃ t, i = 5 + t := ⟨i - 5, by omega⟩
      have ht : t < 8 := by omega
      obtain ⟨a1, a2, a3⟩ := h1 t ht rfl
      rw [vv1 ht, vv1 ht, v1, v1, a1, a2, a3]
    · by_cases hc : i < 30
      · obtain ⟨t, rfl⟩ : ∃ t, i = 13 + t := ⟨i - 13, by omega⟩
        rw [vv2 (by omega), vv2 (by omega)]
      · by_cases hd : i < 47
        · obtain ⟨t, rfl⟩ : ∃ t, i = 30 + t := ⟨i - 30, by omega⟩
          rw [vv3 (by omega), vv3 (by omega), v3, v3, h3 t (by omega) rfl]
        · obtain ⟨t, rfl⟩ : ∃ t, i = 47 + t := ⟨i - 47, by omega⟩
          rw [vv4, vv4, hm t rfl]
theorem v4_ne {E : EV} {μ : St} {r k r' : Nat} {x : Int32} (h : r' ≠ r) : v4 E (up μ r k x) r' = v4 E μ r' := by
  match r', h with
  | 0, h => simp only [v4, up_row h]
  | 1, h => simp only [v4, up_row h]
  | 2, h => simp only [v4, up_row h]
  | 3, h => simp only [v4, up_row h]
  | 4, h => simp only [v4, up_row h]
  | 5, h => simp only [v4, up_row h]
  | 6, h => simp only [v4, up_row h]
  | 7, h => simp only [v4, up_row h]
  | _ + 8, _ => rfl
theorem vo_arr {E : EV} {σ μ : St} {j k : Nat} {x : Int32} (hj : j < 17) : ∀ i, i ≠ 30 + j → vv E (up σ j k x) μ i = vv E σ μ i := fun i hi =>
  vv_ne (fun _ => up_row (by omega)) (fun _ => up_row (by omega)) (fun t _ _ => ⟨by rw [up_row (by omega)], by rw [up_row (by omega)], by rw [up_row (by omega)]⟩) (fun j' _ e => up_row (by omega)) (fun _ _ => rfl)
theorem vo_till {E : EV} {σ μ : St} {r t : Nat} {x : Int32} (hr : r = 17 ∨ r = 18 ∨ r = 19) : ∀ i, i ≠ 5 + t → vv E (up σ r t x) μ i = vv E σ μ i := fun i hi =>
  vv_ne (fun _ => up_row (by omega)) (fun _ => up_row (by omega)) (fun t' _ e => by
    have hne : t' ≠ t := by omega
    rcases hr with rfl | rfl | rfl <;> simp [up, hne]) (fun j' _ e => up_row (by omega)) (fun _ _ => rfl)
theorem vo_holds {E : EV} {σ μ : St} {k : Nat} {x : Int32} : ∀ i, i ≠ 2 → vv E (up σ 20 k x) μ i = vv E σ μ i := fun i hi =>
  vv_ne (fun e => absurd e hi) (fun _ => up_row (by omega)) (fun t _ _ => ⟨by rw [up_row (by omega)], by rw [up_row (by omega)], by rw [up_row (by omega)]⟩) (fun j' _ e => up_row (by omega)) (fun _ _ => rfl)
theorem vo_places {E : EV} {σ μ : St} {k : Nat} {x : Int32} : ∀ i, i ≠ 4 → vv E (up σ 21 k x) μ i = vv E σ μ i := fun i hi =>
  vv_ne (fun _ => up_row (by omega)) (fun e => absurd e hi) (fun t _ _ => ⟨by rw [up_row (by omega)], by rw [up_row (by omega)], by rw [up_row (by omega)]⟩) (fun j' _ e => up_row (by omega)) (fun _ _ => rfl)
theorem vo_model {E : EV} {σ μ : St} {r k : Nat} {x : Int32} : ∀ i, i ≠ 47 + r → vv E σ (up μ r k x) i = vv E σ μ i := fun i hi =>
  vv_ne (fun _ => rfl) (fun _ => rfl) (fun _ _ _ => ⟨rfl, rfl, rfl⟩) (fun _ _ _ => rfl) (fun r' e => v4_ne (by omega))
theorem bz_upd {μ : St} {r k : Nat} {x : Int32} : upd (fun t => bz (μ r t)) k (vp_nar .boolean (bz x)) = fun t => bz (up μ r k x r t) := by
  funext q
  by_cases h : q = k
  · simp [upd, up, h, bz_vp]
  · simp [upd, up, h]
section XF
variable {p : Program} {l : Launch} {e : Env} {R : Room} {s : State} {m : MethodId} {args : Array Value} {below : List Frame} {meth : Method} {c : Code} {H : Heap} {locs : List Loc} {cells slots : Nat} {Q : State → Prop}
variable {cc : ByteArray} {pc : Nat} {ls : Array Slot} {rest : List Value} {E : EV} {own : String} {nL : Nat} {σ μ : St}
theorem g_X3_tills (F : Fx E p s m args c cc own nL) (hH : HS E s σ μ H locs) {idx : Nat} (hl : Cond.fieldLink own idx "TillHolds" "tills" "[LTillHolds$Till;" ∈ gtbl) (hdg : decode cc pc = .ok (.getfield idx, 3))
    (kk : W p l e R s m args below meth c H locs cells slots Q (F0 m (pc + 3) ls (.ref (ea E 1) :: rest))) : W p l e R s m args below meth c H locs cells slots Q (F0 m pc ls (.ref (ea E (0)) :: rest)) :=
  x_get F hH (0) (F.lt (by omega)) (vv0 (by decide)) rfl gX3 0 (by decide) hl rfl hdg kk
theorem g_X3_inHand (F : Fx E p s m args c cc own nL) (hH : HS E s σ μ H locs) {idx : Nat} (hl : Cond.fieldLink own idx "TillHolds" "inHand" "LTillHolds$Coins;" ∈ gtbl) (hdg : decode cc pc = .ok (.getfield idx, 3))
    (kk : W p l e R s m args below meth c H locs cells slots Q (F0 m (pc + 3) ls (.ref (ea E (13 + 8)) :: rest))) : W p l e R s m args below meth c H locs cells slots Q (F0 m pc ls (.ref (ea E (0)) :: rest)) :=
  x_get F hH (0) (F.lt (by omega)) (vv0 (by decide)) rfl gX3 1 (by decide) hl rfl hdg kk
theorem g_X3_holds (F : Fx E p s m args c cc own nL) (hH : HS E s σ μ H locs) {idx : Nat} (hl : Cond.fieldLink own idx "TillHolds" "holds" "LTillHolds$Holds;" ∈ gtbl) (hdg : decode cc pc = .ok (.getfield idx, 3))
    (kk : W p l e R s m args below meth c H locs cells slots Q (F0 m (pc + 3) ls (.ref (ea E 2) :: rest))) : W p l e R s m args below meth c H locs cells slots Q (F0 m pc ls (.ref (ea E (0)) :: rest)) :=
  x_get F hH (0) (F.lt (by omega)) (vv0 (by decide)) rfl gX3 2 (by decide) hl rfl hdg kk
theorem g_X3_picked (F : Fx E p s m args c cc own nL) (hH : HS E s σ μ H locs) {idx : Nat} (hl : Cond.fieldLink own idx "TillHolds" "picked" "LTillHolds$Coins;" ∈ gtbl) (hdg : decode cc pc = .ok (.getfield idx, 3))
    (kk : W p l e R s m args below meth c H locs cells slots Q (F0 m (pc + 3) ls (.ref (ea E (13 + 9)) :: rest))) : W p l e R s m args below meth c H locs cells slots Q (F0 m pc ls (.ref (ea E (0)) :: rest)) :=
  x_get F hH (0) (F.lt (by omega)) (vv0 (by decide)) rfl gX3 3 (by decide) hl rfl hdg kk
theorem g_X3_handBefore (F : Fx E p s m args c cc own nL) (hH : HS E s σ μ H locs) {idx : Nat} (hl : Cond.fieldLink own idx "TillHolds" "handBefore" "LTillHolds$Coins;" ∈ gtbl) (hdg : decode cc pc = .ok (.getfield idx, 3))
    (kk : W p l e R s m args below meth c H locs cells slots Q (F0 m (pc + 3) ls (.ref (ea E (13 + 10)) :: rest))) : W p l e R s m args below meth c H locs cells slots Q (F0 m pc ls (.ref (ea E (0)) :: rest)) :=
  x_get F hH (0) (F.lt (by omega)) (vv0 (by decide)) rfl gX3 4 (by decide) hl rfl hdg kk
theorem g_X3_coinsBefore (F : Fx E p s m args c cc own nL) (hH : HS E s σ μ H locs) {idx : Nat} (hl : Cond.fieldLink own idx "TillHolds" "coinsBefore" "[LTillHolds$Coins;" ∈ gtbl) (hdg : decode cc pc = .ok (.getfield idx, 3))
    (kk : W p l e R s m args below meth c H locs cells slots Q (F0 m (pc + 3) ls (.ref (ea E 3) :: rest))) : W p l e R s m args below meth c H locs cells slots Q (F0 m pc ls (.ref (ea E (0)) :: rest)) :=
  x_get F hH (0) (F.lt (by omega)) (vv0 (by decide)) rfl gX3 5 (by decide) hl rfl hdg kk
theorem g_X3_places (F : Fx E p s m args c cc own nL) (hH : HS E s σ μ H locs) {idx : Nat} (hl : Cond.fieldLink own idx "TillHolds" "places" "[I" ∈ gtbl) (hdg : decode cc pc = .ok (.getfield idx, 3))
    (kk : W p l e R s m args below meth c H locs cells slots Q (F0 m (pc + 3) ls (.ref (ea E 4) :: rest))) : W p l e R s m args below meth c H locs cells slots Q (F0 m pc ls (.ref (ea E (0)) :: rest)) :=
  x_get F hH (0) (F.lt (by omega)) (vv0 (by decide)) rfl gX3 6 (by decide) hl rfl hdg kk
theorem g_X0_of (F : Fx E p s m args c cc own nL) (hH : HS E s σ μ H locs) {j : Nat} (hj : j < 17) {idx : Nat} (hl : Cond.fieldLink own idx "TillHolds$Coins" "of" "[I" ∈ gtbl) (hdg : decode cc pc = .ok (.getfield idx, 3))
    (kk : W p l e R s m args below meth c H locs cells slots Q (F0 m (pc + 3) ls (.ref (ea E (30 + j)) :: rest))) : W p l e R s m args below meth c H locs cells slots Q (F0 m pc ls (.ref (ea E (13 + j)) :: rest)) :=
  x_get F hH (13 + j) (F.lt (by omega)) (vv2 hj) rfl gX0 0 (by decide) hl rfl hdg kk
theorem g_X2_coins (F : Fx E p s m args c cc own nL) (hH : HS E s σ μ H locs) {t : Nat} (ht : t < 8) {idx : Nat} (hl : Cond.fieldLink own idx "TillHolds$Till" "coins" "LTillHolds$Coins;" ∈ gtbl) (hdg : decode cc pc = .ok (.getfield idx, 3))
    (kk : W p l e R s m args below meth c H locs cells slots Q (F0 m (pc + 3) ls (.ref (ea E (13 + t)) :: rest))) : W p l e R s m args below meth c H locs cells slots Q (F0 m pc ls (.ref (ea E (5 + t)) :: rest)) :=
  x_get F hH (5 + t) (F.lt (by omega)) (vv1 ht) rfl gX2 0 (by decide) hl rfl hdg kk
theorem g_X2_isThere (F : Fx E p s m args c cc own nL) (hH : HS E s σ μ H locs) {t : Nat} (ht : t < 8) {idx : Nat} (hl : Cond.fieldLink own idx "TillHolds$Till" "isThere" "Z" ∈ gtbl) (hdg : decode cc pc = .ok (.getfield idx, 3))
    (kk : W p l e R s m args below meth c H locs cells slots Q (F0 m (pc + 3) ls (.int (bz (σ 17 t)) :: rest))) : W p l e R s m args below meth c H locs cells slots Q (F0 m pc ls (.ref (ea E (5 + t)) :: rest)) :=
  x_get F hH (5 + t) (F.lt (by omega)) (vv1 ht) rfl gX2 1 (by decide) hl rfl hdg kk
theorem g_X2_isShut (F : Fx E p s m args c cc own nL) (hH : HS E s σ μ H locs) {t : Nat} (ht : t < 8) {idx : Nat} (hl : Cond.fieldLink own idx "TillHolds$Till" "isShut" "Z" ∈ gtbl) (hdg : decode cc pc = .ok (.getfield idx, 3))
    (kk : W p l e R s m args below meth c H locs cells slots Q (F0 m (pc + 3) ls (.int (bz (σ 18 t)) :: rest))) : W p l e R s m args below meth c H locs cells slots Q (F0 m pc ls (.ref (ea E (5 + t)) :: rest)) :=
  x_get F hH (5 + t) (F.lt (by omega)) (vv1 ht) rfl gX2 2 (by decide) hl rfl hdg kk
theorem g_X2_limit (F : Fx E p s m args c cc own nL) (hH : HS E s σ μ H locs) {t : Nat} (ht : t < 8) {idx : Nat} (hl : Cond.fieldLink own idx "TillHolds$Till" "limit" "I" ∈ gtbl) (hdg : decode cc pc = .ok (.getfield idx, 3))
    (kk : W p l e R s m args below meth c H locs cells slots Q (F0 m (pc + 3) ls (.int (σ 19 t) :: rest))) : W p l e R s m args below meth c H locs cells slots Q (F0 m pc ls (.ref (ea E (5 + t)) :: rest)) :=
  x_get F hH (5 + t) (F.lt (by omega)) (vv1 ht) rfl gX2 3 (by decide) hl rfl hdg kk
theorem g_X1_begun (F : Fx E p s m args c cc own nL) (hH : HS E s σ μ H locs) {idx : Nat} (hl : Cond.fieldLink own idx "TillHolds$Holds" "begun" "I" ∈ gtbl) (hdg : decode cc pc = .ok (.getfield idx, 3))
    (kk : W p l e R s m args below meth c H locs cells slots Q (F0 m (pc + 3) ls (.int (σ 20 0) :: rest))) : W p l e R s m args below meth c H locs cells slots Q (F0 m pc ls (.ref (ea E (2)) :: rest)) :=
  x_get F hH (2) (F.lt (by omega)) (vv0 (by decide)) rfl gX1 0 (by decide) hl rfl hdg kk
theorem g_X1_left (F : Fx E p s m args c cc own nL) (hH : HS E s σ μ H locs) {idx : Nat} (hl : Cond.fieldLink own idx "TillHolds$Holds" "left" "I" ∈ gtbl) (hdg : decode cc pc = .ok (.getfield idx, 3))
    (kk : W p l e R s m args below meth c H locs cells slots Q (F0 m (pc + 3) ls (.int (σ 20 1) :: rest))) : W p l e R s m args below meth c H locs cells slots Q (F0 m pc ls (.ref (ea E (2)) :: rest)) :=
  x_get F hH (2) (F.lt (by omega)) (vv0 (by decide)) rfl gX1 1 (by decide) hl rfl hdg kk
theorem g_X1_depth (F : Fx E p s m args c cc own nL) (hH : HS E s σ μ H locs) {idx : Nat} (hl : Cond.fieldLink own idx "TillHolds$Holds" "depth" "I" ∈ gtbl) (hdg : decode cc pc = .ok (.getfield idx, 3))
    (kk : W p l e R s m args below meth c H locs cells slots Q (F0 m (pc + 3) ls (.int (σ 20 2) :: rest))) : W p l e R s m args below meth c H locs cells slots Q (F0 m pc ls (.ref (ea E (2)) :: rest)) :=
  x_get F hH (2) (F.lt (by omega)) (vv0 (by decide)) rfl gX1 2 (by decide) hl rfl hdg kk
theorem g_X1_deepest (F : Fx E p s m args c cc own nL) (hH : HS E s σ μ H locs) {idx : Nat} (hl : Cond.fieldLink own idx "TillHolds$Holds" "deepest" "I" ∈ gtbl) (hdg : decode cc pc = .ok (.getfield idx, 3))
    (kk : W p l e R s m args below meth c H locs cells slots Q (F0 m (pc + 3) ls (.int (σ 20 3) :: rest))) : W p l e R s m args below meth c H locs cells slots Q (F0 m pc ls (.ref (ea E (2)) :: rest)) :=
  x_get F hH (2) (F.lt (by omega)) (vv0 (by decide)) rfl gX1 3 (by decide) hl rfl hdg kk
theorem g_X4_thrown (F : Fx E p s m args c cc own nL) (hH : HS E s σ μ H locs) {idx : Nat} (hl : Cond.fieldLink own idx "TillHoldsModel" "thrown" "I" ∈ gtbl) (hdg : decode cc pc = .ok (.getfield idx, 3))
    (kk : W p l e R s m args below meth c H locs cells slots Q (F0 m (pc + 3) ls (.int (μ 0 0) :: rest))) : W p l e R s m args below meth c H locs cells slots Q (F0 m pc ls (.ref (ea E (47)) :: rest)) :=
  x_get F hH (47) (F.lt (by omega)) (vv4 0) rfl gX4 0 (by decide) hl rfl hdg kk
theorem g_X4_isThere (F : Fx E p s m args c cc own nL) (hH : HS E s σ μ H locs) {idx : Nat} (hl : Cond.fieldLink own idx "TillHoldsModel" "isThere" "[Z" ∈ gtbl) (hdg : decode cc pc = .ok (.getfield idx, 3))
    (kk : W p l e R s m args below meth c H locs cells slots Q (F0 m (pc + 3) ls (.ref (ea E (47 + 1)) :: rest))) : W p l e R s m args below meth c H locs cells slots Q (F0 m pc ls (.ref (ea E (47)) :: rest)) :=
  x_get F hH (47) (F.lt (by omega)) (vv4 0) rfl gX4 1 (by decide) hl rfl hdg kk
theorem g_X4_isShut (F : Fx E p s m args c cc own nL) (hH : HS E s σ μ H locs) {idx : Nat} (hl : Cond.fieldLink own idx "TillHoldsModel" "isShut" "[Z" ∈ gtbl) (hdg : decode cc pc = .ok (.getfield idx, 3))
    (kk : W p l e R s m args below meth c H locs cells slots Q (F0 m (pc + 3) ls (.ref (ea E (47 + 2)) :: rest))) : W p l e R s m args below meth c H locs cells slots Q (F0 m pc ls (.ref (ea E (47)) :: rest)) :=
  x_get F hH (47) (F.lt (by omega)) (vv4 0) rfl gX4 2 (by decide) hl rfl hdg kk
theorem g_X4_limit (F : Fx E p s m args c cc own nL) (hH : HS E s σ μ H locs) {idx : Nat} (hl : Cond.fieldLink own idx "TillHoldsModel" "limit" "[I" ∈ gtbl) (hdg : decode cc pc = .ok (.getfield idx, 3))
    (kk : W p l e R s m args below meth c H locs cells slots Q (F0 m (pc + 3) ls (.ref (ea E (47 + 3)) :: rest))) : W p l e R s m args below meth c H locs cells slots Q (F0 m pc ls (.ref (ea E (47)) :: rest)) :=
  x_get F hH (47) (F.lt (by omega)) (vv4 0) rfl gX4 3 (by decide) hl rfl hdg kk
theorem g_X4_coins (F : Fx E p s m args c cc own nL) (hH : HS E s σ μ H locs) {idx : Nat} (hl : Cond.fieldLink own idx "TillHoldsModel" "coins" "[I" ∈ gtbl) (hdg : decode cc pc = .ok (.getfield idx, 3))
    (kk : W p l e R s m args below meth c H locs cells slots Q (F0 m (pc + 3) ls (.ref (ea E (47 + 4)) :: rest))) : W p l e R s m args below meth c H locs cells slots Q (F0 m pc ls (.ref (ea E (47)) :: rest)) :=
  x_get F hH (47) (F.lt (by omega)) (vv4 0) rfl gX4 4 (by decide) hl rfl hdg kk
theorem g_X4_holds (F : Fx E p s m args c cc own nL) (hH : HS E s σ μ H locs) {idx : Nat} (hl : Cond.fieldLink own idx "TillHoldsModel" "holds" "I" ∈ gtbl) (hdg : decode cc pc = .ok (.getfield idx, 3))
    (kk : W p l e R s m args below meth c H locs cells slots Q (F0 m (pc + 3) ls (.int (μ 0 1) :: rest))) : W p l e R s m args below meth c H locs cells slots Q (F0 m pc ls (.ref (ea E (47)) :: rest)) :=
  x_get F hH (47) (F.lt (by omega)) (vv4 0) rfl gX4 5 (by decide) hl rfl hdg kk
theorem g_X4_left (F : Fx E p s m args c cc own nL) (hH : HS E s σ μ H locs) {idx : Nat} (hl : Cond.fieldLink own idx "TillHoldsModel" "left" "I" ∈ gtbl) (hdg : decode cc pc = .ok (.getfield idx, 3))
    (kk : W p l e R s m args below meth c H locs cells slots Q (F0 m (pc + 3) ls (.int (μ 0 2) :: rest))) : W p l e R s m args below meth c H locs cells slots Q (F0 m pc ls (.ref (ea E (47)) :: rest)) :=
  x_get F hH (47) (F.lt (by omega)) (vv4 0) rfl gX4 6 (by decide) hl rfl hdg kk
theorem g_X4_depth (F : Fx E p s m args c cc own nL) (hH : HS E s σ μ H locs) {idx : Nat} (hl : Cond.fieldLink own idx "TillHoldsModel" "depth" "I" ∈ gtbl) (hdg : decode cc pc = .ok (.getfield idx, 3))
    (kk : W p l e R s m args below meth c H locs cells slots Q (F0 m (pc + 3) ls (.int (μ 0 3) :: rest))) : W p l e R s m args below meth c H locs cells slots Q (F0 m pc ls (.ref (ea E (47)) :: rest)) :=
  x_get F hH (47) (F.lt (by omega)) (vv4 0) rfl gX4 7 (by decide) hl rfl hdg kk
theorem g_X4_deepest (F : Fx E p s m args c cc own nL) (hH : HS E s σ μ H locs) {idx : Nat} (hl : Cond.fieldLink own idx "TillHoldsModel" "deepest" "I" ∈ gtbl) (hdg : decode cc pc = .ok (.getfield idx, 3))
    (kk : W p l e R s m args below meth c H locs cells slots Q (F0 m (pc + 3) ls (.int (μ 0 4) :: rest))) : W p l e R s m args below meth c H locs cells slots Q (F0 m pc ls (.ref (ea E (47)) :: rest)) :=
  x_get F hH (47) (F.lt (by omega)) (vv4 0) rfl gX4 8 (by decide) hl rfl hdg kk
theorem g_X4_paid (F : Fx E p s m args c cc own nL) (hH : HS E s σ μ H locs) {idx : Nat} (hl : Cond.fieldLink own idx "TillHoldsModel" "paid" "[I" ∈ gtbl) (hdg : decode cc pc = .ok (.getfield idx, 3))
    (kk : W p l e R s m args below meth c H locs cells slots Q (F0 m (pc + 3) ls (.ref (ea E (47 + 5)) :: rest))) : W p l e R s m args below meth c H locs cells slots Q (F0 m pc ls (.ref (ea E (47)) :: rest)) :=
  x_get F hH (47) (F.lt (by omega)) (vv4 0) rfl gX4 9 (by decide) hl rfl hdg kk
theorem g_X4_kept (F : Fx E p s m args c cc own nL) (hH : HS E s σ μ H locs) {idx : Nat} (hl : Cond.fieldLink own idx "TillHoldsModel" "kept" "[I" ∈ gtbl) (hdg : decode cc pc = .ok (.getfield idx, 3))
    (kk : W p l e R s m args below meth c H locs cells slots Q (F0 m (pc + 3) ls (.ref (ea E (47 + 6)) :: rest))) : W p l e R s m args below meth c H locs cells slots Q (F0 m pc ls (.ref (ea E (47)) :: rest)) :=
  x_get F hH (47) (F.lt (by omega)) (vv4 0) rfl gX4 10 (by decide) hl rfl hdg kk
theorem p_X2_isThere (F : Fx E p s m args c cc own nL) (hH : HS E s σ μ H locs) {t : Nat} (ht : t < 8) {idx : Nat} {x : Int32} (hl : Cond.fieldLink own idx "TillHolds$Till" "isThere" "Z" ∈ gtbl) (hdg : decode cc pc = .ok (.putfield idx, 3))
    (kk : ∀ (H1 : Heap) (locs1 : List Loc), HS E s (up σ 17 t x) μ H1 locs1 → W p l e R s m args below meth c H1 locs1 cells slots Q (F0 m (pc + 3) ls rest)) : W p l e R s m args below meth c H locs cells slots Q (F0 m pc ls (.int (bz x) :: .ref (ea E (5 + t)) :: rest)) :=
  x_put F hH (up σ 17 t x) μ (5 + t) (F.lt (by omega)) (vv1 ht) rfl gX2 tyX2 tyX2_ok nmX2 1 (by decide) hl rfl (ty := .boolean) (by decide +kernel) (bz_nar x) (bz_fit x) (Nat.le_of_ble_eq_true rfl) hdg
    (by rw [vv1 ht]; simp [v1, up]) (vo_till (by omega)) kk
theorem p_X2_isShut (F : Fx E p s m args c cc own nL) (hH : HS E s σ μ H locs) {t : Nat} (ht : t < 8) {idx : Nat} {x : Int32} (hl : Cond.fieldLink own idx "TillHolds$Till" "isShut" "Z" ∈ gtbl) (hdg : decode cc pc = .ok (.putfield idx, 3))
    (kk : ∀ (H1 : Heap) (locs1 : List Loc), HS E s (up σ 18 t x) μ H1 locs1 → W p l e R s m args below meth c H1 locs1 cells slots Q (F0 m (pc + 3) ls rest)) : W p l e R s m args below meth c H locs cells slots Q (F0 m pc ls (.int (bz x) :: .ref (ea E (5 + t)) :: rest)) :=
  x_put F hH (up σ 18 t x) μ (5 + t) (F.lt (by omega)) (vv1 ht) rfl gX2 tyX2 tyX2_ok nmX2 2 (by decide) hl rfl (ty := .boolean) (by decide +kernel) (bz_nar x) (bz_fit x) (Nat.le_of_ble_eq_true rfl) hdg
    (by rw [vv1 ht]; simp [v1, up]) (vo_till (by omega)) kk
theorem p_X2_limit (F : Fx E p s m args c cc own nL) (hH : HS E s σ μ H locs) {t : Nat} (ht : t < 8) {idx : Nat} {x : Int32} (hl : Cond.fieldLink own idx "TillHolds$Till" "limit" "I" ∈ gtbl) (hdg : decode cc pc = .ok (.putfield idx, 3))
    (kk : ∀ (H1 : Heap) (locs1 : List Loc), HS E s (up σ 19 t x) μ H1 locs1 → W p l e R s m args below meth c H1 locs1 cells slots Q (F0 m (pc + 3) ls rest)) : W p l e R s m args below meth c H locs cells slots Q (F0 m pc ls (.int x :: .ref (ea E (5 + t)) :: rest)) :=
  x_put F hH (up σ 19 t x) μ (5 + t) (F.lt (by omega)) (vv1 ht) rfl gX2 tyX2 tyX2_ok nmX2 3 (by decide) hl rfl (ty := .int) (by decide +kernel) rfl rfl (Nat.le_of_ble_eq_true rfl) hdg
    (by rw [vv1 ht]; simp [v1, up]) (vo_till (by omega)) kk
theorem p_X1_begun (F : Fx E p s m args c cc own nL) (hH : HS E s σ μ H locs) {idx : Nat} {x : Int32} (hl : Cond.fieldLink own idx "TillHolds$Holds" "begun" "I" ∈ gtbl) (hdg : decode cc pc = .ok (.putfield idx, 3))
    (kk : ∀ (H1 : Heap) (locs1 : List Loc), HS E s (up σ 20 0 x) μ H1 locs1 → W p l e R s m args below meth c H1 locs1 cells slots Q (F0 m (pc + 3) ls rest)) : W p l e R s m args below meth c H locs cells slots Q (F0 m pc ls (.int x :: .ref (ea E (2)) :: rest)) :=
  x_put F hH (up σ 20 0 x) μ (2) (F.lt (by omega)) (vv0 (by decide)) rfl gX1 tyX1 tyX1_ok nmX1 0 (by decide) hl rfl (ty := .int) (by decide +kernel) rfl rfl (Nat.le_of_ble_eq_true rfl) hdg
    (by rw [vv0 (by decide)]; simp [v0, up]) vo_holds kk
theorem p_X1_left (F : Fx E p s m args c cc own nL) (hH : HS E s σ μ H locs) {idx : Nat} {x : Int32} (hl : Cond.fieldLink own idx "TillHolds$Holds" "left" "I" ∈ gtbl) (hdg : decode cc pc = .ok (.putfield idx, 3))
    (kk : ∀ (H1 : Heap) (locs1 : List Loc), HS E s (up σ 20 1 x) μ H1 locs1 → W p l e R s m args below meth c H1 locs1 cells slots Q (F0 m (pc + 3) ls rest)) : W p l e R s m args below meth c H locs cells slots Q (F0 m pc ls (.int x :: .ref (ea E (2)) :: rest)) :=
  x_put F hH (up σ 20 1 x) μ (2) (F.lt (by omega)) (vv0 (by decide)) rfl gX1 tyX1 tyX1_ok nmX1 1 (by decide) hl rfl (ty := .int) (by decide +kernel) rfl rfl (Nat.le_of_ble_eq_true rfl) hdg
    (by rw [vv0 (by decide)]; simp [v0, up]) vo_holds kk
theorem p_X1_depth (F : Fx E p s m args c cc own nL) (hH : HS E s σ μ H locs) {idx : Nat} {x : Int32} (hl : Cond.fieldLink own idx "TillHolds$Holds" "depth" "I" ∈ gtbl) (hdg : decode cc pc = .ok (.putfield idx, 3))
    (kk : ∀ (H1 : Heap) (locs1 : List Loc), HS E s (up σ 20 2 x) μ H1 locs1 → W p l e R s m args below meth c H1 locs1 cells slots Q (F0 m (pc + 3) ls rest)) : W p l e R s m args below meth c H locs cells slots Q (F0 m pc ls (.int x :: .ref (ea E (2)) :: rest)) :=
  x_put F hH (up σ 20 2 x) μ (2) (F.lt (by omega)) (vv0 (by decide)) rfl gX1 tyX1 tyX1_ok nmX1 2 (by decide) hl rfl (ty := .int) (by decide +kernel) rfl rfl (Nat.le_of_ble_eq_true rfl) hdg
    (by rw [vv0 (by decide)]; simp [v0, up]) vo_holds kk
theorem p_X1_deepest (F : Fx E p s m args c cc own nL) (hH : HS E s σ μ H locs) {idx : Nat} {x : Int32} (hl : Cond.fieldLink own idx "TillHolds$Holds" "deepest" "I" ∈ gtbl) (hdg : decode cc pc = .ok (.putfield idx, 3))
    (kk : ∀ (H1 : Heap) (locs1 : List Loc), HS E s (up σ 20 3 x) μ H1 locs1 → W p l e R s m args below meth c H1 locs1 cells slots Q (F0 m (pc + 3) ls rest)) : W p l e R s m args below meth c H locs cells slots Q (F0 m pc ls (.int x :: .ref (ea E (2)) :: rest)) :=
  x_put F hH (up σ 20 3 x) μ (2) (F.lt (by omega)) (vv0 (by decide)) rfl gX1 tyX1 tyX1_ok nmX1 3 (by decide) hl rfl (ty := .int) (by decide +kernel) rfl rfl (Nat.le_of_ble_eq_true rfl) hdg
    (by rw [vv0 (by decide)]; simp [v0, up]) vo_holds kk
theorem p_X4_thrown (F : Fx E p s m args c cc own nL) (hH : HS E s σ μ H locs) {idx : Nat} {x : Int32} (hl : Cond.fieldLink own idx "TillHoldsModel" "thrown" "I" ∈ gtbl) (hdg : decode cc pc = .ok (.putfield idx, 3))
    (kk : ∀ (H1 : Heap) (locs1 : List Loc), HS E s σ (up μ 0 0 x) H1 locs1 → W p l e R s m args below meth c H1 locs1 cells slots Q (F0 m (pc + 3) ls rest)) : W p l e R s m args below meth c H locs cells slots Q (F0 m pc ls (.int x :: .ref (ea E (47)) :: rest)) :=
  x_put F hH σ (up μ 0 0 x) (47) (F.lt (by omega)) (vv4 0) rfl gX4 tyX4 tyX4_ok nmX4 0 (by decide) hl rfl (ty := .int) (by decide +kernel) rfl rfl (Nat.le_of_ble_eq_true rfl) hdg
    (by rw [vv4 0]; simp [v4, up]) (fun i hi => vo_model (r := 0) i hi) kk
theorem p_X4_holds (F : Fx E p s m args c cc own nL) (hH : HS E s σ μ H locs) {idx : Nat} {x : Int32} (hl : Cond.fieldLink own idx "TillHoldsModel" "holds" "I" ∈ gtbl) (hdg : decode cc pc = .ok (.putfield idx, 3))
    (kk : ∀ (H1 : Heap) (locs1 : List Loc), HS E s σ (up μ 0 1 x) H1 locs1 → W p l e R s m args below meth c H1 locs1 cells slots Q (F0 m (pc + 3) ls rest)) : W p l e R s m args below meth c H locs cells slots Q (F0 m pc ls (.int x :: .ref (ea E (47)) :: rest)) :=
  x_put F hH σ (up μ 0 1 x) (47) (F.lt (by omega)) (vv4 0) rfl gX4 tyX4 tyX4_ok nmX4 5 (by decide) hl rfl (ty := .int) (by decide +kernel) rfl rfl (Nat.le_of_ble_eq_true rfl) hdg
    (by rw [vv4 0]; simp [v4, up]) (fun i hi => vo_model (r := 0) i hi) kk
theorem p_X4_left (F : Fx E p s m args c cc own nL) (hH : HS E s σ μ H locs) {idx : Nat} {x : Int32} (hl : Cond.fieldLink own idx "TillHoldsModel" "left" "I" ∈ gtbl) (hdg : decode cc pc = .ok (.putfield idx, 3))
    (kk : ∀ (H1 : Heap) (locs1 : List Loc), HS E s σ (up μ 0 2 x) H1 locs1 → W p l e R s m args below meth c H1 locs1 cells slots Q (F0 m (pc + 3) ls rest)) : W p l e R s m args below meth c H locs cells slots Q (F0 m pc ls (.int x :: .ref (ea E (47)) :: rest)) :=
  x_put F hH σ (up μ 0 2 x) (47) (F.lt (by omega)) (vv4 0) rfl gX4 tyX4 tyX4_ok nmX4 6 (by decide) hl rfl (ty := .int) (by decide +kernel) rfl rfl (Nat.le_of_ble_eq_true rfl) hdg
    (by rw [vv4 0]; simp [v4, up]) (fun i hi => vo_model (r := 0) i hi) kk
theorem p_X4_depth (F : Fx E p s m args c cc own nL) (hH : HS E s σ μ H locs) {idx : Nat} {x : Int32} (hl : Cond.fieldLink own idx "TillHoldsModel" "depth" "I" ∈ gtbl) (hdg : decode cc pc = .ok (.putfield idx, 3))
    (kk : ∀ (H1 : Heap) (locs1 : List Loc), HS E s σ (up μ 0 3 x) H1 locs1 → W p l e R s m args below meth c H1 locs1 cells slots Q (F0 m (pc + 3) ls rest)) : W p l e R s m args below meth c H locs cells slots Q (F0 m pc ls (.int x :: .ref (ea E (47)) :: rest)) :=
  x_put F hH σ (up μ 0 3 x) (47) (F.lt (by omega)) (vv4 0) rfl gX4 tyX4 tyX4_ok nmX4 7 (by decide) hl rfl (ty := .int) (by decide +kernel) rfl rfl (Nat.le_of_ble_eq_true rfl) hdg
    (by rw [vv4 0]; simp [v4, up]) (fun i hi => vo_model (r := 0) i hi) kk
theorem p_X4_deepest (F : Fx E p s m args c cc own nL) (hH : HS E s σ μ H locs) {idx : Nat} {x : Int32} (hl : Cond.fieldLink own idx "TillHoldsModel" "deepest" "I" ∈ gtbl) (hdg : decode cc pc = .ok (.putfield idx, 3))
    (kk : ∀ (H1 : Heap) (locs1 : List Loc), HS E s σ (up μ 0 4 x) H1 locs1 → W p l e R s m args below meth c H1 locs1 cells slots Q (F0 m (pc + 3) ls rest)) : W p l e R s m args below meth c H locs cells slots Q (F0 m pc ls (.int x :: .ref (ea E (47)) :: rest)) :=
  x_put F hH σ (up μ 0 4 x) (47) (F.lt (by omega)) (vv4 0) rfl gX4 tyX4 tyX4_ok nmX4 8 (by decide) hl rfl (ty := .int) (by decide +kernel) rfl rfl (Nat.le_of_ble_eq_true rfl) hdg
    (by rw [vv4 0]; simp [v4, up]) (fun i hi => vo_model (r := 0) i hi) kk
theorem a_tills (F : Fx E p s m args c cc own nL) (hH : HS E s σ μ H locs) (t : Nat) (ht : t < 8) (hdg : decode cc pc = .ok (.aaload, 1))
    (kk : W p l e R s m args below meth c H locs cells slots Q (F0 m (pc + 1) ls (.ref (ea E (5 + t)) :: rest))) : W p l e R s m args below meth c H locs cells slots Q (F0 m pc ls (.int (nI t) :: .ref (ea E 1) :: rest)) :=
  x_ald F hH 1 2 (F.lt (by omega)) (vv0 (by decide)) rfl t (if_pos ht) ht (by decide) hdg kk
theorem a_cb (F : Fx E p s m args c cc own nL) (hH : HS E s σ μ H locs) (t : Nat) (ht : t < 6) (hdg : decode cc pc = .ok (.aaload, 1))
    (kk : W p l e R s m args below meth c H locs cells slots Q (F0 m (pc + 1) ls (.ref (ea E (13 + (11 + t))) :: rest))) : W p l e R s m args below meth c H locs cells slots Q (F0 m pc ls (.int (nI t) :: .ref (ea E 3) :: rest)) :=
  x_ald F hH 3 3 (F.lt (by omega)) (vv0 (by decide)) rfl t ((if_pos ht).trans (show some (ea E (24 + t)) = some (ea E (13 + (11 + t))) by rw [show 13 + (11 + t) = 24 + t by omega])) ht (by decide) hdg kk
theorem a_of (F : Fx E p s m args c cc own nL) (hH : HS E s σ μ H locs) {j : Nat} (hj : j < 17) (k : Nat) (hk : k < 5) (hdg : decode cc pc = .ok (.iaload, 1))
    (kk : W p l e R s m args below meth c H locs cells slots Q (F0 m (pc + 1) ls (.int (σ j k) :: rest))) : W p l e R s m args below meth c H locs cells slots Q (F0 m pc ls (.int (nI k) :: .ref (ea E (30 + j)) :: rest)) :=
  x_ild F hH (30 + j) (F.lt (by omega)) (vv3 hj) k hk (by decide) hdg kk
theorem s_of (F : Fx E p s m args c cc own nL) (hH : HS E s σ μ H locs) {j : Nat} (hj : j < 17) (k : Nat) (hk : k < 5) {x : Int32} (hdg : decode cc pc = .ok (.iastore, 1))
    (kk : ∀ (H1 : Heap) (locs1 : List Loc), HS E s (up σ j k x) μ H1 locs1 → W p l e R s m args below meth c H1 locs1 cells slots Q (F0 m (pc + 1) ls rest)) : W p l e R s m args below meth c H locs cells slots Q (F0 m pc ls (.int x :: .int (nI k) :: .ref (ea E (30 + j)) :: rest)) :=
  x_ist F hH (up σ j k x) μ (30 + j) (F.lt (by omega)) (vv3 hj) k hk (by decide) hdg (by rw [vv3 hj, v3, up_upd]) (vo_arr hj) kk
theorem a_places (F : Fx E p s m args c cc own nL) (hH : HS E s σ μ H locs) (k : Nat) (hk : k < 6) (hdg : decode cc pc = .ok (.iaload, 1))
    (kk : W p l e R s m args below meth c H locs cells slots Q (F0 m (pc + 1) ls (.int (σ 21 k) :: rest))) : W p l e R s m args below meth c H locs cells slots Q (F0 m pc ls (.int (nI k) :: .ref (ea E 4) :: rest)) :=
  x_ild F hH 4 (F.lt (by omega)) (vv0 (by decide)) k hk (by decide) hdg kk
theorem s_places (F : Fx E p s m args c cc own nL) (hH : HS E s σ μ H locs) (k : Nat) (hk : k < 6) {x : Int32} (hdg : decode cc pc = .ok (.iastore, 1))
    (kk : ∀ (H1 : Heap) (locs1 : List Loc), HS E s (up σ 21 k x) μ H1 locs1 → W p l e R s m args below meth c H1 locs1 cells slots Q (F0 m (pc + 1) ls rest)) : W p l e R s m args below meth c H locs cells slots Q (F0 m pc ls (.int x :: .int (nI k) :: .ref (ea E 4) :: rest)) :=
  x_ist F hH (up σ 21 k x) μ 4 (F.lt (by omega)) (vv0 (by decide)) k hk (by decide) hdg (by rw [vv0 (by decide)]; simp only [v0, up_upd]) vo_places kk
theorem a_mli (F : Fx E p s m args c cc own nL) (hH : HS E s σ μ H locs) (k : Nat) (hk : k < 8) (hdg : decode cc pc = .ok (.iaload, 1))
    (kk : W p l e R s m args below meth c H locs cells slots Q (F0 m (pc + 1) ls (.int (μ 3 k) :: rest))) : W p l e R s m args below meth c H locs cells slots Q (F0 m pc ls (.int (nI k) :: .ref (ea E (47 + 3)) :: rest)) :=
  x_ild F hH (47 + 3) (F.lt (by omega)) (vv4 3) k hk (by decide) hdg kk
theorem s_mli (F : Fx E p s m args c cc own nL) (hH : HS E s σ μ H locs) (k : Nat) (hk : k < 8) {x : Int32} (hdg : decode cc pc = .ok (.iastore, 1))
    (kk : ∀ (H1 : Heap) (locs1 : List Loc), HS E s σ (up μ 3 k x) H1 locs1 → W p l e R s m args below meth c H1 locs1 cells slots Q (F0 m (pc + 1) ls rest)) : W p l e R s m args below meth c H locs cells slots Q (F0 m pc ls (.int x :: .int (nI k) :: .ref (ea E (47 + 3)) :: rest)) :=
  x_ist F hH σ (up μ 3 k x) (47 + 3) (F.lt (by omega)) (vv4 3) k hk (by decide) hdg (by rw [vv4]; simp only [v4, up_upd]) vo_model kk
theorem a_mco (F : Fx E p s m args c cc own nL) (hH : HS E s σ μ H locs) (k : Nat) (hk : k < 45) (hdg : decode cc pc = .ok (.iaload, 1))
    (kk : W p l e R s m args below meth c H locs cells slots Q (F0 m (pc + 1) ls (.int (μ 4 k) :: rest))) : W p l e R s m args below meth c H locs cells slots Q (F0 m pc ls (.int (nI k) :: .ref (ea E (47 + 4)) :: rest)) :=
  x_ild F hH (47 + 4) (F.lt (by omega)) (vv4 4) k hk (by decide) hdg kk
theorem s_mco (F : Fx E p s m args c cc own nL) (hH : HS E s σ μ H locs) (k : Nat) (hk : k < 45) {x : Int32} (hdg : decode cc pc = .ok (.iastore, 1))
    (kk : ∀ (H1 : Heap) (locs1 : List Loc), HS E s σ (up μ 4 k x) H1 locs1 → W p l e R s m args below meth c H1 locs1 cells slots Q (F0 m (pc + 1) ls rest)) : W p l e R s m args below meth c H locs cells slots Q (F0 m pc ls (.int x :: .int (nI k) :: .ref (ea E (47 + 4)) :: rest)) :=
  x_ist F hH σ (up μ 4 k x) (47 + 4) (F.lt (by omega)) (vv4 4) k hk (by decide) hdg (by rw [vv4]; simp only [v4, up_upd]) vo_model kk
theorem a_mpa (F : Fx E p s m args c cc own nL) (hH : HS E s σ μ H locs) (k : Nat) (hk : k < 5) (hdg : decode cc pc = .ok (.iaload, 1))
    (kk : W p l e R s m args below meth c H locs cells slots Q (F0 m (pc + 1) ls (.int (μ 5 k) :: rest))) : W p l e R s m args below meth c H locs cells slots Q (F0 m pc ls (.int (nI k) :: .ref (ea E (47 + 5)) :: rest)) :=
  x_ild F hH (47 + 5) (F.lt (by omega)) (vv4 5) k hk (by decide) hdg kk
theorem s_mpa (F : Fx E p s m args c cc own nL) (hH : HS E s σ μ H locs) (k : Nat) (hk : k < 5) {x : Int32} (hdg : decode cc pc = .ok (.iastore, 1))
    (kk : ∀ (H1 : Heap) (locs1 : List Loc), HS E s σ (up μ 5 k x) H1 locs1 → W p l e R s m args below meth c H1 locs1 cells slots Q (F0 m (pc + 1) ls rest)) : W p l e R s m args below meth c H locs cells slots Q (F0 m pc ls (.int x :: .int (nI k) :: .ref (ea E (47 + 5)) :: rest)) :=
  x_ist F hH σ (up μ 5 k x) (47 + 5) (F.lt (by omega)) (vv4 5) k hk (by decide) hdg (by rw [vv4]; simp only [v4, up_upd]) vo_model kk
theorem a_mke (F : Fx E p s m args c cc own nL) (hH : HS E s σ μ H locs) (k : Nat) (hk : k < 35) (hdg : decode cc pc = .ok (.iaload, 1))
    (kk : W p l e R s m args below meth c H locs cells slots Q (F0 m (pc + 1) ls (.int (μ 6 k) :: rest))) : W p l e R s m args below meth c H locs cells slots Q (F0 m pc ls (.int (nI k) :: .ref (ea E (47 + 6)) :: rest)) :=
  x_ild F hH (47 + 6) (F.lt (by omega)) (vv4 6) k hk (by decide) hdg kk
theorem s_mke (F : Fx E p s m args c cc own nL) (hH : HS E s σ μ H locs) (k : Nat) (hk : k < 35) {x : Int32} (hdg : decode cc pc = .ok (.iastore, 1))
    (kk : ∀ (H1 : Heap) (locs1 : List Loc), HS E s σ (up μ 6 k x) H1 locs1 → W p l e R s m args below meth c H1 locs1 cells slots Q (F0 m (pc + 1) ls rest)) : W p l e R s m args below meth c H locs cells slots Q (F0 m pc ls (.int x :: .int (nI k) :: .ref (ea E (47 + 6)) :: rest)) :=
  x_ist F hH σ (up μ 6 k x) (47 + 6) (F.lt (by omega)) (vv4 6) k hk (by decide) hdg (by rw [vv4]; simp only [v4, up_upd]) vo_model kk
theorem a_mtm (F : Fx E p s m args c cc own nL) (hH : HS E s σ μ H locs) (h55 : 54 < en E) (k : Nat) (hk : k < 5) (hdg : decode cc pc = .ok (.iaload, 1))
    (kk : W p l e R s m args below meth c H locs cells slots Q (F0 m (pc + 1) ls (.int (μ 7 k) :: rest))) : W p l e R s m args below meth c H locs cells slots Q (F0 m pc ls (.int (nI k) :: .ref (ea E (47 + 7)) :: rest)) :=
  x_ild F hH (47 + 7) h55 (vv4 7) k hk (by decide) hdg kk
theorem s_mtm (F : Fx E p s m args c cc own nL) (hH : HS E s σ μ H locs) (h55 : 54 < en E) (k : Nat) (hk : k < 5) {x : Int32} (hdg : decode cc pc = .ok (.iastore, 1))
    (kk : ∀ (H1 : Heap) (locs1 : List Loc), HS E s σ (up μ 7 k x) H1 locs1 → W p l e R s m args below meth c H1 locs1 cells slots Q (F0 m (pc + 1) ls rest)) : W p l e R s m args below meth c H locs cells slots Q (F0 m pc ls (.int x :: .int (nI k) :: .ref (ea E (47 + 7)) :: rest)) :=
  x_ist F hH σ (up μ 7 k x) (47 + 7) h55 (vv4 7) k hk (by decide) hdg (by rw [vv4]; simp only [v4, up_upd]) vo_model kk
theorem a_mth (F : Fx E p s m args c cc own nL) (hH : HS E s σ μ H locs) (k : Nat) (hk : k < 8) (hdg : decode cc pc = .ok (.baload, 1))
    (kk : W p l e R s m args below meth c H locs cells slots Q (F0 m (pc + 1) ls (.int (bz (μ 1 k)) :: rest))) : W p l e R s m args below meth c H locs cells slots Q (F0 m pc ls (.int (nI k) :: .ref (ea E (47 + 1)) :: rest)) :=
  x_zld F hH (47 + 1) (F.lt (by omega)) (vv4 1) k hk (by decide) hdg kk
theorem s_mth (F : Fx E p s m args c cc own nL) (hH : HS E s σ μ H locs) (k : Nat) (hk : k < 8) {x : Int32} (hdg : decode cc pc = .ok (.bastore, 1))
    (kk : ∀ (H1 : Heap) (locs1 : List Loc), HS E s σ (up μ 1 k x) H1 locs1 → W p l e R s m args below meth c H1 locs1 cells slots Q (F0 m (pc + 1) ls rest)) : W p l e R s m args below meth c H locs cells slots Q (F0 m pc ls (.int (bz x) :: .int (nI k) :: .ref (ea E (47 + 1)) :: rest)) :=
  x_zst F hH σ (up μ 1 k x) (47 + 1) (F.lt (by omega)) (vv4 1) k hk (by decide) hdg (by rw [vv4, bz_upd]; rfl) vo_model kk
theorem a_msh (F : Fx E p s m args c cc own nL) (hH : HS E s σ μ H locs) (k : Nat) (hk : k < 8) (hdg : decode cc pc = .ok (.baload, 1))
    (kk : W p l e R s m args below meth c H locs cells slots Q (F0 m (pc + 1) ls (.int (bz (μ 2 k)) :: rest))) : W p l e R s m args below meth c H locs cells slots Q (F0 m pc ls (.int (nI k) :: .ref (ea E (47 + 2)) :: rest)) :=
  x_zld F hH (47 + 2) (F.lt (by omega)) (vv4 2) k hk (by decide) hdg kk
theorem s_msh (F : Fx E p s m args c cc own nL) (hH : HS E s σ μ H locs) (k : Nat) (hk : k < 8) {x : Int32} (hdg : decode cc pc = .ok (.bastore, 1))
    (kk : ∀ (H1 : Heap) (locs1 : List Loc), HS E s σ (up μ 2 k x) H1 locs1 → W p l e R s m args below meth c H1 locs1 cells slots Q (F0 m (pc + 1) ls rest)) : W p l e R s m args below meth c H locs cells slots Q (F0 m pc ls (.int (bz x) :: .int (nI k) :: .ref (ea E (47 + 2)) :: rest)) :=
  x_zst F hH σ (up μ 2 k x) (47 + 2) (F.lt (by omega)) (vv4 2) k hk (by decide) hdg (by rw [vv4, bz_upd]; rfl) vo_model kk
theorem a_mA (F : Fx E p s m args c cc own nL) (hH : HS E s σ μ H locs) {w : Nat} (hw : w = 5 ∨ (w = 7 ∧ 54 < en E)) (k : Nat) (hk : k < 5) (hdg : decode cc pc = .ok (.iaload, 1))
    (kk : W p l e R s m args below meth c H locs cells slots Q (F0 m (pc + 1) ls (.int (μ w k) :: rest))) : W p l e R s m args below meth c H locs cells slots Q (F0 m pc ls (.int (nI k) :: .ref (ea E (47 + w)) :: rest)) := by
  rcases hw with rfl | ⟨rfl, h55⟩
  · exact a_mpa F hH k hk hdg kk
  · exact a_mtm F hH h55 k hk hdg kk
end XF
end
section
theorem kw_0 : (Cond.selects ({ cls := "TillHolds", name := "begin", desc := "(LTillHolds$Till;)Z" } : MethodName).cls ({ cls := "TillHolds", name := "begin", desc := "(LTillHolds$Till;)Z" } : MethodName) ({ cls := "TillHolds", name := "begin", desc := "(LTillHolds$Till;)Z" } : MethodName)) ∈ gtbl := gm (List.mem_of_getElem? (i := 0) (by decide +kernel)) (by decide +kernel)
theorem kw_1 : (Cond.selects ({ cls := "TillHolds", name := "end", desc := "(I)I" } : MethodName).cls ({ cls := "TillHolds", name := "end", desc := "(I)I" } : MethodName) ({ cls := "TillHolds", name := "end", desc := "(I)I" } : MethodName)) ∈ gtbl := gm (List.mem_of_getElem? (i := 1) (by decide +kernel)) (by decide +kernel)
theorem kw_2 : (Cond.selects ({ cls := "TillHolds", name := "layPicked", desc := "(LTillHolds$Till;)I" } : MethodName).cls ({ cls := "TillHolds", name := "layPicked", desc := "(LTillHolds$Till;)I" } : MethodName) ({ cls := "TillHolds", name := "layPicked", desc := "(LTillHolds$Till;)I" } : MethodName)) ∈ gtbl := gm (List.mem_of_getElem? (i := 2) (by decide +kernel)) (by decide +kernel)
theorem kw_3 : (Cond.selects ({ cls := "TillHolds", name := "pay", desc := "(LTillHolds$Till;I)I" } : MethodName).cls ({ cls := "TillHolds", name := "pay", desc := "(LTillHolds$Till;I)I" } : MethodName) ({ cls := "TillHolds", name := "pay", desc := "(LTillHolds$Till;I)I" } : MethodName)) ∈ gtbl := gm (List.mem_of_getElem? (i := 3) (by decide +kernel)) (by decide +kernel)
theorem kw_4 : (Cond.selects ({ cls := "TillHolds", name := "pick", desc := "(LTillHolds$Till;I)Z" } : MethodName).cls ({ cls := "TillHolds", name := "pick", desc := "(LTillHolds$Till;I)Z" } : MethodName) ({ cls := "TillHolds", name := "pick", desc := "(LTillHolds$Till;I)Z" } : MethodName)) ∈ gtbl := gm (List.mem_of_getElem? (i := 4) (by decide +kernel)) (by decide +kernel)
theorem kw_5 : (Cond.selects ({ cls := "TillHolds", name := "moveWithin", desc := "(LTillHolds$Till;LTillHolds$Till;IZ)I" } : MethodName).cls ({ cls := "TillHolds", name := "moveWithin", desc := "(LTillHolds$Till;LTillHolds$Till;IZ)I" } : MethodName) ({ cls := "TillHolds", name := "moveWithin", desc := "(LTillHolds$Till;LTillHolds$Till;IZ)I" } : MethodName)) ∈ gtbl := gm (List.mem_of_getElem? (i := 5) (by decide +kernel)) (by decide +kernel)
theorem kw_6 : (Cond.selects ({ cls := "TillHolds", name := "readRow", desc := "(I)I" } : MethodName).cls ({ cls := "TillHolds", name := "readRow", desc := "(I)I" } : MethodName) ({ cls := "TillHolds", name := "readRow", desc := "(I)I" } : MethodName)) ∈ gtbl := gm (List.mem_of_getElem? (i := 6) (by decide +kernel)) (by decide +kernel)
theorem kw_7 : (Cond.selects ({ cls := "TillHolds", name := "passFrom", desc := "(IIIZ)I" } : MethodName).cls ({ cls := "TillHolds", name := "passFrom", desc := "(IIIZ)I" } : MethodName) ({ cls := "TillHolds", name := "passFrom", desc := "(IIIZ)I" } : MethodName)) ∈ gtbl := gm (List.mem_of_getElem? (i := 7) (by decide +kernel)) (by decide +kernel)
theorem kw_8 : (Cond.selects ({ cls := "TillHolds", name := "passWithin", desc := "(LTillHolds$Till;IIIZ)I" } : MethodName).cls ({ cls := "TillHolds", name := "passWithin", desc := "(LTillHolds$Till;IIIZ)I" } : MethodName) ({ cls := "TillHolds", name := "passWithin", desc := "(LTillHolds$Till;IIIZ)I" } : MethodName)) ∈ gtbl := gm (List.mem_of_getElem? (i := 8) (by decide +kernel)) (by decide +kernel)
theorem kw_9 : (Cond.selects ({ cls := "TillHolds", name := "couldPay", desc := "(LTillHolds$Till;I)Z" } : MethodName).cls ({ cls := "TillHolds", name := "couldPay", desc := "(LTillHolds$Till;I)Z" } : MethodName) ({ cls := "TillHolds", name := "couldPay", desc := "(LTillHolds$Till;I)Z" } : MethodName)) ∈ gtbl := gm (List.mem_of_getElem? (i := 9) (by decide +kernel)) (by decide +kernel)
theorem kw_10 : (Cond.selects ({ cls := "TillHolds", name := "tillsThere", desc := "()I" } : MethodName).cls ({ cls := "TillHolds", name := "tillsThere", desc := "()I" } : MethodName) ({ cls := "TillHolds", name := "tillsThere", desc := "()I" } : MethodName)) ∈ gtbl := gm (List.mem_of_getElem? (i := 10) (by decide +kernel)) (by decide +kernel)
theorem kw_11 : (Cond.selects ({ cls := "TillHoldsModel", name := "empty", desc := "(I)V" } : MethodName).cls ({ cls := "TillHoldsModel", name := "empty", desc := "(I)V" } : MethodName) ({ cls := "TillHoldsModel", name := "empty", desc := "(I)V" } : MethodName)) ∈ gtbl := gm (List.mem_of_getElem? (i := 11) (by decide +kernel)) (by decide +kernel)
theorem kw_12 : (Cond.selects ({ cls := "TillHoldsModel", name := "hold", desc := "(I)I" } : MethodName).cls ({ cls := "TillHoldsModel", name := "hold", desc := "(I)I" } : MethodName) ({ cls := "TillHoldsModel", name := "hold", desc := "(I)I" } : MethodName)) ∈ gtbl := gm (List.mem_of_getElem? (i := 12) (by decide +kernel)) (by decide +kernel)
theorem kw_13 : (Cond.selects ({ cls := "TillHoldsModel", name := "leave", desc := "(I)I" } : MethodName).cls ({ cls := "TillHoldsModel", name := "leave", desc := "(I)I" } : MethodName) ({ cls := "TillHoldsModel", name := "leave", desc := "(I)I" } : MethodName)) ∈ gtbl := gm (List.mem_of_getElem? (i := 13) (by decide +kernel)) (by decide +kernel)
theorem kw_14 : (Cond.selects ({ cls := "TillHoldsModel", name := "lay", desc := "(I[I)I" } : MethodName).cls ({ cls := "TillHoldsModel", name := "lay", desc := "(I[I)I" } : MethodName) ({ cls := "TillHoldsModel", name := "lay", desc := "(I[I)I" } : MethodName)) ∈ gtbl := gm (List.mem_of_getElem? (i := 14) (by decide +kernel)) (by decide +kernel)
theorem kw_15 : (Cond.selects ({ cls := "TillHoldsModel", name := "all", desc := "(I)I" } : MethodName).cls ({ cls := "TillHoldsModel", name := "all", desc := "(I)I" } : MethodName) ({ cls := "TillHoldsModel", name := "all", desc := "(I)I" } : MethodName)) ∈ gtbl := gm (List.mem_of_getElem? (i := 15) (by decide +kernel)) (by decide +kernel)
theorem kw_16 : (Cond.selects ({ cls := "TillHoldsModel", name := "go", desc := "(II[I)V" } : MethodName).cls ({ cls := "TillHoldsModel", name := "go", desc := "(II[I)V" } : MethodName) ({ cls := "TillHoldsModel", name := "go", desc := "(II[I)V" } : MethodName)) ∈ gtbl := gm (List.mem_of_getElem? (i := 16) (by decide +kernel)) (by decide +kernel)
theorem kw_17 : (Cond.selects ({ cls := "TillHoldsModel", name := "pay", desc := "(II)I" } : MethodName).cls ({ cls := "TillHoldsModel", name := "pay", desc := "(II)I" } : MethodName) ({ cls := "TillHoldsModel", name := "pay", desc := "(II)I" } : MethodName)) ∈ gtbl := gm (List.mem_of_getElem? (i := 17) (by decide +kernel)) (by decide +kernel)
theorem kw_18 : (Cond.selects ({ cls := "TillHoldsModel", name := "lacks", desc := "(II)I" } : MethodName).cls ({ cls := "TillHoldsModel", name := "lacks", desc := "(II)I" } : MethodName) ({ cls := "TillHoldsModel", name := "lacks", desc := "(II)I" } : MethodName)) ∈ gtbl := gm (List.mem_of_getElem? (i := 18) (by decide +kernel)) (by decide +kernel)
theorem kw_19 : (Cond.selects ({ cls := "TillHoldsModel", name := "keep", desc := "(II)V" } : MethodName).cls ({ cls := "TillHoldsModel", name := "keep", desc := "(II)V" } : MethodName) ({ cls := "TillHoldsModel", name := "keep", desc := "(II)V" } : MethodName)) ∈ gtbl := gm (List.mem_of_getElem? (i := 19) (by decide +kernel)) (by decide +kernel)
theorem kw_20 : (Cond.selects ({ cls := "TillHoldsModel", name := "putBack", desc := "(II)V" } : MethodName).cls ({ cls := "TillHoldsModel", name := "putBack", desc := "(II)V" } : MethodName) ({ cls := "TillHoldsModel", name := "putBack", desc := "(II)V" } : MethodName)) ∈ gtbl := gm (List.mem_of_getElem? (i := 20) (by decide +kernel)) (by decide +kernel)
theorem kw_21 : (Cond.selects ({ cls := "TillHoldsModel", name := "told", desc := "(III)I" } : MethodName).cls ({ cls := "TillHoldsModel", name := "told", desc := "(III)I" } : MethodName) ({ cls := "TillHoldsModel", name := "told", desc := "(III)I" } : MethodName)) ∈ gtbl := gm (List.mem_of_getElem? (i := 21) (by decide +kernel)) (by decide +kernel)
theorem kw_22 : (Cond.selects ({ cls := "TillHoldsModel", name := "worth", desc := "(I)I" } : MethodName).cls ({ cls := "TillHoldsModel", name := "worth", desc := "(I)I" } : MethodName) ({ cls := "TillHoldsModel", name := "worth", desc := "(I)I" } : MethodName)) ∈ gtbl := gm (List.mem_of_getElem? (i := 22) (by decide +kernel)) (by decide +kernel)
theorem kw_23 : (Jvm.Cond.initialized "TillHoldsLaw") ∈ gtbl := gm (List.mem_of_getElem? (i := 23) (by decide +kernel)) (by decide +kernel)
theorem kw_24 : (Jvm.Cond.initialized "TillHolds") ∈ gtbl := gm (List.mem_of_getElem? (i := 24) (by decide +kernel)) (by decide +kernel)
theorem kw_25 : (Jvm.Cond.initialized "TillHolds$Till") ∈ gtbl := gm (List.mem_of_getElem? (i := 25) (by decide +kernel)) (by decide +kernel)
theorem kw_26 : (Jvm.Cond.initialized "TillHolds$Coins") ∈ gtbl := gm (List.mem_of_getElem? (i := 26) (by decide +kernel)) (by decide +kernel)
theorem kw_27 : (Jvm.Cond.initialized "TillHolds$Holds") ∈ gtbl := gm (List.mem_of_getElem? (i := 27) (by decide +kernel)) (by decide +kernel)
theorem kw_28 : (Jvm.Cond.initialized "TillHoldsModel") ∈ gtbl := gm (List.mem_of_getElem? (i := 28) (by decide +kernel)) (by decide +kernel)
theorem kw_29 : (Jvm.Cond.initialized "java/lang/Math") ∈ gtbl := gm (List.mem_of_getElem? (i := 29) (by decide +kernel)) (by decide +kernel)
theorem kw_30 : (Jvm.Cond.classLink "TillHoldsLaw" (7 : Nat) "TillHolds") ∈ gtbl := gm (List.mem_of_getElem? (i := 30) (by decide +kernel)) (by decide +kernel)
theorem kw_31 : (Jvm.Cond.instantiable "TillHolds" (7 : Nat)) ∈ gtbl := gm (List.mem_of_getElem? (i := 31) (by decide +kernel)) (by decide +kernel)
theorem kw_32 : (Jvm.Cond.methodLink "TillHoldsLaw" (9 : Nat) ({ cls := "TillHolds", name := "<init>", desc := "()V" } : Jvm.MethodName)) ∈ gtbl := gm (List.mem_of_getElem? (i := 32) (by decide +kernel)) (by decide +kernel)
theorem kw_33 : (Jvm.Cond.instanceMethod ({ cls := "TillHolds", name := "<init>", desc := "()V" } : Jvm.MethodName)) ∈ gtbl := gm (List.mem_of_getElem? (i := 33) (by decide +kernel)) (by decide +kernel)
theorem kw_34 : (Jvm.Cond.code ({ cls := "TillHolds", name := "<init>", desc := "()V" } : Jvm.MethodName) prog_1_method_1_code (2 : Nat) (Option.none : Option Jvm.ClassFile.FieldType)) ∈ gtbl := gm (List.mem_of_getElem? (i := 34) rfl) rfl
theorem kw_35 : (Jvm.Cond.methodLink "TillHolds" (1 : Nat) ({ cls := "java/lang/Object", name := "<init>", desc := "()V" } : Jvm.MethodName)) ∈ gtbl := gm (List.mem_of_getElem? (i := 35) (by decide +kernel)) (by decide +kernel)
theorem kw_36 : (Jvm.Cond.instanceMethod ({ cls := "java/lang/Object", name := "<init>", desc := "()V" } : Jvm.MethodName)) ∈ gtbl := gm (List.mem_of_getElem? (i := 36) (by decide +kernel)) (by decide +kernel)
theorem kw_37 : (Jvm.Cond.code ({ cls := "java/lang/Object", name := "<init>", desc := "()V" } : Jvm.MethodName) object_method_1_code (1 : Nat) (Option.none : Option Jvm.ClassFile.FieldType)) ∈ gtbl := gm (List.mem_of_getElem? (i := 37) rfl) rfl
theorem kw_38 : (Jvm.Cond.classLink "TillHolds" (9 : Nat) "TillHolds$Till") ∈ gtbl := gm (List.mem_of_getElem? (i := 38) (by decide +kernel)) (by decide +kernel)
theorem kw_40 : (Jvm.Cond.instantiable "TillHolds$Till" (4 : Nat)) ∈ gtbl := gm (List.mem_of_getElem? (i := 40) (by decide +kernel)) (by decide +kernel)
theorem kw_42 : (Jvm.Cond.instanceMethod ({ cls := "TillHolds$Till", name := "<init>", desc := "()V" } : Jvm.MethodName)) ∈ gtbl := gm (List.mem_of_getElem? (i := 42) (by decide +kernel)) (by decide +kernel)
theorem kw_43 : (Jvm.Cond.code ({ cls := "TillHolds$Till", name := "<init>", desc := "()V" } : Jvm.MethodName) prog_4_method_1_code (1 : Nat) (Option.none : Option Jvm.ClassFile.FieldType)) ∈ gtbl := gm (List.mem_of_getElem? (i := 43) rfl) rfl
theorem kw_44 : (Jvm.Cond.methodLink "TillHolds$Till" (3 : Nat) ({ cls := "java/lang/Object", name := "<init>", desc := "()V" } : Jvm.MethodName)) ∈ gtbl := gm (List.mem_of_getElem? (i := 44) (by decide +kernel)) (by decide +kernel)
theorem kw_45 : (Jvm.Cond.classLink "TillHolds$Till" (9 : Nat) "TillHolds$Coins") ∈ gtbl := gm (List.mem_of_getElem? (i := 45) (by decide +kernel)) (by decide +kernel)
theorem kw_46 : (Jvm.Cond.instantiable "TillHolds$Coins" (1 : Nat)) ∈ gtbl := gm (List.mem_of_getElem? (i := 46) (by decide +kernel)) (by decide +kernel)
theorem kw_48 : (Jvm.Cond.instanceMethod ({ cls := "TillHolds$Coins", name := "<init>", desc := "()V" } : Jvm.MethodName)) ∈ gtbl := gm (List.mem_of_getElem? (i := 48) (by decide +kernel)) (by decide +kernel)
theorem kw_49 : (Jvm.Cond.code ({ cls := "TillHolds$Coins", name := "<init>", desc := "()V" } : Jvm.MethodName) prog_2_method_1_code (1 : Nat) (Option.none : Option Jvm.ClassFile.FieldType)) ∈ gtbl := gm (List.mem_of_getElem? (i := 49) rfl) rfl
theorem kw_50 : (Jvm.Cond.methodLink "TillHolds$Coins" (3 : Nat) ({ cls := "java/lang/Object", name := "<init>", desc := "()V" } : Jvm.MethodName)) ∈ gtbl := gm (List.mem_of_getElem? (i := 50) (by decide +kernel)) (by decide +kernel)
theorem kw_51 : (Jvm.Cond.fieldLink "TillHolds$Coins" (9 : Nat) "TillHolds$Coins" "of" "[I") ∈ gtbl := gm (List.mem_of_getElem? (i := 51) (by decide +kernel)) (by decide +kernel)
theorem kw_52 : (Jvm.Cond.fieldLink "TillHolds" (80 : Nat) "TillHolds$Coins" "of" "[I") ∈ gtbl := gm (List.mem_of_getElem? (i := 52) (by decide +kernel)) (by decide +kernel)
theorem kw_53 : (Jvm.Cond.laysFinal "TillHolds$Coins" "TillHolds$Coins" "of" "[I") ∈ gtbl := gm (List.mem_of_getElem? (i := 53) (by decide +kernel)) (by decide +kernel)
theorem kw_54 : (Jvm.Cond.soleField "TillHolds$Coins" "of") ∈ gtbl := gm (List.mem_of_getElem? (i := 54) (by decide +kernel)) (by decide +kernel)
theorem kw_55 : (Jvm.Cond.superclass "TillHolds$Coins" "java/lang/Object") ∈ gtbl := gm (List.mem_of_getElem? (i := 55) (by decide +kernel)) (by decide +kernel)
theorem kw_56 : (Jvm.Cond.arrayClass Jvm.ClassFile.FieldType.int) ∈ gtbl := gm (List.mem_of_getElem? (i := 56) (by decide +kernel)) (by decide +kernel)
theorem kw_57 : (Jvm.Cond.fieldLink "TillHolds$Till" (12 : Nat) "TillHolds$Till" "coins" "LTillHolds$Coins;") ∈ gtbl := gm (List.mem_of_getElem? (i := 57) (by decide +kernel)) (by decide +kernel)
theorem kw_58 : (Jvm.Cond.fieldLink "TillHolds" (63 : Nat) "TillHolds$Till" "coins" "LTillHolds$Coins;") ∈ gtbl := gm (List.mem_of_getElem? (i := 58) (by decide +kernel)) (by decide +kernel)
theorem kw_59 : (Jvm.Cond.fieldLink "TillHolds" (52 : Nat) "TillHolds$Till" "isThere" "Z") ∈ gtbl := gm (List.mem_of_getElem? (i := 59) (by decide +kernel)) (by decide +kernel)
theorem kw_60 : (Jvm.Cond.fieldLink "TillHolds" (56 : Nat) "TillHolds$Till" "isShut" "Z") ∈ gtbl := gm (List.mem_of_getElem? (i := 60) (by decide +kernel)) (by decide +kernel)
theorem kw_61 : (Jvm.Cond.fieldLink "TillHolds$Till" (26 : Nat) "TillHolds$Till" "isShut" "Z") ∈ gtbl := gm (List.mem_of_getElem? (i := 61) (by decide +kernel)) (by decide +kernel)
theorem kw_62 : (Jvm.Cond.fieldLink "TillHolds$Till" (22 : Nat) "TillHolds$Till" "limit" "I") ∈ gtbl := gm (List.mem_of_getElem? (i := 62) (by decide +kernel)) (by decide +kernel)
theorem kw_63 : (Jvm.Cond.fieldLink "TillHolds" (59 : Nat) "TillHolds$Till" "limit" "I") ∈ gtbl := gm (List.mem_of_getElem? (i := 63) (by decide +kernel)) (by decide +kernel)
theorem kw_64 : (Jvm.Cond.laysFinal "TillHolds$Till" "TillHolds$Till" "coins" "LTillHolds$Coins;") ∈ gtbl := gm (List.mem_of_getElem? (i := 64) (by decide +kernel)) (by decide +kernel)
theorem kw_65 : (Jvm.Cond.soleField "TillHolds$Till" "coins") ∈ gtbl := gm (List.mem_of_getElem? (i := 65) (by decide +kernel)) (by decide +kernel)
theorem kw_66 : (Jvm.Cond.lays "TillHolds$Till" "TillHolds$Till" "isThere" "Z") ∈ gtbl := gm (List.mem_of_getElem? (i := 66) (by decide +kernel)) (by decide +kernel)
theorem kw_67 : (Jvm.Cond.soleField "TillHolds$Till" "isThere") ∈ gtbl := gm (List.mem_of_getElem? (i := 67) (by decide +kernel)) (by decide +kernel)
theorem kw_68 : (Jvm.Cond.lays "TillHolds$Till" "TillHolds$Till" "isShut" "Z") ∈ gtbl := gm (List.mem_of_getElem? (i := 68) (by decide +kernel)) (by decide +kernel)
theorem kw_69 : (Jvm.Cond.soleField "TillHolds$Till" "isShut") ∈ gtbl := gm (List.mem_of_getElem? (i := 69) (by decide +kernel)) (by decide +kernel)
theorem kw_70 : (Jvm.Cond.lays "TillHolds$Till" "TillHolds$Till" "limit" "I") ∈ gtbl := gm (List.mem_of_getElem? (i := 70) (by decide +kernel)) (by decide +kernel)
theorem kw_71 : (Jvm.Cond.soleField "TillHolds$Till" "limit") ∈ gtbl := gm (List.mem_of_getElem? (i := 71) (by decide +kernel)) (by decide +kernel)
theorem kw_72 : (Jvm.Cond.superclass "TillHolds$Till" "java/lang/Object") ∈ gtbl := gm (List.mem_of_getElem? (i := 72) (by decide +kernel)) (by decide +kernel)
theorem kw_73 : (Jvm.Cond.classLink "TillHolds" (16 : Nat) "TillHolds$Coins") ∈ gtbl := gm (List.mem_of_getElem? (i := 73) (by decide +kernel)) (by decide +kernel)
theorem kw_75 : (Jvm.Cond.classLink "TillHolds" (23 : Nat) "TillHolds$Holds") ∈ gtbl := gm (List.mem_of_getElem? (i := 75) (by decide +kernel)) (by decide +kernel)
theorem kw_76 : (Jvm.Cond.instantiable "TillHolds$Holds" (4 : Nat)) ∈ gtbl := gm (List.mem_of_getElem? (i := 76) (by decide +kernel)) (by decide +kernel)
theorem kw_78 : (Jvm.Cond.instanceMethod ({ cls := "TillHolds$Holds", name := "<init>", desc := "()V" } : Jvm.MethodName)) ∈ gtbl := gm (List.mem_of_getElem? (i := 78) (by decide +kernel)) (by decide +kernel)
theorem kw_79 : (Jvm.Cond.code ({ cls := "TillHolds$Holds", name := "<init>", desc := "()V" } : Jvm.MethodName) prog_3_method_1_code (1 : Nat) (Option.none : Option Jvm.ClassFile.FieldType)) ∈ gtbl := gm (List.mem_of_getElem? (i := 79) rfl) rfl
theorem kw_80 : (Jvm.Cond.methodLink "TillHolds$Holds" (1 : Nat) ({ cls := "java/lang/Object", name := "<init>", desc := "()V" } : Jvm.MethodName)) ∈ gtbl := gm (List.mem_of_getElem? (i := 80) (by decide +kernel)) (by decide +kernel)
theorem kw_81 : (Jvm.Cond.fieldLink "TillHolds$Holds" (7 : Nat) "TillHolds$Holds" "begun" "I") ∈ gtbl := gm (List.mem_of_getElem? (i := 81) (by decide +kernel)) (by decide +kernel)
theorem kw_82 : (Jvm.Cond.fieldLink "TillHolds" (121 : Nat) "TillHolds$Holds" "begun" "I") ∈ gtbl := gm (List.mem_of_getElem? (i := 82) (by decide +kernel)) (by decide +kernel)
theorem kw_83 : (Jvm.Cond.fieldLink "TillHolds$Holds" (25 : Nat) "TillHolds$Holds" "left" "I") ∈ gtbl := gm (List.mem_of_getElem? (i := 83) (by decide +kernel)) (by decide +kernel)
theorem kw_84 : (Jvm.Cond.fieldLink "TillHolds" (124 : Nat) "TillHolds$Holds" "left" "I") ∈ gtbl := gm (List.mem_of_getElem? (i := 84) (by decide +kernel)) (by decide +kernel)
theorem kw_85 : (Jvm.Cond.fieldLink "TillHolds$Holds" (13 : Nat) "TillHolds$Holds" "depth" "I") ∈ gtbl := gm (List.mem_of_getElem? (i := 85) (by decide +kernel)) (by decide +kernel)
theorem kw_86 : (Jvm.Cond.fieldLink "TillHolds$Holds" (16 : Nat) "TillHolds$Holds" "deepest" "I") ∈ gtbl := gm (List.mem_of_getElem? (i := 86) (by decide +kernel)) (by decide +kernel)
theorem kw_87 : (Jvm.Cond.fieldLink "TillHolds" (127 : Nat) "TillHolds$Holds" "deepest" "I") ∈ gtbl := gm (List.mem_of_getElem? (i := 87) (by decide +kernel)) (by decide +kernel)
theorem kw_88 : (Jvm.Cond.lays "TillHolds$Holds" "TillHolds$Holds" "begun" "I") ∈ gtbl := gm (List.mem_of_getElem? (i := 88) (by decide +kernel)) (by decide +kernel)
theorem kw_89 : (Jvm.Cond.soleField "TillHolds$Holds" "begun") ∈ gtbl := gm (List.mem_of_getElem? (i := 89) (by decide +kernel)) (by decide +kernel)
theorem kw_90 : (Jvm.Cond.lays "TillHolds$Holds" "TillHolds$Holds" "left" "I") ∈ gtbl := gm (List.mem_of_getElem? (i := 90) (by decide +kernel)) (by decide +kernel)
theorem kw_91 : (Jvm.Cond.soleField "TillHolds$Holds" "left") ∈ gtbl := gm (List.mem_of_getElem? (i := 91) (by decide +kernel)) (by decide +kernel)
theorem kw_92 : (Jvm.Cond.lays "TillHolds$Holds" "TillHolds$Holds" "depth" "I") ∈ gtbl := gm (List.mem_of_getElem? (i := 92) (by decide +kernel)) (by decide +kernel)
theorem kw_93 : (Jvm.Cond.soleField "TillHolds$Holds" "depth") ∈ gtbl := gm (List.mem_of_getElem? (i := 93) (by decide +kernel)) (by decide +kernel)
theorem kw_94 : (Jvm.Cond.lays "TillHolds$Holds" "TillHolds$Holds" "deepest" "I") ∈ gtbl := gm (List.mem_of_getElem? (i := 94) (by decide +kernel)) (by decide +kernel)
theorem kw_95 : (Jvm.Cond.soleField "TillHolds$Holds" "deepest") ∈ gtbl := gm (List.mem_of_getElem? (i := 95) (by decide +kernel)) (by decide +kernel)
theorem kw_96 : (Jvm.Cond.superclass "TillHolds$Holds" "java/lang/Object") ∈ gtbl := gm (List.mem_of_getElem? (i := 96) (by decide +kernel)) (by decide +kernel)
theorem kw_98 : (Jvm.Cond.fieldLink "TillHolds" (11 : Nat) "TillHolds" "tills" "[LTillHolds$Till;") ∈ gtbl := gm (List.mem_of_getElem? (i := 98) (by decide +kernel)) (by decide +kernel)
theorem kw_99 : (Jvm.Cond.fieldLink "TillHolds" (19 : Nat) "TillHolds" "inHand" "LTillHolds$Coins;") ∈ gtbl := gm (List.mem_of_getElem? (i := 99) (by decide +kernel)) (by decide +kernel)
theorem kw_100 : (Jvm.Cond.fieldLink "TillHolds" (26 : Nat) "TillHolds" "holds" "LTillHolds$Holds;") ∈ gtbl := gm (List.mem_of_getElem? (i := 100) (by decide +kernel)) (by decide +kernel)
theorem kw_101 : (Jvm.Cond.fieldLink "TillHolds" (30 : Nat) "TillHolds" "picked" "LTillHolds$Coins;") ∈ gtbl := gm (List.mem_of_getElem? (i := 101) (by decide +kernel)) (by decide +kernel)
theorem kw_102 : (Jvm.Cond.fieldLink "TillHolds" (33 : Nat) "TillHolds" "handBefore" "LTillHolds$Coins;") ∈ gtbl := gm (List.mem_of_getElem? (i := 102) (by decide +kernel)) (by decide +kernel)
theorem kw_103 : (Jvm.Cond.fieldLink "TillHolds" (36 : Nat) "TillHolds" "coinsBefore" "[LTillHolds$Coins;") ∈ gtbl := gm (List.mem_of_getElem? (i := 103) (by decide +kernel)) (by decide +kernel)
theorem kw_104 : (Jvm.Cond.fieldLink "TillHolds" (40 : Nat) "TillHolds" "places" "[I") ∈ gtbl := gm (List.mem_of_getElem? (i := 104) (by decide +kernel)) (by decide +kernel)
theorem kw_105 : (Jvm.Cond.laysFinal "TillHolds" "TillHolds" "tills" "[LTillHolds$Till;") ∈ gtbl := gm (List.mem_of_getElem? (i := 105) (by decide +kernel)) (by decide +kernel)
theorem kw_106 : (Jvm.Cond.soleField "TillHolds" "tills") ∈ gtbl := gm (List.mem_of_getElem? (i := 106) (by decide +kernel)) (by decide +kernel)
theorem kw_107 : (Jvm.Cond.laysFinal "TillHolds" "TillHolds" "inHand" "LTillHolds$Coins;") ∈ gtbl := gm (List.mem_of_getElem? (i := 107) (by decide +kernel)) (by decide +kernel)
theorem kw_108 : (Jvm.Cond.soleField "TillHolds" "inHand") ∈ gtbl := gm (List.mem_of_getElem? (i := 108) (by decide +kernel)) (by decide +kernel)
theorem kw_109 : (Jvm.Cond.laysFinal "TillHolds" "TillHolds" "holds" "LTillHolds$Holds;") ∈ gtbl := gm (List.mem_of_getElem? (i := 109) (by decide +kernel)) (by decide +kernel)
theorem kw_110 : (Jvm.Cond.soleField "TillHolds" "holds") ∈ gtbl := gm (List.mem_of_getElem? (i := 110) (by decide +kernel)) (by decide +kernel)
theorem kw_111 : (Jvm.Cond.laysFinal "TillHolds" "TillHolds" "picked" "LTillHolds$Coins;") ∈ gtbl := gm (List.mem_of_getElem? (i := 111) (by decide +kernel)) (by decide +kernel)
theorem kw_112 : (Jvm.Cond.soleField "TillHolds" "picked") ∈ gtbl := gm (List.mem_of_getElem? (i := 112) (by decide +kernel)) (by decide +kernel)
theorem kw_113 : (Jvm.Cond.laysFinal "TillHolds" "TillHolds" "handBefore" "LTillHolds$Coins;") ∈ gtbl := gm (List.mem_of_getElem? (i := 113) (by decide +kernel)) (by decide +kernel)
theorem kw_114 : (Jvm.Cond.soleField "TillHolds" "handBefore") ∈ gtbl := gm (List.mem_of_getElem? (i := 114) (by decide +kernel)) (by decide +kernel)
theorem kw_115 : (Jvm.Cond.laysFinal "TillHolds" "TillHolds" "coinsBefore" "[LTillHolds$Coins;") ∈ gtbl := gm (List.mem_of_getElem? (i := 115) (by decide +kernel)) (by decide +kernel)
theorem kw_116 : (Jvm.Cond.soleField "TillHolds" "coinsBefore") ∈ gtbl := gm (List.mem_of_getElem? (i := 116) (by decide +kernel)) (by decide +kernel)
theorem kw_117 : (Jvm.Cond.laysFinal "TillHolds" "TillHolds" "places" "[I") ∈ gtbl := gm (List.mem_of_getElem? (i := 117) (by decide +kernel)) (by decide +kernel)
theorem kw_118 : (Jvm.Cond.soleField "TillHolds" "places") ∈ gtbl := gm (List.mem_of_getElem? (i := 118) (by decide +kernel)) (by decide +kernel)
theorem kw_119 : (Jvm.Cond.superclass "TillHolds" "java/lang/Object") ∈ gtbl := gm (List.mem_of_getElem? (i := 119) (by decide +kernel)) (by decide +kernel)
theorem kw_120 : (Jvm.Cond.methodLink "TillHoldsLaw" (13 : Nat) ({ cls := "TillHolds", name := "till", desc := "(II)I" } : Jvm.MethodName)) ∈ gtbl := gm (List.mem_of_getElem? (i := 120) (by decide +kernel)) (by decide +kernel)
theorem kw_121 : (Jvm.Cond.instanceMethod ({ cls := "TillHolds", name := "till", desc := "(II)I" } : Jvm.MethodName)) ∈ gtbl := gm (List.mem_of_getElem? (i := 121) (by decide +kernel)) (by decide +kernel)
theorem kw_122 : (Jvm.Cond.selects "TillHolds" ({ cls := "TillHolds", name := "till", desc := "(II)I" } : Jvm.MethodName) ({ cls := "TillHolds", name := "till", desc := "(II)I" } : Jvm.MethodName)) ∈ gtbl := gm (List.mem_of_getElem? (i := 122) (by decide +kernel)) (by decide +kernel)
theorem kw_123 : (Jvm.Cond.code ({ cls := "TillHolds", name := "till", desc := "(II)I" } : Jvm.MethodName) prog_1_method_2_code (4 : Nat) (Option.some Jvm.ClassFile.FieldType.int)) ∈ gtbl := gm (List.mem_of_getElem? (i := 123) rfl) rfl
theorem kw_124 : (Jvm.Cond.methodLink "TillHolds" (44 : Nat) ({ cls := "TillHolds", name := "isTill", desc := "(I)Z" } : Jvm.MethodName)) ∈ gtbl := gm (List.mem_of_getElem? (i := 124) (by decide +kernel)) (by decide +kernel)
theorem kw_125 : (Jvm.Cond.static ({ cls := "TillHolds", name := "isTill", desc := "(I)Z" } : Jvm.MethodName)) ∈ gtbl := gm (List.mem_of_getElem? (i := 125) (by decide +kernel)) (by decide +kernel)
theorem kw_126 : (Jvm.Cond.code ({ cls := "TillHolds", name := "isTill", desc := "(I)Z" } : Jvm.MethodName) prog_1_method_15_code (1 : Nat) (Option.some Jvm.ClassFile.FieldType.boolean)) ∈ gtbl := gm (List.mem_of_getElem? (i := 126) rfl) rfl
theorem kw_127 : (Jvm.Cond.methodLink "TillHolds" (48 : Nat) ({ cls := "TillHolds", name := "isUpTo", desc := "(II)Z" } : Jvm.MethodName)) ∈ gtbl := gm (List.mem_of_getElem? (i := 127) (by decide +kernel)) (by decide +kernel)
theorem kw_128 : (Jvm.Cond.static ({ cls := "TillHolds", name := "isUpTo", desc := "(II)Z" } : Jvm.MethodName)) ∈ gtbl := gm (List.mem_of_getElem? (i := 128) (by decide +kernel)) (by decide +kernel)
theorem kw_129 : (Jvm.Cond.code ({ cls := "TillHolds", name := "isUpTo", desc := "(II)Z" } : Jvm.MethodName) prog_1_method_14_code (2 : Nat) (Option.some Jvm.ClassFile.FieldType.boolean)) ∈ gtbl := gm (List.mem_of_getElem? (i := 129) rfl) rfl
theorem kw_130 : (Jvm.Cond.methodLink "TillHolds" (66 : Nat) ({ cls := "TillHolds$Coins", name := "clear", desc := "()V" } : Jvm.MethodName)) ∈ gtbl := gm (List.mem_of_getElem? (i := 130) (by decide +kernel)) (by decide +kernel)
theorem kw_131 : (Jvm.Cond.instanceMethod ({ cls := "TillHolds$Coins", name := "clear", desc := "()V" } : Jvm.MethodName)) ∈ gtbl := gm (List.mem_of_getElem? (i := 131) (by decide +kernel)) (by decide +kernel)
theorem kw_132 : (Jvm.Cond.selects "TillHolds$Coins" ({ cls := "TillHolds$Coins", name := "clear", desc := "()V" } : Jvm.MethodName) ({ cls := "TillHolds$Coins", name := "clear", desc := "()V" } : Jvm.MethodName)) ∈ gtbl := gm (List.mem_of_getElem? (i := 132) (by decide +kernel)) (by decide +kernel)
theorem kw_133 : (Jvm.Cond.code ({ cls := "TillHolds$Coins", name := "clear", desc := "()V" } : Jvm.MethodName) prog_2_method_5_code (2 : Nat) (Option.none : Option Jvm.ClassFile.FieldType)) ∈ gtbl := gm (List.mem_of_getElem? (i := 133) rfl) rfl
theorem kw_134 : (Jvm.Cond.methodLink "TillHoldsLaw" (18 : Nat) ({ cls := "TillHolds", name := "drop", desc := "(I)I" } : Jvm.MethodName)) ∈ gtbl := gm (List.mem_of_getElem? (i := 134) (by decide +kernel)) (by decide +kernel)
theorem kw_135 : (Jvm.Cond.instanceMethod ({ cls := "TillHolds", name := "drop", desc := "(I)I" } : Jvm.MethodName)) ∈ gtbl := gm (List.mem_of_getElem? (i := 135) (by decide +kernel)) (by decide +kernel)
theorem kw_136 : (Jvm.Cond.selects "TillHolds" ({ cls := "TillHolds", name := "drop", desc := "(I)I" } : Jvm.MethodName) ({ cls := "TillHolds", name := "drop", desc := "(I)I" } : Jvm.MethodName)) ∈ gtbl := gm (List.mem_of_getElem? (i := 136) (by decide +kernel)) (by decide +kernel)
theorem kw_137 : (Jvm.Cond.code ({ cls := "TillHolds", name := "drop", desc := "(I)I" } : Jvm.MethodName) prog_1_method_3_code (3 : Nat) (Option.some Jvm.ClassFile.FieldType.int)) ∈ gtbl := gm (List.mem_of_getElem? (i := 137) rfl) rfl
theorem kw_138 : (Jvm.Cond.methodLink "TillHoldsLaw" (23 : Nat) ({ cls := "TillHolds", name := "shut", desc := "(IZ)I" } : Jvm.MethodName)) ∈ gtbl := gm (List.mem_of_getElem? (i := 138) (by decide +kernel)) (by decide +kernel)
theorem kw_139 : (Jvm.Cond.instanceMethod ({ cls := "TillHolds", name := "shut", desc := "(IZ)I" } : Jvm.MethodName)) ∈ gtbl := gm (List.mem_of_getElem? (i := 139) (by decide +kernel)) (by decide +kernel)
theorem kw_140 : (Jvm.Cond.selects "TillHolds" ({ cls := "TillHolds", name := "shut", desc := "(IZ)I" } : Jvm.MethodName) ({ cls := "TillHolds", name := "shut", desc := "(IZ)I" } : Jvm.MethodName)) ∈ gtbl := gm (List.mem_of_getElem? (i := 140) (by decide +kernel)) (by decide +kernel)
theorem kw_141 : (Jvm.Cond.code ({ cls := "TillHolds", name := "shut", desc := "(IZ)I" } : Jvm.MethodName) prog_1_method_4_code (5 : Nat) (Option.some Jvm.ClassFile.FieldType.int)) ∈ gtbl := gm (List.mem_of_getElem? (i := 141) rfl) rfl
theorem kw_142 : (Jvm.Cond.methodLink "TillHolds" (69 : Nat) ({ cls := "TillHolds", name := "begin", desc := "(LTillHolds$Till;)Z" } : Jvm.MethodName)) ∈ gtbl := gm (List.mem_of_getElem? (i := 142) (by decide +kernel)) (by decide +kernel)
theorem kw_144 : (Jvm.Cond.instanceMethod ({ cls := "TillHolds", name := "begin", desc := "(LTillHolds$Till;)Z" } : Jvm.MethodName)) ∈ gtbl := gm (List.mem_of_getElem? (i := 144) (by decide +kernel)) (by decide +kernel)
theorem kw_145 : (Jvm.Cond.code ({ cls := "TillHolds", name := "begin", desc := "(LTillHolds$Till;)Z" } : Jvm.MethodName) prog_1_method_18_code (2 : Nat) (Option.some Jvm.ClassFile.FieldType.boolean)) ∈ gtbl := gm (List.mem_of_getElem? (i := 145) rfl) rfl
theorem kw_146 : (Jvm.Cond.methodLink "TillHolds" (134 : Nat) ({ cls := "TillHolds$Holds", name := "begin", desc := "()V" } : Jvm.MethodName)) ∈ gtbl := gm (List.mem_of_getElem? (i := 146) (by decide +kernel)) (by decide +kernel)
theorem kw_147 : (Jvm.Cond.instanceMethod ({ cls := "TillHolds$Holds", name := "begin", desc := "()V" } : Jvm.MethodName)) ∈ gtbl := gm (List.mem_of_getElem? (i := 147) (by decide +kernel)) (by decide +kernel)
theorem kw_148 : (Jvm.Cond.selects "TillHolds$Holds" ({ cls := "TillHolds$Holds", name := "begin", desc := "()V" } : Jvm.MethodName) ({ cls := "TillHolds$Holds", name := "begin", desc := "()V" } : Jvm.MethodName)) ∈ gtbl := gm (List.mem_of_getElem? (i := 148) (by decide +kernel)) (by decide +kernel)
theorem kw_149 : (Jvm.Cond.code ({ cls := "TillHolds$Holds", name := "begin", desc := "()V" } : Jvm.MethodName) prog_3_method_2_code (1 : Nat) (Option.none : Option Jvm.ClassFile.FieldType)) ∈ gtbl := gm (List.mem_of_getElem? (i := 149) rfl) rfl
theorem kw_150 : (Jvm.Cond.methodLink "TillHolds$Holds" (19 : Nat) ({ cls := "java/lang/Math", name := "max", desc := "(II)I" } : Jvm.MethodName)) ∈ gtbl := gm (List.mem_of_getElem? (i := 150) (by decide +kernel)) (by decide +kernel)
theorem kw_151 : (Jvm.Cond.static ({ cls := "java/lang/Math", name := "max", desc := "(II)I" } : Jvm.MethodName)) ∈ gtbl := gm (List.mem_of_getElem? (i := 151) (by decide +kernel)) (by decide +kernel)
theorem kw_152 : (Jvm.Cond.code ({ cls := "java/lang/Math", name := "max", desc := "(II)I" } : Jvm.MethodName) prog_7_method_65_code (2 : Nat) (Option.some Jvm.ClassFile.FieldType.int)) ∈ gtbl := gm (List.mem_of_getElem? (i := 152) rfl) rfl
theorem kw_153 : (Jvm.Cond.methodLink "TillHolds" (73 : Nat) ({ cls := "TillHolds", name := "end", desc := "(I)I" } : Jvm.MethodName)) ∈ gtbl := gm (List.mem_of_getElem? (i := 153) (by decide +kernel)) (by decide +kernel)
theorem kw_155 : (Jvm.Cond.instanceMethod ({ cls := "TillHolds", name := "end", desc := "(I)I" } : Jvm.MethodName)) ∈ gtbl := gm (List.mem_of_getElem? (i := 155) (by decide +kernel)) (by decide +kernel)
theorem kw_156 : (Jvm.Cond.code ({ cls := "TillHolds", name := "end", desc := "(I)I" } : Jvm.MethodName) prog_1_method_19_code (2 : Nat) (Option.some Jvm.ClassFile.FieldType.int)) ∈ gtbl := gm (List.mem_of_getElem? (i := 156) rfl) rfl
theorem kw_157 : (Jvm.Cond.methodLink "TillHolds" (136 : Nat) ({ cls := "TillHolds$Holds", name := "end", desc := "(Z)V" } : Jvm.MethodName)) ∈ gtbl := gm (List.mem_of_getElem? (i := 157) (by decide +kernel)) (by decide +kernel)
theorem kw_158 : (Jvm.Cond.instanceMethod ({ cls := "TillHolds$Holds", name := "end", desc := "(Z)V" } : Jvm.MethodName)) ∈ gtbl := gm (List.mem_of_getElem? (i := 158) (by decide +kernel)) (by decide +kernel)
theorem kw_159 : (Jvm.Cond.selects "TillHolds$Holds" ({ cls := "TillHolds$Holds", name := "end", desc := "(Z)V" } : Jvm.MethodName) ({ cls := "TillHolds$Holds", name := "end", desc := "(Z)V" } : Jvm.MethodName)) ∈ gtbl := gm (List.mem_of_getElem? (i := 159) (by decide +kernel)) (by decide +kernel)
theorem kw_160 : (Jvm.Cond.code ({ cls := "TillHolds$Holds", name := "end", desc := "(Z)V" } : Jvm.MethodName) prog_3_method_3_code (2 : Nat) (Option.none : Option Jvm.ClassFile.FieldType)) ∈ gtbl := gm (List.mem_of_getElem? (i := 160) rfl) rfl
theorem kw_161 : (Jvm.Cond.methodLink "TillHoldsLaw" (28 : Nat) ({ cls := "TillHolds", name := "put", desc := "(III)I" } : Jvm.MethodName)) ∈ gtbl := gm (List.mem_of_getElem? (i := 161) (by decide +kernel)) (by decide +kernel)
theorem kw_162 : (Jvm.Cond.instanceMethod ({ cls := "TillHolds", name := "put", desc := "(III)I" } : Jvm.MethodName)) ∈ gtbl := gm (List.mem_of_getElem? (i := 162) (by decide +kernel)) (by decide +kernel)
theorem kw_163 : (Jvm.Cond.selects "TillHolds" ({ cls := "TillHolds", name := "put", desc := "(III)I" } : Jvm.MethodName) ({ cls := "TillHolds", name := "put", desc := "(III)I" } : Jvm.MethodName)) ∈ gtbl := gm (List.mem_of_getElem? (i := 163) (by decide +kernel)) (by decide +kernel)
theorem kw_164 : (Jvm.Cond.code ({ cls := "TillHolds", name := "put", desc := "(III)I" } : Jvm.MethodName) prog_1_method_5_code (5 : Nat) (Option.some Jvm.ClassFile.FieldType.int)) ∈ gtbl := gm (List.mem_of_getElem? (i := 164) rfl) rfl
theorem kw_165 : (Jvm.Cond.methodLink "TillHolds" (77 : Nat) ({ cls := "TillHolds", name := "isKind", desc := "(I)Z" } : Jvm.MethodName)) ∈ gtbl := gm (List.mem_of_getElem? (i := 165) (by decide +kernel)) (by decide +kernel)
theorem kw_166 : (Jvm.Cond.static ({ cls := "TillHolds", name := "isKind", desc := "(I)Z" } : Jvm.MethodName)) ∈ gtbl := gm (List.mem_of_getElem? (i := 166) (by decide +kernel)) (by decide +kernel)
theorem kw_167 : (Jvm.Cond.code ({ cls := "TillHolds", name := "isKind", desc := "(I)Z" } : Jvm.MethodName) prog_1_method_16_code (1 : Nat) (Option.some Jvm.ClassFile.FieldType.boolean)) ∈ gtbl := gm (List.mem_of_getElem? (i := 167) rfl) rfl
theorem kw_168 : (Jvm.Cond.methodLink "TillHolds" (83 : Nat) ({ cls := "TillHolds$Coins", name := "add", desc := "(LTillHolds$Coins;)V" } : Jvm.MethodName)) ∈ gtbl := gm (List.mem_of_getElem? (i := 168) (by decide +kernel)) (by decide +kernel)
theorem kw_169 : (Jvm.Cond.instanceMethod ({ cls := "TillHolds$Coins", name := "add", desc := "(LTillHolds$Coins;)V" } : Jvm.MethodName)) ∈ gtbl := gm (List.mem_of_getElem? (i := 169) (by decide +kernel)) (by decide +kernel)
theorem kw_170 : (Jvm.Cond.selects "TillHolds$Coins" ({ cls := "TillHolds$Coins", name := "add", desc := "(LTillHolds$Coins;)V" } : Jvm.MethodName) ({ cls := "TillHolds$Coins", name := "add", desc := "(LTillHolds$Coins;)V" } : Jvm.MethodName)) ∈ gtbl := gm (List.mem_of_getElem? (i := 170) (by decide +kernel)) (by decide +kernel)
theorem kw_171 : (Jvm.Cond.code ({ cls := "TillHolds$Coins", name := "add", desc := "(LTillHolds$Coins;)V" } : Jvm.MethodName) prog_2_method_7_code (3 : Nat) (Option.none : Option Jvm.ClassFile.FieldType)) ∈ gtbl := gm (List.mem_of_getElem? (i := 171) rfl) rfl
theorem kw_172 : (Jvm.Cond.methodLink "TillHolds" (87 : Nat) ({ cls := "TillHolds", name := "layPicked", desc := "(LTillHolds$Till;)I" } : Jvm.MethodName)) ∈ gtbl := gm (List.mem_of_getElem? (i := 172) (by decide +kernel)) (by decide +kernel)
theorem kw_174 : (Jvm.Cond.instanceMethod ({ cls := "TillHolds", name := "layPicked", desc := "(LTillHolds$Till;)I" } : Jvm.MethodName)) ∈ gtbl := gm (List.mem_of_getElem? (i := 174) (by decide +kernel)) (by decide +kernel)
theorem kw_175 : (Jvm.Cond.code ({ cls := "TillHolds", name := "layPicked", desc := "(LTillHolds$Till;)I" } : Jvm.MethodName) prog_1_method_23_code (2 : Nat) (Option.some Jvm.ClassFile.FieldType.int)) ∈ gtbl := gm (List.mem_of_getElem? (i := 175) rfl) rfl
theorem kw_176 : (Jvm.Cond.methodLink "TillHolds" (154 : Nat) ({ cls := "TillHolds$Coins", name := "number", desc := "()I" } : Jvm.MethodName)) ∈ gtbl := gm (List.mem_of_getElem? (i := 176) (by decide +kernel)) (by decide +kernel)
theorem kw_177 : (Jvm.Cond.instanceMethod ({ cls := "TillHolds$Coins", name := "number", desc := "()I" } : Jvm.MethodName)) ∈ gtbl := gm (List.mem_of_getElem? (i := 177) (by decide +kernel)) (by decide +kernel)
theorem kw_178 : (Jvm.Cond.selects "TillHolds$Coins" ({ cls := "TillHolds$Coins", name := "number", desc := "()I" } : Jvm.MethodName) ({ cls := "TillHolds$Coins", name := "number", desc := "()I" } : Jvm.MethodName)) ∈ gtbl := gm (List.mem_of_getElem? (i := 178) (by decide +kernel)) (by decide +kernel)
theorem kw_179 : (Jvm.Cond.code ({ cls := "TillHolds$Coins", name := "number", desc := "()I" } : Jvm.MethodName) prog_2_method_2_code (3 : Nat) (Option.some Jvm.ClassFile.FieldType.int)) ∈ gtbl := gm (List.mem_of_getElem? (i := 179) rfl) rfl
theorem kw_180 : (Jvm.Cond.methodLink "TillHolds" (157 : Nat) ({ cls := "TillHolds$Till", name := "hasRoomFor", desc := "(I)Z" } : Jvm.MethodName)) ∈ gtbl := gm (List.mem_of_getElem? (i := 180) (by decide +kernel)) (by decide +kernel)
theorem kw_181 : (Jvm.Cond.instanceMethod ({ cls := "TillHolds$Till", name := "hasRoomFor", desc := "(I)Z" } : Jvm.MethodName)) ∈ gtbl := gm (List.mem_of_getElem? (i := 181) (by decide +kernel)) (by decide +kernel)
theorem kw_182 : (Jvm.Cond.selects "TillHolds$Till" ({ cls := "TillHolds$Till", name := "hasRoomFor", desc := "(I)Z" } : Jvm.MethodName) ({ cls := "TillHolds$Till", name := "hasRoomFor", desc := "(I)Z" } : Jvm.MethodName)) ∈ gtbl := gm (List.mem_of_getElem? (i := 182) (by decide +kernel)) (by decide +kernel)
theorem kw_183 : (Jvm.Cond.code ({ cls := "TillHolds$Till", name := "hasRoomFor", desc := "(I)Z" } : Jvm.MethodName) prog_4_method_2_code (2 : Nat) (Option.some Jvm.ClassFile.FieldType.boolean)) ∈ gtbl := gm (List.mem_of_getElem? (i := 183) rfl) rfl
theorem kw_184 : (Jvm.Cond.methodLink "TillHolds$Till" (18 : Nat) ({ cls := "TillHolds$Coins", name := "number", desc := "()I" } : Jvm.MethodName)) ∈ gtbl := gm (List.mem_of_getElem? (i := 184) (by decide +kernel)) (by decide +kernel)
theorem kw_185 : (Jvm.Cond.methodLink "TillHolds" (151 : Nat) ({ cls := "TillHolds$Coins", name := "remove", desc := "(LTillHolds$Coins;)V" } : Jvm.MethodName)) ∈ gtbl := gm (List.mem_of_getElem? (i := 185) (by decide +kernel)) (by decide +kernel)
theorem kw_186 : (Jvm.Cond.instanceMethod ({ cls := "TillHolds$Coins", name := "remove", desc := "(LTillHolds$Coins;)V" } : Jvm.MethodName)) ∈ gtbl := gm (List.mem_of_getElem? (i := 186) (by decide +kernel)) (by decide +kernel)
theorem kw_187 : (Jvm.Cond.selects "TillHolds$Coins" ({ cls := "TillHolds$Coins", name := "remove", desc := "(LTillHolds$Coins;)V" } : Jvm.MethodName) ({ cls := "TillHolds$Coins", name := "remove", desc := "(LTillHolds$Coins;)V" } : Jvm.MethodName)) ∈ gtbl := gm (List.mem_of_getElem? (i := 187) (by decide +kernel)) (by decide +kernel)
theorem kw_188 : (Jvm.Cond.code ({ cls := "TillHolds$Coins", name := "remove", desc := "(LTillHolds$Coins;)V" } : Jvm.MethodName) prog_2_method_8_code (3 : Nat) (Option.none : Option Jvm.ClassFile.FieldType)) ∈ gtbl := gm (List.mem_of_getElem? (i := 188) rfl) rfl
theorem kw_189 : (Jvm.Cond.methodLink "TillHoldsLaw" (33 : Nat) ({ cls := "TillHolds", name := "take", desc := "(II)I" } : Jvm.MethodName)) ∈ gtbl := gm (List.mem_of_getElem? (i := 189) (by decide +kernel)) (by decide +kernel)
theorem kw_190 : (Jvm.Cond.instanceMethod ({ cls := "TillHolds", name := "take", desc := "(II)I" } : Jvm.MethodName)) ∈ gtbl := gm (List.mem_of_getElem? (i := 190) (by decide +kernel)) (by decide +kernel)
theorem kw_191 : (Jvm.Cond.selects "TillHolds" ({ cls := "TillHolds", name := "take", desc := "(II)I" } : Jvm.MethodName) ({ cls := "TillHolds", name := "take", desc := "(II)I" } : Jvm.MethodName)) ∈ gtbl := gm (List.mem_of_getElem? (i := 191) (by decide +kernel)) (by decide +kernel)
theorem kw_192 : (Jvm.Cond.code ({ cls := "TillHolds", name := "take", desc := "(II)I" } : Jvm.MethodName) prog_1_method_6_code (4 : Nat) (Option.some Jvm.ClassFile.FieldType.int)) ∈ gtbl := gm (List.mem_of_getElem? (i := 192) rfl) rfl
theorem kw_193 : (Jvm.Cond.methodLink "TillHolds" (91 : Nat) ({ cls := "TillHolds", name := "pay", desc := "(LTillHolds$Till;I)I" } : Jvm.MethodName)) ∈ gtbl := gm (List.mem_of_getElem? (i := 193) (by decide +kernel)) (by decide +kernel)
theorem kw_195 : (Jvm.Cond.instanceMethod ({ cls := "TillHolds", name := "pay", desc := "(LTillHolds$Till;I)I" } : Jvm.MethodName)) ∈ gtbl := gm (List.mem_of_getElem? (i := 195) (by decide +kernel)) (by decide +kernel)
theorem kw_196 : (Jvm.Cond.code ({ cls := "TillHolds", name := "pay", desc := "(LTillHolds$Till;I)I" } : Jvm.MethodName) prog_1_method_22_code (3 : Nat) (Option.some Jvm.ClassFile.FieldType.int)) ∈ gtbl := gm (List.mem_of_getElem? (i := 196) rfl) rfl
theorem kw_197 : (Jvm.Cond.methodLink "TillHolds" (148 : Nat) ({ cls := "TillHolds", name := "pick", desc := "(LTillHolds$Till;I)Z" } : Jvm.MethodName)) ∈ gtbl := gm (List.mem_of_getElem? (i := 197) (by decide +kernel)) (by decide +kernel)
theorem kw_199 : (Jvm.Cond.instanceMethod ({ cls := "TillHolds", name := "pick", desc := "(LTillHolds$Till;I)Z" } : Jvm.MethodName)) ∈ gtbl := gm (List.mem_of_getElem? (i := 199) (by decide +kernel)) (by decide +kernel)
theorem kw_200 : (Jvm.Cond.code ({ cls := "TillHolds", name := "pick", desc := "(LTillHolds$Till;I)Z" } : Jvm.MethodName) prog_1_method_20_code (6 : Nat) (Option.some Jvm.ClassFile.FieldType.boolean)) ∈ gtbl := gm (List.mem_of_getElem? (i := 200) rfl) rfl
theorem kw_201 : (Jvm.Cond.fieldLink "TillHolds" (139 : Nat) "TillHolds" "WORTHS" "[I") ∈ gtbl := gm (List.mem_of_getElem? (i := 201) (by decide +kernel)) (by decide +kernel)
theorem kw_203 : (Jvm.Cond.methodLink "TillHolds" (142 : Nat) ({ cls := "java/lang/Math", name := "min", desc := "(II)I" } : Jvm.MethodName)) ∈ gtbl := gm (List.mem_of_getElem? (i := 203) (by decide +kernel)) (by decide +kernel)
theorem kw_204 : (Jvm.Cond.static ({ cls := "java/lang/Math", name := "min", desc := "(II)I" } : Jvm.MethodName)) ∈ gtbl := gm (List.mem_of_getElem? (i := 204) (by decide +kernel)) (by decide +kernel)
theorem kw_205 : (Jvm.Cond.code ({ cls := "java/lang/Math", name := "min", desc := "(II)I" } : Jvm.MethodName) prog_7_method_69_code (2 : Nat) (Option.some Jvm.ClassFile.FieldType.int)) ∈ gtbl := gm (List.mem_of_getElem? (i := 205) rfl) rfl
theorem kw_206 : (Jvm.Cond.methodLink "TillHoldsLaw" (37 : Nat) ({ cls := "TillHolds", name := "move", desc := "(IIIZ)I" } : Jvm.MethodName)) ∈ gtbl := gm (List.mem_of_getElem? (i := 206) (by decide +kernel)) (by decide +kernel)
theorem kw_207 : (Jvm.Cond.instanceMethod ({ cls := "TillHolds", name := "move", desc := "(IIIZ)I" } : Jvm.MethodName)) ∈ gtbl := gm (List.mem_of_getElem? (i := 207) (by decide +kernel)) (by decide +kernel)
theorem kw_208 : (Jvm.Cond.selects "TillHolds" ({ cls := "TillHolds", name := "move", desc := "(IIIZ)I" } : Jvm.MethodName) ({ cls := "TillHolds", name := "move", desc := "(IIIZ)I" } : Jvm.MethodName)) ∈ gtbl := gm (List.mem_of_getElem? (i := 208) (by decide +kernel)) (by decide +kernel)
theorem kw_209 : (Jvm.Cond.code ({ cls := "TillHolds", name := "move", desc := "(IIIZ)I" } : Jvm.MethodName) prog_1_method_7_code (6 : Nat) (Option.some Jvm.ClassFile.FieldType.int)) ∈ gtbl := gm (List.mem_of_getElem? (i := 209) rfl) rfl
theorem kw_210 : (Jvm.Cond.methodLink "TillHolds" (95 : Nat) ({ cls := "TillHolds", name := "moveWithin", desc := "(LTillHolds$Till;LTillHolds$Till;IZ)I" } : Jvm.MethodName)) ∈ gtbl := gm (List.mem_of_getElem? (i := 210) (by decide +kernel)) (by decide +kernel)
theorem kw_212 : (Jvm.Cond.instanceMethod ({ cls := "TillHolds", name := "moveWithin", desc := "(LTillHolds$Till;LTillHolds$Till;IZ)I" } : Jvm.MethodName)) ∈ gtbl := gm (List.mem_of_getElem? (i := 212) (by decide +kernel)) (by decide +kernel)
theorem kw_213 : (Jvm.Cond.code ({ cls := "TillHolds", name := "moveWithin", desc := "(LTillHolds$Till;LTillHolds$Till;IZ)I" } : Jvm.MethodName) prog_1_method_24_code (7 : Nat) (Option.some Jvm.ClassFile.FieldType.int)) ∈ gtbl := gm (List.mem_of_getElem? (i := 213) rfl) rfl
theorem kw_214 : (Jvm.Cond.methodLink "TillHoldsLaw" (42 : Nat) ({ cls := "TillHolds", name := "pass", desc := "(IIZ)I" } : Jvm.MethodName)) ∈ gtbl := gm (List.mem_of_getElem? (i := 214) (by decide +kernel)) (by decide +kernel)
theorem kw_215 : (Jvm.Cond.instanceMethod ({ cls := "TillHolds", name := "pass", desc := "(IIZ)I" } : Jvm.MethodName)) ∈ gtbl := gm (List.mem_of_getElem? (i := 215) (by decide +kernel)) (by decide +kernel)
theorem kw_216 : (Jvm.Cond.selects "TillHolds" ({ cls := "TillHolds", name := "pass", desc := "(IIZ)I" } : Jvm.MethodName) ({ cls := "TillHolds", name := "pass", desc := "(IIZ)I" } : Jvm.MethodName)) ∈ gtbl := gm (List.mem_of_getElem? (i := 216) (by decide +kernel)) (by decide +kernel)
theorem kw_217 : (Jvm.Cond.code ({ cls := "TillHolds", name := "pass", desc := "(IIZ)I" } : Jvm.MethodName) prog_1_method_8_code (6 : Nat) (Option.some Jvm.ClassFile.FieldType.int)) ∈ gtbl := gm (List.mem_of_getElem? (i := 217) rfl) rfl
theorem kw_218 : (Jvm.Cond.methodLink "TillHolds" (99 : Nat) ({ cls := "TillHolds", name := "readRow", desc := "(I)I" } : Jvm.MethodName)) ∈ gtbl := gm (List.mem_of_getElem? (i := 218) (by decide +kernel)) (by decide +kernel)
theorem kw_220 : (Jvm.Cond.instanceMethod ({ cls := "TillHolds", name := "readRow", desc := "(I)I" } : Jvm.MethodName)) ∈ gtbl := gm (List.mem_of_getElem? (i := 220) (by decide +kernel)) (by decide +kernel)
theorem kw_221 : (Jvm.Cond.code ({ cls := "TillHolds", name := "readRow", desc := "(I)I" } : Jvm.MethodName) prog_1_method_25_code (6 : Nat) (Option.some Jvm.ClassFile.FieldType.int)) ∈ gtbl := gm (List.mem_of_getElem? (i := 221) rfl) rfl
theorem kw_222 : (Jvm.Cond.constant "TillHolds" (160 : Nat) (777777 : Int32)) ∈ gtbl := gm (List.mem_of_getElem? (i := 222) (by decide +kernel)) (by decide +kernel)
theorem kw_223 : (Jvm.Cond.methodLink "TillHolds" (161 : Nat) ({ cls := "TillHolds", name := "digitsOf", desc := "(I)I" } : Jvm.MethodName)) ∈ gtbl := gm (List.mem_of_getElem? (i := 223) (by decide +kernel)) (by decide +kernel)
theorem kw_224 : (Jvm.Cond.static ({ cls := "TillHolds", name := "digitsOf", desc := "(I)I" } : Jvm.MethodName)) ∈ gtbl := gm (List.mem_of_getElem? (i := 224) (by decide +kernel)) (by decide +kernel)
theorem kw_225 : (Jvm.Cond.code ({ cls := "TillHolds", name := "digitsOf", desc := "(I)I" } : Jvm.MethodName) prog_1_method_26_code (3 : Nat) (Option.some Jvm.ClassFile.FieldType.int)) ∈ gtbl := gm (List.mem_of_getElem? (i := 225) rfl) rfl
theorem kw_226 : (Jvm.Cond.methodLink "TillHolds" (102 : Nat) ({ cls := "TillHolds$Coins", name := "become", desc := "(LTillHolds$Coins;)V" } : Jvm.MethodName)) ∈ gtbl := gm (List.mem_of_getElem? (i := 226) (by decide +kernel)) (by decide +kernel)
theorem kw_227 : (Jvm.Cond.instanceMethod ({ cls := "TillHolds$Coins", name := "become", desc := "(LTillHolds$Coins;)V" } : Jvm.MethodName)) ∈ gtbl := gm (List.mem_of_getElem? (i := 227) (by decide +kernel)) (by decide +kernel)
theorem kw_228 : (Jvm.Cond.selects "TillHolds$Coins" ({ cls := "TillHolds$Coins", name := "become", desc := "(LTillHolds$Coins;)V" } : Jvm.MethodName) ({ cls := "TillHolds$Coins", name := "become", desc := "(LTillHolds$Coins;)V" } : Jvm.MethodName)) ∈ gtbl := gm (List.mem_of_getElem? (i := 228) (by decide +kernel)) (by decide +kernel)
theorem kw_229 : (Jvm.Cond.code ({ cls := "TillHolds$Coins", name := "become", desc := "(LTillHolds$Coins;)V" } : Jvm.MethodName) prog_2_method_6_code (3 : Nat) (Option.none : Option Jvm.ClassFile.FieldType)) ∈ gtbl := gm (List.mem_of_getElem? (i := 229) rfl) rfl
theorem kw_230 : (Jvm.Cond.methodLink "TillHolds" (105 : Nat) ({ cls := "TillHolds", name := "passFrom", desc := "(IIIZ)I" } : Jvm.MethodName)) ∈ gtbl := gm (List.mem_of_getElem? (i := 230) (by decide +kernel)) (by decide +kernel)
theorem kw_232 : (Jvm.Cond.instanceMethod ({ cls := "TillHolds", name := "passFrom", desc := "(IIIZ)I" } : Jvm.MethodName)) ∈ gtbl := gm (List.mem_of_getElem? (i := 232) (by decide +kernel)) (by decide +kernel)
theorem kw_233 : (Jvm.Cond.code ({ cls := "TillHolds", name := "passFrom", desc := "(IIIZ)I" } : Jvm.MethodName) prog_1_method_27_code (7 : Nat) (Option.some Jvm.ClassFile.FieldType.int)) ∈ gtbl := gm (List.mem_of_getElem? (i := 233) rfl) rfl
theorem kw_234 : (Jvm.Cond.methodLink "TillHolds" (164 : Nat) ({ cls := "TillHolds", name := "passWithin", desc := "(LTillHolds$Till;IIIZ)I" } : Jvm.MethodName)) ∈ gtbl := gm (List.mem_of_getElem? (i := 234) (by decide +kernel)) (by decide +kernel)
theorem kw_236 : (Jvm.Cond.instanceMethod ({ cls := "TillHolds", name := "passWithin", desc := "(LTillHolds$Till;IIIZ)I" } : Jvm.MethodName)) ∈ gtbl := gm (List.mem_of_getElem? (i := 236) (by decide +kernel)) (by decide +kernel)
theorem kw_237 : (Jvm.Cond.code ({ cls := "TillHolds", name := "passWithin", desc := "(LTillHolds$Till;IIIZ)I" } : Jvm.MethodName) prog_1_method_28_code (9 : Nat) (Option.some Jvm.ClassFile.FieldType.int)) ∈ gtbl := gm (List.mem_of_getElem? (i := 237) rfl) rfl
theorem kw_238 : (Jvm.Cond.methodLink "TillHoldsLaw" (47 : Nat) ({ cls := "TillHolds", name := "share", desc := "(III)I" } : Jvm.MethodName)) ∈ gtbl := gm (List.mem_of_getElem? (i := 238) (by decide +kernel)) (by decide +kernel)
theorem kw_239 : (Jvm.Cond.instanceMethod ({ cls := "TillHolds", name := "share", desc := "(III)I" } : Jvm.MethodName)) ∈ gtbl := gm (List.mem_of_getElem? (i := 239) (by decide +kernel)) (by decide +kernel)
theorem kw_240 : (Jvm.Cond.selects "TillHolds" ({ cls := "TillHolds", name := "share", desc := "(III)I" } : Jvm.MethodName) ({ cls := "TillHolds", name := "share", desc := "(III)I" } : Jvm.MethodName)) ∈ gtbl := gm (List.mem_of_getElem? (i := 240) (by decide +kernel)) (by decide +kernel)
theorem kw_241 : (Jvm.Cond.code ({ cls := "TillHolds", name := "share", desc := "(III)I" } : Jvm.MethodName) prog_1_method_9_code (6 : Nat) (Option.some Jvm.ClassFile.FieldType.int)) ∈ gtbl := gm (List.mem_of_getElem? (i := 241) rfl) rfl
theorem kw_242 : (Jvm.Cond.methodLink "TillHolds" (109 : Nat) ({ cls := "TillHolds", name := "halve", desc := "(LTillHolds$Till;LTillHolds$Till;I)I" } : Jvm.MethodName)) ∈ gtbl := gm (List.mem_of_getElem? (i := 242) (by decide +kernel)) (by decide +kernel)
theorem kw_243 : (Jvm.Cond.static ({ cls := "TillHolds", name := "halve", desc := "(LTillHolds$Till;LTillHolds$Till;I)I" } : Jvm.MethodName)) ∈ gtbl := gm (List.mem_of_getElem? (i := 243) (by decide +kernel)) (by decide +kernel)
theorem kw_244 : (Jvm.Cond.code ({ cls := "TillHolds", name := "halve", desc := "(LTillHolds$Till;LTillHolds$Till;I)I" } : Jvm.MethodName) prog_1_method_29_code (4 : Nat) (Option.some Jvm.ClassFile.FieldType.int)) ∈ gtbl := gm (List.mem_of_getElem? (i := 244) rfl) rfl
theorem kw_245 : (Jvm.Cond.methodLink "TillHolds" (168 : Nat) ({ cls := "TillHolds", name := "give", desc := "(LTillHolds$Till;LTillHolds$Till;II)I" } : Jvm.MethodName)) ∈ gtbl := gm (List.mem_of_getElem? (i := 245) (by decide +kernel)) (by decide +kernel)
theorem kw_246 : (Jvm.Cond.static ({ cls := "TillHolds", name := "give", desc := "(LTillHolds$Till;LTillHolds$Till;II)I" } : Jvm.MethodName)) ∈ gtbl := gm (List.mem_of_getElem? (i := 246) (by decide +kernel)) (by decide +kernel)
theorem kw_247 : (Jvm.Cond.code ({ cls := "TillHolds", name := "give", desc := "(LTillHolds$Till;LTillHolds$Till;II)I" } : Jvm.MethodName) prog_1_method_30_code (4 : Nat) (Option.some Jvm.ClassFile.FieldType.int)) ∈ gtbl := gm (List.mem_of_getElem? (i := 247) rfl) rfl
theorem kw_248 : (Jvm.Cond.methodLink "TillHoldsLaw" (51 : Nat) ({ cls := "TillHolds", name := "first", desc := "(I)I" } : Jvm.MethodName)) ∈ gtbl := gm (List.mem_of_getElem? (i := 248) (by decide +kernel)) (by decide +kernel)
theorem kw_249 : (Jvm.Cond.instanceMethod ({ cls := "TillHolds", name := "first", desc := "(I)I" } : Jvm.MethodName)) ∈ gtbl := gm (List.mem_of_getElem? (i := 249) (by decide +kernel)) (by decide +kernel)
theorem kw_250 : (Jvm.Cond.selects "TillHolds" ({ cls := "TillHolds", name := "first", desc := "(I)I" } : Jvm.MethodName) ({ cls := "TillHolds", name := "first", desc := "(I)I" } : Jvm.MethodName)) ∈ gtbl := gm (List.mem_of_getElem? (i := 250) (by decide +kernel)) (by decide +kernel)
theorem kw_251 : (Jvm.Cond.code ({ cls := "TillHolds", name := "first", desc := "(I)I" } : Jvm.MethodName) prog_1_method_10_code (3 : Nat) (Option.some Jvm.ClassFile.FieldType.int)) ∈ gtbl := gm (List.mem_of_getElem? (i := 251) rfl) rfl
theorem kw_252 : (Jvm.Cond.methodLink "TillHolds" (113 : Nat) ({ cls := "TillHolds", name := "couldPay", desc := "(LTillHolds$Till;I)Z" } : Jvm.MethodName)) ∈ gtbl := gm (List.mem_of_getElem? (i := 252) (by decide +kernel)) (by decide +kernel)
theorem kw_254 : (Jvm.Cond.instanceMethod ({ cls := "TillHolds", name := "couldPay", desc := "(LTillHolds$Till;I)Z" } : Jvm.MethodName)) ∈ gtbl := gm (List.mem_of_getElem? (i := 254) (by decide +kernel)) (by decide +kernel)
theorem kw_255 : (Jvm.Cond.code ({ cls := "TillHolds", name := "couldPay", desc := "(LTillHolds$Till;I)Z" } : Jvm.MethodName) prog_1_method_21_code (4 : Nat) (Option.some Jvm.ClassFile.FieldType.boolean)) ∈ gtbl := gm (List.mem_of_getElem? (i := 255) rfl) rfl
theorem kw_256 : (Jvm.Cond.methodLink "TillHoldsLaw" (55 : Nat) ({ cls := "TillHolds", name := "look", desc := "(II)I" } : Jvm.MethodName)) ∈ gtbl := gm (List.mem_of_getElem? (i := 256) (by decide +kernel)) (by decide +kernel)
theorem kw_257 : (Jvm.Cond.instanceMethod ({ cls := "TillHolds", name := "look", desc := "(II)I" } : Jvm.MethodName)) ∈ gtbl := gm (List.mem_of_getElem? (i := 257) (by decide +kernel)) (by decide +kernel)
theorem kw_258 : (Jvm.Cond.selects "TillHolds" ({ cls := "TillHolds", name := "look", desc := "(II)I" } : Jvm.MethodName) ({ cls := "TillHolds", name := "look", desc := "(II)I" } : Jvm.MethodName)) ∈ gtbl := gm (List.mem_of_getElem? (i := 258) (by decide +kernel)) (by decide +kernel)
theorem kw_259 : (Jvm.Cond.code ({ cls := "TillHolds", name := "look", desc := "(II)I" } : Jvm.MethodName) prog_1_method_11_code (4 : Nat) (Option.some Jvm.ClassFile.FieldType.int)) ∈ gtbl := gm (List.mem_of_getElem? (i := 259) rfl) rfl
theorem kw_260 : (Jvm.Cond.methodLink "TillHolds" (117 : Nat) ({ cls := "TillHolds$Till", name := "tell", desc := "(I)I" } : Jvm.MethodName)) ∈ gtbl := gm (List.mem_of_getElem? (i := 260) (by decide +kernel)) (by decide +kernel)
theorem kw_261 : (Jvm.Cond.instanceMethod ({ cls := "TillHolds$Till", name := "tell", desc := "(I)I" } : Jvm.MethodName)) ∈ gtbl := gm (List.mem_of_getElem? (i := 261) (by decide +kernel)) (by decide +kernel)
theorem kw_262 : (Jvm.Cond.selects "TillHolds$Till" ({ cls := "TillHolds$Till", name := "tell", desc := "(I)I" } : Jvm.MethodName) ({ cls := "TillHolds$Till", name := "tell", desc := "(I)I" } : Jvm.MethodName)) ∈ gtbl := gm (List.mem_of_getElem? (i := 262) (by decide +kernel)) (by decide +kernel)
theorem kw_263 : (Jvm.Cond.code ({ cls := "TillHolds$Till", name := "tell", desc := "(I)I" } : Jvm.MethodName) prog_4_method_3_code (2 : Nat) (Option.some Jvm.ClassFile.FieldType.int)) ∈ gtbl := gm (List.mem_of_getElem? (i := 263) rfl) rfl
theorem kw_264 : (Jvm.Cond.methodLink "TillHolds$Till" (30 : Nat) ({ cls := "TillHolds$Coins", name := "tell", desc := "(I)I" } : Jvm.MethodName)) ∈ gtbl := gm (List.mem_of_getElem? (i := 264) (by decide +kernel)) (by decide +kernel)
theorem kw_265 : (Jvm.Cond.instanceMethod ({ cls := "TillHolds$Coins", name := "tell", desc := "(I)I" } : Jvm.MethodName)) ∈ gtbl := gm (List.mem_of_getElem? (i := 265) (by decide +kernel)) (by decide +kernel)
theorem kw_266 : (Jvm.Cond.selects "TillHolds$Coins" ({ cls := "TillHolds$Coins", name := "tell", desc := "(I)I" } : Jvm.MethodName) ({ cls := "TillHolds$Coins", name := "tell", desc := "(I)I" } : Jvm.MethodName)) ∈ gtbl := gm (List.mem_of_getElem? (i := 266) (by decide +kernel)) (by decide +kernel)
theorem kw_267 : (Jvm.Cond.code ({ cls := "TillHolds$Coins", name := "tell", desc := "(I)I" } : Jvm.MethodName) prog_2_method_4_code (2 : Nat) (Option.some Jvm.ClassFile.FieldType.int)) ∈ gtbl := gm (List.mem_of_getElem? (i := 267) rfl) rfl
theorem kw_269 : (Jvm.Cond.methodLink "TillHolds$Coins" (22 : Nat) ({ cls := "TillHolds$Coins", name := "number", desc := "()I" } : Jvm.MethodName)) ∈ gtbl := gm (List.mem_of_getElem? (i := 269) (by decide +kernel)) (by decide +kernel)
theorem kw_270 : (Jvm.Cond.methodLink "TillHolds$Coins" (26 : Nat) ({ cls := "TillHolds$Coins", name := "worth", desc := "()I" } : Jvm.MethodName)) ∈ gtbl := gm (List.mem_of_getElem? (i := 270) (by decide +kernel)) (by decide +kernel)
theorem kw_271 : (Jvm.Cond.instanceMethod ({ cls := "TillHolds$Coins", name := "worth", desc := "()I" } : Jvm.MethodName)) ∈ gtbl := gm (List.mem_of_getElem? (i := 271) (by decide +kernel)) (by decide +kernel)
theorem kw_272 : (Jvm.Cond.selects "TillHolds$Coins" ({ cls := "TillHolds$Coins", name := "worth", desc := "()I" } : Jvm.MethodName) ({ cls := "TillHolds$Coins", name := "worth", desc := "()I" } : Jvm.MethodName)) ∈ gtbl := gm (List.mem_of_getElem? (i := 272) (by decide +kernel)) (by decide +kernel)
theorem kw_273 : (Jvm.Cond.code ({ cls := "TillHolds$Coins", name := "worth", desc := "()I" } : Jvm.MethodName) prog_2_method_3_code (3 : Nat) (Option.some Jvm.ClassFile.FieldType.int)) ∈ gtbl := gm (List.mem_of_getElem? (i := 273) rfl) rfl
theorem kw_275 : (Jvm.Cond.methodLink "TillHoldsLaw" (59 : Nat) ({ cls := "TillHolds", name := "hand", desc := "(I)I" } : Jvm.MethodName)) ∈ gtbl := gm (List.mem_of_getElem? (i := 275) (by decide +kernel)) (by decide +kernel)
theorem kw_276 : (Jvm.Cond.instanceMethod ({ cls := "TillHolds", name := "hand", desc := "(I)I" } : Jvm.MethodName)) ∈ gtbl := gm (List.mem_of_getElem? (i := 276) (by decide +kernel)) (by decide +kernel)
theorem kw_277 : (Jvm.Cond.selects "TillHolds" ({ cls := "TillHolds", name := "hand", desc := "(I)I" } : Jvm.MethodName) ({ cls := "TillHolds", name := "hand", desc := "(I)I" } : Jvm.MethodName)) ∈ gtbl := gm (List.mem_of_getElem? (i := 277) (by decide +kernel)) (by decide +kernel)
theorem kw_278 : (Jvm.Cond.code ({ cls := "TillHolds", name := "hand", desc := "(I)I" } : Jvm.MethodName) prog_1_method_12_code (2 : Nat) (Option.some Jvm.ClassFile.FieldType.int)) ∈ gtbl := gm (List.mem_of_getElem? (i := 278) rfl) rfl
theorem kw_279 : (Jvm.Cond.methodLink "TillHolds" (120 : Nat) ({ cls := "TillHolds$Coins", name := "tell", desc := "(I)I" } : Jvm.MethodName)) ∈ gtbl := gm (List.mem_of_getElem? (i := 279) (by decide +kernel)) (by decide +kernel)
theorem kw_280 : (Jvm.Cond.methodLink "TillHoldsLaw" (63 : Nat) ({ cls := "TillHolds", name := "count", desc := "(I)I" } : Jvm.MethodName)) ∈ gtbl := gm (List.mem_of_getElem? (i := 280) (by decide +kernel)) (by decide +kernel)
theorem kw_281 : (Jvm.Cond.instanceMethod ({ cls := "TillHolds", name := "count", desc := "(I)I" } : Jvm.MethodName)) ∈ gtbl := gm (List.mem_of_getElem? (i := 281) (by decide +kernel)) (by decide +kernel)
theorem kw_282 : (Jvm.Cond.selects "TillHolds" ({ cls := "TillHolds", name := "count", desc := "(I)I" } : Jvm.MethodName) ({ cls := "TillHolds", name := "count", desc := "(I)I" } : Jvm.MethodName)) ∈ gtbl := gm (List.mem_of_getElem? (i := 282) (by decide +kernel)) (by decide +kernel)
theorem kw_283 : (Jvm.Cond.code ({ cls := "TillHolds", name := "count", desc := "(I)I" } : Jvm.MethodName) prog_1_method_13_code (2 : Nat) (Option.some Jvm.ClassFile.FieldType.int)) ∈ gtbl := gm (List.mem_of_getElem? (i := 283) rfl) rfl
theorem kw_284 : (Jvm.Cond.methodLink "TillHolds" (130 : Nat) ({ cls := "TillHolds", name := "tillsThere", desc := "()I" } : Jvm.MethodName)) ∈ gtbl := gm (List.mem_of_getElem? (i := 284) (by decide +kernel)) (by decide +kernel)
theorem kw_286 : (Jvm.Cond.instanceMethod ({ cls := "TillHolds", name := "tillsThere", desc := "()I" } : Jvm.MethodName)) ∈ gtbl := gm (List.mem_of_getElem? (i := 286) (by decide +kernel)) (by decide +kernel)
theorem kw_287 : (Jvm.Cond.code ({ cls := "TillHolds", name := "tillsThere", desc := "()I" } : Jvm.MethodName) prog_1_method_17_code (3 : Nat) (Option.some Jvm.ClassFile.FieldType.int)) ∈ gtbl := gm (List.mem_of_getElem? (i := 287) rfl) rfl
theorem kw_288 : (Jvm.Cond.classLink "TillHoldsLaw" (10 : Nat) "TillHoldsModel") ∈ gtbl := gm (List.mem_of_getElem? (i := 288) (by decide +kernel)) (by decide +kernel)
theorem kw_289 : (Jvm.Cond.instantiable "TillHoldsModel" (11 : Nat)) ∈ gtbl := gm (List.mem_of_getElem? (i := 289) (by decide +kernel)) (by decide +kernel)
theorem kw_290 : (Jvm.Cond.methodLink "TillHoldsLaw" (12 : Nat) ({ cls := "TillHoldsModel", name := "<init>", desc := "()V" } : Jvm.MethodName)) ∈ gtbl := gm (List.mem_of_getElem? (i := 290) (by decide +kernel)) (by decide +kernel)
theorem kw_291 : (Jvm.Cond.instanceMethod ({ cls := "TillHoldsModel", name := "<init>", desc := "()V" } : Jvm.MethodName)) ∈ gtbl := gm (List.mem_of_getElem? (i := 291) (by decide +kernel)) (by decide +kernel)
theorem kw_292 : (Jvm.Cond.code ({ cls := "TillHoldsModel", name := "<init>", desc := "()V" } : Jvm.MethodName) prog_6_method_1_code (1 : Nat) (Option.none : Option Jvm.ClassFile.FieldType)) ∈ gtbl := gm (List.mem_of_getElem? (i := 292) rfl) rfl
theorem kw_293 : (Jvm.Cond.methodLink "TillHoldsModel" (1 : Nat) ({ cls := "java/lang/Object", name := "<init>", desc := "()V" } : Jvm.MethodName)) ∈ gtbl := gm (List.mem_of_getElem? (i := 293) (by decide +kernel)) (by decide +kernel)
theorem kw_294 : (Jvm.Cond.fieldLink "TillHoldsModel" (29 : Nat) "TillHoldsModel" "thrown" "I") ∈ gtbl := gm (List.mem_of_getElem? (i := 294) (by decide +kernel)) (by decide +kernel)
theorem kw_295 : (Jvm.Cond.fieldLink "TillHoldsModel" (7 : Nat) "TillHoldsModel" "isThere" "[Z") ∈ gtbl := gm (List.mem_of_getElem? (i := 295) (by decide +kernel)) (by decide +kernel)
theorem kw_296 : (Jvm.Cond.fieldLink "TillHoldsModel" (13 : Nat) "TillHoldsModel" "isShut" "[Z") ∈ gtbl := gm (List.mem_of_getElem? (i := 296) (by decide +kernel)) (by decide +kernel)
theorem kw_297 : (Jvm.Cond.fieldLink "TillHoldsModel" (16 : Nat) "TillHoldsModel" "limit" "[I") ∈ gtbl := gm (List.mem_of_getElem? (i := 297) (by decide +kernel)) (by decide +kernel)
theorem kw_298 : (Jvm.Cond.fieldLink "TillHoldsModel" (20 : Nat) "TillHoldsModel" "coins" "[I") ∈ gtbl := gm (List.mem_of_getElem? (i := 298) (by decide +kernel)) (by decide +kernel)
theorem kw_299 : (Jvm.Cond.fieldLink "TillHoldsModel" (41 : Nat) "TillHoldsModel" "holds" "I") ∈ gtbl := gm (List.mem_of_getElem? (i := 299) (by decide +kernel)) (by decide +kernel)
theorem kw_300 : (Jvm.Cond.fieldLink "TillHoldsModel" (50 : Nat) "TillHoldsModel" "left" "I") ∈ gtbl := gm (List.mem_of_getElem? (i := 300) (by decide +kernel)) (by decide +kernel)
theorem kw_301 : (Jvm.Cond.fieldLink "TillHoldsModel" (44 : Nat) "TillHoldsModel" "depth" "I") ∈ gtbl := gm (List.mem_of_getElem? (i := 301) (by decide +kernel)) (by decide +kernel)
theorem kw_302 : (Jvm.Cond.fieldLink "TillHoldsModel" (47 : Nat) "TillHoldsModel" "deepest" "I") ∈ gtbl := gm (List.mem_of_getElem? (i := 302) (by decide +kernel)) (by decide +kernel)
theorem kw_303 : (Jvm.Cond.fieldLink "TillHoldsModel" (23 : Nat) "TillHoldsModel" "paid" "[I") ∈ gtbl := gm (List.mem_of_getElem? (i := 303) (by decide +kernel)) (by decide +kernel)
theorem kw_304 : (Jvm.Cond.fieldLink "TillHoldsModel" (26 : Nat) "TillHoldsModel" "kept" "[I") ∈ gtbl := gm (List.mem_of_getElem? (i := 304) (by decide +kernel)) (by decide +kernel)
theorem kw_305 : (Jvm.Cond.lays "TillHoldsModel" "TillHoldsModel" "thrown" "I") ∈ gtbl := gm (List.mem_of_getElem? (i := 305) (by decide +kernel)) (by decide +kernel)
theorem kw_306 : (Jvm.Cond.soleField "TillHoldsModel" "thrown") ∈ gtbl := gm (List.mem_of_getElem? (i := 306) (by decide +kernel)) (by decide +kernel)
theorem kw_307 : (Jvm.Cond.laysFinal "TillHoldsModel" "TillHoldsModel" "isThere" "[Z") ∈ gtbl := gm (List.mem_of_getElem? (i := 307) (by decide +kernel)) (by decide +kernel)
theorem kw_308 : (Jvm.Cond.soleField "TillHoldsModel" "isThere") ∈ gtbl := gm (List.mem_of_getElem? (i := 308) (by decide +kernel)) (by decide +kernel)
theorem kw_309 : (Jvm.Cond.laysFinal "TillHoldsModel" "TillHoldsModel" "isShut" "[Z") ∈ gtbl := gm (List.mem_of_getElem? (i := 309) (by decide +kernel)) (by decide +kernel)
theorem kw_310 : (Jvm.Cond.soleField "TillHoldsModel" "isShut") ∈ gtbl := gm (List.mem_of_getElem? (i := 310) (by decide +kernel)) (by decide +kernel)
theorem kw_311 : (Jvm.Cond.laysFinal "TillHoldsModel" "TillHoldsModel" "limit" "[I") ∈ gtbl := gm (List.mem_of_getElem? (i := 311) (by decide +kernel)) (by decide +kernel)
theorem kw_312 : (Jvm.Cond.soleField "TillHoldsModel" "limit") ∈ gtbl := gm (List.mem_of_getElem? (i := 312) (by decide +kernel)) (by decide +kernel)
theorem kw_313 : (Jvm.Cond.laysFinal "TillHoldsModel" "TillHoldsModel" "coins" "[I") ∈ gtbl := gm (List.mem_of_getElem? (i := 313) (by decide +kernel)) (by decide +kernel)
theorem kw_314 : (Jvm.Cond.soleField "TillHoldsModel" "coins") ∈ gtbl := gm (List.mem_of_getElem? (i := 314) (by decide +kernel)) (by decide +kernel)
theorem kw_315 : (Jvm.Cond.lays "TillHoldsModel" "TillHoldsModel" "holds" "I") ∈ gtbl := gm (List.mem_of_getElem? (i := 315) (by decide +kernel)) (by decide +kernel)
theorem kw_316 : (Jvm.Cond.soleField "TillHoldsModel" "holds") ∈ gtbl := gm (List.mem_of_getElem? (i := 316) (by decide +kernel)) (by decide +kernel)
theorem kw_317 : (Jvm.Cond.lays "TillHoldsModel" "TillHoldsModel" "left" "I") ∈ gtbl := gm (List.mem_of_getElem? (i := 317) (by decide +kernel)) (by decide +kernel)
theorem kw_318 : (Jvm.Cond.soleField "TillHoldsModel" "left") ∈ gtbl := gm (List.mem_of_getElem? (i := 318) (by decide +kernel)) (by decide +kernel)
theorem kw_319 : (Jvm.Cond.lays "TillHoldsModel" "TillHoldsModel" "depth" "I") ∈ gtbl := gm (List.mem_of_getElem? (i := 319) (by decide +kernel)) (by decide +kernel)
theorem kw_320 : (Jvm.Cond.soleField "TillHoldsModel" "depth") ∈ gtbl := gm (List.mem_of_getElem? (i := 320) (by decide +kernel)) (by decide +kernel)
theorem kw_321 : (Jvm.Cond.lays "TillHoldsModel" "TillHoldsModel" "deepest" "I") ∈ gtbl := gm (List.mem_of_getElem? (i := 321) (by decide +kernel)) (by decide +kernel)
theorem kw_322 : (Jvm.Cond.soleField "TillHoldsModel" "deepest") ∈ gtbl := gm (List.mem_of_getElem? (i := 322) (by decide +kernel)) (by decide +kernel)
theorem kw_323 : (Jvm.Cond.laysFinal "TillHoldsModel" "TillHoldsModel" "paid" "[I") ∈ gtbl := gm (List.mem_of_getElem? (i := 323) (by decide +kernel)) (by decide +kernel)
theorem kw_324 : (Jvm.Cond.soleField "TillHoldsModel" "paid") ∈ gtbl := gm (List.mem_of_getElem? (i := 324) (by decide +kernel)) (by decide +kernel)
theorem kw_325 : (Jvm.Cond.laysFinal "TillHoldsModel" "TillHoldsModel" "kept" "[I") ∈ gtbl := gm (List.mem_of_getElem? (i := 325) (by decide +kernel)) (by decide +kernel)
theorem kw_326 : (Jvm.Cond.soleField "TillHoldsModel" "kept") ∈ gtbl := gm (List.mem_of_getElem? (i := 326) (by decide +kernel)) (by decide +kernel)
theorem kw_327 : (Jvm.Cond.superclass "TillHoldsModel" "java/lang/Object") ∈ gtbl := gm (List.mem_of_getElem? (i := 327) (by decide +kernel)) (by decide +kernel)
theorem kw_328 : (Jvm.Cond.arrayClass Jvm.ClassFile.FieldType.boolean) ∈ gtbl := gm (List.mem_of_getElem? (i := 328) (by decide +kernel)) (by decide +kernel)
theorem kw_329 : (Jvm.Cond.methodLink "TillHoldsLaw" (17 : Nat) ({ cls := "TillHoldsModel", name := "till", desc := "(II)I" } : Jvm.MethodName)) ∈ gtbl := gm (List.mem_of_getElem? (i := 329) (by decide +kernel)) (by decide +kernel)
theorem kw_330 : (Jvm.Cond.instanceMethod ({ cls := "TillHoldsModel", name := "till", desc := "(II)I" } : Jvm.MethodName)) ∈ gtbl := gm (List.mem_of_getElem? (i := 330) (by decide +kernel)) (by decide +kernel)
theorem kw_331 : (Jvm.Cond.selects "TillHoldsModel" ({ cls := "TillHoldsModel", name := "till", desc := "(II)I" } : Jvm.MethodName) ({ cls := "TillHoldsModel", name := "till", desc := "(II)I" } : Jvm.MethodName)) ∈ gtbl := gm (List.mem_of_getElem? (i := 331) (by decide +kernel)) (by decide +kernel)
theorem kw_332 : (Jvm.Cond.code ({ cls := "TillHoldsModel", name := "till", desc := "(II)I" } : Jvm.MethodName) prog_6_method_16_code (3 : Nat) (Option.some Jvm.ClassFile.FieldType.int)) ∈ gtbl := gm (List.mem_of_getElem? (i := 332) rfl) rfl
theorem kw_333 : (Jvm.Cond.methodLink "TillHoldsModel" (68 : Nat) ({ cls := "TillHoldsModel", name := "isTill", desc := "(I)Z" } : Jvm.MethodName)) ∈ gtbl := gm (List.mem_of_getElem? (i := 333) (by decide +kernel)) (by decide +kernel)
theorem kw_334 : (Jvm.Cond.static ({ cls := "TillHoldsModel", name := "isTill", desc := "(I)Z" } : Jvm.MethodName)) ∈ gtbl := gm (List.mem_of_getElem? (i := 334) (by decide +kernel)) (by decide +kernel)
theorem kw_335 : (Jvm.Cond.code ({ cls := "TillHoldsModel", name := "isTill", desc := "(I)Z" } : Jvm.MethodName) prog_6_method_4_code (1 : Nat) (Option.some Jvm.ClassFile.FieldType.boolean)) ∈ gtbl := gm (List.mem_of_getElem? (i := 335) rfl) rfl
theorem kw_336 : (Jvm.Cond.methodLink "TillHoldsModel" (33 : Nat) ({ cls := "TillHoldsModel", name := "in", desc := "(III)Z" } : Jvm.MethodName)) ∈ gtbl := gm (List.mem_of_getElem? (i := 336) (by decide +kernel)) (by decide +kernel)
theorem kw_337 : (Jvm.Cond.static ({ cls := "TillHoldsModel", name := "in", desc := "(III)Z" } : Jvm.MethodName)) ∈ gtbl := gm (List.mem_of_getElem? (i := 337) (by decide +kernel)) (by decide +kernel)
theorem kw_338 : (Jvm.Cond.code ({ cls := "TillHoldsModel", name := "in", desc := "(III)Z" } : Jvm.MethodName) prog_6_method_3_code (3 : Nat) (Option.some Jvm.ClassFile.FieldType.boolean)) ∈ gtbl := gm (List.mem_of_getElem? (i := 338) rfl) rfl
theorem kw_339 : (Jvm.Cond.methodLink "TillHoldsModel" (72 : Nat) ({ cls := "TillHoldsModel", name := "empty", desc := "(I)V" } : Jvm.MethodName)) ∈ gtbl := gm (List.mem_of_getElem? (i := 339) (by decide +kernel)) (by decide +kernel)
theorem kw_341 : (Jvm.Cond.instanceMethod ({ cls := "TillHoldsModel", name := "empty", desc := "(I)V" } : Jvm.MethodName)) ∈ gtbl := gm (List.mem_of_getElem? (i := 341) (by decide +kernel)) (by decide +kernel)
theorem kw_342 : (Jvm.Cond.code ({ cls := "TillHoldsModel", name := "empty", desc := "(I)V" } : Jvm.MethodName) prog_6_method_17_code (3 : Nat) (Option.none : Option Jvm.ClassFile.FieldType)) ∈ gtbl := gm (List.mem_of_getElem? (i := 342) rfl) rfl
theorem kw_343 : (Jvm.Cond.methodLink "TillHoldsLaw" (22 : Nat) ({ cls := "TillHoldsModel", name := "drop", desc := "(I)I" } : Jvm.MethodName)) ∈ gtbl := gm (List.mem_of_getElem? (i := 343) (by decide +kernel)) (by decide +kernel)
theorem kw_344 : (Jvm.Cond.instanceMethod ({ cls := "TillHoldsModel", name := "drop", desc := "(I)I" } : Jvm.MethodName)) ∈ gtbl := gm (List.mem_of_getElem? (i := 344) (by decide +kernel)) (by decide +kernel)
theorem kw_345 : (Jvm.Cond.selects "TillHoldsModel" ({ cls := "TillHoldsModel", name := "drop", desc := "(I)I" } : Jvm.MethodName) ({ cls := "TillHoldsModel", name := "drop", desc := "(I)I" } : Jvm.MethodName)) ∈ gtbl := gm (List.mem_of_getElem? (i := 345) (by decide +kernel)) (by decide +kernel)
theorem kw_346 : (Jvm.Cond.code ({ cls := "TillHoldsModel", name := "drop", desc := "(I)I" } : Jvm.MethodName) prog_6_method_18_code (3 : Nat) (Option.some Jvm.ClassFile.FieldType.int)) ∈ gtbl := gm (List.mem_of_getElem? (i := 346) rfl) rfl
theorem kw_347 : (Jvm.Cond.methodLink "TillHoldsLaw" (27 : Nat) ({ cls := "TillHoldsModel", name := "shut", desc := "(IZ)I" } : Jvm.MethodName)) ∈ gtbl := gm (List.mem_of_getElem? (i := 347) (by decide +kernel)) (by decide +kernel)
theorem kw_348 : (Jvm.Cond.instanceMethod ({ cls := "TillHoldsModel", name := "shut", desc := "(IZ)I" } : Jvm.MethodName)) ∈ gtbl := gm (List.mem_of_getElem? (i := 348) (by decide +kernel)) (by decide +kernel)
theorem kw_349 : (Jvm.Cond.selects "TillHoldsModel" ({ cls := "TillHoldsModel", name := "shut", desc := "(IZ)I" } : Jvm.MethodName) ({ cls := "TillHoldsModel", name := "shut", desc := "(IZ)I" } : Jvm.MethodName)) ∈ gtbl := gm (List.mem_of_getElem? (i := 349) (by decide +kernel)) (by decide +kernel)
theorem kw_350 : (Jvm.Cond.code ({ cls := "TillHoldsModel", name := "shut", desc := "(IZ)I" } : Jvm.MethodName) prog_6_method_19_code (5 : Nat) (Option.some Jvm.ClassFile.FieldType.int)) ∈ gtbl := gm (List.mem_of_getElem? (i := 350) rfl) rfl
theorem kw_351 : (Jvm.Cond.methodLink "TillHoldsModel" (76 : Nat) ({ cls := "TillHoldsModel", name := "hold", desc := "(I)I" } : Jvm.MethodName)) ∈ gtbl := gm (List.mem_of_getElem? (i := 351) (by decide +kernel)) (by decide +kernel)
theorem kw_353 : (Jvm.Cond.instanceMethod ({ cls := "TillHoldsModel", name := "hold", desc := "(I)I" } : Jvm.MethodName)) ∈ gtbl := gm (List.mem_of_getElem? (i := 353) (by decide +kernel)) (by decide +kernel)
theorem kw_354 : (Jvm.Cond.code ({ cls := "TillHoldsModel", name := "hold", desc := "(I)I" } : Jvm.MethodName) prog_6_method_9_code (2 : Nat) (Option.some Jvm.ClassFile.FieldType.int)) ∈ gtbl := gm (List.mem_of_getElem? (i := 354) rfl) rfl
theorem kw_355 : (Jvm.Cond.methodLink "TillHoldsModel" (79 : Nat) ({ cls := "TillHoldsModel", name := "told", desc := "(II)I" } : Jvm.MethodName)) ∈ gtbl := gm (List.mem_of_getElem? (i := 355) (by decide +kernel)) (by decide +kernel)
theorem kw_356 : (Jvm.Cond.static ({ cls := "TillHoldsModel", name := "told", desc := "(II)I" } : Jvm.MethodName)) ∈ gtbl := gm (List.mem_of_getElem? (i := 356) (by decide +kernel)) (by decide +kernel)
theorem kw_357 : (Jvm.Cond.code ({ cls := "TillHoldsModel", name := "told", desc := "(II)I" } : Jvm.MethodName) prog_6_method_15_code (2 : Nat) (Option.some Jvm.ClassFile.FieldType.int)) ∈ gtbl := gm (List.mem_of_getElem? (i := 357) rfl) rfl
theorem kw_358 : (Jvm.Cond.methodLink "TillHoldsModel" (82 : Nat) ({ cls := "TillHoldsModel", name := "leave", desc := "(I)I" } : Jvm.MethodName)) ∈ gtbl := gm (List.mem_of_getElem? (i := 358) (by decide +kernel)) (by decide +kernel)
theorem kw_360 : (Jvm.Cond.instanceMethod ({ cls := "TillHoldsModel", name := "leave", desc := "(I)I" } : Jvm.MethodName)) ∈ gtbl := gm (List.mem_of_getElem? (i := 360) (by decide +kernel)) (by decide +kernel)
theorem kw_361 : (Jvm.Cond.code ({ cls := "TillHoldsModel", name := "leave", desc := "(I)I" } : Jvm.MethodName) prog_6_method_10_code (2 : Nat) (Option.some Jvm.ClassFile.FieldType.int)) ∈ gtbl := gm (List.mem_of_getElem? (i := 361) rfl) rfl
theorem kw_362 : (Jvm.Cond.methodLink "TillHoldsLaw" (32 : Nat) ({ cls := "TillHoldsModel", name := "put", desc := "(III)I" } : Jvm.MethodName)) ∈ gtbl := gm (List.mem_of_getElem? (i := 362) (by decide +kernel)) (by decide +kernel)
theorem kw_363 : (Jvm.Cond.instanceMethod ({ cls := "TillHoldsModel", name := "put", desc := "(III)I" } : Jvm.MethodName)) ∈ gtbl := gm (List.mem_of_getElem? (i := 363) (by decide +kernel)) (by decide +kernel)
theorem kw_364 : (Jvm.Cond.selects "TillHoldsModel" ({ cls := "TillHoldsModel", name := "put", desc := "(III)I" } : Jvm.MethodName) ({ cls := "TillHoldsModel", name := "put", desc := "(III)I" } : Jvm.MethodName)) ∈ gtbl := gm (List.mem_of_getElem? (i := 364) (by decide +kernel)) (by decide +kernel)
theorem kw_365 : (Jvm.Cond.code ({ cls := "TillHoldsModel", name := "put", desc := "(III)I" } : Jvm.MethodName) prog_6_method_20_code (6 : Nat) (Option.some Jvm.ClassFile.FieldType.int)) ∈ gtbl := gm (List.mem_of_getElem? (i := 365) rfl) rfl
theorem kw_366 : (Jvm.Cond.methodLink "TillHoldsModel" (85 : Nat) ({ cls := "TillHoldsModel", name := "lay", desc := "(I[I)I" } : Jvm.MethodName)) ∈ gtbl := gm (List.mem_of_getElem? (i := 366) (by decide +kernel)) (by decide +kernel)
theorem kw_368 : (Jvm.Cond.instanceMethod ({ cls := "TillHoldsModel", name := "lay", desc := "(I[I)I" } : Jvm.MethodName)) ∈ gtbl := gm (List.mem_of_getElem? (i := 368) (by decide +kernel)) (by decide +kernel)
theorem kw_369 : (Jvm.Cond.code ({ cls := "TillHoldsModel", name := "lay", desc := "(I[I)I" } : Jvm.MethodName) prog_6_method_14_code (3 : Nat) (Option.some Jvm.ClassFile.FieldType.int)) ∈ gtbl := gm (List.mem_of_getElem? (i := 369) rfl) rfl
theorem kw_370 : (Jvm.Cond.methodLink "TillHoldsModel" (61 : Nat) ({ cls := "TillHoldsModel", name := "all", desc := "(I)I" } : Jvm.MethodName)) ∈ gtbl := gm (List.mem_of_getElem? (i := 370) (by decide +kernel)) (by decide +kernel)
theorem kw_372 : (Jvm.Cond.instanceMethod ({ cls := "TillHoldsModel", name := "all", desc := "(I)I" } : Jvm.MethodName)) ∈ gtbl := gm (List.mem_of_getElem? (i := 372) (by decide +kernel)) (by decide +kernel)
theorem kw_373 : (Jvm.Cond.code ({ cls := "TillHoldsModel", name := "all", desc := "(I)I" } : Jvm.MethodName) prog_6_method_6_code (4 : Nat) (Option.some Jvm.ClassFile.FieldType.int)) ∈ gtbl := gm (List.mem_of_getElem? (i := 373) rfl) rfl
theorem kw_374 : (Jvm.Cond.methodLink "TillHoldsModel" (64 : Nat) ({ cls := "TillHoldsModel", name := "sum", desc := "([I)I" } : Jvm.MethodName)) ∈ gtbl := gm (List.mem_of_getElem? (i := 374) (by decide +kernel)) (by decide +kernel)
theorem kw_375 : (Jvm.Cond.static ({ cls := "TillHoldsModel", name := "sum", desc := "([I)I" } : Jvm.MethodName)) ∈ gtbl := gm (List.mem_of_getElem? (i := 375) (by decide +kernel)) (by decide +kernel)
theorem kw_376 : (Jvm.Cond.code ({ cls := "TillHoldsModel", name := "sum", desc := "([I)I" } : Jvm.MethodName) prog_6_method_13_code (3 : Nat) (Option.some Jvm.ClassFile.FieldType.int)) ∈ gtbl := gm (List.mem_of_getElem? (i := 376) rfl) rfl
theorem kw_377 : (Jvm.Cond.methodLink "TillHoldsModel" (57 : Nat) ({ cls := "TillHoldsModel", name := "go", desc := "(II[I)V" } : Jvm.MethodName)) ∈ gtbl := gm (List.mem_of_getElem? (i := 377) (by decide +kernel)) (by decide +kernel)
theorem kw_379 : (Jvm.Cond.instanceMethod ({ cls := "TillHoldsModel", name := "go", desc := "(II[I)V" } : Jvm.MethodName)) ∈ gtbl := gm (List.mem_of_getElem? (i := 379) (by decide +kernel)) (by decide +kernel)
theorem kw_380 : (Jvm.Cond.code ({ cls := "TillHoldsModel", name := "go", desc := "(II[I)V" } : Jvm.MethodName) prog_6_method_8_code (5 : Nat) (Option.none : Option Jvm.ClassFile.FieldType)) ∈ gtbl := gm (List.mem_of_getElem? (i := 380) rfl) rfl
theorem kw_381 : (Jvm.Cond.methodLink "TillHoldsLaw" (36 : Nat) ({ cls := "TillHoldsModel", name := "take", desc := "(II)I" } : Jvm.MethodName)) ∈ gtbl := gm (List.mem_of_getElem? (i := 381) (by decide +kernel)) (by decide +kernel)
theorem kw_382 : (Jvm.Cond.instanceMethod ({ cls := "TillHoldsModel", name := "take", desc := "(II)I" } : Jvm.MethodName)) ∈ gtbl := gm (List.mem_of_getElem? (i := 382) (by decide +kernel)) (by decide +kernel)
theorem kw_383 : (Jvm.Cond.selects "TillHoldsModel" ({ cls := "TillHoldsModel", name := "take", desc := "(II)I" } : Jvm.MethodName) ({ cls := "TillHoldsModel", name := "take", desc := "(II)I" } : Jvm.MethodName)) ∈ gtbl := gm (List.mem_of_getElem? (i := 383) (by decide +kernel)) (by decide +kernel)
theorem kw_384 : (Jvm.Cond.code ({ cls := "TillHoldsModel", name := "take", desc := "(II)I" } : Jvm.MethodName) prog_6_method_21_code (4 : Nat) (Option.some Jvm.ClassFile.FieldType.int)) ∈ gtbl := gm (List.mem_of_getElem? (i := 384) rfl) rfl
theorem kw_385 : (Jvm.Cond.methodLink "TillHoldsModel" (89 : Nat) ({ cls := "TillHoldsModel", name := "pay", desc := "(II)I" } : Jvm.MethodName)) ∈ gtbl := gm (List.mem_of_getElem? (i := 385) (by decide +kernel)) (by decide +kernel)
theorem kw_387 : (Jvm.Cond.instanceMethod ({ cls := "TillHoldsModel", name := "pay", desc := "(II)I" } : Jvm.MethodName)) ∈ gtbl := gm (List.mem_of_getElem? (i := 387) (by decide +kernel)) (by decide +kernel)
theorem kw_388 : (Jvm.Cond.code ({ cls := "TillHoldsModel", name := "pay", desc := "(II)I" } : Jvm.MethodName) prog_6_method_12_code (3 : Nat) (Option.some Jvm.ClassFile.FieldType.int)) ∈ gtbl := gm (List.mem_of_getElem? (i := 388) rfl) rfl
theorem kw_389 : (Jvm.Cond.methodLink "TillHoldsModel" (53 : Nat) ({ cls := "TillHoldsModel", name := "lacks", desc := "(II)I" } : Jvm.MethodName)) ∈ gtbl := gm (List.mem_of_getElem? (i := 389) (by decide +kernel)) (by decide +kernel)
theorem kw_391 : (Jvm.Cond.instanceMethod ({ cls := "TillHoldsModel", name := "lacks", desc := "(II)I" } : Jvm.MethodName)) ∈ gtbl := gm (List.mem_of_getElem? (i := 391) (by decide +kernel)) (by decide +kernel)
theorem kw_392 : (Jvm.Cond.code ({ cls := "TillHoldsModel", name := "lacks", desc := "(II)I" } : Jvm.MethodName) prog_6_method_11_code (6 : Nat) (Option.some Jvm.ClassFile.FieldType.int)) ∈ gtbl := gm (List.mem_of_getElem? (i := 392) rfl) rfl
theorem kw_393 : (Jvm.Cond.methodLink "TillHoldsModel" (37 : Nat) ({ cls := "TillHoldsModel", name := "worthOf", desc := "(I)I" } : Jvm.MethodName)) ∈ gtbl := gm (List.mem_of_getElem? (i := 393) (by decide +kernel)) (by decide +kernel)
theorem kw_394 : (Jvm.Cond.static ({ cls := "TillHoldsModel", name := "worthOf", desc := "(I)I" } : Jvm.MethodName)) ∈ gtbl := gm (List.mem_of_getElem? (i := 394) (by decide +kernel)) (by decide +kernel)
theorem kw_395 : (Jvm.Cond.code ({ cls := "TillHoldsModel", name := "worthOf", desc := "(I)I" } : Jvm.MethodName) prog_6_method_5_code (1 : Nat) (Option.some Jvm.ClassFile.FieldType.int)) ∈ gtbl := gm (List.mem_of_getElem? (i := 395) rfl) rfl
theorem kw_396 : (Jvm.Cond.methodLink "TillHoldsLaw" (41 : Nat) ({ cls := "TillHoldsModel", name := "move", desc := "(IIIZ)I" } : Jvm.MethodName)) ∈ gtbl := gm (List.mem_of_getElem? (i := 396) (by decide +kernel)) (by decide +kernel)
theorem kw_397 : (Jvm.Cond.instanceMethod ({ cls := "TillHoldsModel", name := "move", desc := "(IIIZ)I" } : Jvm.MethodName)) ∈ gtbl := gm (List.mem_of_getElem? (i := 397) (by decide +kernel)) (by decide +kernel)
theorem kw_398 : (Jvm.Cond.selects "TillHoldsModel" ({ cls := "TillHoldsModel", name := "move", desc := "(IIIZ)I" } : Jvm.MethodName) ({ cls := "TillHoldsModel", name := "move", desc := "(IIIZ)I" } : Jvm.MethodName)) ∈ gtbl := gm (List.mem_of_getElem? (i := 398) (by decide +kernel)) (by decide +kernel)
theorem kw_399 : (Jvm.Cond.code ({ cls := "TillHoldsModel", name := "move", desc := "(IIIZ)I" } : Jvm.MethodName) prog_6_method_22_code (6 : Nat) (Option.some Jvm.ClassFile.FieldType.int)) ∈ gtbl := gm (List.mem_of_getElem? (i := 399) rfl) rfl
theorem kw_400 : (Jvm.Cond.methodLink "TillHoldsLaw" (46 : Nat) ({ cls := "TillHoldsModel", name := "pass", desc := "(IIZ)I" } : Jvm.MethodName)) ∈ gtbl := gm (List.mem_of_getElem? (i := 400) (by decide +kernel)) (by decide +kernel)
theorem kw_401 : (Jvm.Cond.instanceMethod ({ cls := "TillHoldsModel", name := "pass", desc := "(IIZ)I" } : Jvm.MethodName)) ∈ gtbl := gm (List.mem_of_getElem? (i := 401) (by decide +kernel)) (by decide +kernel)
theorem kw_402 : (Jvm.Cond.selects "TillHoldsModel" ({ cls := "TillHoldsModel", name := "pass", desc := "(IIZ)I" } : Jvm.MethodName) ({ cls := "TillHoldsModel", name := "pass", desc := "(IIZ)I" } : Jvm.MethodName)) ∈ gtbl := gm (List.mem_of_getElem? (i := 402) (by decide +kernel)) (by decide +kernel)
theorem kw_403 : (Jvm.Cond.code ({ cls := "TillHoldsModel", name := "pass", desc := "(IIZ)I" } : Jvm.MethodName) prog_6_method_27_code (9 : Nat) (Option.some Jvm.ClassFile.FieldType.int)) ∈ gtbl := gm (List.mem_of_getElem? (i := 403) rfl) rfl
theorem kw_404 : (Jvm.Cond.constant "TillHoldsModel" (92 : Nat) (777777 : Int32)) ∈ gtbl := gm (List.mem_of_getElem? (i := 404) (by decide +kernel)) (by decide +kernel)
theorem kw_405 : (Jvm.Cond.methodLink "TillHoldsModel" (93 : Nat) ({ cls := "TillHoldsModel", name := "digits", desc := "(I)I" } : Jvm.MethodName)) ∈ gtbl := gm (List.mem_of_getElem? (i := 405) (by decide +kernel)) (by decide +kernel)
theorem kw_406 : (Jvm.Cond.static ({ cls := "TillHoldsModel", name := "digits", desc := "(I)I" } : Jvm.MethodName)) ∈ gtbl := gm (List.mem_of_getElem? (i := 406) (by decide +kernel)) (by decide +kernel)
theorem kw_407 : (Jvm.Cond.code ({ cls := "TillHoldsModel", name := "digits", desc := "(I)I" } : Jvm.MethodName) prog_6_method_23_code (3 : Nat) (Option.some Jvm.ClassFile.FieldType.int)) ∈ gtbl := gm (List.mem_of_getElem? (i := 407) rfl) rfl
theorem kw_408 : (Jvm.Cond.methodLink "TillHoldsModel" (96 : Nat) ({ cls := "TillHoldsModel", name := "digit", desc := "(III)I" } : Jvm.MethodName)) ∈ gtbl := gm (List.mem_of_getElem? (i := 408) (by decide +kernel)) (by decide +kernel)
theorem kw_409 : (Jvm.Cond.static ({ cls := "TillHoldsModel", name := "digit", desc := "(III)I" } : Jvm.MethodName)) ∈ gtbl := gm (List.mem_of_getElem? (i := 409) (by decide +kernel)) (by decide +kernel)
theorem kw_410 : (Jvm.Cond.code ({ cls := "TillHoldsModel", name := "digit", desc := "(III)I" } : Jvm.MethodName) prog_6_method_24_code (5 : Nat) (Option.some Jvm.ClassFile.FieldType.int)) ∈ gtbl := gm (List.mem_of_getElem? (i := 410) rfl) rfl
theorem kw_411 : (Jvm.Cond.methodLink "TillHoldsModel" (100 : Nat) ({ cls := "TillHoldsModel", name := "keep", desc := "(II)V" } : Jvm.MethodName)) ∈ gtbl := gm (List.mem_of_getElem? (i := 411) (by decide +kernel)) (by decide +kernel)
theorem kw_413 : (Jvm.Cond.instanceMethod ({ cls := "TillHoldsModel", name := "keep", desc := "(II)V" } : Jvm.MethodName)) ∈ gtbl := gm (List.mem_of_getElem? (i := 413) (by decide +kernel)) (by decide +kernel)
theorem kw_414 : (Jvm.Cond.code ({ cls := "TillHoldsModel", name := "keep", desc := "(II)V" } : Jvm.MethodName) prog_6_method_25_code (4 : Nat) (Option.none : Option Jvm.ClassFile.FieldType)) ∈ gtbl := gm (List.mem_of_getElem? (i := 414) rfl) rfl
theorem kw_415 : (Jvm.Cond.methodLink "TillHoldsModel" (104 : Nat) ({ cls := "TillHoldsModel", name := "putBack", desc := "(II)V" } : Jvm.MethodName)) ∈ gtbl := gm (List.mem_of_getElem? (i := 415) (by decide +kernel)) (by decide +kernel)
theorem kw_417 : (Jvm.Cond.instanceMethod ({ cls := "TillHoldsModel", name := "putBack", desc := "(II)V" } : Jvm.MethodName)) ∈ gtbl := gm (List.mem_of_getElem? (i := 417) (by decide +kernel)) (by decide +kernel)
theorem kw_418 : (Jvm.Cond.code ({ cls := "TillHoldsModel", name := "putBack", desc := "(II)V" } : Jvm.MethodName) prog_6_method_26_code (4 : Nat) (Option.none : Option Jvm.ClassFile.FieldType)) ∈ gtbl := gm (List.mem_of_getElem? (i := 418) rfl) rfl
theorem kw_419 : (Jvm.Cond.methodLink "TillHoldsLaw" (54 : Nat) ({ cls := "TillHoldsModel", name := "first", desc := "(I)I" } : Jvm.MethodName)) ∈ gtbl := gm (List.mem_of_getElem? (i := 419) (by decide +kernel)) (by decide +kernel)
theorem kw_420 : (Jvm.Cond.instanceMethod ({ cls := "TillHoldsModel", name := "first", desc := "(I)I" } : Jvm.MethodName)) ∈ gtbl := gm (List.mem_of_getElem? (i := 420) (by decide +kernel)) (by decide +kernel)
theorem kw_421 : (Jvm.Cond.selects "TillHoldsModel" ({ cls := "TillHoldsModel", name := "first", desc := "(I)I" } : Jvm.MethodName) ({ cls := "TillHoldsModel", name := "first", desc := "(I)I" } : Jvm.MethodName)) ∈ gtbl := gm (List.mem_of_getElem? (i := 421) (by decide +kernel)) (by decide +kernel)
theorem kw_422 : (Jvm.Cond.code ({ cls := "TillHoldsModel", name := "first", desc := "(I)I" } : Jvm.MethodName) prog_6_method_28_code (4 : Nat) (Option.some Jvm.ClassFile.FieldType.int)) ∈ gtbl := gm (List.mem_of_getElem? (i := 422) rfl) rfl
theorem kw_423 : (Jvm.Cond.methodLink "TillHoldsLaw" (50 : Nat) ({ cls := "TillHoldsModel", name := "share", desc := "(III)I" } : Jvm.MethodName)) ∈ gtbl := gm (List.mem_of_getElem? (i := 423) (by decide +kernel)) (by decide +kernel)
theorem kw_424 : (Jvm.Cond.instanceMethod ({ cls := "TillHoldsModel", name := "share", desc := "(III)I" } : Jvm.MethodName)) ∈ gtbl := gm (List.mem_of_getElem? (i := 424) (by decide +kernel)) (by decide +kernel)
theorem kw_425 : (Jvm.Cond.selects "TillHoldsModel" ({ cls := "TillHoldsModel", name := "share", desc := "(III)I" } : Jvm.MethodName) ({ cls := "TillHoldsModel", name := "share", desc := "(III)I" } : Jvm.MethodName)) ∈ gtbl := gm (List.mem_of_getElem? (i := 425) (by decide +kernel)) (by decide +kernel)
theorem kw_426 : (Jvm.Cond.code ({ cls := "TillHoldsModel", name := "share", desc := "(III)I" } : Jvm.MethodName) prog_6_method_29_code (10 : Nat) (Option.some Jvm.ClassFile.FieldType.int)) ∈ gtbl := gm (List.mem_of_getElem? (i := 426) rfl) rfl
theorem kw_427 : (Jvm.Cond.methodLink "TillHoldsLaw" (58 : Nat) ({ cls := "TillHoldsModel", name := "look", desc := "(II)I" } : Jvm.MethodName)) ∈ gtbl := gm (List.mem_of_getElem? (i := 427) (by decide +kernel)) (by decide +kernel)
theorem kw_428 : (Jvm.Cond.instanceMethod ({ cls := "TillHoldsModel", name := "look", desc := "(II)I" } : Jvm.MethodName)) ∈ gtbl := gm (List.mem_of_getElem? (i := 428) (by decide +kernel)) (by decide +kernel)
theorem kw_429 : (Jvm.Cond.selects "TillHoldsModel" ({ cls := "TillHoldsModel", name := "look", desc := "(II)I" } : Jvm.MethodName) ({ cls := "TillHoldsModel", name := "look", desc := "(II)I" } : Jvm.MethodName)) ∈ gtbl := gm (List.mem_of_getElem? (i := 429) (by decide +kernel)) (by decide +kernel)
theorem kw_430 : (Jvm.Cond.code ({ cls := "TillHoldsModel", name := "look", desc := "(II)I" } : Jvm.MethodName) prog_6_method_31_code (4 : Nat) (Option.some Jvm.ClassFile.FieldType.int)) ∈ gtbl := gm (List.mem_of_getElem? (i := 430) rfl) rfl
theorem kw_431 : (Jvm.Cond.methodLink "TillHoldsModel" (110 : Nat) ({ cls := "TillHoldsModel", name := "told", desc := "(III)I" } : Jvm.MethodName)) ∈ gtbl := gm (List.mem_of_getElem? (i := 431) (by decide +kernel)) (by decide +kernel)
theorem kw_433 : (Jvm.Cond.instanceMethod ({ cls := "TillHoldsModel", name := "told", desc := "(III)I" } : Jvm.MethodName)) ∈ gtbl := gm (List.mem_of_getElem? (i := 433) (by decide +kernel)) (by decide +kernel)
theorem kw_434 : (Jvm.Cond.code ({ cls := "TillHoldsModel", name := "told", desc := "(III)I" } : Jvm.MethodName) prog_6_method_30_code (4 : Nat) (Option.some Jvm.ClassFile.FieldType.int)) ∈ gtbl := gm (List.mem_of_getElem? (i := 434) rfl) rfl
theorem kw_435 : (Jvm.Cond.methodLink "TillHoldsModel" (107 : Nat) ({ cls := "TillHoldsModel", name := "worth", desc := "(I)I" } : Jvm.MethodName)) ∈ gtbl := gm (List.mem_of_getElem? (i := 435) (by decide +kernel)) (by decide +kernel)
theorem kw_437 : (Jvm.Cond.instanceMethod ({ cls := "TillHoldsModel", name := "worth", desc := "(I)I" } : Jvm.MethodName)) ∈ gtbl := gm (List.mem_of_getElem? (i := 437) (by decide +kernel)) (by decide +kernel)
theorem kw_438 : (Jvm.Cond.code ({ cls := "TillHoldsModel", name := "worth", desc := "(I)I" } : Jvm.MethodName) prog_6_method_7_code (4 : Nat) (Option.some Jvm.ClassFile.FieldType.int)) ∈ gtbl := gm (List.mem_of_getElem? (i := 438) rfl) rfl
theorem kw_439 : (Jvm.Cond.methodLink "TillHoldsLaw" (62 : Nat) ({ cls := "TillHoldsModel", name := "hand", desc := "(I)I" } : Jvm.MethodName)) ∈ gtbl := gm (List.mem_of_getElem? (i := 439) (by decide +kernel)) (by decide +kernel)
theorem kw_440 : (Jvm.Cond.instanceMethod ({ cls := "TillHoldsModel", name := "hand", desc := "(I)I" } : Jvm.MethodName)) ∈ gtbl := gm (List.mem_of_getElem? (i := 440) (by decide +kernel)) (by decide +kernel)
theorem kw_441 : (Jvm.Cond.selects "TillHoldsModel" ({ cls := "TillHoldsModel", name := "hand", desc := "(I)I" } : Jvm.MethodName) ({ cls := "TillHoldsModel", name := "hand", desc := "(I)I" } : Jvm.MethodName)) ∈ gtbl := gm (List.mem_of_getElem? (i := 441) (by decide +kernel)) (by decide +kernel)
theorem kw_442 : (Jvm.Cond.code ({ cls := "TillHoldsModel", name := "hand", desc := "(I)I" } : Jvm.MethodName) prog_6_method_32_code (2 : Nat) (Option.some Jvm.ClassFile.FieldType.int)) ∈ gtbl := gm (List.mem_of_getElem? (i := 442) rfl) rfl
theorem kw_443 : (Jvm.Cond.methodLink "TillHoldsLaw" (66 : Nat) ({ cls := "TillHoldsModel", name := "count", desc := "(I)I" } : Jvm.MethodName)) ∈ gtbl := gm (List.mem_of_getElem? (i := 443) (by decide +kernel)) (by decide +kernel)
theorem kw_444 : (Jvm.Cond.instanceMethod ({ cls := "TillHoldsModel", name := "count", desc := "(I)I" } : Jvm.MethodName)) ∈ gtbl := gm (List.mem_of_getElem? (i := 444) (by decide +kernel)) (by decide +kernel)
theorem kw_445 : (Jvm.Cond.selects "TillHoldsModel" ({ cls := "TillHoldsModel", name := "count", desc := "(I)I" } : Jvm.MethodName) ({ cls := "TillHoldsModel", name := "count", desc := "(I)I" } : Jvm.MethodName)) ∈ gtbl := gm (List.mem_of_getElem? (i := 445) (by decide +kernel)) (by decide +kernel)
theorem kw_446 : (Jvm.Cond.code ({ cls := "TillHoldsModel", name := "count", desc := "(I)I" } : Jvm.MethodName) prog_6_method_33_code (4 : Nat) (Option.some Jvm.ClassFile.FieldType.int)) ∈ gtbl := gm (List.mem_of_getElem? (i := 446) rfl) rfl
theorem cw_X3_44 : CWs RX3 44 yX3_isTill cX3_isTill 1 (some .boolean) 1 := ⟨⟨kw_124, kw_24, kw_126, by decide +kernel, by decide +kernel, by decide +kernel⟩, kw_125⟩
theorem cw_X3_48 : CWs RX3 48 yX3_isUpTo cX3_isUpTo 2 (some .boolean) 2 := ⟨⟨kw_127, kw_24, kw_129, by decide +kernel, by decide +kernel, by decide +kernel⟩, kw_128⟩
theorem cw_X3_66 : CWv RX3 66 yX0_clear cX0_clear 2 none 0 := ⟨⟨kw_130, kw_26, kw_133, by decide +kernel, by decide +kernel, by decide +kernel⟩, kw_131, kw_132⟩
theorem cw_X3_69 : CWv RX3 69 yX3_begin cX3_begin 2 (some .boolean) 1 := ⟨⟨kw_142, kw_24, kw_145, by decide +kernel, by decide +kernel, by decide +kernel⟩, kw_144, kw_0⟩
theorem cw_X3_73 : CWv RX3 73 yX3_end cX3_end 2 (some .int) 1 := ⟨⟨kw_153, kw_24, kw_156, by decide +kernel, by decide +kernel, by decide +kernel⟩, kw_155, kw_1⟩
theorem cw_X3_77 : CWs RX3 77 yX3_isKind cX3_isKind 1 (some .boolean) 1 := ⟨⟨kw_165, kw_24, kw_167, by decide +kernel, by decide +kernel, by decide +kernel⟩, kw_166⟩
theorem cw_X3_83 : CWv RX3 83 yX0_add cX0_add 3 none 1 := ⟨⟨kw_168, kw_26, kw_171, by decide +kernel, by decide +kernel, by decide +kernel⟩, kw_169, kw_170⟩
theorem cw_X3_87 : CWv RX3 87 yX3_layPicked cX3_layPicked 2 (some .int) 1 := ⟨⟨kw_172, kw_24, kw_175, by decide +kernel, by decide +kernel, by decide +kernel⟩, kw_174, kw_2⟩
theorem cw_X3_91 : CWv RX3 91 yX3_pay cX3_pay 3 (some .int) 2 := ⟨⟨kw_193, kw_24, kw_196, by decide +kernel, by decide +kernel, by decide +kernel⟩, kw_195, kw_3⟩
theorem cw_X3_95 : CWv RX3 95 yX3_moveWithin cX3_moveWithin 7 (some .int) 4 := ⟨⟨kw_210, kw_24, kw_213, by decide +kernel, by decide +kernel, by decide +kernel⟩, kw_212, kw_5⟩
theorem cw_X3_99 : CWv RX3 99 yX3_readRow cX3_readRow 6 (some .int) 1 := ⟨⟨kw_218, kw_24, kw_221, by decide +kernel, by decide +kernel, by decide +kernel⟩, kw_220, kw_6⟩
theorem cw_X3_102 : CWv RX3 102 yX0_become cX0_become 3 none 1 := ⟨⟨kw_226, kw_26, kw_229, by decide +kernel, by decide +kernel, by decide +kernel⟩, kw_227, kw_228⟩
theorem cw_X3_105 : CWv RX3 105 yX3_passFrom cX3_passFrom 7 (some .int) 4 := ⟨⟨kw_230, kw_24, kw_233, by decide +kernel, by decide +kernel, by decide +kernel⟩, kw_232, kw_7⟩
theorem cw_X3_109 : CWs RX3 109 yX3_halve cX3_halve 4 (some .int) 3 := ⟨⟨kw_242, kw_24, kw_244, by decide +kernel, by decide +kernel, by decide +kernel⟩, kw_243⟩
theorem cw_X3_113 : CWv RX3 113 yX3_couldPay cX3_couldPay 4 (some .boolean) 2 := ⟨⟨kw_252, kw_24, kw_255, by decide +kernel, by decide +kernel, by decide +kernel⟩, kw_254, kw_9⟩
theorem cw_X3_117 : CWv RX3 117 yX2_tell cX2_tell 2 (some .int) 1 := ⟨⟨kw_260, kw_25, kw_263, by decide +kernel, by decide +kernel, by decide +kernel⟩, kw_261, kw_262⟩
theorem cw_X3_120 : CWv RX3 120 yX0_tell cX0_tell 2 (some .int) 1 := ⟨⟨kw_279, kw_26, kw_267, by decide +kernel, by decide +kernel, by decide +kernel⟩, kw_265, kw_266⟩
theorem cw_X3_130 : CWv RX3 130 yX3_tillsThere cX3_tillsThere 3 (some .int) 0 := ⟨⟨kw_284, kw_24, kw_287, by decide +kernel, by decide +kernel, by decide +kernel⟩, kw_286, kw_10⟩
theorem cw_X3_134 : CWv RX3 134 yX1_begin cX1_begin 1 none 0 := ⟨⟨kw_146, kw_27, kw_149, by decide +kernel, by decide +kernel, by decide +kernel⟩, kw_147, kw_148⟩
theorem cw_X3_136 : CWv RX3 136 yX1_end cX1_end 2 none 1 := ⟨⟨kw_157, kw_27, kw_160, by decide +kernel, by decide +kernel, by decide +kernel⟩, kw_158, kw_159⟩
theorem cw_X3_148 : CWv RX3 148 yX3_pick cX3_pick 6 (some .boolean) 2 := ⟨⟨kw_197, kw_24, kw_200, by decide +kernel, by decide +kernel, by decide +kernel⟩, kw_199, kw_4⟩
theorem cw_X3_151 : CWv RX3 151 yX0_remove cX0_remove 3 none 1 := ⟨⟨kw_185, kw_26, kw_188, by decide +kernel, by decide +kernel, by decide +kernel⟩, kw_186, kw_187⟩
theorem cw_X3_154 : CWv RX3 154 yX0_number cX0_number 3 (some .int) 0 := ⟨⟨kw_176, kw_26, kw_179, by decide +kernel, by decide +kernel, by decide +kernel⟩, kw_177, kw_178⟩
theorem cw_X3_157 : CWv RX3 157 yX2_hasRoomFor cX2_hasRoomFor 2 (some .boolean) 1 := ⟨⟨kw_180, kw_25, kw_183, by decide +kernel, by decide +kernel, by decide +kernel⟩, kw_181, kw_182⟩
theorem cw_X3_161 : CWs RX3 161 yX3_digitsOf cX3_digitsOf 3 (some .int) 1 := ⟨⟨kw_223, kw_24, kw_225, by decide +kernel, by decide +kernel, by decide +kernel⟩, kw_224⟩
theorem cw_X3_164 : CWv RX3 164 yX3_passWithin cX3_passWithin 9 (some .int) 5 := ⟨⟨kw_234, kw_24, kw_237, by decide +kernel, by decide +kernel, by decide +kernel⟩, kw_236, kw_8⟩
theorem cw_X3_168 : CWs RX3 168 yX3_give cX3_give 4 (some .int) 4 := ⟨⟨kw_245, kw_24, kw_247, by decide +kernel, by decide +kernel, by decide +kernel⟩, kw_246⟩
theorem cw_X4_33 : CWs RX4 33 yX4_in cX4_in 3 (some .boolean) 3 := ⟨⟨kw_336, kw_28, kw_338, by decide +kernel, by decide +kernel, by decide +kernel⟩, kw_337⟩
theorem cw_X4_37 : CWs RX4 37 yX4_worthOf cX4_worthOf 1 (some .int) 1 := ⟨⟨kw_393, kw_28, kw_395, by decide +kernel, by decide +kernel, by decide +kernel⟩, kw_394⟩
theorem cw_X4_53 : CWv RX4 53 yX4_lacks cX4_lacks 6 (some .int) 2 := ⟨⟨kw_389, kw_28, kw_392, by decide +kernel, by decide +kernel, by decide +kernel⟩, kw_391, kw_18⟩
theorem cw_X4_57 : CWv RX4 57 yX4_go cX4_go 5 none 3 := ⟨⟨kw_377, kw_28, kw_380, by decide +kernel, by decide +kernel, by decide +kernel⟩, kw_379, kw_16⟩
theorem cw_X4_61 : CWv RX4 61 yX4_all cX4_all 4 (some .int) 1 := ⟨⟨kw_370, kw_28, kw_373, by decide +kernel, by decide +kernel, by decide +kernel⟩, kw_372, kw_15⟩
theorem cw_X4_64 : CWs RX4 64 yX4_sum cX4_sum 3 (some .int) 1 := ⟨⟨kw_374, kw_28, kw_376, by decide +kernel, by decide +kernel, by decide +kernel⟩, kw_375⟩
theorem cw_X4_68 : CWs RX4 68 yX4_isTill cX4_isTill 1 (some .boolean) 1 := ⟨⟨kw_333, kw_28, kw_335, by decide +kernel, by decide +kernel, by decide +kernel⟩, kw_334⟩
theorem cw_X4_72 : CWv RX4 72 yX4_empty cX4_empty 3 none 1 := ⟨⟨kw_339, kw_28, kw_342, by decide +kernel, by decide +kernel, by decide +kernel⟩, kw_341, kw_11⟩
theorem cw_X4_76 : CWv RX4 76 yX4_hold cX4_hold 2 (some .int) 1 := ⟨⟨kw_351, kw_28, kw_354, by decide +kernel, by decide +kernel, by decide +kernel⟩, kw_353, kw_12⟩
theorem cw_X4_79 : CWs RX4 79 yX4_told cX4_told 2 (some .int) 2 := ⟨⟨kw_355, kw_28, kw_357, by decide +kernel, by decide +kernel, by decide +kernel⟩, kw_356⟩
theorem cw_X4_82 : CWv RX4 82 yX4_leave cX4_leave 2 (some .int) 1 := ⟨⟨kw_358, kw_28, kw_361, by decide +kernel, by decide +kernel, by decide +kernel⟩, kw_360, kw_13⟩
theorem cw_X4_85 : CWv RX4 85 yX4_lay cX4_lay 3 (some .int) 2 := ⟨⟨kw_366, kw_28, kw_369, by decide +kernel, by decide +kernel, by decide +kernel⟩, kw_368, kw_14⟩
theorem cw_X4_89 : CWv RX4 89 yX4_pay cX4_pay 3 (some .int) 2 := ⟨⟨kw_385, kw_28, kw_388, by decide +kernel, by decide +kernel, by decide +kernel⟩, kw_387, kw_17⟩
theorem cw_X4_93 : CWs RX4 93 yX4_digits cX4_digits 3 (some .int) 1 := ⟨⟨kw_405, kw_28, kw_407, by decide +kernel, by decide +kernel, by decide +kernel⟩, kw_406⟩
theorem cw_X4_96 : CWs RX4 96 yX4_digit cX4_digit 5 (some .int) 3 := ⟨⟨kw_408, kw_28, kw_410, by decide +kernel, by decide +kernel, by decide +kernel⟩, kw_409⟩
theorem cw_X4_100 : CWv RX4 100 yX4_keep cX4_keep 4 none 2 := ⟨⟨kw_411, kw_28, kw_414, by decide +kernel, by decide +kernel, by decide +kernel⟩, kw_413, kw_19⟩
theorem cw_X4_104 : CWv RX4 104 yX4_putBack cX4_putBack 4 none 2 := ⟨⟨kw_415, kw_28, kw_418, by decide +kernel, by decide +kernel, by decide +kernel⟩, kw_417, kw_20⟩
theorem cw_X4_107 : CWv RX4 107 yX4_worth cX4_worth 4 (some .int) 1 := ⟨⟨kw_435, kw_28, kw_438, by decide +kernel, by decide +kernel, by decide +kernel⟩, kw_437, kw_22⟩
theorem cw_X4_110 : CWv RX4 110 yX4_told_ cX4_told_ 4 (some .int) 3 := ⟨⟨kw_431, kw_28, kw_434, by decide +kernel, by decide +kernel, by decide +kernel⟩, kw_433, kw_21⟩
theorem cw_X0_22 : CWv RX0 22 yX0_number cX0_number 3 (some .int) 0 := ⟨⟨kw_269, kw_26, kw_179, by decide +kernel, by decide +kernel, by decide +kernel⟩, kw_177, kw_178⟩
theorem cw_X0_26 : CWv RX0 26 yX0_worth cX0_worth 3 (some .int) 0 := ⟨⟨kw_270, kw_26, kw_273, by decide +kernel, by decide +kernel, by decide +kernel⟩, kw_271, kw_272⟩
theorem cw_X2_18 : CWv RX2 18 yX0_number cX0_number 3 (some .int) 0 := ⟨⟨kw_184, kw_26, kw_179, by decide +kernel, by decide +kernel, by decide +kernel⟩, kw_177, kw_178⟩
theorem cw_X2_30 : CWv RX2 30 yX0_tell cX0_tell 2 (some .int) 1 := ⟨⟨kw_264, kw_26, kw_267, by decide +kernel, by decide +kernel, by decide +kernel⟩, kw_265, kw_266⟩
theorem cw_L_13 : CWv RL 13 yX3_till cX3_till 4 (some .int) 2 := ⟨⟨kw_120, kw_24, kw_123, by decide +kernel, by decide +kernel, by decide +kernel⟩, kw_121, kw_122⟩
theorem cw_L_17 : CWv RL 17 yX4_till cX4_till 3 (some .int) 2 := ⟨⟨kw_329, kw_28, kw_332, by decide +kernel, by decide +kernel, by decide +kernel⟩, kw_330, kw_331⟩
theorem cw_L_18 : CWv RL 18 yX3_drop cX3_drop 3 (some .int) 1 := ⟨⟨kw_134, kw_24, kw_137, by decide +kernel, by decide +kernel, by decide +kernel⟩, kw_135, kw_136⟩
theorem cw_L_22 : CWv RL 22 yX4_drop cX4_drop 3 (some .int) 1 := ⟨⟨kw_343, kw_28, kw_346, by decide +kernel, by decide +kernel, by decide +kernel⟩, kw_344, kw_345⟩
theorem cw_L_23 : CWv RL 23 yX3_shut cX3_shut 5 (some .int) 2 := ⟨⟨kw_138, kw_24, kw_141, by decide +kernel, by decide +kernel, by decide +kernel⟩, kw_139, kw_140⟩
theorem cw_L_27 : CWv RL 27 yX4_shut cX4_shut 5 (some .int) 2 := ⟨⟨kw_347, kw_28, kw_350, by decide +kernel, by decide +kernel, by decide +kernel⟩, kw_348, kw_349⟩
theorem cw_L_28 : CWv RL 28 yX3_put cX3_put 5 (some .int) 3 := ⟨⟨kw_161, kw_24, kw_164, by decide +kernel, by decide +kernel, by decide +kernel⟩, kw_162, kw_163⟩
theorem cw_L_32 : CWv RL 32 yX4_put cX4_put 6 (some .int) 3 := ⟨⟨kw_362, kw_28, kw_365, by decide +kernel, by decide +kernel, by decide +kernel⟩, kw_363, kw_364⟩
theorem cw_L_33 : CWv RL 33 yX3_take cX3_take 4 (some .int) 2 := ⟨⟨kw_189, kw_24, kw_192, by decide +kernel, by decide +kernel, by decide +kernel⟩, kw_190, kw_191⟩
theorem cw_L_36 : CWv RL 36 yX4_take cX4_take 4 (some .int) 2 := ⟨⟨kw_381, kw_28, kw_384, by decide +kernel, by decide +kernel, by decide +kernel⟩, kw_382, kw_383⟩
theorem cw_L_37 : CWv RL 37 yX3_move cX3_move 6 (some .int) 4 := ⟨⟨kw_206, kw_24, kw_209, by decide +kernel, by decide +kernel, by decide +kernel⟩, kw_207, kw_208⟩
theorem cw_L_41 : CWv RL 41 yX4_move cX4_move 6 (some .int) 4 := ⟨⟨kw_396, kw_28, kw_399, by decide +kernel, by decide +kernel, by decide +kernel⟩, kw_397, kw_398⟩
theorem cw_L_42 : CWv RL 42 yX3_pass cX3_pass 6 (some .int) 3 := ⟨⟨kw_214, kw_24, kw_217, by decide +kernel, by decide +kernel, by decide +kernel⟩, kw_215, kw_216⟩
theorem cw_L_46 : CWv RL 46 yX4_pass cX4_pass 9 (some .int) 3 := ⟨⟨kw_400, kw_28, kw_403, by decide +kernel, by decide +kernel, by decide +kernel⟩, kw_401, kw_402⟩
theorem cw_L_47 : CWv RL 47 yX3_share cX3_share 6 (some .int) 3 := ⟨⟨kw_238, kw_24, kw_241, by decide +kernel, by decide +kernel, by decide +kernel⟩, kw_239, kw_240⟩
theorem cw_L_50 : CWv RL 50 yX4_share cX4_share 10 (some .int) 3 := ⟨⟨kw_423, kw_28, kw_426, by decide +kernel, by decide +kernel, by decide +kernel⟩, kw_424, kw_425⟩
theorem cw_L_51 : CWv RL 51 yX3_first cX3_first 3 (some .int) 1 := ⟨⟨kw_248, kw_24, kw_251, by decide +kernel, by decide +kernel, by decide +kernel⟩, kw_249, kw_250⟩
theorem cw_L_54 : CWv RL 54 yX4_first cX4_first 4 (some .int) 1 := ⟨⟨kw_419, kw_28, kw_422, by decide +kernel, by decide +kernel, by decide +kernel⟩, kw_420, kw_421⟩
theorem cw_L_55 : CWv RL 55 yX3_look cX3_look 4 (some .int) 2 := ⟨⟨kw_256, kw_24, kw_259, by decide +kernel, by decide +kernel, by decide +kernel⟩, kw_257, kw_258⟩
theorem cw_L_58 : CWv RL 58 yX4_look cX4_look 4 (some .int) 2 := ⟨⟨kw_427, kw_28, kw_430, by decide +kernel, by decide +kernel, by decide +kernel⟩, kw_428, kw_429⟩
theorem cw_L_59 : CWv RL 59 yX3_hand cX3_hand 2 (some .int) 1 := ⟨⟨kw_275, kw_24, kw_278, by decide +kernel, by decide +kernel, by decide +kernel⟩, kw_276, kw_277⟩
theorem cw_L_62 : CWv RL 62 yX4_hand cX4_hand 2 (some .int) 1 := ⟨⟨kw_439, kw_28, kw_442, by decide +kernel, by decide +kernel, by decide +kernel⟩, kw_440, kw_441⟩
theorem cw_L_63 : CWv RL 63 yX3_count cX3_count 2 (some .int) 1 := ⟨⟨kw_280, kw_24, kw_283, by decide +kernel, by decide +kernel, by decide +kernel⟩, kw_281, kw_282⟩
theorem cw_L_66 : CWv RL 66 yX4_count cX4_count 4 (some .int) 1 := ⟨⟨kw_443, kw_28, kw_446, by decide +kernel, by decide +kernel, by decide +kernel⟩, kw_444, kw_445⟩
end
section
def f_X3_isUpTo (num : Int32) (most : Int32) : Int32 :=
  if num < 0 then
    0
  else
    if most < num then
      0
    else
      1
set_option maxRecDepth 100000 in
set_option maxHeartbeats 4000000 in
theorem c_X3_isUpTo (l : Launch) (num : Int32) (most : Int32) : Met l yX3_isUpTo (.code yX3_isUpTo cX3_isUpTo 2 (some .boolean) :: gtbl) (rmL 0) (PS [.int num, .int most]) (QcRead (f_X3_isUpTo num most)) 0 0 (fun _ => False) := by
  refine x_metS (by decide) (Nat.le_of_ble_eq_true rfl) ?_
  intro p e s m below meth c ls hx hb hml hown hts hr hlk hl
  have hl : lv_has ls 2 [(0, .int num), (1, .int most)] := hl
  refine lv_iload_n hx hb dX3_isUpTo_0 rfl (lv_at hl 0 rfl) ?_
  refine lv_if_lt (tgt := 13) hx hb dX3_isUpTo_1 (by decide) (fun c_1 => ?_) (fun c_1 => ?_)
  · refine lv_iconst (v := 0) hx hb dX3_isUpTo_13 (by decide) ?_
    exact x_pretZ hx hb hr hlk rfl (by simp only [f_X3_isUpTo, if_pos c_1]) dX3_isUpTo_14
  · refine lv_iload_n hx hb dX3_isUpTo_4 rfl (lv_at hl 0 rfl) ?_
    refine lv_iload_n hx hb dX3_isUpTo_5 rfl (lv_at hl 1 rfl) ?_
    refine lv_icmp_gt (tgt := 13) hx hb dX3_isUpTo_6 (by decide) (fun c_2 => ?_) (fun c_2 => ?_)
    · refine lv_iconst (v := 0) hx hb dX3_isUpTo_13 (by decide) ?_
      exact x_pretZ hx hb hr hlk rfl (by simp only [f_X3_isUpTo, if_neg c_1, if_pos c_2]) dX3_isUpTo_14
    · refine lv_iconst (v := 1) hx hb dX3_isUpTo_9 (by decide) ?_
      refine lv_goto (tgt := 14) hx hb dX3_isUpTo_10 (by decide) ?_
      exact x_pretZ hx hb hr hlk rfl (by simp only [f_X3_isUpTo, if_neg c_1, if_neg c_2]) dX3_isUpTo_14
def f_X3_isTill (t : Int32) : Int32 :=
  if t < 0 then
    0
  else
    if 8 ≤ t then
      0
    else
      1
set_option maxRecDepth 100000 in
set_option maxHeartbeats 4000000 in
theorem c_X3_isTill (l : Launch) (t : Int32) : Met l yX3_isTill (.code yX3_isTill cX3_isTill 1 (some .boolean) :: gtbl) (rmL 0) (PS [.int t]) (QcRead (f_X3_isTill t)) 0 0 (fun _ => False) := by
  refine x_metS (by decide) (Nat.le_of_ble_eq_true rfl) ?_
  intro p e s m below meth c ls hx hb hml hown hts hr hlk hl
  have hl : lv_has ls 1 [(0, .int t)] := hl
  refine lv_iload_n hx hb dX3_isTill_0 rfl (lv_at hl 0 rfl) ?_
  refine lv_if_lt (tgt := 14) hx hb dX3_isTill_1 (by decide) (fun c_1 => ?_) (fun c_1 => ?_)
  · refine lv_iconst (v := 0) hx hb dX3_isTill_14 (by decide) ?_
    exact x_pretZ hx hb hr hlk rfl (by simp only [f_X3_isTill, if_pos c_1]) dX3_isTill_15
  · refine lv_iload_n hx hb dX3_isTill_4 rfl (lv_at hl 0 rfl) ?_
    refine lv_bipush (v := 8) hx hb dX3_isTill_5 (by decide) ?_
    refine lv_icmp_ge (tgt := 14) hx hb dX3_isTill_7 (by decide) (fun c_2 => ?_) (fun c_2 => ?_)
    · refine lv_iconst (v := 0) hx hb dX3_isTill_14 (by decide) ?_
      exact x_pretZ hx hb hr hlk rfl (by simp only [f_X3_isTill, if_neg c_1, if_pos c_2]) dX3_isTill_15
    · refine lv_iconst (v := 1) hx hb dX3_isTill_10 (by decide) ?_
      refine lv_goto (tgt := 15) hx hb dX3_isTill_11 (by decide) ?_
      exact x_pretZ hx hb hr hlk rfl (by simp only [f_X3_isTill, if_neg c_1, if_neg c_2]) dX3_isTill_15
def f_X3_isKind (kind : Int32) : Int32 :=
  if kind < 0 then
    0
  else
    if 5 ≤ kind then
      0
    else
      1
set_option maxRecDepth 100000 in
set_option maxHeartbeats 4000000 in
theorem c_X3_isKind (l : Launch) (kind : Int32) : Met l yX3_isKind (.code yX3_isKind cX3_isKind 1 (some .boolean) :: gtbl) (rmL 0) (PS [.int kind]) (QcRead (f_X3_isKind kind)) 0 0 (fun _ => False) := by
  refine x_metS (by decide) (Nat.le_of_ble_eq_true rfl) ?_
  intro p e s m below meth c ls hx hb hml hown hts hr hlk hl
  have hl : lv_has ls 1 [(0, .int kind)] := hl
  refine lv_iload_n hx hb dX3_isKind_0 rfl (lv_at hl 0 rfl) ?_
  refine lv_if_lt (tgt := 13) hx hb dX3_isKind_1 (by decide) (fun c_1 => ?_) (fun c_1 => ?_)
  · refine lv_iconst (v := 0) hx hb dX3_isKind_13 (by decide) ?_
    exact x_pretZ hx hb hr hlk rfl (by simp only [f_X3_isKind, if_pos c_1]) dX3_isKind_14
  · refine lv_iload_n hx hb dX3_isKind_4 rfl (lv_at hl 0 rfl) ?_
    refine lv_iconst (v := 5) hx hb dX3_isKind_5 (by decide) ?_
    refine lv_icmp_ge (tgt := 13) hx hb dX3_isKind_6 (by decide) (fun c_2 => ?_) (fun c_2 => ?_)
    · refine lv_iconst (v := 0) hx hb dX3_isKind_13 (by decide) ?_
      exact x_pretZ hx hb hr hlk rfl (by simp only [f_X3_isKind, if_neg c_1, if_pos c_2]) dX3_isKind_14
    · refine lv_iconst (v := 1) hx hb dX3_isKind_9 (by decide) ?_
      refine lv_goto (tgt := 14) hx hb dX3_isKind_10 (by decide) ?_
      exact x_pretZ hx hb hr hlk rfl (by simp only [f_X3_isKind, if_neg c_1, if_neg c_2]) dX3_isKind_14
def f_X4_in (v : Int32) (low : Int32) (high : Int32) : Int32 :=
  if v < low then
    0
  else
    if high < v then
      0
    else
      1
set_option maxRecDepth 100000 in
set_option maxHeartbeats 4000000 in
theorem c_X4_in (l : Launch) (v : Int32) (low : Int32) (high : Int32) : Met l yX4_in (.code yX4_in cX4_in 3 (some .boolean) :: gtbl) (rmL 0) (PS [.int v, .int low, .int high]) (QcRead (f_X4_in v low high)) 0 0 (fun _ => False) := by
  refine x_metS (by decide) (Nat.le_of_ble_eq_true rfl) ?_
  intro p e s m below meth c ls hx hb hml hown hts hr hlk hl
  have hl : lv_has ls 3 [(0, .int v), (1, .int low), (2, .int high)] := hl
  refine lv_iload_n hx hb dX4_in_0 rfl (lv_at hl 0 rfl) ?_
  refine lv_iload_n hx hb dX4_in_1 rfl (lv_at hl 1 rfl) ?_
  refine lv_icmp_lt (tgt := 14) hx hb dX4_in_2 (by decide) (fun c_1 => ?_) (fun c_1 => ?_)
  · refine lv_iconst (v := 0) hx hb dX4_in_14 (by decide) ?_
    exact x_pretZ hx hb hr hlk rfl (by simp only [f_X4_in, if_pos c_1]) dX4_in_15
  · refine lv_iload_n hx hb dX4_in_5 rfl (lv_at hl 0 rfl) ?_
    refine lv_iload_n hx hb dX4_in_6 rfl (lv_at hl 2 rfl) ?_
    refine lv_icmp_gt (tgt := 14) hx hb dX4_in_7 (by decide) (fun c_2 => ?_) (fun c_2 => ?_)
    · refine lv_iconst (v := 0) hx hb dX4_in_14 (by decide) ?_
      exact x_pretZ hx hb hr hlk rfl (by simp only [f_X4_in, if_neg c_1, if_pos c_2]) dX4_in_15
    · refine lv_iconst (v := 1) hx hb dX4_in_10 (by decide) ?_
      refine lv_goto (tgt := 15) hx hb dX4_in_11 (by decide) ?_
      exact x_pretZ hx hb hr hlk rfl (by simp only [f_X4_in, if_neg c_1, if_neg c_2]) dX4_in_15
def f_X4_worthOf (kind : Int32) : Int32 :=
  if kind = 0 then
    1
  else
    if kind = 1 then
      2
    else
      if kind = 2 then
        5
      else
        if kind = 3 then
          10
        else
          20
set_option maxRecDepth 100000 in
set_option maxHeartbeats 4000000 in
theorem c_X4_worthOf (l : Launch) (kind : Int32) : Met l yX4_worthOf (.code yX4_worthOf cX4_worthOf 1 (some .int) :: gtbl) (rmL 0) (PS [.int kind]) (QcRead (f_X4_worthOf kind)) 0 0 (fun _ => False) := by
  refine x_metS (by decide) (Nat.le_of_ble_eq_true rfl) ?_
  intro p e s m below meth c ls hx hb hml hown hts hr hlk hl
  have hl : lv_has ls 1 [(0, .int kind)] := hl
  refine lv_iload_n hx hb dX4_worthOf_0 rfl (lv_at hl 0 rfl) ?_
  refine lv_if_ne (tgt := 8) hx hb dX4_worthOf_1 (by decide) (fun c_1 => ?_) (fun c_1 => ?_)
  · refine lv_iload_n hx hb dX4_worthOf_8 rfl (lv_at hl 0 rfl) ?_
    refine lv_iconst (v := 1) hx hb dX4_worthOf_9 (by decide) ?_
    refine lv_icmp_ne (tgt := 17) hx hb dX4_worthOf_10 (by decide) (fun c_2 => ?_) (fun c_2 => ?_)
    · refine lv_iload_n hx hb dX4_worthOf_17 rfl (lv_at hl 0 rfl) ?_
      refine lv_iconst (v := 2) hx hb dX4_worthOf_18 (by decide) ?_
      refine lv_icmp_ne (tgt := 26) hx hb dX4_worthOf_19 (by decide) (fun c_3 => ?_) (fun c_3 => ?_)
      · refine lv_iload_n hx hb dX4_worthOf_26 rfl (lv_at hl 0 rfl) ?_
        refine lv_iconst (v := 3) hx hb dX4_worthOf_27 (by decide) ?_
        refine lv_icmp_ne (tgt := 36) hx hb dX4_worthOf_28 (by decide) (fun c_4 => ?_) (fun c_4 => ?_)
        · refine lv_bipush (v := 20) hx hb dX4_worthOf_36 (by decide) ?_
          exact x_pret hx hb hr hlk (by simp only [f_X4_worthOf, if_neg c_1, if_neg c_2, if_neg c_3, if_neg c_4]) dX4_worthOf_38
        · refine lv_bipush (v := 10) hx hb dX4_worthOf_31 (by decide) ?_
          refine lv_goto (tgt := 38) hx hb dX4_worthOf_33 (by decide) ?_
          exact x_pret hx hb hr hlk (by simp only [f_X4_worthOf, if_neg c_1, if_neg c_2, if_neg c_3, if_pos c_4]) dX4_worthOf_38
      · refine lv_iconst (v := 5) hx hb dX4_worthOf_22 (by decide) ?_
        refine lv_goto (tgt := 38) hx hb dX4_worthOf_23 (by decide) ?_
        exact x_pret hx hb hr hlk (by simp only [f_X4_worthOf, if_neg c_1, if_neg c_2, if_pos c_3]) dX4_worthOf_38
    · refine lv_iconst (v := 2) hx hb dX4_worthOf_13 (by decide) ?_
      refine lv_goto (tgt := 38) hx hb dX4_worthOf_14 (by decide) ?_
      exact x_pret hx hb hr hlk (by simp only [f_X4_worthOf, if_neg c_1, if_pos c_2]) dX4_worthOf_38
  · refine lv_iconst (v := 1) hx hb dX4_worthOf_4 (by decide) ?_
    refine lv_goto (tgt := 38) hx hb dX4_worthOf_5 (by decide) ?_
    exact x_pret hx hb hr hlk (by simp only [f_X4_worthOf, if_pos c_1]) dX4_worthOf_38
def f_X4_told (fl : Int32) (ans : Int32) : Int32 :=
  if fl = 0 then
    ans
  else
    ((-10) - fl)
set_option maxRecDepth 100000 in
set_option maxHeartbeats 4000000 in
theorem c_X4_told (l : Launch) (fl : Int32) (ans : Int32) : Met l yX4_told (.code yX4_told cX4_told 2 (some .int) :: gtbl) (rmL 0) (PS [.int fl, .int ans]) (QcRead (f_X4_told fl ans)) 0 0 (fun _ => False) := by
  refine x_metS (by decide) (Nat.le_of_ble_eq_true rfl) ?_
  intro p e s m below meth c ls hx hb hml hown hts hr hlk hl
  have hl : lv_has ls 2 [(0, .int fl), (1, .int ans)] := hl
  refine lv_iload_n hx hb dX4_told_0 rfl (lv_at hl 0 rfl) ?_
  refine lv_if_ne (tgt := 8) hx hb dX4_told_1 (by decide) (fun c_1 => ?_) (fun c_1 => ?_)
  · refine lv_bipush (v := -10) hx hb dX4_told_8 (by decide) ?_
    refine lv_iload_n hx hb dX4_told_10 rfl (lv_at hl 0 rfl) ?_
    refine lv_isub hx hb dX4_told_11 ?_
    exact x_pret hx hb hr hlk (by simp only [f_X4_told, if_neg c_1]) dX4_told_12
  · refine lv_iload_n hx hb dX4_told_4 rfl (lv_at hl 1 rfl) ?_
    refine lv_goto (tgt := 12) hx hb dX4_told_5 (by decide) ?_
    exact x_pret hx hb hr hlk (by simp only [f_X4_told, if_pos c_1]) dX4_told_12
theorem X4_in_nar (v a b : Int32) : narrow .boolean (.int (f_X4_in v a b)) = .int (f_X4_in v a b) := by
  unfold f_X4_in
  repeat' (first | rfl | split)
def f_X4_isTill (t : Int32) : Int32 :=
  f_X4_in t 0 7
set_option maxRecDepth 100000 in
set_option maxHeartbeats 4000000 in
theorem c_X4_isTill (l : Launch) (t : Int32) : Met l yX4_isTill (.code yX4_isTill cX4_isTill 1 (some .boolean) :: gtbl) (rmL 1) (PS [.int t]) (QcRead (f_X4_isTill t)) 0 0 (fun _ => False) := by
  refine x_metS (by decide) (Nat.le_of_ble_eq_true rfl) ?_
  intro p e s m below meth c ls hx hb hml hown hts hr hlk hl
  have hl : lv_has ls 1 [(0, .int t)] := hl
  refine lv_iload_n hx hb dX4_isTill_0 rfl (lv_at hl 0 rfl) ?_
  refine lv_iconst (v := 0) hx hb dX4_isTill_1 (by decide) ?_
  refine lv_bipush (v := 7) hx hb dX4_isTill_2 (by decide) ?_
  refine x_pure hx hb hml hown hts (c_X4_in l t 0 7) cw_X4_33 rfl rfl ⟨Nat.le_of_ble_eq_true rfl, Nat.le_of_ble_eq_true rfl⟩ rfl hl.1 rfl (Nat.le_of_ble_eq_true rfl) ⟨Nat.zero_le _, Nat.zero_le _⟩ dX4_isTill_4 ?_
  exact x_pretZ hx hb hr hlk (X4_in_nar _ _ _) (by simp only [f_X4_isTill]) dX4_isTill_7
def f_X1_begin (σ : St) : St :=
  (up (up (up σ 20 0 ((σ 20 0) + 1)) 20 2 (((up σ 20 0 ((σ 20 0) + 1)) 20 2) + 1)) 20 3 (if ((up (up σ 20 0 ((σ 20 0) + 1)) 20 2 (((up σ 20 0 ((σ 20 0) + 1)) 20 2) + 1)) 20 3) < ((up (up σ 20 0 ((σ 20 0) + 1)) 20 2 (((up σ 20 0 ((σ 20 0) + 1)) 20 2) + 1)) 20 2) then (up (up σ 20 0 ((σ 20 0) + 1)) 20 2 (((up σ 20 0 ((σ 20 0) + 1)) 20 2) + 1)) 20 2 else (up (up σ 20 0 ((σ 20 0) + 1)) 20 2 (((up σ 20 0 ((σ 20 0) + 1)) 20 2) + 1)) 20 3))
set_option maxRecDepth 100000 in
set_option maxHeartbeats 4000000 in
theorem c_X1_begin (l : Launch) {E : EV} (hA : AD E) (σ μ : St) : Met l yX1_begin (.code yX1_begin cX1_begin 1 none :: gtbl) (rmL 1) (va_Pc [.ref (ea E 2)] (PR E σ μ)) (QV E (f_X1_begin σ) μ) 0 0 (eA E) := by
  refine x_met (own := RX1) (by decide) rfl hA (Nat.le_of_ble_eq_true rfl) ?_
  intro p e s m below meth c ls F hr hlk hH hl
  have hl : lv_has ls 1 [(0, .ref (ea E 2))] := hl
  have hx := F.hx
  have hb := F.hb
  refine lv_aload_n hx hb dX1_begin_0 rfl (lv_at hl 0 rfl) ?_
  refine lv_dup hx hb dX1_begin_1 rfl ?_
  refine g_X1_begun F hH kw_81 dX1_begin_2 ?_
  refine lv_iconst (v := 1) hx hb dX1_begin_5 (by decide) ?_
  refine lv_iadd hx hb dX1_begin_6 ?_
  refine p_X1_begun F hH kw_81 dX1_begin_7 (fun H locs hH => ?_)
  refine lv_aload_n hx hb dX1_begin_10 rfl (lv_at hl 0 rfl) ?_
  refine lv_dup hx hb dX1_begin_11 rfl ?_
  refine g_X1_depth F hH kw_85 dX1_begin_12 ?_
  refine lv_iconst (v := 1) hx hb dX1_begin_15 (by decide) ?_
  refine lv_iadd hx hb dX1_begin_16 ?_
  refine p_X1_depth F hH kw_85 dX1_begin_17 (fun H locs hH => ?_)
  refine lv_aload_n hx hb dX1_begin_20 rfl (lv_at hl 0 rfl) ?_
  refine lv_aload_n hx hb dX1_begin_21 rfl (lv_at hl 0 rfl) ?_
  refine g_X1_deepest F hH kw_86 dX1_begin_22 ?_
  refine lv_aload_n hx hb dX1_begin_25 rfl (lv_at hl 0 rfl) ?_
  refine g_X1_depth F hH kw_85 dX1_begin_26 ?_
  refine va_mmax hx hb (by rw [F.hml]; exact hl.1.symm) F.hown (F.hts _ kw_150) (F.hts _ kw_151) (F.hts _ kw_29) (F.hts _ kw_152) (Nat.le_of_ble_eq_true rfl) (Nat.le_of_ble_eq_true rfl) (Nat.zero_le _) (Nat.zero_le _) dX1_begin_29 ?_
  refine p_X1_deepest F hH kw_86 dX1_begin_32 (fun H locs hH => ?_)
  exact x_vret F hr hlk hH (by simp only [f_X1_begin]) rfl dX1_begin_35
def f_X1_end (σ : St) (fa : Int32) : St :=
  if (bz fa) = 0 then
    (up σ 20 2 ((σ 20 2) - 1))
  else
    (up (up σ 20 2 ((σ 20 2) - 1)) 20 1 (((up σ 20 2 ((σ 20 2) - 1)) 20 1) + 1))
set_option maxRecDepth 100000 in
set_option maxHeartbeats 4000000 in
theorem c_X1_end (l : Launch) {E : EV} (hA : AD E) (σ μ : St) (fa : Int32) : Met l yX1_end (.code yX1_end cX1_end 2 none :: gtbl) (rmL 0) (va_Pc [.ref (ea E 2), .int (bz fa)] (PR E σ μ)) (QV E (f_X1_end σ fa) μ) 0 0 (eA E) := by
  refine x_met (own := RX1) (by decide) rfl hA (Nat.le_of_ble_eq_true rfl) ?_
  intro p e s m below meth c ls F hr hlk hH hl
  have hl : lv_has ls 2 [(0, .ref (ea E 2)), (1, .int (bz fa))] := hl
  have hx := F.hx
  have hb := F.hb
  refine lv_aload_n hx hb dX1_end_0 rfl (lv_at hl 0 rfl) ?_
  refine lv_dup hx hb dX1_end_1 rfl ?_
  refine g_X1_depth F hH kw_85 dX1_end_2 ?_
  refine lv_iconst (v := 1) hx hb dX1_end_5 (by decide) ?_
  refine lv_isub hx hb dX1_end_6 ?_
  refine p_X1_depth F hH kw_85 dX1_end_7 (fun H locs hH => ?_)
  refine lv_iload_n hx hb dX1_end_10 rfl (lv_at hl 1 rfl) ?_
  refine lv_if_eq (tgt := 24) hx hb dX1_end_11 (by decide) (fun c_1 => ?_) (fun c_1 => ?_)
  · exact x_vret F hr hlk hH (by simp only [f_X1_end, if_pos c_1]) rfl dX1_end_24
  · refine lv_aload_n hx hb dX1_end_14 rfl (lv_at hl 0 rfl) ?_
    refine lv_dup hx hb dX1_end_15 rfl ?_
    refine g_X1_left F hH kw_83 dX1_end_16 ?_
    refine lv_iconst (v := 1) hx hb dX1_end_19 (by decide) ?_
    refine lv_iadd hx hb dX1_end_20 ?_
    refine p_X1_left F hH kw_83 dX1_end_21 (fun H locs hH => ?_)
    exact x_vret F hr hlk hH (by simp only [f_X1_end, if_neg c_1]) rfl dX1_end_24
theorem tn_toInt {x : Int32} (h : ¬ x < 0) : (tn x : Int) = x.toInt := by
  have h1 : ¬ x.toInt < 0 := by simpa [Int32.lt_iff_toInt_lt] using h
  show ((x.toInt.toNat : Nat) : Int) = x.toInt
  omega
theorem nI_tn {x : Int32} (h : ¬ x < 0) : x = nI (tn x) := by
  obtain ⟨j, hj, rfl⟩ := nI_of h
  rw [tn, nI_clamp hj]
theorem tn_le {x m : Int32} {M : Nat} (hm : m = nI M) (hM : M < 2 ^ 31) (h0 : ¬ x < 0) (h : ¬ m < x) : tn x ≤ M := by
  have h1 := tn_toInt h0
  rw [hm, Int32.lt_iff_toInt_lt, nI_toInt hM] at h
  omega
theorem X3_isUpTo_n {x m : Int32} {M : Nat} (hm : m = nI M) (hM : M < 2 ^ 31) (h : ¬ f_X3_isUpTo x m = 0) : x = nI (tn x) ∧ tn x ≤ M := by
  unfold f_X3_isUpTo at h
  by_cases h0 : x < 0
  · rw [if_pos h0] at h; exact absurd rfl h
  · rw [if_neg h0] at h
    by_cases h1 : m < x
    · rw [if_pos h1] at h; exact absurd rfl h
    · exact ⟨nI_tn h0, tn_le hm hM h0 h1⟩
theorem X3_isTill_n {x : Int32} (h : ¬ f_X3_isTill x = 0) : x = nI (tn x) ∧ tn x < 8 := by
  unfold f_X3_isTill at h
  by_cases h0 : x < 0
  · rw [if_pos h0] at h; exact absurd rfl h
  · rw [if_neg h0] at h
    by_cases h1 : 8 ≤ x
    · rw [if_pos h1] at h; exact absurd rfl h
    · refine ⟨nI_tn h0, ?_⟩
      have h2 := tn_toInt h0
      rw [Int32.le_iff_toInt_le, show (8 : Int32).toInt = 8 from rfl] at h1
      omega
theorem X3_isKind_n {x : Int32} (h : ¬ f_X3_isKind x = 0) : x = nI (tn x) ∧ tn x < 5 := by
  unfold f_X3_isKind at h
  by_cases h0 : x < 0
  · rw [if_pos h0] at h; exact absurd rfl h
  · rw [if_neg h0] at h
    by_cases h1 : 5 ≤ x
    · rw [if_pos h1] at h; exact absurd rfl h
    · refine ⟨nI_tn h0, ?_⟩
      have h2 := tn_toInt h0
      rw [Int32.le_iff_toInt_le, show (5 : Int32).toInt = 5 from rfl] at h1
      omega
theorem X4_in_n {x m : Int32} {M : Nat} (hm : m = nI M) (hM : M < 2 ^ 31) (h : ¬ f_X4_in x 0 m = 0) : x = nI (tn x) ∧ tn x ≤ M := by
  unfold f_X4_in at h
  by_cases h0 : x < 0
  · rw [if_pos h0] at h; exact absurd rfl h
  · rw [if_neg h0] at h
    by_cases h1 : m < x
    · rw [if_pos h1] at h; exact absurd rfl h
    · exact ⟨nI_tn h0, tn_le hm hM h0 h1⟩
theorem X4_isTill_n {x : Int32} (h : ¬ f_X4_isTill x = 0) : x = nI (tn x) ∧ tn x < 8 := by
  unfold f_X4_isTill at h
  have := X4_in_n (M := 7) rfl (by decide) h
  exact ⟨this.1, by omega⟩
theorem fq_eq {a b : Nat} {x : Int32} (hx : x = nI b) (ha : a < 2 ^ 31) (hb : b < 2 ^ 31) : nI a = x ↔ a = b := by rw [hx]; exact nI_eq ha hb
theorem fq_lt {a b : Nat} {x : Int32} (hx : x = nI b) (ha : a < 2 ^ 31) (hb : b < 2 ^ 31) : nI a < x ↔ a < b := by rw [hx]; exact nI_ltI ha hb
theorem fq_le {a b : Nat} {x : Int32} (hx : x = nI b) (ha : a < 2 ^ 31) (hb : b < 2 ^ 31) : nI a ≤ x ↔ a ≤ b := by rw [hx]; exact nI_leI ha hb
theorem fq_gt {a b : Nat} {x : Int32} (hx : x = nI b) (ha : a < 2 ^ 31) (hb : b < 2 ^ 31) : x < nI a ↔ b < a := by rw [hx]; exact nI_ltI hb ha
theorem fq_ge {a b : Nat} {x : Int32} (hx : x = nI b) (ha : a < 2 ^ 31) (hb : b < 2 ^ 31) : x ≤ nI a ↔ b ≤ a := by rw [hx]; exact nI_leI hb ha
theorem wof_ne (k : Nat) : ¬ wof k = 0 := by unfold wof; split <;> decide
theorem worthOf_ne (k : Int32) : ¬ f_X4_worthOf k = 0 := by unfold f_X4_worthOf; repeat' (first | split | decide)
end
section
def sumL (f : Nat → Int32) : Nat → Nat → Int32 → Int32
  | 0, _, acc => acc
  | n + 1, k, acc => sumL f n (k + 1) (acc + f k)
def wsumL (f : Nat → Int32) : Nat → Nat → Int32 → Int32
  | 0, _, acc => acc
  | n + 1, k, acc => wsumL f n (k + 1) (acc + f k * wof k)
def clrL (j : Nat) : Nat → Nat → St → St
  | 0, _, σ => σ
  | n + 1, k, σ => clrL j n (k + 1) (up σ j k 0)
def becL (j i : Nat) : Nat → Nat → St → St
  | 0, _, σ => σ
  | n + 1, k, σ => becL j i n (k + 1) (up σ j k (σ i k))
def addL (j i : Nat) : Nat → Nat → St → St
  | 0, _, σ => σ
  | n + 1, k, σ => addL j i n (k + 1) (up σ j k (σ j k + σ i k))
def remL (j i : Nat) : Nat → Nat → St → St
  | 0, _, σ => σ
  | n + 1, k, σ => remL j i n (k + 1) (up σ j k (σ j k - σ i k))
set_option maxRecDepth 100000 in
set_option maxHeartbeats 4000000 in
theorem lp_X0_number {p : Program} {l : Launch} {e : Env} {s : State} {m : MethodId} {args : Array Value} {below : List Frame} {meth : Method} {c : Code} {Q : State → Prop} {E : EV} (F : Fx E p s m args c cX0_number RX0 3) (j : Nat) (hj : j < 17) : ∀ (n : Nat) (k : Nat) (acc : Int32) (σ μ : St) (H : Heap) (locs : List Loc) (ls : Array Slot), k + n = 5 → HS E s σ μ H locs → lv_has ls 3 [(0, .ref (ea E (13 + j))), (1, .int acc), (2, .int (nI k))] → (∀ (H : Heap) (locs : List Loc) (ls : Array Slot), HS E s σ μ H locs → lv_has ls 3 [(0, .ref (ea E (13 + j))), (1, .int (sumL (σ j) n k acc)), (2, .int (nI 5))] → W p l e (rmL 0) s m args below meth c H locs 0 0 Q (F0 m 24 ls [])) → W p l e (rmL 0) s m args below meth c H locs 0 0 Q (F0 m 4 ls []) := by
  have hx := F.hx
  have hb := F.hb
  intro n
  induction n with
  | zero =>
    intro k acc σ μ H locs ls hn hH hl hk
    obtain rfl : k = 5 := by omega
    refine lv_iload_n hx hb dX0_number_4 rfl (lv_at hl 2 rfl) ?_
    refine lv_iconst (v := 5) hx hb dX0_number_5 (by decide) ?_
    refine lv_icmp_ge (tgt := 24) hx hb dX0_number_6 (by decide) (fun _ => ?_) (fun c_1 => absurd (by decide) c_1)
    simp only [sumL] at hk
    exact hk H locs ls hH (lv_sub hl [0, 1, 2] rfl)
  | succ n ih =>
    intro k acc σ μ H locs ls hn hH hl hk
    refine lv_iload_n hx hb dX0_number_4 rfl (lv_at hl 2 rfl) ?_
    refine lv_iconst (v := 5) hx hb dX0_number_5 (by decide) ?_
    refine lv_icmp_ge (tgt := 24) hx hb dX0_number_6 (by decide) (fun c_1 => absurd c_1 (nI_ge (show k < 5 by omega) (by decide))) (fun _ => ?_)
    refine lv_iload_n hx hb dX0_number_9 rfl (lv_at hl 1 rfl) ?_
    refine lv_aload_n hx hb dX0_number_10 rfl (lv_at hl 0 rfl) ?_
    refine g_X0_of F hH (j := j) (by omega) kw_51 dX0_number_11 ?_
    refine lv_iload_n hx hb dX0_number_14 rfl (lv_at hl 2 rfl) ?_
    refine a_of F hH (j := j) (by omega) k (by omega) dX0_number_15 ?_
    refine lv_iadd hx hb dX0_number_16 ?_
    refine lv_istore_n (lv' := [(1, .int (acc + (σ j k))), (0, .ref (ea E (13 + j))), (2, .int (nI k))]) hx hb dX0_number_17 rfl hl (by decide) rfl (fun ls hl => ?_)
    refine lv_iinc (v := nI (k + 1)) (lv' := [(2, .int (nI (k + 1))), (1, .int (acc + (σ j k))), (0, .ref (ea E (13 + j)))]) hx hb dX0_number_18 hl (k := 2) rfl (nI_1 k) (by decide) rfl (fun ls hl => ?_)
    refine lv_goto (tgt := 4) hx hb dX0_number_21 (by decide) ?_
    simp only [sumL] at hk
    exact ih (k + 1) (acc + (σ j k)) σ μ H locs ls (by omega) hH (lv_sub hl [2, 1, 0] rfl) hk
set_option maxRecDepth 100000 in
set_option maxHeartbeats 4000000 in
theorem c_X0_number (l : Launch) {E : EV} (hA : AD E) (σ μ : St) (j : Nat) (hj : j < 17) : Met l yX0_number (.code yX0_number cX0_number 3 (some .int) :: gtbl) (rmL 0) (va_Pc [.ref (ea E (13 + j))] (PR E σ μ)) (QI E (sumL (σ j) 5 0 0) σ μ) 0 0 (eA E) := by
  refine x_met (own := RX0) (by decide) rfl hA (Nat.le_of_ble_eq_true rfl) ?_
  intro p e s m below meth c ls F hr hlk hH hl
  have hl : lv_has ls 3 [(0, .ref (ea E (13 + j)))] := hl
  have hx := F.hx
  have hb := F.hb
  refine lv_iconst (v := 0) hx hb dX0_number_0 (by decide) ?_
  refine lv_istore_n (lv' := [(1, .int 0), (0, .ref (ea E (13 + j)))]) hx hb dX0_number_1 rfl hl (by decide) rfl (fun ls hl => ?_)
  refine lv_iconst (v := 0) hx hb dX0_number_2 (by decide) ?_
  refine lv_istore_n (lv' := [(2, .int 0), (1, .int 0), (0, .ref (ea E (13 + j)))]) hx hb dX0_number_3 rfl hl (by decide) rfl (fun ls hl => ?_)
  refine lp_X0_number F j hj 5 0 0 σ μ _ _ ls (by omega) hH (lv_sub hl [2, 1, 0] rfl) (fun H locs ls hH hl => ?_)
  refine lv_iload_n hx hb dX0_number_24 rfl (lv_at hl 1 rfl) ?_
  exact x_iretR F hr hlk hH rfl dX0_number_25
set_option maxRecDepth 100000 in
set_option maxHeartbeats 4000000 in
theorem lp_X0_worth {p : Program} {l : Launch} {e : Env} {s : State} {m : MethodId} {args : Array Value} {below : List Frame} {meth : Method} {c : Code} {Q : State → Prop} {E : EV} (F : Fx E p s m args c cX0_worth RX0 3) (j : Nat) (hj : j < 17) : ∀ (n : Nat) (k : Nat) (acc : Int32) (σ μ : St) (H : Heap) (locs : List Loc) (ls : Array Slot), k + n = 5 → HS E s σ μ H locs → lv_has ls 3 [(0, .ref (ea E (13 + j))), (1, .int acc), (2, .int (nI k))] → (∀ (H : Heap) (locs : List Loc) (ls : Array Slot), HS E s σ μ H locs → lv_has ls 3 [(0, .ref (ea E (13 + j))), (1, .int (wsumL (σ j) n k acc)), (2, .int (nI 5))] → W p l e (rmL 0) s m args below meth c H locs 0 0 Q (F0 m 30 ls [])) → W p l e (rmL 0) s m args below meth c H locs 0 0 Q (F0 m 4 ls []) := by
  have hx := F.hx
  have hb := F.hb
  intro n
  induction n with
  | zero =>
    intro k acc σ μ H locs ls hn hH hl hk
    obtain rfl : k = 5 := by omega
    refine lv_iload_n hx hb dX0_worth_4 rfl (lv_at hl 2 rfl) ?_
    refine lv_iconst (v := 5) hx hb dX0_worth_5 (by decide) ?_
    refine lv_icmp_ge (tgt := 30) hx hb dX0_worth_6 (by decide) (fun _ => ?_) (fun c_1 => absurd (by decide) c_1)
    simp only [wsumL] at hk
    exact hk H locs ls hH (lv_sub hl [0, 1, 2] rfl)
  | succ n ih =>
    intro k acc σ μ H locs ls hn hH hl hk
    refine lv_iload_n hx hb dX0_worth_4 rfl (lv_at hl 2 rfl) ?_
    refine lv_iconst (v := 5) hx hb dX0_worth_5 (by decide) ?_
    refine lv_icmp_ge (tgt := 30) hx hb dX0_worth_6 (by decide) (fun c_1 => absurd c_1 (nI_ge (show k < 5 by omega) (by decide))) (fun _ => ?_)
    refine lv_iload_n hx hb dX0_worth_9 rfl (lv_at hl 1 rfl) ?_
    refine lv_aload_n hx hb dX0_worth_10 rfl (lv_at hl 0 rfl) ?_
    refine g_X0_of F hH (j := j) (by omega) kw_51 dX0_worth_11 ?_
    refine lv_iload_n hx hb dX0_worth_14 rfl (lv_at hl 2 rfl) ?_
    refine a_of F hH (j := j) (by omega) k (by omega) dX0_worth_15 ?_
    refine x_wgetN F hH dX0_worth_16 ?_
    refine lv_iload_n hx hb dX0_worth_19 rfl (lv_at hl 2 rfl) ?_
    refine x_wld F hH k (by omega) dX0_worth_20 ?_
    refine lv_imul hx hb dX0_worth_21 ?_
    refine lv_iadd hx hb dX0_worth_22 ?_
    refine lv_istore_n (lv' := [(1, .int (acc + ((σ j k) * (wof k)))), (0, .ref (ea E (13 + j))), (2, .int (nI k))]) hx hb dX0_worth_23 rfl hl (by decide) rfl (fun ls hl => ?_)
    refine lv_iinc (v := nI (k + 1)) (lv' := [(2, .int (nI (k + 1))), (1, .int (acc + ((σ j k) * (wof k)))), (0, .ref (ea E (13 + j)))]) hx hb dX0_worth_24 hl (k := 2) rfl (nI_1 k) (by decide) rfl (fun ls hl => ?_)
    refine lv_goto (tgt := 4) hx hb dX0_worth_27 (by decide) ?_
    simp only [wsumL] at hk
    exact ih (k + 1) (acc + ((σ j k) * (wof k))) σ μ H locs ls (by omega) hH (lv_sub hl [2, 1, 0] rfl) hk
set_option maxRecDepth 100000 in
set_option maxHeartbeats 4000000 in
theorem c_X0_worth (l : Launch) {E : EV} (hA : AD E) (σ μ : St) (j : Nat) (hj : j < 17) : Met l yX0_worth (.code yX0_worth cX0_worth 3 (some .int) :: gtbl) (rmL 0) (va_Pc [.ref (ea E (13 + j))] (PR E σ μ)) (QI E (wsumL (σ j) 5 0 0) σ μ) 0 0 (eA E) := by
  refine x_met (own := RX0) (by decide) rfl hA (Nat.le_of_ble_eq_true rfl) ?_
  intro p e s m below meth c ls F hr hlk hH hl
  have hl : lv_has ls 3 [(0, .ref (ea E (13 + j)))] := hl
  have hx := F.hx
  have hb := F.hb
  refine lv_iconst (v := 0) hx hb dX0_worth_0 (by decide) ?_
  refine lv_istore_n (lv' := [(1, .int 0), (0, .ref (ea E (13 + j)))]) hx hb dX0_worth_1 rfl hl (by decide) rfl (fun ls hl => ?_)
  refine lv_iconst (v := 0) hx hb dX0_worth_2 (by decide) ?_
  refine lv_istore_n (lv' := [(2, .int 0), (1, .int 0), (0, .ref (ea E (13 + j)))]) hx hb dX0_worth_3 rfl hl (by decide) rfl (fun ls hl => ?_)
  refine lp_X0_worth F j hj 5 0 0 σ μ _ _ ls (by omega) hH (lv_sub hl [2, 1, 0] rfl) (fun H locs ls hH hl => ?_)
  refine lv_iload_n hx hb dX0_worth_30 rfl (lv_at hl 1 rfl) ?_
  exact x_iretR F hr hlk hH rfl dX0_worth_31
set_option maxRecDepth 100000 in
set_option maxHeartbeats 4000000 in
theorem lp_X0_clear {p : Program} {l : Launch} {e : Env} {s : State} {m : MethodId} {args : Array Value} {below : List Frame} {meth : Method} {c : Code} {Q : State → Prop} {E : EV} (F : Fx E p s m args c cX0_clear RX0 2) (j : Nat) (hj : j < 17) : ∀ (n : Nat) (k : Nat) (σ μ : St) (H : Heap) (locs : List Loc) (ls : Array Slot), k + n = 5 → HS E s σ μ H locs → lv_has ls 2 [(0, .ref (ea E (13 + j))), (1, .int (nI k))] → (∀ (H : Heap) (locs : List Loc) (ls : Array Slot), HS E s (clrL j n k σ) μ H locs → lv_has ls 2 [(0, .ref (ea E (13 + j))), (1, .int (nI 5))] → W p l e (rmL 0) s m args below meth c H locs 0 0 Q (F0 m 20 ls [])) → W p l e (rmL 0) s m args below meth c H locs 0 0 Q (F0 m 2 ls []) := by
  have hx := F.hx
  have hb := F.hb
  intro n
  induction n with
  | zero =>
    intro k σ μ H locs ls hn hH hl hk
    obtain rfl : k = 5 := by omega
    refine lv_iload_n hx hb dX0_clear_2 rfl (lv_at hl 1 rfl) ?_
    refine lv_iconst (v := 5) hx hb dX0_clear_3 (by decide) ?_
    refine lv_icmp_ge (tgt := 20) hx hb dX0_clear_4 (by decide) (fun _ => ?_) (fun c_1 => absurd (by decide) c_1)
    simp only [clrL] at hk
    exact hk H locs ls hH (lv_sub hl [0, 1] rfl)
  | succ n ih =>
    intro k σ μ H locs ls hn hH hl hk
    refine lv_iload_n hx hb dX0_clear_2 rfl (lv_at hl 1 rfl) ?_
    refine lv_iconst (v := 5) hx hb dX0_clear_3 (by decide) ?_
    refine lv_icmp_ge (tgt := 20) hx hb dX0_clear_4 (by decide) (fun c_1 => absurd c_1 (nI_ge (show k < 5 by omega) (by decide))) (fun _ => ?_)
    refine lv_aload_n hx hb dX0_clear_7 rfl (lv_at hl 0 rfl) ?_
    refine g_X0_of F hH (j := j) (by omega) kw_51 dX0_clear_8 ?_
    refine lv_iload_n hx hb dX0_clear_11 rfl (lv_at hl 1 rfl) ?_
    refine lv_iconst (v := 0) hx hb dX0_clear_12 (by decide) ?_
    refine s_of F hH (j := j) (by omega) k (by omega) dX0_clear_13 (fun H locs hH => ?_)
    refine lv_iinc (v := nI (k + 1)) (lv' := [(1, .int (nI (k + 1))), (0, .ref (ea E (13 + j)))]) hx hb dX0_clear_14 hl (k := 1) rfl (nI_1 k) (by decide) rfl (fun ls hl => ?_)
    refine lv_goto (tgt := 2) hx hb dX0_clear_17 (by decide) ?_
    simp only [clrL] at hk
    exact ih (k + 1) (up σ j k 0) μ H locs ls (by omega) hH (lv_sub hl [1, 0] rfl) hk
set_option maxRecDepth 100000 in
set_option maxHeartbeats 4000000 in
theorem c_X0_clear (l : Launch) {E : EV} (hA : AD E) (σ μ : St) (j : Nat) (hj : j < 17) : Met l yX0_clear (.code yX0_clear cX0_clear 2 none :: gtbl) (rmL 0) (va_Pc [.ref (ea E (13 + j))] (PR E σ μ)) (QV E (clrL j 5 0 σ) μ) 0 0 (eA E) := by
  refine x_met (own := RX0) (by decide) rfl hA (Nat.le_of_ble_eq_true rfl) ?_
  intro p e s m below meth c ls F hr hlk hH hl
  have hl : lv_has ls 2 [(0, .ref (ea E (13 + j)))] := hl
  have hx := F.hx
  have hb := F.hb
  refine lv_iconst (v := 0) hx hb dX0_clear_0 (by decide) ?_
  refine lv_istore_n (lv' := [(1, .int 0), (0, .ref (ea E (13 + j)))]) hx hb dX0_clear_1 rfl hl (by decide) rfl (fun ls hl => ?_)
  refine lp_X0_clear F j hj 5 0 σ μ _ _ ls (by omega) hH (lv_sub hl [1, 0] rfl) (fun H locs ls hH hl => ?_)
  exact x_vret F hr hlk hH rfl rfl dX0_clear_20
set_option maxRecDepth 100000 in
set_option maxHeartbeats 4000000 in
theorem lp_X0_become {p : Program} {l : Launch} {e : Env} {s : State} {m : MethodId} {args : Array Value} {below : List Frame} {meth : Method} {c : Code} {Q : State → Prop} {E : EV} (F : Fx E p s m args c cX0_become RX0 3) (j i : Nat) (hj : j < 17) (hi : i < 17) : ∀ (n : Nat) (k : Nat) (σ μ : St) (H : Heap) (locs : List Loc) (ls : Array Slot), k + n = 5 → HS E s σ μ H locs → lv_has ls 3 [(0, .ref (ea E (13 + j))), (1, .ref (ea E (13 + i))), (2, .int (nI k))] → (∀ (H : Heap) (locs : List Loc) (ls : Array Slot), HS E s (becL j i n k σ) μ H locs → lv_has ls 3 [(0, .ref (ea E (13 + j))), (1, .ref (ea E (13 + i))), (2, .int (nI 5))] → W p l e (rmL 0) s m args below meth c H locs 0 0 Q (F0 m 25 ls [])) → W p l e (rmL 0) s m args below meth c H locs 0 0 Q (F0 m 2 ls []) := by
  have hx := F.hx
  have hb := F.hb
  intro n
  induction n with
  | zero =>
    intro k σ μ H locs ls hn hH hl hk
    obtain rfl : k = 5 := by omega
    refine lv_iload_n hx hb dX0_become_2 rfl (lv_at hl 2 rfl) ?_
    refine lv_iconst (v := 5) hx hb dX0_become_3 (by decide) ?_
    refine lv_icmp_ge (tgt := 25) hx hb dX0_become_4 (by decide) (fun _ => ?_) (fun c_1 => absurd (by decide) c_1)
    simp only [becL] at hk
    exact hk H locs ls hH (lv_sub hl [0, 1, 2] rfl)
  | succ n ih =>
    intro k σ μ H locs ls hn hH hl hk
    refine lv_iload_n hx hb dX0_become_2 rfl (lv_at hl 2 rfl) ?_
    refine lv_iconst (v := 5) hx hb dX0_become_3 (by decide) ?_
    refine lv_icmp_ge (tgt := 25) hx hb dX0_become_4 (by decide) (fun c_1 => absurd c_1 (nI_ge (show k < 5 by omega) (by decide))) (fun _ => ?_)
    refine lv_aload_n hx hb dX0_become_7 rfl (lv_at hl 0 rfl) ?_
    refine g_X0_of F hH (j := j) (by omega) kw_51 dX0_become_8 ?_
    refine lv_iload_n hx hb dX0_become_11 rfl (lv_at hl 2 rfl) ?_
    refine lv_aload_n hx hb dX0_become_12 rfl (lv_at hl 1 rfl) ?_
    refine g_X0_of F hH (j := i) (by omega) kw_51 dX0_become_13 ?_
    refine lv_iload_n hx hb dX0_become_16 rfl (lv_at hl 2 rfl) ?_
    refine a_of F hH (j := i) (by omega) k (by omega) dX0_become_17 ?_
    refine s_of F hH (j := j) (by omega) k (by omega) dX0_become_18 (fun H locs hH => ?_)
    refine lv_iinc (v := nI (k + 1)) (lv' := [(2, .int (nI (k + 1))), (0, .ref (ea E (13 + j))), (1, .ref (ea E (13 + i)))]) hx hb dX0_become_19 hl (k := 2) rfl (nI_1 k) (by decide) rfl (fun ls hl => ?_)
    refine lv_goto (tgt := 2) hx hb dX0_become_22 (by decide) ?_
    simp only [becL] at hk
    exact ih (k + 1) (up σ j k (σ i k)) μ H locs ls (by omega) hH (lv_sub hl [1, 2, 0] rfl) hk
set_option maxRecDepth 100000 in
set_option maxHeartbeats 4000000 in
theorem c_X0_become (l : Launch) {E : EV} (hA : AD E) (σ μ : St) (j : Nat) (i : Nat) (hj : j < 17) (hi : i < 17) : Met l yX0_become (.code yX0_become cX0_become 3 none :: gtbl) (rmL 0) (va_Pc [.ref (ea E (13 + j)), .ref (ea E (13 + i))] (PR E σ μ)) (QV E (becL j i 5 0 σ) μ) 0 0 (eA E) := by
  refine x_met (own := RX0) (by decide) rfl hA (Nat.le_of_ble_eq_true rfl) ?_
  intro p e s m below meth c ls F hr hlk hH hl
  have hl : lv_has ls 3 [(0, .ref (ea E (13 + j))), (1, .ref (ea E (13 + i)))] := hl
  have hx := F.hx
  have hb := F.hb
  refine lv_iconst (v := 0) hx hb dX0_become_0 (by decide) ?_
  refine lv_istore_n (lv' := [(2, .int 0), (0, .ref (ea E (13 + j))), (1, .ref (ea E (13 + i)))]) hx hb dX0_become_1 rfl hl (by decide) rfl (fun ls hl => ?_)
  refine lp_X0_become F j i hj hi 5 0 σ μ _ _ ls (by omega) hH (lv_sub hl [1, 2, 0] rfl) (fun H locs ls hH hl => ?_)
  exact x_vret F hr hlk hH rfl rfl dX0_become_25
set_option maxRecDepth 100000 in
set_option maxHeartbeats 4000000 in
theorem lp_X0_add {p : Program} {l : Launch} {e : Env} {s : State} {m : MethodId} {args : Array Value} {below : List Frame} {meth : Method} {c : Code} {Q : State → Prop} {E : EV} (F : Fx E p s m args c cX0_add RX0 3) (j i : Nat) (hj : j < 17) (hi : i < 17) : ∀ (n : Nat) (k : Nat) (σ μ : St) (H : Heap) (locs : List Loc) (ls : Array Slot), k + n = 5 → HS E s σ μ H locs → lv_has ls 3 [(0, .ref (ea E (13 + j))), (1, .ref (ea E (13 + i))), (2, .int (nI k))] → (∀ (H : Heap) (locs : List Loc) (ls : Array Slot), HS E s (addL j i n k σ) μ H locs → lv_has ls 3 [(0, .ref (ea E (13 + j))), (1, .ref (ea E (13 + i))), (2, .int (nI 5))] → W p l e (rmL 0) s m args below meth c H locs 0 0 Q (F0 m 28 ls [])) → W p l e (rmL 0) s m args below meth c H locs 0 0 Q (F0 m 2 ls []) := by
  have hx := F.hx
  have hb := F.hb
  intro n
  induction n with
  | zero =>
    intro k σ μ H locs ls hn hH hl hk
    obtain rfl : k = 5 := by omega
    refine lv_iload_n hx hb dX0_add_2 rfl (lv_at hl 2 rfl) ?_
    refine lv_iconst (v := 5) hx hb dX0_add_3 (by decide) ?_
    refine lv_icmp_ge (tgt := 28) hx hb dX0_add_4 (by decide) (fun _ => ?_) (fun c_1 => absurd (by decide) c_1)
    simp only [addL] at hk
    exact hk H locs ls hH (lv_sub hl [0, 1, 2] rfl)
  | succ n ih =>
    intro k σ μ H locs ls hn hH hl hk
    refine lv_iload_n hx hb dX0_add_2 rfl (lv_at hl 2 rfl) ?_
    refine lv_iconst (v := 5) hx hb dX0_add_3 (by decide) ?_
    refine lv_icmp_ge (tgt := 28) hx hb dX0_add_4 (by decide) (fun c_1 => absurd c_1 (nI_ge (show k < 5 by omega) (by decide))) (fun _ => ?_)
    refine lv_aload_n hx hb dX0_add_7 rfl (lv_at hl 0 rfl) ?_
    refine g_X0_of F hH (j := j) (by omega) kw_51 dX0_add_8 ?_
    refine lv_iload_n hx hb dX0_add_11 rfl (lv_at hl 2 rfl) ?_
    refine lv_dup2_11 hx hb dX0_add_12 rfl rfl ?_
    refine a_of F hH (j := j) (by omega) k (by omega) dX0_add_13 ?_
    refine lv_aload_n hx hb dX0_add_14 rfl (lv_at hl 1 rfl) ?_
    refine g_X0_of F hH (j := i) (by omega) kw_51 dX0_add_15 ?_
    refine lv_iload_n hx hb dX0_add_18 rfl (lv_at hl 2 rfl) ?_
    refine a_of F hH (j := i) (by omega) k (by omega) dX0_add_19 ?_
    refine lv_iadd hx hb dX0_add_20 ?_
    refine s_of F hH (j := j) (by omega) k (by omega) dX0_add_21 (fun H locs hH => ?_)
    refine lv_iinc (v := nI (k + 1)) (lv' := [(2, .int (nI (k + 1))), (0, .ref (ea E (13 + j))), (1, .ref (ea E (13 + i)))]) hx hb dX0_add_22 hl (k := 2) rfl (nI_1 k) (by decide) rfl (fun ls hl => ?_)
    refine lv_goto (tgt := 2) hx hb dX0_add_25 (by decide) ?_
    simp only [addL] at hk
    exact ih (k + 1) (up σ j k ((σ j k) + (σ i k))) μ H locs ls (by omega) hH (lv_sub hl [1, 2, 0] rfl) hk
set_option maxRecDepth 100000 in
set_option maxHeartbeats 4000000 in
theorem c_X0_add (l : Launch) {E : EV} (hA : AD E) (σ μ : St) (j : Nat) (i : Nat) (hj : j < 17) (hi : i < 17) : Met l yX0_add (.code yX0_add cX0_add 3 none :: gtbl) (rmL 0) (va_Pc [.ref (ea E (13 + j)), .ref (ea E (13 + i))] (PR E σ μ)) (QV E (addL j i 5 0 σ) μ) 0 0 (eA E) := by
  refine x_met (own := RX0) (by decide) rfl hA (Nat.le_of_ble_eq_true rfl) ?_
  intro p e s m below meth c ls F hr hlk hH hl
  have hl : lv_has ls 3 [(0, .ref (ea E (13 + j))), (1, .ref (ea E (13 + i)))] := hl
  have hx := F.hx
  have hb := F.hb
  refine lv_iconst (v := 0) hx hb dX0_add_0 (by decide) ?_
  refine lv_istore_n (lv' := [(2, .int 0), (0, .ref (ea E (13 + j))), (1, .ref (ea E (13 + i)))]) hx hb dX0_add_1 rfl hl (by decide) rfl (fun ls hl => ?_)
  refine lp_X0_add F j i hj hi 5 0 σ μ _ _ ls (by omega) hH (lv_sub hl [1, 2, 0] rfl) (fun H locs ls hH hl => ?_)
  exact x_vret F hr hlk hH rfl rfl dX0_add_28
set_option maxRecDepth 100000 in
set_option maxHeartbeats 4000000 in
theorem lp_X0_remove {p : Program} {l : Launch} {e : Env} {s : State} {m : MethodId} {args : Array Value} {below : List Frame} {meth : Method} {c : Code} {Q : State → Prop} {E : EV} (F : Fx E p s m args c cX0_remove RX0 3) (j i : Nat) (hj : j < 17) (hi : i < 17) : ∀ (n : Nat) (k : Nat) (σ μ : St) (H : Heap) (locs : List Loc) (ls : Array Slot), k + n = 5 → HS E s σ μ H locs → lv_has ls 3 [(0, .ref (ea E (13 + j))), (1, .ref (ea E (13 + i))), (2, .int (nI k))] → (∀ (H : Heap) (locs : List Loc) (ls : Array Slot), HS E s (remL j i n k σ) μ H locs → lv_has ls 3 [(0, .ref (ea E (13 + j))), (1, .ref (ea E (13 + i))), (2, .int (nI 5))] → W p l e (rmL 0) s m args below meth c H locs 0 0 Q (F0 m 28 ls [])) → W p l e (rmL 0) s m args below meth c H locs 0 0 Q (F0 m 2 ls []) := by
  have hx := F.hx
  have hb := F.hb
  intro n
  induction n with
  | zero =>
    intro k σ μ H locs ls hn hH hl hk
    obtain rfl : k = 5 := by omega
    refine lv_iload_n hx hb dX0_remove_2 rfl (lv_at hl 2 rfl) ?_
    refine lv_iconst (v := 5) hx hb dX0_remove_3 (by decide) ?_
    refine lv_icmp_ge (tgt := 28) hx hb dX0_remove_4 (by decide) (fun _ => ?_) (fun c_1 => absurd (by decide) c_1)
    simp only [remL] at hk
    exact hk H locs ls hH (lv_sub hl [0, 1, 2] rfl)
  | succ n ih =>
    intro k σ μ H locs ls hn hH hl hk
    refine lv_iload_n hx hb dX0_remove_2 rfl (lv_at hl 2 rfl) ?_
    refine lv_iconst (v := 5) hx hb dX0_remove_3 (by decide) ?_
    refine lv_icmp_ge (tgt := 28) hx hb dX0_remove_4 (by decide) (fun c_1 => absurd c_1 (nI_ge (show k < 5 by omega) (by decide))) (fun _ => ?_)
    refine lv_aload_n hx hb dX0_remove_7 rfl (lv_at hl 0 rfl) ?_
    refine g_X0_of F hH (j := j) (by omega) kw_51 dX0_remove_8 ?_
    refine lv_iload_n hx hb dX0_remove_11 rfl (lv_at hl 2 rfl) ?_
    refine lv_dup2_11 hx hb dX0_remove_12 rfl rfl ?_
    refine a_of F hH (j := j) (by omega) k (by omega) dX0_remove_13 ?_
    refine lv_aload_n hx hb dX0_remove_14 rfl (lv_at hl 1 rfl) ?_
    refine g_X0_of F hH (j := i) (by omega) kw_51 dX0_remove_15 ?_
    refine lv_iload_n hx hb dX0_remove_18 rfl (lv_at hl 2 rfl) ?_
    refine a_of F hH (j := i) (by omega) k (by omega) dX0_remove_19 ?_
    refine lv_isub hx hb dX0_remove_20 ?_
    refine s_of F hH (j := j) (by omega) k (by omega) dX0_remove_21 (fun H locs hH => ?_)
    refine lv_iinc (v := nI (k + 1)) (lv' := [(2, .int (nI (k + 1))), (0, .ref (ea E (13 + j))), (1, .ref (ea E (13 + i)))]) hx hb dX0_remove_22 hl (k := 2) rfl (nI_1 k) (by decide) rfl (fun ls hl => ?_)
    refine lv_goto (tgt := 2) hx hb dX0_remove_25 (by decide) ?_
    simp only [remL] at hk
    exact ih (k + 1) (up σ j k ((σ j k) - (σ i k))) μ H locs ls (by omega) hH (lv_sub hl [1, 2, 0] rfl) hk
set_option maxRecDepth 100000 in
set_option maxHeartbeats 4000000 in
theorem c_X0_remove (l : Launch) {E : EV} (hA : AD E) (σ μ : St) (j : Nat) (i : Nat) (hj : j < 17) (hi : i < 17) : Met l yX0_remove (.code yX0_remove cX0_remove 3 none :: gtbl) (rmL 0) (va_Pc [.ref (ea E (13 + j)), .ref (ea E (13 + i))] (PR E σ μ)) (QV E (remL j i 5 0 σ) μ) 0 0 (eA E) := by
  refine x_met (own := RX0) (by decide) rfl hA (Nat.le_of_ble_eq_true rfl) ?_
  intro p e s m below meth c ls F hr hlk hH hl
  have hl : lv_has ls 3 [(0, .ref (ea E (13 + j))), (1, .ref (ea E (13 + i)))] := hl
  have hx := F.hx
  have hb := F.hb
  refine lv_iconst (v := 0) hx hb dX0_remove_0 (by decide) ?_
  refine lv_istore_n (lv' := [(2, .int 0), (0, .ref (ea E (13 + j))), (1, .ref (ea E (13 + i)))]) hx hb dX0_remove_1 rfl hl (by decide) rfl (fun ls hl => ?_)
  refine lp_X0_remove F j i hj hi 5 0 σ μ _ _ ls (by omega) hH (lv_sub hl [1, 2, 0] rfl) (fun H locs ls hH hl => ?_)
  exact x_vret F hr hlk hH rfl rfl dX0_remove_28
def f_X0_tell (σ : St) (j : Nat) (what : Int32) : Int32 :=
  if (f_X3_isKind what) = 0 then
    if what = 5 then
      sumL (σ j) 5 0 0
    else
      wsumL (σ j) 5 0 0
  else
    σ j (tn what)
set_option maxRecDepth 100000 in
set_option maxHeartbeats 4000000 in
theorem c_X0_tell (l : Launch) {E : EV} (hA : AD E) (σ μ : St) (j : Nat) (what : Int32) (hj : j < 17) : Met l yX0_tell (.code yX0_tell cX0_tell 2 (some .int) :: gtbl) (rmL 1) (va_Pc [.ref (ea E (13 + j)), .int what] (PR E σ μ)) (QI E (f_X0_tell σ j what) σ μ) 0 0 (eA E) := by
  refine x_met (own := RX0) (by decide) rfl hA (Nat.le_of_ble_eq_true rfl) ?_
  intro p e s m below meth c ls F hr hlk hH hl
  have hl : lv_has ls 2 [(0, .ref (ea E (13 + j))), (1, .int what)] := hl
  have hx := F.hx
  have hb := F.hb
  refine lv_iload_n hx hb dX0_tell_0 rfl (lv_at hl 1 rfl) ?_
  refine x_pureN F (c_X3_isKind l what) kw_167 kw_166 kw_24 rfl rfl ⟨Nat.le_of_ble_eq_true rfl, Nat.le_of_ble_eq_true rfl⟩ rfl hl.1 rfl (Nat.le_of_ble_eq_true rfl) ⟨Nat.zero_le _, Nat.zero_le _⟩ dX0_tell_1 ?_
  refine lv_if_eq (tgt := 14) hx hb dX0_tell_4 (by decide) (fun c_1 => ?_) (fun c_1 => ?_)
  · refine lv_iload_n hx hb dX0_tell_14 rfl (lv_at hl 1 rfl) ?_
    refine lv_iconst (v := 5) hx hb dX0_tell_15 (by decide) ?_
    refine lv_icmp_ne (tgt := 26) hx hb dX0_tell_16 (by decide) (fun c_2 => ?_) (fun c_2 => ?_)
    · refine lv_aload_n hx hb dX0_tell_26 rfl (lv_at hl 0 rfl) ?_
      refine x_calliR F hH (13 + j) (F.lt (by omega)) (vv2 (by omega)) rfl (c_X0_worth l F.ad σ μ j (by omega)) cw_X0_26 rfl rfl ⟨Nat.le_of_ble_eq_true rfl, Nat.le_of_ble_eq_true rfl⟩ rfl hl.1 rfl (Nat.le_of_ble_eq_true rfl) ⟨Nat.zero_le _, Nat.zero_le _⟩ dX0_tell_27 (fun H locs hH => ?_)
      exact x_iretR F hr hlk hH (by simp only [f_X0_tell, if_pos c_1, if_neg c_2]) dX0_tell_30
    · refine lv_aload_n hx hb dX0_tell_19 rfl (lv_at hl 0 rfl) ?_
      refine x_calliR F hH (13 + j) (F.lt (by omega)) (vv2 (by omega)) rfl (c_X0_number l F.ad σ μ j (by omega)) cw_X0_22 rfl rfl ⟨Nat.le_of_ble_eq_true rfl, Nat.le_of_ble_eq_true rfl⟩ rfl hl.1 rfl (Nat.le_of_ble_eq_true rfl) ⟨Nat.zero_le _, Nat.zero_le _⟩ dX0_tell_20 (fun H locs hH => ?_)
      refine lv_goto (tgt := 30) hx hb dX0_tell_23 (by decide) ?_
      exact x_iretR F hr hlk hH (by simp only [f_X0_tell, if_pos c_1, if_pos c_2]) dX0_tell_30
  · have q_3 := X3_isKind_n c_1
    have q_3b := q_3.2
    refine lv_aload_n hx hb dX0_tell_7 rfl (lv_at hl 0 rfl) ?_
    refine g_X0_of F hH (j := j) (by omega) kw_51 dX0_tell_8 ?_
    refine lv_iload_n hx hb dX0_tell_11 rfl (lv_at hl 1 rfl) ?_
    refine x_top q_3.1 ?_
    refine a_of F hH (j := j) (by omega) (tn what) (by omega) dX0_tell_12 ?_
    exact x_iretR F hr hlk hH (by simp only [f_X0_tell, if_neg c_1]) dX0_tell_13
def f_X2_hasRoomFor (σ : St) (t : Nat) (more : Int32) : Int32 :=
  if (σ 19 t) < ((sumL (σ t) 5 0 0) + more) then
    0
  else
    1
set_option maxRecDepth 100000 in
set_option maxHeartbeats 4000000 in
theorem c_X2_hasRoomFor (l : Launch) {E : EV} (hA : AD E) (σ μ : St) (t : Nat) (more : Int32) (ht : t < 8) : Met l yX2_hasRoomFor (.code yX2_hasRoomFor cX2_hasRoomFor 2 (some .boolean) :: gtbl) (rmL 1) (va_Pc [.ref (ea E (5 + t)), .int more] (PR E σ μ)) (QI E (f_X2_hasRoomFor σ t more) σ μ) 0 0 (eA E) := by
  refine x_met (own := RX2) (by decide) rfl hA (Nat.le_of_ble_eq_true rfl) ?_
  intro p e s m below meth c ls F hr hlk hH hl
  have hl : lv_has ls 2 [(0, .ref (ea E (5 + t))), (1, .int more)] := hl
  have hx := F.hx
  have hb := F.hb
  refine lv_aload_n hx hb dX2_hasRoomFor_0 rfl (lv_at hl 0 rfl) ?_
  refine g_X2_coins F hH (t := t) (by omega) kw_57 dX2_hasRoomFor_1 ?_
  refine x_calliR F hH (13 + t) (F.lt (by omega)) (vv2 (by omega)) rfl (c_X0_number l F.ad σ μ t (by omega)) cw_X2_18 rfl rfl ⟨Nat.le_of_ble_eq_true rfl, Nat.le_of_ble_eq_true rfl⟩ rfl hl.1 rfl (Nat.le_of_ble_eq_true rfl) ⟨Nat.zero_le _, Nat.zero_le _⟩ dX2_hasRoomFor_4 (fun H locs hH => ?_)
  refine lv_iload_n hx hb dX2_hasRoomFor_7 rfl (lv_at hl 1 rfl) ?_
  refine lv_iadd hx hb dX2_hasRoomFor_8 ?_
  refine lv_aload_n hx hb dX2_hasRoomFor_9 rfl (lv_at hl 0 rfl) ?_
  refine g_X2_limit F hH (t := t) (by omega) kw_62 dX2_hasRoomFor_10 ?_
  refine lv_icmp_gt (tgt := 20) hx hb dX2_hasRoomFor_13 (by decide) (fun c_1 => ?_) (fun c_1 => ?_)
  · refine lv_iconst (v := 0) hx hb dX2_hasRoomFor_20 (by decide) ?_
    exact x_zretR F hr hlk hH rfl (by simp only [f_X2_hasRoomFor, if_pos c_1]) dX2_hasRoomFor_21
  · refine lv_iconst (v := 1) hx hb dX2_hasRoomFor_16 (by decide) ?_
    refine lv_goto (tgt := 21) hx hb dX2_hasRoomFor_17 (by decide) ?_
    exact x_zretR F hr hlk hH rfl (by simp only [f_X2_hasRoomFor, if_neg c_1]) dX2_hasRoomFor_21
def f_X2_tell (σ : St) (t : Nat) (what : Int32) : Int32 :=
  if what = 7 then
    σ 19 t
  else
    if what = 8 then
      if (bz (σ 18 t)) = 0 then
        0
      else
        1
    else
      f_X0_tell σ t what
set_option maxRecDepth 100000 in
set_option maxHeartbeats 4000000 in
theorem c_X2_tell (l : Launch) {E : EV} (hA : AD E) (σ μ : St) (t : Nat) (what : Int32) (ht : t < 8) : Met l yX2_tell (.code yX2_tell cX2_tell 2 (some .int) :: gtbl) (rmL 2) (va_Pc [.ref (ea E (5 + t)), .int what] (PR E σ μ)) (QI E (f_X2_tell σ t what) σ μ) 0 0 (eA E) := by
  refine x_met (own := RX2) (by decide) rfl hA (Nat.le_of_ble_eq_true rfl) ?_
  intro p e s m below meth c ls F hr hlk hH hl
  have hl : lv_has ls 2 [(0, .ref (ea E (5 + t))), (1, .int what)] := hl
  have hx := F.hx
  have hb := F.hb
  refine lv_iload_n hx hb dX2_tell_0 rfl (lv_at hl 1 rfl) ?_
  refine lv_bipush (v := 7) hx hb dX2_tell_1 (by decide) ?_
  refine lv_icmp_ne (tgt := 11) hx hb dX2_tell_3 (by decide) (fun c_1 => ?_) (fun c_1 => ?_)
  · refine lv_iload_n hx hb dX2_tell_11 rfl (lv_at hl 1 rfl) ?_
    refine lv_bipush (v := 8) hx hb dX2_tell_12 (by decide) ?_
    refine lv_icmp_ne (tgt := 30) hx hb dX2_tell_14 (by decide) (fun c_2 => ?_) (fun c_2 => ?_)
    · refine lv_aload_n hx hb dX2_tell_30 rfl (lv_at hl 0 rfl) ?_
      refine g_X2_coins F hH (t := t) (by omega) kw_57 dX2_tell_31 ?_
      refine lv_iload_n hx hb dX2_tell_34 rfl (lv_at hl 1 rfl) ?_
      refine x_calliR F hH (13 + t) (F.lt (by omega)) (vv2 (by omega)) rfl (c_X0_tell l F.ad σ μ t what (by omega)) cw_X2_30 rfl rfl ⟨Nat.le_of_ble_eq_true rfl, Nat.le_of_ble_eq_true rfl⟩ rfl hl.1 rfl (Nat.le_of_ble_eq_true rfl) ⟨Nat.zero_le _, Nat.zero_le _⟩ dX2_tell_35 (fun H locs hH => ?_)
      exact x_iretR F hr hlk hH (by simp only [f_X2_tell, if_neg c_1, if_neg c_2]) dX2_tell_38
    · refine lv_aload_n hx hb dX2_tell_17 rfl (lv_at hl 0 rfl) ?_
      refine g_X2_isShut F hH (t := t) (by omega) kw_61 dX2_tell_18 ?_
      refine lv_if_eq (tgt := 28) hx hb dX2_tell_21 (by decide) (fun c_3 => ?_) (fun c_3 => ?_)
      · refine lv_iconst (v := 0) hx hb dX2_tell_28 (by decide) ?_
        exact x_iretR F hr hlk hH (by simp only [f_X2_tell, if_neg c_1, if_pos c_2, if_pos c_3]) dX2_tell_29
      · refine lv_iconst (v := 1) hx hb dX2_tell_24 (by decide) ?_
        refine lv_goto (tgt := 29) hx hb dX2_tell_25 (by decide) ?_
        exact x_iretR F hr hlk hH (by simp only [f_X2_tell, if_neg c_1, if_pos c_2, if_neg c_3]) dX2_tell_29
  · refine lv_aload_n hx hb dX2_tell_6 rfl (lv_at hl 0 rfl) ?_
    refine g_X2_limit F hH (t := t) (by omega) kw_62 dX2_tell_7 ?_
    exact x_iretR F hr hlk hH (by simp only [f_X2_tell, if_pos c_1]) dX2_tell_10
end
section
theorem nI_sub1 (n : Nat) : nI n - 1 = nI n + (-1) := Int32.sub_eq_add_neg _ _
def pickL (t : Nat) : Nat → Int32 → St → Int32 × St
  | 0, rest, σ => (rest, σ)
  | n + 1, rest, σ => pickL t n (rest - (if rest / wof n < σ t n then rest / wof n else σ t n) * wof n) (up σ 9 n (if rest / wof n < σ t n then rest / wof n else σ t n))
def thereL (σ : St) : Nat → Nat → Int32 → Int32
  | 0, _, acc => acc
  | n + 1, k, acc => if bz (σ 17 k) = 0 then thereL σ n (k + 1) acc else thereL σ n (k + 1) (acc + 1)
def dgL (row : Int32) : Nat → Nat → Int32 → Nat
  | 0, d, _ => d
  | n + 1, d, nx => if row < nx then d else dgL row n (d + 1) (nx * 10)
theorem dgL_le (row : Int32) : ∀ (n d : Nat) (nx : Int32), d ≤ dgL row n d nx ∧ dgL row n d nx ≤ d + n := by
  intro n
  induction n with
  | zero => intro d nx; simp [dgL]
  | succ n ih =>
    intro d nx
    unfold dgL
    split
    · omega
    · have := ih (d + 1) (nx * 10); omega
def rrL (len : Nat) : Nat → Int32 → St → Int32 × St
  | 0, _, σ => (nI len, σ)
  | n + 1, rest, σ => if f_X3_isTill (rest - rest / 10 * 10) = 0 then (-1, σ) else rrL len n (rest / 10) (up σ 21 n (rest - rest / 10 * 10))
def f_X3_begin (σ : St) (t : Nat) : Int32 × St :=
  if (bz (σ 17 t)) = 0 then
    (bz (σ 17 t), σ)
  else
    (bz ((f_X1_begin σ) 17 t), (f_X1_begin σ))
set_option maxRecDepth 100000 in
set_option maxHeartbeats 4000000 in
theorem c_X3_begin (l : Launch) {E : EV} (hA : AD E) (σ μ : St) (t : Nat) (ht : t < 8) : Met l yX3_begin (.code yX3_begin cX3_begin 2 (some .boolean) :: gtbl) (rmL 2) (va_Pc [.ref (ea E 0), .ref (ea E (5 + t))] (PR E σ μ)) (QI E (f_X3_begin σ t).1 (f_X3_begin σ t).2 μ) 0 0 (eA E) := by
  refine x_met (own := RX3) (by decide) rfl hA (Nat.le_of_ble_eq_true rfl) ?_
  intro p e s m below meth c ls F hr hlk hH hl
  have hl : lv_has ls 2 [(0, .ref (ea E 0)), (1, .ref (ea E (5 + t)))] := hl
  have hx := F.hx
  have hb := F.hb
  refine lv_aload_n hx hb dX3_begin_0 rfl (lv_at hl 1 rfl) ?_
  refine g_X2_isThere F hH (t := t) (by omega) kw_59 dX3_begin_1 ?_
  refine lv_if_eq (tgt := 14) hx hb dX3_begin_4 (by decide) (fun c_1 => ?_) (fun c_1 => ?_)
  · refine lv_aload_n hx hb dX3_begin_14 rfl (lv_at hl 1 rfl) ?_
    refine g_X2_isThere F hH (t := t) (by omega) kw_59 dX3_begin_15 ?_
    exact x_zretX F hr hlk hH (bz_nar (σ 17 t)) (by simp only [f_X3_begin, if_pos c_1]) dX3_begin_18
  · refine lv_aload_n hx hb dX3_begin_7 rfl (lv_at hl 0 rfl) ?_
    refine g_X3_holds F hH kw_100 dX3_begin_8 ?_
    refine x_callv F hH 2 (F.lt (by omega)) (vv0 (by decide)) rfl (c_X1_begin l F.ad σ μ ) cw_X3_134 rfl rfl ⟨Nat.le_of_ble_eq_true rfl, Nat.le_of_ble_eq_true rfl⟩ rfl hl.1 rfl (Nat.le_of_ble_eq_true rfl) ⟨Nat.zero_le _, Nat.zero_le _⟩ dX3_begin_11 (fun H locs hH => ?_)
    refine lv_aload_n hx hb dX3_begin_14 rfl (lv_at hl 1 rfl) ?_
    refine g_X2_isThere F hH (t := t) (by omega) kw_59 dX3_begin_15 ?_
    exact x_zretX F hr hlk hH (bz_nar ((f_X1_begin σ) 17 t)) (by simp only [f_X3_begin, if_neg c_1]) dX3_begin_18
def f_X3_end (σ : St) (res : Int32) : Int32 × St :=
  if 0 ≤ res then
    (res, (f_X1_end σ 0))
  else
    (res, (f_X1_end σ 1))
set_option maxRecDepth 100000 in
set_option maxHeartbeats 4000000 in
theorem c_X3_end (l : Launch) {E : EV} (hA : AD E) (σ μ : St) (res : Int32) : Met l yX3_end (.code yX3_end cX3_end 2 (some .int) :: gtbl) (rmL 1) (va_Pc [.ref (ea E 0), .int res] (PR E σ μ)) (QI E (f_X3_end σ res).1 (f_X3_end σ res).2 μ) 0 0 (eA E) := by
  refine x_met (own := RX3) (by decide) rfl hA (Nat.le_of_ble_eq_true rfl) ?_
  intro p e s m below meth c ls F hr hlk hH hl
  have hl : lv_has ls 2 [(0, .ref (ea E 0)), (1, .int res)] := hl
  have hx := F.hx
  have hb := F.hb
  refine lv_aload_n hx hb dX3_end_0 rfl (lv_at hl 0 rfl) ?_
  refine g_X3_holds F hH kw_100 dX3_end_1 ?_
  refine lv_iload_n hx hb dX3_end_4 rfl (lv_at hl 1 rfl) ?_
  refine lv_if_ge (tgt := 12) hx hb dX3_end_5 (by decide) (fun c_1 => ?_) (fun c_1 => ?_)
  · refine lv_iconst (v := 0) hx hb dX3_end_12 (by decide) ?_
    refine x_top bz_0.symm ?_
    refine x_callv F hH 2 (F.lt (by omega)) (vv0 (by decide)) rfl (c_X1_end l F.ad σ μ 0) cw_X3_136 rfl rfl ⟨Nat.le_of_ble_eq_true rfl, Nat.le_of_ble_eq_true rfl⟩ rfl hl.1 rfl (Nat.le_of_ble_eq_true rfl) ⟨Nat.zero_le _, Nat.zero_le _⟩ dX3_end_13 (fun H locs hH => ?_)
    refine lv_iload_n hx hb dX3_end_16 rfl (lv_at hl 1 rfl) ?_
    exact x_iretX F hr hlk hH (by simp only [f_X3_end, if_pos c_1]) dX3_end_17
  · refine lv_iconst (v := 1) hx hb dX3_end_8 (by decide) ?_
    refine lv_goto (tgt := 13) hx hb dX3_end_9 (by decide) ?_
    refine x_top bz_1.symm ?_
    refine x_callv F hH 2 (F.lt (by omega)) (vv0 (by decide)) rfl (c_X1_end l F.ad σ μ 1) cw_X3_136 rfl rfl ⟨Nat.le_of_ble_eq_true rfl, Nat.le_of_ble_eq_true rfl⟩ rfl hl.1 rfl (Nat.le_of_ble_eq_true rfl) ⟨Nat.zero_le _, Nat.zero_le _⟩ dX3_end_13 (fun H locs hH => ?_)
    refine lv_iload_n hx hb dX3_end_16 rfl (lv_at hl 1 rfl) ?_
    exact x_iretX F hr hlk hH (by simp only [f_X3_end, if_neg c_1]) dX3_end_17
set_option maxRecDepth 100000 in
set_option maxHeartbeats 4000000 in
theorem lp_X3_pick {p : Program} {l : Launch} {e : Env} {s : State} {m : MethodId} {args : Array Value} {below : List Frame} {meth : Method} {c : Code} {Q : State → Prop} {E : EV} (F : Fx E p s m args c cX3_pick RX3 6) (t : Nat) (ht : t < 8) : ∀ (n : Nat) (rest : Int32) (σ μ : St) (H : Heap) (locs : List Loc) (ls : Array Slot), n ≤ 5 → HS E s σ μ H locs → lv_has ls 6 [(0, .ref (ea E 0)), (1, .ref (ea E (5 + t))), (3, .int rest), (4, .int (nI n + (-1)))] → (∀ (rf : Int32) (sf : St) (H : Heap) (locs : List Loc) (ls : Array Slot), pickL t n rest σ = (rf, sf) → HS E s sf μ H locs → lv_has ls 6 [(0, .ref (ea E 0)), (1, .ref (ea E (5 + t))), (3, .int rf), (4, .int (nI 0 + (-1)))] → W p l e (rmL 1) s m args below meth c H locs 0 0 Q (F0 m 63 ls [])) → W p l e (rmL 1) s m args below meth c H locs 0 0 Q (F0 m 5 ls []) := by
  have hx := F.hx
  have hb := F.hb
  intro n
  induction n with
  | zero =>
    intro rest σ μ H locs ls hn hH hl hk
    refine lv_iload hx hb dX3_pick_5 (lv_at hl 3 rfl) ?_
    refine lv_if_lt (tgt := 63) hx hb dX3_pick_7 (by decide) (fun _ => ?_) (fun c_1 => absurd (by decide) c_1)
    exact hk _ _ H locs ls (by simp only [pickL]) hH (lv_sub hl [0, 1, 2, 3] rfl)
  | succ n ih =>
    intro rest σ μ H locs ls hn hH hl hk
    rw [pk_m1] at hl
    refine lv_iload hx hb dX3_pick_5 (lv_at hl 3 rfl) ?_
    refine lv_if_lt (tgt := 63) hx hb dX3_pick_7 (by decide) (fun c_1 => absurd c_1 (nI_pos (by omega))) (fun _ => ?_)
    refine lv_aload_n hx hb dX3_pick_10 rfl (lv_at hl 1 rfl) ?_
    refine g_X2_coins F hH (t := t) (by omega) kw_58 dX3_pick_11 ?_
    refine g_X0_of F hH (j := t) (by omega) kw_52 dX3_pick_14 ?_
    refine lv_iload hx hb dX3_pick_17 (lv_at hl 3 rfl) ?_
    refine a_of F hH (j := t) (by omega) n (by omega) dX3_pick_19 ?_
    refine lv_iload_n hx hb dX3_pick_20 rfl (lv_at hl 2 rfl) ?_
    refine x_wget F hH kw_201 dX3_pick_21 ?_
    refine lv_iload hx hb dX3_pick_24 (lv_at hl 3 rfl) ?_
    refine x_wld F hH n (by omega) dX3_pick_26 ?_
    refine lv_idiv hx hb dX3_pick_27 (wof_ne n) ?_
    refine va_mmin hx hb (by rw [F.hml]; exact hl.1.symm) F.hown (F.hts _ kw_203) (F.hts _ kw_204) (F.hts _ kw_29) (F.hts _ kw_205) (Nat.le_of_ble_eq_true rfl) (Nat.le_of_ble_eq_true rfl) (Nat.zero_le _) (Nat.zero_le _) dX3_pick_28 ?_
    refine lv_istore (lv' := [(5, .int (if (rest / (wof n)) < (σ t n) then (rest / (wof n)) else σ t n)), (0, .ref (ea E 0)), (1, .ref (ea E (5 + t))), (3, .int rest), (4, .int (nI n))]) hx hb dX3_pick_31 hl (by decide) rfl (fun ls hl => ?_)
    refine lv_aload_n hx hb dX3_pick_33 rfl (lv_at hl 1 rfl) ?_
    refine g_X3_picked F hH kw_101 dX3_pick_34 ?_
    refine g_X0_of F hH (j := 9) (by omega) kw_52 dX3_pick_37 ?_
    refine lv_iload hx hb dX3_pick_40 (lv_at hl 4 rfl) ?_
    refine lv_iload hx hb dX3_pick_42 (lv_at hl 0 rfl) ?_
    refine s_of F hH (j := 9) (by omega) n (by omega) dX3_pick_44 (fun H locs hH => ?_)
    refine lv_iload_n hx hb dX3_pick_45 rfl (lv_at hl 3 rfl) ?_
    refine lv_iload hx hb dX3_pick_46 (lv_at hl 0 rfl) ?_
    refine x_wget F hH kw_201 dX3_pick_48 ?_
    refine lv_iload hx hb dX3_pick_51 (lv_at hl 4 rfl) ?_
    refine x_wld F hH n (by omega) dX3_pick_53 ?_
    refine lv_imul hx hb dX3_pick_54 ?_
    refine lv_isub hx hb dX3_pick_55 ?_
    refine lv_istore_n (lv' := [(3, .int (rest - ((if (rest / (wof n)) < (σ t n) then (rest / (wof n)) else σ t n) * (wof n)))), (5, .int (if (rest / (wof n)) < (σ t n) then (rest / (wof n)) else σ t n)), (0, .ref (ea E 0)), (1, .ref (ea E (5 + t))), (4, .int (nI n))]) hx hb dX3_pick_56 rfl hl (by decide) rfl (fun ls hl => ?_)
    refine lv_iinc (v := (nI n) + (-1)) (lv' := [(4, .int ((nI n) + (-1))), (3, .int (rest - ((if (rest / (wof n)) < (σ t n) then (rest / (wof n)) else σ t n) * (wof n)))), (5, .int (if (rest / (wof n)) < (σ t n) then (rest / (wof n)) else σ t n)), (0, .ref (ea E 0)), (1, .ref (ea E (5 + t)))]) hx hb dX3_pick_57 hl (k := 4) rfl rfl (by decide) rfl (fun ls hl => ?_)
    refine lv_goto (tgt := 5) hx hb dX3_pick_60 (by decide) ?_
    exact ih (rest - ((if (rest / (wof n)) < (σ t n) then (rest / (wof n)) else σ t n) * (wof n))) (up σ 9 n (if (rest / (wof n)) < (σ t n) then (rest / (wof n)) else σ t n)) μ H locs ls (by omega) hH (lv_sub hl [3, 4, 1, 0] rfl) (fun rf sf H locs ls e hH hl => hk rf sf H locs ls (by simpa only [pickL] using e) hH hl)
def f_X3_pick (σ : St) (t : Nat) (worth : Int32) : Int32 × St :=
  match pickL t 5 worth σ with
  | (r_1, s_2) =>
    if r_1 = 0 then
      (1, s_2)
    else
      (0, s_2)
set_option maxRecDepth 100000 in
set_option maxHeartbeats 4000000 in
theorem c_X3_pick (l : Launch) {E : EV} (hA : AD E) (σ μ : St) (t : Nat) (worth : Int32) (ht : t < 8) : Met l yX3_pick (.code yX3_pick cX3_pick 6 (some .boolean) :: gtbl) (rmL 1) (va_Pc [.ref (ea E 0), .ref (ea E (5 + t)), .int worth] (PR E σ μ)) (QI E (f_X3_pick σ t worth).1 (f_X3_pick σ t worth).2 μ) 0 0 (eA E) := by
  refine x_met (own := RX3) (by decide) rfl hA (Nat.le_of_ble_eq_true rfl) ?_
  intro p e s m below meth c ls F hr hlk hH hl
  have hl : lv_has ls 6 [(0, .ref (ea E 0)), (1, .ref (ea E (5 + t))), (2, .int worth)] := hl
  have hx := F.hx
  have hb := F.hb
  refine lv_iload_n hx hb dX3_pick_0 rfl (lv_at hl 2 rfl) ?_
  refine lv_istore_n (lv' := [(3, .int worth), (0, .ref (ea E 0)), (1, .ref (ea E (5 + t))), (2, .int worth)]) hx hb dX3_pick_1 rfl hl (by decide) rfl (fun ls hl => ?_)
  refine lv_iconst (v := 4) hx hb dX3_pick_2 (by decide) ?_
  refine lv_istore (lv' := [(4, .int 4), (3, .int worth), (0, .ref (ea E 0)), (1, .ref (ea E (5 + t))), (2, .int worth)]) hx hb dX3_pick_3 hl (by decide) rfl (fun ls hl => ?_)
  refine lp_X3_pick F t ht 5 worth σ μ _ _ ls (by omega) hH (lv_sub hl [2, 3, 1, 0] rfl) (fun r_1 s_2 H locs ls e_3 hH hl => ?_)
  refine lv_iload_n hx hb dX3_pick_63 rfl (lv_at hl 2 rfl) ?_
  refine lv_if_ne (tgt := 71) hx hb dX3_pick_64 (by decide) (fun c_4 => ?_) (fun c_4 => ?_)
  · refine lv_iconst (v := 0) hx hb dX3_pick_71 (by decide) ?_
    exact x_zretX F hr hlk hH rfl (by simp only [f_X3_pick, e_3, if_neg c_4]) dX3_pick_72
  · refine lv_iconst (v := 1) hx hb dX3_pick_67 (by decide) ?_
    refine lv_goto (tgt := 72) hx hb dX3_pick_68 (by decide) ?_
    exact x_zretX F hr hlk hH rfl (by simp only [f_X3_pick, e_3, if_pos c_4]) dX3_pick_72
def f_X3_couldPay (σ : St) (t : Nat) (worth : Int32) : Int32 × St :=
  match f_X3_begin σ t with
  | (r_1, s_2) =>
    if r_1 = 0 then
      (0, s_2)
    else
      if (bz (s_2 18 t)) = 0 then
        match f_X3_pick s_2 t worth with
        | (r_9, s_10) =>
          if r_9 = 0 then
            match f_X3_end s_10 0 with
            | (r_13, s_14) =>
              (0, s_14)
          else
            match f_X3_end s_10 0 with
            | (r_16, s_17) =>
              (1, s_17)
      else
        match f_X3_end s_2 0 with
        | (r_6, s_7) =>
          (0, s_7)
set_option maxRecDepth 100000 in
set_option maxHeartbeats 4000000 in
theorem c_X3_couldPay (l : Launch) {E : EV} (hA : AD E) (σ μ : St) (t : Nat) (worth : Int32) (ht : t < 8) : Met l yX3_couldPay (.code yX3_couldPay cX3_couldPay 4 (some .boolean) :: gtbl) (rmL 3) (va_Pc [.ref (ea E 0), .ref (ea E (5 + t)), .int worth] (PR E σ μ)) (QI E (f_X3_couldPay σ t worth).1 (f_X3_couldPay σ t worth).2 μ) 0 0 (eA E) := by
  refine x_met (own := RX3) (by decide) rfl hA (Nat.le_of_ble_eq_true rfl) ?_
  intro p e s m below meth c ls F hr hlk hH hl
  have hl : lv_has ls 4 [(0, .ref (ea E 0)), (1, .ref (ea E (5 + t))), (2, .int worth)] := hl
  have hx := F.hx
  have hb := F.hb
  refine lv_aload_n hx hb dX3_couldPay_0 rfl (lv_at hl 0 rfl) ?_
  refine lv_aload_n hx hb dX3_couldPay_1 rfl (lv_at hl 1 rfl) ?_
  refine x_calliX F hH 0 (F.lt (by omega)) (vv0 (by decide)) rfl (c_X3_begin l F.ad σ μ t (by omega)) cw_X3_69 rfl rfl ⟨Nat.le_of_ble_eq_true rfl, Nat.le_of_ble_eq_true rfl⟩ rfl hl.1 rfl (Nat.le_of_ble_eq_true rfl) ⟨Nat.zero_le _, Nat.zero_le _⟩ dX3_couldPay_2 (fun r_1 s_2 H locs e_3 hH => ?_)
  refine lv_if_ne (tgt := 10) hx hb dX3_couldPay_5 (by decide) (fun c_4 => ?_) (fun c_4 => ?_)
  · refine lv_aload_n hx hb dX3_couldPay_10 rfl (lv_at hl 1 rfl) ?_
    refine g_X2_isShut F hH (t := t) (by omega) kw_60 dX3_couldPay_11 ?_
    refine lv_if_ne (tgt := 30) hx hb dX3_couldPay_14 (by decide) (fun c_5 => ?_) (fun c_5 => ?_)
    · refine lv_iconst (v := 0) hx hb dX3_couldPay_30 (by decide) ?_
      refine lv_istore_n (lv' := [(3, .int 0), (0, .ref (ea E 0)), (1, .ref (ea E (5 + t))), (2, .int worth)]) hx hb dX3_couldPay_31 rfl hl (by decide) rfl (fun ls hl => ?_)
      refine lv_aload_n hx hb dX3_couldPay_32 rfl (lv_at hl 1 rfl) ?_
      refine lv_iconst (v := 0) hx hb dX3_couldPay_33 (by decide) ?_
      refine x_calliX F hH 0 (F.lt (by omega)) (vv0 (by decide)) rfl (c_X3_end l F.ad s_2 μ 0) cw_X3_73 rfl rfl ⟨Nat.le_of_ble_eq_true rfl, Nat.le_of_ble_eq_true rfl⟩ rfl hl.1 rfl (Nat.le_of_ble_eq_true rfl) ⟨Nat.zero_le _, Nat.zero_le _⟩ dX3_couldPay_34 (fun r_6 s_7 H locs e_8 hH => ?_)
      refine lv_pop hx hb dX3_couldPay_37 rfl ?_
      refine lv_iload_n hx hb dX3_couldPay_38 rfl (lv_at hl 0 rfl) ?_
      exact x_zretX F hr hlk hH rfl (by simp only [f_X3_couldPay, e_3, if_neg c_4, if_neg c_5, e_8]) dX3_couldPay_39
    · refine lv_aload_n hx hb dX3_couldPay_17 rfl (lv_at hl 0 rfl) ?_
      refine lv_aload_n hx hb dX3_couldPay_18 rfl (lv_at hl 1 rfl) ?_
      refine lv_iload_n hx hb dX3_couldPay_19 rfl (lv_at hl 2 rfl) ?_
      refine x_calliX F hH 0 (F.lt (by omega)) (vv0 (by decide)) rfl (c_X3_pick l F.ad s_2 μ t worth (by omega)) cw_X3_148 rfl rfl ⟨Nat.le_of_ble_eq_true rfl, Nat.le_of_ble_eq_true rfl⟩ rfl hl.1 rfl (Nat.le_of_ble_eq_true rfl) ⟨Nat.zero_le _, Nat.zero_le _⟩ dX3_couldPay_20 (fun r_9 s_10 H locs e_11 hH => ?_)
      refine lv_if_eq (tgt := 30) hx hb dX3_couldPay_23 (by decide) (fun c_12 => ?_) (fun c_12 => ?_)
      · refine lv_iconst (v := 0) hx hb dX3_couldPay_30 (by decide) ?_
        refine lv_istore_n (lv' := [(3, .int 0), (0, .ref (ea E 0)), (1, .ref (ea E (5 + t))), (2, .int worth)]) hx hb dX3_couldPay_31 rfl hl (by decide) rfl (fun ls hl => ?_)
        refine lv_aload_n hx hb dX3_couldPay_32 rfl (lv_at hl 1 rfl) ?_
        refine lv_iconst (v := 0) hx hb dX3_couldPay_33 (by decide) ?_
        refine x_calliX F hH 0 (F.lt (by omega)) (vv0 (by decide)) rfl (c_X3_end l F.ad s_10 μ 0) cw_X3_73 rfl rfl ⟨Nat.le_of_ble_eq_true rfl, Nat.le_of_ble_eq_true rfl⟩ rfl hl.1 rfl (Nat.le_of_ble_eq_true rfl) ⟨Nat.zero_le _, Nat.zero_le _⟩ dX3_couldPay_34 (fun r_13 s_14 H locs e_15 hH => ?_)
        refine lv_pop hx hb dX3_couldPay_37 rfl ?_
        refine lv_iload_n hx hb dX3_couldPay_38 rfl (lv_at hl 0 rfl) ?_
        exact x_zretX F hr hlk hH rfl (by simp only [f_X3_couldPay, e_3, if_neg c_4, if_pos c_5, e_11, if_pos c_12, e_15]) dX3_couldPay_39
      · refine lv_iconst (v := 1) hx hb dX3_couldPay_26 (by decide) ?_
        refine lv_goto (tgt := 31) hx hb dX3_couldPay_27 (by decide) ?_
        refine lv_istore_n (lv' := [(3, .int 1), (0, .ref (ea E 0)), (1, .ref (ea E (5 + t))), (2, .int worth)]) hx hb dX3_couldPay_31 rfl hl (by decide) rfl (fun ls hl => ?_)
        refine lv_aload_n hx hb dX3_couldPay_32 rfl (lv_at hl 1 rfl) ?_
        refine lv_iconst (v := 0) hx hb dX3_couldPay_33 (by decide) ?_
        refine x_calliX F hH 0 (F.lt (by omega)) (vv0 (by decide)) rfl (c_X3_end l F.ad s_10 μ 0) cw_X3_73 rfl rfl ⟨Nat.le_of_ble_eq_true rfl, Nat.le_of_ble_eq_true rfl⟩ rfl hl.1 rfl (Nat.le_of_ble_eq_true rfl) ⟨Nat.zero_le _, Nat.zero_le _⟩ dX3_couldPay_34 (fun r_16 s_17 H locs e_18 hH => ?_)
        refine lv_pop hx hb dX3_couldPay_37 rfl ?_
        refine lv_iload_n hx hb dX3_couldPay_38 rfl (lv_at hl 0 rfl) ?_
        exact x_zretX F hr hlk hH rfl (by simp only [f_X3_couldPay, e_3, if_neg c_4, if_pos c_5, e_11, if_neg c_12, e_18]) dX3_couldPay_39
  · refine lv_iconst (v := 0) hx hb dX3_couldPay_8 (by decide) ?_
    exact x_zretX F hr hlk hH rfl (by simp only [f_X3_couldPay, e_3, if_pos c_4]) dX3_couldPay_9
def f_X3_pay (σ : St) (t : Nat) (worth : Int32) : Int32 × St :=
  if (bz (σ 18 t)) = 0 then
    match f_X3_pick σ t worth with
    | (r_2, s_3) =>
      if r_2 = 0 then
        ((-13), s_3)
      else
        (sumL ((addL 8 9 5 0 (remL t 9 5 0 s_3)) 9) 5 0 0, (addL 8 9 5 0 (remL t 9 5 0 s_3)))
  else
    ((-12), σ)
set_option maxRecDepth 100000 in
set_option maxHeartbeats 4000000 in
theorem c_X3_pay (l : Launch) {E : EV} (hA : AD E) (σ μ : St) (t : Nat) (worth : Int32) (ht : t < 8) : Met l yX3_pay (.code yX3_pay cX3_pay 3 (some .int) :: gtbl) (rmL 2) (va_Pc [.ref (ea E 0), .ref (ea E (5 + t)), .int worth] (PR E σ μ)) (QI E (f_X3_pay σ t worth).1 (f_X3_pay σ t worth).2 μ) 0 0 (eA E) := by
  refine x_met (own := RX3) (by decide) rfl hA (Nat.le_of_ble_eq_true rfl) ?_
  intro p e s m below meth c ls F hr hlk hH hl
  have hl : lv_has ls 3 [(0, .ref (ea E 0)), (1, .ref (ea E (5 + t))), (2, .int worth)] := hl
  have hx := F.hx
  have hb := F.hb
  refine lv_aload_n hx hb dX3_pay_0 rfl (lv_at hl 1 rfl) ?_
  refine g_X2_isShut F hH (t := t) (by omega) kw_60 dX3_pay_1 ?_
  refine lv_if_eq (tgt := 10) hx hb dX3_pay_4 (by decide) (fun c_1 => ?_) (fun c_1 => ?_)
  · refine lv_aload_n hx hb dX3_pay_10 rfl (lv_at hl 0 rfl) ?_
    refine lv_aload_n hx hb dX3_pay_11 rfl (lv_at hl 1 rfl) ?_
    refine lv_iload_n hx hb dX3_pay_12 rfl (lv_at hl 2 rfl) ?_
    refine x_calliX F hH 0 (F.lt (by omega)) (vv0 (by decide)) rfl (c_X3_pick l F.ad σ μ t worth (by omega)) cw_X3_148 rfl rfl ⟨Nat.le_of_ble_eq_true rfl, Nat.le_of_ble_eq_true rfl⟩ rfl hl.1 rfl (Nat.le_of_ble_eq_true rfl) ⟨Nat.zero_le _, Nat.zero_le _⟩ dX3_pay_13 (fun r_2 s_3 H locs e_4 hH => ?_)
    refine lv_if_ne (tgt := 22) hx hb dX3_pay_16 (by decide) (fun c_5 => ?_) (fun c_5 => ?_)
    · refine lv_aload_n hx hb dX3_pay_22 rfl (lv_at hl 1 rfl) ?_
      refine g_X2_coins F hH (t := t) (by omega) kw_58 dX3_pay_23 ?_
      refine lv_aload_n hx hb dX3_pay_26 rfl (lv_at hl 0 rfl) ?_
      refine g_X3_picked F hH kw_101 dX3_pay_27 ?_
      refine x_callv F hH (13 + t) (F.lt (by omega)) (vv2 (by omega)) rfl (c_X0_remove l F.ad s_3 μ t 9 (by omega) (by omega)) cw_X3_151 rfl rfl ⟨Nat.le_of_ble_eq_true rfl, Nat.le_of_ble_eq_true rfl⟩ rfl hl.1 rfl (Nat.le_of_ble_eq_true rfl) ⟨Nat.zero_le _, Nat.zero_le _⟩ dX3_pay_30 (fun H locs hH => ?_)
      refine lv_aload_n hx hb dX3_pay_33 rfl (lv_at hl 0 rfl) ?_
      refine g_X3_inHand F hH kw_99 dX3_pay_34 ?_
      refine lv_aload_n hx hb dX3_pay_37 rfl (lv_at hl 0 rfl) ?_
      refine g_X3_picked F hH kw_101 dX3_pay_38 ?_
      refine x_callv F hH (13 + 8) (F.lt (by omega)) (vv2 (by omega)) rfl (c_X0_add l F.ad (remL t 9 5 0 s_3) μ 8 9 (by omega) (by omega)) cw_X3_83 rfl rfl ⟨Nat.le_of_ble_eq_true rfl, Nat.le_of_ble_eq_true rfl⟩ rfl hl.1 rfl (Nat.le_of_ble_eq_true rfl) ⟨Nat.zero_le _, Nat.zero_le _⟩ dX3_pay_41 (fun H locs hH => ?_)
      refine lv_aload_n hx hb dX3_pay_44 rfl (lv_at hl 0 rfl) ?_
      refine g_X3_picked F hH kw_101 dX3_pay_45 ?_
      refine x_calliR F hH (13 + 9) (F.lt (by omega)) (vv2 (by omega)) rfl (c_X0_number l F.ad (addL 8 9 5 0 (remL t 9 5 0 s_3)) μ 9 (by omega)) cw_X3_154 rfl rfl ⟨Nat.le_of_ble_eq_true rfl, Nat.le_of_ble_eq_true rfl⟩ rfl hl.1 rfl (Nat.le_of_ble_eq_true rfl) ⟨Nat.zero_le _, Nat.zero_le _⟩ dX3_pay_48 (fun H locs hH => ?_)
      exact x_iretX F hr hlk hH (by simp only [f_X3_pay, if_pos c_1, e_4, if_neg c_5]) dX3_pay_51
    · refine lv_bipush (v := -13) hx hb dX3_pay_19 (by decide) ?_
      exact x_iretX F hr hlk hH (by simp only [f_X3_pay, if_pos c_1, e_4, if_pos c_5]) dX3_pay_21
  · refine lv_bipush (v := -12) hx hb dX3_pay_7 (by decide) ?_
    exact x_iretX F hr hlk hH (by simp only [f_X3_pay, if_neg c_1]) dX3_pay_9
def f_X3_layPicked (σ : St) (t : Nat) : Int32 × St :=
  if (bz (σ 18 t)) = 0 then
    if (f_X2_hasRoomFor σ t (sumL (σ 9) 5 0 0)) = 0 then
      ((-14), σ)
    else
      (sumL ((addL t 9 5 0 (remL 8 9 5 0 σ)) t) 5 0 0, (addL t 9 5 0 (remL 8 9 5 0 σ)))
  else
    ((-12), σ)
set_option maxRecDepth 100000 in
set_option maxHeartbeats 4000000 in
theorem c_X3_layPicked (l : Launch) {E : EV} (hA : AD E) (σ μ : St) (t : Nat) (ht : t < 8) : Met l yX3_layPicked (.code yX3_layPicked cX3_layPicked 2 (some .int) :: gtbl) (rmL 2) (va_Pc [.ref (ea E 0), .ref (ea E (5 + t))] (PR E σ μ)) (QI E (f_X3_layPicked σ t).1 (f_X3_layPicked σ t).2 μ) 0 0 (eA E) := by
  refine x_met (own := RX3) (by decide) rfl hA (Nat.le_of_ble_eq_true rfl) ?_
  intro p e s m below meth c ls F hr hlk hH hl
  have hl : lv_has ls 2 [(0, .ref (ea E 0)), (1, .ref (ea E (5 + t)))] := hl
  have hx := F.hx
  have hb := F.hb
  refine lv_aload_n hx hb dX3_layPicked_0 rfl (lv_at hl 1 rfl) ?_
  refine g_X2_isShut F hH (t := t) (by omega) kw_60 dX3_layPicked_1 ?_
  refine lv_if_eq (tgt := 10) hx hb dX3_layPicked_4 (by decide) (fun c_1 => ?_) (fun c_1 => ?_)
  · refine lv_aload_n hx hb dX3_layPicked_10 rfl (lv_at hl 1 rfl) ?_
    refine lv_aload_n hx hb dX3_layPicked_11 rfl (lv_at hl 0 rfl) ?_
    refine g_X3_picked F hH kw_101 dX3_layPicked_12 ?_
    refine x_calliR F hH (13 + 9) (F.lt (by omega)) (vv2 (by omega)) rfl (c_X0_number l F.ad σ μ 9 (by omega)) cw_X3_154 rfl rfl ⟨Nat.le_of_ble_eq_true rfl, Nat.le_of_ble_eq_true rfl⟩ rfl hl.1 rfl (Nat.le_of_ble_eq_true rfl) ⟨Nat.zero_le _, Nat.zero_le _⟩ dX3_layPicked_15 (fun H locs hH => ?_)
    refine x_calliR F hH (5 + t) (F.lt (by omega)) (vv1 (by omega)) rfl (c_X2_hasRoomFor l F.ad σ μ t (sumL (σ 9) 5 0 0) (by omega)) cw_X3_157 rfl rfl ⟨Nat.le_of_ble_eq_true rfl, Nat.le_of_ble_eq_true rfl⟩ rfl hl.1 rfl (Nat.le_of_ble_eq_true rfl) ⟨Nat.zero_le _, Nat.zero_le _⟩ dX3_layPicked_18 (fun H locs hH => ?_)
    refine lv_if_ne (tgt := 27) hx hb dX3_layPicked_21 (by decide) (fun c_2 => ?_) (fun c_2 => ?_)
    · refine lv_aload_n hx hb dX3_layPicked_27 rfl (lv_at hl 0 rfl) ?_
      refine g_X3_inHand F hH kw_99 dX3_layPicked_28 ?_
      refine lv_aload_n hx hb dX3_layPicked_31 rfl (lv_at hl 0 rfl) ?_
      refine g_X3_picked F hH kw_101 dX3_layPicked_32 ?_
      refine x_callv F hH (13 + 8) (F.lt (by omega)) (vv2 (by omega)) rfl (c_X0_remove l F.ad σ μ 8 9 (by omega) (by omega)) cw_X3_151 rfl rfl ⟨Nat.le_of_ble_eq_true rfl, Nat.le_of_ble_eq_true rfl⟩ rfl hl.1 rfl (Nat.le_of_ble_eq_true rfl) ⟨Nat.zero_le _, Nat.zero_le _⟩ dX3_layPicked_35 (fun H locs hH => ?_)
      refine lv_aload_n hx hb dX3_layPicked_38 rfl (lv_at hl 1 rfl) ?_
      refine g_X2_coins F hH (t := t) (by omega) kw_58 dX3_layPicked_39 ?_
      refine lv_aload_n hx hb dX3_layPicked_42 rfl (lv_at hl 0 rfl) ?_
      refine g_X3_picked F hH kw_101 dX3_layPicked_43 ?_
      refine x_callv F hH (13 + t) (F.lt (by omega)) (vv2 (by omega)) rfl (c_X0_add l F.ad (remL 8 9 5 0 σ) μ t 9 (by omega) (by omega)) cw_X3_83 rfl rfl ⟨Nat.le_of_ble_eq_true rfl, Nat.le_of_ble_eq_true rfl⟩ rfl hl.1 rfl (Nat.le_of_ble_eq_true rfl) ⟨Nat.zero_le _, Nat.zero_le _⟩ dX3_layPicked_46 (fun H locs hH => ?_)
      refine lv_aload_n hx hb dX3_layPicked_49 rfl (lv_at hl 1 rfl) ?_
      refine g_X2_coins F hH (t := t) (by omega) kw_58 dX3_layPicked_50 ?_
      refine x_calliR F hH (13 + t) (F.lt (by omega)) (vv2 (by omega)) rfl (c_X0_number l F.ad (addL t 9 5 0 (remL 8 9 5 0 σ)) μ t (by omega)) cw_X3_154 rfl rfl ⟨Nat.le_of_ble_eq_true rfl, Nat.le_of_ble_eq_true rfl⟩ rfl hl.1 rfl (Nat.le_of_ble_eq_true rfl) ⟨Nat.zero_le _, Nat.zero_le _⟩ dX3_layPicked_53 (fun H locs hH => ?_)
      exact x_iretX F hr hlk hH (by simp only [f_X3_layPicked, if_pos c_1, if_neg c_2]) dX3_layPicked_56
    · refine lv_bipush (v := -14) hx hb dX3_layPicked_24 (by decide) ?_
      exact x_iretX F hr hlk hH (by simp only [f_X3_layPicked, if_pos c_1, if_pos c_2]) dX3_layPicked_26
  · refine lv_bipush (v := -12) hx hb dX3_layPicked_7 (by decide) ?_
    exact x_iretX F hr hlk hH (by simp only [f_X3_layPicked, if_neg c_1]) dX3_layPicked_9
def f_X3_moveWithin (σ : St) (fr : Nat) (to : Nat) (worth : Int32) (back : Int32) : Int32 × St :=
  match f_X3_pay σ fr worth with
  | (r_1, s_2) =>
    if 0 ≤ r_1 then
      match f_X3_begin s_2 to with
      | (r_5, s_6) =>
        if r_5 = 0 then
          if (bz back) = 0 then
            ((-11), s_6)
          else
            ((-11), (addL fr 9 5 0 (remL 8 9 5 0 s_6)))
        else
          match f_X3_layPicked s_6 to with
          | (r_11, s_12) =>
            match f_X3_end s_12 r_11 with
            | (r_14, s_15) =>
              if r_14 < 0 then
                if (bz back) = 0 then
                  (r_14, s_15)
                else
                  (r_14, (addL fr 9 5 0 (remL 8 9 5 0 s_15)))
              else
                (r_1, s_15)
    else
      (r_1, s_2)
set_option maxRecDepth 100000 in
set_option maxHeartbeats 4000000 in
theorem c_X3_moveWithin (l : Launch) {E : EV} (hA : AD E) (σ μ : St) (fr : Nat) (to : Nat) (worth : Int32) (back : Int32) (hfr : fr < 8) (hto : to < 8) : Met l yX3_moveWithin (.code yX3_moveWithin cX3_moveWithin 7 (some .int) :: gtbl) (rmL 3) (va_Pc [.ref (ea E 0), .ref (ea E (5 + fr)), .ref (ea E (5 + to)), .int worth, .int (bz back)] (PR E σ μ)) (QI E (f_X3_moveWithin σ fr to worth back).1 (f_X3_moveWithin σ fr to worth back).2 μ) 0 0 (eA E) := by
  refine x_met (own := RX3) (by decide) rfl hA (Nat.le_of_ble_eq_true rfl) ?_
  intro p e s m below meth c ls F hr hlk hH hl
  have hl : lv_has ls 7 [(0, .ref (ea E 0)), (1, .ref (ea E (5 + fr))), (2, .ref (ea E (5 + to))), (3, .int worth), (4, .int (bz back))] := hl
  have hx := F.hx
  have hb := F.hb
  refine lv_aload_n hx hb dX3_moveWithin_0 rfl (lv_at hl 0 rfl) ?_
  refine lv_aload_n hx hb dX3_moveWithin_1 rfl (lv_at hl 1 rfl) ?_
  refine lv_iload_n hx hb dX3_moveWithin_2 rfl (lv_at hl 3 rfl) ?_
  refine x_calliX F hH 0 (F.lt (by omega)) (vv0 (by decide)) rfl (c_X3_pay l F.ad σ μ fr worth (by omega)) cw_X3_91 rfl rfl ⟨Nat.le_of_ble_eq_true rfl, Nat.le_of_ble_eq_true rfl⟩ rfl hl.1 rfl (Nat.le_of_ble_eq_true rfl) ⟨Nat.zero_le _, Nat.zero_le _⟩ dX3_moveWithin_3 (fun r_1 s_2 H locs e_3 hH => ?_)
  refine lv_istore (lv' := [(5, .int r_1), (0, .ref (ea E 0)), (1, .ref (ea E (5 + fr))), (2, .ref (ea E (5 + to))), (3, .int worth), (4, .int (bz back))]) hx hb dX3_moveWithin_6 hl (by decide) rfl (fun ls hl => ?_)
  refine lv_iload hx hb dX3_moveWithin_8 (lv_at hl 0 rfl) ?_
  refine lv_if_ge (tgt := 16) hx hb dX3_moveWithin_10 (by decide) (fun c_4 => ?_) (fun c_4 => ?_)
  · refine lv_aload_n hx hb dX3_moveWithin_16 rfl (lv_at hl 1 rfl) ?_
    refine lv_aload_n hx hb dX3_moveWithin_17 rfl (lv_at hl 3 rfl) ?_
    refine x_calliX F hH 0 (F.lt (by omega)) (vv0 (by decide)) rfl (c_X3_begin l F.ad s_2 μ to (by omega)) cw_X3_69 rfl rfl ⟨Nat.le_of_ble_eq_true rfl, Nat.le_of_ble_eq_true rfl⟩ rfl hl.1 rfl (Nat.le_of_ble_eq_true rfl) ⟨Nat.zero_le _, Nat.zero_le _⟩ dX3_moveWithin_18 (fun r_5 s_6 H locs e_7 hH => ?_)
    refine lv_if_eq (tgt := 36) hx hb dX3_moveWithin_21 (by decide) (fun c_8 => ?_) (fun c_8 => ?_)
    · refine lv_bipush (v := -11) hx hb dX3_moveWithin_36 (by decide) ?_
      refine lv_istore (lv' := [(6, .int (-11)), (5, .int r_1), (0, .ref (ea E 0)), (1, .ref (ea E (5 + fr))), (2, .ref (ea E (5 + to))), (3, .int worth), (4, .int (bz back))]) hx hb dX3_moveWithin_38 hl (by decide) rfl (fun ls hl => ?_)
      refine lv_iload hx hb dX3_moveWithin_40 (lv_at hl 0 rfl) ?_
      refine lv_if_lt (tgt := 48) hx hb dX3_moveWithin_42 (by decide) (fun _ => ?_) (fun c_9 => absurd (by decide) c_9)
      refine lv_iload hx hb dX3_moveWithin_48 (lv_at hl 6 rfl) ?_
      refine lv_if_eq (tgt := 75) hx hb dX3_moveWithin_50 (by decide) (fun c_10 => ?_) (fun c_10 => ?_)
      · refine lv_iload hx hb dX3_moveWithin_75 (lv_at hl 0 rfl) ?_
        exact x_iretX F hr hlk hH (by simp only [f_X3_moveWithin, e_3, if_pos c_4, e_7, if_pos c_8, if_pos c_10]) dX3_moveWithin_77
      · refine lv_aload_n hx hb dX3_moveWithin_53 rfl (lv_at hl 2 rfl) ?_
        refine g_X3_inHand F hH kw_99 dX3_moveWithin_54 ?_
        refine lv_aload_n hx hb dX3_moveWithin_57 rfl (lv_at hl 2 rfl) ?_
        refine g_X3_picked F hH kw_101 dX3_moveWithin_58 ?_
        refine x_callv F hH (13 + 8) (F.lt (by omega)) (vv2 (by omega)) rfl (c_X0_remove l F.ad s_6 μ 8 9 (by omega) (by omega)) cw_X3_151 rfl rfl ⟨Nat.le_of_ble_eq_true rfl, Nat.le_of_ble_eq_true rfl⟩ rfl hl.1 rfl (Nat.le_of_ble_eq_true rfl) ⟨Nat.zero_le _, Nat.zero_le _⟩ dX3_moveWithin_61 (fun H locs hH => ?_)
        refine lv_aload_n hx hb dX3_moveWithin_64 rfl (lv_at hl 3 rfl) ?_
        refine g_X2_coins F hH (t := fr) (by omega) kw_58 dX3_moveWithin_65 ?_
        refine lv_aload_n hx hb dX3_moveWithin_68 rfl (lv_at hl 2 rfl) ?_
        refine g_X3_picked F hH kw_101 dX3_moveWithin_69 ?_
        refine x_callv F hH (13 + fr) (F.lt (by omega)) (vv2 (by omega)) rfl (c_X0_add l F.ad (remL 8 9 5 0 s_6) μ fr 9 (by omega) (by omega)) cw_X3_83 rfl rfl ⟨Nat.le_of_ble_eq_true rfl, Nat.le_of_ble_eq_true rfl⟩ rfl hl.1 rfl (Nat.le_of_ble_eq_true rfl) ⟨Nat.zero_le _, Nat.zero_le _⟩ dX3_moveWithin_72 (fun H locs hH => ?_)
        refine lv_iload hx hb dX3_moveWithin_75 (lv_at hl 0 rfl) ?_
        exact x_iretX F hr hlk hH (by simp only [f_X3_moveWithin, e_3, if_pos c_4, e_7, if_pos c_8, if_neg c_10]) dX3_moveWithin_77
    · refine lv_aload_n hx hb dX3_moveWithin_24 rfl (lv_at hl 1 rfl) ?_
      refine lv_aload_n hx hb dX3_moveWithin_25 rfl (lv_at hl 1 rfl) ?_
      refine lv_aload_n hx hb dX3_moveWithin_26 rfl (lv_at hl 3 rfl) ?_
      refine x_calliX F hH 0 (F.lt (by omega)) (vv0 (by decide)) rfl (c_X3_layPicked l F.ad s_6 μ to (by omega)) cw_X3_87 rfl rfl ⟨Nat.le_of_ble_eq_true rfl, Nat.le_of_ble_eq_true rfl⟩ rfl hl.1 rfl (Nat.le_of_ble_eq_true rfl) ⟨Nat.zero_le _, Nat.zero_le _⟩ dX3_moveWithin_27 (fun r_11 s_12 H locs e_13 hH => ?_)
      refine x_calliX F hH 0 (F.lt (by omega)) (vv0 (by decide)) rfl (c_X3_end l F.ad s_12 μ r_11) cw_X3_73 rfl rfl ⟨Nat.le_of_ble_eq_true rfl, Nat.le_of_ble_eq_true rfl⟩ rfl hl.1 rfl (Nat.le_of_ble_eq_true rfl) ⟨Nat.zero_le _, Nat.zero_le _⟩ dX3_moveWithin_30 (fun r_14 s_15 H locs e_16 hH => ?_)
      refine lv_goto (tgt := 38) hx hb dX3_moveWithin_33 (by decide) ?_
      refine lv_istore (lv' := [(6, .int r_14), (5, .int r_1), (0, .ref (ea E 0)), (1, .ref (ea E (5 + fr))), (2, .ref (ea E (5 + to))), (3, .int worth), (4, .int (bz back))]) hx hb dX3_moveWithin_38 hl (by decide) rfl (fun ls hl => ?_)
      refine lv_iload hx hb dX3_moveWithin_40 (lv_at hl 0 rfl) ?_
      refine lv_if_lt (tgt := 48) hx hb dX3_moveWithin_42 (by decide) (fun c_17 => ?_) (fun c_17 => ?_)
      · refine lv_iload hx hb dX3_moveWithin_48 (lv_at hl 6 rfl) ?_
        refine lv_if_eq (tgt := 75) hx hb dX3_moveWithin_50 (by decide) (fun c_18 => ?_) (fun c_18 => ?_)
        · refine lv_iload hx hb dX3_moveWithin_75 (lv_at hl 0 rfl) ?_
          exact x_iretX F hr hlk hH (by simp only [f_X3_moveWithin, e_3, if_pos c_4, e_7, if_neg c_8, e_13, e_16, if_pos c_17, if_pos c_18]) dX3_moveWithin_77
        · refine lv_aload_n hx hb dX3_moveWithin_53 rfl (lv_at hl 2 rfl) ?_
          refine g_X3_inHand F hH kw_99 dX3_moveWithin_54 ?_
          refine lv_aload_n hx hb dX3_moveWithin_57 rfl (lv_at hl 2 rfl) ?_
          refine g_X3_picked F hH kw_101 dX3_moveWithin_58 ?_
          refine x_callv F hH (13 + 8) (F.lt (by omega)) (vv2 (by omega)) rfl (c_X0_remove l F.ad s_15 μ 8 9 (by omega) (by omega)) cw_X3_151 rfl rfl ⟨Nat.le_of_ble_eq_true rfl, Nat.le_of_ble_eq_true rfl⟩ rfl hl.1 rfl (Nat.le_of_ble_eq_true rfl) ⟨Nat.zero_le _, Nat.zero_le _⟩ dX3_moveWithin_61 (fun H locs hH => ?_)
          refine lv_aload_n hx hb dX3_moveWithin_64 rfl (lv_at hl 3 rfl) ?_
          refine g_X2_coins F hH (t := fr) (by omega) kw_58 dX3_moveWithin_65 ?_
          refine lv_aload_n hx hb dX3_moveWithin_68 rfl (lv_at hl 2 rfl) ?_
          refine g_X3_picked F hH kw_101 dX3_moveWithin_69 ?_
          refine x_callv F hH (13 + fr) (F.lt (by omega)) (vv2 (by omega)) rfl (c_X0_add l F.ad (remL 8 9 5 0 s_15) μ fr 9 (by omega) (by omega)) cw_X3_83 rfl rfl ⟨Nat.le_of_ble_eq_true rfl, Nat.le_of_ble_eq_true rfl⟩ rfl hl.1 rfl (Nat.le_of_ble_eq_true rfl) ⟨Nat.zero_le _, Nat.zero_le _⟩ dX3_moveWithin_72 (fun H locs hH => ?_)
          refine lv_iload hx hb dX3_moveWithin_75 (lv_at hl 0 rfl) ?_
          exact x_iretX F hr hlk hH (by simp only [f_X3_moveWithin, e_3, if_pos c_4, e_7, if_neg c_8, e_13, e_16, if_pos c_17, if_neg c_18]) dX3_moveWithin_77
      · refine lv_iload hx hb dX3_moveWithin_45 (lv_at hl 1 rfl) ?_
        exact x_iretX F hr hlk hH (by simp only [f_X3_moveWithin, e_3, if_pos c_4, e_7, if_neg c_8, e_13, e_16, if_neg c_17]) dX3_moveWithin_47
  · refine lv_iload hx hb dX3_moveWithin_13 (lv_at hl 0 rfl) ?_
    exact x_iretX F hr hlk hH (by simp only [f_X3_moveWithin, e_3, if_neg c_4]) dX3_moveWithin_15
def f_X3_give (σ : St) (fr : Nat) (to : Nat) (kind : Nat) (n : Int32) : Int32 × St :=
  if (f_X2_hasRoomFor σ to n) = 0 then
    ((-14), σ)
  else
    (n, (up (up σ fr kind ((σ fr kind) - n)) to kind (((up σ fr kind ((σ fr kind) - n)) to kind) + n)))
set_option maxRecDepth 100000 in
set_option maxHeartbeats 4000000 in
theorem c_X3_give (l : Launch) {E : EV} (hA : AD E) (σ μ : St) (fr : Nat) (to : Nat) (kind : Nat) (n : Int32) (hfr : fr < 8) (hto : to < 8) (hkind : kind < 5) : Met l yX3_give (.code yX3_give cX3_give 4 (some .int) :: gtbl) (rmL 2) (va_Pc [.ref (ea E (5 + fr)), .ref (ea E (5 + to)), .int (nI kind), .int n] (PR E σ μ)) (QI E (f_X3_give σ fr to kind n).1 (f_X3_give σ fr to kind n).2 μ) 0 0 (eA E) := by
  refine x_met (own := RX3) (by decide) rfl hA (Nat.le_of_ble_eq_true rfl) ?_
  intro p e s m below meth c ls F hr hlk hH hl
  have hl : lv_has ls 4 [(0, .ref (ea E (5 + fr))), (1, .ref (ea E (5 + to))), (2, .int (nI kind)), (3, .int n)] := hl
  have hx := F.hx
  have hb := F.hb
  refine lv_aload_n hx hb dX3_give_0 rfl (lv_at hl 1 rfl) ?_
  refine lv_iload_n hx hb dX3_give_1 rfl (lv_at hl 3 rfl) ?_
  refine x_calliR F hH (5 + to) (F.lt (by omega)) (vv1 (by omega)) rfl (c_X2_hasRoomFor l F.ad σ μ to n (by omega)) cw_X3_157 rfl rfl ⟨Nat.le_of_ble_eq_true rfl, Nat.le_of_ble_eq_true rfl⟩ rfl hl.1 rfl (Nat.le_of_ble_eq_true rfl) ⟨Nat.zero_le _, Nat.zero_le _⟩ dX3_give_2 (fun H locs hH => ?_)
  refine lv_if_ne (tgt := 11) hx hb dX3_give_5 (by decide) (fun c_1 => ?_) (fun c_1 => ?_)
  · refine lv_aload_n hx hb dX3_give_11 rfl (lv_at hl 0 rfl) ?_
    refine g_X2_coins F hH (t := fr) (by omega) kw_58 dX3_give_12 ?_
    refine g_X0_of F hH (j := fr) (by omega) kw_52 dX3_give_15 ?_
    refine lv_iload_n hx hb dX3_give_18 rfl (lv_at hl 2 rfl) ?_
    refine lv_dup2_11 hx hb dX3_give_19 rfl rfl ?_
    refine a_of F hH (j := fr) (by omega) kind (by omega) dX3_give_20 ?_
    refine lv_iload_n hx hb dX3_give_21 rfl (lv_at hl 3 rfl) ?_
    refine lv_isub hx hb dX3_give_22 ?_
    refine s_of F hH (j := fr) (by omega) kind (by omega) dX3_give_23 (fun H locs hH => ?_)
    refine lv_aload_n hx hb dX3_give_24 rfl (lv_at hl 1 rfl) ?_
    refine g_X2_coins F hH (t := to) (by omega) kw_58 dX3_give_25 ?_
    refine g_X0_of F hH (j := to) (by omega) kw_52 dX3_give_28 ?_
    refine lv_iload_n hx hb dX3_give_31 rfl (lv_at hl 2 rfl) ?_
    refine lv_dup2_11 hx hb dX3_give_32 rfl rfl ?_
    refine a_of F hH (j := to) (by omega) kind (by omega) dX3_give_33 ?_
    refine lv_iload_n hx hb dX3_give_34 rfl (lv_at hl 3 rfl) ?_
    refine lv_iadd hx hb dX3_give_35 ?_
    refine s_of F hH (j := to) (by omega) kind (by omega) dX3_give_36 (fun H locs hH => ?_)
    refine lv_iload_n hx hb dX3_give_37 rfl (lv_at hl 3 rfl) ?_
    exact x_iretX F hr hlk hH (by simp only [f_X3_give, if_neg c_1]) dX3_give_38
  · refine lv_bipush (v := -14) hx hb dX3_give_8 (by decide) ?_
    exact x_iretX F hr hlk hH (by simp only [f_X3_give, if_pos c_1]) dX3_give_10
def f_X3_halve (σ : St) (one : Nat) (oth : Nat) (kind : Nat) : Int32 × St :=
  if (bz (σ 18 one)) = 0 then
    if (bz (σ 18 oth)) = 0 then
      if 0 ≤ (((σ one kind) - (σ oth kind)) / 2) then
        match f_X3_give σ one oth kind (((σ one kind) - (σ oth kind)) / 2) with
        | (r_4, s_5) =>
          (r_4, s_5)
      else
        match f_X3_give σ oth one kind (-(((σ one kind) - (σ oth kind)) / 2)) with
        | (r_7, s_8) =>
          (r_7, s_8)
    else
      ((-12), σ)
  else
    ((-12), σ)
set_option maxRecDepth 100000 in
set_option maxHeartbeats 4000000 in
theorem c_X3_halve (l : Launch) {E : EV} (hA : AD E) (σ μ : St) (one : Nat) (oth : Nat) (kind : Nat) (hone : one < 8) (hoth : oth < 8) (hkind : kind < 5) : Met l yX3_halve (.code yX3_halve cX3_halve 4 (some .int) :: gtbl) (rmL 3) (va_Pc [.ref (ea E (5 + one)), .ref (ea E (5 + oth)), .int (nI kind)] (PR E σ μ)) (QI E (f_X3_halve σ one oth kind).1 (f_X3_halve σ one oth kind).2 μ) 0 0 (eA E) := by
  refine x_met (own := RX3) (by decide) rfl hA (Nat.le_of_ble_eq_true rfl) ?_
  intro p e s m below meth c ls F hr hlk hH hl
  have hl : lv_has ls 4 [(0, .ref (ea E (5 + one))), (1, .ref (ea E (5 + oth))), (2, .int (nI kind))] := hl
  have hx := F.hx
  have hb := F.hb
  refine lv_aload_n hx hb dX3_halve_0 rfl (lv_at hl 0 rfl) ?_
  refine g_X2_isShut F hH (t := one) (by omega) kw_60 dX3_halve_1 ?_
  refine lv_if_ne (tgt := 14) hx hb dX3_halve_4 (by decide) (fun c_1 => ?_) (fun c_1 => ?_)
  · refine lv_bipush (v := -12) hx hb dX3_halve_14 (by decide) ?_
    exact x_iretX F hr hlk hH (by simp only [f_X3_halve, if_neg c_1]) dX3_halve_16
  · refine lv_aload_n hx hb dX3_halve_7 rfl (lv_at hl 1 rfl) ?_
    refine g_X2_isShut F hH (t := oth) (by omega) kw_60 dX3_halve_8 ?_
    refine lv_if_eq (tgt := 17) hx hb dX3_halve_11 (by decide) (fun c_2 => ?_) (fun c_2 => ?_)
    · refine lv_aload_n hx hb dX3_halve_17 rfl (lv_at hl 0 rfl) ?_
      refine g_X2_coins F hH (t := one) (by omega) kw_58 dX3_halve_18 ?_
      refine g_X0_of F hH (j := one) (by omega) kw_52 dX3_halve_21 ?_
      refine lv_iload_n hx hb dX3_halve_24 rfl (lv_at hl 2 rfl) ?_
      refine a_of F hH (j := one) (by omega) kind (by omega) dX3_halve_25 ?_
      refine lv_aload_n hx hb dX3_halve_26 rfl (lv_at hl 1 rfl) ?_
      refine g_X2_coins F hH (t := oth) (by omega) kw_58 dX3_halve_27 ?_
      refine g_X0_of F hH (j := oth) (by omega) kw_52 dX3_halve_30 ?_
      refine lv_iload_n hx hb dX3_halve_33 rfl (lv_at hl 2 rfl) ?_
      refine a_of F hH (j := oth) (by omega) kind (by omega) dX3_halve_34 ?_
      refine lv_isub hx hb dX3_halve_35 ?_
      refine lv_iconst (v := 2) hx hb dX3_halve_36 (by decide) ?_
      refine lv_idiv hx hb dX3_halve_37 (by decide) ?_
      refine lv_istore_n (lv' := [(3, .int (((σ one kind) - (σ oth kind)) / 2)), (0, .ref (ea E (5 + one))), (1, .ref (ea E (5 + oth))), (2, .int (nI kind))]) hx hb dX3_halve_38 rfl hl (by decide) rfl (fun ls hl => ?_)
      refine lv_iload_n hx hb dX3_halve_39 rfl (lv_at hl 0 rfl) ?_
      refine lv_if_ge (tgt := 54) hx hb dX3_halve_40 (by decide) (fun c_3 => ?_) (fun c_3 => ?_)
      · refine lv_aload_n hx hb dX3_halve_54 rfl (lv_at hl 1 rfl) ?_
        refine lv_aload_n hx hb dX3_halve_55 rfl (lv_at hl 2 rfl) ?_
        refine lv_iload_n hx hb dX3_halve_56 rfl (lv_at hl 3 rfl) ?_
        refine lv_iload_n hx hb dX3_halve_57 rfl (lv_at hl 0 rfl) ?_
        refine x_callsX F hH (c_X3_give l F.ad σ μ one oth kind (((σ one kind) - (σ oth kind)) / 2) (by omega) (by omega) (by omega)) cw_X3_168 rfl rfl ⟨Nat.le_of_ble_eq_true rfl, Nat.le_of_ble_eq_true rfl⟩ rfl hl.1 rfl (Nat.le_of_ble_eq_true rfl) ⟨Nat.zero_le _, Nat.zero_le _⟩ dX3_halve_58 (fun r_4 s_5 H locs e_6 hH => ?_)
        exact x_iretX F hr hlk hH (by simp only [f_X3_halve, if_pos c_1, if_pos c_2, if_pos c_3, e_6]) dX3_halve_61
      · refine lv_aload_n hx hb dX3_halve_43 rfl (lv_at hl 2 rfl) ?_
        refine lv_aload_n hx hb dX3_halve_44 rfl (lv_at hl 1 rfl) ?_
        refine lv_iload_n hx hb dX3_halve_45 rfl (lv_at hl 3 rfl) ?_
        refine lv_iload_n hx hb dX3_halve_46 rfl (lv_at hl 0 rfl) ?_
        refine lv_ineg hx hb dX3_halve_47 ?_
        refine x_callsX F hH (c_X3_give l F.ad σ μ oth one kind (-(((σ one kind) - (σ oth kind)) / 2)) (by omega) (by omega) (by omega)) cw_X3_168 rfl rfl ⟨Nat.le_of_ble_eq_true rfl, Nat.le_of_ble_eq_true rfl⟩ rfl hl.1 rfl (Nat.le_of_ble_eq_true rfl) ⟨Nat.zero_le _, Nat.zero_le _⟩ dX3_halve_48 (fun r_7 s_8 H locs e_9 hH => ?_)
        refine lv_goto (tgt := 61) hx hb dX3_halve_51 (by decide) ?_
        exact x_iretX F hr hlk hH (by simp only [f_X3_halve, if_pos c_1, if_pos c_2, if_neg c_3, e_9]) dX3_halve_61
    · refine lv_bipush (v := -12) hx hb dX3_halve_14 (by decide) ?_
      exact x_iretX F hr hlk hH (by simp only [f_X3_halve, if_pos c_1, if_neg c_2]) dX3_halve_16
set_option maxRecDepth 100000 in
set_option maxHeartbeats 4000000 in
theorem lp_X3_tillsThere {p : Program} {l : Launch} {e : Env} {s : State} {m : MethodId} {args : Array Value} {below : List Frame} {meth : Method} {c : Code} {Q : State → Prop} {E : EV} (F : Fx E p s m args c cX3_tillsThere RX3 3) : ∀ (n : Nat) (k : Nat) (acc : Int32) (σ μ : St) (H : Heap) (locs : List Loc) (ls : Array Slot), k + n = 8 → HS E s σ μ H locs → lv_has ls 3 [(0, .ref (ea E 0)), (1, .int acc), (2, .int (nI k))] → (∀ (H : Heap) (locs : List Loc) (ls : Array Slot), HS E s σ μ H locs → lv_has ls 3 [(0, .ref (ea E 0)), (1, .int (thereL σ n k acc)), (2, .int (nI 8))] → W p l e (rmL 0) s m args below meth c H locs 0 0 Q (F0 m 31 ls [])) → W p l e (rmL 0) s m args below meth c H locs 0 0 Q (F0 m 4 ls []) := by
  have hx := F.hx
  have hb := F.hb
  intro n
  induction n with
  | zero =>
    intro k acc σ μ H locs ls hn hH hl hk
    obtain rfl : k = 8 := by omega
    refine lv_iload_n hx hb dX3_tillsThere_4 rfl (lv_at hl 2 rfl) ?_
    refine lv_bipush (v := 8) hx hb dX3_tillsThere_5 (by decide) ?_
    refine lv_icmp_ge (tgt := 31) hx hb dX3_tillsThere_7 (by decide) (fun _ => ?_) (fun c_1 => absurd (by decide) c_1)
    simp only [thereL] at hk
    exact hk H locs ls hH (lv_sub hl [0, 1, 2] rfl)
  | succ n ih =>
    intro k acc σ μ H locs ls hn hH hl hk
    refine lv_iload_n hx hb dX3_tillsThere_4 rfl (lv_at hl 2 rfl) ?_
    refine lv_bipush (v := 8) hx hb dX3_tillsThere_5 (by decide) ?_
    refine lv_icmp_ge (tgt := 31) hx hb dX3_tillsThere_7 (by decide) (fun c_1 => absurd c_1 (nI_ge (show k < 8 by omega) (by decide))) (fun _ => ?_)
    refine lv_aload_n hx hb dX3_tillsThere_10 rfl (lv_at hl 0 rfl) ?_
    refine g_X3_tills F hH kw_98 dX3_tillsThere_11 ?_
    refine lv_iload_n hx hb dX3_tillsThere_14 rfl (lv_at hl 2 rfl) ?_
    refine a_tills F hH k (by omega) dX3_tillsThere_15 ?_
    refine g_X2_isThere F hH (t := k) (by omega) kw_59 dX3_tillsThere_16 ?_
    refine lv_if_eq (tgt := 25) hx hb dX3_tillsThere_19 (by decide) (fun c_2 => ?_) (fun c_2 => ?_)
    · refine lv_iinc (v := nI (k + 1)) (lv' := [(2, .int (nI (k + 1))), (0, .ref (ea E 0)), (1, .int acc)]) hx hb dX3_tillsThere_25 hl (k := 2) rfl (nI_1 k) (by decide) rfl (fun ls hl => ?_)
      refine lv_goto (tgt := 4) hx hb dX3_tillsThere_28 (by decide) ?_
      simp only [thereL, if_pos c_2] at hk
      exact ih (k + 1) acc σ μ H locs ls (by omega) hH (lv_sub hl [1, 2, 0] rfl) hk
    · refine lv_iinc (v := acc + 1) (lv' := [(1, .int (acc + 1)), (0, .ref (ea E 0)), (2, .int (nI k))]) hx hb dX3_tillsThere_22 hl (k := 1) rfl rfl (by decide) rfl (fun ls hl => ?_)
      refine lv_iinc (v := nI (k + 1)) (lv' := [(2, .int (nI (k + 1))), (1, .int (acc + 1)), (0, .ref (ea E 0))]) hx hb dX3_tillsThere_25 hl (k := 2) rfl (nI_1 k) (by decide) rfl (fun ls hl => ?_)
      refine lv_goto (tgt := 4) hx hb dX3_tillsThere_28 (by decide) ?_
      simp only [thereL, if_neg c_2] at hk
      exact ih (k + 1) (acc + 1) σ μ H locs ls (by omega) hH (lv_sub hl [2, 1, 0] rfl) hk
set_option maxRecDepth 100000 in
set_option maxHeartbeats 4000000 in
theorem c_X3_tillsThere (l : Launch) {E : EV} (hA : AD E) (σ μ : St) : Met l yX3_tillsThere (.code yX3_tillsThere cX3_tillsThere 3 (some .int) :: gtbl) (rmL 0) (va_Pc [.ref (ea E 0)] (PR E σ μ)) (QI E (thereL σ 8 0 0) σ μ) 0 0 (eA E) := by
  refine x_met (own := RX3) (by decide) rfl hA (Nat.le_of_ble_eq_true rfl) ?_
  intro p e s m below meth c ls F hr hlk hH hl
  have hl : lv_has ls 3 [(0, .ref (ea E 0))] := hl
  have hx := F.hx
  have hb := F.hb
  refine lv_iconst (v := 0) hx hb dX3_tillsThere_0 (by decide) ?_
  refine lv_istore_n (lv' := [(1, .int 0), (0, .ref (ea E 0))]) hx hb dX3_tillsThere_1 rfl hl (by decide) rfl (fun ls hl => ?_)
  refine lv_iconst (v := 0) hx hb dX3_tillsThere_2 (by decide) ?_
  refine lv_istore_n (lv' := [(2, .int 0), (1, .int 0), (0, .ref (ea E 0))]) hx hb dX3_tillsThere_3 rfl hl (by decide) rfl (fun ls hl => ?_)
  refine lp_X3_tillsThere F 8 0 0 σ μ _ _ ls (by omega) hH (lv_sub hl [2, 1, 0] rfl) (fun H locs ls hH hl => ?_)
  refine lv_iload_n hx hb dX3_tillsThere_31 rfl (lv_at hl 1 rfl) ?_
  exact x_iretR F hr hlk hH rfl dX3_tillsThere_32
set_option maxRecDepth 100000 in
set_option maxHeartbeats 4000000 in
theorem lp_X3_digitsOf {p : Program} {l : Launch} {e : Env} {s : State} {m : MethodId} {args : Array Value} {below : List Frame} {meth : Method} {c : Code} (hx : p.tables.exec = Jvm.exec) (hb : c.code = cX3_digitsOf) (hr : meth.sig.returnType = some .int) (hlk : meth.locks = false) (row : Int32) : ∀ (n : Nat) (k : Nat) (nx : Int32) (ls : Array Slot), k + n = 6 → lv_has ls 3 [(0, .int row), (2, .int nx), (1, .int (nI k))] → W p l e (rmL 0) s m args below meth c s.heap [] 0 0 (MQ below (QcRead (nI (dgL row n k nx))) args s 0 0 (fun _ => False)) (F0 m 5 ls []) := by
  intro n
  induction n with
  | zero =>
    intro k nx ls hn hl
    obtain rfl : k = 6 := by omega
    refine lv_iload_n hx hb dX3_digitsOf_5 rfl (lv_at hl 2 rfl) ?_
    refine lv_bipush (v := 6) hx hb dX3_digitsOf_6 (by decide) ?_
    refine lv_icmp_ge (tgt := 27) hx hb dX3_digitsOf_8 (by decide) (fun _ => ?_) (fun c_1 => absurd (by decide) c_1)
    refine lv_iload_n hx hb dX3_digitsOf_27 rfl (lv_at hl 2 rfl) ?_
    exact x_pret hx hb hr hlk (by simp only [dgL]) dX3_digitsOf_28
  | succ n ih =>
    intro k nx ls hn hl
    refine lv_iload_n hx hb dX3_digitsOf_5 rfl (lv_at hl 2 rfl) ?_
    refine lv_bipush (v := 6) hx hb dX3_digitsOf_6 (by decide) ?_
    refine lv_icmp_ge (tgt := 27) hx hb dX3_digitsOf_8 (by decide) (fun c_1 => absurd c_1 (nI_ge (show k < 6 by omega) (by decide))) (fun _ => ?_)
    refine lv_iload_n hx hb dX3_digitsOf_11 rfl (lv_at hl 0 rfl) ?_
    refine lv_iload_n hx hb dX3_digitsOf_12 rfl (lv_at hl 1 rfl) ?_
    refine lv_icmp_lt (tgt := 27) hx hb dX3_digitsOf_13 (by decide) (fun c_2 => ?_) (fun c_2 => ?_)
    · refine lv_iload_n hx hb dX3_digitsOf_27 rfl (lv_at hl 2 rfl) ?_
      exact x_pret hx hb hr hlk (by simp only [dgL, if_pos c_2]) dX3_digitsOf_28
    · refine lv_iinc (v := nI (k + 1)) (lv' := [(1, .int (nI (k + 1))), (0, .int row), (2, .int nx)]) hx hb dX3_digitsOf_16 hl (k := 2) rfl (nI_1 k) (by decide) rfl (fun ls hl => ?_)
      refine lv_iload_n hx hb dX3_digitsOf_19 rfl (lv_at hl 2 rfl) ?_
      refine lv_bipush (v := 10) hx hb dX3_digitsOf_20 (by decide) ?_
      refine lv_imul hx hb dX3_digitsOf_22 ?_
      refine lv_istore_n (lv' := [(2, .int (nx * 10)), (1, .int (nI (k + 1))), (0, .int row)]) hx hb dX3_digitsOf_23 rfl hl (by decide) rfl (fun ls hl => ?_)
      refine lv_goto (tgt := 5) hx hb dX3_digitsOf_24 (by decide) ?_
      rw [show nI (dgL row (n + 1) k nx) = nI (dgL row n (k + 1) (nx * 10)) from (by simp only [dgL, if_neg c_2])]
      exact ih (k + 1) (nx * 10) ls (by omega) (lv_sub hl [2, 0, 1] rfl)
set_option maxRecDepth 100000 in
set_option maxHeartbeats 4000000 in
theorem c_X3_digitsOf (l : Launch) (row : Int32) : Met l yX3_digitsOf (.code yX3_digitsOf cX3_digitsOf 3 (some .int) :: gtbl) (rmL 0) (PS [.int row]) (QcRead (nI (dgL row 5 1 10))) 0 0 (fun _ => False) := by
  refine x_metS (by decide) (Nat.le_of_ble_eq_true rfl) ?_
  intro p e s m below meth c ls hx hb hml hown hts hr hlk hl
  have hl : lv_has ls 3 [(0, .int row)] := hl
  refine lv_iconst (v := 1) hx hb dX3_digitsOf_0 (by decide) ?_
  refine lv_istore_n (lv' := [(1, .int 1), (0, .int row)]) hx hb dX3_digitsOf_1 rfl hl (by decide) rfl (fun ls hl => ?_)
  refine lv_bipush (v := 10) hx hb dX3_digitsOf_2 (by decide) ?_
  refine lv_istore_n (lv' := [(2, .int 10), (1, .int 1), (0, .int row)]) hx hb dX3_digitsOf_4 rfl hl (by decide) rfl (fun ls hl => ?_)
  exact lp_X3_digitsOf hx hb hr hlk row 5 1 10 ls (by omega) (lv_sub hl [2, 0, 1] rfl)
end
section
def firstL (worth : Int32) : Nat → Nat → St → Int32 × St
  | 0, _, σ => (-2, σ)
  | n + 1, k, σ => match f_X3_couldPay σ k worth with
    | (r, σ1) => if r = 0 then firstL worth n (k + 1) σ1 else (nI k, σ1)
def f_X3_till (σ : St) (t : Int32) (limit : Int32) : Int32 × St :=
  if (f_X3_isTill t) = 0 then
    ((-1), σ)
  else
    if (f_X3_isUpTo limit 200) = 0 then
      ((-1), σ)
    else
      (1, (clrL (tn t) 5 0 (up (up (up σ 17 (tn t) 1) 18 (tn t) 0) 19 (tn t) limit)))
set_option maxRecDepth 100000 in
set_option maxHeartbeats 4000000 in
theorem c_X3_till (l : Launch) {E : EV} (hA : AD E) (σ μ : St) (t : Int32) (limit : Int32) : Met l yX3_till (.code yX3_till cX3_till 4 (some .int) :: gtbl) (rmL 1) (va_Pc [.ref (ea E 0), .int t, .int limit] (PR E σ μ)) (QI E (f_X3_till σ t limit).1 (f_X3_till σ t limit).2 μ) 0 0 (eA E) := by
  refine x_met (own := RX3) (by decide) rfl hA (Nat.le_of_ble_eq_true rfl) ?_
  intro p e s m below meth c ls F hr hlk hH hl
  have hl : lv_has ls 4 [(0, .ref (ea E 0)), (1, .int t), (2, .int limit)] := hl
  have hx := F.hx
  have hb := F.hb
  refine lv_iload_n hx hb dX3_till_0 rfl (lv_at hl 1 rfl) ?_
  refine x_pure hx hb F.hml F.hown F.hts (c_X3_isTill l t) cw_X3_44 rfl rfl ⟨Nat.le_of_ble_eq_true rfl, Nat.le_of_ble_eq_true rfl⟩ rfl hl.1 rfl (Nat.le_of_ble_eq_true rfl) ⟨Nat.zero_le _, Nat.zero_le _⟩ dX3_till_1 ?_
  refine lv_if_eq (tgt := 17) hx hb dX3_till_4 (by decide) (fun c_1 => ?_) (fun c_1 => ?_)
  · refine lv_iconst (v := -1) hx hb dX3_till_17 (by decide) ?_
    exact x_iretX F hr hlk hH (by simp only [f_X3_till, if_pos c_1]) dX3_till_18
  · have q_2 := X3_isTill_n c_1
    have q_2b := q_2.2
    refine lv_iload_n hx hb dX3_till_7 rfl (lv_at hl 2 rfl) ?_
    refine lv_sipush (v := 200) hx hb dX3_till_8 (by decide) ?_
    refine x_pure hx hb F.hml F.hown F.hts (c_X3_isUpTo l limit 200) cw_X3_48 rfl rfl ⟨Nat.le_of_ble_eq_true rfl, Nat.le_of_ble_eq_true rfl⟩ rfl hl.1 rfl (Nat.le_of_ble_eq_true rfl) ⟨Nat.zero_le _, Nat.zero_le _⟩ dX3_till_11 ?_
    refine lv_if_ne (tgt := 19) hx hb dX3_till_14 (by decide) (fun c_3 => ?_) (fun c_3 => ?_)
    · refine lv_aload_n hx hb dX3_till_19 rfl (lv_at hl 0 rfl) ?_
      refine g_X3_tills F hH kw_98 dX3_till_20 ?_
      refine lv_iload_n hx hb dX3_till_23 rfl (lv_at hl 1 rfl) ?_
      refine x_top q_2.1 ?_
      refine a_tills F hH (tn t) (by omega) dX3_till_24 ?_
      refine lv_astore_n (lv' := [(3, .ref (ea E (5 + (tn t)))), (0, .ref (ea E 0)), (1, .int t), (2, .int limit)]) hx hb dX3_till_25 rfl hl (by decide) rfl (fun ls hl => ?_)
      refine lv_aload_n hx hb dX3_till_26 rfl (lv_at hl 0 rfl) ?_
      refine lv_iconst (v := 1) hx hb dX3_till_27 (by decide) ?_
      refine x_top bz_1.symm ?_
      refine p_X2_isThere F hH (t := tn t) (by omega) kw_59 dX3_till_28 (fun H locs hH => ?_)
      refine lv_aload_n hx hb dX3_till_31 rfl (lv_at hl 0 rfl) ?_
      refine lv_iconst (v := 0) hx hb dX3_till_32 (by decide) ?_
      refine x_top bz_0.symm ?_
      refine p_X2_isShut F hH (t := tn t) (by omega) kw_60 dX3_till_33 (fun H locs hH => ?_)
      refine lv_aload_n hx hb dX3_till_36 rfl (lv_at hl 0 rfl) ?_
      refine lv_iload_n hx hb dX3_till_37 rfl (lv_at hl 3 rfl) ?_
      refine p_X2_limit F hH (t := tn t) (by omega) kw_63 dX3_till_38 (fun H locs hH => ?_)
      refine lv_aload_n hx hb dX3_till_41 rfl (lv_at hl 0 rfl) ?_
      refine g_X2_coins F hH (t := tn t) (by omega) kw_58 dX3_till_42 ?_
      refine x_callv F hH (13 + (tn t)) (F.lt (by omega)) (vv2 (by omega)) rfl (c_X0_clear l F.ad (up (up (up σ 17 (tn t) 1) 18 (tn t) 0) 19 (tn t) limit) μ (tn t) (by omega)) cw_X3_66 rfl rfl ⟨Nat.le_of_ble_eq_true rfl, Nat.le_of_ble_eq_true rfl⟩ rfl hl.1 rfl (Nat.le_of_ble_eq_true rfl) ⟨Nat.zero_le _, Nat.zero_le _⟩ dX3_till_45 (fun H locs hH => ?_)
      refine lv_iconst (v := 1) hx hb dX3_till_48 (by decide) ?_
      exact x_iretX F hr hlk hH (by simp only [f_X3_till, if_neg c_1, if_neg c_3]) dX3_till_49
    · refine lv_iconst (v := -1) hx hb dX3_till_17 (by decide) ?_
      exact x_iretX F hr hlk hH (by simp only [f_X3_till, if_neg c_1, if_pos c_3]) dX3_till_18
def f_X3_drop (σ : St) (t : Int32) : Int32 × St :=
  if (f_X3_isTill t) = 0 then
    ((-1), σ)
  else
    if (bz (σ 17 (tn t))) = 0 then
      (0, (up σ 17 (tn t) 0))
    else
      (1, (up σ 17 (tn t) 0))
set_option maxRecDepth 100000 in
set_option maxHeartbeats 4000000 in
theorem c_X3_drop (l : Launch) {E : EV} (hA : AD E) (σ μ : St) (t : Int32) : Met l yX3_drop (.code yX3_drop cX3_drop 3 (some .int) :: gtbl) (rmL 1) (va_Pc [.ref (ea E 0), .int t] (PR E σ μ)) (QI E (f_X3_drop σ t).1 (f_X3_drop σ t).2 μ) 0 0 (eA E) := by
  refine x_met (own := RX3) (by decide) rfl hA (Nat.le_of_ble_eq_true rfl) ?_
  intro p e s m below meth c ls F hr hlk hH hl
  have hl : lv_has ls 3 [(0, .ref (ea E 0)), (1, .int t)] := hl
  have hx := F.hx
  have hb := F.hb
  refine lv_iload_n hx hb dX3_drop_0 rfl (lv_at hl 1 rfl) ?_
  refine x_pure hx hb F.hml F.hown F.hts (c_X3_isTill l t) cw_X3_44 rfl rfl ⟨Nat.le_of_ble_eq_true rfl, Nat.le_of_ble_eq_true rfl⟩ rfl hl.1 rfl (Nat.le_of_ble_eq_true rfl) ⟨Nat.zero_le _, Nat.zero_le _⟩ dX3_drop_1 ?_
  refine lv_if_ne (tgt := 9) hx hb dX3_drop_4 (by decide) (fun c_1 => ?_) (fun c_1 => ?_)
  · have q_2 := X3_isTill_n c_1
    have q_2b := q_2.2
    refine lv_aload_n hx hb dX3_drop_9 rfl (lv_at hl 0 rfl) ?_
    refine g_X3_tills F hH kw_98 dX3_drop_10 ?_
    refine lv_iload_n hx hb dX3_drop_13 rfl (lv_at hl 1 rfl) ?_
    refine x_top q_2.1 ?_
    refine a_tills F hH (tn t) (by omega) dX3_drop_14 ?_
    refine g_X2_isThere F hH (t := tn t) (by omega) kw_59 dX3_drop_15 ?_
    refine lv_if_eq (tgt := 25) hx hb dX3_drop_18 (by decide) (fun c_3 => ?_) (fun c_3 => ?_)
    · refine lv_iconst (v := 0) hx hb dX3_drop_25 (by decide) ?_
      refine lv_istore_n (lv' := [(2, .int 0), (0, .ref (ea E 0)), (1, .int t)]) hx hb dX3_drop_26 rfl hl (by decide) rfl (fun ls hl => ?_)
      refine lv_aload_n hx hb dX3_drop_27 rfl (lv_at hl 1 rfl) ?_
      refine g_X3_tills F hH kw_98 dX3_drop_28 ?_
      refine lv_iload_n hx hb dX3_drop_31 rfl (lv_at hl 2 rfl) ?_
      refine x_top q_2.1 ?_
      refine a_tills F hH (tn t) (by omega) dX3_drop_32 ?_
      refine lv_iconst (v := 0) hx hb dX3_drop_33 (by decide) ?_
      refine x_top bz_0.symm ?_
      refine p_X2_isThere F hH (t := tn t) (by omega) kw_59 dX3_drop_34 (fun H locs hH => ?_)
      refine lv_iload_n hx hb dX3_drop_37 rfl (lv_at hl 0 rfl) ?_
      exact x_iretX F hr hlk hH (by simp only [f_X3_drop, if_neg c_1, if_pos c_3]) dX3_drop_38
    · refine lv_iconst (v := 1) hx hb dX3_drop_21 (by decide) ?_
      refine lv_goto (tgt := 26) hx hb dX3_drop_22 (by decide) ?_
      refine lv_istore_n (lv' := [(2, .int 1), (0, .ref (ea E 0)), (1, .int t)]) hx hb dX3_drop_26 rfl hl (by decide) rfl (fun ls hl => ?_)
      refine lv_aload_n hx hb dX3_drop_27 rfl (lv_at hl 1 rfl) ?_
      refine g_X3_tills F hH kw_98 dX3_drop_28 ?_
      refine lv_iload_n hx hb dX3_drop_31 rfl (lv_at hl 2 rfl) ?_
      refine x_top q_2.1 ?_
      refine a_tills F hH (tn t) (by omega) dX3_drop_32 ?_
      refine lv_iconst (v := 0) hx hb dX3_drop_33 (by decide) ?_
      refine x_top bz_0.symm ?_
      refine p_X2_isThere F hH (t := tn t) (by omega) kw_59 dX3_drop_34 (fun H locs hH => ?_)
      refine lv_iload_n hx hb dX3_drop_37 rfl (lv_at hl 0 rfl) ?_
      exact x_iretX F hr hlk hH (by simp only [f_X3_drop, if_neg c_1, if_neg c_3]) dX3_drop_38
  · refine lv_iconst (v := -1) hx hb dX3_drop_7 (by decide) ?_
    exact x_iretX F hr hlk hH (by simp only [f_X3_drop, if_pos c_1]) dX3_drop_8
def f_X3_shut (σ : St) (t : Int32) (is : Int32) : Int32 × St :=
  if (f_X3_isTill t) = 0 then
    ((-1), σ)
  else
    match f_X3_begin σ (tn t) with
    | (r_3, s_4) =>
      if r_3 = 0 then
        ((-11), s_4)
      else
        if (bz (s_4 18 (tn t))) = 0 then
          match f_X3_end (up s_4 18 (tn t) is) 0 with
          | (r_8, s_9) =>
            (r_8, s_9)
        else
          match f_X3_end (up s_4 18 (tn t) is) 1 with
          | (r_11, s_12) =>
            (r_11, s_12)
set_option maxRecDepth 100000 in
set_option maxHeartbeats 4000000 in
theorem c_X3_shut (l : Launch) {E : EV} (hA : AD E) (σ μ : St) (t : Int32) (is : Int32) : Met l yX3_shut (.code yX3_shut cX3_shut 5 (some .int) :: gtbl) (rmL 3) (va_Pc [.ref (ea E 0), .int t, .int (bz is)] (PR E σ μ)) (QI E (f_X3_shut σ t is).1 (f_X3_shut σ t is).2 μ) 0 0 (eA E) := by
  refine x_met (own := RX3) (by decide) rfl hA (Nat.le_of_ble_eq_true rfl) ?_
  intro p e s m below meth c ls F hr hlk hH hl
  have hl : lv_has ls 5 [(0, .ref (ea E 0)), (1, .int t), (2, .int (bz is))] := hl
  have hx := F.hx
  have hb := F.hb
  refine lv_iload_n hx hb dX3_shut_0 rfl (lv_at hl 1 rfl) ?_
  refine x_pure hx hb F.hml F.hown F.hts (c_X3_isTill l t) cw_X3_44 rfl rfl ⟨Nat.le_of_ble_eq_true rfl, Nat.le_of_ble_eq_true rfl⟩ rfl hl.1 rfl (Nat.le_of_ble_eq_true rfl) ⟨Nat.zero_le _, Nat.zero_le _⟩ dX3_shut_1 ?_
  refine lv_if_ne (tgt := 9) hx hb dX3_shut_4 (by decide) (fun c_1 => ?_) (fun c_1 => ?_)
  · have q_2 := X3_isTill_n c_1
    have q_2b := q_2.2
    refine lv_aload_n hx hb dX3_shut_9 rfl (lv_at hl 0 rfl) ?_
    refine g_X3_tills F hH kw_98 dX3_shut_10 ?_
    refine lv_iload_n hx hb dX3_shut_13 rfl (lv_at hl 1 rfl) ?_
    refine x_top q_2.1 ?_
    refine a_tills F hH (tn t) (by omega) dX3_shut_14 ?_
    refine lv_astore_n (lv' := [(3, .ref (ea E (5 + (tn t)))), (0, .ref (ea E 0)), (1, .int t), (2, .int (bz is))]) hx hb dX3_shut_15 rfl hl (by decide) rfl (fun ls hl => ?_)
    refine lv_aload_n hx hb dX3_shut_16 rfl (lv_at hl 1 rfl) ?_
    refine lv_aload_n hx hb dX3_shut_17 rfl (lv_at hl 0 rfl) ?_
    refine x_calliX F hH 0 (F.lt (by omega)) (vv0 (by decide)) rfl (c_X3_begin l F.ad σ μ (tn t) (by omega)) cw_X3_69 rfl rfl ⟨Nat.le_of_ble_eq_true rfl, Nat.le_of_ble_eq_true rfl⟩ rfl hl.1 rfl (Nat.le_of_ble_eq_true rfl) ⟨Nat.zero_le _, Nat.zero_le _⟩ dX3_shut_18 (fun r_3 s_4 H locs e_5 hH => ?_)
    refine lv_if_ne (tgt := 27) hx hb dX3_shut_21 (by decide) (fun c_6 => ?_) (fun c_6 => ?_)
    · refine lv_aload_n hx hb dX3_shut_27 rfl (lv_at hl 0 rfl) ?_
      refine g_X2_isShut F hH (t := tn t) (by omega) kw_60 dX3_shut_28 ?_
      refine lv_if_eq (tgt := 38) hx hb dX3_shut_31 (by decide) (fun c_7 => ?_) (fun c_7 => ?_)
      · refine lv_iconst (v := 0) hx hb dX3_shut_38 (by decide) ?_
        refine lv_istore (lv' := [(4, .int 0), (3, .ref (ea E (5 + (tn t)))), (0, .ref (ea E 0)), (1, .int t), (2, .int (bz is))]) hx hb dX3_shut_39 hl (by decide) rfl (fun ls hl => ?_)
        refine lv_aload_n hx hb dX3_shut_41 rfl (lv_at hl 1 rfl) ?_
        refine lv_iload_n hx hb dX3_shut_42 rfl (lv_at hl 4 rfl) ?_
        refine p_X2_isShut F hH (t := tn t) (by omega) kw_60 dX3_shut_43 (fun H locs hH => ?_)
        refine lv_aload_n hx hb dX3_shut_46 rfl (lv_at hl 2 rfl) ?_
        refine lv_iload hx hb dX3_shut_47 (lv_at hl 0 rfl) ?_
        refine x_calliX F hH 0 (F.lt (by omega)) (vv0 (by decide)) rfl (c_X3_end l F.ad (up s_4 18 (tn t) is) μ 0) cw_X3_73 rfl rfl ⟨Nat.le_of_ble_eq_true rfl, Nat.le_of_ble_eq_true rfl⟩ rfl hl.1 rfl (Nat.le_of_ble_eq_true rfl) ⟨Nat.zero_le _, Nat.zero_le _⟩ dX3_shut_49 (fun r_8 s_9 H locs e_10 hH => ?_)
        exact x_iretX F hr hlk hH (by simp only [f_X3_shut, if_neg c_1, e_5, if_neg c_6, if_pos c_7, e_10]) dX3_shut_52
      · refine lv_iconst (v := 1) hx hb dX3_shut_34 (by decide) ?_
        refine lv_goto (tgt := 39) hx hb dX3_shut_35 (by decide) ?_
        refine lv_istore (lv' := [(4, .int 1), (3, .ref (ea E (5 + (tn t)))), (0, .ref (ea E 0)), (1, .int t), (2, .int (bz is))]) hx hb dX3_shut_39 hl (by decide) rfl (fun ls hl => ?_)
        refine lv_aload_n hx hb dX3_shut_41 rfl (lv_at hl 1 rfl) ?_
        refine lv_iload_n hx hb dX3_shut_42 rfl (lv_at hl 4 rfl) ?_
        refine p_X2_isShut F hH (t := tn t) (by omega) kw_60 dX3_shut_43 (fun H locs hH => ?_)
        refine lv_aload_n hx hb dX3_shut_46 rfl (lv_at hl 2 rfl) ?_
        refine lv_iload hx hb dX3_shut_47 (lv_at hl 0 rfl) ?_
        refine x_calliX F hH 0 (F.lt (by omega)) (vv0 (by decide)) rfl (c_X3_end l F.ad (up s_4 18 (tn t) is) μ 1) cw_X3_73 rfl rfl ⟨Nat.le_of_ble_eq_true rfl, Nat.le_of_ble_eq_true rfl⟩ rfl hl.1 rfl (Nat.le_of_ble_eq_true rfl) ⟨Nat.zero_le _, Nat.zero_le _⟩ dX3_shut_49 (fun r_11 s_12 H locs e_13 hH => ?_)
        exact x_iretX F hr hlk hH (by simp only [f_X3_shut, if_neg c_1, e_5, if_neg c_6, if_neg c_7, e_13]) dX3_shut_52
    · refine lv_bipush (v := -11) hx hb dX3_shut_24 (by decide) ?_
      exact x_iretX F hr hlk hH (by simp only [f_X3_shut, if_neg c_1, e_5, if_pos c_6]) dX3_shut_26
  · refine lv_iconst (v := -1) hx hb dX3_shut_7 (by decide) ?_
    exact x_iretX F hr hlk hH (by simp only [f_X3_shut, if_pos c_1]) dX3_shut_8
def f_X3_put (σ : St) (t : Int32) (kind : Int32) (n : Int32) : Int32 × St :=
  if (f_X3_isTill t) = 0 then
    ((-1), σ)
  else
    if (f_X3_isKind kind) = 0 then
      ((-1), σ)
    else
      if (f_X3_isUpTo n 200) = 0 then
        ((-1), σ)
      else
        match f_X3_begin σ (tn t) with
        | (r_6, s_7) =>
          if r_6 = 0 then
            ((-11), s_7)
          else
            match f_X3_layPicked (addL 8 9 5 0 (up (clrL 9 5 0 s_7) 9 (tn kind) n)) (tn t) with
            | (r_10, s_11) =>
              match f_X3_end s_11 r_10 with
              | (r_13, s_14) =>
                (r_13, s_14)
set_option maxRecDepth 100000 in
set_option maxHeartbeats 4000000 in
theorem c_X3_put (l : Launch) {E : EV} (hA : AD E) (σ μ : St) (t : Int32) (kind : Int32) (n : Int32) : Met l yX3_put (.code yX3_put cX3_put 5 (some .int) :: gtbl) (rmL 3) (va_Pc [.ref (ea E 0), .int t, .int kind, .int n] (PR E σ μ)) (QI E (f_X3_put σ t kind n).1 (f_X3_put σ t kind n).2 μ) 0 0 (eA E) := by
  refine x_met (own := RX3) (by decide) rfl hA (Nat.le_of_ble_eq_true rfl) ?_
  intro p e s m below meth c ls F hr hlk hH hl
  have hl : lv_has ls 5 [(0, .ref (ea E 0)), (1, .int t), (2, .int kind), (3, .int n)] := hl
  have hx := F.hx
  have hb := F.hb
  refine lv_iload_n hx hb dX3_put_0 rfl (lv_at hl 1 rfl) ?_
  refine x_pure hx hb F.hml F.hown F.hts (c_X3_isTill l t) cw_X3_44 rfl rfl ⟨Nat.le_of_ble_eq_true rfl, Nat.le_of_ble_eq_true rfl⟩ rfl hl.1 rfl (Nat.le_of_ble_eq_true rfl) ⟨Nat.zero_le _, Nat.zero_le _⟩ dX3_put_1 ?_
  refine lv_if_eq (tgt := 24) hx hb dX3_put_4 (by decide) (fun c_1 => ?_) (fun c_1 => ?_)
  · refine lv_iconst (v := -1) hx hb dX3_put_24 (by decide) ?_
    exact x_iretX F hr hlk hH (by simp only [f_X3_put, if_pos c_1]) dX3_put_25
  · have q_2 := X3_isTill_n c_1
    have q_2b := q_2.2
    refine lv_iload_n hx hb dX3_put_7 rfl (lv_at hl 2 rfl) ?_
    refine x_pure hx hb F.hml F.hown F.hts (c_X3_isKind l kind) cw_X3_77 rfl rfl ⟨Nat.le_of_ble_eq_true rfl, Nat.le_of_ble_eq_true rfl⟩ rfl hl.1 rfl (Nat.le_of_ble_eq_true rfl) ⟨Nat.zero_le _, Nat.zero_le _⟩ dX3_put_8 ?_
    refine lv_if_eq (tgt := 24) hx hb dX3_put_11 (by decide) (fun c_3 => ?_) (fun c_3 => ?_)
    · refine lv_iconst (v := -1) hx hb dX3_put_24 (by decide) ?_
      exact x_iretX F hr hlk hH (by simp only [f_X3_put, if_neg c_1, if_pos c_3]) dX3_put_25
    · have q_4 := X3_isKind_n c_3
      have q_4b := q_4.2
      refine lv_iload_n hx hb dX3_put_14 rfl (lv_at hl 3 rfl) ?_
      refine lv_sipush (v := 200) hx hb dX3_put_15 (by decide) ?_
      refine x_pure hx hb F.hml F.hown F.hts (c_X3_isUpTo l n 200) cw_X3_48 rfl rfl ⟨Nat.le_of_ble_eq_true rfl, Nat.le_of_ble_eq_true rfl⟩ rfl hl.1 rfl (Nat.le_of_ble_eq_true rfl) ⟨Nat.zero_le _, Nat.zero_le _⟩ dX3_put_18 ?_
      refine lv_if_ne (tgt := 26) hx hb dX3_put_21 (by decide) (fun c_5 => ?_) (fun c_5 => ?_)
      · refine lv_aload_n hx hb dX3_put_26 rfl (lv_at hl 0 rfl) ?_
        refine g_X3_tills F hH kw_98 dX3_put_27 ?_
        refine lv_iload_n hx hb dX3_put_30 rfl (lv_at hl 1 rfl) ?_
        refine x_top q_2.1 ?_
        refine a_tills F hH (tn t) (by omega) dX3_put_31 ?_
        refine lv_astore (lv' := [(4, .ref (ea E (5 + (tn t)))), (0, .ref (ea E 0)), (1, .int t), (2, .int kind), (3, .int n)]) hx hb dX3_put_32 hl (by decide) rfl (fun ls hl => ?_)
        refine lv_aload_n hx hb dX3_put_34 rfl (lv_at hl 1 rfl) ?_
        refine lv_aload hx hb dX3_put_35 (lv_at hl 0 rfl) ?_
        refine x_calliX F hH 0 (F.lt (by omega)) (vv0 (by decide)) rfl (c_X3_begin l F.ad σ μ (tn t) (by omega)) cw_X3_69 rfl rfl ⟨Nat.le_of_ble_eq_true rfl, Nat.le_of_ble_eq_true rfl⟩ rfl hl.1 rfl (Nat.le_of_ble_eq_true rfl) ⟨Nat.zero_le _, Nat.zero_le _⟩ dX3_put_37 (fun r_6 s_7 H locs e_8 hH => ?_)
        refine lv_if_ne (tgt := 46) hx hb dX3_put_40 (by decide) (fun c_9 => ?_) (fun c_9 => ?_)
        · refine lv_aload_n hx hb dX3_put_46 rfl (lv_at hl 1 rfl) ?_
          refine g_X3_picked F hH kw_101 dX3_put_47 ?_
          refine x_callv F hH (13 + 9) (F.lt (by omega)) (vv2 (by omega)) rfl (c_X0_clear l F.ad s_7 μ 9 (by omega)) cw_X3_66 rfl rfl ⟨Nat.le_of_ble_eq_true rfl, Nat.le_of_ble_eq_true rfl⟩ rfl hl.1 rfl (Nat.le_of_ble_eq_true rfl) ⟨Nat.zero_le _, Nat.zero_le _⟩ dX3_put_50 (fun H locs hH => ?_)
          refine lv_aload_n hx hb dX3_put_53 rfl (lv_at hl 1 rfl) ?_
          refine g_X3_picked F hH kw_101 dX3_put_54 ?_
          refine g_X0_of F hH (j := 9) (by omega) kw_52 dX3_put_57 ?_
          refine lv_iload_n hx hb dX3_put_60 rfl (lv_at hl 3 rfl) ?_
          refine x_top q_4.1 ?_
          refine lv_iload_n hx hb dX3_put_61 rfl (lv_at hl 4 rfl) ?_
          refine s_of F hH (j := 9) (by omega) (tn kind) (by omega) dX3_put_62 (fun H locs hH => ?_)
          refine lv_aload_n hx hb dX3_put_63 rfl (lv_at hl 1 rfl) ?_
          refine g_X3_inHand F hH kw_99 dX3_put_64 ?_
          refine lv_aload_n hx hb dX3_put_67 rfl (lv_at hl 1 rfl) ?_
          refine g_X3_picked F hH kw_101 dX3_put_68 ?_
          refine x_callv F hH (13 + 8) (F.lt (by omega)) (vv2 (by omega)) rfl (c_X0_add l F.ad (up (clrL 9 5 0 s_7) 9 (tn kind) n) μ 8 9 (by omega) (by omega)) cw_X3_83 rfl rfl ⟨Nat.le_of_ble_eq_true rfl, Nat.le_of_ble_eq_true rfl⟩ rfl hl.1 rfl (Nat.le_of_ble_eq_true rfl) ⟨Nat.zero_le _, Nat.zero_le _⟩ dX3_put_71 (fun H locs hH => ?_)
          refine lv_aload_n hx hb dX3_put_74 rfl (lv_at hl 1 rfl) ?_
          refine lv_aload_n hx hb dX3_put_75 rfl (lv_at hl 1 rfl) ?_
          refine lv_aload hx hb dX3_put_76 (lv_at hl 0 rfl) ?_
          refine x_calliX F hH 0 (F.lt (by omega)) (vv0 (by decide)) rfl (c_X3_layPicked l F.ad (addL 8 9 5 0 (up (clrL 9 5 0 s_7) 9 (tn kind) n)) μ (tn t) (by omega)) cw_X3_87 rfl rfl ⟨Nat.le_of_ble_eq_true rfl, Nat.le_of_ble_eq_true rfl⟩ rfl hl.1 rfl (Nat.le_of_ble_eq_true rfl) ⟨Nat.zero_le _, Nat.zero_le _⟩ dX3_put_78 (fun r_10 s_11 H locs e_12 hH => ?_)
          refine x_calliX F hH 0 (F.lt (by omega)) (vv0 (by decide)) rfl (c_X3_end l F.ad s_11 μ r_10) cw_X3_73 rfl rfl ⟨Nat.le_of_ble_eq_true rfl, Nat.le_of_ble_eq_true rfl⟩ rfl hl.1 rfl (Nat.le_of_ble_eq_true rfl) ⟨Nat.zero_le _, Nat.zero_le _⟩ dX3_put_81 (fun r_13 s_14 H locs e_15 hH => ?_)
          exact x_iretX F hr hlk hH (by simp only [f_X3_put, if_neg c_1, if_neg c_3, if_neg c_5, e_8, if_neg c_9, e_12, e_15]) dX3_put_84
        · refine lv_bipush (v := -11) hx hb dX3_put_43 (by decide) ?_
          exact x_iretX F hr hlk hH (by simp only [f_X3_put, if_neg c_1, if_neg c_3, if_neg c_5, e_8, if_pos c_9]) dX3_put_45
      · refine lv_iconst (v := -1) hx hb dX3_put_24 (by decide) ?_
        exact x_iretX F hr hlk hH (by simp only [f_X3_put, if_neg c_1, if_neg c_3, if_pos c_5]) dX3_put_25
def f_X3_take (σ : St) (t : Int32) (worth : Int32) : Int32 × St :=
  if (f_X3_isTill t) = 0 then
    ((-1), σ)
  else
    if (f_X3_isUpTo worth 10000) = 0 then
      ((-1), σ)
    else
      match f_X3_begin σ (tn t) with
      | (r_4, s_5) =>
        if r_4 = 0 then
          ((-11), s_5)
        else
          match f_X3_pay s_5 (tn t) worth with
          | (r_8, s_9) =>
            match f_X3_end s_9 r_8 with
            | (r_11, s_12) =>
              (r_11, s_12)
set_option maxRecDepth 100000 in
set_option maxHeartbeats 4000000 in
theorem c_X3_take (l : Launch) {E : EV} (hA : AD E) (σ μ : St) (t : Int32) (worth : Int32) : Met l yX3_take (.code yX3_take cX3_take 4 (some .int) :: gtbl) (rmL 3) (va_Pc [.ref (ea E 0), .int t, .int worth] (PR E σ μ)) (QI E (f_X3_take σ t worth).1 (f_X3_take σ t worth).2 μ) 0 0 (eA E) := by
  refine x_met (own := RX3) (by decide) rfl hA (Nat.le_of_ble_eq_true rfl) ?_
  intro p e s m below meth c ls F hr hlk hH hl
  have hl : lv_has ls 4 [(0, .ref (ea E 0)), (1, .int t), (2, .int worth)] := hl
  have hx := F.hx
  have hb := F.hb
  refine lv_iload_n hx hb dX3_take_0 rfl (lv_at hl 1 rfl) ?_
  refine x_pure hx hb F.hml F.hown F.hts (c_X3_isTill l t) cw_X3_44 rfl rfl ⟨Nat.le_of_ble_eq_true rfl, Nat.le_of_ble_eq_true rfl⟩ rfl hl.1 rfl (Nat.le_of_ble_eq_true rfl) ⟨Nat.zero_le _, Nat.zero_le _⟩ dX3_take_1 ?_
  refine lv_if_eq (tgt := 17) hx hb dX3_take_4 (by decide) (fun c_1 => ?_) (fun c_1 => ?_)
  · refine lv_iconst (v := -1) hx hb dX3_take_17 (by decide) ?_
    exact x_iretX F hr hlk hH (by simp only [f_X3_take, if_pos c_1]) dX3_take_18
  · have q_2 := X3_isTill_n c_1
    have q_2b := q_2.2
    refine lv_iload_n hx hb dX3_take_7 rfl (lv_at hl 2 rfl) ?_
    refine lv_sipush (v := 10000) hx hb dX3_take_8 (by decide) ?_
    refine x_pure hx hb F.hml F.hown F.hts (c_X3_isUpTo l worth 10000) cw_X3_48 rfl rfl ⟨Nat.le_of_ble_eq_true rfl, Nat.le_of_ble_eq_true rfl⟩ rfl hl.1 rfl (Nat.le_of_ble_eq_true rfl) ⟨Nat.zero_le _, Nat.zero_le _⟩ dX3_take_11 ?_
    refine lv_if_ne (tgt := 19) hx hb dX3_take_14 (by decide) (fun c_3 => ?_) (fun c_3 => ?_)
    · refine lv_aload_n hx hb dX3_take_19 rfl (lv_at hl 0 rfl) ?_
      refine g_X3_tills F hH kw_98 dX3_take_20 ?_
      refine lv_iload_n hx hb dX3_take_23 rfl (lv_at hl 1 rfl) ?_
      refine x_top q_2.1 ?_
      refine a_tills F hH (tn t) (by omega) dX3_take_24 ?_
      refine lv_astore_n (lv' := [(3, .ref (ea E (5 + (tn t)))), (0, .ref (ea E 0)), (1, .int t), (2, .int worth)]) hx hb dX3_take_25 rfl hl (by decide) rfl (fun ls hl => ?_)
      refine lv_aload_n hx hb dX3_take_26 rfl (lv_at hl 1 rfl) ?_
      refine lv_aload_n hx hb dX3_take_27 rfl (lv_at hl 0 rfl) ?_
      refine x_calliX F hH 0 (F.lt (by omega)) (vv0 (by decide)) rfl (c_X3_begin l F.ad σ μ (tn t) (by omega)) cw_X3_69 rfl rfl ⟨Nat.le_of_ble_eq_true rfl, Nat.le_of_ble_eq_true rfl⟩ rfl hl.1 rfl (Nat.le_of_ble_eq_true rfl) ⟨Nat.zero_le _, Nat.zero_le _⟩ dX3_take_28 (fun r_4 s_5 H locs e_6 hH => ?_)
      refine lv_if_eq (tgt := 47) hx hb dX3_take_31 (by decide) (fun c_7 => ?_) (fun c_7 => ?_)
      · refine lv_bipush (v := -11) hx hb dX3_take_47 (by decide) ?_
        exact x_iretX F hr hlk hH (by simp only [f_X3_take, if_neg c_1, if_neg c_3, e_6, if_pos c_7]) dX3_take_49
      · refine lv_aload_n hx hb dX3_take_34 rfl (lv_at hl 1 rfl) ?_
        refine lv_aload_n hx hb dX3_take_35 rfl (lv_at hl 1 rfl) ?_
        refine lv_aload_n hx hb dX3_take_36 rfl (lv_at hl 0 rfl) ?_
        refine lv_iload_n hx hb dX3_take_37 rfl (lv_at hl 3 rfl) ?_
        refine x_calliX F hH 0 (F.lt (by omega)) (vv0 (by decide)) rfl (c_X3_pay l F.ad s_5 μ (tn t) worth (by omega)) cw_X3_91 rfl rfl ⟨Nat.le_of_ble_eq_true rfl, Nat.le_of_ble_eq_true rfl⟩ rfl hl.1 rfl (Nat.le_of_ble_eq_true rfl) ⟨Nat.zero_le _, Nat.zero_le _⟩ dX3_take_38 (fun r_8 s_9 H locs e_10 hH => ?_)
        refine x_calliX F hH 0 (F.lt (by omega)) (vv0 (by decide)) rfl (c_X3_end l F.ad s_9 μ r_8) cw_X3_73 rfl rfl ⟨Nat.le_of_ble_eq_true rfl, Nat.le_of_ble_eq_true rfl⟩ rfl hl.1 rfl (Nat.le_of_ble_eq_true rfl) ⟨Nat.zero_le _, Nat.zero_le _⟩ dX3_take_41 (fun r_11 s_12 H locs e_13 hH => ?_)
        refine lv_goto (tgt := 49) hx hb dX3_take_44 (by decide) ?_
        exact x_iretX F hr hlk hH (by simp only [f_X3_take, if_neg c_1, if_neg c_3, e_6, if_neg c_7, e_10, e_13]) dX3_take_49
    · refine lv_iconst (v := -1) hx hb dX3_take_17 (by decide) ?_
      exact x_iretX F hr hlk hH (by simp only [f_X3_take, if_neg c_1, if_pos c_3]) dX3_take_18
def f_X3_move (σ : St) (a : Int32) (b : Int32) (worth : Int32) (back : Int32) : Int32 × St :=
  if (f_X3_isTill a) = 0 then
    ((-1), σ)
  else
    if (f_X3_isTill b) = 0 then
      ((-1), σ)
    else
      if (f_X3_isUpTo worth 10000) = 0 then
        ((-1), σ)
      else
        match f_X3_begin σ (tn a) with
        | (r_6, s_7) =>
          if r_6 = 0 then
            ((-11), s_7)
          else
            match f_X3_moveWithin s_7 (tn a) (tn b) worth back with
            | (r_10, s_11) =>
              match f_X3_end s_11 r_10 with
              | (r_13, s_14) =>
                (r_13, s_14)
set_option maxRecDepth 100000 in
set_option maxHeartbeats 4000000 in
theorem c_X3_move (l : Launch) {E : EV} (hA : AD E) (σ μ : St) (a : Int32) (b : Int32) (worth : Int32) (back : Int32) : Met l yX3_move (.code yX3_move cX3_move 6 (some .int) :: gtbl) (rmL 4) (va_Pc [.ref (ea E 0), .int a, .int b, .int worth, .int (bz back)] (PR E σ μ)) (QI E (f_X3_move σ a b worth back).1 (f_X3_move σ a b worth back).2 μ) 0 0 (eA E) := by
  refine x_met (own := RX3) (by decide) rfl hA (Nat.le_of_ble_eq_true rfl) ?_
  intro p e s m below meth c ls F hr hlk hH hl
  have hl : lv_has ls 6 [(0, .ref (ea E 0)), (1, .int a), (2, .int b), (3, .int worth), (4, .int (bz back))] := hl
  have hx := F.hx
  have hb := F.hb
  refine lv_iload_n hx hb dX3_move_0 rfl (lv_at hl 1 rfl) ?_
  refine x_pure hx hb F.hml F.hown F.hts (c_X3_isTill l a) cw_X3_44 rfl rfl ⟨Nat.le_of_ble_eq_true rfl, Nat.le_of_ble_eq_true rfl⟩ rfl hl.1 rfl (Nat.le_of_ble_eq_true rfl) ⟨Nat.zero_le _, Nat.zero_le _⟩ dX3_move_1 ?_
  refine lv_if_eq (tgt := 24) hx hb dX3_move_4 (by decide) (fun c_1 => ?_) (fun c_1 => ?_)
  · refine lv_iconst (v := -1) hx hb dX3_move_24 (by decide) ?_
    exact x_iretX F hr hlk hH (by simp only [f_X3_move, if_pos c_1]) dX3_move_25
  · have q_2 := X3_isTill_n c_1
    have q_2b := q_2.2
    refine lv_iload_n hx hb dX3_move_7 rfl (lv_at hl 2 rfl) ?_
    refine x_pure hx hb F.hml F.hown F.hts (c_X3_isTill l b) cw_X3_44 rfl rfl ⟨Nat.le_of_ble_eq_true rfl, Nat.le_of_ble_eq_true rfl⟩ rfl hl.1 rfl (Nat.le_of_ble_eq_true rfl) ⟨Nat.zero_le _, Nat.zero_le _⟩ dX3_move_8 ?_
    refine lv_if_eq (tgt := 24) hx hb dX3_move_11 (by decide) (fun c_3 => ?_) (fun c_3 => ?_)
    · refine lv_iconst (v := -1) hx hb dX3_move_24 (by decide) ?_
      exact x_iretX F hr hlk hH (by simp only [f_X3_move, if_neg c_1, if_pos c_3]) dX3_move_25
    · have q_4 := X3_isTill_n c_3
      have q_4b := q_4.2
      refine lv_iload_n hx hb dX3_move_14 rfl (lv_at hl 3 rfl) ?_
      refine lv_sipush (v := 10000) hx hb dX3_move_15 (by decide) ?_
      refine x_pure hx hb F.hml F.hown F.hts (c_X3_isUpTo l worth 10000) cw_X3_48 rfl rfl ⟨Nat.le_of_ble_eq_true rfl, Nat.le_of_ble_eq_true rfl⟩ rfl hl.1 rfl (Nat.le_of_ble_eq_true rfl) ⟨Nat.zero_le _, Nat.zero_le _⟩ dX3_move_18 ?_
      refine lv_if_ne (tgt := 26) hx hb dX3_move_21 (by decide) (fun c_5 => ?_) (fun c_5 => ?_)
      · refine lv_aload_n hx hb dX3_move_26 rfl (lv_at hl 0 rfl) ?_
        refine g_X3_tills F hH kw_98 dX3_move_27 ?_
        refine lv_iload_n hx hb dX3_move_30 rfl (lv_at hl 1 rfl) ?_
        refine x_top q_2.1 ?_
        refine a_tills F hH (tn a) (by omega) dX3_move_31 ?_
        refine lv_astore (lv' := [(5, .ref (ea E (5 + (tn a)))), (0, .ref (ea E 0)), (1, .int a), (2, .int b), (3, .int worth), (4, .int (bz back))]) hx hb dX3_move_32 hl (by decide) rfl (fun ls hl => ?_)
        refine lv_aload_n hx hb dX3_move_34 rfl (lv_at hl 1 rfl) ?_
        refine lv_aload hx hb dX3_move_35 (lv_at hl 0 rfl) ?_
        refine x_calliX F hH 0 (F.lt (by omega)) (vv0 (by decide)) rfl (c_X3_begin l F.ad σ μ (tn a) (by omega)) cw_X3_69 rfl rfl ⟨Nat.le_of_ble_eq_true rfl, Nat.le_of_ble_eq_true rfl⟩ rfl hl.1 rfl (Nat.le_of_ble_eq_true rfl) ⟨Nat.zero_le _, Nat.zero_le _⟩ dX3_move_37 (fun r_6 s_7 H locs e_8 hH => ?_)
        refine lv_if_eq (tgt := 65) hx hb dX3_move_40 (by decide) (fun c_9 => ?_) (fun c_9 => ?_)
        · refine lv_bipush (v := -11) hx hb dX3_move_65 (by decide) ?_
          exact x_iretX F hr hlk hH (by simp only [f_X3_move, if_neg c_1, if_neg c_3, if_neg c_5, e_8, if_pos c_9]) dX3_move_67
        · refine lv_aload_n hx hb dX3_move_43 rfl (lv_at hl 1 rfl) ?_
          refine lv_aload_n hx hb dX3_move_44 rfl (lv_at hl 1 rfl) ?_
          refine lv_aload hx hb dX3_move_45 (lv_at hl 0 rfl) ?_
          refine lv_aload_n hx hb dX3_move_47 rfl (lv_at hl 1 rfl) ?_
          refine g_X3_tills F hH kw_98 dX3_move_48 ?_
          refine lv_iload_n hx hb dX3_move_51 rfl (lv_at hl 3 rfl) ?_
          refine x_top q_4.1 ?_
          refine a_tills F hH (tn b) (by omega) dX3_move_52 ?_
          refine lv_iload_n hx hb dX3_move_53 rfl (lv_at hl 4 rfl) ?_
          refine lv_iload hx hb dX3_move_54 (lv_at hl 5 rfl) ?_
          refine x_calliX F hH 0 (F.lt (by omega)) (vv0 (by decide)) rfl (c_X3_moveWithin l F.ad s_7 μ (tn a) (tn b) worth back (by omega) (by omega)) cw_X3_95 rfl rfl ⟨Nat.le_of_ble_eq_true rfl, Nat.le_of_ble_eq_true rfl⟩ rfl hl.1 rfl (Nat.le_of_ble_eq_true rfl) ⟨Nat.zero_le _, Nat.zero_le _⟩ dX3_move_56 (fun r_10 s_11 H locs e_12 hH => ?_)
          refine x_calliX F hH 0 (F.lt (by omega)) (vv0 (by decide)) rfl (c_X3_end l F.ad s_11 μ r_10) cw_X3_73 rfl rfl ⟨Nat.le_of_ble_eq_true rfl, Nat.le_of_ble_eq_true rfl⟩ rfl hl.1 rfl (Nat.le_of_ble_eq_true rfl) ⟨Nat.zero_le _, Nat.zero_le _⟩ dX3_move_59 (fun r_13 s_14 H locs e_15 hH => ?_)
          refine lv_goto (tgt := 67) hx hb dX3_move_62 (by decide) ?_
          exact x_iretX F hr hlk hH (by simp only [f_X3_move, if_neg c_1, if_neg c_3, if_neg c_5, e_8, if_neg c_9, e_12, e_15]) dX3_move_67
      · refine lv_iconst (v := -1) hx hb dX3_move_24 (by decide) ?_
        exact x_iretX F hr hlk hH (by simp only [f_X3_move, if_neg c_1, if_neg c_3, if_pos c_5]) dX3_move_25
def f_X3_share (σ : St) (a : Int32) (b : Int32) (kind : Int32) : Int32 × St :=
  if (f_X3_isTill a) = 0 then
    ((-1), σ)
  else
    if (f_X3_isTill b) = 0 then
      ((-1), σ)
    else
      if (f_X3_isKind kind) = 0 then
        ((-1), σ)
      else
        match f_X3_begin σ (tn a) with
        | (r_7, s_8) =>
          if r_7 = 0 then
            ((-11), s_8)
          else
            match f_X3_begin s_8 (tn b) with
            | (r_11, s_12) =>
              if r_11 = 0 then
                match f_X3_end s_12 (-11) with
                | (r_15, s_16) =>
                  (r_15, s_16)
              else
                match f_X3_halve s_12 (tn a) (tn b) (tn kind) with
                | (r_18, s_19) =>
                  match f_X3_end s_19 r_18 with
                  | (r_21, s_22) =>
                    match f_X3_end s_22 r_21 with
                    | (r_24, s_25) =>
                      (r_24, s_25)
set_option maxRecDepth 100000 in
set_option maxHeartbeats 4000000 in
theorem c_X3_share (l : Launch) {E : EV} (hA : AD E) (σ μ : St) (a : Int32) (b : Int32) (kind : Int32) : Met l yX3_share (.code yX3_share cX3_share 6 (some .int) :: gtbl) (rmL 4) (va_Pc [.ref (ea E 0), .int a, .int b, .int kind] (PR E σ μ)) (QI E (f_X3_share σ a b kind).1 (f_X3_share σ a b kind).2 μ) 0 0 (eA E) := by
  refine x_met (own := RX3) (by decide) rfl hA (Nat.le_of_ble_eq_true rfl) ?_
  intro p e s m below meth c ls F hr hlk hH hl
  have hl : lv_has ls 6 [(0, .ref (ea E 0)), (1, .int a), (2, .int b), (3, .int kind)] := hl
  have hx := F.hx
  have hb := F.hb
  refine lv_iload_n hx hb dX3_share_0 rfl (lv_at hl 1 rfl) ?_
  refine x_pure hx hb F.hml F.hown F.hts (c_X3_isTill l a) cw_X3_44 rfl rfl ⟨Nat.le_of_ble_eq_true rfl, Nat.le_of_ble_eq_true rfl⟩ rfl hl.1 rfl (Nat.le_of_ble_eq_true rfl) ⟨Nat.zero_le _, Nat.zero_le _⟩ dX3_share_1 ?_
  refine lv_if_eq (tgt := 21) hx hb dX3_share_4 (by decide) (fun c_1 => ?_) (fun c_1 => ?_)
  · refine lv_iconst (v := -1) hx hb dX3_share_21 (by decide) ?_
    exact x_iretX F hr hlk hH (by simp only [f_X3_share, if_pos c_1]) dX3_share_22
  · have q_2 := X3_isTill_n c_1
    have q_2b := q_2.2
    refine lv_iload_n hx hb dX3_share_7 rfl (lv_at hl 2 rfl) ?_
    refine x_pure hx hb F.hml F.hown F.hts (c_X3_isTill l b) cw_X3_44 rfl rfl ⟨Nat.le_of_ble_eq_true rfl, Nat.le_of_ble_eq_true rfl⟩ rfl hl.1 rfl (Nat.le_of_ble_eq_true rfl) ⟨Nat.zero_le _, Nat.zero_le _⟩ dX3_share_8 ?_
    refine lv_if_eq (tgt := 21) hx hb dX3_share_11 (by decide) (fun c_3 => ?_) (fun c_3 => ?_)
    · refine lv_iconst (v := -1) hx hb dX3_share_21 (by decide) ?_
      exact x_iretX F hr hlk hH (by simp only [f_X3_share, if_neg c_1, if_pos c_3]) dX3_share_22
    · have q_4 := X3_isTill_n c_3
      have q_4b := q_4.2
      refine lv_iload_n hx hb dX3_share_14 rfl (lv_at hl 3 rfl) ?_
      refine x_pure hx hb F.hml F.hown F.hts (c_X3_isKind l kind) cw_X3_77 rfl rfl ⟨Nat.le_of_ble_eq_true rfl, Nat.le_of_ble_eq_true rfl⟩ rfl hl.1 rfl (Nat.le_of_ble_eq_true rfl) ⟨Nat.zero_le _, Nat.zero_le _⟩ dX3_share_15 ?_
      refine lv_if_ne (tgt := 23) hx hb dX3_share_18 (by decide) (fun c_5 => ?_) (fun c_5 => ?_)
      · have q_6 := X3_isKind_n c_5
        have q_6b := q_6.2
        refine lv_aload_n hx hb dX3_share_23 rfl (lv_at hl 0 rfl) ?_
        refine g_X3_tills F hH kw_98 dX3_share_24 ?_
        refine lv_iload_n hx hb dX3_share_27 rfl (lv_at hl 1 rfl) ?_
        refine x_top q_2.1 ?_
        refine a_tills F hH (tn a) (by omega) dX3_share_28 ?_
        refine lv_astore (lv' := [(4, .ref (ea E (5 + (tn a)))), (0, .ref (ea E 0)), (1, .int a), (2, .int b), (3, .int kind)]) hx hb dX3_share_29 hl (by decide) rfl (fun ls hl => ?_)
        refine lv_aload_n hx hb dX3_share_31 rfl (lv_at hl 1 rfl) ?_
        refine g_X3_tills F hH kw_98 dX3_share_32 ?_
        refine lv_iload_n hx hb dX3_share_35 rfl (lv_at hl 3 rfl) ?_
        refine x_top q_4.1 ?_
        refine a_tills F hH (tn b) (by omega) dX3_share_36 ?_
        refine lv_astore (lv' := [(5, .ref (ea E (5 + (tn b)))), (4, .ref (ea E (5 + (tn a)))), (0, .ref (ea E 0)), (1, .int a), (2, .int b), (3, .int kind)]) hx hb dX3_share_37 hl (by decide) rfl (fun ls hl => ?_)
        refine lv_aload_n hx hb dX3_share_39 rfl (lv_at hl 2 rfl) ?_
        refine lv_aload hx hb dX3_share_40 (lv_at hl 1 rfl) ?_
        refine x_calliX F hH 0 (F.lt (by omega)) (vv0 (by decide)) rfl (c_X3_begin l F.ad σ μ (tn a) (by omega)) cw_X3_69 rfl rfl ⟨Nat.le_of_ble_eq_true rfl, Nat.le_of_ble_eq_true rfl⟩ rfl hl.1 rfl (Nat.le_of_ble_eq_true rfl) ⟨Nat.zero_le _, Nat.zero_le _⟩ dX3_share_42 (fun r_7 s_8 H locs e_9 hH => ?_)
        refine lv_if_ne (tgt := 51) hx hb dX3_share_45 (by decide) (fun c_10 => ?_) (fun c_10 => ?_)
        · refine lv_aload_n hx hb dX3_share_51 rfl (lv_at hl 2 rfl) ?_
          refine lv_aload_n hx hb dX3_share_52 rfl (lv_at hl 2 rfl) ?_
          refine lv_aload hx hb dX3_share_53 (lv_at hl 0 rfl) ?_
          refine x_calliX F hH 0 (F.lt (by omega)) (vv0 (by decide)) rfl (c_X3_begin l F.ad s_8 μ (tn b) (by omega)) cw_X3_69 rfl rfl ⟨Nat.le_of_ble_eq_true rfl, Nat.le_of_ble_eq_true rfl⟩ rfl hl.1 rfl (Nat.le_of_ble_eq_true rfl) ⟨Nat.zero_le _, Nat.zero_le _⟩ dX3_share_55 (fun r_11 s_12 H locs e_13 hH => ?_)
          refine lv_if_eq (tgt := 76) hx hb dX3_share_58 (by decide) (fun c_14 => ?_) (fun c_14 => ?_)
          · refine lv_bipush (v := -11) hx hb dX3_share_76 (by decide) ?_
            refine x_calliX F hH 0 (F.lt (by omega)) (vv0 (by decide)) rfl (c_X3_end l F.ad s_12 μ (-11)) cw_X3_73 rfl rfl ⟨Nat.le_of_ble_eq_true rfl, Nat.le_of_ble_eq_true rfl⟩ rfl hl.1 rfl (Nat.le_of_ble_eq_true rfl) ⟨Nat.zero_le _, Nat.zero_le _⟩ dX3_share_78 (fun r_15 s_16 H locs e_17 hH => ?_)
            exact x_iretX F hr hlk hH (by simp only [f_X3_share, if_neg c_1, if_neg c_3, if_neg c_5, e_9, if_neg c_10, e_13, if_pos c_14, e_17]) dX3_share_81
          · refine lv_aload_n hx hb dX3_share_61 rfl (lv_at hl 2 rfl) ?_
            refine lv_aload hx hb dX3_share_62 (lv_at hl 1 rfl) ?_
            refine lv_aload hx hb dX3_share_64 (lv_at hl 0 rfl) ?_
            refine lv_iload_n hx hb dX3_share_66 rfl (lv_at hl 5 rfl) ?_
            refine x_top q_6.1 ?_
            refine x_callsX F hH (c_X3_halve l F.ad s_12 μ (tn a) (tn b) (tn kind) (by omega) (by omega) (by omega)) cw_X3_109 rfl rfl ⟨Nat.le_of_ble_eq_true rfl, Nat.le_of_ble_eq_true rfl⟩ rfl hl.1 rfl (Nat.le_of_ble_eq_true rfl) ⟨Nat.zero_le _, Nat.zero_le _⟩ dX3_share_67 (fun r_18 s_19 H locs e_20 hH => ?_)
            refine x_calliX F hH 0 (F.lt (by omega)) (vv0 (by decide)) rfl (c_X3_end l F.ad s_19 μ r_18) cw_X3_73 rfl rfl ⟨Nat.le_of_ble_eq_true rfl, Nat.le_of_ble_eq_true rfl⟩ rfl hl.1 rfl (Nat.le_of_ble_eq_true rfl) ⟨Nat.zero_le _, Nat.zero_le _⟩ dX3_share_70 (fun r_21 s_22 H locs e_23 hH => ?_)
            refine lv_goto (tgt := 78) hx hb dX3_share_73 (by decide) ?_
            refine x_calliX F hH 0 (F.lt (by omega)) (vv0 (by decide)) rfl (c_X3_end l F.ad s_22 μ r_21) cw_X3_73 rfl rfl ⟨Nat.le_of_ble_eq_true rfl, Nat.le_of_ble_eq_true rfl⟩ rfl hl.1 rfl (Nat.le_of_ble_eq_true rfl) ⟨Nat.zero_le _, Nat.zero_le _⟩ dX3_share_78 (fun r_24 s_25 H locs e_26 hH => ?_)
            exact x_iretX F hr hlk hH (by simp only [f_X3_share, if_neg c_1, if_neg c_3, if_neg c_5, e_9, if_neg c_10, e_13, if_neg c_14, e_20, e_23, e_26]) dX3_share_81
        · refine lv_bipush (v := -11) hx hb dX3_share_48 (by decide) ?_
          exact x_iretX F hr hlk hH (by simp only [f_X3_share, if_neg c_1, if_neg c_3, if_neg c_5, e_9, if_pos c_10]) dX3_share_50
      · refine lv_iconst (v := -1) hx hb dX3_share_21 (by decide) ?_
        exact x_iretX F hr hlk hH (by simp only [f_X3_share, if_neg c_1, if_neg c_3, if_pos c_5]) dX3_share_22
def f_X3_look (σ : St) (t : Int32) (what : Int32) : Int32 × St :=
  if (f_X3_isTill t) = 0 then
    ((-1), σ)
  else
    if (f_X3_isUpTo what 8) = 0 then
      ((-1), σ)
    else
      match f_X3_begin σ (tn t) with
      | (r_4, s_5) =>
        if r_4 = 0 then
          ((-11), s_5)
        else
          match f_X3_end s_5 (f_X2_tell s_5 (tn t) what) with
          | (r_8, s_9) =>
            (r_8, s_9)
set_option maxRecDepth 100000 in
set_option maxHeartbeats 4000000 in
theorem c_X3_look (l : Launch) {E : EV} (hA : AD E) (σ μ : St) (t : Int32) (what : Int32) : Met l yX3_look (.code yX3_look cX3_look 4 (some .int) :: gtbl) (rmL 3) (va_Pc [.ref (ea E 0), .int t, .int what] (PR E σ μ)) (QI E (f_X3_look σ t what).1 (f_X3_look σ t what).2 μ) 0 0 (eA E) := by
  refine x_met (own := RX3) (by decide) rfl hA (Nat.le_of_ble_eq_true rfl) ?_
  intro p e s m below meth c ls F hr hlk hH hl
  have hl : lv_has ls 4 [(0, .ref (ea E 0)), (1, .int t), (2, .int what)] := hl
  have hx := F.hx
  have hb := F.hb
  refine lv_iload_n hx hb dX3_look_0 rfl (lv_at hl 1 rfl) ?_
  refine x_pure hx hb F.hml F.hown F.hts (c_X3_isTill l t) cw_X3_44 rfl rfl ⟨Nat.le_of_ble_eq_true rfl, Nat.le_of_ble_eq_true rfl⟩ rfl hl.1 rfl (Nat.le_of_ble_eq_true rfl) ⟨Nat.zero_le _, Nat.zero_le _⟩ dX3_look_1 ?_
  refine lv_if_eq (tgt := 16) hx hb dX3_look_4 (by decide) (fun c_1 => ?_) (fun c_1 => ?_)
  · refine lv_iconst (v := -1) hx hb dX3_look_16 (by decide) ?_
    exact x_iretX F hr hlk hH (by simp only [f_X3_look, if_pos c_1]) dX3_look_17
  · have q_2 := X3_isTill_n c_1
    have q_2b := q_2.2
    refine lv_iload_n hx hb dX3_look_7 rfl (lv_at hl 2 rfl) ?_
    refine lv_bipush (v := 8) hx hb dX3_look_8 (by decide) ?_
    refine x_pure hx hb F.hml F.hown F.hts (c_X3_isUpTo l what 8) cw_X3_48 rfl rfl ⟨Nat.le_of_ble_eq_true rfl, Nat.le_of_ble_eq_true rfl⟩ rfl hl.1 rfl (Nat.le_of_ble_eq_true rfl) ⟨Nat.zero_le _, Nat.zero_le _⟩ dX3_look_10 ?_
    refine lv_if_ne (tgt := 18) hx hb dX3_look_13 (by decide) (fun c_3 => ?_) (fun c_3 => ?_)
    · refine lv_aload_n hx hb dX3_look_18 rfl (lv_at hl 0 rfl) ?_
      refine g_X3_tills F hH kw_98 dX3_look_19 ?_
      refine lv_iload_n hx hb dX3_look_22 rfl (lv_at hl 1 rfl) ?_
      refine x_top q_2.1 ?_
      refine a_tills F hH (tn t) (by omega) dX3_look_23 ?_
      refine lv_astore_n (lv' := [(3, .ref (ea E (5 + (tn t)))), (0, .ref (ea E 0)), (1, .int t), (2, .int what)]) hx hb dX3_look_24 rfl hl (by decide) rfl (fun ls hl => ?_)
      refine lv_aload_n hx hb dX3_look_25 rfl (lv_at hl 1 rfl) ?_
      refine lv_aload_n hx hb dX3_look_26 rfl (lv_at hl 0 rfl) ?_
      refine x_calliX F hH 0 (F.lt (by omega)) (vv0 (by decide)) rfl (c_X3_begin l F.ad σ μ (tn t) (by omega)) cw_X3_69 rfl rfl ⟨Nat.le_of_ble_eq_true rfl, Nat.le_of_ble_eq_true rfl⟩ rfl hl.1 rfl (Nat.le_of_ble_eq_true rfl) ⟨Nat.zero_le _, Nat.zero_le _⟩ dX3_look_27 (fun r_4 s_5 H locs e_6 hH => ?_)
      refine lv_if_eq (tgt := 45) hx hb dX3_look_30 (by decide) (fun c_7 => ?_) (fun c_7 => ?_)
      · refine lv_bipush (v := -11) hx hb dX3_look_45 (by decide) ?_
        exact x_iretX F hr hlk hH (by simp only [f_X3_look, if_neg c_1, if_neg c_3, e_6, if_pos c_7]) dX3_look_47
      · refine lv_aload_n hx hb dX3_look_33 rfl (lv_at hl 1 rfl) ?_
        refine lv_aload_n hx hb dX3_look_34 rfl (lv_at hl 0 rfl) ?_
        refine lv_iload_n hx hb dX3_look_35 rfl (lv_at hl 3 rfl) ?_
        refine x_calliR F hH (5 + (tn t)) (F.lt (by omega)) (vv1 (by omega)) rfl (c_X2_tell l F.ad s_5 μ (tn t) what (by omega)) cw_X3_117 rfl rfl ⟨Nat.le_of_ble_eq_true rfl, Nat.le_of_ble_eq_true rfl⟩ rfl hl.1 rfl (Nat.le_of_ble_eq_true rfl) ⟨Nat.zero_le _, Nat.zero_le _⟩ dX3_look_36 (fun H locs hH => ?_)
        refine x_calliX F hH 0 (F.lt (by omega)) (vv0 (by decide)) rfl (c_X3_end l F.ad s_5 μ (f_X2_tell s_5 (tn t) what)) cw_X3_73 rfl rfl ⟨Nat.le_of_ble_eq_true rfl, Nat.le_of_ble_eq_true rfl⟩ rfl hl.1 rfl (Nat.le_of_ble_eq_true rfl) ⟨Nat.zero_le _, Nat.zero_le _⟩ dX3_look_39 (fun r_8 s_9 H locs e_10 hH => ?_)
        refine lv_goto (tgt := 47) hx hb dX3_look_42 (by decide) ?_
        exact x_iretX F hr hlk hH (by simp only [f_X3_look, if_neg c_1, if_neg c_3, e_6, if_neg c_7, e_10]) dX3_look_47
    · refine lv_iconst (v := -1) hx hb dX3_look_16 (by decide) ?_
      exact x_iretX F hr hlk hH (by simp only [f_X3_look, if_neg c_1, if_pos c_3]) dX3_look_17
def f_X3_hand (σ : St) (what : Int32) : Int32 × St :=
  if (f_X3_isUpTo what 6) = 0 then
    ((-1), σ)
  else
    (f_X0_tell σ 8 what, σ)
set_option maxRecDepth 100000 in
set_option maxHeartbeats 4000000 in
theorem c_X3_hand (l : Launch) {E : EV} (hA : AD E) (σ μ : St) (what : Int32) : Met l yX3_hand (.code yX3_hand cX3_hand 2 (some .int) :: gtbl) (rmL 2) (va_Pc [.ref (ea E 0), .int what] (PR E σ μ)) (QI E (f_X3_hand σ what).1 (f_X3_hand σ what).2 μ) 0 0 (eA E) := by
  refine x_met (own := RX3) (by decide) rfl hA (Nat.le_of_ble_eq_true rfl) ?_
  intro p e s m below meth c ls F hr hlk hH hl
  have hl : lv_has ls 2 [(0, .ref (ea E 0)), (1, .int what)] := hl
  have hx := F.hx
  have hb := F.hb
  refine lv_iload_n hx hb dX3_hand_0 rfl (lv_at hl 1 rfl) ?_
  refine lv_bipush (v := 6) hx hb dX3_hand_1 (by decide) ?_
  refine x_pure hx hb F.hml F.hown F.hts (c_X3_isUpTo l what 6) cw_X3_48 rfl rfl ⟨Nat.le_of_ble_eq_true rfl, Nat.le_of_ble_eq_true rfl⟩ rfl hl.1 rfl (Nat.le_of_ble_eq_true rfl) ⟨Nat.zero_le _, Nat.zero_le _⟩ dX3_hand_3 ?_
  refine lv_if_eq (tgt := 20) hx hb dX3_hand_6 (by decide) (fun c_1 => ?_) (fun c_1 => ?_)
  · refine lv_iconst (v := -1) hx hb dX3_hand_20 (by decide) ?_
    exact x_iretX F hr hlk hH (by simp only [f_X3_hand, if_pos c_1]) dX3_hand_21
  · refine lv_aload_n hx hb dX3_hand_9 rfl (lv_at hl 0 rfl) ?_
    refine g_X3_inHand F hH kw_99 dX3_hand_10 ?_
    refine lv_iload_n hx hb dX3_hand_13 rfl (lv_at hl 1 rfl) ?_
    refine x_calliR F hH (13 + 8) (F.lt (by omega)) (vv2 (by omega)) rfl (c_X0_tell l F.ad σ μ 8 what (by omega)) cw_X3_120 rfl rfl ⟨Nat.le_of_ble_eq_true rfl, Nat.le_of_ble_eq_true rfl⟩ rfl hl.1 rfl (Nat.le_of_ble_eq_true rfl) ⟨Nat.zero_le _, Nat.zero_le _⟩ dX3_hand_14 (fun H locs hH => ?_)
    refine lv_goto (tgt := 21) hx hb dX3_hand_17 (by decide) ?_
    exact x_iretX F hr hlk hH (by simp only [f_X3_hand, if_neg c_1]) dX3_hand_21
set_option maxRecDepth 100000 in
set_option maxHeartbeats 4000000 in
theorem lp_X3_first {p : Program} {l : Launch} {e : Env} {s : State} {m : MethodId} {args : Array Value} {below : List Frame} {meth : Method} {c : Code} {E : EV} (F : Fx E p s m args c cX3_first RX3 3) (hr : meth.sig.returnType = some .int) (hlk : meth.locks = false) (worth : Int32) : ∀ (n : Nat) (k : Nat) (σ μ : St) (H : Heap) (locs : List Loc) (ls : Array Slot), k + n = 8 → HS E s σ μ H locs → lv_has ls 3 [(0, .ref (ea E 0)), (1, .int worth), (2, .int (nI k))] → W p l e (rmL 4) s m args below meth c H locs 0 0 (MQ below (QI E (firstL worth n k σ).1 (firstL worth n k σ).2 μ) args s 0 0 (eA E)) (F0 m 14 ls []) := by
  have hx := F.hx
  have hb := F.hb
  intro n
  induction n with
  | zero =>
    intro k σ μ H locs ls hn hH hl
    obtain rfl : k = 8 := by omega
    refine lv_iload_n hx hb dX3_first_14 rfl (lv_at hl 2 rfl) ?_
    refine lv_bipush (v := 8) hx hb dX3_first_15 (by decide) ?_
    refine lv_icmp_ge (tgt := 42) hx hb dX3_first_17 (by decide) (fun _ => ?_) (fun c_1 => absurd (by decide) c_1)
    refine lv_bipush (v := -2) hx hb dX3_first_42 (by decide) ?_
    exact x_iretX F hr hlk hH (by simp only [firstL]) dX3_first_44
  | succ n ih =>
    intro k σ μ H locs ls hn hH hl
    refine lv_iload_n hx hb dX3_first_14 rfl (lv_at hl 2 rfl) ?_
    refine lv_bipush (v := 8) hx hb dX3_first_15 (by decide) ?_
    refine lv_icmp_ge (tgt := 42) hx hb dX3_first_17 (by decide) (fun c_1 => absurd c_1 (nI_ge (show k < 8 by omega) (by decide))) (fun _ => ?_)
    refine lv_aload_n hx hb dX3_first_20 rfl (lv_at hl 0 rfl) ?_
    refine lv_aload_n hx hb dX3_first_21 rfl (lv_at hl 0 rfl) ?_
    refine g_X3_tills F hH kw_98 dX3_first_22 ?_
    refine lv_iload_n hx hb dX3_first_25 rfl (lv_at hl 2 rfl) ?_
    refine a_tills F hH k (by omega) dX3_first_26 ?_
    refine lv_iload_n hx hb dX3_first_27 rfl (lv_at hl 1 rfl) ?_
    refine x_calliX F hH 0 (F.lt (by omega)) (vv0 (by decide)) rfl (c_X3_couldPay l F.ad σ μ k worth (by omega)) cw_X3_113 rfl rfl ⟨Nat.le_of_ble_eq_true rfl, Nat.le_of_ble_eq_true rfl⟩ rfl hl.1 rfl (Nat.le_of_ble_eq_true rfl) ⟨Nat.zero_le _, Nat.zero_le _⟩ dX3_first_28 (fun r_2 s_3 H locs e_4 hH => ?_)
    refine lv_if_eq (tgt := 36) hx hb dX3_first_31 (by decide) (fun c_5 => ?_) (fun c_5 => ?_)
    · refine lv_iinc (v := nI (k + 1)) (lv' := [(2, .int (nI (k + 1))), (0, .ref (ea E 0)), (1, .int worth)]) hx hb dX3_first_36 hl (k := 2) rfl (nI_1 k) (by decide) rfl (fun ls hl => ?_)
      refine lv_goto (tgt := 14) hx hb dX3_first_39 (by decide) ?_
      rw [show firstL worth (n + 1) k σ = firstL worth n (k + 1) s_3 from (by simp only [firstL, e_4, if_pos c_5])]
      exact ih (k + 1) s_3 μ H locs ls (by omega) hH (lv_sub hl [1, 2, 0] rfl)
    · refine lv_iload_n hx hb dX3_first_34 rfl (lv_at hl 2 rfl) ?_
      exact x_iretX F hr hlk hH (by simp only [firstL, e_4, if_neg c_5]) dX3_first_35
def f_X3_first (σ : St) (worth : Int32) : Int32 × St :=
  if (f_X3_isUpTo worth 10000) = 0 then
    ((-1), σ)
  else
    firstL worth 8 0 σ
set_option maxRecDepth 100000 in
set_option maxHeartbeats 4000000 in
theorem c_X3_first (l : Launch) {E : EV} (hA : AD E) (σ μ : St) (worth : Int32) : Met l yX3_first (.code yX3_first cX3_first 3 (some .int) :: gtbl) (rmL 4) (va_Pc [.ref (ea E 0), .int worth] (PR E σ μ)) (QI E (f_X3_first σ worth).1 (f_X3_first σ worth).2 μ) 0 0 (eA E) := by
  refine x_met (own := RX3) (by decide) rfl hA (Nat.le_of_ble_eq_true rfl) ?_
  intro p e s m below meth c ls F hr hlk hH hl
  have hl : lv_has ls 3 [(0, .ref (ea E 0)), (1, .int worth)] := hl
  have hx := F.hx
  have hb := F.hb
  refine lv_iload_n hx hb dX3_first_0 rfl (lv_at hl 1 rfl) ?_
  refine lv_sipush (v := 10000) hx hb dX3_first_1 (by decide) ?_
  refine x_pure hx hb F.hml F.hown F.hts (c_X3_isUpTo l worth 10000) cw_X3_48 rfl rfl ⟨Nat.le_of_ble_eq_true rfl, Nat.le_of_ble_eq_true rfl⟩ rfl hl.1 rfl (Nat.le_of_ble_eq_true rfl) ⟨Nat.zero_le _, Nat.zero_le _⟩ dX3_first_4 ?_
  refine lv_if_ne (tgt := 12) hx hb dX3_first_7 (by decide) (fun c_1 => ?_) (fun c_1 => ?_)
  · refine lv_iconst (v := 0) hx hb dX3_first_12 (by decide) ?_
    refine lv_istore_n (lv' := [(2, .int 0), (0, .ref (ea E 0)), (1, .int worth)]) hx hb dX3_first_13 rfl hl (by decide) rfl (fun ls hl => ?_)
    rw [show f_X3_first σ worth = firstL worth 8 0 σ from (by simp only [f_X3_first, if_neg c_1])]
    exact lp_X3_first F hr hlk worth 8 0 σ μ _ _ ls (by omega) hH (lv_sub hl [1, 2, 0] rfl)
  · refine lv_iconst (v := -1) hx hb dX3_first_10 (by decide) ?_
    exact x_iretX F hr hlk hH (by simp only [f_X3_first, if_pos c_1]) dX3_first_11
set_option maxRecDepth 100000 in
set_option maxHeartbeats 4000000 in
theorem lp_X3_readRow {p : Program} {l : Launch} {e : Env} {s : State} {m : MethodId} {args : Array Value} {below : List Frame} {meth : Method} {c : Code} {E : EV} (F : Fx E p s m args c cX3_readRow RX3 6) (hr : meth.sig.returnType = some .int) (hlk : meth.locks = false) (len : Nat) : ∀ (n : Nat) (rest : Int32) (σ μ : St) (H : Heap) (locs : List Loc) (ls : Array Slot), n ≤ 6 → HS E s σ μ H locs → lv_has ls 6 [(0, .ref (ea E 0)), (2, .int (nI len)), (3, .int rest), (4, .int (nI n + (-1)))] → W p l e (rmL 1) s m args below meth c H locs 0 0 (MQ below (QI E (rrL len n rest σ).1 (rrL len n rest σ).2 μ) args s 0 0 (eA E)) (F0 m 23 ls []) := by
  have hx := F.hx
  have hb := F.hb
  intro n
  induction n with
  | zero =>
    intro rest σ μ H locs ls hn hH hl
    refine lv_iload hx hb dX3_readRow_23 (lv_at hl 3 rfl) ?_
    refine lv_if_lt (tgt := 64) hx hb dX3_readRow_25 (by decide) (fun _ => ?_) (fun c_1 => absurd (by decide) c_1)
    refine lv_iload_n hx hb dX3_readRow_64 rfl (lv_at hl 1 rfl) ?_
    exact x_iretX F hr hlk hH (by simp only [rrL]) dX3_readRow_65
  | succ n ih =>
    intro rest σ μ H locs ls hn hH hl
    rw [pk_m1] at hl
    refine lv_iload hx hb dX3_readRow_23 (lv_at hl 3 rfl) ?_
    refine lv_if_lt (tgt := 64) hx hb dX3_readRow_25 (by decide) (fun c_1 => absurd c_1 (nI_pos (by omega))) (fun _ => ?_)
    refine lv_iload_n hx hb dX3_readRow_28 rfl (lv_at hl 2 rfl) ?_
    refine lv_bipush (v := 10) hx hb dX3_readRow_29 (by decide) ?_
    refine lv_irem hx hb dX3_readRow_31 (by decide) ?_
    refine lv_istore (lv' := [(5, .int (rest - rest / 10 * 10)), (0, .ref (ea E 0)), (2, .int (nI len)), (3, .int rest), (4, .int (nI n))]) hx hb dX3_readRow_32 hl (by decide) rfl (fun ls hl => ?_)
    refine lv_iload hx hb dX3_readRow_34 (lv_at hl 0 rfl) ?_
    refine x_pure hx hb F.hml F.hown F.hts (c_X3_isTill l (rest - rest / 10 * 10)) cw_X3_44 rfl rfl ⟨Nat.le_of_ble_eq_true rfl, Nat.le_of_ble_eq_true rfl⟩ rfl hl.1 rfl (Nat.le_of_ble_eq_true rfl) ⟨Nat.zero_le _, Nat.zero_le _⟩ dX3_readRow_36 ?_
    refine lv_if_ne (tgt := 44) hx hb dX3_readRow_39 (by decide) (fun c_2 => ?_) (fun c_2 => ?_)
    · refine lv_aload_n hx hb dX3_readRow_44 rfl (lv_at hl 1 rfl) ?_
      refine g_X3_places F hH kw_104 dX3_readRow_45 ?_
      refine lv_iload hx hb dX3_readRow_48 (lv_at hl 4 rfl) ?_
      refine lv_iload hx hb dX3_readRow_50 (lv_at hl 0 rfl) ?_
      refine s_places F hH n (by omega) dX3_readRow_52 (fun H locs hH => ?_)
      refine lv_iload_n hx hb dX3_readRow_53 rfl (lv_at hl 3 rfl) ?_
      refine lv_bipush (v := 10) hx hb dX3_readRow_54 (by decide) ?_
      refine lv_idiv hx hb dX3_readRow_56 (by decide) ?_
      refine lv_istore_n (lv' := [(3, .int (rest / 10)), (5, .int (rest - rest / 10 * 10)), (0, .ref (ea E 0)), (2, .int (nI len)), (4, .int (nI n))]) hx hb dX3_readRow_57 rfl hl (by decide) rfl (fun ls hl => ?_)
      refine lv_iinc (v := (nI n) + (-1)) (lv' := [(4, .int ((nI n) + (-1))), (3, .int (rest / 10)), (5, .int (rest - rest / 10 * 10)), (0, .ref (ea E 0)), (2, .int (nI len))]) hx hb dX3_readRow_58 hl (k := 4) rfl rfl (by decide) rfl (fun ls hl => ?_)
      refine lv_goto (tgt := 23) hx hb dX3_readRow_61 (by decide) ?_
      rw [show rrL len (n + 1) rest σ = rrL len n (rest / 10) (up σ 21 n (rest - rest / 10 * 10)) from (by simp only [rrL, if_neg c_2])]
      exact ih (rest / 10) (up σ 21 n (rest - rest / 10 * 10)) μ H locs ls (by omega) hH (lv_sub hl [3, 4, 1, 0] rfl)
    · refine lv_iconst (v := -1) hx hb dX3_readRow_42 (by decide) ?_
      exact x_iretX F hr hlk hH (by simp only [rrL, if_pos c_2]) dX3_readRow_43
def f_X3_readRow (σ : St) (row : Int32) : Int32 × St :=
  if (f_X3_isUpTo row 777777) = 0 then
    ((-1), σ)
  else
    rrL (dgL row 5 1 10) (dgL row 5 1 10) row σ
set_option maxRecDepth 100000 in
set_option maxHeartbeats 4000000 in
theorem c_X3_readRow (l : Launch) {E : EV} (hA : AD E) (σ μ : St) (row : Int32) : Met l yX3_readRow (.code yX3_readRow cX3_readRow 6 (some .int) :: gtbl) (rmL 1) (va_Pc [.ref (ea E 0), .int row] (PR E σ μ)) (QI E (f_X3_readRow σ row).1 (f_X3_readRow σ row).2 μ) 0 0 (eA E) := by
  refine x_met (own := RX3) (by decide) rfl hA (Nat.le_of_ble_eq_true rfl) ?_
  intro p e s m below meth c ls F hr hlk hH hl
  have hl : lv_has ls 6 [(0, .ref (ea E 0)), (1, .int row)] := hl
  have hx := F.hx
  have hb := F.hb
  refine lv_iload_n hx hb dX3_readRow_0 rfl (lv_at hl 1 rfl) ?_
  refine lv_ldc (v := 777777) hx hb F.hown (F.hts _ kw_222) dX3_readRow_1 ?_
  refine x_pure hx hb F.hml F.hown F.hts (c_X3_isUpTo l row 777777) cw_X3_48 rfl rfl ⟨Nat.le_of_ble_eq_true rfl, Nat.le_of_ble_eq_true rfl⟩ rfl hl.1 rfl (Nat.le_of_ble_eq_true rfl) ⟨Nat.zero_le _, Nat.zero_le _⟩ dX3_readRow_3 ?_
  refine lv_if_ne (tgt := 11) hx hb dX3_readRow_6 (by decide) (fun c_1 => ?_) (fun c_1 => ?_)
  · refine lv_iload_n hx hb dX3_readRow_11 rfl (lv_at hl 1 rfl) ?_
    refine x_pure hx hb F.hml F.hown F.hts (c_X3_digitsOf l row) cw_X3_161 rfl rfl ⟨Nat.le_of_ble_eq_true rfl, Nat.le_of_ble_eq_true rfl⟩ rfl hl.1 rfl (Nat.le_of_ble_eq_true rfl) ⟨Nat.zero_le _, Nat.zero_le _⟩ dX3_readRow_12 ?_
    refine lv_istore_n (lv' := [(2, .int (nI (dgL row 5 1 10))), (0, .ref (ea E 0)), (1, .int row)]) hx hb dX3_readRow_15 rfl hl (by decide) rfl (fun ls hl => ?_)
    refine lv_iload_n hx hb dX3_readRow_16 rfl (lv_at hl 2 rfl) ?_
    refine lv_istore_n (lv' := [(3, .int row), (2, .int (nI (dgL row 5 1 10))), (0, .ref (ea E 0)), (1, .int row)]) hx hb dX3_readRow_17 rfl hl (by decide) rfl (fun ls hl => ?_)
    refine lv_iload_n hx hb dX3_readRow_18 rfl (lv_at hl 1 rfl) ?_
    refine lv_iconst (v := 1) hx hb dX3_readRow_19 (by decide) ?_
    refine lv_isub hx hb dX3_readRow_20 ?_
    refine x_top (nI_sub1 (dgL row 5 1 10)) ?_
    refine lv_istore (lv' := [(4, .int (nI (dgL row 5 1 10) + (-1))), (3, .int row), (2, .int (nI (dgL row 5 1 10))), (0, .ref (ea E 0)), (1, .int row)]) hx hb dX3_readRow_21 hl (by decide) rfl (fun ls hl => ?_)
    have hdg := dgL_le row 5 1 10
    rw [show f_X3_readRow σ row = rrL (dgL row 5 1 10) (dgL row 5 1 10) row σ from (by simp only [f_X3_readRow, if_neg c_1])]
    exact lp_X3_readRow F hr hlk (dgL row 5 1 10) (dgL row 5 1 10) row σ μ _ _ ls (by omega) hH (lv_sub hl [3, 2, 1, 0] rfl)
  · refine lv_iconst (v := -1) hx hb dX3_readRow_9 (by decide) ?_
    exact x_iretX F hr hlk hH (by simp only [f_X3_readRow, if_pos c_1]) dX3_readRow_10
end
section
theorem becL_row {j i r : Nat} (h : r ≠ j) : ∀ (n k : Nat) (σ : St), becL j i n k σ r = σ r := by
  intro n
  induction n with
  | zero => intro k σ; rfl
  | succ n ih => intro k σ; rw [becL, ih, up_row h]
theorem addL_row {j i r : Nat} (h : r ≠ j) : ∀ (n k : Nat) (σ : St), addL j i n k σ r = σ r := by
  intro n
  induction n with
  | zero => intro k σ; rfl
  | succ n ih => intro k σ; rw [addL, ih, up_row h]
theorem remL_row {j i r : Nat} (h : r ≠ j) : ∀ (n k : Nat) (σ : St), remL j i n k σ r = σ r := by
  intro n
  induction n with
  | zero => intro k σ; rfl
  | succ n ih => intro k σ; rw [remL, ih, up_row h]
theorem clrL_row {j r : Nat} (h : r ≠ j) : ∀ (n k : Nat) (σ : St), clrL j n k σ r = σ r := by
  intro n
  induction n with
  | zero => intro k σ; rfl
  | succ n ih => intro k σ; rw [clrL, ih, up_row h]
theorem pickL_row {t r : Nat} (h : r ≠ 9) : ∀ (n : Nat) (rest : Int32) (σ : St), (pickL t n rest σ).2 r = σ r := by
  intro n
  induction n with
  | zero => intro k σ; rfl
  | succ n ih => intro k σ; rw [pickL, ih, up_row h]
theorem X3_begin_21 {σ s1 : St} {t : Nat} {r : Int32} (e : f_X3_begin σ t = (r, s1)) : s1 21 = σ 21 := by
  unfold f_X3_begin f_X1_begin at e
  split at e <;> cases e <;> simp [up_row]
theorem X3_end_21 {σ s1 : St} {x r : Int32} (e : f_X3_end σ x = (r, s1)) : s1 21 = σ 21 := by
  unfold f_X3_end f_X1_end at e
  split at e <;> cases e <;> (try split) <;> simp [up_row]
theorem X3_pick_row {σ s1 : St} {t : Nat} {w r : Int32} (e : f_X3_pick σ t w = (r, s1)) {q : Nat} (hq : q ≠ 9) : s1 q = σ q := by
  have h := pickL_row (t := t) hq 5 w σ
  unfold f_X3_pick at e
  generalize pickL t 5 w σ = P at h e
  obtain ⟨a, b⟩ := P
  dsimp only at e h
  split at e <;> cases e <;> exact h
theorem X3_pay_21 {σ s1 : St} {t : Nat} (ht : t < 8) {w r : Int32} (e : f_X3_pay σ t w = (r, s1)) : s1 21 = σ 21 := by
  unfold f_X3_pay at e
  split at e
  · cases h : f_X3_pick σ t w with
    | mk a b =>
      have hb := X3_pick_row h (q := 21) (by omega)
      rw [h] at e
      dsimp only at e
      split at e <;> cases e
      · exact hb
      · rw [addL_row (by omega), remL_row (by omega)]; exact hb
  · cases e; rfl
theorem X3_layPicked_21 {σ s1 : St} {t : Nat} (ht : t < 8) {r : Int32} (e : f_X3_layPicked σ t = (r, s1)) : s1 21 = σ 21 := by
  unfold f_X3_layPicked at e
  split at e
  · split at e <;> cases e
    · rfl
    · rw [addL_row (by omega), remL_row (by omega)]
  · cases e; rfl
def f_X3_count (σ : St) (what : Int32) : Int32 :=
  if what = 0 then
    σ 20 0
  else
    if what = 1 then
      σ 20 1
    else
      if what = 2 then
        σ 20 3
      else
        if what = 3 then
          thereL σ 8 0 0
        else
          (-1)
set_option maxRecDepth 100000 in
set_option maxHeartbeats 4000000 in
theorem c_X3_count (l : Launch) {E : EV} (hA : AD E) (σ μ : St) (what : Int32) : Met l yX3_count (.code yX3_count cX3_count 2 (some .int) :: gtbl) (rmL 1) (va_Pc [.ref (ea E 0), .int what] (PR E σ μ)) (QI E (f_X3_count σ what) σ μ) 0 0 (eA E) := by
  refine x_met (own := RX3) (by decide) rfl hA (Nat.le_of_ble_eq_true rfl) ?_
  intro p e s m below meth c ls F hr hlk hH hl
  have hl : lv_has ls 2 [(0, .ref (ea E 0)), (1, .int what)] := hl
  have hx := F.hx
  have hb := F.hb
  refine lv_iload_n hx hb dX3_count_0 rfl (lv_at hl 1 rfl) ?_
  by_cases h0 : what = 0
  · refine lv_tableIn (off := 31) (tgt := 32) hx hb dX3_count_1 (by rw [h0]; decide) (by rw [h0]; decide) (by rw [h0]; rfl) (by decide) ?_
    refine lv_aload_n hx hb dX3_count_32 rfl (lv_at hl 0 rfl) ?_
    refine g_X3_holds F hH kw_100 dX3_count_33 ?_
    refine g_X1_begun F hH kw_82 dX3_count_36 ?_
    exact x_iretR F hr hlk hH (by simp only [f_X3_count, if_pos h0]) dX3_count_39
  ·
    by_cases h1 : what = 1
    · refine lv_tableIn (off := 39) (tgt := 40) hx hb dX3_count_1 (by rw [h1]; decide) (by rw [h1]; decide) (by rw [h1]; rfl) (by decide) ?_
      refine lv_aload_n hx hb dX3_count_40 rfl (lv_at hl 0 rfl) ?_
      refine g_X3_holds F hH kw_100 dX3_count_41 ?_
      refine g_X1_left F hH kw_84 dX3_count_44 ?_
      exact x_iretR F hr hlk hH (by simp only [f_X3_count, if_neg h0, if_pos h1]) dX3_count_47
    ·
      by_cases h2 : what = 2
      · refine lv_tableIn (off := 47) (tgt := 48) hx hb dX3_count_1 (by rw [h2]; decide) (by rw [h2]; decide) (by rw [h2]; rfl) (by decide) ?_
        refine lv_aload_n hx hb dX3_count_48 rfl (lv_at hl 0 rfl) ?_
        refine g_X3_holds F hH kw_100 dX3_count_49 ?_
        refine g_X1_deepest F hH kw_87 dX3_count_52 ?_
        exact x_iretR F hr hlk hH (by simp only [f_X3_count, if_neg h0, if_neg h1, if_pos h2]) dX3_count_55
      ·
        by_cases h3 : what = 3
        · refine lv_tableIn (off := 55) (tgt := 56) hx hb dX3_count_1 (by rw [h3]; decide) (by rw [h3]; decide) (by rw [h3]; rfl) (by decide) ?_
          refine lv_aload_n hx hb dX3_count_56 rfl (lv_at hl 0 rfl) ?_
          refine x_calliR F hH 0 (F.lt (by omega)) (vv0 (by decide)) rfl (c_X3_tillsThere l F.ad σ μ ) cw_X3_130 rfl rfl ⟨Nat.le_of_ble_eq_true rfl, Nat.le_of_ble_eq_true rfl⟩ rfl hl.1 rfl (Nat.le_of_ble_eq_true rfl) ⟨Nat.zero_le _, Nat.zero_le _⟩ dX3_count_57 (fun H locs hH => ?_)
          exact x_iretR F hr hlk hH (by simp only [f_X3_count, if_neg h0, if_neg h1, if_neg h2, if_pos h3]) dX3_count_60
        ·
          refine lv_tableOut (tgt := 61) hx hb dX3_count_1 (by have a0 := lv_neT h0 (a := 0) rfl; have a1 := lv_neT h1 (a := 1) rfl; have a2 := lv_neT h2 (a := 2) rfl; have a3 := lv_neT h3 (a := 3) rfl; omega) (by decide) ?_
          refine lv_iconst (v := -1) hx hb dX3_count_61 (by decide) ?_
          exact x_iretR F hr hlk hH (by simp only [f_X3_count, if_neg h0, if_neg h1, if_neg h2, if_neg h3]) dX3_count_62
def passW (len : Nat) (worth back : Int32) (rc : St → Nat → Int32 × St) (σ : St) (t pl : Nat) : Int32 × St :=
  if (nI pl) = 0 then
    if (nI pl) = (nI len + (-1)) then
      match f_X3_pay σ t worth with
      | (r_52, s_53) =>
        if 0 ≤ r_52 then
          match rc s_53 (pl + 1) with
          | (r_56, s_57) =>
            (r_56, s_57)
        else
          (r_52, s_53)
    else
      match f_X3_pay σ t worth with
      | (r_42, s_43) =>
        if 0 ≤ r_42 then
          match rc s_43 (pl + 1) with
          | (r_46, s_47) =>
            (r_46, s_47)
        else
          (r_42, s_43)
  else
    if (nI pl) = (nI len + (-1)) then
      match f_X3_layPicked σ t with
      | (r_23, s_24) =>
        if r_23 < 0 then
          if 0 ≤ r_23 then
            match rc s_24 (pl + 1) with
            | (r_28, s_29) =>
              (r_28, s_29)
          else
            (r_23, s_24)
        else
          if 0 ≤ r_23 then
            match rc s_24 (pl + 1) with
            | (r_34, s_35) =>
              (r_34, s_35)
          else
            (r_23, s_24)
    else
      match f_X3_layPicked σ t with
      | (r_5, s_6) =>
        if r_5 < 0 then
          if 0 ≤ r_5 then
            match rc s_6 (pl + 1) with
            | (r_10, s_11) =>
              (r_10, s_11)
          else
            (r_5, s_6)
        else
          match f_X3_pay s_6 t worth with
          | (r_15, s_16) =>
            if 0 ≤ r_15 then
              match rc s_16 (pl + 1) with
              | (r_19, s_20) =>
                (r_19, s_20)
            else
              (r_15, s_16)
set_option maxRecDepth 100000 in
set_option maxHeartbeats 4000000 in
theorem c_X3_passWithin (l : Launch) {E : EV} (hA : AD E) (len : Nat) (worth back : Int32) (hlen : len < 7) (pr : Nat → Int32) (n : Nat) (rc : St → Nat → Int32 × St) (pl : Nat) (hpl : pl < 6) (hrec : ∀ (σ μ : St), σ 21 = pr → Met l yX3_passFrom (.code yX3_passFrom cX3_passFrom 7 (some .int) :: gtbl) (rmL (20 + 2 * n)) (va_Pc [.ref (ea E 0), .int (nI (pl + 1)), .int (nI len), .int worth, .int (bz back)] (PR E σ μ)) (QI E (rc σ (pl + 1)).1 (rc σ (pl + 1)).2 μ) 0 0 (eA E)) (σ μ : St) (hσ : σ 21 = pr) (t : Nat) (ht : t < 8) : Met l yX3_passWithin (.code yX3_passWithin cX3_passWithin 9 (some .int) :: gtbl) (rmL (21 + 2 * n)) (va_Pc [.ref (ea E 0), .ref (ea E (5 + t)), .int (nI pl), .int (nI len), .int worth, .int (bz back)] (PR E σ μ)) (QI E (passW len worth back rc σ t pl).1 (passW len worth back rc σ t pl).2 μ) 0 0 (eA E) := by
  refine x_met (own := RX3) (by decide) rfl hA (Nat.le_of_ble_eq_true rfl) ?_
  intro p e s m below meth c ls F hr hlk hH hl
  have hl : lv_has ls 9 [(0, .ref (ea E 0)), (1, .ref (ea E (5 + t))), (2, .int (nI pl)), (3, .int (nI len)), (4, .int worth), (5, .int (bz back))] := hl
  have hx := F.hx
  have hb := F.hb
  refine lv_iload_n hx hb dX3_passWithin_0 rfl (lv_at hl 2 rfl) ?_
  refine lv_if_ne (tgt := 8) hx hb dX3_passWithin_1 (by decide) (fun c_1 => ?_) (fun c_1 => ?_)
  · have q_2 := mt (fq_eq (a := pl) (b := 0) rfl (by omega) (by omega)).mpr c_1
    refine lv_iconst (v := 0) hx hb dX3_passWithin_8 (by decide) ?_
    refine lv_istore (lv' := [(6, .int 0), (0, .ref (ea E 0)), (1, .ref (ea E (5 + t))), (2, .int (nI pl)), (3, .int (nI len)), (4, .int worth), (5, .int (bz back))]) hx hb dX3_passWithin_9 hl (by decide) rfl (fun ls hl => ?_)
    refine lv_iload_n hx hb dX3_passWithin_11 rfl (lv_at hl 3 rfl) ?_
    refine lv_iload_n hx hb dX3_passWithin_12 rfl (lv_at hl 4 rfl) ?_
    refine lv_iconst (v := 1) hx hb dX3_passWithin_13 (by decide) ?_
    refine lv_isub hx hb dX3_passWithin_14 ?_
    refine x_top (nI_sub1 len) ?_
    refine lv_icmp_ne (tgt := 22) hx hb dX3_passWithin_15 (by decide) (fun c_3 => ?_) (fun c_3 => ?_)
    · refine lv_iconst (v := 0) hx hb dX3_passWithin_22 (by decide) ?_
      refine lv_istore (lv' := [(7, .int 0), (6, .int 0), (0, .ref (ea E 0)), (1, .ref (ea E (5 + t))), (2, .int (nI pl)), (3, .int (nI len)), (4, .int worth), (5, .int (bz back))]) hx hb dX3_passWithin_23 hl (by decide) rfl (fun ls hl => ?_)
      refine lv_iload hx hb dX3_passWithin_25 (lv_at hl 1 rfl) ?_
      refine lv_if_eq (tgt := 34) hx hb dX3_passWithin_27 (by decide) (fun _ => ?_) (fun c_4 => absurd (by decide) c_4)
      refine lv_aload_n hx hb dX3_passWithin_34 rfl (lv_at hl 2 rfl) ?_
      refine lv_aload_n hx hb dX3_passWithin_35 rfl (lv_at hl 3 rfl) ?_
      refine x_calliX F hH 0 (F.lt (by omega)) (vv0 (by decide)) rfl (c_X3_layPicked l F.ad σ μ t (by omega)) cw_X3_87 rfl rfl ⟨(show 2 + 1 ≤ 21 + 2 * n by omega), (show 8 + (2 + 11) + 40 * (2) ≤ 40 * (21 + 2 * n) by omega)⟩ rfl hl.1 rfl (Nat.le_of_ble_eq_true rfl) ⟨Nat.zero_le _, Nat.zero_le _⟩ dX3_passWithin_36 (fun r_5 s_6 H locs e_7 hH => ?_)
      have z1 : s_6 21 = pr := (X3_layPicked_21 (by omega) e_7).trans hσ
      refine lv_istore (lv' := [(8, .int r_5), (7, .int 0), (6, .int 0), (0, .ref (ea E 0)), (1, .ref (ea E (5 + t))), (2, .int (nI pl)), (3, .int (nI len)), (4, .int worth), (5, .int (bz back))]) hx hb dX3_passWithin_39 hl (by decide) rfl (fun ls hl => ?_)
      refine lv_iload hx hb dX3_passWithin_41 (lv_at hl 0 rfl) ?_
      refine lv_if_lt (tgt := 65) hx hb dX3_passWithin_43 (by decide) (fun c_8 => ?_) (fun c_8 => ?_)
      · refine lv_iload hx hb dX3_passWithin_65 (lv_at hl 0 rfl) ?_
        refine lv_if_ge (tgt := 75) hx hb dX3_passWithin_67 (by decide) (fun c_9 => ?_) (fun c_9 => ?_)
        · refine lv_aload_n hx hb dX3_passWithin_75 rfl (lv_at hl 3 rfl) ?_
          refine lv_iload_n hx hb dX3_passWithin_76 rfl (lv_at hl 5 rfl) ?_
          refine lv_iconst (v := 1) hx hb dX3_passWithin_77 (by decide) ?_
          refine lv_iadd hx hb dX3_passWithin_78 ?_
          refine x_top (nI_add pl 1) ?_
          refine lv_iload_n hx hb dX3_passWithin_79 rfl (lv_at hl 6 rfl) ?_
          refine lv_iload hx hb dX3_passWithin_80 (lv_at hl 7 rfl) ?_
          refine lv_iload hx hb dX3_passWithin_82 (lv_at hl 8 rfl) ?_
          refine x_calliX F hH 0 (F.lt (by omega)) (vv0 (by decide)) rfl (hrec s_6 μ z1) cw_X3_105 rfl rfl ⟨(show 20 + 2 * n + 1 ≤ 21 + 2 * n by omega), (show 8 + (7 + 11) + 40 * (20 + 2 * n) ≤ 40 * (21 + 2 * n) by omega)⟩ rfl hl.1 rfl (Nat.le_of_ble_eq_true rfl) ⟨Nat.zero_le _, Nat.zero_le _⟩ dX3_passWithin_84 (fun r_10 s_11 H locs e_12 hH => ?_)
          exact x_iretX F hr hlk hH (by simp only [passW, if_neg c_1, if_neg c_3, e_7, if_pos c_8, if_pos c_9, e_12]) dX3_passWithin_87
        · refine lv_iload hx hb dX3_passWithin_70 (lv_at hl 0 rfl) ?_
          refine lv_goto (tgt := 87) hx hb dX3_passWithin_72 (by decide) ?_
          exact x_iretX F hr hlk hH (by simp only [passW, if_neg c_1, if_neg c_3, e_7, if_pos c_8, if_neg c_9]) dX3_passWithin_87
      · refine lv_iload hx hb dX3_passWithin_46 (lv_at hl 2 rfl) ?_
        refine lv_if_ne (tgt := 56) hx hb dX3_passWithin_48 (by decide) (fun c_13 => absurd (by decide) c_13) (fun _ => ?_)
        refine lv_iload hx hb dX3_passWithin_51 (lv_at hl 1 rfl) ?_
        refine lv_if_ne (tgt := 65) hx hb dX3_passWithin_53 (by decide) (fun c_14 => absurd (by decide) c_14) (fun _ => ?_)
        refine lv_aload_n hx hb dX3_passWithin_56 rfl (lv_at hl 3 rfl) ?_
        refine lv_aload_n hx hb dX3_passWithin_57 rfl (lv_at hl 4 rfl) ?_
        refine lv_iload hx hb dX3_passWithin_58 (lv_at hl 7 rfl) ?_
        refine x_calliX F hH 0 (F.lt (by omega)) (vv0 (by decide)) rfl (c_X3_pay l F.ad s_6 μ t worth (by omega)) cw_X3_91 rfl rfl ⟨(show 2 + 1 ≤ 21 + 2 * n by omega), (show 8 + (3 + 11) + 40 * (2) ≤ 40 * (21 + 2 * n) by omega)⟩ rfl hl.1 rfl (Nat.le_of_ble_eq_true rfl) ⟨Nat.zero_le _, Nat.zero_le _⟩ dX3_passWithin_60 (fun r_15 s_16 H locs e_17 hH => ?_)
        have z3 : s_16 21 = pr := (X3_pay_21 (by omega) e_17).trans z1
        refine lv_istore (lv' := [(8, .int r_15), (7, .int 0), (6, .int 0), (0, .ref (ea E 0)), (1, .ref (ea E (5 + t))), (2, .int (nI pl)), (3, .int (nI len)), (4, .int worth), (5, .int (bz back))]) hx hb dX3_passWithin_63 hl (by decide) rfl (fun ls hl => ?_)
        refine lv_iload hx hb dX3_passWithin_65 (lv_at hl 0 rfl) ?_
        refine lv_if_ge (tgt := 75) hx hb dX3_passWithin_67 (by decide) (fun c_18 => ?_) (fun c_18 => ?_)
        · refine lv_aload_n hx hb dX3_passWithin_75 rfl (lv_at hl 3 rfl) ?_
          refine lv_iload_n hx hb dX3_passWithin_76 rfl (lv_at hl 5 rfl) ?_
          refine lv_iconst (v := 1) hx hb dX3_passWithin_77 (by decide) ?_
          refine lv_iadd hx hb dX3_passWithin_78 ?_
          refine x_top (nI_add pl 1) ?_
          refine lv_iload_n hx hb dX3_passWithin_79 rfl (lv_at hl 6 rfl) ?_
          refine lv_iload hx hb dX3_passWithin_80 (lv_at hl 7 rfl) ?_
          refine lv_iload hx hb dX3_passWithin_82 (lv_at hl 8 rfl) ?_
          refine x_calliX F hH 0 (F.lt (by omega)) (vv0 (by decide)) rfl (hrec s_16 μ z3) cw_X3_105 rfl rfl ⟨(show 20 + 2 * n + 1 ≤ 21 + 2 * n by omega), (show 8 + (7 + 11) + 40 * (20 + 2 * n) ≤ 40 * (21 + 2 * n) by omega)⟩ rfl hl.1 rfl (Nat.le_of_ble_eq_true rfl) ⟨Nat.zero_le _, Nat.zero_le _⟩ dX3_passWithin_84 (fun r_19 s_20 H locs e_21 hH => ?_)
          exact x_iretX F hr hlk hH (by simp only [passW, if_neg c_1, if_neg c_3, e_7, if_neg c_8, e_17, if_pos c_18, e_21]) dX3_passWithin_87
        · refine lv_iload hx hb dX3_passWithin_70 (lv_at hl 0 rfl) ?_
          refine lv_goto (tgt := 87) hx hb dX3_passWithin_72 (by decide) ?_
          exact x_iretX F hr hlk hH (by simp only [passW, if_neg c_1, if_neg c_3, e_7, if_neg c_8, e_17, if_neg c_18]) dX3_passWithin_87
    · refine lv_iconst (v := 1) hx hb dX3_passWithin_18 (by decide) ?_
      refine lv_goto (tgt := 23) hx hb dX3_passWithin_19 (by decide) ?_
      refine lv_istore (lv' := [(7, .int 1), (6, .int 0), (0, .ref (ea E 0)), (1, .ref (ea E (5 + t))), (2, .int (nI pl)), (3, .int (nI len)), (4, .int worth), (5, .int (bz back))]) hx hb dX3_passWithin_23 hl (by decide) rfl (fun ls hl => ?_)
      refine lv_iload hx hb dX3_passWithin_25 (lv_at hl 1 rfl) ?_
      refine lv_if_eq (tgt := 34) hx hb dX3_passWithin_27 (by decide) (fun _ => ?_) (fun c_22 => absurd (by decide) c_22)
      refine lv_aload_n hx hb dX3_passWithin_34 rfl (lv_at hl 2 rfl) ?_
      refine lv_aload_n hx hb dX3_passWithin_35 rfl (lv_at hl 3 rfl) ?_
      refine x_calliX F hH 0 (F.lt (by omega)) (vv0 (by decide)) rfl (c_X3_layPicked l F.ad σ μ t (by omega)) cw_X3_87 rfl rfl ⟨(show 2 + 1 ≤ 21 + 2 * n by omega), (show 8 + (2 + 11) + 40 * (2) ≤ 40 * (21 + 2 * n) by omega)⟩ rfl hl.1 rfl (Nat.le_of_ble_eq_true rfl) ⟨Nat.zero_le _, Nat.zero_le _⟩ dX3_passWithin_36 (fun r_23 s_24 H locs e_25 hH => ?_)
      have z5 : s_24 21 = pr := (X3_layPicked_21 (by omega) e_25).trans hσ
      refine lv_istore (lv' := [(8, .int r_23), (7, .int 1), (6, .int 0), (0, .ref (ea E 0)), (1, .ref (ea E (5 + t))), (2, .int (nI pl)), (3, .int (nI len)), (4, .int worth), (5, .int (bz back))]) hx hb dX3_passWithin_39 hl (by decide) rfl (fun ls hl => ?_)
      refine lv_iload hx hb dX3_passWithin_41 (lv_at hl 0 rfl) ?_
      refine lv_if_lt (tgt := 65) hx hb dX3_passWithin_43 (by decide) (fun c_26 => ?_) (fun c_26 => ?_)
      · refine lv_iload hx hb dX3_passWithin_65 (lv_at hl 0 rfl) ?_
        refine lv_if_ge (tgt := 75) hx hb dX3_passWithin_67 (by decide) (fun c_27 => ?_) (fun c_27 => ?_)
        · refine lv_aload_n hx hb dX3_passWithin_75 rfl (lv_at hl 3 rfl) ?_
          refine lv_iload_n hx hb dX3_passWithin_76 rfl (lv_at hl 5 rfl) ?_
          refine lv_iconst (v := 1) hx hb dX3_passWithin_77 (by decide) ?_
          refine lv_iadd hx hb dX3_passWithin_78 ?_
          refine x_top (nI_add pl 1) ?_
          refine lv_iload_n hx hb dX3_passWithin_79 rfl (lv_at hl 6 rfl) ?_
          refine lv_iload hx hb dX3_passWithin_80 (lv_at hl 7 rfl) ?_
          refine lv_iload hx hb dX3_passWithin_82 (lv_at hl 8 rfl) ?_
          refine x_calliX F hH 0 (F.lt (by omega)) (vv0 (by decide)) rfl (hrec s_24 μ z5) cw_X3_105 rfl rfl ⟨(show 20 + 2 * n + 1 ≤ 21 + 2 * n by omega), (show 8 + (7 + 11) + 40 * (20 + 2 * n) ≤ 40 * (21 + 2 * n) by omega)⟩ rfl hl.1 rfl (Nat.le_of_ble_eq_true rfl) ⟨Nat.zero_le _, Nat.zero_le _⟩ dX3_passWithin_84 (fun r_28 s_29 H locs e_30 hH => ?_)
          exact x_iretX F hr hlk hH (by simp only [passW, if_neg c_1, if_pos c_3, e_25, if_pos c_26, if_pos c_27, e_30]) dX3_passWithin_87
        · refine lv_iload hx hb dX3_passWithin_70 (lv_at hl 0 rfl) ?_
          refine lv_goto (tgt := 87) hx hb dX3_passWithin_72 (by decide) ?_
          exact x_iretX F hr hlk hH (by simp only [passW, if_neg c_1, if_pos c_3, e_25, if_pos c_26, if_neg c_27]) dX3_passWithin_87
      · refine lv_iload hx hb dX3_passWithin_46 (lv_at hl 2 rfl) ?_
        refine lv_if_ne (tgt := 56) hx hb dX3_passWithin_48 (by decide) (fun c_31 => absurd (by decide) c_31) (fun _ => ?_)
        refine lv_iload hx hb dX3_passWithin_51 (lv_at hl 1 rfl) ?_
        refine lv_if_ne (tgt := 65) hx hb dX3_passWithin_53 (by decide) (fun _ => ?_) (fun c_32 => absurd c_32 (by decide))
        refine lv_iload hx hb dX3_passWithin_65 (lv_at hl 0 rfl) ?_
        refine lv_if_ge (tgt := 75) hx hb dX3_passWithin_67 (by decide) (fun c_33 => ?_) (fun c_33 => ?_)
        · refine lv_aload_n hx hb dX3_passWithin_75 rfl (lv_at hl 3 rfl) ?_
          refine lv_iload_n hx hb dX3_passWithin_76 rfl (lv_at hl 5 rfl) ?_
          refine lv_iconst (v := 1) hx hb dX3_passWithin_77 (by decide) ?_
          refine lv_iadd hx hb dX3_passWithin_78 ?_
          refine x_top (nI_add pl 1) ?_
          refine lv_iload_n hx hb dX3_passWithin_79 rfl (lv_at hl 6 rfl) ?_
          refine lv_iload hx hb dX3_passWithin_80 (lv_at hl 7 rfl) ?_
          refine lv_iload hx hb dX3_passWithin_82 (lv_at hl 8 rfl) ?_
          refine x_calliX F hH 0 (F.lt (by omega)) (vv0 (by decide)) rfl (hrec s_24 μ z5) cw_X3_105 rfl rfl ⟨(show 20 + 2 * n + 1 ≤ 21 + 2 * n by omega), (show 8 + (7 + 11) + 40 * (20 + 2 * n) ≤ 40 * (21 + 2 * n) by omega)⟩ rfl hl.1 rfl (Nat.le_of_ble_eq_true rfl) ⟨Nat.zero_le _, Nat.zero_le _⟩ dX3_passWithin_84 (fun r_34 s_35 H locs e_36 hH => ?_)
          exact x_iretX F hr hlk hH (by simp only [passW, if_neg c_1, if_pos c_3, e_25, if_neg c_26, if_pos c_33, e_36]) dX3_passWithin_87
        · refine lv_iload hx hb dX3_passWithin_70 (lv_at hl 0 rfl) ?_
          refine lv_goto (tgt := 87) hx hb dX3_passWithin_72 (by decide) ?_
          exact x_iretX F hr hlk hH (by simp only [passW, if_neg c_1, if_pos c_3, e_25, if_neg c_26, if_neg c_33]) dX3_passWithin_87
  · have q_37 := (fq_eq (a := pl) (b := 0) rfl (by omega) (by omega)).mp c_1
    refine lv_iconst (v := 1) hx hb dX3_passWithin_4 (by decide) ?_
    refine lv_goto (tgt := 9) hx hb dX3_passWithin_5 (by decide) ?_
    refine lv_istore (lv' := [(6, .int 1), (0, .ref (ea E 0)), (1, .ref (ea E (5 + t))), (2, .int (nI pl)), (3, .int (nI len)), (4, .int worth), (5, .int (bz back))]) hx hb dX3_passWithin_9 hl (by decide) rfl (fun ls hl => ?_)
    refine lv_iload_n hx hb dX3_passWithin_11 rfl (lv_at hl 3 rfl) ?_
    refine lv_iload_n hx hb dX3_passWithin_12 rfl (lv_at hl 4 rfl) ?_
    refine lv_iconst (v := 1) hx hb dX3_passWithin_13 (by decide) ?_
    refine lv_isub hx hb dX3_passWithin_14 ?_
    refine x_top (nI_sub1 len) ?_
    refine lv_icmp_ne (tgt := 22) hx hb dX3_passWithin_15 (by decide) (fun c_38 => ?_) (fun c_38 => ?_)
    · refine lv_iconst (v := 0) hx hb dX3_passWithin_22 (by decide) ?_
      refine lv_istore (lv' := [(7, .int 0), (6, .int 1), (0, .ref (ea E 0)), (1, .ref (ea E (5 + t))), (2, .int (nI pl)), (3, .int (nI len)), (4, .int worth), (5, .int (bz back))]) hx hb dX3_passWithin_23 hl (by decide) rfl (fun ls hl => ?_)
      refine lv_iload hx hb dX3_passWithin_25 (lv_at hl 1 rfl) ?_
      refine lv_if_eq (tgt := 34) hx hb dX3_passWithin_27 (by decide) (fun c_39 => absurd c_39 (by decide)) (fun _ => ?_)
      refine lv_iconst (v := 0) hx hb dX3_passWithin_30 (by decide) ?_
      refine lv_goto (tgt := 39) hx hb dX3_passWithin_31 (by decide) ?_
      refine lv_istore (lv' := [(8, .int 0), (7, .int 0), (6, .int 1), (0, .ref (ea E 0)), (1, .ref (ea E (5 + t))), (2, .int (nI pl)), (3, .int (nI len)), (4, .int worth), (5, .int (bz back))]) hx hb dX3_passWithin_39 hl (by decide) rfl (fun ls hl => ?_)
      refine lv_iload hx hb dX3_passWithin_41 (lv_at hl 0 rfl) ?_
      refine lv_if_lt (tgt := 65) hx hb dX3_passWithin_43 (by decide) (fun c_40 => absurd c_40 (by decide)) (fun _ => ?_)
      refine lv_iload hx hb dX3_passWithin_46 (lv_at hl 2 rfl) ?_
      refine lv_if_ne (tgt := 56) hx hb dX3_passWithin_48 (by decide) (fun _ => ?_) (fun c_41 => absurd c_41 (by decide))
      refine lv_aload_n hx hb dX3_passWithin_56 rfl (lv_at hl 3 rfl) ?_
      refine lv_aload_n hx hb dX3_passWithin_57 rfl (lv_at hl 4 rfl) ?_
      refine lv_iload hx hb dX3_passWithin_58 (lv_at hl 7 rfl) ?_
      refine x_calliX F hH 0 (F.lt (by omega)) (vv0 (by decide)) rfl (c_X3_pay l F.ad σ μ t worth (by omega)) cw_X3_91 rfl rfl ⟨(show 2 + 1 ≤ 21 + 2 * n by omega), (show 8 + (3 + 11) + 40 * (2) ≤ 40 * (21 + 2 * n) by omega)⟩ rfl hl.1 rfl (Nat.le_of_ble_eq_true rfl) ⟨Nat.zero_le _, Nat.zero_le _⟩ dX3_passWithin_60 (fun r_42 s_43 H locs e_44 hH => ?_)
      have z8 : s_43 21 = pr := (X3_pay_21 (by omega) e_44).trans hσ
      refine lv_istore (lv' := [(8, .int r_42), (7, .int 0), (6, .int 1), (0, .ref (ea E 0)), (1, .ref (ea E (5 + t))), (2, .int (nI pl)), (3, .int (nI len)), (4, .int worth), (5, .int (bz back))]) hx hb dX3_passWithin_63 hl (by decide) rfl (fun ls hl => ?_)
      refine lv_iload hx hb dX3_passWithin_65 (lv_at hl 0 rfl) ?_
      refine lv_if_ge (tgt := 75) hx hb dX3_passWithin_67 (by decide) (fun c_45 => ?_) (fun c_45 => ?_)
      · refine lv_aload_n hx hb dX3_passWithin_75 rfl (lv_at hl 3 rfl) ?_
        refine lv_iload_n hx hb dX3_passWithin_76 rfl (lv_at hl 5 rfl) ?_
        refine lv_iconst (v := 1) hx hb dX3_passWithin_77 (by decide) ?_
        refine lv_iadd hx hb dX3_passWithin_78 ?_
        refine x_top (nI_add pl 1) ?_
        refine lv_iload_n hx hb dX3_passWithin_79 rfl (lv_at hl 6 rfl) ?_
        refine lv_iload hx hb dX3_passWithin_80 (lv_at hl 7 rfl) ?_
        refine lv_iload hx hb dX3_passWithin_82 (lv_at hl 8 rfl) ?_
        refine x_calliX F hH 0 (F.lt (by omega)) (vv0 (by decide)) rfl (hrec s_43 μ z8) cw_X3_105 rfl rfl ⟨(show 20 + 2 * n + 1 ≤ 21 + 2 * n by omega), (show 8 + (7 + 11) + 40 * (20 + 2 * n) ≤ 40 * (21 + 2 * n) by omega)⟩ rfl hl.1 rfl (Nat.le_of_ble_eq_true rfl) ⟨Nat.zero_le _, Nat.zero_le _⟩ dX3_passWithin_84 (fun r_46 s_47 H locs e_48 hH => ?_)
        exact x_iretX F hr hlk hH (by simp only [passW, if_pos c_1, if_neg c_38, e_44, if_pos c_45, e_48]) dX3_passWithin_87
      · refine lv_iload hx hb dX3_passWithin_70 (lv_at hl 0 rfl) ?_
        refine lv_goto (tgt := 87) hx hb dX3_passWithin_72 (by decide) ?_
        exact x_iretX F hr hlk hH (by simp only [passW, if_pos c_1, if_neg c_38, e_44, if_neg c_45]) dX3_passWithin_87
    · refine lv_iconst (v := 1) hx hb dX3_passWithin_18 (by decide) ?_
      refine lv_goto (tgt := 23) hx hb dX3_passWithin_19 (by decide) ?_
      refine lv_istore (lv' := [(7, .int 1), (6, .int 1), (0, .ref (ea E 0)), (1, .ref (ea E (5 + t))), (2, .int (nI pl)), (3, .int (nI len)), (4, .int worth), (5, .int (bz back))]) hx hb dX3_passWithin_23 hl (by decide) rfl (fun ls hl => ?_)
      refine lv_iload hx hb dX3_passWithin_25 (lv_at hl 1 rfl) ?_
      refine lv_if_eq (tgt := 34) hx hb dX3_passWithin_27 (by decide) (fun c_49 => absurd c_49 (by decide)) (fun _ => ?_)
      refine lv_iconst (v := 0) hx hb dX3_passWithin_30 (by decide) ?_
      refine lv_goto (tgt := 39) hx hb dX3_passWithin_31 (by decide) ?_
      refine lv_istore (lv' := [(8, .int 0), (7, .int 1), (6, .int 1), (0, .ref (ea E 0)), (1, .ref (ea E (5 + t))), (2, .int (nI pl)), (3, .int (nI len)), (4, .int worth), (5, .int (bz back))]) hx hb dX3_passWithin_39 hl (by decide) rfl (fun ls hl => ?_)
      refine lv_iload hx hb dX3_passWithin_41 (lv_at hl 0 rfl) ?_
      refine lv_if_lt (tgt := 65) hx hb dX3_passWithin_43 (by decide) (fun c_50 => absurd c_50 (by decide)) (fun _ => ?_)
      refine lv_iload hx hb dX3_passWithin_46 (lv_at hl 2 rfl) ?_
      refine lv_if_ne (tgt := 56) hx hb dX3_passWithin_48 (by decide) (fun _ => ?_) (fun c_51 => absurd c_51 (by decide))
      refine lv_aload_n hx hb dX3_passWithin_56 rfl (lv_at hl 3 rfl) ?_
      refine lv_aload_n hx hb dX3_passWithin_57 rfl (lv_at hl 4 rfl) ?_
      refine lv_iload hx hb dX3_passWithin_58 (lv_at hl 7 rfl) ?_
      refine x_calliX F hH 0 (F.lt (by omega)) (vv0 (by decide)) rfl (c_X3_pay l F.ad σ μ t worth (by omega)) cw_X3_91 rfl rfl ⟨(show 2 + 1 ≤ 21 + 2 * n by omega), (show 8 + (3 + 11) + 40 * (2) ≤ 40 * (21 + 2 * n) by omega)⟩ rfl hl.1 rfl (Nat.le_of_ble_eq_true rfl) ⟨Nat.zero_le _, Nat.zero_le _⟩ dX3_passWithin_60 (fun r_52 s_53 H locs e_54 hH => ?_)
      have z10 : s_53 21 = pr := (X3_pay_21 (by omega) e_54).trans hσ
      refine lv_istore (lv' := [(8, .int r_52), (7, .int 1), (6, .int 1), (0, .ref (ea E 0)), (1, .ref (ea E (5 + t))), (2, .int (nI pl)), (3, .int (nI len)), (4, .int worth), (5, .int (bz back))]) hx hb dX3_passWithin_63 hl (by decide) rfl (fun ls hl => ?_)
      refine lv_iload hx hb dX3_passWithin_65 (lv_at hl 0 rfl) ?_
      refine lv_if_ge (tgt := 75) hx hb dX3_passWithin_67 (by decide) (fun c_55 => ?_) (fun c_55 => ?_)
      · refine lv_aload_n hx hb dX3_passWithin_75 rfl (lv_at hl 3 rfl) ?_
        refine lv_iload_n hx hb dX3_passWithin_76 rfl (lv_at hl 5 rfl) ?_
        refine lv_iconst (v := 1) hx hb dX3_passWithin_77 (by decide) ?_
        refine lv_iadd hx hb dX3_passWithin_78 ?_
        refine x_top (nI_add pl 1) ?_
        refine lv_iload_n hx hb dX3_passWithin_79 rfl (lv_at hl 6 rfl) ?_
        refine lv_iload hx hb dX3_passWithin_80 (lv_at hl 7 rfl) ?_
        refine lv_iload hx hb dX3_passWithin_82 (lv_at hl 8 rfl) ?_
        refine x_calliX F hH 0 (F.lt (by omega)) (vv0 (by decide)) rfl (hrec s_53 μ z10) cw_X3_105 rfl rfl ⟨(show 20 + 2 * n + 1 ≤ 21 + 2 * n by omega), (show 8 + (7 + 11) + 40 * (20 + 2 * n) ≤ 40 * (21 + 2 * n) by omega)⟩ rfl hl.1 rfl (Nat.le_of_ble_eq_true rfl) ⟨Nat.zero_le _, Nat.zero_le _⟩ dX3_passWithin_84 (fun r_56 s_57 H locs e_58 hH => ?_)
        exact x_iretX F hr hlk hH (by simp only [passW, if_pos c_1, if_pos c_38, e_54, if_pos c_55, e_58]) dX3_passWithin_87
      · refine lv_iload hx hb dX3_passWithin_70 (lv_at hl 0 rfl) ?_
        refine lv_goto (tgt := 87) hx hb dX3_passWithin_72 (by decide) ?_
        exact x_iretX F hr hlk hH (by simp only [passW, if_pos c_1, if_pos c_38, e_54, if_neg c_55]) dX3_passWithin_87
def passF (len : Nat) (worth back : Int32) : Nat → St → Nat → Int32 × St
  | 0, σ, _ => (0, σ)
  | n + 1, σ, pl =>
    if (nI len) ≤ (nI pl) then
      (nI len, σ)
    else
      if (nI pl) < 6 then
        match f_X3_begin σ (tn (σ 21 pl)) with
        | (r_7, s_8) =>
          if r_7 = 0 then
            ((-11), s_8)
          else
            match passW len worth back (passF len worth back n) (becL (11 + pl) (tn (σ 21 pl)) 5 0 s_8) (tn (σ 21 pl)) pl with
            | (r_11, s_12) =>
              if 0 ≤ r_11 then
                match f_X3_end s_12 r_11 with
                | (r_15, s_16) =>
                  (r_15, s_16)
              else
                if (bz back) = 0 then
                  match f_X3_end s_12 r_11 with
                  | (r_19, s_20) =>
                    (r_19, s_20)
                else
                  match f_X3_end (becL (tn (σ 21 pl)) (11 + pl) 5 0 s_12) r_11 with
                  | (r_22, s_23) =>
                    (r_22, s_23)
      else
        (nI len, σ)
set_option maxRecDepth 100000 in
set_option maxHeartbeats 4000000 in
theorem c_X3_passStep (l : Launch) {E : EV} (hA : AD E) (len : Nat) (worth back : Int32) (hlen : len < 7) (pr : Nat → Int32) (hp : ∀ k, k < len → ¬ f_X3_isTill (pr k) = 0) (n : Nat) (pl : Nat) (hpl : pl < 7) (hrec0 : pl < 6 → ∀ (σ μ : St), σ 21 = pr → Met l yX3_passFrom (.code yX3_passFrom cX3_passFrom 7 (some .int) :: gtbl) (rmL (20 + 2 * n)) (va_Pc [.ref (ea E 0), .int (nI (pl + 1)), .int (nI len), .int worth, .int (bz back)] (PR E σ μ)) (QI E (passF len worth back n σ (pl + 1)).1 (passF len worth back n σ (pl + 1)).2 μ) 0 0 (eA E)) (σ μ : St) (hσ : σ 21 = pr) : Met l yX3_passFrom (.code yX3_passFrom cX3_passFrom 7 (some .int) :: gtbl) (rmL (20 + 2 * (n + 1))) (va_Pc [.ref (ea E 0), .int (nI (pl)), .int (nI len), .int worth, .int (bz back)] (PR E σ μ)) (QI E (passF len worth back (n + 1) σ pl).1 (passF len worth back (n + 1) σ pl).2 μ) 0 0 (eA E) := by
  refine x_met (own := RX3) (by decide) rfl hA (Nat.le_of_ble_eq_true rfl) ?_
  intro p e s m below meth c ls F hr hlk hH hl
  have hl : lv_has ls 7 [(0, .ref (ea E 0)), (1, .int (nI pl)), (2, .int (nI len)), (3, .int worth), (4, .int (bz back))] := hl
  have hx := F.hx
  have hb := F.hb
  refine lv_iload_n hx hb dX3_passFrom_0 rfl (lv_at hl 1 rfl) ?_
  refine lv_iload_n hx hb dX3_passFrom_1 rfl (lv_at hl 2 rfl) ?_
  refine lv_icmp_ge (tgt := 11) hx hb dX3_passFrom_2 (by decide) (fun c_1 => ?_) (fun c_1 => ?_)
  · have q_2 := (nI_leI (a := len) (b := pl) (by omega) (by omega)).mp c_1
    refine lv_iload_n hx hb dX3_passFrom_11 rfl (lv_at hl 2 rfl) ?_
    exact x_iretX F hr hlk hH (by simp only [passF, if_pos c_1]) dX3_passFrom_12
  · have q_3 := mt (nI_leI (a := len) (b := pl) (by omega) (by omega)).mpr c_1
    refine lv_iload_n hx hb dX3_passFrom_5 rfl (lv_at hl 1 rfl) ?_
    refine lv_bipush (v := 6) hx hb dX3_passFrom_6 (by decide) ?_
    refine lv_icmp_lt (tgt := 13) hx hb dX3_passFrom_8 (by decide) (fun c_4 => ?_) (fun c_4 => ?_)
    · have q_5 := (fq_lt (a := pl) (b := 6) rfl (by omega) (by omega)).mp c_4
      refine lv_aload_n hx hb dX3_passFrom_13 rfl (lv_at hl 0 rfl) ?_
      refine g_X3_tills F hH kw_98 dX3_passFrom_14 ?_
      refine lv_aload_n hx hb dX3_passFrom_17 rfl (lv_at hl 0 rfl) ?_
      refine g_X3_places F hH kw_104 dX3_passFrom_18 ?_
      refine lv_iload_n hx hb dX3_passFrom_21 rfl (lv_at hl 1 rfl) ?_
      refine a_places F hH pl (by omega) dX3_passFrom_22 ?_
      have q_6 : σ 21 pl = nI (tn (σ 21 pl)) ∧ tn (σ 21 pl) < 8 := X3_isTill_n (by rw [hσ]; exact hp pl (by omega))
      have q_6b := q_6.2
      refine x_top q_6.1 ?_
      refine a_tills F hH (tn (σ 21 pl)) (by omega) dX3_passFrom_23 ?_
      refine lv_astore (lv' := [(5, .ref (ea E (5 + (tn (σ 21 pl))))), (0, .ref (ea E 0)), (1, .int (nI pl)), (2, .int (nI len)), (3, .int worth), (4, .int (bz back))]) hx hb dX3_passFrom_24 hl (by decide) rfl (fun ls hl => ?_)
      refine lv_aload_n hx hb dX3_passFrom_26 rfl (lv_at hl 1 rfl) ?_
      refine lv_aload hx hb dX3_passFrom_27 (lv_at hl 0 rfl) ?_
      refine x_calliX F hH 0 (F.lt (by omega)) (vv0 (by decide)) rfl (c_X3_begin l F.ad σ μ (tn (σ 21 pl)) (by omega)) cw_X3_69 rfl rfl ⟨(show 2 + 1 ≤ 20 + 2 * (n + 1) by omega), (show 8 + (2 + 11) + 40 * (2) ≤ 40 * (20 + 2 * (n + 1)) by omega)⟩ rfl hl.1 rfl (Nat.le_of_ble_eq_true rfl) ⟨Nat.zero_le _, Nat.zero_le _⟩ dX3_passFrom_29 (fun r_7 s_8 H locs e_9 hH => ?_)
      have z1 : s_8 21 = pr := (X3_begin_21 e_9).trans hσ
      refine lv_if_ne (tgt := 38) hx hb dX3_passFrom_32 (by decide) (fun c_10 => ?_) (fun c_10 => ?_)
      · refine lv_aload_n hx hb dX3_passFrom_38 rfl (lv_at hl 1 rfl) ?_
        refine g_X3_coinsBefore F hH kw_103 dX3_passFrom_39 ?_
        refine lv_iload_n hx hb dX3_passFrom_42 rfl (lv_at hl 2 rfl) ?_
        refine a_cb F hH pl (by omega) dX3_passFrom_43 ?_
        refine lv_aload hx hb dX3_passFrom_44 (lv_at hl 0 rfl) ?_
        refine g_X2_coins F hH (t := tn (σ 21 pl)) (by omega) kw_58 dX3_passFrom_46 ?_
        refine x_callv F hH (13 + (11 + pl)) (F.lt (by omega)) (vv2 (by omega)) rfl (c_X0_become l F.ad s_8 μ (11 + pl) (tn (σ 21 pl)) (by omega) (by omega)) cw_X3_102 rfl rfl ⟨(show 0 + 1 ≤ 20 + 2 * (n + 1) by omega), (show 8 + (3 + 11) + 40 * (0) ≤ 40 * (20 + 2 * (n + 1)) by omega)⟩ rfl hl.1 rfl (Nat.le_of_ble_eq_true rfl) ⟨Nat.zero_le _, Nat.zero_le _⟩ dX3_passFrom_49 (fun H locs hH => ?_)
        have z2 : (becL (11 + pl) (tn (σ 21 pl)) 5 0 s_8) 21 = pr := (becL_row (by omega) 5 0 s_8).trans z1
        refine lv_aload_n hx hb dX3_passFrom_52 rfl (lv_at hl 1 rfl) ?_
        refine lv_aload hx hb dX3_passFrom_53 (lv_at hl 0 rfl) ?_
        refine lv_iload_n hx hb dX3_passFrom_55 rfl (lv_at hl 2 rfl) ?_
        refine lv_iload_n hx hb dX3_passFrom_56 rfl (lv_at hl 3 rfl) ?_
        refine lv_iload_n hx hb dX3_passFrom_57 rfl (lv_at hl 4 rfl) ?_
        refine lv_iload hx hb dX3_passFrom_58 (lv_at hl 5 rfl) ?_
        refine x_calliX F hH 0 (F.lt (by omega)) (vv0 (by decide)) rfl (c_X3_passWithin l F.ad len worth back hlen pr n (passF len worth back n) pl (by omega) (hrec0 (by omega)) (becL (11 + pl) (tn (σ 21 pl)) 5 0 s_8) μ z2 (tn (σ 21 pl)) (by omega)) cw_X3_164 rfl rfl ⟨(show 21 + 2 * n + 1 ≤ 20 + 2 * (n + 1) by omega), (show 8 + (9 + 11) + 40 * (21 + 2 * n) ≤ 40 * (20 + 2 * (n + 1)) by omega)⟩ rfl hl.1 rfl (Nat.le_of_ble_eq_true rfl) ⟨Nat.zero_le _, Nat.zero_le _⟩ dX3_passFrom_60 (fun r_11 s_12 H locs e_13 hH => ?_)
        refine lv_istore (lv' := [(6, .int r_11), (5, .ref (ea E (5 + (tn (σ 21 pl))))), (0, .ref (ea E 0)), (1, .int (nI pl)), (2, .int (nI len)), (3, .int worth), (4, .int (bz back))]) hx hb dX3_passFrom_63 hl (by decide) rfl (fun ls hl => ?_)
        refine lv_iload hx hb dX3_passFrom_65 (lv_at hl 0 rfl) ?_
        refine lv_if_ge (tgt := 89) hx hb dX3_passFrom_67 (by decide) (fun c_14 => ?_) (fun c_14 => ?_)
        · refine lv_aload_n hx hb dX3_passFrom_89 rfl (lv_at hl 2 rfl) ?_
          refine lv_iload hx hb dX3_passFrom_90 (lv_at hl 0 rfl) ?_
          refine x_calliX F hH 0 (F.lt (by omega)) (vv0 (by decide)) rfl (c_X3_end l F.ad s_12 μ r_11) cw_X3_73 rfl rfl ⟨(show 1 + 1 ≤ 20 + 2 * (n + 1) by omega), (show 8 + (2 + 11) + 40 * (1) ≤ 40 * (20 + 2 * (n + 1)) by omega)⟩ rfl hl.1 rfl (Nat.le_of_ble_eq_true rfl) ⟨Nat.zero_le _, Nat.zero_le _⟩ dX3_passFrom_92 (fun r_15 s_16 H locs e_17 hH => ?_)
          exact x_iretX F hr hlk hH (by simp only [passF, if_neg c_1, if_pos c_4, e_9, if_neg c_10, e_13, if_pos c_14, e_17]) dX3_passFrom_95
        · refine lv_iload hx hb dX3_passFrom_70 (lv_at hl 6 rfl) ?_
          refine lv_if_eq (tgt := 89) hx hb dX3_passFrom_72 (by decide) (fun c_18 => ?_) (fun c_18 => ?_)
          · refine lv_aload_n hx hb dX3_passFrom_89 rfl (lv_at hl 2 rfl) ?_
            refine lv_iload hx hb dX3_passFrom_90 (lv_at hl 0 rfl) ?_
            refine x_calliX F hH 0 (F.lt (by omega)) (vv0 (by decide)) rfl (c_X3_end l F.ad s_12 μ r_11) cw_X3_73 rfl rfl ⟨(show 1 + 1 ≤ 20 + 2 * (n + 1) by omega), (show 8 + (2 + 11) + 40 * (1) ≤ 40 * (20 + 2 * (n + 1)) by omega)⟩ rfl hl.1 rfl (Nat.le_of_ble_eq_true rfl) ⟨Nat.zero_le _, Nat.zero_le _⟩ dX3_passFrom_92 (fun r_19 s_20 H locs e_21 hH => ?_)
            exact x_iretX F hr hlk hH (by simp only [passF, if_neg c_1, if_pos c_4, e_9, if_neg c_10, e_13, if_neg c_14, if_pos c_18, e_21]) dX3_passFrom_95
          · refine lv_aload hx hb dX3_passFrom_75 (lv_at hl 1 rfl) ?_
            refine g_X2_coins F hH (t := tn (σ 21 pl)) (by omega) kw_58 dX3_passFrom_77 ?_
            refine lv_aload_n hx hb dX3_passFrom_80 rfl (lv_at hl 2 rfl) ?_
            refine g_X3_coinsBefore F hH kw_103 dX3_passFrom_81 ?_
            refine lv_iload_n hx hb dX3_passFrom_84 rfl (lv_at hl 3 rfl) ?_
            refine a_cb F hH pl (by omega) dX3_passFrom_85 ?_
            refine x_callv F hH (13 + (tn (σ 21 pl))) (F.lt (by omega)) (vv2 (by omega)) rfl (c_X0_become l F.ad s_12 μ (tn (σ 21 pl)) (11 + pl) (by omega) (by omega)) cw_X3_102 rfl rfl ⟨(show 0 + 1 ≤ 20 + 2 * (n + 1) by omega), (show 8 + (3 + 11) + 40 * (0) ≤ 40 * (20 + 2 * (n + 1)) by omega)⟩ rfl hl.1 rfl (Nat.le_of_ble_eq_true rfl) ⟨Nat.zero_le _, Nat.zero_le _⟩ dX3_passFrom_86 (fun H locs hH => ?_)
            refine lv_aload_n hx hb dX3_passFrom_89 rfl (lv_at hl 2 rfl) ?_
            refine lv_iload hx hb dX3_passFrom_90 (lv_at hl 0 rfl) ?_
            refine x_calliX F hH 0 (F.lt (by omega)) (vv0 (by decide)) rfl (c_X3_end l F.ad (becL (tn (σ 21 pl)) (11 + pl) 5 0 s_12) μ r_11) cw_X3_73 rfl rfl ⟨(show 1 + 1 ≤ 20 + 2 * (n + 1) by omega), (show 8 + (2 + 11) + 40 * (1) ≤ 40 * (20 + 2 * (n + 1)) by omega)⟩ rfl hl.1 rfl (Nat.le_of_ble_eq_true rfl) ⟨Nat.zero_le _, Nat.zero_le _⟩ dX3_passFrom_92 (fun r_22 s_23 H locs e_24 hH => ?_)
            exact x_iretX F hr hlk hH (by simp only [passF, if_neg c_1, if_pos c_4, e_9, if_neg c_10, e_13, if_neg c_14, if_neg c_18, e_24]) dX3_passFrom_95
      · refine lv_bipush (v := -11) hx hb dX3_passFrom_35 (by decide) ?_
        exact x_iretX F hr hlk hH (by simp only [passF, if_neg c_1, if_pos c_4, e_9, if_pos c_10]) dX3_passFrom_37
    · have q_25 := mt (fq_lt (a := pl) (b := 6) rfl (by omega) (by omega)).mpr c_4
      refine lv_iload_n hx hb dX3_passFrom_11 rfl (lv_at hl 2 rfl) ?_
      exact x_iretX F hr hlk hH (by simp only [passF, if_neg c_1, if_neg c_4]) dX3_passFrom_12
theorem c_X3_passFrom (l : Launch) {E : EV} (hA : AD E) (len : Nat) (worth back : Int32) (hlen : len < 7) (pr : Nat → Int32) (hp : ∀ k, k < len → ¬ f_X3_isTill (pr k) = 0) : ∀ (n pl : Nat), pl + n = 7 → pl < 7 → ∀ (σ μ : St), σ 21 = pr → Met l yX3_passFrom (.code yX3_passFrom cX3_passFrom 7 (some .int) :: gtbl) (rmL (20 + 2 * n)) (va_Pc [.ref (ea E 0), .int (nI (pl)), .int (nI len), .int worth, .int (bz back)] (PR E σ μ)) (QI E (passF len worth back n σ pl).1 (passF len worth back n σ pl).2 μ) 0 0 (eA E) := by
  intro n
  induction n with
  | zero => intro pl h1 h2; exact absurd h1 (by omega)
  | succ n ih =>
    intro pl h1 h2 σ μ hσ
    exact c_X3_passStep l hA len worth back hlen pr hp n pl h2 (fun h3 => ih (pl + 1) (by omega) (by omega)) σ μ hσ
theorem rrL_spec (len : Nat) (hlen : len ≤ 6) : ∀ (n : Nat) (rest : Int32) (σ s1 : St) (r : Int32), rrL len n rest σ = (r, s1) → ¬ r = -1 → n ≤ len → (∀ k, n ≤ k → k < len → ¬ f_X3_isTill (σ 21 k) = 0) → r = nI len ∧ ∀ k, k < len → ¬ f_X3_isTill (s1 21 k) = 0 := by
  intro n
  induction n with
  | zero =>
    intro rest σ s1 r e hr hn hk
    cases e
    exact ⟨rfl, fun k h => hk k (Nat.zero_le _) h⟩
  | succ n ih =>
    intro rest σ s1 r e hr hn hk
    rw [rrL] at e
    split at e
    · cases e; exact absurd rfl hr
    · rename_i hc
      refine ih _ _ _ _ e hr (by omega) (fun k h1 h2 => ?_)
      by_cases hkn : k = n
      · rw [hkn, up_same]; exact hc
      · rw [up_at hkn]; exact hk k (by omega) h2
theorem readRow_spec {σ s1 : St} {row r : Int32} (e : f_X3_readRow σ row = (r, s1)) (hr : ¬ r = -1) : (r = nI (tn r) ∧ tn r < 7) ∧ ∀ k, k < tn r → ¬ f_X3_isTill (s1 21 k) = 0 := by
  unfold f_X3_readRow at e
  split at e
  · cases e; exact absurd rfl hr
  · have h1 := dgL_le row 5 1 10
    obtain ⟨h2, h3⟩ := rrL_spec _ (by omega) _ _ _ _ _ e hr (Nat.le_refl _) (fun k a b => absurd b (by omega))
    have h4 : tn r = dgL row 5 1 10 := by rw [h2, tn, nI_clamp (by omega)]
    rw [h4]
    exact ⟨⟨h2, by omega⟩, h3⟩
end
section
def f_X3_passG (rc : Nat → Int32 → Int32 → St → Int32 × St) (σ : St) (row : Int32) (worth : Int32) (back : Int32) : Int32 × St :=
  match f_X3_readRow σ row with
  | (r_1, s_2) =>
    if r_1 = (-1) then
      ((-1), s_2)
    else
      if (f_X3_isUpTo worth 10000) = 0 then
        ((-1), s_2)
      else
        match rc (tn r_1) worth back (becL 10 8 5 0 s_2) with
        | (r_7, s_8) =>
          if 0 ≤ r_7 then
            (r_7, s_8)
          else
            if (bz back) = 0 then
              (r_7, s_8)
            else
              (r_7, (becL 8 10 5 0 s_8))
set_option maxRecDepth 100000 in
set_option maxHeartbeats 4000000 in
theorem c_X3_passG (l : Launch) {E : EV} (hA : AD E) (σ μ : St) (row : Int32) (worth : Int32) (back : Int32) (rc : Nat → Int32 → Int32 → St → Int32 × St) (hrc : ∀ (len : Nat) (worth back : Int32), len < 7 → ∀ (pr : Nat → Int32), (∀ k, k < len → ¬ f_X3_isTill (pr k) = 0) → ∀ (σ μ : St), σ 21 = pr → Met l yX3_passFrom (.code yX3_passFrom cX3_passFrom 7 (some .int) :: gtbl) (rmL (34)) (va_Pc [.ref (ea E 0), .int (nI (0)), .int (nI len), .int worth, .int (bz back)] (PR E σ μ)) (QI E (rc len worth back σ).1 (rc len worth back σ).2 μ) 0 0 (eA E)) : Met l yX3_pass (.code yX3_pass cX3_pass 6 (some .int) :: gtbl) (rmL 40) (va_Pc [.ref (ea E 0), .int row, .int worth, .int (bz back)] (PR E σ μ)) (QI E (f_X3_passG rc σ row worth back).1 (f_X3_passG rc σ row worth back).2 μ) 0 0 (eA E) := by
  refine x_met (own := RX3) (by decide) rfl hA (Nat.le_of_ble_eq_true rfl) ?_
  intro p e s m below meth c ls F hr hlk hH hl
  have hl : lv_has ls 6 [(0, .ref (ea E 0)), (1, .int row), (2, .int worth), (3, .int (bz back))] := hl
  have hx := F.hx
  have hb := F.hb
  refine lv_aload_n hx hb dX3_pass_0 rfl (lv_at hl 0 rfl) ?_
  refine lv_iload_n hx hb dX3_pass_1 rfl (lv_at hl 1 rfl) ?_
  refine x_calliX F hH 0 (F.lt (by omega)) (vv0 (by decide)) rfl (c_X3_readRow l F.ad σ μ row) cw_X3_99 rfl rfl ⟨Nat.le_of_ble_eq_true rfl, Nat.le_of_ble_eq_true rfl⟩ rfl hl.1 rfl (Nat.le_of_ble_eq_true rfl) ⟨Nat.zero_le _, Nat.zero_le _⟩ dX3_pass_2 (fun r_1 s_2 H locs e_3 hH => ?_)
  refine lv_istore (lv' := [(4, .int r_1), (0, .ref (ea E 0)), (1, .int row), (2, .int worth), (3, .int (bz back))]) hx hb dX3_pass_5 hl (by decide) rfl (fun ls hl => ?_)
  refine lv_iload hx hb dX3_pass_7 (lv_at hl 0 rfl) ?_
  refine lv_iconst (v := -1) hx hb dX3_pass_9 (by decide) ?_
  refine lv_icmp_eq (tgt := 23) hx hb dX3_pass_10 (by decide) (fun c_4 => ?_) (fun c_4 => ?_)
  · refine lv_iconst (v := -1) hx hb dX3_pass_23 (by decide) ?_
    exact x_iretX F hr hlk hH (by simp only [f_X3_passG, e_3, if_pos c_4]) dX3_pass_24
  · have q_5 := readRow_spec e_3 c_4
    have q_5b := q_5.1.2
    refine lv_iload_n hx hb dX3_pass_13 rfl (lv_at hl 3 rfl) ?_
    refine lv_sipush (v := 10000) hx hb dX3_pass_14 (by decide) ?_
    refine x_pure hx hb F.hml F.hown F.hts (c_X3_isUpTo l worth 10000) cw_X3_48 rfl rfl ⟨Nat.le_of_ble_eq_true rfl, Nat.le_of_ble_eq_true rfl⟩ rfl hl.1 rfl (Nat.le_of_ble_eq_true rfl) ⟨Nat.zero_le _, Nat.zero_le _⟩ dX3_pass_17 ?_
    refine lv_if_ne (tgt := 25) hx hb dX3_pass_20 (by decide) (fun c_6 => ?_) (fun c_6 => ?_)
    · refine lv_aload_n hx hb dX3_pass_25 rfl (lv_at hl 1 rfl) ?_
      refine g_X3_handBefore F hH kw_102 dX3_pass_26 ?_
      refine lv_aload_n hx hb dX3_pass_29 rfl (lv_at hl 1 rfl) ?_
      refine g_X3_inHand F hH kw_99 dX3_pass_30 ?_
      refine x_callv F hH (13 + 10) (F.lt (by omega)) (vv2 (by omega)) rfl (c_X0_become l F.ad s_2 μ 10 8 (by omega) (by omega)) cw_X3_102 rfl rfl ⟨Nat.le_of_ble_eq_true rfl, Nat.le_of_ble_eq_true rfl⟩ rfl hl.1 rfl (Nat.le_of_ble_eq_true rfl) ⟨Nat.zero_le _, Nat.zero_le _⟩ dX3_pass_33 (fun H locs hH => ?_)
      refine lv_aload_n hx hb dX3_pass_36 rfl (lv_at hl 1 rfl) ?_
      refine lv_iconst (v := 0) hx hb dX3_pass_37 (by decide) ?_
      refine x_top (show (0 : Int32) = nI 0 from rfl) ?_
      refine lv_iload hx hb dX3_pass_38 (lv_at hl 0 rfl) ?_
      refine x_top q_5.1.1 ?_
      refine lv_iload_n hx hb dX3_pass_40 rfl (lv_at hl 3 rfl) ?_
      refine lv_iload_n hx hb dX3_pass_41 rfl (lv_at hl 4 rfl) ?_
      refine x_calliX F hH 0 (F.lt (by omega)) (vv0 (by decide)) rfl (hrc (tn r_1) worth back (by omega) (s_2 21) q_5.2 (becL 10 8 5 0 s_2) μ (becL_row (by omega) 5 0 s_2)) cw_X3_105 rfl rfl ⟨Nat.le_of_ble_eq_true rfl, Nat.le_of_ble_eq_true rfl⟩ rfl hl.1 rfl (Nat.le_of_ble_eq_true rfl) ⟨Nat.zero_le _, Nat.zero_le _⟩ dX3_pass_42 (fun r_7 s_8 H locs e_9 hH => ?_)
      refine lv_istore (lv' := [(5, .int r_7), (4, .int r_1), (0, .ref (ea E 0)), (1, .int row), (2, .int worth), (3, .int (bz back))]) hx hb dX3_pass_45 hl (by decide) rfl (fun ls hl => ?_)
      refine lv_iload hx hb dX3_pass_47 (lv_at hl 0 rfl) ?_
      refine lv_if_ge (tgt := 67) hx hb dX3_pass_49 (by decide) (fun c_10 => ?_) (fun c_10 => ?_)
      · refine lv_iload hx hb dX3_pass_67 (lv_at hl 0 rfl) ?_
        exact x_iretX F hr hlk hH (by simp only [f_X3_passG, e_3, if_neg c_4, if_neg c_6, e_9, if_pos c_10]) dX3_pass_69
      · refine lv_iload_n hx hb dX3_pass_52 rfl (lv_at hl 5 rfl) ?_
        refine lv_if_eq (tgt := 67) hx hb dX3_pass_53 (by decide) (fun c_11 => ?_) (fun c_11 => ?_)
        · refine lv_iload hx hb dX3_pass_67 (lv_at hl 0 rfl) ?_
          exact x_iretX F hr hlk hH (by simp only [f_X3_passG, e_3, if_neg c_4, if_neg c_6, e_9, if_neg c_10, if_pos c_11]) dX3_pass_69
        · refine lv_aload_n hx hb dX3_pass_56 rfl (lv_at hl 2 rfl) ?_
          refine g_X3_inHand F hH kw_99 dX3_pass_57 ?_
          refine lv_aload_n hx hb dX3_pass_60 rfl (lv_at hl 2 rfl) ?_
          refine g_X3_handBefore F hH kw_102 dX3_pass_61 ?_
          refine x_callv F hH (13 + 8) (F.lt (by omega)) (vv2 (by omega)) rfl (c_X0_become l F.ad s_8 μ 8 10 (by omega) (by omega)) cw_X3_102 rfl rfl ⟨Nat.le_of_ble_eq_true rfl, Nat.le_of_ble_eq_true rfl⟩ rfl hl.1 rfl (Nat.le_of_ble_eq_true rfl) ⟨Nat.zero_le _, Nat.zero_le _⟩ dX3_pass_64 (fun H locs hH => ?_)
          refine lv_iload hx hb dX3_pass_67 (lv_at hl 0 rfl) ?_
          exact x_iretX F hr hlk hH (by simp only [f_X3_passG, e_3, if_neg c_4, if_neg c_6, e_9, if_neg c_10, if_neg c_11]) dX3_pass_69
    · refine lv_iconst (v := -1) hx hb dX3_pass_23 (by decide) ?_
      exact x_iretX F hr hlk hH (by simp only [f_X3_passG, e_3, if_neg c_4, if_pos c_6]) dX3_pass_24
def f_X3_pass (σ : St) (row worth back : Int32) : Int32 × St := f_X3_passG (fun len w b σ => passF len w b 7 σ 0) σ row worth back
theorem c_X3_pass (l : Launch) {E : EV} (hA : AD E) (σ μ : St) (row worth back : Int32) : Met l yX3_pass (.code yX3_pass cX3_pass 6 (some .int) :: gtbl) (rmL 40) (va_Pc [.ref (ea E 0), .int row, .int worth, .int (bz back)] (PR E σ μ)) (QI E (f_X3_pass σ row worth back).1 (f_X3_pass σ row worth back).2 μ) 0 0 (eA E) :=
  c_X3_passG l hA σ μ row worth back (fun len w b σ => passF len w b 7 σ 0) (fun len w b hlen pr hp σ μ hσ => c_X3_passFrom l hA len w b hlen pr hp 7 0 (by omega) (by omega) σ μ hσ)
end
section
def rowM (μ : St) (r : Nat) : Nat → Int32 := fun k => μ 4 (5 * r + k)
def wsumM (f : Nat → Int32) : Nat → Nat → Int32 → Int32
  | 0, _, acc => acc
  | n + 1, k, acc => wsumM f n (k + 1) (acc + f_X4_worthOf (nI k) * f k)
def goL (fr to w : Nat) : Nat → Nat → St → St
  | 0, _, μ => μ
  | n + 1, k, μ => goL fr to w n (k + 1) (up (up μ 4 (5 * fr + k) (μ 4 (5 * fr + k) - μ w k)) 4 (5 * to + k) ((up μ 4 (5 * fr + k) (μ 4 (5 * fr + k) - μ w k)) 4 (5 * to + k) + (up μ 4 (5 * fr + k) (μ 4 (5 * fr + k) - μ w k)) w k))
def lacksL (t : Nat) : Nat → Int32 → St → Int32 × St
  | 0, rest, μ => (rest, μ)
  | n + 1, rest, μ =>
    if μ 4 (5 * t + n) ≤ rest / f_X4_worthOf (nI n) then
      lacksL t n (rest - (up μ 5 n (μ 4 (5 * t + n))) 5 n * f_X4_worthOf (nI n)) (up μ 5 n (μ 4 (5 * t + n)))
    else
      lacksL t n (rest - (up μ 5 n (rest / f_X4_worthOf (nI n))) 5 n * f_X4_worthOf (nI n)) (up μ 5 n (rest / f_X4_worthOf (nI n)))
def empL (t : Nat) : Nat → Nat → St → St
  | 0, _, μ => μ
  | n + 1, k, μ => empL t n (k + 1) (up μ 4 (5 * t + k) 0)
def keepL (r at9 : Nat) : Nat → Nat → St → St
  | 0, _, μ => μ
  | n + 1, k, μ => keepL r at9 n (k + 1) (up μ 6 (5 * at9 + k) (μ 4 (5 * r + k)))
def backL (r at9 : Nat) : Nat → Nat → St → St
  | 0, _, μ => μ
  | n + 1, k, μ => backL r at9 n (k + 1) (up μ 4 (5 * r + k) (μ 6 (5 * at9 + k)))
def thereM (μ : St) : Nat → Nat → Int32 → Int32
  | 0, _, acc => acc
  | n + 1, k, acc => if bz (μ 1 k) = 0 then thereM μ n (k + 1) (acc + 0) else thereM μ n (k + 1) (acc + 1)
set_option maxRecDepth 100000 in
set_option maxHeartbeats 4000000 in
theorem lp_X4_all {p : Program} {l : Launch} {e : Env} {s : State} {m : MethodId} {args : Array Value} {below : List Frame} {meth : Method} {c : Code} {Q : State → Prop} {E : EV} (F : Fx E p s m args c cX4_all RX4 4) (r : Nat) (hr9 : r < 9) : ∀ (n : Nat) (k : Nat) (acc : Int32) (σ μ : St) (H : Heap) (locs : List Loc) (ls : Array Slot), k + n = 5 → HS E s σ μ H locs → lv_has ls 4 [(0, .ref (ea E 47)), (1, .int (nI r)), (2, .int acc), (3, .int (nI k))] → (∀ (H : Heap) (locs : List Loc) (ls : Array Slot), HS E s σ μ H locs → lv_has ls 4 [(0, .ref (ea E 47)), (1, .int (nI r)), (2, .int (sumL (rowM μ r) n k acc)), (3, .int (nI 5))] → W p l e (rmL 0) s m args below meth c H locs 0 0 Q (F0 m 28 ls [])) → W p l e (rmL 0) s m args below meth c H locs 0 0 Q (F0 m 4 ls []) := by
  have hx := F.hx
  have hb := F.hb
  intro n
  induction n with
  | zero =>
    intro k acc σ μ H locs ls hn hH hl hk
    obtain rfl : k = 5 := by omega
    refine lv_iload_n hx hb dX4_all_4 rfl (lv_at hl 3 rfl) ?_
    refine lv_iconst (v := 5) hx hb dX4_all_5 (by decide) ?_
    refine lv_icmp_ge (tgt := 28) hx hb dX4_all_6 (by decide) (fun _ => ?_) (fun c_1 => absurd (by decide) c_1)
    simp only [sumL, rowM] at hk
    exact hk H locs ls hH (lv_sub hl [0, 1, 2, 3] rfl)
  | succ n ih =>
    intro k acc σ μ H locs ls hn hH hl hk
    refine lv_iload_n hx hb dX4_all_4 rfl (lv_at hl 3 rfl) ?_
    refine lv_iconst (v := 5) hx hb dX4_all_5 (by decide) ?_
    refine lv_icmp_ge (tgt := 28) hx hb dX4_all_6 (by decide) (fun c_1 => absurd c_1 (nI_ge (show k < 5 by omega) (by decide))) (fun _ => ?_)
    refine lv_iload_n hx hb dX4_all_9 rfl (lv_at hl 2 rfl) ?_
    refine lv_aload_n hx hb dX4_all_10 rfl (lv_at hl 0 rfl) ?_
    refine g_X4_coins F hH kw_298 dX4_all_11 ?_
    refine lv_iconst (v := 5) hx hb dX4_all_14 (by decide) ?_
    refine lv_iload_n hx hb dX4_all_15 rfl (lv_at hl 1 rfl) ?_
    refine lv_imul hx hb dX4_all_16 ?_
    refine x_top (pk_mul 5 r) ?_
    refine lv_iload_n hx hb dX4_all_17 rfl (lv_at hl 3 rfl) ?_
    refine lv_iadd hx hb dX4_all_18 ?_
    refine x_top (nI_add (5 * r) k) ?_
    refine a_mco F hH ((5 * r) + k) (by omega) dX4_all_19 ?_
    refine lv_iadd hx hb dX4_all_20 ?_
    refine lv_istore_n (lv' := [(2, .int (acc + (μ 4 ((5 * r) + k)))), (0, .ref (ea E 47)), (1, .int (nI r)), (3, .int (nI k))]) hx hb dX4_all_21 rfl hl (by decide) rfl (fun ls hl => ?_)
    refine lv_iinc (v := nI (k + 1)) (lv' := [(3, .int (nI (k + 1))), (2, .int (acc + (μ 4 ((5 * r) + k)))), (0, .ref (ea E 47)), (1, .int (nI r))]) hx hb dX4_all_22 hl (k := 3) rfl (nI_1 k) (by decide) rfl (fun ls hl => ?_)
    refine lv_goto (tgt := 4) hx hb dX4_all_25 (by decide) ?_
    simp only [sumL, rowM] at hk
    exact ih (k + 1) (acc + (μ 4 ((5 * r) + k))) σ μ H locs ls (by omega) hH (lv_sub hl [2, 3, 1, 0] rfl) hk
set_option maxRecDepth 100000 in
set_option maxHeartbeats 4000000 in
theorem c_X4_all (l : Launch) {E : EV} (hA : AD E) (σ μ : St) (r : Nat) (hr : r < 9) : Met l yX4_all (.code yX4_all cX4_all 4 (some .int) :: gtbl) (rmL 0) (va_Pc [.ref (ea E 47), .int (nI r)] (PR E σ μ)) (QI E (sumL (rowM μ r) 5 0 0) σ μ) 0 0 (eA E) := by
  refine x_met (own := RX4) (by decide) rfl hA (Nat.le_of_ble_eq_true rfl) ?_
  intro p e s m below meth c ls F hr hlk hH hl
  have hl : lv_has ls 4 [(0, .ref (ea E 47)), (1, .int (nI r))] := hl
  have hx := F.hx
  have hb := F.hb
  refine lv_iconst (v := 0) hx hb dX4_all_0 (by decide) ?_
  refine lv_istore_n (lv' := [(2, .int 0), (0, .ref (ea E 47)), (1, .int (nI r))]) hx hb dX4_all_1 rfl hl (by decide) rfl (fun ls hl => ?_)
  refine lv_iconst (v := 0) hx hb dX4_all_2 (by decide) ?_
  refine lv_istore_n (lv' := [(3, .int 0), (2, .int 0), (0, .ref (ea E 47)), (1, .int (nI r))]) hx hb dX4_all_3 rfl hl (by decide) rfl (fun ls hl => ?_)
  refine lp_X4_all F r (by omega) 5 0 0 σ μ _ _ ls (by omega) hH (lv_sub hl [2, 3, 1, 0] rfl) (fun H locs ls hH hl => ?_)
  refine lv_iload_n hx hb dX4_all_28 rfl (lv_at hl 2 rfl) ?_
  exact x_iretR F hr hlk hH rfl dX4_all_29
set_option maxRecDepth 100000 in
set_option maxHeartbeats 4000000 in
theorem lp_X4_worth {p : Program} {l : Launch} {e : Env} {s : State} {m : MethodId} {args : Array Value} {below : List Frame} {meth : Method} {c : Code} {Q : State → Prop} {E : EV} (F : Fx E p s m args c cX4_worth RX4 4) (r : Nat) (hr9 : r < 9) : ∀ (n : Nat) (k : Nat) (acc : Int32) (σ μ : St) (H : Heap) (locs : List Loc) (ls : Array Slot), k + n = 5 → HS E s σ μ H locs → lv_has ls 4 [(0, .ref (ea E 47)), (1, .int (nI r)), (2, .int acc), (3, .int (nI k))] → (∀ (H : Heap) (locs : List Loc) (ls : Array Slot), HS E s σ μ H locs → lv_has ls 4 [(0, .ref (ea E 47)), (1, .int (nI r)), (2, .int (wsumM (rowM μ r) n k acc)), (3, .int (nI 5))] → W p l e (rmL 1) s m args below meth c H locs 0 0 Q (F0 m 33 ls [])) → W p l e (rmL 1) s m args below meth c H locs 0 0 Q (F0 m 4 ls []) := by
  have hx := F.hx
  have hb := F.hb
  intro n
  induction n with
  | zero =>
    intro k acc σ μ H locs ls hn hH hl hk
    obtain rfl : k = 5 := by omega
    refine lv_iload_n hx hb dX4_worth_4 rfl (lv_at hl 3 rfl) ?_
    refine lv_iconst (v := 5) hx hb dX4_worth_5 (by decide) ?_
    refine lv_icmp_ge (tgt := 33) hx hb dX4_worth_6 (by decide) (fun _ => ?_) (fun c_1 => absurd (by decide) c_1)
    simp only [wsumM, rowM] at hk
    exact hk H locs ls hH (lv_sub hl [0, 1, 2, 3] rfl)
  | succ n ih =>
    intro k acc σ μ H locs ls hn hH hl hk
    refine lv_iload_n hx hb dX4_worth_4 rfl (lv_at hl 3 rfl) ?_
    refine lv_iconst (v := 5) hx hb dX4_worth_5 (by decide) ?_
    refine lv_icmp_ge (tgt := 33) hx hb dX4_worth_6 (by decide) (fun c_1 => absurd c_1 (nI_ge (show k < 5 by omega) (by decide))) (fun _ => ?_)
    refine lv_iload_n hx hb dX4_worth_9 rfl (lv_at hl 2 rfl) ?_
    refine lv_iload_n hx hb dX4_worth_10 rfl (lv_at hl 3 rfl) ?_
    refine x_pure hx hb F.hml F.hown F.hts (c_X4_worthOf l (nI k)) cw_X4_37 rfl rfl ⟨Nat.le_of_ble_eq_true rfl, Nat.le_of_ble_eq_true rfl⟩ rfl hl.1 rfl (Nat.le_of_ble_eq_true rfl) ⟨Nat.zero_le _, Nat.zero_le _⟩ dX4_worth_11 ?_
    refine lv_aload_n hx hb dX4_worth_14 rfl (lv_at hl 0 rfl) ?_
    refine g_X4_coins F hH kw_298 dX4_worth_15 ?_
    refine lv_iconst (v := 5) hx hb dX4_worth_18 (by decide) ?_
    refine lv_iload_n hx hb dX4_worth_19 rfl (lv_at hl 1 rfl) ?_
    refine lv_imul hx hb dX4_worth_20 ?_
    refine x_top (pk_mul 5 r) ?_
    refine lv_iload_n hx hb dX4_worth_21 rfl (lv_at hl 3 rfl) ?_
    refine lv_iadd hx hb dX4_worth_22 ?_
    refine x_top (nI_add (5 * r) k) ?_
    refine a_mco F hH ((5 * r) + k) (by omega) dX4_worth_23 ?_
    refine lv_imul hx hb dX4_worth_24 ?_
    refine lv_iadd hx hb dX4_worth_25 ?_
    refine lv_istore_n (lv' := [(2, .int (acc + ((f_X4_worthOf (nI k)) * (μ 4 ((5 * r) + k))))), (0, .ref (ea E 47)), (1, .int (nI r)), (3, .int (nI k))]) hx hb dX4_worth_26 rfl hl (by decide) rfl (fun ls hl => ?_)
    refine lv_iinc (v := nI (k + 1)) (lv' := [(3, .int (nI (k + 1))), (2, .int (acc + ((f_X4_worthOf (nI k)) * (μ 4 ((5 * r) + k))))), (0, .ref (ea E 47)), (1, .int (nI r))]) hx hb dX4_worth_27 hl (k := 3) rfl (nI_1 k) (by decide) rfl (fun ls hl => ?_)
    refine lv_goto (tgt := 4) hx hb dX4_worth_30 (by decide) ?_
    simp only [wsumM, rowM] at hk
    exact ih (k + 1) (acc + ((f_X4_worthOf (nI k)) * (μ 4 ((5 * r) + k)))) σ μ H locs ls (by omega) hH (lv_sub hl [2, 3, 1, 0] rfl) hk
set_option maxRecDepth 100000 in
set_option maxHeartbeats 4000000 in
theorem c_X4_worth (l : Launch) {E : EV} (hA : AD E) (σ μ : St) (r : Nat) (hr : r < 9) : Met l yX4_worth (.code yX4_worth cX4_worth 4 (some .int) :: gtbl) (rmL 1) (va_Pc [.ref (ea E 47), .int (nI r)] (PR E σ μ)) (QI E (wsumM (rowM μ r) 5 0 0) σ μ) 0 0 (eA E) := by
  refine x_met (own := RX4) (by decide) rfl hA (Nat.le_of_ble_eq_true rfl) ?_
  intro p e s m below meth c ls F hr hlk hH hl
  have hl : lv_has ls 4 [(0, .ref (ea E 47)), (1, .int (nI r))] := hl
  have hx := F.hx
  have hb := F.hb
  refine lv_iconst (v := 0) hx hb dX4_worth_0 (by decide) ?_
  refine lv_istore_n (lv' := [(2, .int 0), (0, .ref (ea E 47)), (1, .int (nI r))]) hx hb dX4_worth_1 rfl hl (by decide) rfl (fun ls hl => ?_)
  refine lv_iconst (v := 0) hx hb dX4_worth_2 (by decide) ?_
  refine lv_istore_n (lv' := [(3, .int 0), (2, .int 0), (0, .ref (ea E 47)), (1, .int (nI r))]) hx hb dX4_worth_3 rfl hl (by decide) rfl (fun ls hl => ?_)
  refine lp_X4_worth F r (by omega) 5 0 0 σ μ _ _ ls (by omega) hH (lv_sub hl [2, 3, 1, 0] rfl) (fun H locs ls hH hl => ?_)
  refine lv_iload_n hx hb dX4_worth_33 rfl (lv_at hl 2 rfl) ?_
  exact x_iretR F hr hlk hH rfl dX4_worth_34
set_option maxRecDepth 100000 in
set_option maxHeartbeats 4000000 in
theorem lp_X4_sum {p : Program} {l : Launch} {e : Env} {s : State} {m : MethodId} {args : Array Value} {below : List Frame} {meth : Method} {c : Code} {Q : State → Prop} {E : EV} (F : Fx E p s m args c cX4_sum RX4 3) (w : Nat) (hw : w = 5 ∨ (w = 7 ∧ 54 < en E)) : ∀ (n : Nat) (k : Nat) (acc : Int32) (σ μ : St) (H : Heap) (locs : List Loc) (ls : Array Slot), k + n = 5 → HS E s σ μ H locs → lv_has ls 3 [(0, .ref (ea E (47 + w))), (1, .int acc), (2, .int (nI k))] → (∀ (H : Heap) (locs : List Loc) (ls : Array Slot), HS E s σ μ H locs → lv_has ls 3 [(0, .ref (ea E (47 + w))), (1, .int (sumL (μ w) n k acc)), (2, .int (nI 5))] → W p l e (rmL 0) s m args below meth c H locs 0 0 Q (F0 m 21 ls [])) → W p l e (rmL 0) s m args below meth c H locs 0 0 Q (F0 m 4 ls []) := by
  have hx := F.hx
  have hb := F.hb
  intro n
  induction n with
  | zero =>
    intro k acc σ μ H locs ls hn hH hl hk
    obtain rfl : k = 5 := by omega
    refine lv_iload_n hx hb dX4_sum_4 rfl (lv_at hl 2 rfl) ?_
    refine lv_iconst (v := 5) hx hb dX4_sum_5 (by decide) ?_
    refine lv_icmp_ge (tgt := 21) hx hb dX4_sum_6 (by decide) (fun _ => ?_) (fun c_1 => absurd (by decide) c_1)
    simp only [sumL] at hk
    exact hk H locs ls hH (lv_sub hl [0, 1, 2] rfl)
  | succ n ih =>
    intro k acc σ μ H locs ls hn hH hl hk
    refine lv_iload_n hx hb dX4_sum_4 rfl (lv_at hl 2 rfl) ?_
    refine lv_iconst (v := 5) hx hb dX4_sum_5 (by decide) ?_
    refine lv_icmp_ge (tgt := 21) hx hb dX4_sum_6 (by decide) (fun c_1 => absurd c_1 (nI_ge (show k < 5 by omega) (by decide))) (fun _ => ?_)
    refine lv_iload_n hx hb dX4_sum_9 rfl (lv_at hl 1 rfl) ?_
    refine lv_aload_n hx hb dX4_sum_10 rfl (lv_at hl 0 rfl) ?_
    refine lv_iload_n hx hb dX4_sum_11 rfl (lv_at hl 2 rfl) ?_
    refine a_mA F hH hw k (by omega) dX4_sum_12 ?_
    refine lv_iadd hx hb dX4_sum_13 ?_
    refine lv_istore_n (lv' := [(1, .int (acc + (μ w k))), (0, .ref (ea E (47 + w))), (2, .int (nI k))]) hx hb dX4_sum_14 rfl hl (by decide) rfl (fun ls hl => ?_)
    refine lv_iinc (v := nI (k + 1)) (lv' := [(2, .int (nI (k + 1))), (1, .int (acc + (μ w k))), (0, .ref (ea E (47 + w)))]) hx hb dX4_sum_15 hl (k := 2) rfl (nI_1 k) (by decide) rfl (fun ls hl => ?_)
    refine lv_goto (tgt := 4) hx hb dX4_sum_18 (by decide) ?_
    simp only [sumL] at hk
    exact ih (k + 1) (acc + (μ w k)) σ μ H locs ls (by omega) hH (lv_sub hl [2, 1, 0] rfl) hk
set_option maxRecDepth 100000 in
set_option maxHeartbeats 4000000 in
theorem c_X4_sum (l : Launch) {E : EV} (hA : AD E) (σ μ : St) (w : Nat) (hw : w = 5 ∨ (w = 7 ∧ 54 < en E)) : Met l yX4_sum (.code yX4_sum cX4_sum 3 (some .int) :: gtbl) (rmL 0) (va_Pc [.ref (ea E (47 + w))] (PR E σ μ)) (QI E (sumL (μ w) 5 0 0) σ μ) 0 0 (eA E) := by
  refine x_met (own := RX4) (by decide) rfl hA (Nat.le_of_ble_eq_true rfl) ?_
  intro p e s m below meth c ls F hr hlk hH hl
  have hl : lv_has ls 3 [(0, .ref (ea E (47 + w)))] := hl
  have hx := F.hx
  have hb := F.hb
  refine lv_iconst (v := 0) hx hb dX4_sum_0 (by decide) ?_
  refine lv_istore_n (lv' := [(1, .int 0), (0, .ref (ea E (47 + w)))]) hx hb dX4_sum_1 rfl hl (by decide) rfl (fun ls hl => ?_)
  refine lv_iconst (v := 0) hx hb dX4_sum_2 (by decide) ?_
  refine lv_istore_n (lv' := [(2, .int 0), (1, .int 0), (0, .ref (ea E (47 + w)))]) hx hb dX4_sum_3 rfl hl (by decide) rfl (fun ls hl => ?_)
  refine lp_X4_sum F w hw 5 0 0 σ μ _ _ ls (by omega) hH (lv_sub hl [2, 1, 0] rfl) (fun H locs ls hH hl => ?_)
  refine lv_iload_n hx hb dX4_sum_21 rfl (lv_at hl 1 rfl) ?_
  exact x_iretR F hr hlk hH rfl dX4_sum_22
set_option maxRecDepth 100000 in
set_option maxHeartbeats 4000000 in
theorem lp_X4_go {p : Program} {l : Launch} {e : Env} {s : State} {m : MethodId} {args : Array Value} {below : List Frame} {meth : Method} {c : Code} {Q : State → Prop} {E : EV} (F : Fx E p s m args c cX4_go RX4 5) (fr to w : Nat) (hfr : fr < 9) (hto : to < 9) (hw : w = 5 ∨ (w = 7 ∧ 54 < en E)) : ∀ (n : Nat) (k : Nat) (σ μ : St) (H : Heap) (locs : List Loc) (ls : Array Slot), k + n = 5 → HS E s σ μ H locs → lv_has ls 5 [(0, .ref (ea E 47)), (1, .int (nI fr)), (2, .int (nI to)), (3, .ref (ea E (47 + w))), (4, .int (nI k))] → (∀ (H : Heap) (locs : List Loc) (ls : Array Slot), HS E s σ (goL fr to w n k μ) H locs → lv_has ls 5 [(0, .ref (ea E 47)), (1, .int (nI fr)), (2, .int (nI to)), (3, .ref (ea E (47 + w))), (4, .int (nI 5))] → W p l e (rmL 0) s m args below meth c H locs 0 0 Q (F0 m 51 ls [])) → W p l e (rmL 0) s m args below meth c H locs 0 0 Q (F0 m 3 ls []) := by
  have hx := F.hx
  have hb := F.hb
  intro n
  induction n with
  | zero =>
    intro k σ μ H locs ls hn hH hl hk
    obtain rfl : k = 5 := by omega
    refine lv_iload hx hb dX4_go_3 (lv_at hl 4 rfl) ?_
    refine lv_iconst (v := 5) hx hb dX4_go_5 (by decide) ?_
    refine lv_icmp_ge (tgt := 51) hx hb dX4_go_6 (by decide) (fun _ => ?_) (fun c_1 => absurd (by decide) c_1)
    simp only [goL] at hk
    exact hk H locs ls hH (lv_sub hl [0, 1, 2, 3, 4] rfl)
  | succ n ih =>
    intro k σ μ H locs ls hn hH hl hk
    refine lv_iload hx hb dX4_go_3 (lv_at hl 4 rfl) ?_
    refine lv_iconst (v := 5) hx hb dX4_go_5 (by decide) ?_
    refine lv_icmp_ge (tgt := 51) hx hb dX4_go_6 (by decide) (fun c_1 => absurd c_1 (nI_ge (show k < 5 by omega) (by decide))) (fun _ => ?_)
    refine lv_aload_n hx hb dX4_go_9 rfl (lv_at hl 0 rfl) ?_
    refine g_X4_coins F hH kw_298 dX4_go_10 ?_
    refine lv_iconst (v := 5) hx hb dX4_go_13 (by decide) ?_
    refine lv_iload_n hx hb dX4_go_14 rfl (lv_at hl 1 rfl) ?_
    refine lv_imul hx hb dX4_go_15 ?_
    refine x_top (pk_mul 5 fr) ?_
    refine lv_iload hx hb dX4_go_16 (lv_at hl 4 rfl) ?_
    refine lv_iadd hx hb dX4_go_18 ?_
    refine x_top (nI_add (5 * fr) k) ?_
    refine lv_dup2_11 hx hb dX4_go_19 rfl rfl ?_
    refine a_mco F hH ((5 * fr) + k) (by omega) dX4_go_20 ?_
    refine lv_aload_n hx hb dX4_go_21 rfl (lv_at hl 3 rfl) ?_
    refine lv_iload hx hb dX4_go_22 (lv_at hl 4 rfl) ?_
    refine a_mA F hH hw k (by omega) dX4_go_24 ?_
    refine lv_isub hx hb dX4_go_25 ?_
    refine s_mco F hH ((5 * fr) + k) (by omega) dX4_go_26 (fun H locs hH => ?_)
    refine lv_aload_n hx hb dX4_go_27 rfl (lv_at hl 0 rfl) ?_
    refine g_X4_coins F hH kw_298 dX4_go_28 ?_
    refine lv_iconst (v := 5) hx hb dX4_go_31 (by decide) ?_
    refine lv_iload_n hx hb dX4_go_32 rfl (lv_at hl 2 rfl) ?_
    refine lv_imul hx hb dX4_go_33 ?_
    refine x_top (pk_mul 5 to) ?_
    refine lv_iload hx hb dX4_go_34 (lv_at hl 4 rfl) ?_
    refine lv_iadd hx hb dX4_go_36 ?_
    refine x_top (nI_add (5 * to) k) ?_
    refine lv_dup2_11 hx hb dX4_go_37 rfl rfl ?_
    refine a_mco F hH ((5 * to) + k) (by omega) dX4_go_38 ?_
    refine lv_aload_n hx hb dX4_go_39 rfl (lv_at hl 3 rfl) ?_
    refine lv_iload hx hb dX4_go_40 (lv_at hl 4 rfl) ?_
    refine a_mA F hH hw k (by omega) dX4_go_42 ?_
    refine lv_iadd hx hb dX4_go_43 ?_
    refine s_mco F hH ((5 * to) + k) (by omega) dX4_go_44 (fun H locs hH => ?_)
    refine lv_iinc (v := nI (k + 1)) (lv' := [(4, .int (nI (k + 1))), (0, .ref (ea E 47)), (1, .int (nI fr)), (2, .int (nI to)), (3, .ref (ea E (47 + w)))]) hx hb dX4_go_45 hl (k := 4) rfl (nI_1 k) (by decide) rfl (fun ls hl => ?_)
    refine lv_goto (tgt := 3) hx hb dX4_go_48 (by decide) ?_
    simp only [goL] at hk
    exact ih (k + 1) σ (up (up μ 4 ((5 * fr) + k) ((μ 4 ((5 * fr) + k)) - (μ w k))) 4 ((5 * to) + k) (((up μ 4 ((5 * fr) + k) ((μ 4 ((5 * fr) + k)) - (μ w k))) 4 ((5 * to) + k)) + ((up μ 4 ((5 * fr) + k) ((μ 4 ((5 * fr) + k)) - (μ w k))) w k))) H locs ls (by omega) hH (lv_sub hl [1, 2, 3, 4, 0] rfl) hk
set_option maxRecDepth 100000 in
set_option maxHeartbeats 4000000 in
theorem c_X4_go (l : Launch) {E : EV} (hA : AD E) (σ μ : St) (fr : Nat) (to : Nat) (w : Nat) (hfr : fr < 9) (hto : to < 9) (hw : w = 5 ∨ (w = 7 ∧ 54 < en E)) : Met l yX4_go (.code yX4_go cX4_go 5 none :: gtbl) (rmL 0) (va_Pc [.ref (ea E 47), .int (nI fr), .int (nI to), .ref (ea E (47 + w))] (PR E σ μ)) (QV E σ (goL fr to w 5 0 μ)) 0 0 (eA E) := by
  refine x_met (own := RX4) (by decide) rfl hA (Nat.le_of_ble_eq_true rfl) ?_
  intro p e s m below meth c ls F hr hlk hH hl
  have hl : lv_has ls 5 [(0, .ref (ea E 47)), (1, .int (nI fr)), (2, .int (nI to)), (3, .ref (ea E (47 + w)))] := hl
  have hx := F.hx
  have hb := F.hb
  refine lv_iconst (v := 0) hx hb dX4_go_0 (by decide) ?_
  refine lv_istore (lv' := [(4, .int 0), (0, .ref (ea E 47)), (1, .int (nI fr)), (2, .int (nI to)), (3, .ref (ea E (47 + w)))]) hx hb dX4_go_1 hl (by decide) rfl (fun ls hl => ?_)
  refine lp_X4_go F fr to w hfr hto hw 5 0 σ μ _ _ ls (by omega) hH (lv_sub hl [1, 2, 3, 4, 0] rfl) (fun H locs ls hH hl => ?_)
  exact x_vret F hr hlk hH rfl rfl dX4_go_51
set_option maxRecDepth 100000 in
set_option maxHeartbeats 4000000 in
theorem lp_X4_lacks {p : Program} {l : Launch} {e : Env} {s : State} {m : MethodId} {args : Array Value} {below : List Frame} {meth : Method} {c : Code} {Q : State → Prop} {E : EV} (F : Fx E p s m args c cX4_lacks RX4 6) (t : Nat) (ht : t < 8) : ∀ (n : Nat) (rest : Int32) (σ μ : St) (H : Heap) (locs : List Loc) (ls : Array Slot), n ≤ 5 → HS E s σ μ H locs → lv_has ls 6 [(0, .ref (ea E 47)), (1, .int (nI t)), (3, .int rest), (4, .int (nI n + (-1)))] → (∀ (rf : Int32) (sf : St) (H : Heap) (locs : List Loc) (ls : Array Slot), lacksL t n rest μ = (rf, sf) → HS E s σ sf H locs → lv_has ls 6 [(0, .ref (ea E 47)), (1, .int (nI t)), (3, .int rf), (4, .int (nI 0 + (-1)))] → W p l e (rmL 1) s m args below meth c H locs 0 0 Q (F0 m 80 ls [])) → W p l e (rmL 1) s m args below meth c H locs 0 0 Q (F0 m 5 ls []) := by
  have hx := F.hx
  have hb := F.hb
  intro n
  induction n with
  | zero =>
    intro rest σ μ H locs ls hn hH hl hk
    refine lv_iload hx hb dX4_lacks_5 (lv_at hl 3 rfl) ?_
    refine lv_if_lt (tgt := 80) hx hb dX4_lacks_7 (by decide) (fun _ => ?_) (fun c_1 => absurd (by decide) c_1)
    exact hk _ _ H locs ls (by simp only [lacksL]) hH (lv_sub hl [0, 1, 2, 3] rfl)
  | succ n ih =>
    intro rest σ μ H locs ls hn hH hl hk
    rw [pk_m1] at hl
    refine lv_iload hx hb dX4_lacks_5 (lv_at hl 3 rfl) ?_
    refine lv_if_lt (tgt := 80) hx hb dX4_lacks_7 (by decide) (fun c_1 => absurd c_1 (nI_pos (by omega))) (fun _ => ?_)
    refine lv_iload_n hx hb dX4_lacks_10 rfl (lv_at hl 2 rfl) ?_
    refine lv_iload hx hb dX4_lacks_11 (lv_at hl 3 rfl) ?_
    refine x_pure hx hb F.hml F.hown F.hts (c_X4_worthOf l (nI n)) cw_X4_37 rfl rfl ⟨Nat.le_of_ble_eq_true rfl, Nat.le_of_ble_eq_true rfl⟩ rfl hl.1 rfl (Nat.le_of_ble_eq_true rfl) ⟨Nat.zero_le _, Nat.zero_le _⟩ dX4_lacks_13 ?_
    refine lv_idiv hx hb dX4_lacks_16 (worthOf_ne _) ?_
    refine lv_istore (lv' := [(5, .int (rest / (f_X4_worthOf (nI n)))), (0, .ref (ea E 47)), (1, .int (nI t)), (3, .int rest), (4, .int (nI n))]) hx hb dX4_lacks_17 hl (by decide) rfl (fun ls hl => ?_)
    refine lv_aload_n hx hb dX4_lacks_19 rfl (lv_at hl 1 rfl) ?_
    refine g_X4_paid F hH kw_303 dX4_lacks_20 ?_
    refine lv_iload hx hb dX4_lacks_23 (lv_at hl 4 rfl) ?_
    refine lv_iload hx hb dX4_lacks_25 (lv_at hl 0 rfl) ?_
    refine lv_aload_n hx hb dX4_lacks_27 rfl (lv_at hl 1 rfl) ?_
    refine g_X4_coins F hH kw_298 dX4_lacks_28 ?_
    refine lv_iconst (v := 5) hx hb dX4_lacks_31 (by decide) ?_
    refine lv_iload_n hx hb dX4_lacks_32 rfl (lv_at hl 2 rfl) ?_
    refine lv_imul hx hb dX4_lacks_33 ?_
    refine x_top (pk_mul 5 t) ?_
    refine lv_iload hx hb dX4_lacks_34 (lv_at hl 4 rfl) ?_
    refine lv_iadd hx hb dX4_lacks_36 ?_
    refine x_top (nI_add (5 * t) n) ?_
    refine a_mco F hH ((5 * t) + n) (by omega) dX4_lacks_37 ?_
    refine lv_icmp_ge (tgt := 46) hx hb dX4_lacks_38 (by decide) (fun c_2 => ?_) (fun c_2 => ?_)
    · refine lv_aload_n hx hb dX4_lacks_46 rfl (lv_at hl 1 rfl) ?_
      refine g_X4_coins F hH kw_298 dX4_lacks_47 ?_
      refine lv_iconst (v := 5) hx hb dX4_lacks_50 (by decide) ?_
      refine lv_iload_n hx hb dX4_lacks_51 rfl (lv_at hl 2 rfl) ?_
      refine lv_imul hx hb dX4_lacks_52 ?_
      refine x_top (pk_mul 5 t) ?_
      refine lv_iload hx hb dX4_lacks_53 (lv_at hl 4 rfl) ?_
      refine lv_iadd hx hb dX4_lacks_55 ?_
      refine x_top (nI_add (5 * t) n) ?_
      refine a_mco F hH ((5 * t) + n) (by omega) dX4_lacks_56 ?_
      refine s_mpa F hH n (by omega) dX4_lacks_57 (fun H locs hH => ?_)
      refine lv_iload_n hx hb dX4_lacks_58 rfl (lv_at hl 3 rfl) ?_
      refine lv_aload_n hx hb dX4_lacks_59 rfl (lv_at hl 1 rfl) ?_
      refine g_X4_paid F hH kw_303 dX4_lacks_60 ?_
      refine lv_iload hx hb dX4_lacks_63 (lv_at hl 4 rfl) ?_
      refine a_mpa F hH n (by omega) dX4_lacks_65 ?_
      refine lv_iload hx hb dX4_lacks_66 (lv_at hl 4 rfl) ?_
      refine x_pure hx hb F.hml F.hown F.hts (c_X4_worthOf l (nI n)) cw_X4_37 rfl rfl ⟨Nat.le_of_ble_eq_true rfl, Nat.le_of_ble_eq_true rfl⟩ rfl hl.1 rfl (Nat.le_of_ble_eq_true rfl) ⟨Nat.zero_le _, Nat.zero_le _⟩ dX4_lacks_68 ?_
      refine lv_imul hx hb dX4_lacks_71 ?_
      refine lv_isub hx hb dX4_lacks_72 ?_
      refine lv_istore_n (lv' := [(3, .int (rest - (((up μ 5 n (μ 4 ((5 * t) + n))) 5 n) * (f_X4_worthOf (nI n))))), (5, .int (rest / (f_X4_worthOf (nI n)))), (0, .ref (ea E 47)), (1, .int (nI t)), (4, .int (nI n))]) hx hb dX4_lacks_73 rfl hl (by decide) rfl (fun ls hl => ?_)
      refine lv_iinc (v := (nI n) + (-1)) (lv' := [(4, .int ((nI n) + (-1))), (3, .int (rest - (((up μ 5 n (μ 4 ((5 * t) + n))) 5 n) * (f_X4_worthOf (nI n))))), (5, .int (rest / (f_X4_worthOf (nI n)))), (0, .ref (ea E 47)), (1, .int (nI t))]) hx hb dX4_lacks_74 hl (k := 4) rfl rfl (by decide) rfl (fun ls hl => ?_)
      refine lv_goto (tgt := 5) hx hb dX4_lacks_77 (by decide) ?_
      exact ih (rest - (((up μ 5 n (μ 4 ((5 * t) + n))) 5 n) * (f_X4_worthOf (nI n)))) σ (up μ 5 n (μ 4 ((5 * t) + n))) H locs ls (by omega) hH (lv_sub hl [3, 4, 1, 0] rfl) (fun rf sf H locs ls e hH hl => hk rf sf H locs ls (by simpa only [lacksL, if_pos c_2] using e) hH hl)
    · refine lv_iload hx hb dX4_lacks_41 (lv_at hl 0 rfl) ?_
      refine lv_goto (tgt := 57) hx hb dX4_lacks_43 (by decide) ?_
      refine s_mpa F hH n (by omega) dX4_lacks_57 (fun H locs hH => ?_)
      refine lv_iload_n hx hb dX4_lacks_58 rfl (lv_at hl 3 rfl) ?_
      refine lv_aload_n hx hb dX4_lacks_59 rfl (lv_at hl 1 rfl) ?_
      refine g_X4_paid F hH kw_303 dX4_lacks_60 ?_
      refine lv_iload hx hb dX4_lacks_63 (lv_at hl 4 rfl) ?_
      refine a_mpa F hH n (by omega) dX4_lacks_65 ?_
      refine lv_iload hx hb dX4_lacks_66 (lv_at hl 4 rfl) ?_
      refine x_pure hx hb F.hml F.hown F.hts (c_X4_worthOf l (nI n)) cw_X4_37 rfl rfl ⟨Nat.le_of_ble_eq_true rfl, Nat.le_of_ble_eq_true rfl⟩ rfl hl.1 rfl (Nat.le_of_ble_eq_true rfl) ⟨Nat.zero_le _, Nat.zero_le _⟩ dX4_lacks_68 ?_
      refine lv_imul hx hb dX4_lacks_71 ?_
      refine lv_isub hx hb dX4_lacks_72 ?_
      refine lv_istore_n (lv' := [(3, .int (rest - (((up μ 5 n (rest / (f_X4_worthOf (nI n)))) 5 n) * (f_X4_worthOf (nI n))))), (5, .int (rest / (f_X4_worthOf (nI n)))), (0, .ref (ea E 47)), (1, .int (nI t)), (4, .int (nI n))]) hx hb dX4_lacks_73 rfl hl (by decide) rfl (fun ls hl => ?_)
      refine lv_iinc (v := (nI n) + (-1)) (lv' := [(4, .int ((nI n) + (-1))), (3, .int (rest - (((up μ 5 n (rest / (f_X4_worthOf (nI n)))) 5 n) * (f_X4_worthOf (nI n))))), (5, .int (rest / (f_X4_worthOf (nI n)))), (0, .ref (ea E 47)), (1, .int (nI t))]) hx hb dX4_lacks_74 hl (k := 4) rfl rfl (by decide) rfl (fun ls hl => ?_)
      refine lv_goto (tgt := 5) hx hb dX4_lacks_77 (by decide) ?_
      exact ih (rest - (((up μ 5 n (rest / (f_X4_worthOf (nI n)))) 5 n) * (f_X4_worthOf (nI n)))) σ (up μ 5 n (rest / (f_X4_worthOf (nI n)))) H locs ls (by omega) hH (lv_sub hl [3, 4, 1, 0] rfl) (fun rf sf H locs ls e hH hl => hk rf sf H locs ls (by simpa only [lacksL, if_neg c_2] using e) hH hl)
set_option maxRecDepth 100000 in
set_option maxHeartbeats 4000000 in
theorem c_X4_lacks (l : Launch) {E : EV} (hA : AD E) (σ μ : St) (t : Nat) (w : Int32) (ht : t < 8) : Met l yX4_lacks (.code yX4_lacks cX4_lacks 6 (some .int) :: gtbl) (rmL 1) (va_Pc [.ref (ea E 47), .int (nI t), .int w] (PR E σ μ)) (QI E (lacksL t 5 w μ).1 σ (lacksL t 5 w μ).2) 0 0 (eA E) := by
  refine x_met (own := RX4) (by decide) rfl hA (Nat.le_of_ble_eq_true rfl) ?_
  intro p e s m below meth c ls F hr hlk hH hl
  have hl : lv_has ls 6 [(0, .ref (ea E 47)), (1, .int (nI t)), (2, .int w)] := hl
  have hx := F.hx
  have hb := F.hb
  refine lv_iload_n hx hb dX4_lacks_0 rfl (lv_at hl 2 rfl) ?_
  refine lv_istore_n (lv' := [(3, .int w), (0, .ref (ea E 47)), (1, .int (nI t)), (2, .int w)]) hx hb dX4_lacks_1 rfl hl (by decide) rfl (fun ls hl => ?_)
  refine lv_iconst (v := 4) hx hb dX4_lacks_2 (by decide) ?_
  refine lv_istore (lv' := [(4, .int 4), (3, .int w), (0, .ref (ea E 47)), (1, .int (nI t)), (2, .int w)]) hx hb dX4_lacks_3 hl (by decide) rfl (fun ls hl => ?_)
  refine lp_X4_lacks F t ht 5 w σ μ _ _ ls (by omega) hH (lv_sub hl [2, 3, 1, 0] rfl) (fun r_1 s_2 H locs ls e_3 hH hl => ?_)
  refine lv_iload_n hx hb dX4_lacks_80 rfl (lv_at hl 2 rfl) ?_
  exact x_iretM F hr hlk hH e_3 dX4_lacks_81
set_option maxRecDepth 100000 in
set_option maxHeartbeats 4000000 in
theorem lp_X4_empty {p : Program} {l : Launch} {e : Env} {s : State} {m : MethodId} {args : Array Value} {below : List Frame} {meth : Method} {c : Code} {Q : State → Prop} {E : EV} (F : Fx E p s m args c cX4_empty RX4 3) (t : Nat) (ht : t < 8) : ∀ (n : Nat) (k : Nat) (σ μ : St) (H : Heap) (locs : List Loc) (ls : Array Slot), k + n = 5 → HS E s σ μ H locs → lv_has ls 3 [(0, .ref (ea E 47)), (1, .int (nI t)), (2, .int (nI k))] → (∀ (H : Heap) (locs : List Loc) (ls : Array Slot), HS E s σ (empL t n k μ) H locs → lv_has ls 3 [(0, .ref (ea E 47)), (1, .int (nI t)), (2, .int (nI 5))] → W p l e (rmL 0) s m args below meth c H locs 0 0 Q (F0 m 24 ls [])) → W p l e (rmL 0) s m args below meth c H locs 0 0 Q (F0 m 2 ls []) := by
  have hx := F.hx
  have hb := F.hb
  intro n
  induction n with
  | zero =>
    intro k σ μ H locs ls hn hH hl hk
    obtain rfl : k = 5 := by omega
    refine lv_iload_n hx hb dX4_empty_2 rfl (lv_at hl 2 rfl) ?_
    refine lv_iconst (v := 5) hx hb dX4_empty_3 (by decide) ?_
    refine lv_icmp_ge (tgt := 24) hx hb dX4_empty_4 (by decide) (fun _ => ?_) (fun c_1 => absurd (by decide) c_1)
    simp only [empL] at hk
    exact hk H locs ls hH (lv_sub hl [0, 1, 2] rfl)
  | succ n ih =>
    intro k σ μ H locs ls hn hH hl hk
    refine lv_iload_n hx hb dX4_empty_2 rfl (lv_at hl 2 rfl) ?_
    refine lv_iconst (v := 5) hx hb dX4_empty_3 (by decide) ?_
    refine lv_icmp_ge (tgt := 24) hx hb dX4_empty_4 (by decide) (fun c_1 => absurd c_1 (nI_ge (show k < 5 by omega) (by decide))) (fun _ => ?_)
    refine lv_aload_n hx hb dX4_empty_7 rfl (lv_at hl 0 rfl) ?_
    refine g_X4_coins F hH kw_298 dX4_empty_8 ?_
    refine lv_iconst (v := 5) hx hb dX4_empty_11 (by decide) ?_
    refine lv_iload_n hx hb dX4_empty_12 rfl (lv_at hl 1 rfl) ?_
    refine lv_imul hx hb dX4_empty_13 ?_
    refine x_top (pk_mul 5 t) ?_
    refine lv_iload_n hx hb dX4_empty_14 rfl (lv_at hl 2 rfl) ?_
    refine lv_iadd hx hb dX4_empty_15 ?_
    refine x_top (nI_add (5 * t) k) ?_
    refine lv_iconst (v := 0) hx hb dX4_empty_16 (by decide) ?_
    refine s_mco F hH ((5 * t) + k) (by omega) dX4_empty_17 (fun H locs hH => ?_)
    refine lv_iinc (v := nI (k + 1)) (lv' := [(2, .int (nI (k + 1))), (0, .ref (ea E 47)), (1, .int (nI t))]) hx hb dX4_empty_18 hl (k := 2) rfl (nI_1 k) (by decide) rfl (fun ls hl => ?_)
    refine lv_goto (tgt := 2) hx hb dX4_empty_21 (by decide) ?_
    simp only [empL] at hk
    exact ih (k + 1) σ (up μ 4 ((5 * t) + k) 0) H locs ls (by omega) hH (lv_sub hl [1, 2, 0] rfl) hk
set_option maxRecDepth 100000 in
set_option maxHeartbeats 4000000 in
theorem c_X4_empty (l : Launch) {E : EV} (hA : AD E) (σ μ : St) (t : Nat) (ht : t < 8) : Met l yX4_empty (.code yX4_empty cX4_empty 3 none :: gtbl) (rmL 0) (va_Pc [.ref (ea E 47), .int (nI t)] (PR E σ μ)) (QV E σ (empL t 5 0 μ)) 0 0 (eA E) := by
  refine x_met (own := RX4) (by decide) rfl hA (Nat.le_of_ble_eq_true rfl) ?_
  intro p e s m below meth c ls F hr hlk hH hl
  have hl : lv_has ls 3 [(0, .ref (ea E 47)), (1, .int (nI t))] := hl
  have hx := F.hx
  have hb := F.hb
  refine lv_iconst (v := 0) hx hb dX4_empty_0 (by decide) ?_
  refine lv_istore_n (lv' := [(2, .int 0), (0, .ref (ea E 47)), (1, .int (nI t))]) hx hb dX4_empty_1 rfl hl (by decide) rfl (fun ls hl => ?_)
  refine lp_X4_empty F t ht 5 0 σ μ _ _ ls (by omega) hH (lv_sub hl [1, 2, 0] rfl) (fun H locs ls hH hl => ?_)
  exact x_vret F hr hlk hH rfl rfl dX4_empty_24
set_option maxRecDepth 100000 in
set_option maxHeartbeats 4000000 in
theorem lp_X4_keep {p : Program} {l : Launch} {e : Env} {s : State} {m : MethodId} {args : Array Value} {below : List Frame} {meth : Method} {c : Code} {Q : State → Prop} {E : EV} (F : Fx E p s m args c cX4_keep RX4 4) (r at9 : Nat) (hr9 : r < 9) (hat : at9 < 7) : ∀ (n : Nat) (k : Nat) (σ μ : St) (H : Heap) (locs : List Loc) (ls : Array Slot), k + n = 5 → HS E s σ μ H locs → lv_has ls 4 [(0, .ref (ea E 47)), (1, .int (nI r)), (2, .int (nI at9)), (3, .int (nI k))] → (∀ (H : Heap) (locs : List Loc) (ls : Array Slot), HS E s σ (keepL r at9 n k μ) H locs → lv_has ls 4 [(0, .ref (ea E 47)), (1, .int (nI r)), (2, .int (nI at9)), (3, .int (nI 5))] → W p l e (rmL 0) s m args below meth c H locs 0 0 Q (F0 m 33 ls [])) → W p l e (rmL 0) s m args below meth c H locs 0 0 Q (F0 m 2 ls []) := by
  have hx := F.hx
  have hb := F.hb
  intro n
  induction n with
  | zero =>
    intro k σ μ H locs ls hn hH hl hk
    obtain rfl : k = 5 := by omega
    refine lv_iload_n hx hb dX4_keep_2 rfl (lv_at hl 3 rfl) ?_
    refine lv_iconst (v := 5) hx hb dX4_keep_3 (by decide) ?_
    refine lv_icmp_ge (tgt := 33) hx hb dX4_keep_4 (by decide) (fun _ => ?_) (fun c_1 => absurd (by decide) c_1)
    simp only [keepL] at hk
    exact hk H locs ls hH (lv_sub hl [0, 1, 2, 3] rfl)
  | succ n ih =>
    intro k σ μ H locs ls hn hH hl hk
    refine lv_iload_n hx hb dX4_keep_2 rfl (lv_at hl 3 rfl) ?_
    refine lv_iconst (v := 5) hx hb dX4_keep_3 (by decide) ?_
    refine lv_icmp_ge (tgt := 33) hx hb dX4_keep_4 (by decide) (fun c_1 => absurd c_1 (nI_ge (show k < 5 by omega) (by decide))) (fun _ => ?_)
    refine lv_aload_n hx hb dX4_keep_7 rfl (lv_at hl 0 rfl) ?_
    refine g_X4_kept F hH kw_304 dX4_keep_8 ?_
    refine lv_iconst (v := 5) hx hb dX4_keep_11 (by decide) ?_
    refine lv_iload_n hx hb dX4_keep_12 rfl (lv_at hl 2 rfl) ?_
    refine lv_imul hx hb dX4_keep_13 ?_
    refine x_top (pk_mul 5 at9) ?_
    refine lv_iload_n hx hb dX4_keep_14 rfl (lv_at hl 3 rfl) ?_
    refine lv_iadd hx hb dX4_keep_15 ?_
    refine x_top (nI_add (5 * at9) k) ?_
    refine lv_aload_n hx hb dX4_keep_16 rfl (lv_at hl 0 rfl) ?_
    refine g_X4_coins F hH kw_298 dX4_keep_17 ?_
    refine lv_iconst (v := 5) hx hb dX4_keep_20 (by decide) ?_
    refine lv_iload_n hx hb dX4_keep_21 rfl (lv_at hl 1 rfl) ?_
    refine lv_imul hx hb dX4_keep_22 ?_
    refine x_top (pk_mul 5 r) ?_
    refine lv_iload_n hx hb dX4_keep_23 rfl (lv_at hl 3 rfl) ?_
    refine lv_iadd hx hb dX4_keep_24 ?_
    refine x_top (nI_add (5 * r) k) ?_
    refine a_mco F hH ((5 * r) + k) (by omega) dX4_keep_25 ?_
    refine s_mke F hH ((5 * at9) + k) (by omega) dX4_keep_26 (fun H locs hH => ?_)
    refine lv_iinc (v := nI (k + 1)) (lv' := [(3, .int (nI (k + 1))), (0, .ref (ea E 47)), (1, .int (nI r)), (2, .int (nI at9))]) hx hb dX4_keep_27 hl (k := 3) rfl (nI_1 k) (by decide) rfl (fun ls hl => ?_)
    refine lv_goto (tgt := 2) hx hb dX4_keep_30 (by decide) ?_
    simp only [keepL] at hk
    exact ih (k + 1) σ (up μ 6 ((5 * at9) + k) (μ 4 ((5 * r) + k))) H locs ls (by omega) hH (lv_sub hl [1, 2, 3, 0] rfl) hk
set_option maxRecDepth 100000 in
set_option maxHeartbeats 4000000 in
theorem c_X4_keep (l : Launch) {E : EV} (hA : AD E) (σ μ : St) (r : Nat) (at9 : Nat) (hr : r < 9) (hat9 : at9 < 7) : Met l yX4_keep (.code yX4_keep cX4_keep 4 none :: gtbl) (rmL 0) (va_Pc [.ref (ea E 47), .int (nI r), .int (nI at9)] (PR E σ μ)) (QV E σ (keepL r at9 5 0 μ)) 0 0 (eA E) := by
  refine x_met (own := RX4) (by decide) rfl hA (Nat.le_of_ble_eq_true rfl) ?_
  intro p e s m below meth c ls F hr hlk hH hl
  have hl : lv_has ls 4 [(0, .ref (ea E 47)), (1, .int (nI r)), (2, .int (nI at9))] := hl
  have hx := F.hx
  have hb := F.hb
  refine lv_iconst (v := 0) hx hb dX4_keep_0 (by decide) ?_
  refine lv_istore_n (lv' := [(3, .int 0), (0, .ref (ea E 47)), (1, .int (nI r)), (2, .int (nI at9))]) hx hb dX4_keep_1 rfl hl (by decide) rfl (fun ls hl => ?_)
  refine lp_X4_keep F r at9 (by omega) (by omega) 5 0 σ μ _ _ ls (by omega) hH (lv_sub hl [1, 2, 3, 0] rfl) (fun H locs ls hH hl => ?_)
  exact x_vret F hr hlk hH rfl rfl dX4_keep_33
set_option maxRecDepth 100000 in
set_option maxHeartbeats 4000000 in
theorem lp_X4_putBack {p : Program} {l : Launch} {e : Env} {s : State} {m : MethodId} {args : Array Value} {below : List Frame} {meth : Method} {c : Code} {Q : State → Prop} {E : EV} (F : Fx E p s m args c cX4_putBack RX4 4) (r at9 : Nat) (hr9 : r < 9) (hat : at9 < 7) : ∀ (n : Nat) (k : Nat) (σ μ : St) (H : Heap) (locs : List Loc) (ls : Array Slot), k + n = 5 → HS E s σ μ H locs → lv_has ls 4 [(0, .ref (ea E 47)), (1, .int (nI r)), (2, .int (nI at9)), (3, .int (nI k))] → (∀ (H : Heap) (locs : List Loc) (ls : Array Slot), HS E s σ (backL r at9 n k μ) H locs → lv_has ls 4 [(0, .ref (ea E 47)), (1, .int (nI r)), (2, .int (nI at9)), (3, .int (nI 5))] → W p l e (rmL 0) s m args below meth c H locs 0 0 Q (F0 m 33 ls [])) → W p l e (rmL 0) s m args below meth c H locs 0 0 Q (F0 m 2 ls []) := by
  have hx := F.hx
  have hb := F.hb
  intro n
  induction n with
  | zero =>
    intro k σ μ H locs ls hn hH hl hk
    obtain rfl : k = 5 := by omega
    refine lv_iload_n hx hb dX4_putBack_2 rfl (lv_at hl 3 rfl) ?_
    refine lv_iconst (v := 5) hx hb dX4_putBack_3 (by decide) ?_
    refine lv_icmp_ge (tgt := 33) hx hb dX4_putBack_4 (by decide) (fun _ => ?_) (fun c_1 => absurd (by decide) c_1)
    simp only [backL] at hk
    exact hk H locs ls hH (lv_sub hl [0, 1, 2, 3] rfl)
  | succ n ih =>
    intro k σ μ H locs ls hn hH hl hk
    refine lv_iload_n hx hb dX4_putBack_2 rfl (lv_at hl 3 rfl) ?_
    refine lv_iconst (v := 5) hx hb dX4_putBack_3 (by decide) ?_
    refine lv_icmp_ge (tgt := 33) hx hb dX4_putBack_4 (by decide) (fun c_1 => absurd c_1 (nI_ge (show k < 5 by omega) (by decide))) (fun _ => ?_)
    refine lv_aload_n hx hb dX4_putBack_7 rfl (lv_at hl 0 rfl) ?_
    refine g_X4_coins F hH kw_298 dX4_putBack_8 ?_
    refine lv_iconst (v := 5) hx hb dX4_putBack_11 (by decide) ?_
    refine lv_iload_n hx hb dX4_putBack_12 rfl (lv_at hl 1 rfl) ?_
    refine lv_imul hx hb dX4_putBack_13 ?_
    refine x_top (pk_mul 5 r) ?_
    refine lv_iload_n hx hb dX4_putBack_14 rfl (lv_at hl 3 rfl) ?_
    refine lv_iadd hx hb dX4_putBack_15 ?_
    refine x_top (nI_add (5 * r) k) ?_
    refine lv_aload_n hx hb dX4_putBack_16 rfl (lv_at hl 0 rfl) ?_
    refine g_X4_kept F hH kw_304 dX4_putBack_17 ?_
    refine lv_iconst (v := 5) hx hb dX4_putBack_20 (by decide) ?_
    refine lv_iload_n hx hb dX4_putBack_21 rfl (lv_at hl 2 rfl) ?_
    refine lv_imul hx hb dX4_putBack_22 ?_
    refine x_top (pk_mul 5 at9) ?_
    refine lv_iload_n hx hb dX4_putBack_23 rfl (lv_at hl 3 rfl) ?_
    refine lv_iadd hx hb dX4_putBack_24 ?_
    refine x_top (nI_add (5 * at9) k) ?_
    refine a_mke F hH ((5 * at9) + k) (by omega) dX4_putBack_25 ?_
    refine s_mco F hH ((5 * r) + k) (by omega) dX4_putBack_26 (fun H locs hH => ?_)
    refine lv_iinc (v := nI (k + 1)) (lv' := [(3, .int (nI (k + 1))), (0, .ref (ea E 47)), (1, .int (nI r)), (2, .int (nI at9))]) hx hb dX4_putBack_27 hl (k := 3) rfl (nI_1 k) (by decide) rfl (fun ls hl => ?_)
    refine lv_goto (tgt := 2) hx hb dX4_putBack_30 (by decide) ?_
    simp only [backL] at hk
    exact ih (k + 1) σ (up μ 4 ((5 * r) + k) (μ 6 ((5 * at9) + k))) H locs ls (by omega) hH (lv_sub hl [1, 2, 3, 0] rfl) hk
set_option maxRecDepth 100000 in
set_option maxHeartbeats 4000000 in
theorem c_X4_putBack (l : Launch) {E : EV} (hA : AD E) (σ μ : St) (r : Nat) (at9 : Nat) (hr : r < 9) (hat9 : at9 < 7) : Met l yX4_putBack (.code yX4_putBack cX4_putBack 4 none :: gtbl) (rmL 0) (va_Pc [.ref (ea E 47), .int (nI r), .int (nI at9)] (PR E σ μ)) (QV E σ (backL r at9 5 0 μ)) 0 0 (eA E) := by
  refine x_met (own := RX4) (by decide) rfl hA (Nat.le_of_ble_eq_true rfl) ?_
  intro p e s m below meth c ls F hr hlk hH hl
  have hl : lv_has ls 4 [(0, .ref (ea E 47)), (1, .int (nI r)), (2, .int (nI at9))] := hl
  have hx := F.hx
  have hb := F.hb
  refine lv_iconst (v := 0) hx hb dX4_putBack_0 (by decide) ?_
  refine lv_istore_n (lv' := [(3, .int 0), (0, .ref (ea E 47)), (1, .int (nI r)), (2, .int (nI at9))]) hx hb dX4_putBack_1 rfl hl (by decide) rfl (fun ls hl => ?_)
  refine lp_X4_putBack F r at9 (by omega) (by omega) 5 0 σ μ _ _ ls (by omega) hH (lv_sub hl [1, 2, 3, 0] rfl) (fun H locs ls hH hl => ?_)
  exact x_vret F hr hlk hH rfl rfl dX4_putBack_33
def f_X4_hold (μ : St) (t : Nat) : Int32 × St :=
  if (bz (μ 1 t)) = 0 then
    (1, μ)
  else
    if ((up (up μ 0 1 ((μ 0 1) + 1)) 0 3 (((up μ 0 1 ((μ 0 1) + 1)) 0 3) + 1)) 0 3) ≤ ((up (up μ 0 1 ((μ 0 1) + 1)) 0 3 (((up μ 0 1 ((μ 0 1) + 1)) 0 3) + 1)) 0 4) then
      (0, (up (up (up μ 0 1 ((μ 0 1) + 1)) 0 3 (((up μ 0 1 ((μ 0 1) + 1)) 0 3) + 1)) 0 4 ((up (up μ 0 1 ((μ 0 1) + 1)) 0 3 (((up μ 0 1 ((μ 0 1) + 1)) 0 3) + 1)) 0 4)))
    else
      (0, (up (up (up μ 0 1 ((μ 0 1) + 1)) 0 3 (((up μ 0 1 ((μ 0 1) + 1)) 0 3) + 1)) 0 4 ((up (up μ 0 1 ((μ 0 1) + 1)) 0 3 (((up μ 0 1 ((μ 0 1) + 1)) 0 3) + 1)) 0 3)))
set_option maxRecDepth 100000 in
set_option maxHeartbeats 4000000 in
theorem c_X4_hold (l : Launch) {E : EV} (hA : AD E) (σ μ : St) (t : Nat) (ht : t < 8) : Met l yX4_hold (.code yX4_hold cX4_hold 2 (some .int) :: gtbl) (rmL 0) (va_Pc [.ref (ea E 47), .int (nI t)] (PR E σ μ)) (QI E (f_X4_hold μ t).1 σ (f_X4_hold μ t).2) 0 0 (eA E) := by
  refine x_met (own := RX4) (by decide) rfl hA (Nat.le_of_ble_eq_true rfl) ?_
  intro p e s m below meth c ls F hr hlk hH hl
  have hl : lv_has ls 2 [(0, .ref (ea E 47)), (1, .int (nI t))] := hl
  have hx := F.hx
  have hb := F.hb
  refine lv_aload_n hx hb dX4_hold_0 rfl (lv_at hl 0 rfl) ?_
  refine g_X4_isThere F hH kw_295 dX4_hold_1 ?_
  refine lv_iload_n hx hb dX4_hold_4 rfl (lv_at hl 1 rfl) ?_
  refine a_mth F hH t (by omega) dX4_hold_5 ?_
  refine lv_if_ne (tgt := 11) hx hb dX4_hold_6 (by decide) (fun c_1 => ?_) (fun c_1 => ?_)
  · refine lv_aload_n hx hb dX4_hold_11 rfl (lv_at hl 0 rfl) ?_
    refine lv_dup hx hb dX4_hold_12 rfl ?_
    refine g_X4_holds F hH kw_299 dX4_hold_13 ?_
    refine lv_iconst (v := 1) hx hb dX4_hold_16 (by decide) ?_
    refine lv_iadd hx hb dX4_hold_17 ?_
    refine p_X4_holds F hH kw_299 dX4_hold_18 (fun H locs hH => ?_)
    refine lv_aload_n hx hb dX4_hold_21 rfl (lv_at hl 0 rfl) ?_
    refine lv_dup hx hb dX4_hold_22 rfl ?_
    refine g_X4_depth F hH kw_301 dX4_hold_23 ?_
    refine lv_iconst (v := 1) hx hb dX4_hold_26 (by decide) ?_
    refine lv_iadd hx hb dX4_hold_27 ?_
    refine p_X4_depth F hH kw_301 dX4_hold_28 (fun H locs hH => ?_)
    refine lv_aload_n hx hb dX4_hold_31 rfl (lv_at hl 0 rfl) ?_
    refine lv_aload_n hx hb dX4_hold_32 rfl (lv_at hl 0 rfl) ?_
    refine g_X4_depth F hH kw_301 dX4_hold_33 ?_
    refine lv_aload_n hx hb dX4_hold_36 rfl (lv_at hl 0 rfl) ?_
    refine g_X4_deepest F hH kw_302 dX4_hold_37 ?_
    refine lv_icmp_le (tgt := 50) hx hb dX4_hold_40 (by decide) (fun c_2 => ?_) (fun c_2 => ?_)
    · refine lv_aload_n hx hb dX4_hold_50 rfl (lv_at hl 0 rfl) ?_
      refine g_X4_deepest F hH kw_302 dX4_hold_51 ?_
      refine p_X4_deepest F hH kw_302 dX4_hold_54 (fun H locs hH => ?_)
      refine lv_iconst (v := 0) hx hb dX4_hold_57 (by decide) ?_
      exact x_iretM F hr hlk hH (by simp only [f_X4_hold, if_neg c_1, if_pos c_2]) dX4_hold_58
    · refine lv_aload_n hx hb dX4_hold_43 rfl (lv_at hl 0 rfl) ?_
      refine g_X4_depth F hH kw_301 dX4_hold_44 ?_
      refine lv_goto (tgt := 54) hx hb dX4_hold_47 (by decide) ?_
      refine p_X4_deepest F hH kw_302 dX4_hold_54 (fun H locs hH => ?_)
      refine lv_iconst (v := 0) hx hb dX4_hold_57 (by decide) ?_
      exact x_iretM F hr hlk hH (by simp only [f_X4_hold, if_neg c_1, if_neg c_2]) dX4_hold_58
  · refine lv_iconst (v := 1) hx hb dX4_hold_9 (by decide) ?_
    exact x_iretM F hr hlk hH (by simp only [f_X4_hold, if_pos c_1]) dX4_hold_10
def f_X4_leave (μ : St) (f : Int32) : Int32 × St :=
  if f = 0 then
    (f, (up (up μ 0 3 ((μ 0 3) - 1)) 0 2 (((up μ 0 3 ((μ 0 3) - 1)) 0 2) + 0)))
  else
    (f, (up (up μ 0 3 ((μ 0 3) - 1)) 0 2 (((up μ 0 3 ((μ 0 3) - 1)) 0 2) + 1)))
set_option maxRecDepth 100000 in
set_option maxHeartbeats 4000000 in
theorem c_X4_leave (l : Launch) {E : EV} (hA : AD E) (σ μ : St) (f : Int32) : Met l yX4_leave (.code yX4_leave cX4_leave 2 (some .int) :: gtbl) (rmL 0) (va_Pc [.ref (ea E 47), .int f] (PR E σ μ)) (QI E (f_X4_leave μ f).1 σ (f_X4_leave μ f).2) 0 0 (eA E) := by
  refine x_met (own := RX4) (by decide) rfl hA (Nat.le_of_ble_eq_true rfl) ?_
  intro p e s m below meth c ls F hr hlk hH hl
  have hl : lv_has ls 2 [(0, .ref (ea E 47)), (1, .int f)] := hl
  have hx := F.hx
  have hb := F.hb
  refine lv_aload_n hx hb dX4_leave_0 rfl (lv_at hl 0 rfl) ?_
  refine lv_dup hx hb dX4_leave_1 rfl ?_
  refine g_X4_depth F hH kw_301 dX4_leave_2 ?_
  refine lv_iconst (v := 1) hx hb dX4_leave_5 (by decide) ?_
  refine lv_isub hx hb dX4_leave_6 ?_
  refine p_X4_depth F hH kw_301 dX4_leave_7 (fun H locs hH => ?_)
  refine lv_aload_n hx hb dX4_leave_10 rfl (lv_at hl 0 rfl) ?_
  refine lv_dup hx hb dX4_leave_11 rfl ?_
  refine g_X4_left F hH kw_300 dX4_leave_12 ?_
  refine lv_iload_n hx hb dX4_leave_15 rfl (lv_at hl 1 rfl) ?_
  refine lv_if_ne (tgt := 23) hx hb dX4_leave_16 (by decide) (fun c_1 => ?_) (fun c_1 => ?_)
  · refine lv_iconst (v := 1) hx hb dX4_leave_23 (by decide) ?_
    refine lv_iadd hx hb dX4_leave_24 ?_
    refine p_X4_left F hH kw_300 dX4_leave_25 (fun H locs hH => ?_)
    refine lv_iload_n hx hb dX4_leave_28 rfl (lv_at hl 1 rfl) ?_
    exact x_iretM F hr hlk hH (by simp only [f_X4_leave, if_neg c_1]) dX4_leave_29
  · refine lv_iconst (v := 0) hx hb dX4_leave_19 (by decide) ?_
    refine lv_goto (tgt := 24) hx hb dX4_leave_20 (by decide) ?_
    refine lv_iadd hx hb dX4_leave_24 ?_
    refine p_X4_left F hH kw_300 dX4_leave_25 (fun H locs hH => ?_)
    refine lv_iload_n hx hb dX4_leave_28 rfl (lv_at hl 1 rfl) ?_
    exact x_iretM F hr hlk hH (by simp only [f_X4_leave, if_pos c_1]) dX4_leave_29
def f_X4_pay (μ : St) (t : Nat) (w : Int32) : Int32 × St :=
  if (bz (μ 2 t)) = 0 then
    match lacksL t 5 w μ with
    | (r_2, s_3) =>
      if r_2 ≤ 0 then
        (0, (goL t 8 5 5 0 s_3))
      else
        (3, s_3)
  else
    (2, μ)
set_option maxRecDepth 100000 in
set_option maxHeartbeats 4000000 in
theorem c_X4_pay (l : Launch) {E : EV} (hA : AD E) (σ μ : St) (t : Nat) (w : Int32) (ht : t < 8) : Met l yX4_pay (.code yX4_pay cX4_pay 3 (some .int) :: gtbl) (rmL 2) (va_Pc [.ref (ea E 47), .int (nI t), .int w] (PR E σ μ)) (QI E (f_X4_pay μ t w).1 σ (f_X4_pay μ t w).2) 0 0 (eA E) := by
  refine x_met (own := RX4) (by decide) rfl hA (Nat.le_of_ble_eq_true rfl) ?_
  intro p e s m below meth c ls F hr hlk hH hl
  have hl : lv_has ls 3 [(0, .ref (ea E 47)), (1, .int (nI t)), (2, .int w)] := hl
  have hx := F.hx
  have hb := F.hb
  refine lv_aload_n hx hb dX4_pay_0 rfl (lv_at hl 0 rfl) ?_
  refine g_X4_isShut F hH kw_296 dX4_pay_1 ?_
  refine lv_iload_n hx hb dX4_pay_4 rfl (lv_at hl 1 rfl) ?_
  refine a_msh F hH t (by omega) dX4_pay_5 ?_
  refine lv_if_eq (tgt := 11) hx hb dX4_pay_6 (by decide) (fun c_1 => ?_) (fun c_1 => ?_)
  · refine lv_aload_n hx hb dX4_pay_11 rfl (lv_at hl 0 rfl) ?_
    refine lv_iload_n hx hb dX4_pay_12 rfl (lv_at hl 1 rfl) ?_
    refine lv_iload_n hx hb dX4_pay_13 rfl (lv_at hl 2 rfl) ?_
    refine x_calliM F hH 47 (F.lt (by omega)) (vv4 0) rfl (c_X4_lacks l F.ad σ μ t w (by omega)) cw_X4_53 rfl rfl ⟨Nat.le_of_ble_eq_true rfl, Nat.le_of_ble_eq_true rfl⟩ rfl hl.1 rfl (Nat.le_of_ble_eq_true rfl) ⟨Nat.zero_le _, Nat.zero_le _⟩ dX4_pay_14 (fun r_2 s_3 H locs e_4 hH => ?_)
    refine lv_if_le (tgt := 22) hx hb dX4_pay_17 (by decide) (fun c_5 => ?_) (fun c_5 => ?_)
    · refine lv_aload_n hx hb dX4_pay_22 rfl (lv_at hl 0 rfl) ?_
      refine lv_iload_n hx hb dX4_pay_23 rfl (lv_at hl 1 rfl) ?_
      refine lv_bipush (v := 8) hx hb dX4_pay_24 (by decide) ?_
      refine lv_aload_n hx hb dX4_pay_26 rfl (lv_at hl 0 rfl) ?_
      refine g_X4_paid F hH kw_303 dX4_pay_27 ?_
      refine x_callv F hH 47 (F.lt (by omega)) (vv4 0) rfl (c_X4_go l F.ad σ s_3 t 8 5 (by omega) (by omega) (by omega)) cw_X4_57 rfl rfl ⟨Nat.le_of_ble_eq_true rfl, Nat.le_of_ble_eq_true rfl⟩ rfl hl.1 rfl (Nat.le_of_ble_eq_true rfl) ⟨Nat.zero_le _, Nat.zero_le _⟩ dX4_pay_30 (fun H locs hH => ?_)
      refine lv_iconst (v := 0) hx hb dX4_pay_33 (by decide) ?_
      exact x_iretM F hr hlk hH (by simp only [f_X4_pay, if_pos c_1, e_4, if_pos c_5]) dX4_pay_34
    · refine lv_iconst (v := 3) hx hb dX4_pay_20 (by decide) ?_
      exact x_iretM F hr hlk hH (by simp only [f_X4_pay, if_pos c_1, e_4, if_neg c_5]) dX4_pay_21
  · refine lv_iconst (v := 2) hx hb dX4_pay_9 (by decide) ?_
    exact x_iretM F hr hlk hH (by simp only [f_X4_pay, if_neg c_1]) dX4_pay_10
def f_X4_lay (μ : St) (t : Nat) (w : Nat) : Int32 × St :=
  if (bz (μ 2 t)) = 0 then
    if ((sumL (rowM μ t) 5 0 0) + (sumL (μ w) 5 0 0)) ≤ (μ 3 t) then
      (0, (goL 8 t w 5 0 μ))
    else
      (4, μ)
  else
    (2, μ)
set_option maxRecDepth 100000 in
set_option maxHeartbeats 4000000 in
theorem c_X4_lay (l : Launch) {E : EV} (hA : AD E) (σ μ : St) (t : Nat) (w : Nat) (ht : t < 8) (hw : w = 5 ∨ (w = 7 ∧ 54 < en E)) : Met l yX4_lay (.code yX4_lay cX4_lay 3 (some .int) :: gtbl) (rmL 1) (va_Pc [.ref (ea E 47), .int (nI t), .ref (ea E (47 + w))] (PR E σ μ)) (QI E (f_X4_lay μ t w).1 σ (f_X4_lay μ t w).2) 0 0 (eA E) := by
  refine x_met (own := RX4) (by decide) rfl hA (Nat.le_of_ble_eq_true rfl) ?_
  intro p e s m below meth c ls F hr hlk hH hl
  have hl : lv_has ls 3 [(0, .ref (ea E 47)), (1, .int (nI t)), (2, .ref (ea E (47 + w)))] := hl
  have hx := F.hx
  have hb := F.hb
  refine lv_aload_n hx hb dX4_lay_0 rfl (lv_at hl 0 rfl) ?_
  refine g_X4_isShut F hH kw_296 dX4_lay_1 ?_
  refine lv_iload_n hx hb dX4_lay_4 rfl (lv_at hl 1 rfl) ?_
  refine a_msh F hH t (by omega) dX4_lay_5 ?_
  refine lv_if_eq (tgt := 11) hx hb dX4_lay_6 (by decide) (fun c_1 => ?_) (fun c_1 => ?_)
  · refine lv_aload_n hx hb dX4_lay_11 rfl (lv_at hl 0 rfl) ?_
    refine lv_iload_n hx hb dX4_lay_12 rfl (lv_at hl 1 rfl) ?_
    refine x_calliR F hH 47 (F.lt (by omega)) (vv4 0) rfl (c_X4_all l F.ad σ μ t (by omega)) cw_X4_61 rfl rfl ⟨Nat.le_of_ble_eq_true rfl, Nat.le_of_ble_eq_true rfl⟩ rfl hl.1 rfl (Nat.le_of_ble_eq_true rfl) ⟨Nat.zero_le _, Nat.zero_le _⟩ dX4_lay_13 (fun H locs hH => ?_)
    refine lv_aload_n hx hb dX4_lay_16 rfl (lv_at hl 2 rfl) ?_
    refine x_callsR F hH (c_X4_sum l F.ad σ μ w (by omega)) cw_X4_64 rfl rfl ⟨Nat.le_of_ble_eq_true rfl, Nat.le_of_ble_eq_true rfl⟩ rfl hl.1 rfl (Nat.le_of_ble_eq_true rfl) ⟨Nat.zero_le _, Nat.zero_le _⟩ dX4_lay_17 (fun H locs hH => ?_)
    refine lv_iadd hx hb dX4_lay_20 ?_
    refine lv_aload_n hx hb dX4_lay_21 rfl (lv_at hl 0 rfl) ?_
    refine g_X4_limit F hH kw_297 dX4_lay_22 ?_
    refine lv_iload_n hx hb dX4_lay_25 rfl (lv_at hl 1 rfl) ?_
    refine a_mli F hH t (by omega) dX4_lay_26 ?_
    refine lv_icmp_le (tgt := 32) hx hb dX4_lay_27 (by decide) (fun c_2 => ?_) (fun c_2 => ?_)
    · refine lv_aload_n hx hb dX4_lay_32 rfl (lv_at hl 0 rfl) ?_
      refine lv_bipush (v := 8) hx hb dX4_lay_33 (by decide) ?_
      refine lv_iload_n hx hb dX4_lay_35 rfl (lv_at hl 1 rfl) ?_
      refine lv_aload_n hx hb dX4_lay_36 rfl (lv_at hl 2 rfl) ?_
      refine x_callv F hH 47 (F.lt (by omega)) (vv4 0) rfl (c_X4_go l F.ad σ μ 8 t w (by omega) (by omega) (by omega)) cw_X4_57 rfl rfl ⟨Nat.le_of_ble_eq_true rfl, Nat.le_of_ble_eq_true rfl⟩ rfl hl.1 rfl (Nat.le_of_ble_eq_true rfl) ⟨Nat.zero_le _, Nat.zero_le _⟩ dX4_lay_37 (fun H locs hH => ?_)
      refine lv_iconst (v := 0) hx hb dX4_lay_40 (by decide) ?_
      exact x_iretM F hr hlk hH (by simp only [f_X4_lay, if_pos c_1, if_pos c_2]) dX4_lay_41
    · refine lv_iconst (v := 4) hx hb dX4_lay_30 (by decide) ?_
      exact x_iretM F hr hlk hH (by simp only [f_X4_lay, if_pos c_1, if_neg c_2]) dX4_lay_31
  · refine lv_iconst (v := 2) hx hb dX4_lay_9 (by decide) ?_
    exact x_iretM F hr hlk hH (by simp only [f_X4_lay, if_neg c_1]) dX4_lay_10
def f_X4_told_ (μ : St) (r : Nat) (wh : Nat) (most : Int32) : Int32 :=
  if 5 ≤ (nI wh) then
    if (nI wh) = 5 then
      sumL (rowM μ r) 5 0 0
    else
      if (nI wh) = 6 then
        wsumM (rowM μ r) 5 0 0
      else
        if (nI wh) = 7 then
          μ 3 r
        else
          if (bz (μ 2 r)) = 0 then
            0
          else
            1
  else
    μ 4 ((5 * r) + wh)
set_option maxRecDepth 100000 in
set_option maxHeartbeats 4000000 in
theorem c_X4_told_ (l : Launch) {E : EV} (hA : AD E) (σ μ : St) (r : Nat) (wh : Nat) (most : Int32) (hr : r < 9) (hwh : wh < 9) (hrw : r < 8 ∨ wh < 7) : Met l yX4_told_ (.code yX4_told_ cX4_told_ 4 (some .int) :: gtbl) (rmL 2) (va_Pc [.ref (ea E 47), .int (nI r), .int (nI wh), .int most] (PR E σ μ)) (QI E (f_X4_told_ μ r wh most) σ μ) 0 0 (eA E) := by
  refine x_met (own := RX4) (by decide) rfl hA (Nat.le_of_ble_eq_true rfl) ?_
  intro p e s m below meth c ls F hr hlk hH hl
  have hl : lv_has ls 4 [(0, .ref (ea E 47)), (1, .int (nI r)), (2, .int (nI wh)), (3, .int most)] := hl
  have hx := F.hx
  have hb := F.hb
  refine lv_iload_n hx hb dX4_told__0 rfl (lv_at hl 2 rfl) ?_
  refine lv_iconst (v := 5) hx hb dX4_told__1 (by decide) ?_
  refine lv_icmp_ge (tgt := 18) hx hb dX4_told__2 (by decide) (fun c_1 => ?_) (fun c_1 => ?_)
  · have q_2 := (fq_ge (a := wh) (b := 5) rfl (by omega) (by omega)).mp c_1
    refine lv_iload_n hx hb dX4_told__18 rfl (lv_at hl 2 rfl) ?_
    refine lv_iconst (v := 5) hx hb dX4_told__19 (by decide) ?_
    refine lv_icmp_ne (tgt := 31) hx hb dX4_told__20 (by decide) (fun c_3 => ?_) (fun c_3 => ?_)
    · have q_4 := mt (fq_eq (a := wh) (b := 5) rfl (by omega) (by omega)).mpr c_3
      refine lv_iload_n hx hb dX4_told__31 rfl (lv_at hl 2 rfl) ?_
      refine lv_bipush (v := 6) hx hb dX4_told__32 (by decide) ?_
      refine lv_icmp_ne (tgt := 45) hx hb dX4_told__34 (by decide) (fun c_5 => ?_) (fun c_5 => ?_)
      · have q_6 := mt (fq_eq (a := wh) (b := 6) rfl (by omega) (by omega)).mpr c_5
        refine lv_iload_n hx hb dX4_told__45 rfl (lv_at hl 2 rfl) ?_
        refine lv_bipush (v := 7) hx hb dX4_told__46 (by decide) ?_
        refine lv_icmp_ne (tgt := 60) hx hb dX4_told__48 (by decide) (fun c_7 => ?_) (fun c_7 => ?_)
        · have q_8 := mt (fq_eq (a := wh) (b := 7) rfl (by omega) (by omega)).mpr c_7
          refine lv_aload_n hx hb dX4_told__60 rfl (lv_at hl 0 rfl) ?_
          refine g_X4_isShut F hH kw_296 dX4_told__61 ?_
          refine lv_iload_n hx hb dX4_told__64 rfl (lv_at hl 1 rfl) ?_
          refine a_msh F hH r (by omega) dX4_told__65 ?_
          refine lv_if_eq (tgt := 73) hx hb dX4_told__66 (by decide) (fun c_9 => ?_) (fun c_9 => ?_)
          · refine lv_iconst (v := 0) hx hb dX4_told__73 (by decide) ?_
            exact x_iretR F hr hlk hH (by simp only [f_X4_told_, if_pos c_1, if_neg c_3, if_neg c_5, if_neg c_7, if_pos c_9]) dX4_told__74
          · refine lv_iconst (v := 1) hx hb dX4_told__69 (by decide) ?_
            refine lv_goto (tgt := 74) hx hb dX4_told__70 (by decide) ?_
            exact x_iretR F hr hlk hH (by simp only [f_X4_told_, if_pos c_1, if_neg c_3, if_neg c_5, if_neg c_7, if_neg c_9]) dX4_told__74
        · have q_10 := (fq_eq (a := wh) (b := 7) rfl (by omega) (by omega)).mp c_7
          refine lv_aload_n hx hb dX4_told__51 rfl (lv_at hl 0 rfl) ?_
          refine g_X4_limit F hH kw_297 dX4_told__52 ?_
          refine lv_iload_n hx hb dX4_told__55 rfl (lv_at hl 1 rfl) ?_
          refine a_mli F hH r (by omega) dX4_told__56 ?_
          refine lv_goto (tgt := 74) hx hb dX4_told__57 (by decide) ?_
          exact x_iretR F hr hlk hH (by simp only [f_X4_told_, if_pos c_1, if_neg c_3, if_neg c_5, if_pos c_7]) dX4_told__74
      · have q_11 := (fq_eq (a := wh) (b := 6) rfl (by omega) (by omega)).mp c_5
        refine lv_aload_n hx hb dX4_told__37 rfl (lv_at hl 0 rfl) ?_
        refine lv_iload_n hx hb dX4_told__38 rfl (lv_at hl 1 rfl) ?_
        refine x_calliR F hH 47 (F.lt (by omega)) (vv4 0) rfl (c_X4_worth l F.ad σ μ r (by omega)) cw_X4_107 rfl rfl ⟨Nat.le_of_ble_eq_true rfl, Nat.le_of_ble_eq_true rfl⟩ rfl hl.1 rfl (Nat.le_of_ble_eq_true rfl) ⟨Nat.zero_le _, Nat.zero_le _⟩ dX4_told__39 (fun H locs hH => ?_)
        refine lv_goto (tgt := 74) hx hb dX4_told__42 (by decide) ?_
        exact x_iretR F hr hlk hH (by simp only [f_X4_told_, if_pos c_1, if_neg c_3, if_pos c_5]) dX4_told__74
    · have q_12 := (fq_eq (a := wh) (b := 5) rfl (by omega) (by omega)).mp c_3
      refine lv_aload_n hx hb dX4_told__23 rfl (lv_at hl 0 rfl) ?_
      refine lv_iload_n hx hb dX4_told__24 rfl (lv_at hl 1 rfl) ?_
      refine x_calliR F hH 47 (F.lt (by omega)) (vv4 0) rfl (c_X4_all l F.ad σ μ r (by omega)) cw_X4_61 rfl rfl ⟨Nat.le_of_ble_eq_true rfl, Nat.le_of_ble_eq_true rfl⟩ rfl hl.1 rfl (Nat.le_of_ble_eq_true rfl) ⟨Nat.zero_le _, Nat.zero_le _⟩ dX4_told__25 (fun H locs hH => ?_)
      refine lv_goto (tgt := 74) hx hb dX4_told__28 (by decide) ?_
      exact x_iretR F hr hlk hH (by simp only [f_X4_told_, if_pos c_1, if_pos c_3]) dX4_told__74
  · have q_13 := mt (fq_ge (a := wh) (b := 5) rfl (by omega) (by omega)).mpr c_1
    refine lv_aload_n hx hb dX4_told__5 rfl (lv_at hl 0 rfl) ?_
    refine g_X4_coins F hH kw_298 dX4_told__6 ?_
    refine lv_iconst (v := 5) hx hb dX4_told__9 (by decide) ?_
    refine lv_iload_n hx hb dX4_told__10 rfl (lv_at hl 1 rfl) ?_
    refine lv_imul hx hb dX4_told__11 ?_
    refine x_top (pk_mul 5 r) ?_
    refine lv_iload_n hx hb dX4_told__12 rfl (lv_at hl 2 rfl) ?_
    refine lv_iadd hx hb dX4_told__13 ?_
    refine x_top (nI_add (5 * r) wh) ?_
    refine a_mco F hH ((5 * r) + wh) (by omega) dX4_told__14 ?_
    refine lv_goto (tgt := 74) hx hb dX4_told__15 (by decide) ?_
    exact x_iretR F hr hlk hH (by simp only [f_X4_told_, if_neg c_1]) dX4_told__74
end
section
def firstM (worth : Int32) : Nat → Nat → St → Int32 × St
  | 0, _, μ => (-2, μ)
  | n + 1, k, μ => match f_X4_hold μ k with
    | (r, μ1) => if r = 0 then
        match f_X4_leave μ1 0 with
        | (_, μ2) => if bz (μ2 2 k) = 0 then
            match lacksL k 5 worth μ2 with
            | (r3, μ3) => if r3 = 0 then (nI k, μ3) else firstM worth n (k + 1) μ3
          else firstM worth n (k + 1) μ2
      else firstM worth n (k + 1) μ1
def f_X4_till (μ : St) (t : Int32) (most : Int32) : Int32 × St :=
  if (f_X4_isTill t) = 0 then
    ((-1), (up μ 0 0 0))
  else
    if (f_X4_in most 0 200) = 0 then
      ((-1), (up μ 0 0 0))
    else
      (1, (empL (tn t) 5 0 (up (up (up (up μ 0 0 0) 1 (tn t) 1) 2 (tn t) 0) 3 (tn t) most)))
set_option maxRecDepth 100000 in
set_option maxHeartbeats 4000000 in
theorem c_X4_till (l : Launch) {E : EV} (hA : AD E) (σ μ : St) (t : Int32) (most : Int32) : Met l yX4_till (.code yX4_till cX4_till 3 (some .int) :: gtbl) (rmL 2) (va_Pc [.ref (ea E 47), .int t, .int most] (PR E σ μ)) (QI E (f_X4_till μ t most).1 σ (f_X4_till μ t most).2) 0 0 (eA E) := by
  refine x_met (own := RX4) (by decide) rfl hA (Nat.le_of_ble_eq_true rfl) ?_
  intro p e s m below meth c ls F hr hlk hH hl
  have hl : lv_has ls 3 [(0, .ref (ea E 47)), (1, .int t), (2, .int most)] := hl
  have hx := F.hx
  have hb := F.hb
  refine lv_aload_n hx hb dX4_till_0 rfl (lv_at hl 0 rfl) ?_
  refine lv_iconst (v := 0) hx hb dX4_till_1 (by decide) ?_
  refine p_X4_thrown F hH kw_294 dX4_till_2 (fun H locs hH => ?_)
  refine lv_iload_n hx hb dX4_till_5 rfl (lv_at hl 1 rfl) ?_
  refine x_pure hx hb F.hml F.hown F.hts (c_X4_isTill l t) cw_X4_68 rfl rfl ⟨Nat.le_of_ble_eq_true rfl, Nat.le_of_ble_eq_true rfl⟩ rfl hl.1 rfl (Nat.le_of_ble_eq_true rfl) ⟨Nat.zero_le _, Nat.zero_le _⟩ dX4_till_6 ?_
  refine lv_if_eq (tgt := 23) hx hb dX4_till_9 (by decide) (fun c_1 => ?_) (fun c_1 => ?_)
  · refine lv_iconst (v := -1) hx hb dX4_till_23 (by decide) ?_
    exact x_iretM F hr hlk hH (by simp only [f_X4_till, if_pos c_1]) dX4_till_24
  · have q_2 := X4_isTill_n c_1
    have q_2b := q_2.2
    refine lv_iload_n hx hb dX4_till_12 rfl (lv_at hl 2 rfl) ?_
    refine lv_iconst (v := 0) hx hb dX4_till_13 (by decide) ?_
    refine lv_sipush (v := 200) hx hb dX4_till_14 (by decide) ?_
    refine x_pure hx hb F.hml F.hown F.hts (c_X4_in l most 0 200) cw_X4_33 rfl rfl ⟨Nat.le_of_ble_eq_true rfl, Nat.le_of_ble_eq_true rfl⟩ rfl hl.1 rfl (Nat.le_of_ble_eq_true rfl) ⟨Nat.zero_le _, Nat.zero_le _⟩ dX4_till_17 ?_
    refine lv_if_ne (tgt := 25) hx hb dX4_till_20 (by decide) (fun c_3 => ?_) (fun c_3 => ?_)
    · refine lv_aload_n hx hb dX4_till_25 rfl (lv_at hl 0 rfl) ?_
      refine g_X4_isThere F hH kw_295 dX4_till_26 ?_
      refine lv_iload_n hx hb dX4_till_29 rfl (lv_at hl 1 rfl) ?_
      refine x_top q_2.1 ?_
      refine lv_iconst (v := 1) hx hb dX4_till_30 (by decide) ?_
      refine x_top bz_1.symm ?_
      refine s_mth F hH (tn t) (by omega) dX4_till_31 (fun H locs hH => ?_)
      refine lv_aload_n hx hb dX4_till_32 rfl (lv_at hl 0 rfl) ?_
      refine g_X4_isShut F hH kw_296 dX4_till_33 ?_
      refine lv_iload_n hx hb dX4_till_36 rfl (lv_at hl 1 rfl) ?_
      refine x_top q_2.1 ?_
      refine lv_iconst (v := 0) hx hb dX4_till_37 (by decide) ?_
      refine x_top bz_0.symm ?_
      refine s_msh F hH (tn t) (by omega) dX4_till_38 (fun H locs hH => ?_)
      refine lv_aload_n hx hb dX4_till_39 rfl (lv_at hl 0 rfl) ?_
      refine g_X4_limit F hH kw_297 dX4_till_40 ?_
      refine lv_iload_n hx hb dX4_till_43 rfl (lv_at hl 1 rfl) ?_
      refine x_top q_2.1 ?_
      refine lv_iload_n hx hb dX4_till_44 rfl (lv_at hl 2 rfl) ?_
      refine s_mli F hH (tn t) (by omega) dX4_till_45 (fun H locs hH => ?_)
      refine lv_aload_n hx hb dX4_till_46 rfl (lv_at hl 0 rfl) ?_
      refine lv_iload_n hx hb dX4_till_47 rfl (lv_at hl 1 rfl) ?_
      refine x_top q_2.1 ?_
      refine x_callv F hH 47 (F.lt (by omega)) (vv4 0) rfl (c_X4_empty l F.ad σ (up (up (up (up μ 0 0 0) 1 (tn t) 1) 2 (tn t) 0) 3 (tn t) most) (tn t) (by omega)) cw_X4_72 rfl rfl ⟨Nat.le_of_ble_eq_true rfl, Nat.le_of_ble_eq_true rfl⟩ rfl hl.1 rfl (Nat.le_of_ble_eq_true rfl) ⟨Nat.zero_le _, Nat.zero_le _⟩ dX4_till_48 (fun H locs hH => ?_)
      refine lv_iconst (v := 1) hx hb dX4_till_51 (by decide) ?_
      exact x_iretM F hr hlk hH (by simp only [f_X4_till, if_neg c_1, if_neg c_3]) dX4_till_52
    · refine lv_iconst (v := -1) hx hb dX4_till_23 (by decide) ?_
      exact x_iretM F hr hlk hH (by simp only [f_X4_till, if_neg c_1, if_pos c_3]) dX4_till_24
def f_X4_drop (μ : St) (t : Int32) : Int32 × St :=
  if (f_X4_isTill t) = 0 then
    ((-1), (up μ 0 0 0))
  else
    if (bz ((up μ 0 0 0) 1 (tn t))) = 0 then
      (0, (empL (tn t) 5 0 (up (up μ 0 0 0) 1 (tn t) 0)))
    else
      (1, (empL (tn t) 5 0 (up (up μ 0 0 0) 1 (tn t) 0)))
set_option maxRecDepth 100000 in
set_option maxHeartbeats 4000000 in
theorem c_X4_drop (l : Launch) {E : EV} (hA : AD E) (σ μ : St) (t : Int32) : Met l yX4_drop (.code yX4_drop cX4_drop 3 (some .int) :: gtbl) (rmL 2) (va_Pc [.ref (ea E 47), .int t] (PR E σ μ)) (QI E (f_X4_drop μ t).1 σ (f_X4_drop μ t).2) 0 0 (eA E) := by
  refine x_met (own := RX4) (by decide) rfl hA (Nat.le_of_ble_eq_true rfl) ?_
  intro p e s m below meth c ls F hr hlk hH hl
  have hl : lv_has ls 3 [(0, .ref (ea E 47)), (1, .int t)] := hl
  have hx := F.hx
  have hb := F.hb
  refine lv_aload_n hx hb dX4_drop_0 rfl (lv_at hl 0 rfl) ?_
  refine lv_iconst (v := 0) hx hb dX4_drop_1 (by decide) ?_
  refine p_X4_thrown F hH kw_294 dX4_drop_2 (fun H locs hH => ?_)
  refine lv_iload_n hx hb dX4_drop_5 rfl (lv_at hl 1 rfl) ?_
  refine x_pure hx hb F.hml F.hown F.hts (c_X4_isTill l t) cw_X4_68 rfl rfl ⟨Nat.le_of_ble_eq_true rfl, Nat.le_of_ble_eq_true rfl⟩ rfl hl.1 rfl (Nat.le_of_ble_eq_true rfl) ⟨Nat.zero_le _, Nat.zero_le _⟩ dX4_drop_6 ?_
  refine lv_if_ne (tgt := 14) hx hb dX4_drop_9 (by decide) (fun c_1 => ?_) (fun c_1 => ?_)
  · have q_2 := X4_isTill_n c_1
    have q_2b := q_2.2
    refine lv_aload_n hx hb dX4_drop_14 rfl (lv_at hl 0 rfl) ?_
    refine g_X4_isThere F hH kw_295 dX4_drop_15 ?_
    refine lv_iload_n hx hb dX4_drop_18 rfl (lv_at hl 1 rfl) ?_
    refine x_top q_2.1 ?_
    refine a_mth F hH (tn t) (by omega) dX4_drop_19 ?_
    refine lv_if_eq (tgt := 27) hx hb dX4_drop_20 (by decide) (fun c_3 => ?_) (fun c_3 => ?_)
    · refine lv_iconst (v := 0) hx hb dX4_drop_27 (by decide) ?_
      refine lv_istore_n (lv' := [(2, .int 0), (0, .ref (ea E 47)), (1, .int t)]) hx hb dX4_drop_28 rfl hl (by decide) rfl (fun ls hl => ?_)
      refine lv_aload_n hx hb dX4_drop_29 rfl (lv_at hl 1 rfl) ?_
      refine g_X4_isThere F hH kw_295 dX4_drop_30 ?_
      refine lv_iload_n hx hb dX4_drop_33 rfl (lv_at hl 2 rfl) ?_
      refine x_top q_2.1 ?_
      refine lv_iconst (v := 0) hx hb dX4_drop_34 (by decide) ?_
      refine x_top bz_0.symm ?_
      refine s_mth F hH (tn t) (by omega) dX4_drop_35 (fun H locs hH => ?_)
      refine lv_aload_n hx hb dX4_drop_36 rfl (lv_at hl 1 rfl) ?_
      refine lv_iload_n hx hb dX4_drop_37 rfl (lv_at hl 2 rfl) ?_
      refine x_top q_2.1 ?_
      refine x_callv F hH 47 (F.lt (by omega)) (vv4 0) rfl (c_X4_empty l F.ad σ (up (up μ 0 0 0) 1 (tn t) 0) (tn t) (by omega)) cw_X4_72 rfl rfl ⟨Nat.le_of_ble_eq_true rfl, Nat.le_of_ble_eq_true rfl⟩ rfl hl.1 rfl (Nat.le_of_ble_eq_true rfl) ⟨Nat.zero_le _, Nat.zero_le _⟩ dX4_drop_38 (fun H locs hH => ?_)
      refine lv_iload_n hx hb dX4_drop_41 rfl (lv_at hl 0 rfl) ?_
      exact x_iretM F hr hlk hH (by simp only [f_X4_drop, if_neg c_1, if_pos c_3]) dX4_drop_42
    · refine lv_iconst (v := 1) hx hb dX4_drop_23 (by decide) ?_
      refine lv_goto (tgt := 28) hx hb dX4_drop_24 (by decide) ?_
      refine lv_istore_n (lv' := [(2, .int 1), (0, .ref (ea E 47)), (1, .int t)]) hx hb dX4_drop_28 rfl hl (by decide) rfl (fun ls hl => ?_)
      refine lv_aload_n hx hb dX4_drop_29 rfl (lv_at hl 1 rfl) ?_
      refine g_X4_isThere F hH kw_295 dX4_drop_30 ?_
      refine lv_iload_n hx hb dX4_drop_33 rfl (lv_at hl 2 rfl) ?_
      refine x_top q_2.1 ?_
      refine lv_iconst (v := 0) hx hb dX4_drop_34 (by decide) ?_
      refine x_top bz_0.symm ?_
      refine s_mth F hH (tn t) (by omega) dX4_drop_35 (fun H locs hH => ?_)
      refine lv_aload_n hx hb dX4_drop_36 rfl (lv_at hl 1 rfl) ?_
      refine lv_iload_n hx hb dX4_drop_37 rfl (lv_at hl 2 rfl) ?_
      refine x_top q_2.1 ?_
      refine x_callv F hH 47 (F.lt (by omega)) (vv4 0) rfl (c_X4_empty l F.ad σ (up (up μ 0 0 0) 1 (tn t) 0) (tn t) (by omega)) cw_X4_72 rfl rfl ⟨Nat.le_of_ble_eq_true rfl, Nat.le_of_ble_eq_true rfl⟩ rfl hl.1 rfl (Nat.le_of_ble_eq_true rfl) ⟨Nat.zero_le _, Nat.zero_le _⟩ dX4_drop_38 (fun H locs hH => ?_)
      refine lv_iload_n hx hb dX4_drop_41 rfl (lv_at hl 0 rfl) ?_
      exact x_iretM F hr hlk hH (by simp only [f_X4_drop, if_neg c_1, if_neg c_3]) dX4_drop_42
  · refine lv_iconst (v := -1) hx hb dX4_drop_12 (by decide) ?_
    exact x_iretM F hr hlk hH (by simp only [f_X4_drop, if_pos c_1]) dX4_drop_13
def f_X4_shut (μ : St) (t : Int32) (is : Int32) : Int32 × St :=
  if (f_X4_isTill t) = 0 then
    ((-1), (up μ 0 0 0))
  else
    match f_X4_hold (up μ 0 0 0) (tn t) with
    | (r_3, s_4) =>
      if r_3 = 0 then
        if (bz (s_4 2 (tn t))) = 0 then
          match f_X4_leave (up s_4 2 (tn t) is) 0 with
          | (r_8, s_9) =>
            (f_X4_told r_8 0, s_9)
        else
          match f_X4_leave (up s_4 2 (tn t) is) 0 with
          | (r_11, s_12) =>
            (f_X4_told r_11 1, s_12)
      else
        (f_X4_told r_3 0, s_4)
set_option maxRecDepth 100000 in
set_option maxHeartbeats 4000000 in
theorem c_X4_shut (l : Launch) {E : EV} (hA : AD E) (σ μ : St) (t : Int32) (is : Int32) : Met l yX4_shut (.code yX4_shut cX4_shut 5 (some .int) :: gtbl) (rmL 2) (va_Pc [.ref (ea E 47), .int t, .int (bz is)] (PR E σ μ)) (QI E (f_X4_shut μ t is).1 σ (f_X4_shut μ t is).2) 0 0 (eA E) := by
  refine x_met (own := RX4) (by decide) rfl hA (Nat.le_of_ble_eq_true rfl) ?_
  intro p e s m below meth c ls F hr hlk hH hl
  have hl : lv_has ls 5 [(0, .ref (ea E 47)), (1, .int t), (2, .int (bz is))] := hl
  have hx := F.hx
  have hb := F.hb
  refine lv_aload_n hx hb dX4_shut_0 rfl (lv_at hl 0 rfl) ?_
  refine lv_iconst (v := 0) hx hb dX4_shut_1 (by decide) ?_
  refine p_X4_thrown F hH kw_294 dX4_shut_2 (fun H locs hH => ?_)
  refine lv_iload_n hx hb dX4_shut_5 rfl (lv_at hl 1 rfl) ?_
  refine x_pure hx hb F.hml F.hown F.hts (c_X4_isTill l t) cw_X4_68 rfl rfl ⟨Nat.le_of_ble_eq_true rfl, Nat.le_of_ble_eq_true rfl⟩ rfl hl.1 rfl (Nat.le_of_ble_eq_true rfl) ⟨Nat.zero_le _, Nat.zero_le _⟩ dX4_shut_6 ?_
  refine lv_if_ne (tgt := 14) hx hb dX4_shut_9 (by decide) (fun c_1 => ?_) (fun c_1 => ?_)
  · have q_2 := X4_isTill_n c_1
    have q_2b := q_2.2
    refine lv_aload_n hx hb dX4_shut_14 rfl (lv_at hl 0 rfl) ?_
    refine lv_iload_n hx hb dX4_shut_15 rfl (lv_at hl 1 rfl) ?_
    refine x_top q_2.1 ?_
    refine x_calliM F hH 47 (F.lt (by omega)) (vv4 0) rfl (c_X4_hold l F.ad σ (up μ 0 0 0) (tn t) (by omega)) cw_X4_76 rfl rfl ⟨Nat.le_of_ble_eq_true rfl, Nat.le_of_ble_eq_true rfl⟩ rfl hl.1 rfl (Nat.le_of_ble_eq_true rfl) ⟨Nat.zero_le _, Nat.zero_le _⟩ dX4_shut_16 (fun r_3 s_4 H locs e_5 hH => ?_)
    refine lv_istore_n (lv' := [(3, .int r_3), (0, .ref (ea E 47)), (1, .int t), (2, .int (bz is))]) hx hb dX4_shut_19 rfl hl (by decide) rfl (fun ls hl => ?_)
    refine lv_iload_n hx hb dX4_shut_20 rfl (lv_at hl 0 rfl) ?_
    refine lv_if_eq (tgt := 30) hx hb dX4_shut_21 (by decide) (fun c_6 => ?_) (fun c_6 => ?_)
    · refine lv_aload_n hx hb dX4_shut_30 rfl (lv_at hl 1 rfl) ?_
      refine g_X4_isShut F hH kw_296 dX4_shut_31 ?_
      refine lv_iload_n hx hb dX4_shut_34 rfl (lv_at hl 2 rfl) ?_
      refine x_top q_2.1 ?_
      refine a_msh F hH (tn t) (by omega) dX4_shut_35 ?_
      refine lv_if_eq (tgt := 43) hx hb dX4_shut_36 (by decide) (fun c_7 => ?_) (fun c_7 => ?_)
      · refine lv_iconst (v := 0) hx hb dX4_shut_43 (by decide) ?_
        refine lv_istore (lv' := [(4, .int 0), (3, .int r_3), (0, .ref (ea E 47)), (1, .int t), (2, .int (bz is))]) hx hb dX4_shut_44 hl (by decide) rfl (fun ls hl => ?_)
        refine lv_aload_n hx hb dX4_shut_46 rfl (lv_at hl 2 rfl) ?_
        refine g_X4_isShut F hH kw_296 dX4_shut_47 ?_
        refine lv_iload_n hx hb dX4_shut_50 rfl (lv_at hl 3 rfl) ?_
        refine x_top q_2.1 ?_
        refine lv_iload_n hx hb dX4_shut_51 rfl (lv_at hl 4 rfl) ?_
        refine s_msh F hH (tn t) (by omega) dX4_shut_52 (fun H locs hH => ?_)
        refine lv_aload_n hx hb dX4_shut_53 rfl (lv_at hl 2 rfl) ?_
        refine lv_iconst (v := 0) hx hb dX4_shut_54 (by decide) ?_
        refine x_calliM F hH 47 (F.lt (by omega)) (vv4 0) rfl (c_X4_leave l F.ad σ (up s_4 2 (tn t) is) 0) cw_X4_82 rfl rfl ⟨Nat.le_of_ble_eq_true rfl, Nat.le_of_ble_eq_true rfl⟩ rfl hl.1 rfl (Nat.le_of_ble_eq_true rfl) ⟨Nat.zero_le _, Nat.zero_le _⟩ dX4_shut_55 (fun r_8 s_9 H locs e_10 hH => ?_)
        refine lv_iload hx hb dX4_shut_58 (lv_at hl 0 rfl) ?_
        refine x_pure hx hb F.hml F.hown F.hts (c_X4_told l r_8 0) cw_X4_79 rfl rfl ⟨Nat.le_of_ble_eq_true rfl, Nat.le_of_ble_eq_true rfl⟩ rfl hl.1 rfl (Nat.le_of_ble_eq_true rfl) ⟨Nat.zero_le _, Nat.zero_le _⟩ dX4_shut_60 ?_
        exact x_iretM F hr hlk hH (by simp only [f_X4_shut, if_neg c_1, e_5, if_pos c_6, if_pos c_7, e_10]) dX4_shut_63
      · refine lv_iconst (v := 1) hx hb dX4_shut_39 (by decide) ?_
        refine lv_goto (tgt := 44) hx hb dX4_shut_40 (by decide) ?_
        refine lv_istore (lv' := [(4, .int 1), (3, .int r_3), (0, .ref (ea E 47)), (1, .int t), (2, .int (bz is))]) hx hb dX4_shut_44 hl (by decide) rfl (fun ls hl => ?_)
        refine lv_aload_n hx hb dX4_shut_46 rfl (lv_at hl 2 rfl) ?_
        refine g_X4_isShut F hH kw_296 dX4_shut_47 ?_
        refine lv_iload_n hx hb dX4_shut_50 rfl (lv_at hl 3 rfl) ?_
        refine x_top q_2.1 ?_
        refine lv_iload_n hx hb dX4_shut_51 rfl (lv_at hl 4 rfl) ?_
        refine s_msh F hH (tn t) (by omega) dX4_shut_52 (fun H locs hH => ?_)
        refine lv_aload_n hx hb dX4_shut_53 rfl (lv_at hl 2 rfl) ?_
        refine lv_iconst (v := 0) hx hb dX4_shut_54 (by decide) ?_
        refine x_calliM F hH 47 (F.lt (by omega)) (vv4 0) rfl (c_X4_leave l F.ad σ (up s_4 2 (tn t) is) 0) cw_X4_82 rfl rfl ⟨Nat.le_of_ble_eq_true rfl, Nat.le_of_ble_eq_true rfl⟩ rfl hl.1 rfl (Nat.le_of_ble_eq_true rfl) ⟨Nat.zero_le _, Nat.zero_le _⟩ dX4_shut_55 (fun r_11 s_12 H locs e_13 hH => ?_)
        refine lv_iload hx hb dX4_shut_58 (lv_at hl 0 rfl) ?_
        refine x_pure hx hb F.hml F.hown F.hts (c_X4_told l r_11 1) cw_X4_79 rfl rfl ⟨Nat.le_of_ble_eq_true rfl, Nat.le_of_ble_eq_true rfl⟩ rfl hl.1 rfl (Nat.le_of_ble_eq_true rfl) ⟨Nat.zero_le _, Nat.zero_le _⟩ dX4_shut_60 ?_
        exact x_iretM F hr hlk hH (by simp only [f_X4_shut, if_neg c_1, e_5, if_pos c_6, if_neg c_7, e_13]) dX4_shut_63
    · refine lv_iload_n hx hb dX4_shut_24 rfl (lv_at hl 0 rfl) ?_
      refine lv_iconst (v := 0) hx hb dX4_shut_25 (by decide) ?_
      refine x_pure hx hb F.hml F.hown F.hts (c_X4_told l r_3 0) cw_X4_79 rfl rfl ⟨Nat.le_of_ble_eq_true rfl, Nat.le_of_ble_eq_true rfl⟩ rfl hl.1 rfl (Nat.le_of_ble_eq_true rfl) ⟨Nat.zero_le _, Nat.zero_le _⟩ dX4_shut_26 ?_
      exact x_iretM F hr hlk hH (by simp only [f_X4_shut, if_neg c_1, e_5, if_neg c_6]) dX4_shut_29
  · refine lv_iconst (v := -1) hx hb dX4_shut_12 (by decide) ?_
    exact x_iretM F hr hlk hH (by simp only [f_X4_shut, if_pos c_1]) dX4_shut_13
def f_X4_take (μ : St) (t : Int32) (worth : Int32) : Int32 × St :=
  if (f_X4_isTill t) = 0 then
    ((-1), (up μ 0 0 0))
  else
    if (f_X4_in worth 0 10000) = 0 then
      ((-1), (up μ 0 0 0))
    else
      match f_X4_hold (up μ 0 0 0) (tn t) with
      | (r_4, s_5) =>
        if r_4 = 0 then
          match f_X4_pay s_5 (tn t) worth with
          | (r_8, s_9) =>
            match f_X4_leave s_9 r_8 with
            | (r_11, s_12) =>
              (f_X4_told r_11 (sumL (s_12 5) 5 0 0), s_12)
        else
          (f_X4_told r_4 0, s_5)
set_option maxRecDepth 100000 in
set_option maxHeartbeats 4000000 in
theorem c_X4_take (l : Launch) {E : EV} (hA : AD E) (σ μ : St) (t : Int32) (worth : Int32) : Met l yX4_take (.code yX4_take cX4_take 4 (some .int) :: gtbl) (rmL 3) (va_Pc [.ref (ea E 47), .int t, .int worth] (PR E σ μ)) (QI E (f_X4_take μ t worth).1 σ (f_X4_take μ t worth).2) 0 0 (eA E) := by
  refine x_met (own := RX4) (by decide) rfl hA (Nat.le_of_ble_eq_true rfl) ?_
  intro p e s m below meth c ls F hr hlk hH hl
  have hl : lv_has ls 4 [(0, .ref (ea E 47)), (1, .int t), (2, .int worth)] := hl
  have hx := F.hx
  have hb := F.hb
  refine lv_aload_n hx hb dX4_take_0 rfl (lv_at hl 0 rfl) ?_
  refine lv_iconst (v := 0) hx hb dX4_take_1 (by decide) ?_
  refine p_X4_thrown F hH kw_294 dX4_take_2 (fun H locs hH => ?_)
  refine lv_iload_n hx hb dX4_take_5 rfl (lv_at hl 1 rfl) ?_
  refine x_pure hx hb F.hml F.hown F.hts (c_X4_isTill l t) cw_X4_68 rfl rfl ⟨Nat.le_of_ble_eq_true rfl, Nat.le_of_ble_eq_true rfl⟩ rfl hl.1 rfl (Nat.le_of_ble_eq_true rfl) ⟨Nat.zero_le _, Nat.zero_le _⟩ dX4_take_6 ?_
  refine lv_if_eq (tgt := 23) hx hb dX4_take_9 (by decide) (fun c_1 => ?_) (fun c_1 => ?_)
  · refine lv_iconst (v := -1) hx hb dX4_take_23 (by decide) ?_
    exact x_iretM F hr hlk hH (by simp only [f_X4_take, if_pos c_1]) dX4_take_24
  · have q_2 := X4_isTill_n c_1
    have q_2b := q_2.2
    refine lv_iload_n hx hb dX4_take_12 rfl (lv_at hl 2 rfl) ?_
    refine lv_iconst (v := 0) hx hb dX4_take_13 (by decide) ?_
    refine lv_sipush (v := 10000) hx hb dX4_take_14 (by decide) ?_
    refine x_pure hx hb F.hml F.hown F.hts (c_X4_in l worth 0 10000) cw_X4_33 rfl rfl ⟨Nat.le_of_ble_eq_true rfl, Nat.le_of_ble_eq_true rfl⟩ rfl hl.1 rfl (Nat.le_of_ble_eq_true rfl) ⟨Nat.zero_le _, Nat.zero_le _⟩ dX4_take_17 ?_
    refine lv_if_ne (tgt := 25) hx hb dX4_take_20 (by decide) (fun c_3 => ?_) (fun c_3 => ?_)
    · refine lv_aload_n hx hb dX4_take_25 rfl (lv_at hl 0 rfl) ?_
      refine lv_iload_n hx hb dX4_take_26 rfl (lv_at hl 1 rfl) ?_
      refine x_top q_2.1 ?_
      refine x_calliM F hH 47 (F.lt (by omega)) (vv4 0) rfl (c_X4_hold l F.ad σ (up μ 0 0 0) (tn t) (by omega)) cw_X4_76 rfl rfl ⟨Nat.le_of_ble_eq_true rfl, Nat.le_of_ble_eq_true rfl⟩ rfl hl.1 rfl (Nat.le_of_ble_eq_true rfl) ⟨Nat.zero_le _, Nat.zero_le _⟩ dX4_take_27 (fun r_4 s_5 H locs e_6 hH => ?_)
      refine lv_istore_n (lv' := [(3, .int r_4), (0, .ref (ea E 47)), (1, .int t), (2, .int worth)]) hx hb dX4_take_30 rfl hl (by decide) rfl (fun ls hl => ?_)
      refine lv_iload_n hx hb dX4_take_31 rfl (lv_at hl 0 rfl) ?_
      refine lv_if_eq (tgt := 41) hx hb dX4_take_32 (by decide) (fun c_7 => ?_) (fun c_7 => ?_)
      · refine lv_aload_n hx hb dX4_take_41 rfl (lv_at hl 1 rfl) ?_
        refine lv_aload_n hx hb dX4_take_42 rfl (lv_at hl 1 rfl) ?_
        refine lv_iload_n hx hb dX4_take_43 rfl (lv_at hl 2 rfl) ?_
        refine x_top q_2.1 ?_
        refine lv_iload_n hx hb dX4_take_44 rfl (lv_at hl 3 rfl) ?_
        refine x_calliM F hH 47 (F.lt (by omega)) (vv4 0) rfl (c_X4_pay l F.ad σ s_5 (tn t) worth (by omega)) cw_X4_89 rfl rfl ⟨Nat.le_of_ble_eq_true rfl, Nat.le_of_ble_eq_true rfl⟩ rfl hl.1 rfl (Nat.le_of_ble_eq_true rfl) ⟨Nat.zero_le _, Nat.zero_le _⟩ dX4_take_45 (fun r_8 s_9 H locs e_10 hH => ?_)
        refine x_calliM F hH 47 (F.lt (by omega)) (vv4 0) rfl (c_X4_leave l F.ad σ s_9 r_8) cw_X4_82 rfl rfl ⟨Nat.le_of_ble_eq_true rfl, Nat.le_of_ble_eq_true rfl⟩ rfl hl.1 rfl (Nat.le_of_ble_eq_true rfl) ⟨Nat.zero_le _, Nat.zero_le _⟩ dX4_take_48 (fun r_11 s_12 H locs e_13 hH => ?_)
        refine lv_istore_n (lv' := [(3, .int r_11), (0, .ref (ea E 47)), (1, .int t), (2, .int worth)]) hx hb dX4_take_51 rfl hl (by decide) rfl (fun ls hl => ?_)
        refine lv_iload_n hx hb dX4_take_52 rfl (lv_at hl 0 rfl) ?_
        refine lv_aload_n hx hb dX4_take_53 rfl (lv_at hl 1 rfl) ?_
        refine g_X4_paid F hH kw_303 dX4_take_54 ?_
        refine x_callsR F hH (c_X4_sum l F.ad σ s_12 5 (by omega)) cw_X4_64 rfl rfl ⟨Nat.le_of_ble_eq_true rfl, Nat.le_of_ble_eq_true rfl⟩ rfl hl.1 rfl (Nat.le_of_ble_eq_true rfl) ⟨Nat.zero_le _, Nat.zero_le _⟩ dX4_take_57 (fun H locs hH => ?_)
        refine x_pure hx hb F.hml F.hown F.hts (c_X4_told l r_11 (sumL (s_12 5) 5 0 0)) cw_X4_79 rfl rfl ⟨Nat.le_of_ble_eq_true rfl, Nat.le_of_ble_eq_true rfl⟩ rfl hl.1 rfl (Nat.le_of_ble_eq_true rfl) ⟨Nat.zero_le _, Nat.zero_le _⟩ dX4_take_60 ?_
        exact x_iretM F hr hlk hH (by simp only [f_X4_take, if_neg c_1, if_neg c_3, e_6, if_pos c_7, e_10, e_13]) dX4_take_63
      · refine lv_iload_n hx hb dX4_take_35 rfl (lv_at hl 0 rfl) ?_
        refine lv_iconst (v := 0) hx hb dX4_take_36 (by decide) ?_
        refine x_pure hx hb F.hml F.hown F.hts (c_X4_told l r_4 0) cw_X4_79 rfl rfl ⟨Nat.le_of_ble_eq_true rfl, Nat.le_of_ble_eq_true rfl⟩ rfl hl.1 rfl (Nat.le_of_ble_eq_true rfl) ⟨Nat.zero_le _, Nat.zero_le _⟩ dX4_take_37 ?_
        exact x_iretM F hr hlk hH (by simp only [f_X4_take, if_neg c_1, if_neg c_3, e_6, if_neg c_7]) dX4_take_40
    · refine lv_iconst (v := -1) hx hb dX4_take_23 (by decide) ?_
      exact x_iretM F hr hlk hH (by simp only [f_X4_take, if_neg c_1, if_pos c_3]) dX4_take_24
def f_X4_move (μ : St) (a : Int32) (b : Int32) (worth : Int32) (back : Int32) : Int32 × St :=
  if (f_X4_isTill a) = 0 then
    ((-1), (up μ 0 0 0))
  else
    if (f_X4_isTill b) = 0 then
      ((-1), (up μ 0 0 0))
    else
      if (f_X4_in worth 0 10000) = 0 then
        ((-1), (up μ 0 0 0))
      else
        match f_X4_hold (up μ 0 0 0) (tn a) with
        | (r_6, s_7) =>
          if r_6 = 0 then
            match f_X4_pay s_7 (tn a) worth with
            | (r_10, s_11) =>
              if r_10 = 0 then
                match f_X4_hold s_11 (tn b) with
                | (r_17, s_18) =>
                  if r_17 = 0 then
                    match f_X4_lay s_18 (tn b) 5 with
                    | (r_29, s_30) =>
                      match f_X4_leave s_30 r_29 with
                      | (r_32, s_33) =>
                        if r_32 = 0 then
                          match f_X4_leave s_33 r_32 with
                          | (r_36, s_37) =>
                            (f_X4_told r_36 (sumL (s_37 5) 5 0 0), s_37)
                        else
                          if (bz back) = 0 then
                            match f_X4_leave s_33 r_32 with
                            | (r_40, s_41) =>
                              (f_X4_told r_40 (sumL (s_41 5) 5 0 0), s_41)
                          else
                            match f_X4_leave (goL 8 (tn a) 5 5 0 s_33) r_32 with
                            | (r_43, s_44) =>
                              (f_X4_told r_43 (sumL (s_44 5) 5 0 0), s_44)
                  else
                    if (bz back) = 0 then
                      match f_X4_leave s_18 r_17 with
                      | (r_23, s_24) =>
                        (f_X4_told r_23 (sumL (s_24 5) 5 0 0), s_24)
                    else
                      match f_X4_leave (goL 8 (tn a) 5 5 0 s_18) r_17 with
                      | (r_26, s_27) =>
                        (f_X4_told r_26 (sumL (s_27 5) 5 0 0), s_27)
              else
                match f_X4_leave s_11 r_10 with
                | (r_14, s_15) =>
                  (f_X4_told r_14 (sumL (s_15 5) 5 0 0), s_15)
          else
            (f_X4_told r_6 0, s_7)
set_option maxRecDepth 100000 in
set_option maxHeartbeats 4000000 in
theorem c_X4_move (l : Launch) {E : EV} (hA : AD E) (σ μ : St) (a : Int32) (b : Int32) (worth : Int32) (back : Int32) : Met l yX4_move (.code yX4_move cX4_move 6 (some .int) :: gtbl) (rmL 3) (va_Pc [.ref (ea E 47), .int a, .int b, .int worth, .int (bz back)] (PR E σ μ)) (QI E (f_X4_move μ a b worth back).1 σ (f_X4_move μ a b worth back).2) 0 0 (eA E) := by
  refine x_met (own := RX4) (by decide) rfl hA (Nat.le_of_ble_eq_true rfl) ?_
  intro p e s m below meth c ls F hr hlk hH hl
  have hl : lv_has ls 6 [(0, .ref (ea E 47)), (1, .int a), (2, .int b), (3, .int worth), (4, .int (bz back))] := hl
  have hx := F.hx
  have hb := F.hb
  refine lv_aload_n hx hb dX4_move_0 rfl (lv_at hl 0 rfl) ?_
  refine lv_iconst (v := 0) hx hb dX4_move_1 (by decide) ?_
  refine p_X4_thrown F hH kw_294 dX4_move_2 (fun H locs hH => ?_)
  refine lv_iload_n hx hb dX4_move_5 rfl (lv_at hl 1 rfl) ?_
  refine x_pure hx hb F.hml F.hown F.hts (c_X4_isTill l a) cw_X4_68 rfl rfl ⟨Nat.le_of_ble_eq_true rfl, Nat.le_of_ble_eq_true rfl⟩ rfl hl.1 rfl (Nat.le_of_ble_eq_true rfl) ⟨Nat.zero_le _, Nat.zero_le _⟩ dX4_move_6 ?_
  refine lv_if_eq (tgt := 30) hx hb dX4_move_9 (by decide) (fun c_1 => ?_) (fun c_1 => ?_)
  · refine lv_iconst (v := -1) hx hb dX4_move_30 (by decide) ?_
    exact x_iretM F hr hlk hH (by simp only [f_X4_move, if_pos c_1]) dX4_move_31
  · have q_2 := X4_isTill_n c_1
    have q_2b := q_2.2
    refine lv_iload_n hx hb dX4_move_12 rfl (lv_at hl 2 rfl) ?_
    refine x_pure hx hb F.hml F.hown F.hts (c_X4_isTill l b) cw_X4_68 rfl rfl ⟨Nat.le_of_ble_eq_true rfl, Nat.le_of_ble_eq_true rfl⟩ rfl hl.1 rfl (Nat.le_of_ble_eq_true rfl) ⟨Nat.zero_le _, Nat.zero_le _⟩ dX4_move_13 ?_
    refine lv_if_eq (tgt := 30) hx hb dX4_move_16 (by decide) (fun c_3 => ?_) (fun c_3 => ?_)
    · refine lv_iconst (v := -1) hx hb dX4_move_30 (by decide) ?_
      exact x_iretM F hr hlk hH (by simp only [f_X4_move, if_neg c_1, if_pos c_3]) dX4_move_31
    · have q_4 := X4_isTill_n c_3
      have q_4b := q_4.2
      refine lv_iload_n hx hb dX4_move_19 rfl (lv_at hl 3 rfl) ?_
      refine lv_iconst (v := 0) hx hb dX4_move_20 (by decide) ?_
      refine lv_sipush (v := 10000) hx hb dX4_move_21 (by decide) ?_
      refine x_pure hx hb F.hml F.hown F.hts (c_X4_in l worth 0 10000) cw_X4_33 rfl rfl ⟨Nat.le_of_ble_eq_true rfl, Nat.le_of_ble_eq_true rfl⟩ rfl hl.1 rfl (Nat.le_of_ble_eq_true rfl) ⟨Nat.zero_le _, Nat.zero_le _⟩ dX4_move_24 ?_
      refine lv_if_ne (tgt := 32) hx hb dX4_move_27 (by decide) (fun c_5 => ?_) (fun c_5 => ?_)
      · refine lv_aload_n hx hb dX4_move_32 rfl (lv_at hl 0 rfl) ?_
        refine lv_iload_n hx hb dX4_move_33 rfl (lv_at hl 1 rfl) ?_
        refine x_top q_2.1 ?_
        refine x_calliM F hH 47 (F.lt (by omega)) (vv4 0) rfl (c_X4_hold l F.ad σ (up μ 0 0 0) (tn a) (by omega)) cw_X4_76 rfl rfl ⟨Nat.le_of_ble_eq_true rfl, Nat.le_of_ble_eq_true rfl⟩ rfl hl.1 rfl (Nat.le_of_ble_eq_true rfl) ⟨Nat.zero_le _, Nat.zero_le _⟩ dX4_move_34 (fun r_6 s_7 H locs e_8 hH => ?_)
        refine lv_istore (lv' := [(5, .int r_6), (0, .ref (ea E 47)), (1, .int a), (2, .int b), (3, .int worth), (4, .int (bz back))]) hx hb dX4_move_37 hl (by decide) rfl (fun ls hl => ?_)
        refine lv_iload hx hb dX4_move_39 (lv_at hl 0 rfl) ?_
        refine lv_if_eq (tgt := 51) hx hb dX4_move_41 (by decide) (fun c_9 => ?_) (fun c_9 => ?_)
        · refine lv_aload_n hx hb dX4_move_51 rfl (lv_at hl 1 rfl) ?_
          refine lv_iload_n hx hb dX4_move_52 rfl (lv_at hl 2 rfl) ?_
          refine x_top q_2.1 ?_
          refine lv_iload_n hx hb dX4_move_53 rfl (lv_at hl 4 rfl) ?_
          refine x_calliM F hH 47 (F.lt (by omega)) (vv4 0) rfl (c_X4_pay l F.ad σ s_7 (tn a) worth (by omega)) cw_X4_89 rfl rfl ⟨Nat.le_of_ble_eq_true rfl, Nat.le_of_ble_eq_true rfl⟩ rfl hl.1 rfl (Nat.le_of_ble_eq_true rfl) ⟨Nat.zero_le _, Nat.zero_le _⟩ dX4_move_54 (fun r_10 s_11 H locs e_12 hH => ?_)
          refine lv_istore (lv' := [(5, .int r_10), (0, .ref (ea E 47)), (1, .int a), (2, .int b), (3, .int worth), (4, .int (bz back))]) hx hb dX4_move_57 hl (by decide) rfl (fun ls hl => ?_)
          refine lv_iload hx hb dX4_move_59 (lv_at hl 0 rfl) ?_
          refine lv_if_ne (tgt := 117) hx hb dX4_move_61 (by decide) (fun c_13 => ?_) (fun c_13 => ?_)
          · refine lv_aload_n hx hb dX4_move_117 rfl (lv_at hl 1 rfl) ?_
            refine lv_iload hx hb dX4_move_118 (lv_at hl 0 rfl) ?_
            refine x_calliM F hH 47 (F.lt (by omega)) (vv4 0) rfl (c_X4_leave l F.ad σ s_11 r_10) cw_X4_82 rfl rfl ⟨Nat.le_of_ble_eq_true rfl, Nat.le_of_ble_eq_true rfl⟩ rfl hl.1 rfl (Nat.le_of_ble_eq_true rfl) ⟨Nat.zero_le _, Nat.zero_le _⟩ dX4_move_120 (fun r_14 s_15 H locs e_16 hH => ?_)
            refine lv_aload_n hx hb dX4_move_123 rfl (lv_at hl 1 rfl) ?_
            refine g_X4_paid F hH kw_303 dX4_move_124 ?_
            refine x_callsR F hH (c_X4_sum l F.ad σ s_15 5 (by omega)) cw_X4_64 rfl rfl ⟨Nat.le_of_ble_eq_true rfl, Nat.le_of_ble_eq_true rfl⟩ rfl hl.1 rfl (Nat.le_of_ble_eq_true rfl) ⟨Nat.zero_le _, Nat.zero_le _⟩ dX4_move_127 (fun H locs hH => ?_)
            refine x_pure hx hb F.hml F.hown F.hts (c_X4_told l r_14 (sumL (s_15 5) 5 0 0)) cw_X4_79 rfl rfl ⟨Nat.le_of_ble_eq_true rfl, Nat.le_of_ble_eq_true rfl⟩ rfl hl.1 rfl (Nat.le_of_ble_eq_true rfl) ⟨Nat.zero_le _, Nat.zero_le _⟩ dX4_move_130 ?_
            exact x_iretM F hr hlk hH (by simp only [f_X4_move, if_neg c_1, if_neg c_3, if_neg c_5, e_8, if_pos c_9, e_12, if_neg c_13, e_16]) dX4_move_133
          · refine lv_aload_n hx hb dX4_move_64 rfl (lv_at hl 1 rfl) ?_
            refine lv_iload_n hx hb dX4_move_65 rfl (lv_at hl 3 rfl) ?_
            refine x_top q_4.1 ?_
            refine x_calliM F hH 47 (F.lt (by omega)) (vv4 0) rfl (c_X4_hold l F.ad σ s_11 (tn b) (by omega)) cw_X4_76 rfl rfl ⟨Nat.le_of_ble_eq_true rfl, Nat.le_of_ble_eq_true rfl⟩ rfl hl.1 rfl (Nat.le_of_ble_eq_true rfl) ⟨Nat.zero_le _, Nat.zero_le _⟩ dX4_move_66 (fun r_17 s_18 H locs e_19 hH => ?_)
            refine lv_istore (lv' := [(5, .int r_17), (0, .ref (ea E 47)), (1, .int a), (2, .int b), (3, .int worth), (4, .int (bz back))]) hx hb dX4_move_69 hl (by decide) rfl (fun ls hl => ?_)
            refine lv_iload hx hb dX4_move_71 (lv_at hl 0 rfl) ?_
            refine lv_if_ne (tgt := 92) hx hb dX4_move_73 (by decide) (fun c_20 => ?_) (fun c_20 => ?_)
            · refine lv_iload hx hb dX4_move_92 (lv_at hl 0 rfl) ?_
              refine lv_istore (lv' := [(5, .int r_17), (0, .ref (ea E 47)), (1, .int a), (2, .int b), (3, .int worth), (4, .int (bz back))]) hx hb dX4_move_94 hl (by decide) rfl (fun ls hl => ?_)
              refine lv_iload hx hb dX4_move_96 (lv_at hl 0 rfl) ?_
              refine lv_if_eq (tgt := 117) hx hb dX4_move_98 (by decide) (fun c_21 => absurd c_21 c_20) (fun _ => ?_)
              refine lv_iload hx hb dX4_move_101 (lv_at hl 5 rfl) ?_
              refine lv_if_eq (tgt := 117) hx hb dX4_move_103 (by decide) (fun c_22 => ?_) (fun c_22 => ?_)
              · refine lv_aload_n hx hb dX4_move_117 rfl (lv_at hl 1 rfl) ?_
                refine lv_iload hx hb dX4_move_118 (lv_at hl 0 rfl) ?_
                refine x_calliM F hH 47 (F.lt (by omega)) (vv4 0) rfl (c_X4_leave l F.ad σ s_18 r_17) cw_X4_82 rfl rfl ⟨Nat.le_of_ble_eq_true rfl, Nat.le_of_ble_eq_true rfl⟩ rfl hl.1 rfl (Nat.le_of_ble_eq_true rfl) ⟨Nat.zero_le _, Nat.zero_le _⟩ dX4_move_120 (fun r_23 s_24 H locs e_25 hH => ?_)
                refine lv_aload_n hx hb dX4_move_123 rfl (lv_at hl 1 rfl) ?_
                refine g_X4_paid F hH kw_303 dX4_move_124 ?_
                refine x_callsR F hH (c_X4_sum l F.ad σ s_24 5 (by omega)) cw_X4_64 rfl rfl ⟨Nat.le_of_ble_eq_true rfl, Nat.le_of_ble_eq_true rfl⟩ rfl hl.1 rfl (Nat.le_of_ble_eq_true rfl) ⟨Nat.zero_le _, Nat.zero_le _⟩ dX4_move_127 (fun H locs hH => ?_)
                refine x_pure hx hb F.hml F.hown F.hts (c_X4_told l r_23 (sumL (s_24 5) 5 0 0)) cw_X4_79 rfl rfl ⟨Nat.le_of_ble_eq_true rfl, Nat.le_of_ble_eq_true rfl⟩ rfl hl.1 rfl (Nat.le_of_ble_eq_true rfl) ⟨Nat.zero_le _, Nat.zero_le _⟩ dX4_move_130 ?_
                exact x_iretM F hr hlk hH (by simp only [f_X4_move, if_neg c_1, if_neg c_3, if_neg c_5, e_8, if_pos c_9, e_12, if_pos c_13, e_19, if_neg c_20, if_pos c_22, e_25]) dX4_move_133
              · refine lv_aload_n hx hb dX4_move_106 rfl (lv_at hl 1 rfl) ?_
                refine lv_bipush (v := 8) hx hb dX4_move_107 (by decide) ?_
                refine lv_iload_n hx hb dX4_move_109 rfl (lv_at hl 2 rfl) ?_
                refine x_top q_2.1 ?_
                refine lv_aload_n hx hb dX4_move_110 rfl (lv_at hl 1 rfl) ?_
                refine g_X4_paid F hH kw_303 dX4_move_111 ?_
                refine x_callv F hH 47 (F.lt (by omega)) (vv4 0) rfl (c_X4_go l F.ad σ s_18 8 (tn a) 5 (by omega) (by omega) (by omega)) cw_X4_57 rfl rfl ⟨Nat.le_of_ble_eq_true rfl, Nat.le_of_ble_eq_true rfl⟩ rfl hl.1 rfl (Nat.le_of_ble_eq_true rfl) ⟨Nat.zero_le _, Nat.zero_le _⟩ dX4_move_114 (fun H locs hH => ?_)
                refine lv_aload_n hx hb dX4_move_117 rfl (lv_at hl 1 rfl) ?_
                refine lv_iload hx hb dX4_move_118 (lv_at hl 0 rfl) ?_
                refine x_calliM F hH 47 (F.lt (by omega)) (vv4 0) rfl (c_X4_leave l F.ad σ (goL 8 (tn a) 5 5 0 s_18) r_17) cw_X4_82 rfl rfl ⟨Nat.le_of_ble_eq_true rfl, Nat.le_of_ble_eq_true rfl⟩ rfl hl.1 rfl (Nat.le_of_ble_eq_true rfl) ⟨Nat.zero_le _, Nat.zero_le _⟩ dX4_move_120 (fun r_26 s_27 H locs e_28 hH => ?_)
                refine lv_aload_n hx hb dX4_move_123 rfl (lv_at hl 1 rfl) ?_
                refine g_X4_paid F hH kw_303 dX4_move_124 ?_
                refine x_callsR F hH (c_X4_sum l F.ad σ s_27 5 (by omega)) cw_X4_64 rfl rfl ⟨Nat.le_of_ble_eq_true rfl, Nat.le_of_ble_eq_true rfl⟩ rfl hl.1 rfl (Nat.le_of_ble_eq_true rfl) ⟨Nat.zero_le _, Nat.zero_le _⟩ dX4_move_127 (fun H locs hH => ?_)
                refine x_pure hx hb F.hml F.hown F.hts (c_X4_told l r_26 (sumL (s_27 5) 5 0 0)) cw_X4_79 rfl rfl ⟨Nat.le_of_ble_eq_true rfl, Nat.le_of_ble_eq_true rfl⟩ rfl hl.1 rfl (Nat.le_of_ble_eq_true rfl) ⟨Nat.zero_le _, Nat.zero_le _⟩ dX4_move_130 ?_
                exact x_iretM F hr hlk hH (by simp only [f_X4_move, if_neg c_1, if_neg c_3, if_neg c_5, e_8, if_pos c_9, e_12, if_pos c_13, e_19, if_neg c_20, if_neg c_22, e_28]) dX4_move_133
            · refine lv_aload_n hx hb dX4_move_76 rfl (lv_at hl 1 rfl) ?_
              refine lv_aload_n hx hb dX4_move_77 rfl (lv_at hl 1 rfl) ?_
              refine lv_iload_n hx hb dX4_move_78 rfl (lv_at hl 3 rfl) ?_
              refine x_top q_4.1 ?_
              refine lv_aload_n hx hb dX4_move_79 rfl (lv_at hl 1 rfl) ?_
              refine g_X4_paid F hH kw_303 dX4_move_80 ?_
              refine x_calliM F hH 47 (F.lt (by omega)) (vv4 0) rfl (c_X4_lay l F.ad σ s_18 (tn b) 5 (by omega) (by omega)) cw_X4_85 rfl rfl ⟨Nat.le_of_ble_eq_true rfl, Nat.le_of_ble_eq_true rfl⟩ rfl hl.1 rfl (Nat.le_of_ble_eq_true rfl) ⟨Nat.zero_le _, Nat.zero_le _⟩ dX4_move_83 (fun r_29 s_30 H locs e_31 hH => ?_)
              refine x_calliM F hH 47 (F.lt (by omega)) (vv4 0) rfl (c_X4_leave l F.ad σ s_30 r_29) cw_X4_82 rfl rfl ⟨Nat.le_of_ble_eq_true rfl, Nat.le_of_ble_eq_true rfl⟩ rfl hl.1 rfl (Nat.le_of_ble_eq_true rfl) ⟨Nat.zero_le _, Nat.zero_le _⟩ dX4_move_86 (fun r_32 s_33 H locs e_34 hH => ?_)
              refine lv_goto (tgt := 94) hx hb dX4_move_89 (by decide) ?_
              refine lv_istore (lv' := [(5, .int r_32), (0, .ref (ea E 47)), (1, .int a), (2, .int b), (3, .int worth), (4, .int (bz back))]) hx hb dX4_move_94 hl (by decide) rfl (fun ls hl => ?_)
              refine lv_iload hx hb dX4_move_96 (lv_at hl 0 rfl) ?_
              refine lv_if_eq (tgt := 117) hx hb dX4_move_98 (by decide) (fun c_35 => ?_) (fun c_35 => ?_)
              · refine lv_aload_n hx hb dX4_move_117 rfl (lv_at hl 1 rfl) ?_
                refine lv_iload hx hb dX4_move_118 (lv_at hl 0 rfl) ?_
                refine x_calliM F hH 47 (F.lt (by omega)) (vv4 0) rfl (c_X4_leave l F.ad σ s_33 r_32) cw_X4_82 rfl rfl ⟨Nat.le_of_ble_eq_true rfl, Nat.le_of_ble_eq_true rfl⟩ rfl hl.1 rfl (Nat.le_of_ble_eq_true rfl) ⟨Nat.zero_le _, Nat.zero_le _⟩ dX4_move_120 (fun r_36 s_37 H locs e_38 hH => ?_)
                refine lv_aload_n hx hb dX4_move_123 rfl (lv_at hl 1 rfl) ?_
                refine g_X4_paid F hH kw_303 dX4_move_124 ?_
                refine x_callsR F hH (c_X4_sum l F.ad σ s_37 5 (by omega)) cw_X4_64 rfl rfl ⟨Nat.le_of_ble_eq_true rfl, Nat.le_of_ble_eq_true rfl⟩ rfl hl.1 rfl (Nat.le_of_ble_eq_true rfl) ⟨Nat.zero_le _, Nat.zero_le _⟩ dX4_move_127 (fun H locs hH => ?_)
                refine x_pure hx hb F.hml F.hown F.hts (c_X4_told l r_36 (sumL (s_37 5) 5 0 0)) cw_X4_79 rfl rfl ⟨Nat.le_of_ble_eq_true rfl, Nat.le_of_ble_eq_true rfl⟩ rfl hl.1 rfl (Nat.le_of_ble_eq_true rfl) ⟨Nat.zero_le _, Nat.zero_le _⟩ dX4_move_130 ?_
                exact x_iretM F hr hlk hH (by simp only [f_X4_move, if_neg c_1, if_neg c_3, if_neg c_5, e_8, if_pos c_9, e_12, if_pos c_13, e_19, if_pos c_20, e_31, e_34, if_pos c_35, e_38]) dX4_move_133
              · refine lv_iload hx hb dX4_move_101 (lv_at hl 5 rfl) ?_
                refine lv_if_eq (tgt := 117) hx hb dX4_move_103 (by decide) (fun c_39 => ?_) (fun c_39 => ?_)
                · refine lv_aload_n hx hb dX4_move_117 rfl (lv_at hl 1 rfl) ?_
                  refine lv_iload hx hb dX4_move_118 (lv_at hl 0 rfl) ?_
                  refine x_calliM F hH 47 (F.lt (by omega)) (vv4 0) rfl (c_X4_leave l F.ad σ s_33 r_32) cw_X4_82 rfl rfl ⟨Nat.le_of_ble_eq_true rfl, Nat.le_of_ble_eq_true rfl⟩ rfl hl.1 rfl (Nat.le_of_ble_eq_true rfl) ⟨Nat.zero_le _, Nat.zero_le _⟩ dX4_move_120 (fun r_40 s_41 H locs e_42 hH => ?_)
                  refine lv_aload_n hx hb dX4_move_123 rfl (lv_at hl 1 rfl) ?_
                  refine g_X4_paid F hH kw_303 dX4_move_124 ?_
                  refine x_callsR F hH (c_X4_sum l F.ad σ s_41 5 (by omega)) cw_X4_64 rfl rfl ⟨Nat.le_of_ble_eq_true rfl, Nat.le_of_ble_eq_true rfl⟩ rfl hl.1 rfl (Nat.le_of_ble_eq_true rfl) ⟨Nat.zero_le _, Nat.zero_le _⟩ dX4_move_127 (fun H locs hH => ?_)
                  refine x_pure hx hb F.hml F.hown F.hts (c_X4_told l r_40 (sumL (s_41 5) 5 0 0)) cw_X4_79 rfl rfl ⟨Nat.le_of_ble_eq_true rfl, Nat.le_of_ble_eq_true rfl⟩ rfl hl.1 rfl (Nat.le_of_ble_eq_true rfl) ⟨Nat.zero_le _, Nat.zero_le _⟩ dX4_move_130 ?_
                  exact x_iretM F hr hlk hH (by simp only [f_X4_move, if_neg c_1, if_neg c_3, if_neg c_5, e_8, if_pos c_9, e_12, if_pos c_13, e_19, if_pos c_20, e_31, e_34, if_neg c_35, if_pos c_39, e_42]) dX4_move_133
                · refine lv_aload_n hx hb dX4_move_106 rfl (lv_at hl 1 rfl) ?_
                  refine lv_bipush (v := 8) hx hb dX4_move_107 (by decide) ?_
                  refine lv_iload_n hx hb dX4_move_109 rfl (lv_at hl 2 rfl) ?_
                  refine x_top q_2.1 ?_
                  refine lv_aload_n hx hb dX4_move_110 rfl (lv_at hl 1 rfl) ?_
                  refine g_X4_paid F hH kw_303 dX4_move_111 ?_
                  refine x_callv F hH 47 (F.lt (by omega)) (vv4 0) rfl (c_X4_go l F.ad σ s_33 8 (tn a) 5 (by omega) (by omega) (by omega)) cw_X4_57 rfl rfl ⟨Nat.le_of_ble_eq_true rfl, Nat.le_of_ble_eq_true rfl⟩ rfl hl.1 rfl (Nat.le_of_ble_eq_true rfl) ⟨Nat.zero_le _, Nat.zero_le _⟩ dX4_move_114 (fun H locs hH => ?_)
                  refine lv_aload_n hx hb dX4_move_117 rfl (lv_at hl 1 rfl) ?_
                  refine lv_iload hx hb dX4_move_118 (lv_at hl 0 rfl) ?_
                  refine x_calliM F hH 47 (F.lt (by omega)) (vv4 0) rfl (c_X4_leave l F.ad σ (goL 8 (tn a) 5 5 0 s_33) r_32) cw_X4_82 rfl rfl ⟨Nat.le_of_ble_eq_true rfl, Nat.le_of_ble_eq_true rfl⟩ rfl hl.1 rfl (Nat.le_of_ble_eq_true rfl) ⟨Nat.zero_le _, Nat.zero_le _⟩ dX4_move_120 (fun r_43 s_44 H locs e_45 hH => ?_)
                  refine lv_aload_n hx hb dX4_move_123 rfl (lv_at hl 1 rfl) ?_
                  refine g_X4_paid F hH kw_303 dX4_move_124 ?_
                  refine x_callsR F hH (c_X4_sum l F.ad σ s_44 5 (by omega)) cw_X4_64 rfl rfl ⟨Nat.le_of_ble_eq_true rfl, Nat.le_of_ble_eq_true rfl⟩ rfl hl.1 rfl (Nat.le_of_ble_eq_true rfl) ⟨Nat.zero_le _, Nat.zero_le _⟩ dX4_move_127 (fun H locs hH => ?_)
                  refine x_pure hx hb F.hml F.hown F.hts (c_X4_told l r_43 (sumL (s_44 5) 5 0 0)) cw_X4_79 rfl rfl ⟨Nat.le_of_ble_eq_true rfl, Nat.le_of_ble_eq_true rfl⟩ rfl hl.1 rfl (Nat.le_of_ble_eq_true rfl) ⟨Nat.zero_le _, Nat.zero_le _⟩ dX4_move_130 ?_
                  exact x_iretM F hr hlk hH (by simp only [f_X4_move, if_neg c_1, if_neg c_3, if_neg c_5, e_8, if_pos c_9, e_12, if_pos c_13, e_19, if_pos c_20, e_31, e_34, if_neg c_35, if_neg c_39, e_45]) dX4_move_133
        · refine lv_iload hx hb dX4_move_44 (lv_at hl 0 rfl) ?_
          refine lv_iconst (v := 0) hx hb dX4_move_46 (by decide) ?_
          refine x_pure hx hb F.hml F.hown F.hts (c_X4_told l r_6 0) cw_X4_79 rfl rfl ⟨Nat.le_of_ble_eq_true rfl, Nat.le_of_ble_eq_true rfl⟩ rfl hl.1 rfl (Nat.le_of_ble_eq_true rfl) ⟨Nat.zero_le _, Nat.zero_le _⟩ dX4_move_47 ?_
          exact x_iretM F hr hlk hH (by simp only [f_X4_move, if_neg c_1, if_neg c_3, if_neg c_5, e_8, if_neg c_9]) dX4_move_50
      · refine lv_iconst (v := -1) hx hb dX4_move_30 (by decide) ?_
        exact x_iretM F hr hlk hH (by simp only [f_X4_move, if_neg c_1, if_neg c_3, if_pos c_5]) dX4_move_31
def f_X4_share (μ : St) (a : Int32) (b : Int32) (kind : Int32) : Int32 × St :=
  if (f_X4_isTill a) = 0 then
    ((-1), (up μ 0 0 0))
  else
    if (f_X4_isTill b) = 0 then
      ((-1), (up μ 0 0 0))
    else
      if (f_X4_in kind 0 4) = 0 then
        ((-1), (up μ 0 0 0))
      else
        match f_X4_hold (up μ 0 0 0) (tn a) with
        | (r_7, s_8) =>
          if r_7 = 0 then
            match f_X4_hold s_8 (tn b) with
            | (r_11, s_12) =>
              if r_11 = 0 then
                if (s_12 4 ((5 * (tn a)) + (tn kind))) ≤ (s_12 4 ((5 * (tn b)) + (tn kind))) then
                  if (bz (s_12 2 (tn a))) = 0 then
                    if (bz (s_12 2 (tn b))) = 0 then
                      if (((s_12 4 ((5 * (tn b)) + (tn kind))) - (s_12 4 ((5 * (tn a)) + (tn kind)))) / 2) ≤ 0 then
                        match f_X4_leave (up (up s_12 4 ((5 * (tn b)) + (tn kind)) ((s_12 4 ((5 * (tn b)) + (tn kind))) - (((s_12 4 ((5 * (tn b)) + (tn kind))) - (s_12 4 ((5 * (tn a)) + (tn kind)))) / 2))) 4 ((5 * (tn a)) + (tn kind)) (((up s_12 4 ((5 * (tn b)) + (tn kind)) ((s_12 4 ((5 * (tn b)) + (tn kind))) - (((s_12 4 ((5 * (tn b)) + (tn kind))) - (s_12 4 ((5 * (tn a)) + (tn kind)))) / 2))) 4 ((5 * (tn a)) + (tn kind))) + (((s_12 4 ((5 * (tn b)) + (tn kind))) - (s_12 4 ((5 * (tn a)) + (tn kind)))) / 2))) 0 with
                        | (r_32, s_33) =>
                          match f_X4_leave s_33 r_32 with
                          | (r_35, s_36) =>
                            (f_X4_told r_35 (((s_12 4 ((5 * (tn b)) + (tn kind))) - (s_12 4 ((5 * (tn a)) + (tn kind)))) / 2), s_36)
                      else
                        if ((sumL (rowM s_12 (tn a)) 5 0 0) + (((s_12 4 ((5 * (tn b)) + (tn kind))) - (s_12 4 ((5 * (tn a)) + (tn kind)))) / 2)) ≤ (s_12 3 (tn a)) then
                          match f_X4_leave (up (up s_12 4 ((5 * (tn b)) + (tn kind)) ((s_12 4 ((5 * (tn b)) + (tn kind))) - (((s_12 4 ((5 * (tn b)) + (tn kind))) - (s_12 4 ((5 * (tn a)) + (tn kind)))) / 2))) 4 ((5 * (tn a)) + (tn kind)) (((up s_12 4 ((5 * (tn b)) + (tn kind)) ((s_12 4 ((5 * (tn b)) + (tn kind))) - (((s_12 4 ((5 * (tn b)) + (tn kind))) - (s_12 4 ((5 * (tn a)) + (tn kind)))) / 2))) 4 ((5 * (tn a)) + (tn kind))) + (((s_12 4 ((5 * (tn b)) + (tn kind))) - (s_12 4 ((5 * (tn a)) + (tn kind)))) / 2))) 0 with
                          | (r_40, s_41) =>
                            match f_X4_leave s_41 r_40 with
                            | (r_43, s_44) =>
                              (f_X4_told r_43 (((s_12 4 ((5 * (tn b)) + (tn kind))) - (s_12 4 ((5 * (tn a)) + (tn kind)))) / 2), s_44)
                        else
                          match f_X4_leave s_12 4 with
                          | (r_47, s_48) =>
                            match f_X4_leave s_48 r_47 with
                            | (r_50, s_51) =>
                              (f_X4_told r_50 (((s_12 4 ((5 * (tn b)) + (tn kind))) - (s_12 4 ((5 * (tn a)) + (tn kind)))) / 2), s_51)
                    else
                      match f_X4_leave s_12 2 with
                      | (r_54, s_55) =>
                        match f_X4_leave s_55 r_54 with
                        | (r_57, s_58) =>
                          (f_X4_told r_57 (((s_12 4 ((5 * (tn b)) + (tn kind))) - (s_12 4 ((5 * (tn a)) + (tn kind)))) / 2), s_58)
                  else
                    match f_X4_leave s_12 2 with
                    | (r_23, s_24) =>
                      match f_X4_leave s_24 r_23 with
                      | (r_26, s_27) =>
                        (f_X4_told r_26 (((s_12 4 ((5 * (tn b)) + (tn kind))) - (s_12 4 ((5 * (tn a)) + (tn kind)))) / 2), s_27)
                else
                  if (bz (s_12 2 (tn a))) = 0 then
                    if (bz (s_12 2 (tn b))) = 0 then
                      if (((s_12 4 ((5 * (tn a)) + (tn kind))) - (s_12 4 ((5 * (tn b)) + (tn kind)))) / 2) ≤ 0 then
                        match f_X4_leave (up (up s_12 4 ((5 * (tn a)) + (tn kind)) ((s_12 4 ((5 * (tn a)) + (tn kind))) - (((s_12 4 ((5 * (tn a)) + (tn kind))) - (s_12 4 ((5 * (tn b)) + (tn kind)))) / 2))) 4 ((5 * (tn b)) + (tn kind)) (((up s_12 4 ((5 * (tn a)) + (tn kind)) ((s_12 4 ((5 * (tn a)) + (tn kind))) - (((s_12 4 ((5 * (tn a)) + (tn kind))) - (s_12 4 ((5 * (tn b)) + (tn kind)))) / 2))) 4 ((5 * (tn b)) + (tn kind))) + (((s_12 4 ((5 * (tn a)) + (tn kind))) - (s_12 4 ((5 * (tn b)) + (tn kind)))) / 2))) 0 with
                        | (r_73, s_74) =>
                          match f_X4_leave s_74 r_73 with
                          | (r_76, s_77) =>
                            (f_X4_told r_76 (((s_12 4 ((5 * (tn a)) + (tn kind))) - (s_12 4 ((5 * (tn b)) + (tn kind)))) / 2), s_77)
                      else
                        if ((sumL (rowM s_12 (tn b)) 5 0 0) + (((s_12 4 ((5 * (tn a)) + (tn kind))) - (s_12 4 ((5 * (tn b)) + (tn kind)))) / 2)) ≤ (s_12 3 (tn b)) then
                          match f_X4_leave (up (up s_12 4 ((5 * (tn a)) + (tn kind)) ((s_12 4 ((5 * (tn a)) + (tn kind))) - (((s_12 4 ((5 * (tn a)) + (tn kind))) - (s_12 4 ((5 * (tn b)) + (tn kind)))) / 2))) 4 ((5 * (tn b)) + (tn kind)) (((up s_12 4 ((5 * (tn a)) + (tn kind)) ((s_12 4 ((5 * (tn a)) + (tn kind))) - (((s_12 4 ((5 * (tn a)) + (tn kind))) - (s_12 4 ((5 * (tn b)) + (tn kind)))) / 2))) 4 ((5 * (tn b)) + (tn kind))) + (((s_12 4 ((5 * (tn a)) + (tn kind))) - (s_12 4 ((5 * (tn b)) + (tn kind)))) / 2))) 0 with
                          | (r_81, s_82) =>
                            match f_X4_leave s_82 r_81 with
                            | (r_84, s_85) =>
                              (f_X4_told r_84 (((s_12 4 ((5 * (tn a)) + (tn kind))) - (s_12 4 ((5 * (tn b)) + (tn kind)))) / 2), s_85)
                        else
                          match f_X4_leave s_12 4 with
                          | (r_88, s_89) =>
                            match f_X4_leave s_89 r_88 with
                            | (r_91, s_92) =>
                              (f_X4_told r_91 (((s_12 4 ((5 * (tn a)) + (tn kind))) - (s_12 4 ((5 * (tn b)) + (tn kind)))) / 2), s_92)
                    else
                      match f_X4_leave s_12 2 with
                      | (r_95, s_96) =>
                        match f_X4_leave s_96 r_95 with
                        | (r_98, s_99) =>
                          (f_X4_told r_98 (((s_12 4 ((5 * (tn a)) + (tn kind))) - (s_12 4 ((5 * (tn b)) + (tn kind)))) / 2), s_99)
                  else
                    match f_X4_leave s_12 2 with
                    | (r_64, s_65) =>
                      match f_X4_leave s_65 r_64 with
                      | (r_67, s_68) =>
                        (f_X4_told r_67 (((s_12 4 ((5 * (tn a)) + (tn kind))) - (s_12 4 ((5 * (tn b)) + (tn kind)))) / 2), s_68)
              else
                match f_X4_leave s_12 r_11 with
                | (r_15, s_16) =>
                  (f_X4_told r_15 0, s_16)
          else
            (f_X4_told r_7 0, s_8)
set_option maxRecDepth 100000 in
set_option maxHeartbeats 4000000 in
theorem c_X4_share (l : Launch) {E : EV} (hA : AD E) (σ μ : St) (a : Int32) (b : Int32) (kind : Int32) : Met l yX4_share (.code yX4_share cX4_share 10 (some .int) :: gtbl) (rmL 2) (va_Pc [.ref (ea E 47), .int a, .int b, .int kind] (PR E σ μ)) (QI E (f_X4_share μ a b kind).1 σ (f_X4_share μ a b kind).2) 0 0 (eA E) := by
  refine x_met (own := RX4) (by decide) rfl hA (Nat.le_of_ble_eq_true rfl) ?_
  intro p e s m below meth c ls F hr hlk hH hl
  have hl : lv_has ls 10 [(0, .ref (ea E 47)), (1, .int a), (2, .int b), (3, .int kind)] := hl
  have hx := F.hx
  have hb := F.hb
  refine lv_aload_n hx hb dX4_share_0 rfl (lv_at hl 0 rfl) ?_
  refine lv_iconst (v := 0) hx hb dX4_share_1 (by decide) ?_
  refine p_X4_thrown F hH kw_294 dX4_share_2 (fun H locs hH => ?_)
  refine lv_iload_n hx hb dX4_share_5 rfl (lv_at hl 1 rfl) ?_
  refine x_pure hx hb F.hml F.hown F.hts (c_X4_isTill l a) cw_X4_68 rfl rfl ⟨Nat.le_of_ble_eq_true rfl, Nat.le_of_ble_eq_true rfl⟩ rfl hl.1 rfl (Nat.le_of_ble_eq_true rfl) ⟨Nat.zero_le _, Nat.zero_le _⟩ dX4_share_6 ?_
  refine lv_if_eq (tgt := 28) hx hb dX4_share_9 (by decide) (fun c_1 => ?_) (fun c_1 => ?_)
  · refine lv_iconst (v := -1) hx hb dX4_share_28 (by decide) ?_
    exact x_iretM F hr hlk hH (by simp only [f_X4_share, if_pos c_1]) dX4_share_29
  · have q_2 := X4_isTill_n c_1
    have q_2b := q_2.2
    refine lv_iload_n hx hb dX4_share_12 rfl (lv_at hl 2 rfl) ?_
    refine x_pure hx hb F.hml F.hown F.hts (c_X4_isTill l b) cw_X4_68 rfl rfl ⟨Nat.le_of_ble_eq_true rfl, Nat.le_of_ble_eq_true rfl⟩ rfl hl.1 rfl (Nat.le_of_ble_eq_true rfl) ⟨Nat.zero_le _, Nat.zero_le _⟩ dX4_share_13 ?_
    refine lv_if_eq (tgt := 28) hx hb dX4_share_16 (by decide) (fun c_3 => ?_) (fun c_3 => ?_)
    · refine lv_iconst (v := -1) hx hb dX4_share_28 (by decide) ?_
      exact x_iretM F hr hlk hH (by simp only [f_X4_share, if_neg c_1, if_pos c_3]) dX4_share_29
    · have q_4 := X4_isTill_n c_3
      have q_4b := q_4.2
      refine lv_iload_n hx hb dX4_share_19 rfl (lv_at hl 3 rfl) ?_
      refine lv_iconst (v := 0) hx hb dX4_share_20 (by decide) ?_
      refine lv_iconst (v := 4) hx hb dX4_share_21 (by decide) ?_
      refine x_pure hx hb F.hml F.hown F.hts (c_X4_in l kind 0 4) cw_X4_33 rfl rfl ⟨Nat.le_of_ble_eq_true rfl, Nat.le_of_ble_eq_true rfl⟩ rfl hl.1 rfl (Nat.le_of_ble_eq_true rfl) ⟨Nat.zero_le _, Nat.zero_le _⟩ dX4_share_22 ?_
      refine lv_if_ne (tgt := 30) hx hb dX4_share_25 (by decide) (fun c_5 => ?_) (fun c_5 => ?_)
      · have q_6 := X4_in_n (M := 4) rfl (by decide) c_5
        have q_6b := q_6.2
        refine lv_aload_n hx hb dX4_share_30 rfl (lv_at hl 0 rfl) ?_
        refine lv_iload_n hx hb dX4_share_31 rfl (lv_at hl 1 rfl) ?_
        refine x_top q_2.1 ?_
        refine x_calliM F hH 47 (F.lt (by omega)) (vv4 0) rfl (c_X4_hold l F.ad σ (up μ 0 0 0) (tn a) (by omega)) cw_X4_76 rfl rfl ⟨Nat.le_of_ble_eq_true rfl, Nat.le_of_ble_eq_true rfl⟩ rfl hl.1 rfl (Nat.le_of_ble_eq_true rfl) ⟨Nat.zero_le _, Nat.zero_le _⟩ dX4_share_32 (fun r_7 s_8 H locs e_9 hH => ?_)
        refine lv_istore (lv' := [(4, .int r_7), (0, .ref (ea E 47)), (1, .int a), (2, .int b), (3, .int kind)]) hx hb dX4_share_35 hl (by decide) rfl (fun ls hl => ?_)
        refine lv_iload hx hb dX4_share_37 (lv_at hl 0 rfl) ?_
        refine lv_if_eq (tgt := 49) hx hb dX4_share_39 (by decide) (fun c_10 => ?_) (fun c_10 => ?_)
        · refine lv_aload_n hx hb dX4_share_49 rfl (lv_at hl 1 rfl) ?_
          refine lv_iload_n hx hb dX4_share_50 rfl (lv_at hl 3 rfl) ?_
          refine x_top q_4.1 ?_
          refine x_calliM F hH 47 (F.lt (by omega)) (vv4 0) rfl (c_X4_hold l F.ad σ s_8 (tn b) (by omega)) cw_X4_76 rfl rfl ⟨Nat.le_of_ble_eq_true rfl, Nat.le_of_ble_eq_true rfl⟩ rfl hl.1 rfl (Nat.le_of_ble_eq_true rfl) ⟨Nat.zero_le _, Nat.zero_le _⟩ dX4_share_51 (fun r_11 s_12 H locs e_13 hH => ?_)
          refine lv_istore (lv' := [(4, .int r_11), (0, .ref (ea E 47)), (1, .int a), (2, .int b), (3, .int kind)]) hx hb dX4_share_54 hl (by decide) rfl (fun ls hl => ?_)
          refine lv_iconst (v := 0) hx hb dX4_share_56 (by decide) ?_
          refine lv_istore (lv' := [(5, .int 0), (4, .int r_11), (0, .ref (ea E 47)), (1, .int a), (2, .int b), (3, .int kind)]) hx hb dX4_share_57 hl (by decide) rfl (fun ls hl => ?_)
          refine lv_iload hx hb dX4_share_59 (lv_at hl 1 rfl) ?_
          refine lv_if_ne (tgt := 238) hx hb dX4_share_61 (by decide) (fun c_14 => ?_) (fun c_14 => ?_)
          · refine lv_aload_n hx hb dX4_share_238 rfl (lv_at hl 2 rfl) ?_
            refine lv_iload hx hb dX4_share_239 (lv_at hl 1 rfl) ?_
            refine x_calliM F hH 47 (F.lt (by omega)) (vv4 0) rfl (c_X4_leave l F.ad σ s_12 r_11) cw_X4_82 rfl rfl ⟨Nat.le_of_ble_eq_true rfl, Nat.le_of_ble_eq_true rfl⟩ rfl hl.1 rfl (Nat.le_of_ble_eq_true rfl) ⟨Nat.zero_le _, Nat.zero_le _⟩ dX4_share_241 (fun r_15 s_16 H locs e_17 hH => ?_)
            refine lv_iload hx hb dX4_share_244 (lv_at hl 0 rfl) ?_
            refine x_pure hx hb F.hml F.hown F.hts (c_X4_told l r_15 0) cw_X4_79 rfl rfl ⟨Nat.le_of_ble_eq_true rfl, Nat.le_of_ble_eq_true rfl⟩ rfl hl.1 rfl (Nat.le_of_ble_eq_true rfl) ⟨Nat.zero_le _, Nat.zero_le _⟩ dX4_share_246 ?_
            exact x_iretM F hr hlk hH (by simp only [f_X4_share, if_neg c_1, if_neg c_3, if_neg c_5, e_9, if_pos c_10, e_13, if_neg c_14, e_17]) dX4_share_249
          · refine lv_aload_n hx hb dX4_share_64 rfl (lv_at hl 2 rfl) ?_
            refine g_X4_coins F hH kw_298 dX4_share_65 ?_
            refine lv_iconst (v := 5) hx hb dX4_share_68 (by decide) ?_
            refine lv_iload_n hx hb dX4_share_69 rfl (lv_at hl 3 rfl) ?_
            refine x_top q_2.1 ?_
            refine lv_imul hx hb dX4_share_70 ?_
            refine x_top (pk_mul 5 (tn a)) ?_
            refine lv_iload_n hx hb dX4_share_71 rfl (lv_at hl 5 rfl) ?_
            refine x_top q_6.1 ?_
            refine lv_iadd hx hb dX4_share_72 ?_
            refine x_top (nI_add (5 * (tn a)) (tn kind)) ?_
            refine a_mco F hH ((5 * (tn a)) + (tn kind)) (by omega) dX4_share_73 ?_
            refine lv_istore (lv' := [(6, .int (s_12 4 ((5 * (tn a)) + (tn kind)))), (5, .int 0), (4, .int r_11), (0, .ref (ea E 47)), (1, .int a), (2, .int b), (3, .int kind)]) hx hb dX4_share_74 hl (by decide) rfl (fun ls hl => ?_)
            refine lv_aload_n hx hb dX4_share_76 rfl (lv_at hl 3 rfl) ?_
            refine g_X4_coins F hH kw_298 dX4_share_77 ?_
            refine lv_iconst (v := 5) hx hb dX4_share_80 (by decide) ?_
            refine lv_iload_n hx hb dX4_share_81 rfl (lv_at hl 5 rfl) ?_
            refine x_top q_4.1 ?_
            refine lv_imul hx hb dX4_share_82 ?_
            refine x_top (pk_mul 5 (tn b)) ?_
            refine lv_iload_n hx hb dX4_share_83 rfl (lv_at hl 6 rfl) ?_
            refine x_top q_6.1 ?_
            refine lv_iadd hx hb dX4_share_84 ?_
            refine x_top (nI_add (5 * (tn b)) (tn kind)) ?_
            refine a_mco F hH ((5 * (tn b)) + (tn kind)) (by omega) dX4_share_85 ?_
            refine lv_istore (lv' := [(7, .int (s_12 4 ((5 * (tn b)) + (tn kind)))), (6, .int (s_12 4 ((5 * (tn a)) + (tn kind)))), (5, .int 0), (4, .int r_11), (0, .ref (ea E 47)), (1, .int a), (2, .int b), (3, .int kind)]) hx hb dX4_share_86 hl (by decide) rfl (fun ls hl => ?_)
            refine lv_iload hx hb dX4_share_88 (lv_at hl 1 rfl) ?_
            refine lv_iload hx hb dX4_share_90 (lv_at hl 0 rfl) ?_
            refine lv_icmp_le (tgt := 99) hx hb dX4_share_92 (by decide) (fun c_18 => ?_) (fun c_18 => ?_)
            · refine lv_iload_n hx hb dX4_share_99 rfl (lv_at hl 6 rfl) ?_
              refine x_top q_4.1 ?_
              refine lv_istore (lv' := [(8, .int (nI (tn b))), (7, .int (s_12 4 ((5 * (tn b)) + (tn kind)))), (6, .int (s_12 4 ((5 * (tn a)) + (tn kind)))), (5, .int 0), (4, .int r_11), (0, .ref (ea E 47)), (1, .int a), (2, .int b), (3, .int kind)]) hx hb dX4_share_100 hl (by decide) rfl (fun ls hl => ?_)
              refine lv_iload hx hb dX4_share_102 (lv_at hl 2 rfl) ?_
              refine lv_iload hx hb dX4_share_104 (lv_at hl 1 rfl) ?_
              refine lv_icmp_le (tgt := 113) hx hb dX4_share_106 (by decide) (fun _ => ?_) (fun c_19 => absurd c_18 c_19)
              refine lv_iload_n hx hb dX4_share_113 rfl (lv_at hl 6 rfl) ?_
              refine x_top q_2.1 ?_
              refine lv_istore (lv' := [(9, .int (nI (tn a))), (8, .int (nI (tn b))), (7, .int (s_12 4 ((5 * (tn b)) + (tn kind)))), (6, .int (s_12 4 ((5 * (tn a)) + (tn kind)))), (5, .int 0), (4, .int r_11), (0, .ref (ea E 47)), (1, .int a), (2, .int b), (3, .int kind)]) hx hb dX4_share_114 hl (by decide) rfl (fun ls hl => ?_)
              refine lv_iload hx hb dX4_share_116 (lv_at hl 3 rfl) ?_
              refine lv_iload hx hb dX4_share_118 (lv_at hl 2 rfl) ?_
              refine lv_icmp_le (tgt := 131) hx hb dX4_share_120 (by decide) (fun _ => ?_) (fun c_20 => absurd c_18 c_20)
              refine lv_iload hx hb dX4_share_131 (lv_at hl 2 rfl) ?_
              refine lv_iload hx hb dX4_share_133 (lv_at hl 3 rfl) ?_
              refine lv_isub hx hb dX4_share_135 ?_
              refine lv_iconst (v := 2) hx hb dX4_share_136 (by decide) ?_
              refine lv_idiv hx hb dX4_share_137 (by decide) ?_
              refine lv_istore (lv' := [(5, .int (((s_12 4 ((5 * (tn b)) + (tn kind))) - (s_12 4 ((5 * (tn a)) + (tn kind)))) / 2)), (9, .int (nI (tn a))), (8, .int (nI (tn b))), (7, .int (s_12 4 ((5 * (tn b)) + (tn kind)))), (6, .int (s_12 4 ((5 * (tn a)) + (tn kind)))), (4, .int r_11), (0, .ref (ea E 47)), (1, .int a), (2, .int b), (3, .int kind)]) hx hb dX4_share_138 hl (by decide) rfl (fun ls hl => ?_)
              refine lv_aload_n hx hb dX4_share_140 rfl (lv_at hl 6 rfl) ?_
              refine g_X4_isShut F hH kw_296 dX4_share_141 ?_
              refine lv_iload_n hx hb dX4_share_144 rfl (lv_at hl 7 rfl) ?_
              refine x_top q_2.1 ?_
              refine a_msh F hH (tn a) (by omega) dX4_share_145 ?_
              refine lv_if_ne (tgt := 158) hx hb dX4_share_146 (by decide) (fun c_21 => ?_) (fun c_21 => ?_)
              · refine lv_iconst (v := 2) hx hb dX4_share_158 (by decide) ?_
                refine lv_goto (tgt := 191) hx hb dX4_share_159 (by decide) ?_
                refine lv_istore (lv' := [(4, .int 2), (5, .int (((s_12 4 ((5 * (tn b)) + (tn kind))) - (s_12 4 ((5 * (tn a)) + (tn kind)))) / 2)), (9, .int (nI (tn a))), (8, .int (nI (tn b))), (7, .int (s_12 4 ((5 * (tn b)) + (tn kind)))), (6, .int (s_12 4 ((5 * (tn a)) + (tn kind)))), (0, .ref (ea E 47)), (1, .int a), (2, .int b), (3, .int kind)]) hx hb dX4_share_191 hl (by decide) rfl (fun ls hl => ?_)
                refine lv_iload hx hb dX4_share_193 (lv_at hl 0 rfl) ?_
                refine lv_if_ne (tgt := 230) hx hb dX4_share_195 (by decide) (fun _ => ?_) (fun c_22 => absurd c_22 (by decide))
                refine lv_aload_n hx hb dX4_share_230 rfl (lv_at hl 6 rfl) ?_
                refine lv_iload hx hb dX4_share_231 (lv_at hl 0 rfl) ?_
                refine x_calliM F hH 47 (F.lt (by omega)) (vv4 0) rfl (c_X4_leave l F.ad σ s_12 2) cw_X4_82 rfl rfl ⟨Nat.le_of_ble_eq_true rfl, Nat.le_of_ble_eq_true rfl⟩ rfl hl.1 rfl (Nat.le_of_ble_eq_true rfl) ⟨Nat.zero_le _, Nat.zero_le _⟩ dX4_share_233 (fun r_23 s_24 H locs e_25 hH => ?_)
                refine lv_istore (lv' := [(4, .int r_23), (5, .int (((s_12 4 ((5 * (tn b)) + (tn kind))) - (s_12 4 ((5 * (tn a)) + (tn kind)))) / 2)), (9, .int (nI (tn a))), (8, .int (nI (tn b))), (7, .int (s_12 4 ((5 * (tn b)) + (tn kind)))), (6, .int (s_12 4 ((5 * (tn a)) + (tn kind)))), (0, .ref (ea E 47)), (1, .int a), (2, .int b), (3, .int kind)]) hx hb dX4_share_236 hl (by decide) rfl (fun ls hl => ?_)
                refine lv_aload_n hx hb dX4_share_238 rfl (lv_at hl 6 rfl) ?_
                refine lv_iload hx hb dX4_share_239 (lv_at hl 0 rfl) ?_
                refine x_calliM F hH 47 (F.lt (by omega)) (vv4 0) rfl (c_X4_leave l F.ad σ s_24 r_23) cw_X4_82 rfl rfl ⟨Nat.le_of_ble_eq_true rfl, Nat.le_of_ble_eq_true rfl⟩ rfl hl.1 rfl (Nat.le_of_ble_eq_true rfl) ⟨Nat.zero_le _, Nat.zero_le _⟩ dX4_share_241 (fun r_26 s_27 H locs e_28 hH => ?_)
                refine lv_iload hx hb dX4_share_244 (lv_at hl 1 rfl) ?_
                refine x_pure hx hb F.hml F.hown F.hts (c_X4_told l r_26 (((s_12 4 ((5 * (tn b)) + (tn kind))) - (s_12 4 ((5 * (tn a)) + (tn kind)))) / 2)) cw_X4_79 rfl rfl ⟨Nat.le_of_ble_eq_true rfl, Nat.le_of_ble_eq_true rfl⟩ rfl hl.1 rfl (Nat.le_of_ble_eq_true rfl) ⟨Nat.zero_le _, Nat.zero_le _⟩ dX4_share_246 ?_
                exact x_iretM F hr hlk hH (by simp only [f_X4_share, if_neg c_1, if_neg c_3, if_neg c_5, e_9, if_pos c_10, e_13, if_pos c_14, if_pos c_18, if_neg c_21, e_25, e_28]) dX4_share_249
              · refine lv_aload_n hx hb dX4_share_149 rfl (lv_at hl 6 rfl) ?_
                refine g_X4_isShut F hH kw_296 dX4_share_150 ?_
                refine lv_iload_n hx hb dX4_share_153 rfl (lv_at hl 8 rfl) ?_
                refine x_top q_4.1 ?_
                refine a_msh F hH (tn b) (by omega) dX4_share_154 ?_
                refine lv_if_eq (tgt := 162) hx hb dX4_share_155 (by decide) (fun c_29 => ?_) (fun c_29 => ?_)
                · refine lv_iload hx hb dX4_share_162 (lv_at hl 0 rfl) ?_
                  refine lv_if_le (tgt := 190) hx hb dX4_share_164 (by decide) (fun c_30 => ?_) (fun c_30 => ?_)
                  · refine lv_iconst (v := 0) hx hb dX4_share_190 (by decide) ?_
                    refine lv_istore (lv' := [(4, .int 0), (5, .int (((s_12 4 ((5 * (tn b)) + (tn kind))) - (s_12 4 ((5 * (tn a)) + (tn kind)))) / 2)), (9, .int (nI (tn a))), (8, .int (nI (tn b))), (7, .int (s_12 4 ((5 * (tn b)) + (tn kind)))), (6, .int (s_12 4 ((5 * (tn a)) + (tn kind)))), (0, .ref (ea E 47)), (1, .int a), (2, .int b), (3, .int kind)]) hx hb dX4_share_191 hl (by decide) rfl (fun ls hl => ?_)
                    refine lv_iload hx hb dX4_share_193 (lv_at hl 0 rfl) ?_
                    refine lv_if_ne (tgt := 230) hx hb dX4_share_195 (by decide) (fun c_31 => absurd (by decide) c_31) (fun _ => ?_)
                    refine lv_aload_n hx hb dX4_share_198 rfl (lv_at hl 6 rfl) ?_
                    refine g_X4_coins F hH kw_298 dX4_share_199 ?_
                    refine lv_iconst (v := 5) hx hb dX4_share_202 (by decide) ?_
                    refine lv_iload hx hb dX4_share_203 (lv_at hl 3 rfl) ?_
                    refine lv_imul hx hb dX4_share_205 ?_
                    refine x_top (pk_mul 5 (tn b)) ?_
                    refine lv_iload_n hx hb dX4_share_206 rfl (lv_at hl 9 rfl) ?_
                    refine x_top q_6.1 ?_
                    refine lv_iadd hx hb dX4_share_207 ?_
                    refine x_top (nI_add (5 * (tn b)) (tn kind)) ?_
                    refine lv_dup2_11 hx hb dX4_share_208 rfl rfl ?_
                    refine a_mco F hH ((5 * (tn b)) + (tn kind)) (by omega) dX4_share_209 ?_
                    refine lv_iload hx hb dX4_share_210 (lv_at hl 1 rfl) ?_
                    refine lv_isub hx hb dX4_share_212 ?_
                    refine s_mco F hH ((5 * (tn b)) + (tn kind)) (by omega) dX4_share_213 (fun H locs hH => ?_)
                    refine lv_aload_n hx hb dX4_share_214 rfl (lv_at hl 6 rfl) ?_
                    refine g_X4_coins F hH kw_298 dX4_share_215 ?_
                    refine lv_iconst (v := 5) hx hb dX4_share_218 (by decide) ?_
                    refine lv_iload hx hb dX4_share_219 (lv_at hl 2 rfl) ?_
                    refine lv_imul hx hb dX4_share_221 ?_
                    refine x_top (pk_mul 5 (tn a)) ?_
                    refine lv_iload_n hx hb dX4_share_222 rfl (lv_at hl 9 rfl) ?_
                    refine x_top q_6.1 ?_
                    refine lv_iadd hx hb dX4_share_223 ?_
                    refine x_top (nI_add (5 * (tn a)) (tn kind)) ?_
                    refine lv_dup2_11 hx hb dX4_share_224 rfl rfl ?_
                    refine a_mco F hH ((5 * (tn a)) + (tn kind)) (by omega) dX4_share_225 ?_
                    refine lv_iload hx hb dX4_share_226 (lv_at hl 1 rfl) ?_
                    refine lv_iadd hx hb dX4_share_228 ?_
                    refine s_mco F hH ((5 * (tn a)) + (tn kind)) (by omega) dX4_share_229 (fun H locs hH => ?_)
                    refine lv_aload_n hx hb dX4_share_230 rfl (lv_at hl 6 rfl) ?_
                    refine lv_iload hx hb dX4_share_231 (lv_at hl 0 rfl) ?_
                    refine x_calliM F hH 47 (F.lt (by omega)) (vv4 0) rfl (c_X4_leave l F.ad σ (up (up s_12 4 ((5 * (tn b)) + (tn kind)) ((s_12 4 ((5 * (tn b)) + (tn kind))) - (((s_12 4 ((5 * (tn b)) + (tn kind))) - (s_12 4 ((5 * (tn a)) + (tn kind)))) / 2))) 4 ((5 * (tn a)) + (tn kind)) (((up s_12 4 ((5 * (tn b)) + (tn kind)) ((s_12 4 ((5 * (tn b)) + (tn kind))) - (((s_12 4 ((5 * (tn b)) + (tn kind))) - (s_12 4 ((5 * (tn a)) + (tn kind)))) / 2))) 4 ((5 * (tn a)) + (tn kind))) + (((s_12 4 ((5 * (tn b)) + (tn kind))) - (s_12 4 ((5 * (tn a)) + (tn kind)))) / 2))) 0) cw_X4_82 rfl rfl ⟨Nat.le_of_ble_eq_true rfl, Nat.le_of_ble_eq_true rfl⟩ rfl hl.1 rfl (Nat.le_of_ble_eq_true rfl) ⟨Nat.zero_le _, Nat.zero_le _⟩ dX4_share_233 (fun r_32 s_33 H locs e_34 hH => ?_)
                    refine lv_istore (lv' := [(4, .int r_32), (5, .int (((s_12 4 ((5 * (tn b)) + (tn kind))) - (s_12 4 ((5 * (tn a)) + (tn kind)))) / 2)), (9, .int (nI (tn a))), (8, .int (nI (tn b))), (7, .int (s_12 4 ((5 * (tn b)) + (tn kind)))), (6, .int (s_12 4 ((5 * (tn a)) + (tn kind)))), (0, .ref (ea E 47)), (1, .int a), (2, .int b), (3, .int kind)]) hx hb dX4_share_236 hl (by decide) rfl (fun ls hl => ?_)
                    refine lv_aload_n hx hb dX4_share_238 rfl (lv_at hl 6 rfl) ?_
                    refine lv_iload hx hb dX4_share_239 (lv_at hl 0 rfl) ?_
                    refine x_calliM F hH 47 (F.lt (by omega)) (vv4 0) rfl (c_X4_leave l F.ad σ s_33 r_32) cw_X4_82 rfl rfl ⟨Nat.le_of_ble_eq_true rfl, Nat.le_of_ble_eq_true rfl⟩ rfl hl.1 rfl (Nat.le_of_ble_eq_true rfl) ⟨Nat.zero_le _, Nat.zero_le _⟩ dX4_share_241 (fun r_35 s_36 H locs e_37 hH => ?_)
                    refine lv_iload hx hb dX4_share_244 (lv_at hl 1 rfl) ?_
                    refine x_pure hx hb F.hml F.hown F.hts (c_X4_told l r_35 (((s_12 4 ((5 * (tn b)) + (tn kind))) - (s_12 4 ((5 * (tn a)) + (tn kind)))) / 2)) cw_X4_79 rfl rfl ⟨Nat.le_of_ble_eq_true rfl, Nat.le_of_ble_eq_true rfl⟩ rfl hl.1 rfl (Nat.le_of_ble_eq_true rfl) ⟨Nat.zero_le _, Nat.zero_le _⟩ dX4_share_246 ?_
                    exact x_iretM F hr hlk hH (by simp only [f_X4_share, if_neg c_1, if_neg c_3, if_neg c_5, e_9, if_pos c_10, e_13, if_pos c_14, if_pos c_18, if_pos c_21, if_pos c_29, if_pos c_30, e_34, e_37]) dX4_share_249
                  · refine lv_aload_n hx hb dX4_share_167 rfl (lv_at hl 6 rfl) ?_
                    refine lv_iload hx hb dX4_share_168 (lv_at hl 1 rfl) ?_
                    refine x_calliR F hH 47 (F.lt (by omega)) (vv4 0) rfl (c_X4_all l F.ad σ s_12 (tn a) (by omega)) cw_X4_61 rfl rfl ⟨Nat.le_of_ble_eq_true rfl, Nat.le_of_ble_eq_true rfl⟩ rfl hl.1 rfl (Nat.le_of_ble_eq_true rfl) ⟨Nat.zero_le _, Nat.zero_le _⟩ dX4_share_170 (fun H locs hH => ?_)
                    refine lv_iload hx hb dX4_share_173 (lv_at hl 0 rfl) ?_
                    refine lv_iadd hx hb dX4_share_175 ?_
                    refine lv_aload_n hx hb dX4_share_176 rfl (lv_at hl 6 rfl) ?_
                    refine g_X4_limit F hH kw_297 dX4_share_177 ?_
                    refine lv_iload hx hb dX4_share_180 (lv_at hl 1 rfl) ?_
                    refine a_mli F hH (tn a) (by omega) dX4_share_182 ?_
                    refine lv_icmp_le (tgt := 190) hx hb dX4_share_183 (by decide) (fun c_38 => ?_) (fun c_38 => ?_)
                    · refine lv_iconst (v := 0) hx hb dX4_share_190 (by decide) ?_
                      refine lv_istore (lv' := [(4, .int 0), (5, .int (((s_12 4 ((5 * (tn b)) + (tn kind))) - (s_12 4 ((5 * (tn a)) + (tn kind)))) / 2)), (9, .int (nI (tn a))), (8, .int (nI (tn b))), (7, .int (s_12 4 ((5 * (tn b)) + (tn kind)))), (6, .int (s_12 4 ((5 * (tn a)) + (tn kind)))), (0, .ref (ea E 47)), (1, .int a), (2, .int b), (3, .int kind)]) hx hb dX4_share_191 hl (by decide) rfl (fun ls hl => ?_)
                      refine lv_iload hx hb dX4_share_193 (lv_at hl 0 rfl) ?_
                      refine lv_if_ne (tgt := 230) hx hb dX4_share_195 (by decide) (fun c_39 => absurd (by decide) c_39) (fun _ => ?_)
                      refine lv_aload_n hx hb dX4_share_198 rfl (lv_at hl 6 rfl) ?_
                      refine g_X4_coins F hH kw_298 dX4_share_199 ?_
                      refine lv_iconst (v := 5) hx hb dX4_share_202 (by decide) ?_
                      refine lv_iload hx hb dX4_share_203 (lv_at hl 3 rfl) ?_
                      refine lv_imul hx hb dX4_share_205 ?_
                      refine x_top (pk_mul 5 (tn b)) ?_
                      refine lv_iload_n hx hb dX4_share_206 rfl (lv_at hl 9 rfl) ?_
                      refine x_top q_6.1 ?_
                      refine lv_iadd hx hb dX4_share_207 ?_
                      refine x_top (nI_add (5 * (tn b)) (tn kind)) ?_
                      refine lv_dup2_11 hx hb dX4_share_208 rfl rfl ?_
                      refine a_mco F hH ((5 * (tn b)) + (tn kind)) (by omega) dX4_share_209 ?_
                      refine lv_iload hx hb dX4_share_210 (lv_at hl 1 rfl) ?_
                      refine lv_isub hx hb dX4_share_212 ?_
                      refine s_mco F hH ((5 * (tn b)) + (tn kind)) (by omega) dX4_share_213 (fun H locs hH => ?_)
                      refine lv_aload_n hx hb dX4_share_214 rfl (lv_at hl 6 rfl) ?_
                      refine g_X4_coins F hH kw_298 dX4_share_215 ?_
                      refine lv_iconst (v := 5) hx hb dX4_share_218 (by decide) ?_
                      refine lv_iload hx hb dX4_share_219 (lv_at hl 2 rfl) ?_
                      refine lv_imul hx hb dX4_share_221 ?_
                      refine x_top (pk_mul 5 (tn a)) ?_
                      refine lv_iload_n hx hb dX4_share_222 rfl (lv_at hl 9 rfl) ?_
                      refine x_top q_6.1 ?_
                      refine lv_iadd hx hb dX4_share_223 ?_
                      refine x_top (nI_add (5 * (tn a)) (tn kind)) ?_
                      refine lv_dup2_11 hx hb dX4_share_224 rfl rfl ?_
                      refine a_mco F hH ((5 * (tn a)) + (tn kind)) (by omega) dX4_share_225 ?_
                      refine lv_iload hx hb dX4_share_226 (lv_at hl 1 rfl) ?_
                      refine lv_iadd hx hb dX4_share_228 ?_
                      refine s_mco F hH ((5 * (tn a)) + (tn kind)) (by omega) dX4_share_229 (fun H locs hH => ?_)
                      refine lv_aload_n hx hb dX4_share_230 rfl (lv_at hl 6 rfl) ?_
                      refine lv_iload hx hb dX4_share_231 (lv_at hl 0 rfl) ?_
                      refine x_calliM F hH 47 (F.lt (by omega)) (vv4 0) rfl (c_X4_leave l F.ad σ (up (up s_12 4 ((5 * (tn b)) + (tn kind)) ((s_12 4 ((5 * (tn b)) + (tn kind))) - (((s_12 4 ((5 * (tn b)) + (tn kind))) - (s_12 4 ((5 * (tn a)) + (tn kind)))) / 2))) 4 ((5 * (tn a)) + (tn kind)) (((up s_12 4 ((5 * (tn b)) + (tn kind)) ((s_12 4 ((5 * (tn b)) + (tn kind))) - (((s_12 4 ((5 * (tn b)) + (tn kind))) - (s_12 4 ((5 * (tn a)) + (tn kind)))) / 2))) 4 ((5 * (tn a)) + (tn kind))) + (((s_12 4 ((5 * (tn b)) + (tn kind))) - (s_12 4 ((5 * (tn a)) + (tn kind)))) / 2))) 0) cw_X4_82 rfl rfl ⟨Nat.le_of_ble_eq_true rfl, Nat.le_of_ble_eq_true rfl⟩ rfl hl.1 rfl (Nat.le_of_ble_eq_true rfl) ⟨Nat.zero_le _, Nat.zero_le _⟩ dX4_share_233 (fun r_40 s_41 H locs e_42 hH => ?_)
                      refine lv_istore (lv' := [(4, .int r_40), (5, .int (((s_12 4 ((5 * (tn b)) + (tn kind))) - (s_12 4 ((5 * (tn a)) + (tn kind)))) / 2)), (9, .int (nI (tn a))), (8, .int (nI (tn b))), (7, .int (s_12 4 ((5 * (tn b)) + (tn kind)))), (6, .int (s_12 4 ((5 * (tn a)) + (tn kind)))), (0, .ref (ea E 47)), (1, .int a), (2, .int b), (3, .int kind)]) hx hb dX4_share_236 hl (by decide) rfl (fun ls hl => ?_)
                      refine lv_aload_n hx hb dX4_share_238 rfl (lv_at hl 6 rfl) ?_
                      refine lv_iload hx hb dX4_share_239 (lv_at hl 0 rfl) ?_
                      refine x_calliM F hH 47 (F.lt (by omega)) (vv4 0) rfl (c_X4_leave l F.ad σ s_41 r_40) cw_X4_82 rfl rfl ⟨Nat.le_of_ble_eq_true rfl, Nat.le_of_ble_eq_true rfl⟩ rfl hl.1 rfl (Nat.le_of_ble_eq_true rfl) ⟨Nat.zero_le _, Nat.zero_le _⟩ dX4_share_241 (fun r_43 s_44 H locs e_45 hH => ?_)
                      refine lv_iload hx hb dX4_share_244 (lv_at hl 1 rfl) ?_
                      refine x_pure hx hb F.hml F.hown F.hts (c_X4_told l r_43 (((s_12 4 ((5 * (tn b)) + (tn kind))) - (s_12 4 ((5 * (tn a)) + (tn kind)))) / 2)) cw_X4_79 rfl rfl ⟨Nat.le_of_ble_eq_true rfl, Nat.le_of_ble_eq_true rfl⟩ rfl hl.1 rfl (Nat.le_of_ble_eq_true rfl) ⟨Nat.zero_le _, Nat.zero_le _⟩ dX4_share_246 ?_
                      exact x_iretM F hr hlk hH (by simp only [f_X4_share, if_neg c_1, if_neg c_3, if_neg c_5, e_9, if_pos c_10, e_13, if_pos c_14, if_pos c_18, if_pos c_21, if_pos c_29, if_neg c_30, if_pos c_38, e_42, e_45]) dX4_share_249
                    · refine lv_iconst (v := 4) hx hb dX4_share_186 (by decide) ?_
                      refine lv_goto (tgt := 191) hx hb dX4_share_187 (by decide) ?_
                      refine lv_istore (lv' := [(4, .int 4), (5, .int (((s_12 4 ((5 * (tn b)) + (tn kind))) - (s_12 4 ((5 * (tn a)) + (tn kind)))) / 2)), (9, .int (nI (tn a))), (8, .int (nI (tn b))), (7, .int (s_12 4 ((5 * (tn b)) + (tn kind)))), (6, .int (s_12 4 ((5 * (tn a)) + (tn kind)))), (0, .ref (ea E 47)), (1, .int a), (2, .int b), (3, .int kind)]) hx hb dX4_share_191 hl (by decide) rfl (fun ls hl => ?_)
                      refine lv_iload hx hb dX4_share_193 (lv_at hl 0 rfl) ?_
                      refine lv_if_ne (tgt := 230) hx hb dX4_share_195 (by decide) (fun _ => ?_) (fun c_46 => absurd c_46 (by decide))
                      refine lv_aload_n hx hb dX4_share_230 rfl (lv_at hl 6 rfl) ?_
                      refine lv_iload hx hb dX4_share_231 (lv_at hl 0 rfl) ?_
                      refine x_calliM F hH 47 (F.lt (by omega)) (vv4 0) rfl (c_X4_leave l F.ad σ s_12 4) cw_X4_82 rfl rfl ⟨Nat.le_of_ble_eq_true rfl, Nat.le_of_ble_eq_true rfl⟩ rfl hl.1 rfl (Nat.le_of_ble_eq_true rfl) ⟨Nat.zero_le _, Nat.zero_le _⟩ dX4_share_233 (fun r_47 s_48 H locs e_49 hH => ?_)
                      refine lv_istore (lv' := [(4, .int r_47), (5, .int (((s_12 4 ((5 * (tn b)) + (tn kind))) - (s_12 4 ((5 * (tn a)) + (tn kind)))) / 2)), (9, .int (nI (tn a))), (8, .int (nI (tn b))), (7, .int (s_12 4 ((5 * (tn b)) + (tn kind)))), (6, .int (s_12 4 ((5 * (tn a)) + (tn kind)))), (0, .ref (ea E 47)), (1, .int a), (2, .int b), (3, .int kind)]) hx hb dX4_share_236 hl (by decide) rfl (fun ls hl => ?_)
                      refine lv_aload_n hx hb dX4_share_238 rfl (lv_at hl 6 rfl) ?_
                      refine lv_iload hx hb dX4_share_239 (lv_at hl 0 rfl) ?_
                      refine x_calliM F hH 47 (F.lt (by omega)) (vv4 0) rfl (c_X4_leave l F.ad σ s_48 r_47) cw_X4_82 rfl rfl ⟨Nat.le_of_ble_eq_true rfl, Nat.le_of_ble_eq_true rfl⟩ rfl hl.1 rfl (Nat.le_of_ble_eq_true rfl) ⟨Nat.zero_le _, Nat.zero_le _⟩ dX4_share_241 (fun r_50 s_51 H locs e_52 hH => ?_)
                      refine lv_iload hx hb dX4_share_244 (lv_at hl 1 rfl) ?_
                      refine x_pure hx hb F.hml F.hown F.hts (c_X4_told l r_50 (((s_12 4 ((5 * (tn b)) + (tn kind))) - (s_12 4 ((5 * (tn a)) + (tn kind)))) / 2)) cw_X4_79 rfl rfl ⟨Nat.le_of_ble_eq_true rfl, Nat.le_of_ble_eq_true rfl⟩ rfl hl.1 rfl (Nat.le_of_ble_eq_true rfl) ⟨Nat.zero_le _, Nat.zero_le _⟩ dX4_share_246 ?_
                      exact x_iretM F hr hlk hH (by simp only [f_X4_share, if_neg c_1, if_neg c_3, if_neg c_5, e_9, if_pos c_10, e_13, if_pos c_14, if_pos c_18, if_pos c_21, if_pos c_29, if_neg c_30, if_neg c_38, e_49, e_52]) dX4_share_249
                · refine lv_iconst (v := 2) hx hb dX4_share_158 (by decide) ?_
                  refine lv_goto (tgt := 191) hx hb dX4_share_159 (by decide) ?_
                  refine lv_istore (lv' := [(4, .int 2), (5, .int (((s_12 4 ((5 * (tn b)) + (tn kind))) - (s_12 4 ((5 * (tn a)) + (tn kind)))) / 2)), (9, .int (nI (tn a))), (8, .int (nI (tn b))), (7, .int (s_12 4 ((5 * (tn b)) + (tn kind)))), (6, .int (s_12 4 ((5 * (tn a)) + (tn kind)))), (0, .ref (ea E 47)), (1, .int a), (2, .int b), (3, .int kind)]) hx hb dX4_share_191 hl (by decide) rfl (fun ls hl => ?_)
                  refine lv_iload hx hb dX4_share_193 (lv_at hl 0 rfl) ?_
                  refine lv_if_ne (tgt := 230) hx hb dX4_share_195 (by decide) (fun _ => ?_) (fun c_53 => absurd c_53 (by decide))
                  refine lv_aload_n hx hb dX4_share_230 rfl (lv_at hl 6 rfl) ?_
                  refine lv_iload hx hb dX4_share_231 (lv_at hl 0 rfl) ?_
                  refine x_calliM F hH 47 (F.lt (by omega)) (vv4 0) rfl (c_X4_leave l F.ad σ s_12 2) cw_X4_82 rfl rfl ⟨Nat.le_of_ble_eq_true rfl, Nat.le_of_ble_eq_true rfl⟩ rfl hl.1 rfl (Nat.le_of_ble_eq_true rfl) ⟨Nat.zero_le _, Nat.zero_le _⟩ dX4_share_233 (fun r_54 s_55 H locs e_56 hH => ?_)
                  refine lv_istore (lv' := [(4, .int r_54), (5, .int (((s_12 4 ((5 * (tn b)) + (tn kind))) - (s_12 4 ((5 * (tn a)) + (tn kind)))) / 2)), (9, .int (nI (tn a))), (8, .int (nI (tn b))), (7, .int (s_12 4 ((5 * (tn b)) + (tn kind)))), (6, .int (s_12 4 ((5 * (tn a)) + (tn kind)))), (0, .ref (ea E 47)), (1, .int a), (2, .int b), (3, .int kind)]) hx hb dX4_share_236 hl (by decide) rfl (fun ls hl => ?_)
                  refine lv_aload_n hx hb dX4_share_238 rfl (lv_at hl 6 rfl) ?_
                  refine lv_iload hx hb dX4_share_239 (lv_at hl 0 rfl) ?_
                  refine x_calliM F hH 47 (F.lt (by omega)) (vv4 0) rfl (c_X4_leave l F.ad σ s_55 r_54) cw_X4_82 rfl rfl ⟨Nat.le_of_ble_eq_true rfl, Nat.le_of_ble_eq_true rfl⟩ rfl hl.1 rfl (Nat.le_of_ble_eq_true rfl) ⟨Nat.zero_le _, Nat.zero_le _⟩ dX4_share_241 (fun r_57 s_58 H locs e_59 hH => ?_)
                  refine lv_iload hx hb dX4_share_244 (lv_at hl 1 rfl) ?_
                  refine x_pure hx hb F.hml F.hown F.hts (c_X4_told l r_57 (((s_12 4 ((5 * (tn b)) + (tn kind))) - (s_12 4 ((5 * (tn a)) + (tn kind)))) / 2)) cw_X4_79 rfl rfl ⟨Nat.le_of_ble_eq_true rfl, Nat.le_of_ble_eq_true rfl⟩ rfl hl.1 rfl (Nat.le_of_ble_eq_true rfl) ⟨Nat.zero_le _, Nat.zero_le _⟩ dX4_share_246 ?_
                  exact x_iretM F hr hlk hH (by simp only [f_X4_share, if_neg c_1, if_neg c_3, if_neg c_5, e_9, if_pos c_10, e_13, if_pos c_14, if_pos c_18, if_pos c_21, if_neg c_29, e_56, e_59]) dX4_share_249
            · refine lv_iload_n hx hb dX4_share_95 rfl (lv_at hl 5 rfl) ?_
              refine x_top q_2.1 ?_
              refine lv_goto (tgt := 100) hx hb dX4_share_96 (by decide) ?_
              refine lv_istore (lv' := [(8, .int (nI (tn a))), (7, .int (s_12 4 ((5 * (tn b)) + (tn kind)))), (6, .int (s_12 4 ((5 * (tn a)) + (tn kind)))), (5, .int 0), (4, .int r_11), (0, .ref (ea E 47)), (1, .int a), (2, .int b), (3, .int kind)]) hx hb dX4_share_100 hl (by decide) rfl (fun ls hl => ?_)
              refine lv_iload hx hb dX4_share_102 (lv_at hl 2 rfl) ?_
              refine lv_iload hx hb dX4_share_104 (lv_at hl 1 rfl) ?_
              refine lv_icmp_le (tgt := 113) hx hb dX4_share_106 (by decide) (fun c_60 => absurd c_60 c_18) (fun _ => ?_)
              refine lv_iload_n hx hb dX4_share_109 rfl (lv_at hl 7 rfl) ?_
              refine x_top q_4.1 ?_
              refine lv_goto (tgt := 114) hx hb dX4_share_110 (by decide) ?_
              refine lv_istore (lv' := [(9, .int (nI (tn b))), (8, .int (nI (tn a))), (7, .int (s_12 4 ((5 * (tn b)) + (tn kind)))), (6, .int (s_12 4 ((5 * (tn a)) + (tn kind)))), (5, .int 0), (4, .int r_11), (0, .ref (ea E 47)), (1, .int a), (2, .int b), (3, .int kind)]) hx hb dX4_share_114 hl (by decide) rfl (fun ls hl => ?_)
              refine lv_iload hx hb dX4_share_116 (lv_at hl 3 rfl) ?_
              refine lv_iload hx hb dX4_share_118 (lv_at hl 2 rfl) ?_
              refine lv_icmp_le (tgt := 131) hx hb dX4_share_120 (by decide) (fun c_61 => absurd c_61 c_18) (fun _ => ?_)
              refine lv_iload hx hb dX4_share_123 (lv_at hl 3 rfl) ?_
              refine lv_iload hx hb dX4_share_125 (lv_at hl 2 rfl) ?_
              refine lv_isub hx hb dX4_share_127 ?_
              refine lv_goto (tgt := 136) hx hb dX4_share_128 (by decide) ?_
              refine lv_iconst (v := 2) hx hb dX4_share_136 (by decide) ?_
              refine lv_idiv hx hb dX4_share_137 (by decide) ?_
              refine lv_istore (lv' := [(5, .int (((s_12 4 ((5 * (tn a)) + (tn kind))) - (s_12 4 ((5 * (tn b)) + (tn kind)))) / 2)), (9, .int (nI (tn b))), (8, .int (nI (tn a))), (7, .int (s_12 4 ((5 * (tn b)) + (tn kind)))), (6, .int (s_12 4 ((5 * (tn a)) + (tn kind)))), (4, .int r_11), (0, .ref (ea E 47)), (1, .int a), (2, .int b), (3, .int kind)]) hx hb dX4_share_138 hl (by decide) rfl (fun ls hl => ?_)
              refine lv_aload_n hx hb dX4_share_140 rfl (lv_at hl 6 rfl) ?_
              refine g_X4_isShut F hH kw_296 dX4_share_141 ?_
              refine lv_iload_n hx hb dX4_share_144 rfl (lv_at hl 7 rfl) ?_
              refine x_top q_2.1 ?_
              refine a_msh F hH (tn a) (by omega) dX4_share_145 ?_
              refine lv_if_ne (tgt := 158) hx hb dX4_share_146 (by decide) (fun c_62 => ?_) (fun c_62 => ?_)
              · refine lv_iconst (v := 2) hx hb dX4_share_158 (by decide) ?_
                refine lv_goto (tgt := 191) hx hb dX4_share_159 (by decide) ?_
                refine lv_istore (lv' := [(4, .int 2), (5, .int (((s_12 4 ((5 * (tn a)) + (tn kind))) - (s_12 4 ((5 * (tn b)) + (tn kind)))) / 2)), (9, .int (nI (tn b))), (8, .int (nI (tn a))), (7, .int (s_12 4 ((5 * (tn b)) + (tn kind)))), (6, .int (s_12 4 ((5 * (tn a)) + (tn kind)))), (0, .ref (ea E 47)), (1, .int a), (2, .int b), (3, .int kind)]) hx hb dX4_share_191 hl (by decide) rfl (fun ls hl => ?_)
                refine lv_iload hx hb dX4_share_193 (lv_at hl 0 rfl) ?_
                refine lv_if_ne (tgt := 230) hx hb dX4_share_195 (by decide) (fun _ => ?_) (fun c_63 => absurd c_63 (by decide))
                refine lv_aload_n hx hb dX4_share_230 rfl (lv_at hl 6 rfl) ?_
                refine lv_iload hx hb dX4_share_231 (lv_at hl 0 rfl) ?_
                refine x_calliM F hH 47 (F.lt (by omega)) (vv4 0) rfl (c_X4_leave l F.ad σ s_12 2) cw_X4_82 rfl rfl ⟨Nat.le_of_ble_eq_true rfl, Nat.le_of_ble_eq_true rfl⟩ rfl hl.1 rfl (Nat.le_of_ble_eq_true rfl) ⟨Nat.zero_le _, Nat.zero_le _⟩ dX4_share_233 (fun r_64 s_65 H locs e_66 hH => ?_)
                refine lv_istore (lv' := [(4, .int r_64), (5, .int (((s_12 4 ((5 * (tn a)) + (tn kind))) - (s_12 4 ((5 * (tn b)) + (tn kind)))) / 2)), (9, .int (nI (tn b))), (8, .int (nI (tn a))), (7, .int (s_12 4 ((5 * (tn b)) + (tn kind)))), (6, .int (s_12 4 ((5 * (tn a)) + (tn kind)))), (0, .ref (ea E 47)), (1, .int a), (2, .int b), (3, .int kind)]) hx hb dX4_share_236 hl (by decide) rfl (fun ls hl => ?_)
                refine lv_aload_n hx hb dX4_share_238 rfl (lv_at hl 6 rfl) ?_
                refine lv_iload hx hb dX4_share_239 (lv_at hl 0 rfl) ?_
                refine x_calliM F hH 47 (F.lt (by omega)) (vv4 0) rfl (c_X4_leave l F.ad σ s_65 r_64) cw_X4_82 rfl rfl ⟨Nat.le_of_ble_eq_true rfl, Nat.le_of_ble_eq_true rfl⟩ rfl hl.1 rfl (Nat.le_of_ble_eq_true rfl) ⟨Nat.zero_le _, Nat.zero_le _⟩ dX4_share_241 (fun r_67 s_68 H locs e_69 hH => ?_)
                refine lv_iload hx hb dX4_share_244 (lv_at hl 1 rfl) ?_
                refine x_pure hx hb F.hml F.hown F.hts (c_X4_told l r_67 (((s_12 4 ((5 * (tn a)) + (tn kind))) - (s_12 4 ((5 * (tn b)) + (tn kind)))) / 2)) cw_X4_79 rfl rfl ⟨Nat.le_of_ble_eq_true rfl, Nat.le_of_ble_eq_true rfl⟩ rfl hl.1 rfl (Nat.le_of_ble_eq_true rfl) ⟨Nat.zero_le _, Nat.zero_le _⟩ dX4_share_246 ?_
                exact x_iretM F hr hlk hH (by simp only [f_X4_share, if_neg c_1, if_neg c_3, if_neg c_5, e_9, if_pos c_10, e_13, if_pos c_14, if_neg c_18, if_neg c_62, e_66, e_69]) dX4_share_249
              · refine lv_aload_n hx hb dX4_share_149 rfl (lv_at hl 6 rfl) ?_
                refine g_X4_isShut F hH kw_296 dX4_share_150 ?_
                refine lv_iload_n hx hb dX4_share_153 rfl (lv_at hl 8 rfl) ?_
                refine x_top q_4.1 ?_
                refine a_msh F hH (tn b) (by omega) dX4_share_154 ?_
                refine lv_if_eq (tgt := 162) hx hb dX4_share_155 (by decide) (fun c_70 => ?_) (fun c_70 => ?_)
                · refine lv_iload hx hb dX4_share_162 (lv_at hl 0 rfl) ?_
                  refine lv_if_le (tgt := 190) hx hb dX4_share_164 (by decide) (fun c_71 => ?_) (fun c_71 => ?_)
                  · refine lv_iconst (v := 0) hx hb dX4_share_190 (by decide) ?_
                    refine lv_istore (lv' := [(4, .int 0), (5, .int (((s_12 4 ((5 * (tn a)) + (tn kind))) - (s_12 4 ((5 * (tn b)) + (tn kind)))) / 2)), (9, .int (nI (tn b))), (8, .int (nI (tn a))), (7, .int (s_12 4 ((5 * (tn b)) + (tn kind)))), (6, .int (s_12 4 ((5 * (tn a)) + (tn kind)))), (0, .ref (ea E 47)), (1, .int a), (2, .int b), (3, .int kind)]) hx hb dX4_share_191 hl (by decide) rfl (fun ls hl => ?_)
                    refine lv_iload hx hb dX4_share_193 (lv_at hl 0 rfl) ?_
                    refine lv_if_ne (tgt := 230) hx hb dX4_share_195 (by decide) (fun c_72 => absurd (by decide) c_72) (fun _ => ?_)
                    refine lv_aload_n hx hb dX4_share_198 rfl (lv_at hl 6 rfl) ?_
                    refine g_X4_coins F hH kw_298 dX4_share_199 ?_
                    refine lv_iconst (v := 5) hx hb dX4_share_202 (by decide) ?_
                    refine lv_iload hx hb dX4_share_203 (lv_at hl 3 rfl) ?_
                    refine lv_imul hx hb dX4_share_205 ?_
                    refine x_top (pk_mul 5 (tn a)) ?_
                    refine lv_iload_n hx hb dX4_share_206 rfl (lv_at hl 9 rfl) ?_
                    refine x_top q_6.1 ?_
                    refine lv_iadd hx hb dX4_share_207 ?_
                    refine x_top (nI_add (5 * (tn a)) (tn kind)) ?_
                    refine lv_dup2_11 hx hb dX4_share_208 rfl rfl ?_
                    refine a_mco F hH ((5 * (tn a)) + (tn kind)) (by omega) dX4_share_209 ?_
                    refine lv_iload hx hb dX4_share_210 (lv_at hl 1 rfl) ?_
                    refine lv_isub hx hb dX4_share_212 ?_
                    refine s_mco F hH ((5 * (tn a)) + (tn kind)) (by omega) dX4_share_213 (fun H locs hH => ?_)
                    refine lv_aload_n hx hb dX4_share_214 rfl (lv_at hl 6 rfl) ?_
                    refine g_X4_coins F hH kw_298 dX4_share_215 ?_
                    refine lv_iconst (v := 5) hx hb dX4_share_218 (by decide) ?_
                    refine lv_iload hx hb dX4_share_219 (lv_at hl 2 rfl) ?_
                    refine lv_imul hx hb dX4_share_221 ?_
                    refine x_top (pk_mul 5 (tn b)) ?_
                    refine lv_iload_n hx hb dX4_share_222 rfl (lv_at hl 9 rfl) ?_
                    refine x_top q_6.1 ?_
                    refine lv_iadd hx hb dX4_share_223 ?_
                    refine x_top (nI_add (5 * (tn b)) (tn kind)) ?_
                    refine lv_dup2_11 hx hb dX4_share_224 rfl rfl ?_
                    refine a_mco F hH ((5 * (tn b)) + (tn kind)) (by omega) dX4_share_225 ?_
                    refine lv_iload hx hb dX4_share_226 (lv_at hl 1 rfl) ?_
                    refine lv_iadd hx hb dX4_share_228 ?_
                    refine s_mco F hH ((5 * (tn b)) + (tn kind)) (by omega) dX4_share_229 (fun H locs hH => ?_)
                    refine lv_aload_n hx hb dX4_share_230 rfl (lv_at hl 6 rfl) ?_
                    refine lv_iload hx hb dX4_share_231 (lv_at hl 0 rfl) ?_
                    refine x_calliM F hH 47 (F.lt (by omega)) (vv4 0) rfl (c_X4_leave l F.ad σ (up (up s_12 4 ((5 * (tn a)) + (tn kind)) ((s_12 4 ((5 * (tn a)) + (tn kind))) - (((s_12 4 ((5 * (tn a)) + (tn kind))) - (s_12 4 ((5 * (tn b)) + (tn kind)))) / 2))) 4 ((5 * (tn b)) + (tn kind)) (((up s_12 4 ((5 * (tn a)) + (tn kind)) ((s_12 4 ((5 * (tn a)) + (tn kind))) - (((s_12 4 ((5 * (tn a)) + (tn kind))) - (s_12 4 ((5 * (tn b)) + (tn kind)))) / 2))) 4 ((5 * (tn b)) + (tn kind))) + (((s_12 4 ((5 * (tn a)) + (tn kind))) - (s_12 4 ((5 * (tn b)) + (tn kind)))) / 2))) 0) cw_X4_82 rfl rfl ⟨Nat.le_of_ble_eq_true rfl, Nat.le_of_ble_eq_true rfl⟩ rfl hl.1 rfl (Nat.le_of_ble_eq_true rfl) ⟨Nat.zero_le _, Nat.zero_le _⟩ dX4_share_233 (fun r_73 s_74 H locs e_75 hH => ?_)
                    refine lv_istore (lv' := [(4, .int r_73), (5, .int (((s_12 4 ((5 * (tn a)) + (tn kind))) - (s_12 4 ((5 * (tn b)) + (tn kind)))) / 2)), (9, .int (nI (tn b))), (8, .int (nI (tn a))), (7, .int (s_12 4 ((5 * (tn b)) + (tn kind)))), (6, .int (s_12 4 ((5 * (tn a)) + (tn kind)))), (0, .ref (ea E 47)), (1, .int a), (2, .int b), (3, .int kind)]) hx hb dX4_share_236 hl (by decide) rfl (fun ls hl => ?_)
                    refine lv_aload_n hx hb dX4_share_238 rfl (lv_at hl 6 rfl) ?_
                    refine lv_iload hx hb dX4_share_239 (lv_at hl 0 rfl) ?_
                    refine x_calliM F hH 47 (F.lt (by omega)) (vv4 0) rfl (c_X4_leave l F.ad σ s_74 r_73) cw_X4_82 rfl rfl ⟨Nat.le_of_ble_eq_true rfl, Nat.le_of_ble_eq_true rfl⟩ rfl hl.1 rfl (Nat.le_of_ble_eq_true rfl) ⟨Nat.zero_le _, Nat.zero_le _⟩ dX4_share_241 (fun r_76 s_77 H locs e_78 hH => ?_)
                    refine lv_iload hx hb dX4_share_244 (lv_at hl 1 rfl) ?_
                    refine x_pure hx hb F.hml F.hown F.hts (c_X4_told l r_76 (((s_12 4 ((5 * (tn a)) + (tn kind))) - (s_12 4 ((5 * (tn b)) + (tn kind)))) / 2)) cw_X4_79 rfl rfl ⟨Nat.le_of_ble_eq_true rfl, Nat.le_of_ble_eq_true rfl⟩ rfl hl.1 rfl (Nat.le_of_ble_eq_true rfl) ⟨Nat.zero_le _, Nat.zero_le _⟩ dX4_share_246 ?_
                    exact x_iretM F hr hlk hH (by simp only [f_X4_share, if_neg c_1, if_neg c_3, if_neg c_5, e_9, if_pos c_10, e_13, if_pos c_14, if_neg c_18, if_pos c_62, if_pos c_70, if_pos c_71, e_75, e_78]) dX4_share_249
                  · refine lv_aload_n hx hb dX4_share_167 rfl (lv_at hl 6 rfl) ?_
                    refine lv_iload hx hb dX4_share_168 (lv_at hl 1 rfl) ?_
                    refine x_calliR F hH 47 (F.lt (by omega)) (vv4 0) rfl (c_X4_all l F.ad σ s_12 (tn b) (by omega)) cw_X4_61 rfl rfl ⟨Nat.le_of_ble_eq_true rfl, Nat.le_of_ble_eq_true rfl⟩ rfl hl.1 rfl (Nat.le_of_ble_eq_true rfl) ⟨Nat.zero_le _, Nat.zero_le _⟩ dX4_share_170 (fun H locs hH => ?_)
                    refine lv_iload hx hb dX4_share_173 (lv_at hl 0 rfl) ?_
                    refine lv_iadd hx hb dX4_share_175 ?_
                    refine lv_aload_n hx hb dX4_share_176 rfl (lv_at hl 6 rfl) ?_
                    refine g_X4_limit F hH kw_297 dX4_share_177 ?_
                    refine lv_iload hx hb dX4_share_180 (lv_at hl 1 rfl) ?_
                    refine a_mli F hH (tn b) (by omega) dX4_share_182 ?_
                    refine lv_icmp_le (tgt := 190) hx hb dX4_share_183 (by decide) (fun c_79 => ?_) (fun c_79 => ?_)
                    · refine lv_iconst (v := 0) hx hb dX4_share_190 (by decide) ?_
                      refine lv_istore (lv' := [(4, .int 0), (5, .int (((s_12 4 ((5 * (tn a)) + (tn kind))) - (s_12 4 ((5 * (tn b)) + (tn kind)))) / 2)), (9, .int (nI (tn b))), (8, .int (nI (tn a))), (7, .int (s_12 4 ((5 * (tn b)) + (tn kind)))), (6, .int (s_12 4 ((5 * (tn a)) + (tn kind)))), (0, .ref (ea E 47)), (1, .int a), (2, .int b), (3, .int kind)]) hx hb dX4_share_191 hl (by decide) rfl (fun ls hl => ?_)
                      refine lv_iload hx hb dX4_share_193 (lv_at hl 0 rfl) ?_
                      refine lv_if_ne (tgt := 230) hx hb dX4_share_195 (by decide) (fun c_80 => absurd (by decide) c_80) (fun _ => ?_)
                      refine lv_aload_n hx hb dX4_share_198 rfl (lv_at hl 6 rfl) ?_
                      refine g_X4_coins F hH kw_298 dX4_share_199 ?_
                      refine lv_iconst (v := 5) hx hb dX4_share_202 (by decide) ?_
                      refine lv_iload hx hb dX4_share_203 (lv_at hl 3 rfl) ?_
                      refine lv_imul hx hb dX4_share_205 ?_
                      refine x_top (pk_mul 5 (tn a)) ?_
                      refine lv_iload_n hx hb dX4_share_206 rfl (lv_at hl 9 rfl) ?_
                      refine x_top q_6.1 ?_
                      refine lv_iadd hx hb dX4_share_207 ?_
                      refine x_top (nI_add (5 * (tn a)) (tn kind)) ?_
                      refine lv_dup2_11 hx hb dX4_share_208 rfl rfl ?_
                      refine a_mco F hH ((5 * (tn a)) + (tn kind)) (by omega) dX4_share_209 ?_
                      refine lv_iload hx hb dX4_share_210 (lv_at hl 1 rfl) ?_
                      refine lv_isub hx hb dX4_share_212 ?_
                      refine s_mco F hH ((5 * (tn a)) + (tn kind)) (by omega) dX4_share_213 (fun H locs hH => ?_)
                      refine lv_aload_n hx hb dX4_share_214 rfl (lv_at hl 6 rfl) ?_
                      refine g_X4_coins F hH kw_298 dX4_share_215 ?_
                      refine lv_iconst (v := 5) hx hb dX4_share_218 (by decide) ?_
                      refine lv_iload hx hb dX4_share_219 (lv_at hl 2 rfl) ?_
                      refine lv_imul hx hb dX4_share_221 ?_
                      refine x_top (pk_mul 5 (tn b)) ?_
                      refine lv_iload_n hx hb dX4_share_222 rfl (lv_at hl 9 rfl) ?_
                      refine x_top q_6.1 ?_
                      refine lv_iadd hx hb dX4_share_223 ?_
                      refine x_top (nI_add (5 * (tn b)) (tn kind)) ?_
                      refine lv_dup2_11 hx hb dX4_share_224 rfl rfl ?_
                      refine a_mco F hH ((5 * (tn b)) + (tn kind)) (by omega) dX4_share_225 ?_
                      refine lv_iload hx hb dX4_share_226 (lv_at hl 1 rfl) ?_
                      refine lv_iadd hx hb dX4_share_228 ?_
                      refine s_mco F hH ((5 * (tn b)) + (tn kind)) (by omega) dX4_share_229 (fun H locs hH => ?_)
                      refine lv_aload_n hx hb dX4_share_230 rfl (lv_at hl 6 rfl) ?_
                      refine lv_iload hx hb dX4_share_231 (lv_at hl 0 rfl) ?_
                      refine x_calliM F hH 47 (F.lt (by omega)) (vv4 0) rfl (c_X4_leave l F.ad σ (up (up s_12 4 ((5 * (tn a)) + (tn kind)) ((s_12 4 ((5 * (tn a)) + (tn kind))) - (((s_12 4 ((5 * (tn a)) + (tn kind))) - (s_12 4 ((5 * (tn b)) + (tn kind)))) / 2))) 4 ((5 * (tn b)) + (tn kind)) (((up s_12 4 ((5 * (tn a)) + (tn kind)) ((s_12 4 ((5 * (tn a)) + (tn kind))) - (((s_12 4 ((5 * (tn a)) + (tn kind))) - (s_12 4 ((5 * (tn b)) + (tn kind)))) / 2))) 4 ((5 * (tn b)) + (tn kind))) + (((s_12 4 ((5 * (tn a)) + (tn kind))) - (s_12 4 ((5 * (tn b)) + (tn kind)))) / 2))) 0) cw_X4_82 rfl rfl ⟨Nat.le_of_ble_eq_true rfl, Nat.le_of_ble_eq_true rfl⟩ rfl hl.1 rfl (Nat.le_of_ble_eq_true rfl) ⟨Nat.zero_le _, Nat.zero_le _⟩ dX4_share_233 (fun r_81 s_82 H locs e_83 hH => ?_)
                      refine lv_istore (lv' := [(4, .int r_81), (5, .int (((s_12 4 ((5 * (tn a)) + (tn kind))) - (s_12 4 ((5 * (tn b)) + (tn kind)))) / 2)), (9, .int (nI (tn b))), (8, .int (nI (tn a))), (7, .int (s_12 4 ((5 * (tn b)) + (tn kind)))), (6, .int (s_12 4 ((5 * (tn a)) + (tn kind)))), (0, .ref (ea E 47)), (1, .int a), (2, .int b), (3, .int kind)]) hx hb dX4_share_236 hl (by decide) rfl (fun ls hl => ?_)
                      refine lv_aload_n hx hb dX4_share_238 rfl (lv_at hl 6 rfl) ?_
                      refine lv_iload hx hb dX4_share_239 (lv_at hl 0 rfl) ?_
                      refine x_calliM F hH 47 (F.lt (by omega)) (vv4 0) rfl (c_X4_leave l F.ad σ s_82 r_81) cw_X4_82 rfl rfl ⟨Nat.le_of_ble_eq_true rfl, Nat.le_of_ble_eq_true rfl⟩ rfl hl.1 rfl (Nat.le_of_ble_eq_true rfl) ⟨Nat.zero_le _, Nat.zero_le _⟩ dX4_share_241 (fun r_84 s_85 H locs e_86 hH => ?_)
                      refine lv_iload hx hb dX4_share_244 (lv_at hl 1 rfl) ?_
                      refine x_pure hx hb F.hml F.hown F.hts (c_X4_told l r_84 (((s_12 4 ((5 * (tn a)) + (tn kind))) - (s_12 4 ((5 * (tn b)) + (tn kind)))) / 2)) cw_X4_79 rfl rfl ⟨Nat.le_of_ble_eq_true rfl, Nat.le_of_ble_eq_true rfl⟩ rfl hl.1 rfl (Nat.le_of_ble_eq_true rfl) ⟨Nat.zero_le _, Nat.zero_le _⟩ dX4_share_246 ?_
                      exact x_iretM F hr hlk hH (by simp only [f_X4_share, if_neg c_1, if_neg c_3, if_neg c_5, e_9, if_pos c_10, e_13, if_pos c_14, if_neg c_18, if_pos c_62, if_pos c_70, if_neg c_71, if_pos c_79, e_83, e_86]) dX4_share_249
                    · refine lv_iconst (v := 4) hx hb dX4_share_186 (by decide) ?_
                      refine lv_goto (tgt := 191) hx hb dX4_share_187 (by decide) ?_
                      refine lv_istore (lv' := [(4, .int 4), (5, .int (((s_12 4 ((5 * (tn a)) + (tn kind))) - (s_12 4 ((5 * (tn b)) + (tn kind)))) / 2)), (9, .int (nI (tn b))), (8, .int (nI (tn a))), (7, .int (s_12 4 ((5 * (tn b)) + (tn kind)))), (6, .int (s_12 4 ((5 * (tn a)) + (tn kind)))), (0, .ref (ea E 47)), (1, .int a), (2, .int b), (3, .int kind)]) hx hb dX4_share_191 hl (by decide) rfl (fun ls hl => ?_)
                      refine lv_iload hx hb dX4_share_193 (lv_at hl 0 rfl) ?_
                      refine lv_if_ne (tgt := 230) hx hb dX4_share_195 (by decide) (fun _ => ?_) (fun c_87 => absurd c_87 (by decide))
                      refine lv_aload_n hx hb dX4_share_230 rfl (lv_at hl 6 rfl) ?_
                      refine lv_iload hx hb dX4_share_231 (lv_at hl 0 rfl) ?_
                      refine x_calliM F hH 47 (F.lt (by omega)) (vv4 0) rfl (c_X4_leave l F.ad σ s_12 4) cw_X4_82 rfl rfl ⟨Nat.le_of_ble_eq_true rfl, Nat.le_of_ble_eq_true rfl⟩ rfl hl.1 rfl (Nat.le_of_ble_eq_true rfl) ⟨Nat.zero_le _, Nat.zero_le _⟩ dX4_share_233 (fun r_88 s_89 H locs e_90 hH => ?_)
                      refine lv_istore (lv' := [(4, .int r_88), (5, .int (((s_12 4 ((5 * (tn a)) + (tn kind))) - (s_12 4 ((5 * (tn b)) + (tn kind)))) / 2)), (9, .int (nI (tn b))), (8, .int (nI (tn a))), (7, .int (s_12 4 ((5 * (tn b)) + (tn kind)))), (6, .int (s_12 4 ((5 * (tn a)) + (tn kind)))), (0, .ref (ea E 47)), (1, .int a), (2, .int b), (3, .int kind)]) hx hb dX4_share_236 hl (by decide) rfl (fun ls hl => ?_)
                      refine lv_aload_n hx hb dX4_share_238 rfl (lv_at hl 6 rfl) ?_
                      refine lv_iload hx hb dX4_share_239 (lv_at hl 0 rfl) ?_
                      refine x_calliM F hH 47 (F.lt (by omega)) (vv4 0) rfl (c_X4_leave l F.ad σ s_89 r_88) cw_X4_82 rfl rfl ⟨Nat.le_of_ble_eq_true rfl, Nat.le_of_ble_eq_true rfl⟩ rfl hl.1 rfl (Nat.le_of_ble_eq_true rfl) ⟨Nat.zero_le _, Nat.zero_le _⟩ dX4_share_241 (fun r_91 s_92 H locs e_93 hH => ?_)
                      refine lv_iload hx hb dX4_share_244 (lv_at hl 1 rfl) ?_
                      refine x_pure hx hb F.hml F.hown F.hts (c_X4_told l r_91 (((s_12 4 ((5 * (tn a)) + (tn kind))) - (s_12 4 ((5 * (tn b)) + (tn kind)))) / 2)) cw_X4_79 rfl rfl ⟨Nat.le_of_ble_eq_true rfl, Nat.le_of_ble_eq_true rfl⟩ rfl hl.1 rfl (Nat.le_of_ble_eq_true rfl) ⟨Nat.zero_le _, Nat.zero_le _⟩ dX4_share_246 ?_
                      exact x_iretM F hr hlk hH (by simp only [f_X4_share, if_neg c_1, if_neg c_3, if_neg c_5, e_9, if_pos c_10, e_13, if_pos c_14, if_neg c_18, if_pos c_62, if_pos c_70, if_neg c_71, if_neg c_79, e_90, e_93]) dX4_share_249
                · refine lv_iconst (v := 2) hx hb dX4_share_158 (by decide) ?_
                  refine lv_goto (tgt := 191) hx hb dX4_share_159 (by decide) ?_
                  refine lv_istore (lv' := [(4, .int 2), (5, .int (((s_12 4 ((5 * (tn a)) + (tn kind))) - (s_12 4 ((5 * (tn b)) + (tn kind)))) / 2)), (9, .int (nI (tn b))), (8, .int (nI (tn a))), (7, .int (s_12 4 ((5 * (tn b)) + (tn kind)))), (6, .int (s_12 4 ((5 * (tn a)) + (tn kind)))), (0, .ref (ea E 47)), (1, .int a), (2, .int b), (3, .int kind)]) hx hb dX4_share_191 hl (by decide) rfl (fun ls hl => ?_)
                  refine lv_iload hx hb dX4_share_193 (lv_at hl 0 rfl) ?_
                  refine lv_if_ne (tgt := 230) hx hb dX4_share_195 (by decide) (fun _ => ?_) (fun c_94 => absurd c_94 (by decide))
                  refine lv_aload_n hx hb dX4_share_230 rfl (lv_at hl 6 rfl) ?_
                  refine lv_iload hx hb dX4_share_231 (lv_at hl 0 rfl) ?_
                  refine x_calliM F hH 47 (F.lt (by omega)) (vv4 0) rfl (c_X4_leave l F.ad σ s_12 2) cw_X4_82 rfl rfl ⟨Nat.le_of_ble_eq_true rfl, Nat.le_of_ble_eq_true rfl⟩ rfl hl.1 rfl (Nat.le_of_ble_eq_true rfl) ⟨Nat.zero_le _, Nat.zero_le _⟩ dX4_share_233 (fun r_95 s_96 H locs e_97 hH => ?_)
                  refine lv_istore (lv' := [(4, .int r_95), (5, .int (((s_12 4 ((5 * (tn a)) + (tn kind))) - (s_12 4 ((5 * (tn b)) + (tn kind)))) / 2)), (9, .int (nI (tn b))), (8, .int (nI (tn a))), (7, .int (s_12 4 ((5 * (tn b)) + (tn kind)))), (6, .int (s_12 4 ((5 * (tn a)) + (tn kind)))), (0, .ref (ea E 47)), (1, .int a), (2, .int b), (3, .int kind)]) hx hb dX4_share_236 hl (by decide) rfl (fun ls hl => ?_)
                  refine lv_aload_n hx hb dX4_share_238 rfl (lv_at hl 6 rfl) ?_
                  refine lv_iload hx hb dX4_share_239 (lv_at hl 0 rfl) ?_
                  refine x_calliM F hH 47 (F.lt (by omega)) (vv4 0) rfl (c_X4_leave l F.ad σ s_96 r_95) cw_X4_82 rfl rfl ⟨Nat.le_of_ble_eq_true rfl, Nat.le_of_ble_eq_true rfl⟩ rfl hl.1 rfl (Nat.le_of_ble_eq_true rfl) ⟨Nat.zero_le _, Nat.zero_le _⟩ dX4_share_241 (fun r_98 s_99 H locs e_100 hH => ?_)
                  refine lv_iload hx hb dX4_share_244 (lv_at hl 1 rfl) ?_
                  refine x_pure hx hb F.hml F.hown F.hts (c_X4_told l r_98 (((s_12 4 ((5 * (tn a)) + (tn kind))) - (s_12 4 ((5 * (tn b)) + (tn kind)))) / 2)) cw_X4_79 rfl rfl ⟨Nat.le_of_ble_eq_true rfl, Nat.le_of_ble_eq_true rfl⟩ rfl hl.1 rfl (Nat.le_of_ble_eq_true rfl) ⟨Nat.zero_le _, Nat.zero_le _⟩ dX4_share_246 ?_
                  exact x_iretM F hr hlk hH (by simp only [f_X4_share, if_neg c_1, if_neg c_3, if_neg c_5, e_9, if_pos c_10, e_13, if_pos c_14, if_neg c_18, if_pos c_62, if_neg c_70, e_97, e_100]) dX4_share_249
        · refine lv_iload hx hb dX4_share_42 (lv_at hl 0 rfl) ?_
          refine lv_iconst (v := 0) hx hb dX4_share_44 (by decide) ?_
          refine x_pure hx hb F.hml F.hown F.hts (c_X4_told l r_7 0) cw_X4_79 rfl rfl ⟨Nat.le_of_ble_eq_true rfl, Nat.le_of_ble_eq_true rfl⟩ rfl hl.1 rfl (Nat.le_of_ble_eq_true rfl) ⟨Nat.zero_le _, Nat.zero_le _⟩ dX4_share_45 ?_
          exact x_iretM F hr hlk hH (by simp only [f_X4_share, if_neg c_1, if_neg c_3, if_neg c_5, e_9, if_neg c_10]) dX4_share_48
      · refine lv_iconst (v := -1) hx hb dX4_share_28 (by decide) ?_
        exact x_iretM F hr hlk hH (by simp only [f_X4_share, if_neg c_1, if_neg c_3, if_pos c_5]) dX4_share_29
def f_X4_look (μ : St) (t : Int32) (what : Int32) : Int32 × St :=
  if (f_X4_isTill t) = 0 then
    ((-1), (up μ 0 0 0))
  else
    if (f_X4_in what 0 8) = 0 then
      ((-1), (up μ 0 0 0))
    else
      match f_X4_hold (up μ 0 0 0) (tn t) with
      | (r_5, s_6) =>
        if r_5 = 0 then
          match f_X4_leave s_6 0 with
          | (r_9, s_10) =>
            (f_X4_told r_9 (f_X4_told_ s_10 (tn t) (tn what) 8), s_10)
        else
          (f_X4_told r_5 0, s_6)
set_option maxRecDepth 100000 in
set_option maxHeartbeats 4000000 in
theorem c_X4_look (l : Launch) {E : EV} (hA : AD E) (σ μ : St) (t : Int32) (what : Int32) : Met l yX4_look (.code yX4_look cX4_look 4 (some .int) :: gtbl) (rmL 3) (va_Pc [.ref (ea E 47), .int t, .int what] (PR E σ μ)) (QI E (f_X4_look μ t what).1 σ (f_X4_look μ t what).2) 0 0 (eA E) := by
  refine x_met (own := RX4) (by decide) rfl hA (Nat.le_of_ble_eq_true rfl) ?_
  intro p e s m below meth c ls F hr hlk hH hl
  have hl : lv_has ls 4 [(0, .ref (ea E 47)), (1, .int t), (2, .int what)] := hl
  have hx := F.hx
  have hb := F.hb
  refine lv_aload_n hx hb dX4_look_0 rfl (lv_at hl 0 rfl) ?_
  refine lv_iconst (v := 0) hx hb dX4_look_1 (by decide) ?_
  refine p_X4_thrown F hH kw_294 dX4_look_2 (fun H locs hH => ?_)
  refine lv_iload_n hx hb dX4_look_5 rfl (lv_at hl 1 rfl) ?_
  refine x_pure hx hb F.hml F.hown F.hts (c_X4_isTill l t) cw_X4_68 rfl rfl ⟨Nat.le_of_ble_eq_true rfl, Nat.le_of_ble_eq_true rfl⟩ rfl hl.1 rfl (Nat.le_of_ble_eq_true rfl) ⟨Nat.zero_le _, Nat.zero_le _⟩ dX4_look_6 ?_
  refine lv_if_eq (tgt := 22) hx hb dX4_look_9 (by decide) (fun c_1 => ?_) (fun c_1 => ?_)
  · refine lv_iconst (v := -1) hx hb dX4_look_22 (by decide) ?_
    exact x_iretM F hr hlk hH (by simp only [f_X4_look, if_pos c_1]) dX4_look_23
  · have q_2 := X4_isTill_n c_1
    have q_2b := q_2.2
    refine lv_iload_n hx hb dX4_look_12 rfl (lv_at hl 2 rfl) ?_
    refine lv_iconst (v := 0) hx hb dX4_look_13 (by decide) ?_
    refine lv_bipush (v := 8) hx hb dX4_look_14 (by decide) ?_
    refine x_pure hx hb F.hml F.hown F.hts (c_X4_in l what 0 8) cw_X4_33 rfl rfl ⟨Nat.le_of_ble_eq_true rfl, Nat.le_of_ble_eq_true rfl⟩ rfl hl.1 rfl (Nat.le_of_ble_eq_true rfl) ⟨Nat.zero_le _, Nat.zero_le _⟩ dX4_look_16 ?_
    refine lv_if_ne (tgt := 24) hx hb dX4_look_19 (by decide) (fun c_3 => ?_) (fun c_3 => ?_)
    · have q_4 := X4_in_n (M := 8) rfl (by decide) c_3
      have q_4b := q_4.2
      refine lv_aload_n hx hb dX4_look_24 rfl (lv_at hl 0 rfl) ?_
      refine lv_iload_n hx hb dX4_look_25 rfl (lv_at hl 1 rfl) ?_
      refine x_top q_2.1 ?_
      refine x_calliM F hH 47 (F.lt (by omega)) (vv4 0) rfl (c_X4_hold l F.ad σ (up μ 0 0 0) (tn t) (by omega)) cw_X4_76 rfl rfl ⟨Nat.le_of_ble_eq_true rfl, Nat.le_of_ble_eq_true rfl⟩ rfl hl.1 rfl (Nat.le_of_ble_eq_true rfl) ⟨Nat.zero_le _, Nat.zero_le _⟩ dX4_look_26 (fun r_5 s_6 H locs e_7 hH => ?_)
      refine lv_istore_n (lv' := [(3, .int r_5), (0, .ref (ea E 47)), (1, .int t), (2, .int what)]) hx hb dX4_look_29 rfl hl (by decide) rfl (fun ls hl => ?_)
      refine lv_iload_n hx hb dX4_look_30 rfl (lv_at hl 0 rfl) ?_
      refine lv_if_eq (tgt := 40) hx hb dX4_look_31 (by decide) (fun c_8 => ?_) (fun c_8 => ?_)
      · refine lv_aload_n hx hb dX4_look_40 rfl (lv_at hl 1 rfl) ?_
        refine lv_iconst (v := 0) hx hb dX4_look_41 (by decide) ?_
        refine x_calliM F hH 47 (F.lt (by omega)) (vv4 0) rfl (c_X4_leave l F.ad σ s_6 0) cw_X4_82 rfl rfl ⟨Nat.le_of_ble_eq_true rfl, Nat.le_of_ble_eq_true rfl⟩ rfl hl.1 rfl (Nat.le_of_ble_eq_true rfl) ⟨Nat.zero_le _, Nat.zero_le _⟩ dX4_look_42 (fun r_9 s_10 H locs e_11 hH => ?_)
        refine lv_aload_n hx hb dX4_look_45 rfl (lv_at hl 1 rfl) ?_
        refine lv_iload_n hx hb dX4_look_46 rfl (lv_at hl 2 rfl) ?_
        refine x_top q_2.1 ?_
        refine lv_iload_n hx hb dX4_look_47 rfl (lv_at hl 3 rfl) ?_
        refine x_top q_4.1 ?_
        refine lv_bipush (v := 8) hx hb dX4_look_48 (by decide) ?_
        refine x_calliR F hH 47 (F.lt (by omega)) (vv4 0) rfl (c_X4_told_ l F.ad σ s_10 (tn t) (tn what) 8 (by omega) (by omega) (by omega)) cw_X4_110 rfl rfl ⟨Nat.le_of_ble_eq_true rfl, Nat.le_of_ble_eq_true rfl⟩ rfl hl.1 rfl (Nat.le_of_ble_eq_true rfl) ⟨Nat.zero_le _, Nat.zero_le _⟩ dX4_look_50 (fun H locs hH => ?_)
        refine x_pure hx hb F.hml F.hown F.hts (c_X4_told l r_9 (f_X4_told_ s_10 (tn t) (tn what) 8)) cw_X4_79 rfl rfl ⟨Nat.le_of_ble_eq_true rfl, Nat.le_of_ble_eq_true rfl⟩ rfl hl.1 rfl (Nat.le_of_ble_eq_true rfl) ⟨Nat.zero_le _, Nat.zero_le _⟩ dX4_look_53 ?_
        exact x_iretM F hr hlk hH (by simp only [f_X4_look, if_neg c_1, if_neg c_3, e_7, if_pos c_8, e_11]) dX4_look_56
      · refine lv_iload_n hx hb dX4_look_34 rfl (lv_at hl 0 rfl) ?_
        refine lv_iconst (v := 0) hx hb dX4_look_35 (by decide) ?_
        refine x_pure hx hb F.hml F.hown F.hts (c_X4_told l r_5 0) cw_X4_79 rfl rfl ⟨Nat.le_of_ble_eq_true rfl, Nat.le_of_ble_eq_true rfl⟩ rfl hl.1 rfl (Nat.le_of_ble_eq_true rfl) ⟨Nat.zero_le _, Nat.zero_le _⟩ dX4_look_36 ?_
        exact x_iretM F hr hlk hH (by simp only [f_X4_look, if_neg c_1, if_neg c_3, e_7, if_neg c_8]) dX4_look_39
    · refine lv_iconst (v := -1) hx hb dX4_look_22 (by decide) ?_
      exact x_iretM F hr hlk hH (by simp only [f_X4_look, if_neg c_1, if_pos c_3]) dX4_look_23
def f_X4_hand (μ : St) (what : Int32) : Int32 × St :=
  if (f_X4_in what 0 6) = 0 then
    ((-1), (up μ 0 0 0))
  else
    (f_X4_told_ (up μ 0 0 0) 8 (tn what) 6, (up μ 0 0 0))
set_option maxRecDepth 100000 in
set_option maxHeartbeats 4000000 in
theorem c_X4_hand (l : Launch) {E : EV} (hA : AD E) (σ μ : St) (what : Int32) : Met l yX4_hand (.code yX4_hand cX4_hand 2 (some .int) :: gtbl) (rmL 3) (va_Pc [.ref (ea E 47), .int what] (PR E σ μ)) (QI E (f_X4_hand μ what).1 σ (f_X4_hand μ what).2) 0 0 (eA E) := by
  refine x_met (own := RX4) (by decide) rfl hA (Nat.le_of_ble_eq_true rfl) ?_
  intro p e s m below meth c ls F hr hlk hH hl
  have hl : lv_has ls 2 [(0, .ref (ea E 47)), (1, .int what)] := hl
  have hx := F.hx
  have hb := F.hb
  refine lv_aload_n hx hb dX4_hand_0 rfl (lv_at hl 0 rfl) ?_
  refine lv_iconst (v := 0) hx hb dX4_hand_1 (by decide) ?_
  refine p_X4_thrown F hH kw_294 dX4_hand_2 (fun H locs hH => ?_)
  refine lv_iload_n hx hb dX4_hand_5 rfl (lv_at hl 1 rfl) ?_
  refine lv_iconst (v := 0) hx hb dX4_hand_6 (by decide) ?_
  refine lv_bipush (v := 6) hx hb dX4_hand_7 (by decide) ?_
  refine x_pure hx hb F.hml F.hown F.hts (c_X4_in l what 0 6) cw_X4_33 rfl rfl ⟨Nat.le_of_ble_eq_true rfl, Nat.le_of_ble_eq_true rfl⟩ rfl hl.1 rfl (Nat.le_of_ble_eq_true rfl) ⟨Nat.zero_le _, Nat.zero_le _⟩ dX4_hand_9 ?_
  refine lv_if_eq (tgt := 27) hx hb dX4_hand_12 (by decide) (fun c_1 => ?_) (fun c_1 => ?_)
  · refine lv_iconst (v := -1) hx hb dX4_hand_27 (by decide) ?_
    exact x_iretM F hr hlk hH (by simp only [f_X4_hand, if_pos c_1]) dX4_hand_28
  · have q_2 := X4_in_n (M := 6) rfl (by decide) c_1
    have q_2b := q_2.2
    refine lv_aload_n hx hb dX4_hand_15 rfl (lv_at hl 0 rfl) ?_
    refine lv_bipush (v := 8) hx hb dX4_hand_16 (by decide) ?_
    refine lv_iload_n hx hb dX4_hand_18 rfl (lv_at hl 1 rfl) ?_
    refine x_top q_2.1 ?_
    refine lv_bipush (v := 6) hx hb dX4_hand_19 (by decide) ?_
    refine x_calliR F hH 47 (F.lt (by omega)) (vv4 0) rfl (c_X4_told_ l F.ad σ (up μ 0 0 0) 8 (tn what) 6 (by omega) (by omega) (by omega)) cw_X4_110 rfl rfl ⟨Nat.le_of_ble_eq_true rfl, Nat.le_of_ble_eq_true rfl⟩ rfl hl.1 rfl (Nat.le_of_ble_eq_true rfl) ⟨Nat.zero_le _, Nat.zero_le _⟩ dX4_hand_21 (fun H locs hH => ?_)
    refine lv_goto (tgt := 28) hx hb dX4_hand_24 (by decide) ?_
    exact x_iretM F hr hlk hH (by simp only [f_X4_hand, if_neg c_1]) dX4_hand_28
set_option maxRecDepth 100000 in
set_option maxHeartbeats 4000000 in
theorem lp_X4_first {p : Program} {l : Launch} {e : Env} {s : State} {m : MethodId} {args : Array Value} {below : List Frame} {meth : Method} {c : Code} {E : EV} (F : Fx E p s m args c cX4_first RX4 4) (hr : meth.sig.returnType = some .int) (hlk : meth.locks = false) (worth : Int32) : ∀ (n : Nat) (k : Nat) (σ μ : St) (H : Heap) (locs : List Loc) (ls : Array Slot), k + n = 8 → HS E s σ μ H locs → lv_has ls 4 [(0, .ref (ea E 47)), (1, .int worth), (2, .int (nI k))] → W p l e (rmL 2) s m args below meth c H locs 0 0 (MQ below (QI E (firstM worth n k μ).1 σ (firstM worth n k μ).2) args s 0 0 (eA E)) (F0 m 20 ls []) := by
  have hx := F.hx
  have hb := F.hb
  intro n
  induction n with
  | zero =>
    intro k σ μ H locs ls hn hH hl
    obtain rfl : k = 8 := by omega
    refine lv_iload_n hx hb dX4_first_20 rfl (lv_at hl 2 rfl) ?_
    refine lv_bipush (v := 8) hx hb dX4_first_21 (by decide) ?_
    refine lv_icmp_ge (tgt := 66) hx hb dX4_first_23 (by decide) (fun _ => ?_) (fun c_1 => absurd (by decide) c_1)
    refine lv_bipush (v := -2) hx hb dX4_first_66 (by decide) ?_
    exact x_iretM F hr hlk hH (by simp only [firstM]) dX4_first_68
  | succ n ih =>
    intro k σ μ H locs ls hn hH hl
    refine lv_iload_n hx hb dX4_first_20 rfl (lv_at hl 2 rfl) ?_
    refine lv_bipush (v := 8) hx hb dX4_first_21 (by decide) ?_
    refine lv_icmp_ge (tgt := 66) hx hb dX4_first_23 (by decide) (fun c_1 => absurd c_1 (nI_ge (show k < 8 by omega) (by decide))) (fun _ => ?_)
    refine lv_aload_n hx hb dX4_first_26 rfl (lv_at hl 0 rfl) ?_
    refine lv_iload_n hx hb dX4_first_27 rfl (lv_at hl 2 rfl) ?_
    refine x_calliM F hH 47 (F.lt (by omega)) (vv4 0) rfl (c_X4_hold l F.ad σ μ k (by omega)) cw_X4_76 rfl rfl ⟨Nat.le_of_ble_eq_true rfl, Nat.le_of_ble_eq_true rfl⟩ rfl hl.1 rfl (Nat.le_of_ble_eq_true rfl) ⟨Nat.zero_le _, Nat.zero_le _⟩ dX4_first_28 (fun r_2 s_3 H locs e_4 hH => ?_)
    refine lv_if_ne (tgt := 60) hx hb dX4_first_31 (by decide) (fun c_5 => ?_) (fun c_5 => ?_)
    · refine lv_iinc (v := nI (k + 1)) (lv' := [(2, .int (nI (k + 1))), (0, .ref (ea E 47)), (1, .int worth)]) hx hb dX4_first_60 hl (k := 2) rfl (nI_1 k) (by decide) rfl (fun ls hl => ?_)
      refine lv_goto (tgt := 20) hx hb dX4_first_63 (by decide) ?_
      rw [show firstM worth (n + 1) k μ = firstM worth n (k + 1) s_3 from (by simp only [firstM, e_4, if_neg c_5])]
      exact ih (k + 1) σ s_3 H locs ls (by omega) hH (lv_sub hl [1, 2, 0] rfl)
    · refine lv_aload_n hx hb dX4_first_34 rfl (lv_at hl 0 rfl) ?_
      refine lv_iconst (v := 0) hx hb dX4_first_35 (by decide) ?_
      refine x_calliM F hH 47 (F.lt (by omega)) (vv4 0) rfl (c_X4_leave l F.ad σ s_3 0) cw_X4_82 rfl rfl ⟨Nat.le_of_ble_eq_true rfl, Nat.le_of_ble_eq_true rfl⟩ rfl hl.1 rfl (Nat.le_of_ble_eq_true rfl) ⟨Nat.zero_le _, Nat.zero_le _⟩ dX4_first_36 (fun r_6 s_7 H locs e_8 hH => ?_)
      refine lv_istore_n (lv' := [(3, .int r_6), (0, .ref (ea E 47)), (1, .int worth), (2, .int (nI k))]) hx hb dX4_first_39 rfl hl (by decide) rfl (fun ls hl => ?_)
      refine lv_aload_n hx hb dX4_first_40 rfl (lv_at hl 1 rfl) ?_
      refine g_X4_isShut F hH kw_296 dX4_first_41 ?_
      refine lv_iload_n hx hb dX4_first_44 rfl (lv_at hl 3 rfl) ?_
      refine a_msh F hH k (by omega) dX4_first_45 ?_
      refine lv_if_ne (tgt := 60) hx hb dX4_first_46 (by decide) (fun c_9 => ?_) (fun c_9 => ?_)
      · refine lv_iinc (v := nI (k + 1)) (lv' := [(2, .int (nI (k + 1))), (3, .int r_6), (0, .ref (ea E 47)), (1, .int worth)]) hx hb dX4_first_60 hl (k := 3) rfl (nI_1 k) (by decide) rfl (fun ls hl => ?_)
        refine lv_goto (tgt := 20) hx hb dX4_first_63 (by decide) ?_
        rw [show firstM worth (n + 1) k μ = firstM worth n (k + 1) s_7 from (by simp only [firstM, e_4, if_pos c_5, e_8, if_neg c_9])]
        exact ih (k + 1) σ s_7 H locs ls (by omega) hH (lv_sub hl [2, 3, 0] rfl)
      · refine lv_aload_n hx hb dX4_first_49 rfl (lv_at hl 1 rfl) ?_
        refine lv_iload_n hx hb dX4_first_50 rfl (lv_at hl 3 rfl) ?_
        refine lv_iload_n hx hb dX4_first_51 rfl (lv_at hl 2 rfl) ?_
        refine x_calliM F hH 47 (F.lt (by omega)) (vv4 0) rfl (c_X4_lacks l F.ad σ s_7 k worth (by omega)) cw_X4_53 rfl rfl ⟨Nat.le_of_ble_eq_true rfl, Nat.le_of_ble_eq_true rfl⟩ rfl hl.1 rfl (Nat.le_of_ble_eq_true rfl) ⟨Nat.zero_le _, Nat.zero_le _⟩ dX4_first_52 (fun r_10 s_11 H locs e_12 hH => ?_)
        refine lv_if_ne (tgt := 60) hx hb dX4_first_55 (by decide) (fun c_13 => ?_) (fun c_13 => ?_)
        · refine lv_iinc (v := nI (k + 1)) (lv' := [(2, .int (nI (k + 1))), (3, .int r_6), (0, .ref (ea E 47)), (1, .int worth)]) hx hb dX4_first_60 hl (k := 3) rfl (nI_1 k) (by decide) rfl (fun ls hl => ?_)
          refine lv_goto (tgt := 20) hx hb dX4_first_63 (by decide) ?_
          rw [show firstM worth (n + 1) k μ = firstM worth n (k + 1) s_11 from (by simp only [firstM, e_4, if_pos c_5, e_8, if_pos c_9, e_12, if_neg c_13])]
          exact ih (k + 1) σ s_11 H locs ls (by omega) hH (lv_sub hl [2, 3, 0] rfl)
        · refine lv_iload_n hx hb dX4_first_58 rfl (lv_at hl 3 rfl) ?_
          exact x_iretM F hr hlk hH (by simp only [firstM, e_4, if_pos c_5, e_8, if_pos c_9, e_12, if_pos c_13]) dX4_first_59
def f_X4_first (μ : St) (worth : Int32) : Int32 × St :=
  if (f_X4_in worth 0 10000) = 0 then
    ((-1), (up μ 0 0 0))
  else
    firstM worth 8 0 (up μ 0 0 0)
set_option maxRecDepth 100000 in
set_option maxHeartbeats 4000000 in
theorem c_X4_first (l : Launch) {E : EV} (hA : AD E) (σ μ : St) (worth : Int32) : Met l yX4_first (.code yX4_first cX4_first 4 (some .int) :: gtbl) (rmL 2) (va_Pc [.ref (ea E 47), .int worth] (PR E σ μ)) (QI E (f_X4_first μ worth).1 σ (f_X4_first μ worth).2) 0 0 (eA E) := by
  refine x_met (own := RX4) (by decide) rfl hA (Nat.le_of_ble_eq_true rfl) ?_
  intro p e s m below meth c ls F hr hlk hH hl
  have hl : lv_has ls 4 [(0, .ref (ea E 47)), (1, .int worth)] := hl
  have hx := F.hx
  have hb := F.hb
  refine lv_aload_n hx hb dX4_first_0 rfl (lv_at hl 0 rfl) ?_
  refine lv_iconst (v := 0) hx hb dX4_first_1 (by decide) ?_
  refine p_X4_thrown F hH kw_294 dX4_first_2 (fun H locs hH => ?_)
  refine lv_iload_n hx hb dX4_first_5 rfl (lv_at hl 1 rfl) ?_
  refine lv_iconst (v := 0) hx hb dX4_first_6 (by decide) ?_
  refine lv_sipush (v := 10000) hx hb dX4_first_7 (by decide) ?_
  refine x_pure hx hb F.hml F.hown F.hts (c_X4_in l worth 0 10000) cw_X4_33 rfl rfl ⟨Nat.le_of_ble_eq_true rfl, Nat.le_of_ble_eq_true rfl⟩ rfl hl.1 rfl (Nat.le_of_ble_eq_true rfl) ⟨Nat.zero_le _, Nat.zero_le _⟩ dX4_first_10 ?_
  refine lv_if_ne (tgt := 18) hx hb dX4_first_13 (by decide) (fun c_1 => ?_) (fun c_1 => ?_)
  · refine lv_iconst (v := 0) hx hb dX4_first_18 (by decide) ?_
    refine lv_istore_n (lv' := [(2, .int 0), (0, .ref (ea E 47)), (1, .int worth)]) hx hb dX4_first_19 rfl hl (by decide) rfl (fun ls hl => ?_)
    rw [show f_X4_first μ worth = firstM worth 8 0 (up μ 0 0 0) from (by simp only [f_X4_first, if_neg c_1])]
    exact lp_X4_first F hr hlk worth 8 0 σ (up μ 0 0 0) _ _ ls (by omega) hH (lv_sub hl [1, 2, 0] rfl)
  · refine lv_iconst (v := -1) hx hb dX4_first_16 (by decide) ?_
    exact x_iretM F hr hlk hH (by simp only [f_X4_first, if_pos c_1]) dX4_first_17
set_option maxRecDepth 100000 in
set_option maxHeartbeats 4000000 in
theorem lp_X4_count {p : Program} {l : Launch} {e : Env} {s : State} {m : MethodId} {args : Array Value} {below : List Frame} {meth : Method} {c : Code} {Q : State → Prop} {E : EV} (F : Fx E p s m args c cX4_count RX4 4) (what : Int32) : ∀ (n : Nat) (k : Nat) (acc : Int32) (σ μ : St) (H : Heap) (locs : List Loc) (ls : Array Slot), k + n = 8 → HS E s σ μ H locs → lv_has ls 4 [(0, .ref (ea E 47)), (1, .int what), (2, .int acc), (3, .int (nI k))] → (∀ (H : Heap) (locs : List Loc) (ls : Array Slot), HS E s σ μ H locs → lv_has ls 4 [(0, .ref (ea E 47)), (1, .int what), (2, .int (thereM μ n k acc)), (3, .int (nI 8))] → W p l e (rmL 0) s m args below meth c H locs 0 0 Q (F0 m 38 ls [])) → W p l e (rmL 0) s m args below meth c H locs 0 0 Q (F0 m 9 ls []) := by
  have hx := F.hx
  have hb := F.hb
  intro n
  induction n with
  | zero =>
    intro k acc σ μ H locs ls hn hH hl hk
    obtain rfl : k = 8 := by omega
    refine lv_iload_n hx hb dX4_count_9 rfl (lv_at hl 3 rfl) ?_
    refine lv_bipush (v := 8) hx hb dX4_count_10 (by decide) ?_
    refine lv_icmp_ge (tgt := 38) hx hb dX4_count_12 (by decide) (fun _ => ?_) (fun c_1 => absurd (by decide) c_1)
    simp only [thereM] at hk
    exact hk H locs ls hH (lv_sub hl [0, 1, 2, 3] rfl)
  | succ n ih =>
    intro k acc σ μ H locs ls hn hH hl hk
    refine lv_iload_n hx hb dX4_count_9 rfl (lv_at hl 3 rfl) ?_
    refine lv_bipush (v := 8) hx hb dX4_count_10 (by decide) ?_
    refine lv_icmp_ge (tgt := 38) hx hb dX4_count_12 (by decide) (fun c_1 => absurd c_1 (nI_ge (show k < 8 by omega) (by decide))) (fun _ => ?_)
    refine lv_iload_n hx hb dX4_count_15 rfl (lv_at hl 2 rfl) ?_
    refine lv_aload_n hx hb dX4_count_16 rfl (lv_at hl 0 rfl) ?_
    refine g_X4_isThere F hH kw_295 dX4_count_17 ?_
    refine lv_iload_n hx hb dX4_count_20 rfl (lv_at hl 3 rfl) ?_
    refine a_mth F hH k (by omega) dX4_count_21 ?_
    refine lv_if_eq (tgt := 29) hx hb dX4_count_22 (by decide) (fun c_2 => ?_) (fun c_2 => ?_)
    · refine lv_iconst (v := 0) hx hb dX4_count_29 (by decide) ?_
      refine lv_iadd hx hb dX4_count_30 ?_
      refine lv_istore_n (lv' := [(2, .int (acc + 0)), (0, .ref (ea E 47)), (1, .int what), (3, .int (nI k))]) hx hb dX4_count_31 rfl hl (by decide) rfl (fun ls hl => ?_)
      refine lv_iinc (v := nI (k + 1)) (lv' := [(3, .int (nI (k + 1))), (2, .int (acc + 0)), (0, .ref (ea E 47)), (1, .int what)]) hx hb dX4_count_32 hl (k := 3) rfl (nI_1 k) (by decide) rfl (fun ls hl => ?_)
      refine lv_goto (tgt := 9) hx hb dX4_count_35 (by decide) ?_
      simp only [thereM, if_pos c_2] at hk
      exact ih (k + 1) (acc + 0) σ μ H locs ls (by omega) hH (lv_sub hl [2, 3, 1, 0] rfl) hk
    · refine lv_iconst (v := 1) hx hb dX4_count_25 (by decide) ?_
      refine lv_goto (tgt := 30) hx hb dX4_count_26 (by decide) ?_
      refine lv_iadd hx hb dX4_count_30 ?_
      refine lv_istore_n (lv' := [(2, .int (acc + 1)), (0, .ref (ea E 47)), (1, .int what), (3, .int (nI k))]) hx hb dX4_count_31 rfl hl (by decide) rfl (fun ls hl => ?_)
      refine lv_iinc (v := nI (k + 1)) (lv' := [(3, .int (nI (k + 1))), (2, .int (acc + 1)), (0, .ref (ea E 47)), (1, .int what)]) hx hb dX4_count_32 hl (k := 3) rfl (nI_1 k) (by decide) rfl (fun ls hl => ?_)
      refine lv_goto (tgt := 9) hx hb dX4_count_35 (by decide) ?_
      simp only [thereM, if_neg c_2] at hk
      exact ih (k + 1) (acc + 1) σ μ H locs ls (by omega) hH (lv_sub hl [2, 3, 1, 0] rfl) hk
def f_X4_count (μ : St) (what : Int32) : Int32 × St :=
  if what = 0 then
    ((up μ 0 0 0) 0 1, (up μ 0 0 0))
  else
    if what = 1 then
      ((up μ 0 0 0) 0 2, (up μ 0 0 0))
    else
      if what = 2 then
        ((up μ 0 0 0) 0 4, (up μ 0 0 0))
      else
        if what = 3 then
          (thereM (up μ 0 0 0) 8 0 0, (up μ 0 0 0))
        else
          ((-1), (up μ 0 0 0))
set_option maxRecDepth 100000 in
set_option maxHeartbeats 4000000 in
theorem c_X4_count (l : Launch) {E : EV} (hA : AD E) (σ μ : St) (what : Int32) : Met l yX4_count (.code yX4_count cX4_count 4 (some .int) :: gtbl) (rmL 0) (va_Pc [.ref (ea E 47), .int what] (PR E σ μ)) (QI E (f_X4_count μ what).1 σ (f_X4_count μ what).2) 0 0 (eA E) := by
  refine x_met (own := RX4) (by decide) rfl hA (Nat.le_of_ble_eq_true rfl) ?_
  intro p e s m below meth c ls F hr hlk hH hl
  have hl : lv_has ls 4 [(0, .ref (ea E 47)), (1, .int what)] := hl
  have hx := F.hx
  have hb := F.hb
  refine lv_aload_n hx hb dX4_count_0 rfl (lv_at hl 0 rfl) ?_
  refine lv_iconst (v := 0) hx hb dX4_count_1 (by decide) ?_
  refine p_X4_thrown F hH kw_294 dX4_count_2 (fun H locs hH => ?_)
  refine lv_iconst (v := 0) hx hb dX4_count_5 (by decide) ?_
  refine lv_istore_n (lv' := [(2, .int 0), (0, .ref (ea E 47)), (1, .int what)]) hx hb dX4_count_6 rfl hl (by decide) rfl (fun ls hl => ?_)
  refine lv_iconst (v := 0) hx hb dX4_count_7 (by decide) ?_
  refine lv_istore_n (lv' := [(3, .int 0), (2, .int 0), (0, .ref (ea E 47)), (1, .int what)]) hx hb dX4_count_8 rfl hl (by decide) rfl (fun ls hl => ?_)
  refine lp_X4_count F what 8 0 0 σ (up μ 0 0 0) _ _ ls (by omega) hH (lv_sub hl [2, 3, 1, 0] rfl) (fun H locs ls hH hl => ?_)
  refine lv_iload_n hx hb dX4_count_38 rfl (lv_at hl 1 rfl) ?_
  refine lv_if_ne (tgt := 49) hx hb dX4_count_39 (by decide) (fun c_1 => ?_) (fun c_1 => ?_)
  · refine lv_iload_n hx hb dX4_count_49 rfl (lv_at hl 1 rfl) ?_
    refine lv_iconst (v := 1) hx hb dX4_count_50 (by decide) ?_
    refine lv_icmp_ne (tgt := 61) hx hb dX4_count_51 (by decide) (fun c_2 => ?_) (fun c_2 => ?_)
    · refine lv_iload_n hx hb dX4_count_61 rfl (lv_at hl 1 rfl) ?_
      refine lv_iconst (v := 2) hx hb dX4_count_62 (by decide) ?_
      refine lv_icmp_ne (tgt := 73) hx hb dX4_count_63 (by decide) (fun c_3 => ?_) (fun c_3 => ?_)
      · refine lv_iload_n hx hb dX4_count_73 rfl (lv_at hl 1 rfl) ?_
        refine lv_iconst (v := 3) hx hb dX4_count_74 (by decide) ?_
        refine lv_icmp_ne (tgt := 82) hx hb dX4_count_75 (by decide) (fun c_4 => ?_) (fun c_4 => ?_)
        · refine lv_iconst (v := -1) hx hb dX4_count_82 (by decide) ?_
          exact x_iretM F hr hlk hH (by simp only [f_X4_count, if_neg c_1, if_neg c_2, if_neg c_3, if_neg c_4]) dX4_count_83
        · refine lv_iload_n hx hb dX4_count_78 rfl (lv_at hl 2 rfl) ?_
          refine lv_goto (tgt := 83) hx hb dX4_count_79 (by decide) ?_
          exact x_iretM F hr hlk hH (by simp only [f_X4_count, if_neg c_1, if_neg c_2, if_neg c_3, if_pos c_4]) dX4_count_83
      · refine lv_aload_n hx hb dX4_count_66 rfl (lv_at hl 0 rfl) ?_
        refine g_X4_deepest F hH kw_302 dX4_count_67 ?_
        refine lv_goto (tgt := 83) hx hb dX4_count_70 (by decide) ?_
        exact x_iretM F hr hlk hH (by simp only [f_X4_count, if_neg c_1, if_neg c_2, if_pos c_3]) dX4_count_83
    · refine lv_aload_n hx hb dX4_count_54 rfl (lv_at hl 0 rfl) ?_
      refine g_X4_left F hH kw_300 dX4_count_55 ?_
      refine lv_goto (tgt := 83) hx hb dX4_count_58 (by decide) ?_
      exact x_iretM F hr hlk hH (by simp only [f_X4_count, if_neg c_1, if_pos c_2]) dX4_count_83
  · refine lv_aload_n hx hb dX4_count_42 rfl (lv_at hl 0 rfl) ?_
    refine g_X4_holds F hH kw_299 dX4_count_43 ?_
    refine lv_goto (tgt := 83) hx hb dX4_count_46 (by decide) ?_
    exact x_iretM F hr hlk hH (by simp only [f_X4_count, if_pos c_1]) dX4_count_83
end
section
def digsN : Nat → Nat → Nat → Nat
  | 0, _, k => k
  | n + 1, y, k => if nI y ≤ 9 then k else digsN n (y / 10) (k + 1)
def digN : Nat → Nat → Nat
  | 0, v => v
  | c + 1, v => digN c (v / 10)
theorem digsN_le : ∀ (n y k : Nat), k ≤ digsN n y k ∧ digsN n y k ≤ k + n := by
  intro n
  induction n with
  | zero => intro y k; simp [digsN]
  | succ n ih =>
    intro y k
    unfold digsN
    split
    · omega
    · have := ih (y / 10) (k + 1); omega
set_option maxRecDepth 100000 in
set_option maxHeartbeats 4000000 in
theorem lp_X4_digits {p : Program} {l : Launch} {e : Env} {s : State} {m : MethodId} {args : Array Value} {below : List Frame} {meth : Method} {c : Code} (hx : p.tables.exec = Jvm.exec) (hb : c.code = cX4_digits) (hr : meth.sig.returnType = some .int) (hlk : meth.locks = false) (x : Nat) : ∀ (n k y : Nat) (ls : Array Slot), y < 10 ^ (n + 1) → y < 2 ^ 31 → lv_has ls 3 [(0, .int (nI x)), (1, .int (nI k)), (2, .int (nI y))] → W p l e (rmL 0) s m args below meth c s.heap [] 0 0 (MQ below (QcRead (nI (digsN n y k))) args s 0 0 (fun _ => False)) (F0 m 4 ls []) := by
  intro n
  induction n with
  | zero =>
    intro k y ls hy hy2 hl
    refine lv_iload_n hx hb dX4_digits_4 rfl (lv_at hl 2 rfl) ?_
    refine lv_bipush (v := 9) hx hb dX4_digits_5 (by decide) ?_
    refine lv_icmp_le (tgt := 21) hx hb dX4_digits_7 (by decide) (fun _ => ?_) (fun c_1 => absurd ((fq_le (b := 9) rfl hy2 (by decide)).mpr (by omega)) c_1)
    refine lv_iload_n hx hb dX4_digits_21 rfl (lv_at hl 1 rfl) ?_
    exact x_pret hx hb hr hlk (by simp only [digsN]) dX4_digits_22
  | succ n ih =>
    intro k y ls hy hy2 hl
    refine lv_iload_n hx hb dX4_digits_4 rfl (lv_at hl 2 rfl) ?_
    refine lv_bipush (v := 9) hx hb dX4_digits_5 (by decide) ?_
    refine lv_icmp_le (tgt := 21) hx hb dX4_digits_7 (by decide) (fun c_1 => ?_) (fun c_1 => ?_)
    · have q_2 := (fq_le (a := y) (b := 9) rfl (by omega) (by omega)).mp c_1
      refine lv_iload_n hx hb dX4_digits_21 rfl (lv_at hl 1 rfl) ?_
      exact x_pret hx hb hr hlk (by simp only [digsN, if_pos c_1]) dX4_digits_22
    · have q_3 := mt (fq_le (a := y) (b := 9) rfl (by omega) (by omega)).mpr c_1
      refine lv_iinc (v := nI (k + 1)) (lv' := [(1, .int (nI (k + 1))), (0, .int (nI x)), (2, .int (nI y))]) hx hb dX4_digits_10 hl (k := 1) rfl (nI_1 k) (by decide) rfl (fun ls hl => ?_)
      refine lv_iload_n hx hb dX4_digits_13 rfl (lv_at hl 2 rfl) ?_
      refine lv_bipush (v := 10) hx hb dX4_digits_14 (by decide) ?_
      refine lv_idiv hx hb dX4_digits_16 (by decide) ?_
      refine x_top (pk_div (a := y) (d := 10) (by omega) (by decide) (by decide)) ?_
      refine lv_istore_n (lv' := [(2, .int (nI (y / 10))), (1, .int (nI (k + 1))), (0, .int (nI x))]) hx hb dX4_digits_17 rfl hl (by decide) rfl (fun ls hl => ?_)
      refine lv_goto (tgt := 4) hx hb dX4_digits_18 (by decide) ?_
      rw [show digsN (n + 1) y k = digsN n (y / 10) (k + 1) from (by simp only [digsN, if_neg c_1])]
      exact ih (k + 1) (y / 10) ls (Nat.div_lt_of_lt_mul (by rw [Nat.pow_succ] at hy; omega)) (by omega) (lv_sub hl [2, 1, 0] rfl)
set_option maxRecDepth 100000 in
set_option maxHeartbeats 4000000 in
theorem c_X4_digits (l : Launch) (x : Nat) (hx : x < 777778) : Met l yX4_digits (.code yX4_digits cX4_digits 3 (some .int) :: gtbl) (rmL 0) (PS [.int (nI x)]) (QcRead (nI (digsN 5 x 1))) 0 0 (fun _ => False) := by
  refine x_metS (by decide) (Nat.le_of_ble_eq_true rfl) ?_
  intro p e s m below meth c ls hx hb hml hown hts hr hlk hl
  have hl : lv_has ls 3 [(0, .int (nI x))] := hl
  refine lv_iconst (v := 1) hx hb dX4_digits_0 (by decide) ?_
  refine lv_istore_n (lv' := [(1, .int 1), (0, .int (nI x))]) hx hb dX4_digits_1 rfl hl (by decide) rfl (fun ls hl => ?_)
  refine lv_iload_n hx hb dX4_digits_2 rfl (lv_at hl 1 rfl) ?_
  refine lv_istore_n (lv' := [(2, .int (nI x)), (1, .int 1), (0, .int (nI x))]) hx hb dX4_digits_3 rfl hl (by decide) rfl (fun ls hl => ?_)
  exact lp_X4_digits hx hb hr hlk x 5 1 x ls (by omega) (by omega) (lv_sub hl [2, 1, 0] rfl)
set_option maxRecDepth 100000 in
set_option maxHeartbeats 4000000 in
theorem lp_X4_digit {p : Program} {l : Launch} {e : Env} {s : State} {m : MethodId} {args : Array Value} {below : List Frame} {meth : Method} {c : Code} (hx : p.tables.exec = Jvm.exec) (hb : c.code = cX4_digit) (hr : meth.sig.returnType = some .int) (hlk : meth.locks = false) (x len k : Nat) (hlen : len < 7) : ∀ (n i v : Nat) (ls : Array Slot), i + n = len → v < 2 ^ 31 → lv_has ls 5 [(0, .int (nI x)), (1, .int (nI len)), (2, .int (nI k)), (3, .int (nI v)), (4, .int (nI i))] → W p l e (rmL 0) s m args below meth c s.heap [] 0 0 (MQ below (QcRead (nI (digN n v % 10))) args s 0 0 (fun _ => False)) (F0 m 7 ls []) := by
  intro n
  induction n with
  | zero =>
    intro i v ls hi hv hl
    refine lv_iload hx hb dX4_digit_7 (lv_at hl 4 rfl) ?_
    refine lv_iload_n hx hb dX4_digit_9 rfl (lv_at hl 1 rfl) ?_
    refine lv_icmp_ge (tgt := 24) hx hb dX4_digit_10 (by decide) (fun _ => ?_) (fun c_1 => absurd (nI_le (show len ≤ i by omega) (by omega)) c_1)
    refine lv_iload_n hx hb dX4_digit_24 rfl (lv_at hl 3 rfl) ?_
    refine lv_bipush (v := 10) hx hb dX4_digit_25 (by decide) ?_
    refine lv_irem hx hb dX4_digit_27 (by decide) ?_
    refine x_top (pk_rem (a := v) (d := 10) (by omega) (by decide) (by decide)) ?_
    exact x_pret hx hb hr hlk (by simp only [digN]) dX4_digit_28
  | succ n ih =>
    intro i v ls hi hv hl
    refine lv_iload hx hb dX4_digit_7 (lv_at hl 4 rfl) ?_
    refine lv_iload_n hx hb dX4_digit_9 rfl (lv_at hl 1 rfl) ?_
    refine lv_icmp_ge (tgt := 24) hx hb dX4_digit_10 (by decide) (fun c_1 => absurd c_1 (nI_ge (show i < len by omega) (by omega))) (fun _ => ?_)
    refine lv_iload_n hx hb dX4_digit_13 rfl (lv_at hl 3 rfl) ?_
    refine lv_bipush (v := 10) hx hb dX4_digit_14 (by decide) ?_
    refine lv_idiv hx hb dX4_digit_16 (by decide) ?_
    refine x_top (pk_div (a := v) (d := 10) (by omega) (by decide) (by decide)) ?_
    refine lv_istore_n (lv' := [(3, .int (nI (v / 10))), (0, .int (nI x)), (1, .int (nI len)), (2, .int (nI k)), (4, .int (nI i))]) hx hb dX4_digit_17 rfl hl (by decide) rfl (fun ls hl => ?_)
    refine lv_iinc (v := nI (i + 1)) (lv' := [(4, .int (nI (i + 1))), (3, .int (nI (v / 10))), (0, .int (nI x)), (1, .int (nI len)), (2, .int (nI k))]) hx hb dX4_digit_18 hl (k := 4) rfl (nI_1 i) (by decide) rfl (fun ls hl => ?_)
    refine lv_goto (tgt := 7) hx hb dX4_digit_21 (by decide) ?_
    exact ih (i + 1) (v / 10) ls (by omega) (by omega) (lv_sub hl [2, 3, 4, 1, 0] rfl)
set_option maxRecDepth 100000 in
set_option maxHeartbeats 4000000 in
theorem c_X4_digit (l : Launch) (x : Nat) (len : Nat) (k : Nat) (hx : x < 777778) (hlen : len < 7) (hk : k < 7) (hkl : k < len) : Met l yX4_digit (.code yX4_digit cX4_digit 5 (some .int) :: gtbl) (rmL 0) (PS [.int (nI x), .int (nI len), .int (nI k)]) (QcRead (nI (digN (len - (k + 1)) x % 10))) 0 0 (fun _ => False) := by
  refine x_metS (by decide) (Nat.le_of_ble_eq_true rfl) ?_
  intro p e s m below meth c ls hx hb hml hown hts hr hlk hl
  have hl : lv_has ls 5 [(0, .int (nI x)), (1, .int (nI len)), (2, .int (nI k))] := hl
  refine lv_iload_n hx hb dX4_digit_0 rfl (lv_at hl 0 rfl) ?_
  refine lv_istore_n (lv' := [(3, .int (nI x)), (0, .int (nI x)), (1, .int (nI len)), (2, .int (nI k))]) hx hb dX4_digit_1 rfl hl (by decide) rfl (fun ls hl => ?_)
  refine lv_iload_n hx hb dX4_digit_2 rfl (lv_at hl 3 rfl) ?_
  refine lv_iconst (v := 1) hx hb dX4_digit_3 (by decide) ?_
  refine lv_iadd hx hb dX4_digit_4 ?_
  refine x_top (nI_add k 1) ?_
  refine lv_istore (lv' := [(4, .int (nI (k + 1))), (3, .int (nI x)), (0, .int (nI x)), (1, .int (nI len)), (2, .int (nI k))]) hx hb dX4_digit_5 hl (by decide) rfl (fun ls hl => ?_)
  exact lp_X4_digit hx hb hr hlk x len k (by omega) (len - (k + 1)) (k + 1) x ls (by omega) (by omega) (lv_sub hl [2, 3, 4, 1, 0] rfl)
def okL (x len : Nat) : Nat → Nat → Int32 → Int32
  | 0, _, g => g
  | n + 1, k, g => if g = 0 then okL x len n (k + 1) 0 else if 8 ≤ nI (digN (len - (k + 1)) x % 10) then okL x len n (k + 1) 0 else okL x len n (k + 1) 1
set_option maxRecDepth 100000 in
set_option maxHeartbeats 4000000 in
theorem lp_X4_passA {p : Program} {l : Launch} {e : Env} {s : State} {m : MethodId} {args : Array Value} {below : List Frame} {meth : Method} {c : Code} {Q : State → Prop} {E : EV} (F : Fx E p s m args c cX4_pass RX4 9) (row worth back : Int32) (x len : Nat) (hrow : row = nI x) (hx7 : x < 777778) (hlen : len < 7) : ∀ (n : Nat) (k : Nat) (g : Int32) (σ μ : St) (H : Heap) (locs : List Loc) (ls : Array Slot), k + n = len → HS E s σ μ H locs → lv_has ls 9 [(0, .ref (ea E 47)), (1, .int row), (2, .int worth), (3, .int (bz back)), (5, .int (nI len)), (4, .int g), (6, .int (nI k))] → (∀ (H : Heap) (locs : List Loc) (ls : Array Slot), HS E s σ μ H locs → lv_has ls 9 [(0, .ref (ea E 47)), (1, .int row), (2, .int worth), (3, .int (bz back)), (5, .int (nI len)), (4, .int (okL x len n k g)), (6, .int (nI len))] → W p l e (rmL 3) s m args below meth c H locs 0 0 Q (F0 m 89 ls [])) → W p l e (rmL 3) s m args below meth c H locs 0 0 Q (F0 m 51 ls []) := by
  have hx := F.hx
  have hb := F.hb
  intro n
  induction n with
  | zero =>
    intro k g σ μ H locs ls hn hH hl hk
    obtain rfl : k = len := by omega
    refine lv_iload hx hb dX4_pass_51 (lv_at hl 6 rfl) ?_
    refine lv_iload hx hb dX4_pass_53 (lv_at hl 4 rfl) ?_
    refine lv_icmp_ge (tgt := 89) hx hb dX4_pass_55 (by decide) (fun _ => ?_) (fun c_1 => absurd (nI_le (Nat.le_refl _) (by omega)) c_1)
    simp only [okL] at hk
    exact hk H locs ls hH (lv_sub hl [0, 1, 2, 3, 4, 5, 6] rfl)
  | succ n ih =>
    intro k g σ μ H locs ls hn hH hl hk
    refine lv_iload hx hb dX4_pass_51 (lv_at hl 6 rfl) ?_
    refine lv_iload hx hb dX4_pass_53 (lv_at hl 4 rfl) ?_
    refine lv_icmp_ge (tgt := 89) hx hb dX4_pass_55 (by decide) (fun c_1 => absurd c_1 (nI_ge (show k < len by omega) (by omega))) (fun _ => ?_)
    refine lv_iload hx hb dX4_pass_58 (lv_at hl 5 rfl) ?_
    refine lv_if_eq (tgt := 80) hx hb dX4_pass_60 (by decide) (fun c_2 => ?_) (fun c_2 => ?_)
    · refine lv_iconst (v := 0) hx hb dX4_pass_80 (by decide) ?_
      refine lv_istore (lv' := [(4, .int 0), (0, .ref (ea E 47)), (1, .int row), (2, .int worth), (3, .int (bz back)), (5, .int (nI len)), (6, .int (nI k))]) hx hb dX4_pass_81 hl (by decide) rfl (fun ls hl => ?_)
      refine lv_iinc (v := nI (k + 1)) (lv' := [(6, .int (nI (k + 1))), (4, .int 0), (0, .ref (ea E 47)), (1, .int row), (2, .int worth), (3, .int (bz back)), (5, .int (nI len))]) hx hb dX4_pass_83 hl (k := 6) rfl (nI_1 k) (by decide) rfl (fun ls hl => ?_)
      refine lv_goto (tgt := 51) hx hb dX4_pass_86 (by decide) ?_
      simp only [okL, if_pos c_2] at hk
      exact ih (k + 1) 0 σ μ H locs ls (by omega) hH (lv_sub hl [2, 3, 4, 5, 6, 1, 0] rfl) hk
    · refine lv_iload_n hx hb dX4_pass_63 rfl (lv_at hl 1 rfl) ?_
      refine x_top hrow ?_
      refine lv_iload hx hb dX4_pass_64 (lv_at hl 4 rfl) ?_
      refine lv_iload hx hb dX4_pass_66 (lv_at hl 6 rfl) ?_
      refine x_pure hx hb F.hml F.hown F.hts (c_X4_digit l x len k (by omega) (by omega) (by omega) (by omega)) cw_X4_96 rfl rfl ⟨Nat.le_of_ble_eq_true rfl, Nat.le_of_ble_eq_true rfl⟩ rfl hl.1 rfl (Nat.le_of_ble_eq_true rfl) ⟨Nat.zero_le _, Nat.zero_le _⟩ dX4_pass_68 ?_
      refine lv_bipush (v := 8) hx hb dX4_pass_71 (by decide) ?_
      refine lv_icmp_ge (tgt := 80) hx hb dX4_pass_73 (by decide) (fun c_3 => ?_) (fun c_3 => ?_)
      · have q_4 := (fq_ge (a := (digN (len - (k + 1)) x % 10)) (b := 8) rfl (by omega) (by omega)).mp c_3
        refine lv_iconst (v := 0) hx hb dX4_pass_80 (by decide) ?_
        refine lv_istore (lv' := [(4, .int 0), (0, .ref (ea E 47)), (1, .int row), (2, .int worth), (3, .int (bz back)), (5, .int (nI len)), (6, .int (nI k))]) hx hb dX4_pass_81 hl (by decide) rfl (fun ls hl => ?_)
        refine lv_iinc (v := nI (k + 1)) (lv' := [(6, .int (nI (k + 1))), (4, .int 0), (0, .ref (ea E 47)), (1, .int row), (2, .int worth), (3, .int (bz back)), (5, .int (nI len))]) hx hb dX4_pass_83 hl (k := 6) rfl (nI_1 k) (by decide) rfl (fun ls hl => ?_)
        refine lv_goto (tgt := 51) hx hb dX4_pass_86 (by decide) ?_
        simp only [okL, if_neg c_2, if_pos c_3] at hk
        exact ih (k + 1) 0 σ μ H locs ls (by omega) hH (lv_sub hl [2, 3, 4, 5, 6, 1, 0] rfl) hk
      · have q_5 := mt (fq_ge (a := (digN (len - (k + 1)) x % 10)) (b := 8) rfl (by omega) (by omega)).mpr c_3
        refine lv_iconst (v := 1) hx hb dX4_pass_76 (by decide) ?_
        refine lv_goto (tgt := 81) hx hb dX4_pass_77 (by decide) ?_
        refine lv_istore (lv' := [(4, .int 1), (0, .ref (ea E 47)), (1, .int row), (2, .int worth), (3, .int (bz back)), (5, .int (nI len)), (6, .int (nI k))]) hx hb dX4_pass_81 hl (by decide) rfl (fun ls hl => ?_)
        refine lv_iinc (v := nI (k + 1)) (lv' := [(6, .int (nI (k + 1))), (4, .int 1), (0, .ref (ea E 47)), (1, .int row), (2, .int worth), (3, .int (bz back)), (5, .int (nI len))]) hx hb dX4_pass_83 hl (k := 6) rfl (nI_1 k) (by decide) rfl (fun ls hl => ?_)
        refine lv_goto (tgt := 51) hx hb dX4_pass_86 (by decide) ?_
        simp only [okL, if_neg c_2, if_neg c_3] at hk
        exact ih (k + 1) 1 σ μ H locs ls (by omega) hH (lv_sub hl [2, 3, 4, 5, 6, 1, 0] rfl) hk
def mainL (x len : Nat) (worth : Int32) : Nat → Nat → Int32 → St → Nat × Int32 × St
  | 0, h, f, μ => (h, f, μ)
  | n + 1, h, f, μ =>
    if f = 0 then
      match f_X4_hold μ (digN (len - (h + 1)) x % 10) with
      | (r_3, s_4) =>
        if r_3 = 0 then
          if (nI (h + 1)) ≤ 1 then
            if (nI (h + 1)) < (nI len) then
              match f_X4_pay (keepL (digN (len - (h + 1)) x % 10) h 5 0 s_4) (digN (len - (h + 1)) x % 10) worth with
              | (r_11, s_12) =>
                mainL x len worth n (h + 1) r_11 s_12
            else
              if (nI len) = 1 then
                match f_X4_pay (keepL (digN (len - (h + 1)) x % 10) h 5 0 s_4) (digN (len - (h + 1)) x % 10) worth with
                | (r_17, s_18) =>
                  mainL x len worth n (h + 1) r_17 s_18
              else
                mainL x len worth n (h + 1) 0 (keepL (digN (len - (h + 1)) x % 10) h 5 0 s_4)
          else
            match f_X4_lay (keepL (digN (len - (h + 1)) x % 10) h 5 0 s_4) (digN (len - (h + 1)) x % 10) 5 with
            | (r_21, s_22) =>
              if r_21 = 0 then
                if (nI (h + 1)) < (nI len) then
                  match f_X4_pay s_22 (digN (len - (h + 1)) x % 10) worth with
                  | (r_26, s_27) =>
                    mainL x len worth n (h + 1) r_26 s_27
                else
                  if (nI len) = 1 then
                    match f_X4_pay s_22 (digN (len - (h + 1)) x % 10) worth with
                    | (r_32, s_33) =>
                      mainL x len worth n (h + 1) r_32 s_33
                  else
                    mainL x len worth n (h + 1) r_21 s_22
              else
                mainL x len worth n (h + 1) r_21 s_22
        else
          mainL x len worth n h r_3 s_4
    else
      (h, f, μ)
set_option maxRecDepth 100000 in
set_option maxHeartbeats 4000000 in
theorem lp_X4_passB {p : Program} {l : Launch} {e : Env} {s : State} {m : MethodId} {args : Array Value} {below : List Frame} {meth : Method} {c : Code} {Q : State → Prop} {E : EV} (F : Fx E p s m args c cX4_pass RX4 9) (row worth back : Int32) (x len : Nat) (hrow : row = nI x) (hx7 : x < 777778) (hlen : len < 7) (hdig : ∀ k, k < len → digN (len - (k + 1)) x % 10 < 8) : ∀ (n h : Nat) (f : Int32) (σ μ : St) (H : Heap) (locs : List Loc) (ls : Array Slot), h + n ≤ len ∧ (f = 0 → h + n = len) → HS E s σ μ H locs → lv_has ls 9 [(0, .ref (ea E 47)), (1, .int row), (2, .int worth), (3, .int (bz back)), (5, .int (nI len)), (6, .int (nI h)), (7, .int f)] → (∀ (hF : Nat) (fF : Int32) (mF : St) (H : Heap) (locs : List Loc) (ls : Array Slot), mainL x len worth n h f μ = (hF, fF, mF) → hF ≤ len → HS E s σ mF H locs → lv_has ls 9 [(0, .ref (ea E 47)), (1, .int row), (2, .int worth), (3, .int (bz back)), (5, .int (nI len)), (6, .int (nI hF)), (7, .int fF)] → W p l e (rmL 3) s m args below meth c H locs 0 0 Q (F0 m 213 ls [])) → W p l e (rmL 3) s m args below meth c H locs 0 0 Q (F0 m 110 ls []) := by
  have hx := F.hx
  have hb := F.hb
  intro n
  induction n with
  | zero =>
    intro h f σ μ H locs ls hn hH hl hk
    refine lv_iload hx hb dX4_pass_110 (lv_at hl 5 rfl) ?_
    refine lv_iload hx hb dX4_pass_112 (lv_at hl 4 rfl) ?_
    refine lv_icmp_ge (tgt := 213) hx hb dX4_pass_114 (by decide) (fun c_0 => ?_) (fun c_0 => ?_)
    · exact hk h f μ H locs ls (by simp only [mainL]) (by omega) hH (lv_sub hl [0, 1, 2, 3, 4, 5, 6] rfl)
    · have q0 := mt (nI_leI (a := len) (b := h) (by omega) (by omega)).mpr c_0
      refine lv_iload hx hb dX4_pass_117 (lv_at hl 6 rfl) ?_
      refine lv_if_ne (tgt := 213) hx hb dX4_pass_119 (by decide) (fun c_1 => ?_) (fun c_1 => absurd (hn.2 c_1) (by omega))
      exact hk h f μ H locs ls (by simp only [mainL]) (by omega) hH (lv_sub hl [0, 1, 2, 3, 4, 5, 6] rfl)
  | succ n ih =>
    intro h f σ μ H locs ls hn hH hl hk
    refine lv_iload hx hb dX4_pass_110 (lv_at hl 5 rfl) ?_
    refine lv_iload hx hb dX4_pass_112 (lv_at hl 4 rfl) ?_
    refine lv_icmp_ge (tgt := 213) hx hb dX4_pass_114 (by decide) (fun c_0 => absurd c_0 (nI_ge (show h < len by omega) (by omega))) (fun _ => ?_)
    refine lv_iload hx hb dX4_pass_117 (lv_at hl 6 rfl) ?_
    refine lv_if_ne (tgt := 213) hx hb dX4_pass_119 (by decide) (fun c_1 => ?_) (fun c_1 => ?_)
    · exact hk h f μ H locs ls (by simp only [mainL, if_neg c_1]) (by omega) hH (lv_sub hl [0, 1, 2, 3, 4, 5, 6] rfl)
    · refine lv_iload_n hx hb dX4_pass_122 rfl (lv_at hl 1 rfl) ?_
      refine x_top hrow ?_
      refine lv_iload hx hb dX4_pass_123 (lv_at hl 4 rfl) ?_
      refine lv_iload hx hb dX4_pass_125 (lv_at hl 5 rfl) ?_
      refine x_pure hx hb F.hml F.hown F.hts (c_X4_digit l x len h (by omega) (by omega) (by omega) (by omega)) cw_X4_96 rfl rfl ⟨Nat.le_of_ble_eq_true rfl, Nat.le_of_ble_eq_true rfl⟩ rfl hl.1 rfl (Nat.le_of_ble_eq_true rfl) ⟨Nat.zero_le _, Nat.zero_le _⟩ dX4_pass_127 ?_
      have d_2 := hdig h (by omega)
      refine lv_istore (lv' := [(8, .int (nI (digN (len - (h + 1)) x % 10))), (0, .ref (ea E 47)), (1, .int row), (2, .int worth), (3, .int (bz back)), (5, .int (nI len)), (6, .int (nI h)), (7, .int f)]) hx hb dX4_pass_130 hl (by decide) rfl (fun ls hl => ?_)
      refine lv_aload_n hx hb dX4_pass_132 rfl (lv_at hl 1 rfl) ?_
      refine lv_iload hx hb dX4_pass_133 (lv_at hl 0 rfl) ?_
      refine x_calliM F hH 47 (F.lt (by omega)) (vv4 0) rfl (c_X4_hold l F.ad σ μ (digN (len - (h + 1)) x % 10) (by omega)) cw_X4_76 rfl rfl ⟨Nat.le_of_ble_eq_true rfl, Nat.le_of_ble_eq_true rfl⟩ rfl hl.1 rfl (Nat.le_of_ble_eq_true rfl) ⟨Nat.zero_le _, Nat.zero_le _⟩ dX4_pass_135 (fun r_3 s_4 H locs e_5 hH => ?_)
      refine lv_istore (lv' := [(7, .int r_3), (8, .int (nI (digN (len - (h + 1)) x % 10))), (0, .ref (ea E 47)), (1, .int row), (2, .int worth), (3, .int (bz back)), (5, .int (nI len)), (6, .int (nI h))]) hx hb dX4_pass_138 hl (by decide) rfl (fun ls hl => ?_)
      refine lv_iload hx hb dX4_pass_140 (lv_at hl 0 rfl) ?_
      refine lv_if_ne (tgt := 210) hx hb dX4_pass_142 (by decide) (fun c_6 => ?_) (fun c_6 => ?_)
      · refine lv_goto (tgt := 110) hx hb dX4_pass_210 (by decide) ?_
        have hn2 := hn.2 c_1
        exact ih h r_3 σ s_4 H locs ls ⟨(by omega), (fun hz => by first | omega | exact absurd hz (by assumption))⟩ hH (lv_sub hl [2, 3, 4, 5, 6, 7, 0] rfl) (fun hF fF mF H locs ls e h6 hH hl => hk hF fF mF H locs ls (by simpa only [mainL, if_pos c_1, e_5, if_neg c_6] using e) h6 hH hl)
      · refine lv_aload_n hx hb dX4_pass_145 rfl (lv_at hl 2 rfl) ?_
        refine lv_iload hx hb dX4_pass_146 (lv_at hl 1 rfl) ?_
        refine lv_iload hx hb dX4_pass_148 (lv_at hl 7 rfl) ?_
        refine x_callv F hH 47 (F.lt (by omega)) (vv4 0) rfl (c_X4_keep l F.ad σ s_4 (digN (len - (h + 1)) x % 10) h (by omega) (by omega)) cw_X4_100 rfl rfl ⟨Nat.le_of_ble_eq_true rfl, Nat.le_of_ble_eq_true rfl⟩ rfl hl.1 rfl (Nat.le_of_ble_eq_true rfl) ⟨Nat.zero_le _, Nat.zero_le _⟩ dX4_pass_150 (fun H locs hH => ?_)
        refine lv_iinc (v := nI (h + 1)) (lv' := [(6, .int (nI (h + 1))), (7, .int r_3), (8, .int (nI (digN (len - (h + 1)) x % 10))), (0, .ref (ea E 47)), (1, .int row), (2, .int worth), (3, .int (bz back)), (5, .int (nI len))]) hx hb dX4_pass_153 hl (k := 7) rfl (nI_1 h) (by decide) rfl (fun ls hl => ?_)
        refine lv_iload hx hb dX4_pass_156 (lv_at hl 0 rfl) ?_
        refine lv_iconst (v := 1) hx hb dX4_pass_158 (by decide) ?_
        refine lv_icmp_le (tgt := 175) hx hb dX4_pass_159 (by decide) (fun c_7 => ?_) (fun c_7 => ?_)
        · have q_8 := (fq_le (a := (h + 1)) (b := 1) rfl (by omega) (by omega)).mp c_7
          refine lv_iconst (v := 0) hx hb dX4_pass_175 (by decide) ?_
          refine lv_istore (lv' := [(7, .int 0), (6, .int (nI (h + 1))), (8, .int (nI (digN (len - (h + 1)) x % 10))), (0, .ref (ea E 47)), (1, .int row), (2, .int worth), (3, .int (bz back)), (5, .int (nI len))]) hx hb dX4_pass_176 hl (by decide) rfl (fun ls hl => ?_)
          refine lv_iload hx hb dX4_pass_178 (lv_at hl 0 rfl) ?_
          refine lv_if_ne (tgt := 206) hx hb dX4_pass_180 (by decide) (fun c_9 => absurd (by decide) c_9) (fun _ => ?_)
          refine lv_iload hx hb dX4_pass_183 (lv_at hl 1 rfl) ?_
          refine lv_iload hx hb dX4_pass_185 (lv_at hl 7 rfl) ?_
          refine lv_icmp_lt (tgt := 196) hx hb dX4_pass_187 (by decide) (fun c_10 => ?_) (fun c_10 => ?_)
          · refine lv_aload_n hx hb dX4_pass_196 rfl (lv_at hl 3 rfl) ?_
            refine lv_iload hx hb dX4_pass_197 (lv_at hl 2 rfl) ?_
            refine lv_iload_n hx hb dX4_pass_199 rfl (lv_at hl 5 rfl) ?_
            refine x_calliM F hH 47 (F.lt (by omega)) (vv4 0) rfl (c_X4_pay l F.ad σ (keepL (digN (len - (h + 1)) x % 10) h 5 0 s_4) (digN (len - (h + 1)) x % 10) worth (by omega)) cw_X4_89 rfl rfl ⟨Nat.le_of_ble_eq_true rfl, Nat.le_of_ble_eq_true rfl⟩ rfl hl.1 rfl (Nat.le_of_ble_eq_true rfl) ⟨Nat.zero_le _, Nat.zero_le _⟩ dX4_pass_200 (fun r_11 s_12 H locs e_13 hH => ?_)
            refine lv_goto (tgt := 208) hx hb dX4_pass_203 (by decide) ?_
            refine lv_istore (lv' := [(7, .int r_11), (6, .int (nI (h + 1))), (8, .int (nI (digN (len - (h + 1)) x % 10))), (0, .ref (ea E 47)), (1, .int row), (2, .int worth), (3, .int (bz back)), (5, .int (nI len))]) hx hb dX4_pass_208 hl (by decide) rfl (fun ls hl => ?_)
            refine lv_goto (tgt := 110) hx hb dX4_pass_210 (by decide) ?_
            have hn2 := hn.2 c_1
            exact ih (h + 1) r_11 σ s_12 H locs ls ⟨(by omega), (fun hz => by first | omega | exact absurd hz (by assumption))⟩ hH (lv_sub hl [3, 4, 5, 6, 7, 1, 0] rfl) (fun hF fF mF H locs ls e h6 hH hl => hk hF fF mF H locs ls (by simpa only [mainL, if_pos c_1, e_5, if_pos c_6, if_pos c_7, if_pos c_10, e_13] using e) h6 hH hl)
          · refine lv_iload hx hb dX4_pass_190 (lv_at hl 7 rfl) ?_
            refine lv_iconst (v := 1) hx hb dX4_pass_192 (by decide) ?_
            refine lv_icmp_ne (tgt := 206) hx hb dX4_pass_193 (by decide) (fun c_14 => ?_) (fun c_14 => ?_)
            · have q_15 := mt (fq_eq (a := len) (b := 1) rfl (by omega) (by omega)).mpr c_14
              refine lv_iload hx hb dX4_pass_206 (lv_at hl 0 rfl) ?_
              refine lv_istore (lv' := [(7, .int 0), (6, .int (nI (h + 1))), (8, .int (nI (digN (len - (h + 1)) x % 10))), (0, .ref (ea E 47)), (1, .int row), (2, .int worth), (3, .int (bz back)), (5, .int (nI len))]) hx hb dX4_pass_208 hl (by decide) rfl (fun ls hl => ?_)
              refine lv_goto (tgt := 110) hx hb dX4_pass_210 (by decide) ?_
              have hn2 := hn.2 c_1
              exact ih (h + 1) 0 σ (keepL (digN (len - (h + 1)) x % 10) h 5 0 s_4) H locs ls ⟨(by omega), (fun hz => by first | omega | exact absurd hz (by assumption))⟩ hH (lv_sub hl [3, 4, 5, 6, 7, 1, 0] rfl) (fun hF fF mF H locs ls e h6 hH hl => hk hF fF mF H locs ls (by simpa only [mainL, if_pos c_1, e_5, if_pos c_6, if_pos c_7, if_neg c_10, if_neg c_14] using e) h6 hH hl)
            · have q_16 := (fq_eq (a := len) (b := 1) rfl (by omega) (by omega)).mp c_14
              refine lv_aload_n hx hb dX4_pass_196 rfl (lv_at hl 3 rfl) ?_
              refine lv_iload hx hb dX4_pass_197 (lv_at hl 2 rfl) ?_
              refine lv_iload_n hx hb dX4_pass_199 rfl (lv_at hl 5 rfl) ?_
              refine x_calliM F hH 47 (F.lt (by omega)) (vv4 0) rfl (c_X4_pay l F.ad σ (keepL (digN (len - (h + 1)) x % 10) h 5 0 s_4) (digN (len - (h + 1)) x % 10) worth (by omega)) cw_X4_89 rfl rfl ⟨Nat.le_of_ble_eq_true rfl, Nat.le_of_ble_eq_true rfl⟩ rfl hl.1 rfl (Nat.le_of_ble_eq_true rfl) ⟨Nat.zero_le _, Nat.zero_le _⟩ dX4_pass_200 (fun r_17 s_18 H locs e_19 hH => ?_)
              refine lv_goto (tgt := 208) hx hb dX4_pass_203 (by decide) ?_
              refine lv_istore (lv' := [(7, .int r_17), (6, .int (nI (h + 1))), (8, .int (nI (digN (len - (h + 1)) x % 10))), (0, .ref (ea E 47)), (1, .int row), (2, .int worth), (3, .int (bz back)), (5, .int (nI len))]) hx hb dX4_pass_208 hl (by decide) rfl (fun ls hl => ?_)
              refine lv_goto (tgt := 110) hx hb dX4_pass_210 (by decide) ?_
              have hn2 := hn.2 c_1
              exact ih (h + 1) r_17 σ s_18 H locs ls ⟨(by omega), (fun hz => by first | omega | exact absurd hz (by assumption))⟩ hH (lv_sub hl [3, 4, 5, 6, 7, 1, 0] rfl) (fun hF fF mF H locs ls e h6 hH hl => hk hF fF mF H locs ls (by simpa only [mainL, if_pos c_1, e_5, if_pos c_6, if_pos c_7, if_neg c_10, if_pos c_14, e_19] using e) h6 hH hl)
        · have q_20 := mt (fq_le (a := (h + 1)) (b := 1) rfl (by omega) (by omega)).mpr c_7
          refine lv_aload_n hx hb dX4_pass_162 rfl (lv_at hl 3 rfl) ?_
          refine lv_iload hx hb dX4_pass_163 (lv_at hl 2 rfl) ?_
          refine lv_aload_n hx hb dX4_pass_165 rfl (lv_at hl 3 rfl) ?_
          refine g_X4_paid F hH kw_303 dX4_pass_166 ?_
          refine x_calliM F hH 47 (F.lt (by omega)) (vv4 0) rfl (c_X4_lay l F.ad σ (keepL (digN (len - (h + 1)) x % 10) h 5 0 s_4) (digN (len - (h + 1)) x % 10) 5 (by omega) (by omega)) cw_X4_85 rfl rfl ⟨Nat.le_of_ble_eq_true rfl, Nat.le_of_ble_eq_true rfl⟩ rfl hl.1 rfl (Nat.le_of_ble_eq_true rfl) ⟨Nat.zero_le _, Nat.zero_le _⟩ dX4_pass_169 (fun r_21 s_22 H locs e_23 hH => ?_)
          refine lv_goto (tgt := 176) hx hb dX4_pass_172 (by decide) ?_
          refine lv_istore (lv' := [(7, .int r_21), (6, .int (nI (h + 1))), (8, .int (nI (digN (len - (h + 1)) x % 10))), (0, .ref (ea E 47)), (1, .int row), (2, .int worth), (3, .int (bz back)), (5, .int (nI len))]) hx hb dX4_pass_176 hl (by decide) rfl (fun ls hl => ?_)
          refine lv_iload hx hb dX4_pass_178 (lv_at hl 0 rfl) ?_
          refine lv_if_ne (tgt := 206) hx hb dX4_pass_180 (by decide) (fun c_24 => ?_) (fun c_24 => ?_)
          · refine lv_iload hx hb dX4_pass_206 (lv_at hl 0 rfl) ?_
            refine lv_istore (lv' := [(7, .int r_21), (6, .int (nI (h + 1))), (8, .int (nI (digN (len - (h + 1)) x % 10))), (0, .ref (ea E 47)), (1, .int row), (2, .int worth), (3, .int (bz back)), (5, .int (nI len))]) hx hb dX4_pass_208 hl (by decide) rfl (fun ls hl => ?_)
            refine lv_goto (tgt := 110) hx hb dX4_pass_210 (by decide) ?_
            have hn2 := hn.2 c_1
            exact ih (h + 1) r_21 σ s_22 H locs ls ⟨(by omega), (fun hz => by first | omega | exact absurd hz (by assumption))⟩ hH (lv_sub hl [3, 4, 5, 6, 7, 1, 0] rfl) (fun hF fF mF H locs ls e h6 hH hl => hk hF fF mF H locs ls (by simpa only [mainL, if_pos c_1, e_5, if_pos c_6, if_neg c_7, e_23, if_neg c_24] using e) h6 hH hl)
          · refine lv_iload hx hb dX4_pass_183 (lv_at hl 1 rfl) ?_
            refine lv_iload hx hb dX4_pass_185 (lv_at hl 7 rfl) ?_
            refine lv_icmp_lt (tgt := 196) hx hb dX4_pass_187 (by decide) (fun c_25 => ?_) (fun c_25 => ?_)
            · refine lv_aload_n hx hb dX4_pass_196 rfl (lv_at hl 3 rfl) ?_
              refine lv_iload hx hb dX4_pass_197 (lv_at hl 2 rfl) ?_
              refine lv_iload_n hx hb dX4_pass_199 rfl (lv_at hl 5 rfl) ?_
              refine x_calliM F hH 47 (F.lt (by omega)) (vv4 0) rfl (c_X4_pay l F.ad σ s_22 (digN (len - (h + 1)) x % 10) worth (by omega)) cw_X4_89 rfl rfl ⟨Nat.le_of_ble_eq_true rfl, Nat.le_of_ble_eq_true rfl⟩ rfl hl.1 rfl (Nat.le_of_ble_eq_true rfl) ⟨Nat.zero_le _, Nat.zero_le _⟩ dX4_pass_200 (fun r_26 s_27 H locs e_28 hH => ?_)
              refine lv_goto (tgt := 208) hx hb dX4_pass_203 (by decide) ?_
              refine lv_istore (lv' := [(7, .int r_26), (6, .int (nI (h + 1))), (8, .int (nI (digN (len - (h + 1)) x % 10))), (0, .ref (ea E 47)), (1, .int row), (2, .int worth), (3, .int (bz back)), (5, .int (nI len))]) hx hb dX4_pass_208 hl (by decide) rfl (fun ls hl => ?_)
              refine lv_goto (tgt := 110) hx hb dX4_pass_210 (by decide) ?_
              have hn2 := hn.2 c_1
              exact ih (h + 1) r_26 σ s_27 H locs ls ⟨(by omega), (fun hz => by first | omega | exact absurd hz (by assumption))⟩ hH (lv_sub hl [3, 4, 5, 6, 7, 1, 0] rfl) (fun hF fF mF H locs ls e h6 hH hl => hk hF fF mF H locs ls (by simpa only [mainL, if_pos c_1, e_5, if_pos c_6, if_neg c_7, e_23, if_pos c_24, if_pos c_25, e_28] using e) h6 hH hl)
            · refine lv_iload hx hb dX4_pass_190 (lv_at hl 7 rfl) ?_
              refine lv_iconst (v := 1) hx hb dX4_pass_192 (by decide) ?_
              refine lv_icmp_ne (tgt := 206) hx hb dX4_pass_193 (by decide) (fun c_29 => ?_) (fun c_29 => ?_)
              · have q_30 := mt (fq_eq (a := len) (b := 1) rfl (by omega) (by omega)).mpr c_29
                refine lv_iload hx hb dX4_pass_206 (lv_at hl 0 rfl) ?_
                refine lv_istore (lv' := [(7, .int r_21), (6, .int (nI (h + 1))), (8, .int (nI (digN (len - (h + 1)) x % 10))), (0, .ref (ea E 47)), (1, .int row), (2, .int worth), (3, .int (bz back)), (5, .int (nI len))]) hx hb dX4_pass_208 hl (by decide) rfl (fun ls hl => ?_)
                refine lv_goto (tgt := 110) hx hb dX4_pass_210 (by decide) ?_
                have hn2 := hn.2 c_1
                exact ih (h + 1) r_21 σ s_22 H locs ls ⟨(by omega), (fun hz => by first | omega | exact absurd hz (by assumption))⟩ hH (lv_sub hl [3, 4, 5, 6, 7, 1, 0] rfl) (fun hF fF mF H locs ls e h6 hH hl => hk hF fF mF H locs ls (by simpa only [mainL, if_pos c_1, e_5, if_pos c_6, if_neg c_7, e_23, if_pos c_24, if_neg c_25, if_neg c_29] using e) h6 hH hl)
              · have q_31 := (fq_eq (a := len) (b := 1) rfl (by omega) (by omega)).mp c_29
                refine lv_aload_n hx hb dX4_pass_196 rfl (lv_at hl 3 rfl) ?_
                refine lv_iload hx hb dX4_pass_197 (lv_at hl 2 rfl) ?_
                refine lv_iload_n hx hb dX4_pass_199 rfl (lv_at hl 5 rfl) ?_
                refine x_calliM F hH 47 (F.lt (by omega)) (vv4 0) rfl (c_X4_pay l F.ad σ s_22 (digN (len - (h + 1)) x % 10) worth (by omega)) cw_X4_89 rfl rfl ⟨Nat.le_of_ble_eq_true rfl, Nat.le_of_ble_eq_true rfl⟩ rfl hl.1 rfl (Nat.le_of_ble_eq_true rfl) ⟨Nat.zero_le _, Nat.zero_le _⟩ dX4_pass_200 (fun r_32 s_33 H locs e_34 hH => ?_)
                refine lv_goto (tgt := 208) hx hb dX4_pass_203 (by decide) ?_
                refine lv_istore (lv' := [(7, .int r_32), (6, .int (nI (h + 1))), (8, .int (nI (digN (len - (h + 1)) x % 10))), (0, .ref (ea E 47)), (1, .int row), (2, .int worth), (3, .int (bz back)), (5, .int (nI len))]) hx hb dX4_pass_208 hl (by decide) rfl (fun ls hl => ?_)
                refine lv_goto (tgt := 110) hx hb dX4_pass_210 (by decide) ?_
                have hn2 := hn.2 c_1
                exact ih (h + 1) r_32 σ s_33 H locs ls ⟨(by omega), (fun hz => by first | omega | exact absurd hz (by assumption))⟩ hH (lv_sub hl [3, 4, 5, 6, 7, 1, 0] rfl) (fun hF fF mF H locs ls e h6 hH hl => hk hF fF mF H locs ls (by simpa only [mainL, if_pos c_1, e_5, if_pos c_6, if_neg c_7, e_23, if_pos c_24, if_neg c_25, if_pos c_29, e_34] using e) h6 hH hl)
def unwL (x len : Nat) (back : Int32) : Nat → Int32 → St → Int32 × St
  | 0, f, μ => (f, μ)
  | n + 1, f, μ => match f_X4_leave μ f with
    | (f1, μ1) => if f1 = 0 then unwL x len back n f1 μ1 else if bz back = 0 then unwL x len back n f1 μ1 else unwL x len back n f1 (backL (digN (len - (n + 1)) x % 10) n 5 0 μ1)
set_option maxRecDepth 100000 in
set_option maxHeartbeats 4000000 in
theorem lp_X4_passC {p : Program} {l : Launch} {e : Env} {s : State} {m : MethodId} {args : Array Value} {below : List Frame} {meth : Method} {c : Code} {Q : State → Prop} {E : EV} (F : Fx E p s m args c cX4_pass RX4 9) (row back : Int32) (x len : Nat) (hrow : row = nI x) (hx7 : x < 777778) (hlen : len < 7) (hdig : ∀ k, k < len → digN (len - (k + 1)) x % 10 < 8) : ∀ (n : Nat) (f : Int32) (σ μ : St) (H : Heap) (locs : List Loc) (ls : Array Slot), n ≤ len → HS E s σ μ H locs → lv_has ls 9 [(0, .ref (ea E 47)), (1, .int row), (3, .int (bz back)), (5, .int (nI len)), (7, .int f), (8, .int (nI n + (-1)))] → (∀ (rf : Int32) (sf : St) (H : Heap) (locs : List Loc) (ls : Array Slot), unwL x len back n f μ = (rf, sf) → HS E s σ sf H locs → lv_has ls 9 [(0, .ref (ea E 47)), (1, .int row), (3, .int (bz back)), (5, .int (nI len)), (7, .int rf), (8, .int (nI 0 + (-1)))] → W p l e (rmL 3) s m args below meth c H locs 0 0 Q (F0 m 261 ls [])) → W p l e (rmL 3) s m args below meth c H locs 0 0 Q (F0 m 219 ls []) := by
  have hx := F.hx
  have hb := F.hb
  intro n
  induction n with
  | zero =>
    intro f σ μ H locs ls hn hH hl hk
    refine lv_iload hx hb dX4_pass_219 (lv_at hl 5 rfl) ?_
    refine lv_if_lt (tgt := 261) hx hb dX4_pass_221 (by decide) (fun _ => ?_) (fun c_1 => absurd (by decide) c_1)
    exact hk _ _ H locs ls (by simp only [unwL]) hH (lv_sub hl [0, 1, 2, 3, 4, 5] rfl)
  | succ n ih =>
    intro f σ μ H locs ls hn hH hl hk
    rw [pk_m1] at hl
    refine lv_iload hx hb dX4_pass_219 (lv_at hl 5 rfl) ?_
    refine lv_if_lt (tgt := 261) hx hb dX4_pass_221 (by decide) (fun c_1 => absurd c_1 (nI_pos (by omega))) (fun _ => ?_)
    refine lv_aload_n hx hb dX4_pass_224 rfl (lv_at hl 0 rfl) ?_
    refine lv_iload hx hb dX4_pass_225 (lv_at hl 4 rfl) ?_
    refine x_calliM F hH 47 (F.lt (by omega)) (vv4 0) rfl (c_X4_leave l F.ad σ μ f) cw_X4_82 rfl rfl ⟨Nat.le_of_ble_eq_true rfl, Nat.le_of_ble_eq_true rfl⟩ rfl hl.1 rfl (Nat.le_of_ble_eq_true rfl) ⟨Nat.zero_le _, Nat.zero_le _⟩ dX4_pass_227 (fun r_2 s_3 H locs e_4 hH => ?_)
    refine lv_istore (lv' := [(7, .int r_2), (0, .ref (ea E 47)), (1, .int row), (3, .int (bz back)), (5, .int (nI len)), (8, .int (nI n))]) hx hb dX4_pass_230 hl (by decide) rfl (fun ls hl => ?_)
    refine lv_iload hx hb dX4_pass_232 (lv_at hl 0 rfl) ?_
    refine lv_if_eq (tgt := 255) hx hb dX4_pass_234 (by decide) (fun c_5 => ?_) (fun c_5 => ?_)
    · refine lv_iinc (v := (nI n) + (-1)) (lv' := [(8, .int ((nI n) + (-1))), (7, .int r_2), (0, .ref (ea E 47)), (1, .int row), (3, .int (bz back)), (5, .int (nI len))]) hx hb dX4_pass_255 hl (k := 5) rfl rfl (by decide) rfl (fun ls hl => ?_)
      refine lv_goto (tgt := 219) hx hb dX4_pass_258 (by decide) ?_
      exact ih r_2 σ s_3 H locs ls (by omega) hH (lv_sub hl [2, 3, 4, 5, 1, 0] rfl) (fun rf sf H locs ls e hH hl => hk rf sf H locs ls (by simpa only [unwL, e_4, if_pos c_5] using e) hH hl)
    · refine lv_iload_n hx hb dX4_pass_237 rfl (lv_at hl 3 rfl) ?_
      refine lv_if_eq (tgt := 255) hx hb dX4_pass_238 (by decide) (fun c_6 => ?_) (fun c_6 => ?_)
      · refine lv_iinc (v := (nI n) + (-1)) (lv' := [(8, .int ((nI n) + (-1))), (7, .int r_2), (0, .ref (ea E 47)), (1, .int row), (3, .int (bz back)), (5, .int (nI len))]) hx hb dX4_pass_255 hl (k := 5) rfl rfl (by decide) rfl (fun ls hl => ?_)
        refine lv_goto (tgt := 219) hx hb dX4_pass_258 (by decide) ?_
        exact ih r_2 σ s_3 H locs ls (by omega) hH (lv_sub hl [2, 3, 4, 5, 1, 0] rfl) (fun rf sf H locs ls e hH hl => hk rf sf H locs ls (by simpa only [unwL, e_4, if_neg c_5, if_pos c_6] using e) hH hl)
      · refine lv_aload_n hx hb dX4_pass_241 rfl (lv_at hl 1 rfl) ?_
        refine lv_iload_n hx hb dX4_pass_242 rfl (lv_at hl 2 rfl) ?_
        refine x_top hrow ?_
        refine lv_iload hx hb dX4_pass_243 (lv_at hl 4 rfl) ?_
        refine lv_iload hx hb dX4_pass_245 (lv_at hl 5 rfl) ?_
        refine x_pure hx hb F.hml F.hown F.hts (c_X4_digit l x len n (by omega) (by omega) (by omega) (by omega)) cw_X4_96 rfl rfl ⟨Nat.le_of_ble_eq_true rfl, Nat.le_of_ble_eq_true rfl⟩ rfl hl.1 rfl (Nat.le_of_ble_eq_true rfl) ⟨Nat.zero_le _, Nat.zero_le _⟩ dX4_pass_247 ?_
        have d_7 := hdig n (by omega)
        refine lv_iload hx hb dX4_pass_250 (lv_at hl 5 rfl) ?_
        refine x_callv F hH 47 (F.lt (by omega)) (vv4 0) rfl (c_X4_putBack l F.ad σ s_3 (digN (len - (n + 1)) x % 10) n (by omega) (by omega)) cw_X4_104 rfl rfl ⟨Nat.le_of_ble_eq_true rfl, Nat.le_of_ble_eq_true rfl⟩ rfl hl.1 rfl (Nat.le_of_ble_eq_true rfl) ⟨Nat.zero_le _, Nat.zero_le _⟩ dX4_pass_252 (fun H locs hH => ?_)
        refine lv_iinc (v := (nI n) + (-1)) (lv' := [(8, .int ((nI n) + (-1))), (7, .int r_2), (0, .ref (ea E 47)), (1, .int row), (3, .int (bz back)), (5, .int (nI len))]) hx hb dX4_pass_255 hl (k := 5) rfl rfl (by decide) rfl (fun ls hl => ?_)
        refine lv_goto (tgt := 219) hx hb dX4_pass_258 (by decide) ?_
        exact ih r_2 σ (backL (digN (len - (n + 1)) x % 10) n 5 0 s_3) H locs ls (by omega) hH (lv_sub hl [2, 3, 4, 5, 1, 0] rfl) (fun rf sf H locs ls e hH hl => hk rf sf H locs ls (by simpa only [unwL, e_4, if_neg c_5, if_neg c_6] using e) hH hl)
theorem okL_z (x len : Nat) : ∀ (n k : Nat), okL x len n k 0 = 0 := by
  intro n
  induction n with
  | zero => intro k; rfl
  | succ n ih => intro k; rw [okL, if_pos rfl]; exact ih (k + 1)
theorem okL_spec (x len : Nat) : ∀ (n k : Nat) (g : Int32), ¬ okL x len n k g = 0 → ∀ j, k ≤ j → j < k + n → digN (len - (j + 1)) x % 10 < 8 := by
  intro n
  induction n with
  | zero => intro k g h j h1 h2; omega
  | succ n ih =>
    intro k g h j h1 h2
    rw [okL] at h
    split at h
    · exact absurd (okL_z x len n (k + 1)) h
    · split at h
      · exact absurd (okL_z x len n (k + 1)) h
      · rename_i hc
        by_cases hj : j = k
        · subst hj
          have := mt (fq_ge (a := digN (len - (j + 1)) x % 10) (b := 8) (x := 8) rfl (by omega) (by omega)).mpr hc
          omega
        · exact ih (k + 1) 1 h j (by omega) (by omega)
def f_X4_pass (μ : St) (row : Int32) (worth : Int32) (back : Int32) : Int32 × St :=
  if (f_X4_in row 0 777777) = 0 then
    ((-1), (up μ 0 0 0))
  else
    if (f_X4_in worth 0 10000) = 0 then
      ((-1), (up μ 0 0 0))
    else
      if (okL (tn row) (digsN 5 (tn row) 1) (digsN 5 (tn row) 1) 0 1) = 0 then
        ((-1), (up μ 0 0 0))
      else
        match mainL (tn row) (digsN 5 (tn row) 1) worth (digsN 5 (tn row) 1) 0 0 (keepL 8 6 5 0 (up μ 0 0 0)) with
        | (h_12, f_13, s_14) =>
          match unwL (tn row) (digsN 5 (tn row) 1) back h_12 f_13 s_14 with
          | (r_17, s_18) =>
            if r_17 = 0 then
              (f_X4_told r_17 (nI (digsN 5 (tn row) 1)), s_18)
            else
              if (bz back) = 0 then
                (f_X4_told r_17 (nI (digsN 5 (tn row) 1)), s_18)
              else
                (f_X4_told r_17 (nI (digsN 5 (tn row) 1)), (backL 8 6 5 0 s_18))
set_option maxRecDepth 100000 in
set_option maxHeartbeats 4000000 in
theorem c_X4_pass (l : Launch) {E : EV} (hA : AD E) (σ μ : St) (row : Int32) (worth : Int32) (back : Int32) : Met l yX4_pass (.code yX4_pass cX4_pass 9 (some .int) :: gtbl) (rmL 3) (va_Pc [.ref (ea E 47), .int row, .int worth, .int (bz back)] (PR E σ μ)) (QI E (f_X4_pass μ row worth back).1 σ (f_X4_pass μ row worth back).2) 0 0 (eA E) := by
  refine x_met (own := RX4) (by decide) rfl hA (Nat.le_of_ble_eq_true rfl) ?_
  intro p e s m below meth c ls F hr hlk hH hl
  have hl : lv_has ls 9 [(0, .ref (ea E 47)), (1, .int row), (2, .int worth), (3, .int (bz back))] := hl
  have hx := F.hx
  have hb := F.hb
  refine lv_aload_n hx hb dX4_pass_0 rfl (lv_at hl 0 rfl) ?_
  refine lv_iconst (v := 0) hx hb dX4_pass_1 (by decide) ?_
  refine p_X4_thrown F hH kw_294 dX4_pass_2 (fun H locs hH => ?_)
  refine lv_iload_n hx hb dX4_pass_5 rfl (lv_at hl 1 rfl) ?_
  refine lv_iconst (v := 0) hx hb dX4_pass_6 (by decide) ?_
  refine lv_ldc (v := 777777) hx hb F.hown (F.hts _ kw_404) dX4_pass_7 ?_
  refine x_pure hx hb F.hml F.hown F.hts (c_X4_in l row 0 777777) cw_X4_33 rfl rfl ⟨Nat.le_of_ble_eq_true rfl, Nat.le_of_ble_eq_true rfl⟩ rfl hl.1 rfl (Nat.le_of_ble_eq_true rfl) ⟨Nat.zero_le _, Nat.zero_le _⟩ dX4_pass_9 ?_
  refine lv_if_eq (tgt := 30) hx hb dX4_pass_12 (by decide) (fun c_1 => ?_) (fun c_1 => ?_)
  · refine lv_iconst (v := 0) hx hb dX4_pass_30 (by decide) ?_
    refine lv_istore (lv' := [(4, .int 0), (0, .ref (ea E 47)), (1, .int row), (2, .int worth), (3, .int (bz back))]) hx hb dX4_pass_31 hl (by decide) rfl (fun ls hl => ?_)
    refine lv_iload hx hb dX4_pass_33 (lv_at hl 0 rfl) ?_
    refine lv_if_eq (tgt := 45) hx hb dX4_pass_35 (by decide) (fun _ => ?_) (fun c_2 => absurd (by decide) c_2)
    refine lv_iconst (v := 0) hx hb dX4_pass_45 (by decide) ?_
    refine lv_istore (lv' := [(5, .int 0), (4, .int 0), (0, .ref (ea E 47)), (1, .int row), (2, .int worth), (3, .int (bz back))]) hx hb dX4_pass_46 hl (by decide) rfl (fun ls hl => ?_)
    refine lv_iconst (v := 0) hx hb dX4_pass_48 (by decide) ?_
    refine lv_istore (lv' := [(6, .int 0), (5, .int 0), (4, .int 0), (0, .ref (ea E 47)), (1, .int row), (2, .int worth), (3, .int (bz back))]) hx hb dX4_pass_49 hl (by decide) rfl (fun ls hl => ?_)
    refine lv_iload hx hb dX4_pass_51 (lv_at hl 0 rfl) ?_
    refine lv_iload hx hb dX4_pass_53 (lv_at hl 1 rfl) ?_
    refine lv_icmp_ge (tgt := 89) hx hb dX4_pass_55 (by decide) (fun _ => ?_) (fun c_3 => absurd (by decide) c_3)
    refine lv_iload hx hb dX4_pass_89 (lv_at hl 2 rfl) ?_
    refine lv_if_ne (tgt := 96) hx hb dX4_pass_91 (by decide) (fun c_4 => absurd (by decide) c_4) (fun _ => ?_)
    refine lv_iconst (v := -1) hx hb dX4_pass_94 (by decide) ?_
    exact x_iretM F hr hlk hH (by simp only [f_X4_pass, if_pos c_1]) dX4_pass_95
  · have q_5 := X4_in_n (M := 777777) rfl (by decide) c_1
    have q_5b := q_5.2
    refine lv_iload_n hx hb dX4_pass_15 rfl (lv_at hl 2 rfl) ?_
    refine lv_iconst (v := 0) hx hb dX4_pass_16 (by decide) ?_
    refine lv_sipush (v := 10000) hx hb dX4_pass_17 (by decide) ?_
    refine x_pure hx hb F.hml F.hown F.hts (c_X4_in l worth 0 10000) cw_X4_33 rfl rfl ⟨Nat.le_of_ble_eq_true rfl, Nat.le_of_ble_eq_true rfl⟩ rfl hl.1 rfl (Nat.le_of_ble_eq_true rfl) ⟨Nat.zero_le _, Nat.zero_le _⟩ dX4_pass_20 ?_
    refine lv_if_eq (tgt := 30) hx hb dX4_pass_23 (by decide) (fun c_6 => ?_) (fun c_6 => ?_)
    · refine lv_iconst (v := 0) hx hb dX4_pass_30 (by decide) ?_
      refine lv_istore (lv' := [(4, .int 0), (0, .ref (ea E 47)), (1, .int row), (2, .int worth), (3, .int (bz back))]) hx hb dX4_pass_31 hl (by decide) rfl (fun ls hl => ?_)
      refine lv_iload hx hb dX4_pass_33 (lv_at hl 0 rfl) ?_
      refine lv_if_eq (tgt := 45) hx hb dX4_pass_35 (by decide) (fun _ => ?_) (fun c_7 => absurd (by decide) c_7)
      refine lv_iconst (v := 0) hx hb dX4_pass_45 (by decide) ?_
      refine lv_istore (lv' := [(5, .int 0), (4, .int 0), (0, .ref (ea E 47)), (1, .int row), (2, .int worth), (3, .int (bz back))]) hx hb dX4_pass_46 hl (by decide) rfl (fun ls hl => ?_)
      refine lv_iconst (v := 0) hx hb dX4_pass_48 (by decide) ?_
      refine lv_istore (lv' := [(6, .int 0), (5, .int 0), (4, .int 0), (0, .ref (ea E 47)), (1, .int row), (2, .int worth), (3, .int (bz back))]) hx hb dX4_pass_49 hl (by decide) rfl (fun ls hl => ?_)
      refine lv_iload hx hb dX4_pass_51 (lv_at hl 0 rfl) ?_
      refine lv_iload hx hb dX4_pass_53 (lv_at hl 1 rfl) ?_
      refine lv_icmp_ge (tgt := 89) hx hb dX4_pass_55 (by decide) (fun _ => ?_) (fun c_8 => absurd (by decide) c_8)
      refine lv_iload hx hb dX4_pass_89 (lv_at hl 2 rfl) ?_
      refine lv_if_ne (tgt := 96) hx hb dX4_pass_91 (by decide) (fun c_9 => absurd (by decide) c_9) (fun _ => ?_)
      refine lv_iconst (v := -1) hx hb dX4_pass_94 (by decide) ?_
      exact x_iretM F hr hlk hH (by simp only [f_X4_pass, if_neg c_1, if_pos c_6]) dX4_pass_95
    · refine lv_iconst (v := 1) hx hb dX4_pass_26 (by decide) ?_
      refine lv_goto (tgt := 31) hx hb dX4_pass_27 (by decide) ?_
      refine lv_istore (lv' := [(4, .int 1), (0, .ref (ea E 47)), (1, .int row), (2, .int worth), (3, .int (bz back))]) hx hb dX4_pass_31 hl (by decide) rfl (fun ls hl => ?_)
      refine lv_iload hx hb dX4_pass_33 (lv_at hl 0 rfl) ?_
      refine lv_if_eq (tgt := 45) hx hb dX4_pass_35 (by decide) (fun c_10 => absurd c_10 (by decide)) (fun _ => ?_)
      refine lv_iload_n hx hb dX4_pass_38 rfl (lv_at hl 2 rfl) ?_
      refine x_top q_5.1 ?_
      refine x_pure hx hb F.hml F.hown F.hts (c_X4_digits l (tn row) (by omega)) cw_X4_93 rfl rfl ⟨Nat.le_of_ble_eq_true rfl, Nat.le_of_ble_eq_true rfl⟩ rfl hl.1 rfl (Nat.le_of_ble_eq_true rfl) ⟨Nat.zero_le _, Nat.zero_le _⟩ dX4_pass_39 ?_
      refine lv_goto (tgt := 46) hx hb dX4_pass_42 (by decide) ?_
      refine lv_istore (lv' := [(5, .int (nI (digsN 5 (tn row) 1))), (4, .int 1), (0, .ref (ea E 47)), (1, .int row), (2, .int worth), (3, .int (bz back))]) hx hb dX4_pass_46 hl (by decide) rfl (fun ls hl => ?_)
      refine lv_iconst (v := 0) hx hb dX4_pass_48 (by decide) ?_
      refine lv_istore (lv' := [(6, .int 0), (5, .int (nI (digsN 5 (tn row) 1))), (4, .int 1), (0, .ref (ea E 47)), (1, .int row), (2, .int worth), (3, .int (bz back))]) hx hb dX4_pass_49 hl (by decide) rfl (fun ls hl => ?_)
      have hdl := digsN_le 5 (tn row) 1
      refine lp_X4_passA F row worth back (tn row) (digsN 5 (tn row) 1) q_5.1 (by omega) (by omega) (digsN 5 (tn row) 1) 0 1 σ (up μ 0 0 0) _ _ ls (by omega) hH (lv_sub hl [3, 4, 5, 6, 1, 2, 0] rfl) (fun H locs ls hH hl => ?_)
      refine lv_iload hx hb dX4_pass_89 (lv_at hl 5 rfl) ?_
      refine lv_if_ne (tgt := 96) hx hb dX4_pass_91 (by decide) (fun c_11 => ?_) (fun c_11 => ?_)
      · have hdig : ∀ k, k < (digsN 5 (tn row) 1) → digN ((digsN 5 (tn row) 1) - (k + 1)) (tn row) % 10 < 8 := fun k hk => okL_spec (tn row) (digsN 5 (tn row) 1) (digsN 5 (tn row) 1) 0 1 c_11 k (Nat.zero_le _) (by omega)
        refine lv_aload_n hx hb dX4_pass_96 rfl (lv_at hl 0 rfl) ?_
        refine lv_bipush (v := 8) hx hb dX4_pass_97 (by decide) ?_
        refine lv_bipush (v := 6) hx hb dX4_pass_99 (by decide) ?_
        refine x_callv F hH 47 (F.lt (by omega)) (vv4 0) rfl (c_X4_keep l F.ad σ (up μ 0 0 0) 8 6 (by omega) (by omega)) cw_X4_100 rfl rfl ⟨Nat.le_of_ble_eq_true rfl, Nat.le_of_ble_eq_true rfl⟩ rfl hl.1 rfl (Nat.le_of_ble_eq_true rfl) ⟨Nat.zero_le _, Nat.zero_le _⟩ dX4_pass_101 (fun H locs hH => ?_)
        refine lv_iconst (v := 0) hx hb dX4_pass_104 (by decide) ?_
        refine lv_istore (lv' := [(6, .int 0), (0, .ref (ea E 47)), (1, .int row), (2, .int worth), (3, .int (bz back)), (5, .int (nI (digsN 5 (tn row) 1))), (4, .int (okL (tn row) (digsN 5 (tn row) 1) (digsN 5 (tn row) 1) 0 1))]) hx hb dX4_pass_105 hl (by decide) rfl (fun ls hl => ?_)
        refine lv_iconst (v := 0) hx hb dX4_pass_107 (by decide) ?_
        refine lv_istore (lv' := [(7, .int 0), (6, .int 0), (0, .ref (ea E 47)), (1, .int row), (2, .int worth), (3, .int (bz back)), (5, .int (nI (digsN 5 (tn row) 1))), (4, .int (okL (tn row) (digsN 5 (tn row) 1) (digsN 5 (tn row) 1) 0 1))]) hx hb dX4_pass_108 hl (by decide) rfl (fun ls hl => ?_)
        refine lp_X4_passB F row worth back (tn row) (digsN 5 (tn row) 1) q_5.1 (by omega) (by omega) hdig (digsN 5 (tn row) 1) 0 0 σ (keepL 8 6 5 0 (up μ 0 0 0)) _ _ ls ⟨(by omega), (fun _ => by omega)⟩ hH (lv_sub hl [2, 3, 4, 5, 6, 1, 0] rfl) (fun h_12 f_13 s_14 H locs ls e_15 q_16 hH hl => ?_)
        refine lv_iload hx hb dX4_pass_213 (lv_at hl 5 rfl) ?_
        refine lv_iconst (v := 1) hx hb dX4_pass_215 (by decide) ?_
        refine lv_isub hx hb dX4_pass_216 ?_
        refine x_top (nI_sub1 h_12) ?_
        refine lv_istore (lv' := [(8, .int (nI h_12 + (-1))), (0, .ref (ea E 47)), (1, .int row), (2, .int worth), (3, .int (bz back)), (5, .int (nI (digsN 5 (tn row) 1))), (6, .int (nI h_12)), (7, .int f_13)]) hx hb dX4_pass_217 hl (by decide) rfl (fun ls hl => ?_)
        refine lp_X4_passC F row back (tn row) (digsN 5 (tn row) 1) q_5.1 (by omega) (by omega) hdig h_12 f_13 σ s_14 _ _ ls (by omega) hH (lv_sub hl [1, 2, 4, 5, 7, 0] rfl) (fun r_17 s_18 H locs ls e_19 hH hl => ?_)
        refine lv_iload hx hb dX4_pass_261 (lv_at hl 4 rfl) ?_
        refine lv_if_eq (tgt := 278) hx hb dX4_pass_263 (by decide) (fun c_20 => ?_) (fun c_20 => ?_)
        · refine lv_iload hx hb dX4_pass_278 (lv_at hl 4 rfl) ?_
          refine lv_iload hx hb dX4_pass_280 (lv_at hl 3 rfl) ?_
          refine x_pure hx hb F.hml F.hown F.hts (c_X4_told l r_17 (nI (digsN 5 (tn row) 1))) cw_X4_79 rfl rfl ⟨Nat.le_of_ble_eq_true rfl, Nat.le_of_ble_eq_true rfl⟩ rfl hl.1 rfl (Nat.le_of_ble_eq_true rfl) ⟨Nat.zero_le _, Nat.zero_le _⟩ dX4_pass_282 ?_
          exact x_iretM F hr hlk hH (by simp only [f_X4_pass, if_neg c_1, if_neg c_6, if_neg c_11, e_15, e_19, if_pos c_20]) dX4_pass_285
        · refine lv_iload_n hx hb dX4_pass_266 rfl (lv_at hl 2 rfl) ?_
          refine lv_if_eq (tgt := 278) hx hb dX4_pass_267 (by decide) (fun c_21 => ?_) (fun c_21 => ?_)
          · refine lv_iload hx hb dX4_pass_278 (lv_at hl 4 rfl) ?_
            refine lv_iload hx hb dX4_pass_280 (lv_at hl 3 rfl) ?_
            refine x_pure hx hb F.hml F.hown F.hts (c_X4_told l r_17 (nI (digsN 5 (tn row) 1))) cw_X4_79 rfl rfl ⟨Nat.le_of_ble_eq_true rfl, Nat.le_of_ble_eq_true rfl⟩ rfl hl.1 rfl (Nat.le_of_ble_eq_true rfl) ⟨Nat.zero_le _, Nat.zero_le _⟩ dX4_pass_282 ?_
            exact x_iretM F hr hlk hH (by simp only [f_X4_pass, if_neg c_1, if_neg c_6, if_neg c_11, e_15, e_19, if_neg c_20, if_pos c_21]) dX4_pass_285
          · refine lv_aload_n hx hb dX4_pass_270 rfl (lv_at hl 0 rfl) ?_
            refine lv_bipush (v := 8) hx hb dX4_pass_271 (by decide) ?_
            refine lv_bipush (v := 6) hx hb dX4_pass_273 (by decide) ?_
            refine x_callv F hH 47 (F.lt (by omega)) (vv4 0) rfl (c_X4_putBack l F.ad σ s_18 8 6 (by omega) (by omega)) cw_X4_104 rfl rfl ⟨Nat.le_of_ble_eq_true rfl, Nat.le_of_ble_eq_true rfl⟩ rfl hl.1 rfl (Nat.le_of_ble_eq_true rfl) ⟨Nat.zero_le _, Nat.zero_le _⟩ dX4_pass_275 (fun H locs hH => ?_)
            refine lv_iload hx hb dX4_pass_278 (lv_at hl 4 rfl) ?_
            refine lv_iload hx hb dX4_pass_280 (lv_at hl 3 rfl) ?_
            refine x_pure hx hb F.hml F.hown F.hts (c_X4_told l r_17 (nI (digsN 5 (tn row) 1))) cw_X4_79 rfl rfl ⟨Nat.le_of_ble_eq_true rfl, Nat.le_of_ble_eq_true rfl⟩ rfl hl.1 rfl (Nat.le_of_ble_eq_true rfl) ⟨Nat.zero_le _, Nat.zero_le _⟩ dX4_pass_282 ?_
            exact x_iretM F hr hlk hH (by simp only [f_X4_pass, if_neg c_1, if_neg c_6, if_neg c_11, e_15, e_19, if_neg c_20, if_neg c_21]) dX4_pass_285
      · refine lv_iconst (v := -1) hx hb dX4_pass_94 (by decide) ?_
        exact x_iretM F hr hlk hH (by simp only [f_X4_pass, if_neg c_1, if_neg c_6, if_pos c_11]) dX4_pass_95
end
section
def ext (E : EV) (q : Nat) : EV := (eD E, (fun i => if i = 54 then q else ea E i), ek E, 55, eA E, ez E)
def z7 (μ : St) : St := fun r k => if r = 7 then 0 else μ r k
theorem ext_a {E : EV} {q i : Nat} (h : i ≠ 54) : ea (ext E q) i = ea E i := if_neg h
theorem ext_54 {E : EV} {q : Nat} : ea (ext E q) 54 = q := rfl
theorem ext_v4 {E : EV} {q : Nat} {μ : St} {i : Nat} : v4 (ext E q) μ i = v4 E μ i := by
  match i with
  | 0 => rfl
  | 1 => rfl
  | 2 => rfl
  | 3 => rfl
  | 4 => rfl
  | 5 => rfl
  | 6 => rfl
  | 7 => rfl
  | _ + 8 => rfl
theorem ext_v0 {E : EV} {q : Nat} {σ : St} {i : Nat} (h : i < 5) : v0 (ext E q) σ i = v0 E σ i := by
  match i, h with
  | 0, _ => rfl
  | 1, _ =>
    show (Sum.inl (ek E 2, 8, .inr (.inr (.inr (.inr (fun t => if t < 8 then some (ea (ext E q) (5 + t)) else none))))) : va_E) = Sum.inl (ek E 2, 8, .inr (.inr (.inr (.inr (fun t => if t < 8 then some (ea E (5 + t)) else none)))))
    have : (fun t => if t < 8 then some (ea (ext E q) (5 + t)) else none) = (fun t => if t < 8 then some (ea E (5 + t)) else none) := by
      funext t
      by_cases ht : t < 8
      · rw [if_pos ht, if_pos ht, ext_a (by omega)]
      · rw [if_neg ht, if_neg ht]
    rw [this]
  | 2, _ => rfl
  | 3, _ =>
    show (Sum.inl (ek E 3, 6, .inr (.inr (.inr (.inr (fun t => if t < 6 then some (ea (ext E q) (24 + t)) else none))))) : va_E) = Sum.inl (ek E 3, 6, .inr (.inr (.inr (.inr (fun t => if t < 6 then some (ea E (24 + t)) else none)))))
    have : (fun t => if t < 6 then some (ea (ext E q) (24 + t)) else none) = (fun t => if t < 6 then some (ea E (24 + t)) else none) := by
      funext t
      by_cases ht : t < 6
      · rw [if_pos ht, if_pos ht, ext_a (by omega)]
      · rw [if_neg ht, if_neg ht]
    rw [this]
  | 4, _ => rfl
theorem ext_vv {E : EV} {q : Nat} {σ μ : St} (i : Nat) (hi : i < 54) : vv (ext E q) σ μ i = vv E σ μ i := by
  by_cases h : i < 5
  · rw [vv0 h, vv0 h, ext_v0 h]
  · by_cases hb : i < 13
    · obtain ⟨t, rfl⟩ : ∃ t, i = 5 + t := ⟨i - 5, by omega⟩
      rw [vv1 (by omega), vv1 (by omega), v1, v1, ext_a (by omega)]
    · by_cases hc : i < 30
      · obtain ⟨t, rfl⟩ : ∃ t, i = 13 + t := ⟨i - 13, by omega⟩
        rw [vv2 (by omega), vv2 (by omega), v2, v2, ext_a (by omega)]
      · by_cases hd : i < 47
        · obtain ⟨t, rfl⟩ : ∃ t, i = 30 + t := ⟨i - 30, by omega⟩
          rw [vv3 (by omega), vv3 (by omega)]
          rfl
        · obtain ⟨t, rfl⟩ : ∃ t, i = 47 + t := ⟨i - 47, by omega⟩
          rw [vv4, vv4, ext_v4]
theorem z7_vv {E : EV} {σ μ : St} (i : Nat) (hi : i < 54) : vv E σ (z7 μ) i = vv E σ μ i := by
  refine vv_ne (fun _ => rfl) (fun _ => rfl) (fun _ _ _ => ⟨rfl, rfl, rfl⟩) (fun _ _ _ => rfl) (fun r e => ?_)
  have hr : r < 7 := by omega
  match r, hr with
  | 0, _ => rfl
  | 1, _ => rfl
  | 2, _ => rfl
  | 3, _ => rfl
  | 4, _ => rfl
  | 5, _ => rfl
  | 6, _ => rfl
theorem ext_back {E : EV} (h54 : en E = 54) {q : Nat} {σ μ : St} {H : Heap} (h : WD (ext E q) σ μ H) : WD E σ μ H := by
  intro k x hk
  obtain ⟨h1, rfl⟩ := cells_of hk
  rw [h54] at h1
  have h2 := h k (ea (ext E q) k, vv (ext E q) σ μ k) (cells_at (show k < 55 by omega) rfl)
  rw [ext_a (by omega), ext_vv k h1] at h2
  exact h2
theorem x_new54 {p : Program} {l : Launch} {e : Env} {R : Room} {s : State} {m : MethodId} {args : Array Value} {below : List Frame} {meth : Method} {c : Code} {H : Heap} {locs : List Loc} {nc ns : Nat} {Q : State → Prop} {cc : ByteArray} {pc : Nat} {ls : Array Slot} {rest : List Value} {E : EV} {own : String} {nL : Nat} {σ μ : St}
    (F : Fx E p s m args c cc own nL) (h54 : en E = 54) (hH : HS E s σ μ H locs) (hcells : nc + 1 ≤ R.cells) (hslots : ns + 5 ≤ R.slots) (harr : Cond.arrayClass .int ∈ gtbl) (hdg : decode cc pc = .ok (.newarray .int, 2))
    (kk : ∀ (E1 : EV) (H1 : Heap), ea E1 47 = ea E 47 → 54 < en E1 → eA E1 = eA E → (∀ (σ μ : St) (H : Heap), WD E1 σ μ H → WD E σ μ H) → Fx E1 p s m args c cc own nL → HS E1 s σ (z7 μ) H1 locs → W p l e R s m args below meth c H1 locs (nc + 1) (ns + 5) Q (F0 m (pc + 2) ls (.ref (ea E1 (47 + 7)) :: rest))) :
    W p l e R s m args below meth c H locs nc ns Q (F0 m pc ls (.int 5 :: rest)) := by
  refine va_newa (atype := .int) (D := eD E) (cl := vwCl) (ty := .int) (a0 := (5, .inl (fun _ => 0))) F.hx F.hb (F.hts _ harr) rfl F.hK hH.1 (F.ad.d σ μ) hH.2 F.hA (fun cA => rfl) (by decide) (by decide) (by decide) hcells hslots hdg (fun q cA H1 hK1 hP1 hD1 hS1 => ?_)
  have hcA : cA = ek E 0 := by
    have h1 := (hK1.2 4 (cA, .int) rfl).2
    have h2 := (hK1.2 0 (ek E 0, .int) rfl).2
    exact Option.some.inj (h1.symm.trans h2)
  subst hcA
  have hlen : (cells E σ μ).length = 54 := by simp [cells, h54]
  have hat1 : ∀ i, i < 54 → (cells E σ μ ++ [(q, (.inl (ek E 0, (5, .inl (fun _ => 0))) : va_E))])[i]? = some (ea E i, vv E σ μ i) := fun i hi => by
    rw [List.getElem?_append_left (by omega)]
    exact cells_at (by omega) rfl
  have hat2 : (cells E σ μ ++ [(q, (.inl (ek E 0, (5, .inl (fun _ => 0))) : va_E))])[54]? = some (q, .inl (ek E 0, (5, .inl (fun _ => 0)))) := by
    rw [List.getElem?_append_right (by omega), hlen]
    rfl
  have hat : ∀ i, i < 55 → ∃ x : va_E, (cells E σ μ ++ [(q, (.inl (ek E 0, (5, .inl (fun _ => 0))) : va_E))])[i]? = some (ea (ext E q) i, x) := fun i hi => by
    by_cases h : i = 54
    · subst h; exact ⟨_, hat2⟩
    · refine ⟨vv E σ μ i, ?_⟩
      rw [ext_a h]
      exact hat1 i (by omega)
  refine kk (ext E q) H1 rfl (show 54 < 55 by decide) rfl (fun σ μ H h => ext_back h54 h) ⟨F.hx, F.hb, F.hml, F.hown, F.hts, F.ks, F.sz, ⟨fun i j hi hj e => ?_, fun i hi => ?_, show 54 ≤ 55 by decide⟩, F.hA⟩ ⟨fun k x hk => ?_, hS1⟩
  · obtain ⟨x1, h1⟩ := hat i hi
    obtain ⟨x2, h2⟩ := hat j hj
    exact hD1.1 i j _ _ h1 h2 e
  · obtain ⟨x1, h1⟩ := hat i hi
    exact hD1.2 i _ h1
  · obtain ⟨h1, rfl⟩ := cells_of hk
    have h1 : k < 55 := h1
    by_cases h : k = 54
    · subst h
      have h2 := hP1 54 _ hat2
      have h3 : vv (ext E q) σ (z7 μ) 54 = .inl (ek E 0, (5, .inl (fun _ => 0))) := by
        rw [show (54 : Nat) = 47 + 7 from rfl, vv4]
        rfl
      rw [h3]
      exact h2
    · have h2 := hP1 k _ (hat1 k (by omega))
      rw [ext_a h, ext_vv k (by omega), z7_vv k (by omega)]
      exact h2
theorem x_iret54 {p : Program} {l : Launch} {e : Env} {R : Room} {s : State} {m : MethodId} {args : Array Value} {below : List Frame} {meth : Method} {c : Code} {H : Heap} {locs : List Loc} {nc ns : Nat} {cc : ByteArray} {pc : Nat} {ls : Array Slot} {E E1 : EV} {own : String} {nL : Nat} {σ μ : St}
    (F : Fx E1 p s m args c cc own nL) (hAA : eA E1 = eA E) (hbk : ∀ (σ μ : St) (H : Heap), WD E1 σ μ H → WD E σ μ H) (hr : meth.sig.returnType = some .int) (hlk : meth.locks = false) (hH : HS E1 s σ μ H locs) {v : Int32} {P : Int32 × St} (hP : P = (v, μ)) (hdg : decode cc pc = .ok (.ireturn, 1)) : W p l e R s m args below meth c H locs nc ns (MQ below (QI E P.1 σ P.2) args s nc ns (eA E)) (F0 m pc ls [.int v]) := by
  subst hP
  have hS := hH.2
  rw [hAA] at hS
  exact W.iret (v := v) F.hx F.hb hr (fun t ht hW => ⟨⟨v, (), rfl, rfl, by subst ht; exact hbk _ _ _ hH.1⟩, hS.F ht⟩) hS.2.2 hdg
def f_X4_put (μ : St) (t kind n : Int32) : Int32 × St :=
  if (f_X4_isTill t) = 0 then
    ((-1), (up μ 0 0 0))
  else
    if (f_X4_in kind 0 4) = 0 then
      ((-1), (up μ 0 0 0))
    else
      if (f_X4_in n 0 200) = 0 then
        ((-1), (up μ 0 0 0))
      else
        match f_X4_hold (up μ 0 0 0) (tn t) with
        | (r_6, s_7) =>
          if r_6 = 0 then
            match f_X4_lay (up (z7 (up s_7 4 (40 + (tn kind)) ((s_7 4 (40 + (tn kind))) + n))) 7 (tn kind) n) (tn t) 7 with
            | (r_10, s_11) =>
              match f_X4_leave s_11 r_10 with
              | (r_13, s_14) =>
                (f_X4_told r_13 (sumL (rowM s_14 (tn t)) 5 0 0), s_14)
          else
            (f_X4_told r_6 0, s_7)
set_option maxRecDepth 100000 in
set_option maxHeartbeats 4000000 in
theorem c_X4_put (l : Launch) {E : EV} (hA : AD E) (h54 : en E = 54) (σ μ : St) (t kind n : Int32) : Met l yX4_put (.code yX4_put cX4_put 6 (some .int) :: gtbl) (rmC 2 1 5) (va_Pc [.ref (ea E 47), .int t, .int kind, .int n] (PR E σ μ)) (QI E (f_X4_put μ t kind n).1 σ (f_X4_put μ t kind n).2) 1 5 (eA E) := by
  refine x_met (own := RX4) (by decide) rfl hA (Nat.le_of_ble_eq_true rfl) ?_
  intro p e s m below meth c ls F hr hlk hH hl
  have hl : lv_has ls 6 [(0, .ref (ea E 47)), (1, .int t), (2, .int kind), (3, .int n)] := hl
  have hx := F.hx
  have hb := F.hb
  refine lv_aload_n hx hb dX4_put_0 rfl (lv_at hl 0 rfl) ?_
  refine lv_iconst (v := 0) hx hb dX4_put_1 (by decide) ?_
  refine p_X4_thrown F hH kw_294 dX4_put_2 (fun H locs hH => ?_)
  refine lv_iload_n hx hb dX4_put_5 rfl (lv_at hl 1 rfl) ?_
  refine x_pure hx hb F.hml F.hown F.hts (c_X4_isTill l t) cw_X4_68 rfl rfl ⟨Nat.le_of_ble_eq_true rfl, Nat.le_of_ble_eq_true rfl⟩ rfl hl.1 rfl (Nat.le_of_ble_eq_true rfl) ⟨Nat.zero_le _, Nat.zero_le _⟩ dX4_put_6 ?_
  refine lv_if_eq (tgt := 32) hx hb dX4_put_9 (by decide) (fun c_1 => ?_) (fun c_1 => ?_)
  · refine lv_iconst (v := -1) hx hb dX4_put_32 (by decide) ?_
    refine W.widen (k := 1) (n := 5) (by omega) (by omega) ?_
    exact x_iretM F hr hlk hH (by simp only [f_X4_put, if_pos c_1]) dX4_put_33
  · have q_2 := X4_isTill_n c_1
    have q_2b := q_2.2
    refine lv_iload_n hx hb dX4_put_12 rfl (lv_at hl 2 rfl) ?_
    refine lv_iconst (v := 0) hx hb dX4_put_13 (by decide) ?_
    refine lv_iconst (v := 4) hx hb dX4_put_14 (by decide) ?_
    refine x_pure hx hb F.hml F.hown F.hts (c_X4_in l kind 0 4) cw_X4_33 rfl rfl ⟨Nat.le_of_ble_eq_true rfl, Nat.le_of_ble_eq_true rfl⟩ rfl hl.1 rfl (Nat.le_of_ble_eq_true rfl) ⟨Nat.zero_le _, Nat.zero_le _⟩ dX4_put_15 ?_
    refine lv_if_eq (tgt := 32) hx hb dX4_put_18 (by decide) (fun c_3 => ?_) (fun c_3 => ?_)
    · refine lv_iconst (v := -1) hx hb dX4_put_32 (by decide) ?_
      refine W.widen (k := 1) (n := 5) (by omega) (by omega) ?_
      exact x_iretM F hr hlk hH (by simp only [f_X4_put, if_neg c_1, if_pos c_3]) dX4_put_33
    · have q_4 := X4_in_n (M := 4) rfl (by decide) c_3
      have q_4b := q_4.2
      refine lv_iload_n hx hb dX4_put_21 rfl (lv_at hl 3 rfl) ?_
      refine lv_iconst (v := 0) hx hb dX4_put_22 (by decide) ?_
      refine lv_sipush (v := 200) hx hb dX4_put_23 (by decide) ?_
      refine x_pure hx hb F.hml F.hown F.hts (c_X4_in l n 0 200) cw_X4_33 rfl rfl ⟨Nat.le_of_ble_eq_true rfl, Nat.le_of_ble_eq_true rfl⟩ rfl hl.1 rfl (Nat.le_of_ble_eq_true rfl) ⟨Nat.zero_le _, Nat.zero_le _⟩ dX4_put_26 ?_
      refine lv_if_ne (tgt := 34) hx hb dX4_put_29 (by decide) (fun c_5 => ?_) (fun c_5 => ?_)
      · refine lv_aload_n hx hb dX4_put_34 rfl (lv_at hl 0 rfl) ?_
        refine lv_iload_n hx hb dX4_put_35 rfl (lv_at hl 1 rfl) ?_
        refine x_top q_2.1 ?_
        refine x_calliM F hH 47 (F.lt (by omega)) (vv4 0) rfl (c_X4_hold l F.ad σ (up μ 0 0 0) (tn t) (by omega)) cw_X4_76 rfl rfl ⟨Nat.le_of_ble_eq_true rfl, Nat.le_of_ble_eq_true rfl⟩ rfl hl.1 rfl (Nat.le_of_ble_eq_true rfl) ⟨Nat.zero_le _, Nat.zero_le _⟩ dX4_put_36 (fun r_6 s_7 H locs e_8 hH => ?_)
        refine lv_istore (lv' := [(4, .int r_6), (0, .ref (ea E 47)), (1, .int t), (2, .int kind), (3, .int n)]) hx hb dX4_put_39 hl (by decide) rfl (fun ls hl => ?_)
        refine lv_iload hx hb dX4_put_41 (lv_at hl 0 rfl) ?_
        refine lv_if_eq (tgt := 53) hx hb dX4_put_43 (by decide) (fun c_9 => ?_) (fun c_9 => ?_)
        · refine lv_aload_n hx hb dX4_put_53 rfl (lv_at hl 1 rfl) ?_
          refine g_X4_coins F hH kw_298 dX4_put_54 ?_
          refine lv_bipush (v := 40) hx hb dX4_put_57 (by decide) ?_
          refine lv_iload_n hx hb dX4_put_59 rfl (lv_at hl 3 rfl) ?_
          refine x_top q_4.1 ?_
          refine lv_iadd hx hb dX4_put_60 ?_
          refine x_top (nI_add 40 (tn kind)) ?_
          refine lv_dup2_11 hx hb dX4_put_61 rfl rfl ?_
          refine a_mco F hH (40 + (tn kind)) (by omega) dX4_put_62 ?_
          refine lv_iload_n hx hb dX4_put_63 rfl (lv_at hl 4 rfl) ?_
          refine lv_iadd hx hb dX4_put_64 ?_
          refine s_mco F hH (40 + (tn kind)) (by omega) dX4_put_65 (fun H locs hH => ?_)
          refine lv_iconst (v := 5) hx hb dX4_put_66 (by decide) ?_
          refine x_new54 F h54 hH (Nat.le_of_ble_eq_true rfl) (Nat.le_of_ble_eq_true rfl) kw_56 dX4_put_67 (fun E1 H h47 h55 hAA hbk F hH => ?_)
          rw [← h47] at hl
          refine lv_astore (lv' := [(5, .ref (ea E1 (47 + 7))), (4, .int r_6), (0, .ref (ea E1 47)), (1, .int t), (2, .int kind), (3, .int n)]) hx hb dX4_put_69 hl (by decide) rfl (fun ls hl => ?_)
          refine lv_aload hx hb dX4_put_71 (lv_at hl 0 rfl) ?_
          refine lv_iload_n hx hb dX4_put_73 rfl (lv_at hl 4 rfl) ?_
          refine x_top q_4.1 ?_
          refine lv_iload_n hx hb dX4_put_74 rfl (lv_at hl 5 rfl) ?_
          refine s_mtm F hH h55 (tn kind) (by omega) dX4_put_75 (fun H locs hH => ?_)
          refine lv_aload_n hx hb dX4_put_76 rfl (lv_at hl 2 rfl) ?_
          refine lv_aload_n hx hb dX4_put_77 rfl (lv_at hl 2 rfl) ?_
          refine lv_iload_n hx hb dX4_put_78 rfl (lv_at hl 3 rfl) ?_
          refine x_top q_2.1 ?_
          refine lv_aload hx hb dX4_put_79 (lv_at hl 0 rfl) ?_
          refine x_calliM F hH 47 (F.lt (by omega)) (vv4 0) rfl (c_X4_lay l F.ad σ (up (z7 (up s_7 4 (40 + (tn kind)) ((s_7 4 (40 + (tn kind))) + n))) 7 (tn kind) n) (tn t) 7 (by omega) (by omega)) cw_X4_85 rfl rfl ⟨Nat.le_of_ble_eq_true rfl, Nat.le_of_ble_eq_true rfl⟩ rfl hl.1 rfl (Nat.le_of_ble_eq_true rfl) ⟨Nat.le_of_ble_eq_true rfl, Nat.le_of_ble_eq_true rfl⟩ dX4_put_81 (fun r_10 s_11 H locs e_12 hH => ?_)
          refine x_calliM F hH 47 (F.lt (by omega)) (vv4 0) rfl (c_X4_leave l F.ad σ s_11 r_10) cw_X4_82 rfl rfl ⟨Nat.le_of_ble_eq_true rfl, Nat.le_of_ble_eq_true rfl⟩ rfl hl.1 rfl (Nat.le_of_ble_eq_true rfl) ⟨Nat.le_of_ble_eq_true rfl, Nat.le_of_ble_eq_true rfl⟩ dX4_put_84 (fun r_13 s_14 H locs e_15 hH => ?_)
          refine lv_istore (lv' := [(4, .int r_13), (5, .ref (ea E1 (47 + 7))), (0, .ref (ea E1 47)), (1, .int t), (2, .int kind), (3, .int n)]) hx hb dX4_put_87 hl (by decide) rfl (fun ls hl => ?_)
          refine lv_iload hx hb dX4_put_89 (lv_at hl 0 rfl) ?_
          refine lv_aload_n hx hb dX4_put_91 rfl (lv_at hl 2 rfl) ?_
          refine lv_iload_n hx hb dX4_put_92 rfl (lv_at hl 3 rfl) ?_
          refine x_top q_2.1 ?_
          refine x_calliR F hH 47 (F.lt (by omega)) (vv4 0) rfl (c_X4_all l F.ad σ s_14 (tn t) (by omega)) cw_X4_61 rfl rfl ⟨Nat.le_of_ble_eq_true rfl, Nat.le_of_ble_eq_true rfl⟩ rfl hl.1 rfl (Nat.le_of_ble_eq_true rfl) ⟨Nat.le_of_ble_eq_true rfl, Nat.le_of_ble_eq_true rfl⟩ dX4_put_93 (fun H locs hH => ?_)
          refine x_pure hx hb F.hml F.hown F.hts (c_X4_told l r_13 (sumL (rowM s_14 (tn t)) 5 0 0)) cw_X4_79 rfl rfl ⟨Nat.le_of_ble_eq_true rfl, Nat.le_of_ble_eq_true rfl⟩ rfl hl.1 rfl (Nat.le_of_ble_eq_true rfl) ⟨Nat.le_of_ble_eq_true rfl, Nat.le_of_ble_eq_true rfl⟩ dX4_put_96 ?_
          exact x_iret54 F hAA hbk hr hlk hH (by simp only [f_X4_put, if_neg c_1, if_neg c_3, if_neg c_5, e_8, if_pos c_9, e_12, e_15]) dX4_put_99
        · refine lv_iload hx hb dX4_put_46 (lv_at hl 0 rfl) ?_
          refine lv_iconst (v := 0) hx hb dX4_put_48 (by decide) ?_
          refine x_pure hx hb F.hml F.hown F.hts (c_X4_told l r_6 0) cw_X4_79 rfl rfl ⟨Nat.le_of_ble_eq_true rfl, Nat.le_of_ble_eq_true rfl⟩ rfl hl.1 rfl (Nat.le_of_ble_eq_true rfl) ⟨Nat.zero_le _, Nat.zero_le _⟩ dX4_put_49 ?_
          refine W.widen (k := 1) (n := 5) (by omega) (by omega) ?_
          exact x_iretM F hr hlk hH (by simp only [f_X4_put, if_neg c_1, if_neg c_3, if_neg c_5, e_8, if_neg c_9]) dX4_put_52
      · refine lv_iconst (v := -1) hx hb dX4_put_32 (by decide) ?_
        refine W.widen (k := 1) (n := 5) (by omega) (by omega) ?_
        exact x_iretM F hr hlk hH (by simp only [f_X4_put, if_neg c_1, if_neg c_3, if_pos c_5]) dX4_put_33
end
section
/-! constructors -/
def NW (U : State) : Prop := va_Nw (.methodLinkNest RX3 15 yX2_init "TillHolds") U ∧ va_Nw (.methodLinkNest RX2 11 yX0_init "TillHolds") U ∧ va_Nw (.methodLinkNest RX3 18 yX0_init "TillHolds") U ∧ va_Nw (.methodLinkNest RX3 25 yX1_init "TillHolds") U ∧ va_AO "TillHolds$Till" U ∧ va_AO "TillHolds$Coins" U
theorem NW.warm {s U : State} (hW : s.WarmedH U.vm) (h : NW s) : NW U := ⟨va_Nw.warmM hW h.1, va_Nw.warmM hW h.2.1, va_Nw.warmM hW h.2.2.1, va_Nw.warmM hW h.2.2.2.1, va_AO.moved hW.alike h.2.2.2.2.1, va_AO.moved hW.alike h.2.2.2.2.2⟩
theorem NW.same {s U : State} (e : s.vm = U.vm) (h : NW s) : NW U := ⟨va_Nw.same rfl e h.1, va_Nw.same rfl e h.2.1, va_Nw.same rfl e h.2.2.1, va_Nw.same rfl e h.2.2.2.1, va_AO.moved (by rw [e]; exact Vm.Alike.refl U.vm) h.2.2.2.2.1, va_AO.moved (by rw [e]; exact Vm.Alike.refl U.vm) h.2.2.2.2.2⟩
def PI (D : va_G) (vs : List Value) (ws : va_W) (sz : Nat) : Array Value → State → Prop := va_Pc vs (fun U => U.heap.size = sz ∧ va_P D vwCl ws U.heap ∧ va_K D vwCl [] U ∧ va_D (fun _ => True) ws ∧ NW U)
theorem PI.blind {D : va_G} {vs : List Value} {ws : va_W} {sz : Nat} : FrameBlind (PI D vs ws sz) := fun a U g mk h => ⟨h.1, h.2.1, h.2.2.1, va_K.moved (u := U) (U := U.calling g mk a) (Vm.Alike.refl U.vm) h.2.2.2.1, h.2.2.2.2.1, NW.same (rfl : U.vm = (U.calling g mk a).vm) h.2.2.2.2.2⟩
theorem tys_eq {D : va_G} {U : State} {a b : List (ClassId × FieldType)} {c1 c2 : ClassId} {ty : FieldType} (h1 : va_K D vwCl a U) (h2 : va_K D vwCl b U) (i j : Nat) (hi : a[i]? = some (c1, ty)) (hj : b[j]? = some (c2, ty)) : c2 = c1 := by
  have g1 := (h1.2 i _ hi).2
  have g2 := (h2.2 j _ hj).2
  cases ty with
  | object C =>
    obtain ⟨_, _, _, _, _, e1⟩ := g1
    obtain ⟨_, _, _, _, _, e2⟩ := g2
    exact Option.some.inj (e2.symm.trans e1)
  | _ => exact Option.some.inj (g2.symm.trans g1)
set_option maxRecDepth 100000 in
set_option maxHeartbeats 8000000 in
theorem c_X0_init (l : Launch) (D : va_G) (h0 sz : Nat) : Met l yX0_init (.code yX0_init cX0_init 1 none :: gtbl) (rmC 1 1 5) (PI D [.ref h0] [(h0, .inr (0, [.null]))] sz) (va_Qv (S := Unit) (fun _ => True) (fun _ t => ∃ (q1 : Nat) (cA : ClassId), va_P D vwCl [(h0, .inr (0, [.ref q1])), (q1, .inl (cA, 5, .inl (fun _ => 0)))] t.heap ∧ va_K D vwCl [(cA, .int)] t ∧ va_D (va_A [(h0, .inr (0, [.null]))] sz) [(h0, .inr (0, [.ref q1])), (q1, .inl (cA, 5, .inl (fun _ => 0)))]) (va_A [(h0, .inr (0, [.null]))] sz)) 1 5 (va_A [(h0, .inr (0, [.null]))] sz) := by
  refine Met.ofW (cc := cX0_init) (maxL := 1) (ret := none) (by decide) rfl ?_
  intro p e s m args below meth c s₁ B hml hv
  obtain ⟨rfl, hsz, hP, hK, hD0, hNW⟩ := hv
  have hx := B.exec
  have hb := B.bytes
  have hr := B.returns
  have hts0 := atoms_spec (ws := .code yX0_init cX0_init 1 none :: gtbl) B.pre
  have hts : ∀ w ∈ gtbl, w.before #[Value.ref h0] s = true := fun w hw => hts0 w (List.mem_cons_of_mem _ hw)
  have hown : s.vm.findClass RX0 = some m.cls := findClass_of_methodNamed B.named
  have hlocks := B.notSynchronized
  have hin : meth.name = "<init>" := (name_of_methodNamed B.named B.method).1
  subst hsz
  have hD := hD0.self (sz := s.heap.size)
  generalize hAe : va_A [(h0, .inr (0, [.null]))] s.heap.size = A at hD ⊢
  have hA : ∀ q : Nat, s.heap.size ≤ q → A q := fun q h => by rw [← hAe]; exact Or.inr h
  have hS : va_S A s.heap s.heap [] := va_S.rf
  have hP : va_P D vwCl [(h0, .inr (0, [.null]))] s.heap := hP
  have hl := lv_entry ([.ref h0]) (n := 1) (Nat.le_of_ble_eq_true rfl)
  rw [lg_entry_eq]
  generalize (lg_sl ([.ref h0]) ++ List.replicate (1 - (lg_sl ([.ref h0])).length) Slot.unset).toArray = ls at hl ⊢
  have hl : lv_has ls 1 [(0, .ref h0)] := hl
  generalize hH0 : s.heap = H at hP hS ⊢
  have hS : va_S A s.heap H [] := by rw [hH0]; exact hS
  refine lv_aload_n hx hb dX0_init_0 rfl (lv_at hl 0 rfl) ?_
  refine W.objInit hx hb hown (hts _ kw_50) (hts _ kw_36) (hts _ kw_37) rfl (by rw [hml]; exact hl.1) rfl dX0_init_1 (Nat.le_of_ble_eq_true rfl) (Nat.le_of_ble_eq_true rfl) ?_
  refine W.eq (g2 := F0 m 4 ls []) rfl ?_
  refine lv_aload_n hx hb dX0_init_4 rfl (lv_at hl 0 rfl) ?_
  refine lv_iconst (v := 5) hx hb dX0_init_5 (by decide) ?_
  refine va_newa (atype := .int) (ty := .int) (a0 := (5, .inl (fun _ => 0))) hx hb (hts _ kw_56) rfl hK hP hD hS hA (fun cA => rfl) (by decide) (by decide) (by decide) (Nat.le_of_ble_eq_true rfl) (Nat.le_of_ble_eq_true rfl) dX0_init_6 (fun q1 cA1 H hK hP hD hS => ?_)
  have hP : va_P D vwCl [(h0, .inr (0, [.null])), (q1, .inl (cA1, 5, .inl (fun _ => 0)))] H := hP
  have hD : va_D A [(h0, .inr (0, [.null])), (q1, .inl (cA1, 5, .inl (fun _ => 0)))] := hD
  have hK : va_K D vwCl [(cA1, .int)] s := hK
  refine W.widen (k := 1) (n := 5) (by omega) (by omega) ?_
  refine va_putF (D := D) (ci := 0) (v := .ref q1) (ty := .array .int) (C := RX0) (T := TX0) (N := 1) hx hb hts gX0 tyX0 tyX0_ok nmX0 hown hK hP hD hS 0 rfl rfl 0 (by decide) (hts _ kw_51) (fun _ h9 => h9) rfl hin rfl (by decide +kernel) rfl rfl (Nat.le_of_ble_eq_true rfl) dX0_init_8 (fun H locs hP hD hS => ?_)
  have hP : va_P D vwCl [(h0, .inr (0, [.ref q1])), (q1, .inl (cA1, 5, .inl (fun _ => 0)))] H := hP
  have hD : va_D A [(h0, .inr (0, [.ref q1])), (q1, .inl (cA1, 5, .inl (fun _ => 0)))] := hD
  exact W.vret hx hb hr (fun t ht hW => ⟨⟨(), rfl, trivial, q1, cA1, by rw [ht]; exact hP, va_K.moved hW.alike hK, hD⟩, hS.F ht⟩) hS.2.2 dX0_init_11
set_option maxRecDepth 100000 in
set_option maxHeartbeats 8000000 in
theorem c_X1_init (l : Launch) (D : va_G) (h0 sz : Nat) : Met l yX1_init (.code yX1_init cX1_init 1 none :: gtbl) (rmC 1 0 0) (PI D [.ref h0] [(h0, .inr (1, [.int 0, .int 0, .int 0, .int 0]))] sz) (va_Qv (S := Unit) (fun _ => True) (fun _ t => va_P D vwCl [(h0, .inr (1, [.int 0, .int 0, .int 0, .int 0]))] t.heap ∧ va_K D vwCl [] t ∧ va_D (va_A [(h0, .inr (1, [.int 0, .int 0, .int 0, .int 0]))] sz) [(h0, .inr (1, [.int 0, .int 0, .int 0, .int 0]))]) (va_A [(h0, .inr (1, [.int 0, .int 0, .int 0, .int 0]))] sz)) 0 0 (va_A [(h0, .inr (1, [.int 0, .int 0, .int 0, .int 0]))] sz) := by
  refine Met.ofW (cc := cX1_init) (maxL := 1) (ret := none) (by decide) rfl ?_
  intro p e s m args below meth c s₁ B hml hv
  obtain ⟨rfl, hsz, hP, hK, hD0, hNW⟩ := hv
  have hx := B.exec
  have hb := B.bytes
  have hr := B.returns
  have hts0 := atoms_spec (ws := .code yX1_init cX1_init 1 none :: gtbl) B.pre
  have hts : ∀ w ∈ gtbl, w.before #[Value.ref h0] s = true := fun w hw => hts0 w (List.mem_cons_of_mem _ hw)
  have hown : s.vm.findClass RX1 = some m.cls := findClass_of_methodNamed B.named
  have hlocks := B.notSynchronized
  have hin : meth.name = "<init>" := (name_of_methodNamed B.named B.method).1
  subst hsz
  have hD := hD0.self (sz := s.heap.size)
  generalize hAe : va_A [(h0, .inr (1, [.int 0, .int 0, .int 0, .int 0]))] s.heap.size = A at hD ⊢
  have hA : ∀ q : Nat, s.heap.size ≤ q → A q := fun q h => by rw [← hAe]; exact Or.inr h
  have hS : va_S A s.heap s.heap [] := va_S.rf
  have hP : va_P D vwCl [(h0, .inr (1, [.int 0, .int 0, .int 0, .int 0]))] s.heap := hP
  have hl := lv_entry ([.ref h0]) (n := 1) (Nat.le_of_ble_eq_true rfl)
  rw [lg_entry_eq]
  generalize (lg_sl ([.ref h0]) ++ List.replicate (1 - (lg_sl ([.ref h0])).length) Slot.unset).toArray = ls at hl ⊢
  have hl : lv_has ls 1 [(0, .ref h0)] := hl
  generalize hH0 : s.heap = H at hP hS ⊢
  have hS : va_S A s.heap H [] := by rw [hH0]; exact hS
  refine lv_aload_n hx hb dX1_init_0 rfl (lv_at hl 0 rfl) ?_
  refine W.objInit hx hb hown (hts _ kw_80) (hts _ kw_36) (hts _ kw_37) rfl (by rw [hml]; exact hl.1) rfl dX1_init_1 (Nat.le_of_ble_eq_true rfl) (Nat.le_of_ble_eq_true rfl) ?_
  refine W.eq (g2 := F0 m 4 ls []) rfl ?_
  exact W.vret hx hb hr (fun t ht hW => ⟨⟨(), rfl, trivial, by rw [ht]; exact hP, va_K.moved hW.alike hK, hD⟩, hS.F ht⟩) hS.2.2 dX1_init_4
set_option maxRecDepth 100000 in
set_option maxHeartbeats 8000000 in
theorem c_X2_init (l : Launch) (D : va_G) (h0 sz : Nat) : Met l yX2_init (.code yX2_init cX2_init 1 none :: gtbl) (rmC 2 2 6) (PI D [.ref h0] [(h0, .inr (2, [.null, .int 0, .int 0, .int 0]))] sz) (va_Qv (S := Unit) (fun _ => True) (fun _ t => ∃ (q1 q2 : Nat) (cA : ClassId), va_P D vwCl [(h0, .inr (2, [.ref q1, .int 0, .int 0, .int 0])), (q1, .inr (0, [.ref q2])), (q2, .inl (cA, 5, .inl (fun _ => 0)))] t.heap ∧ va_K D vwCl [(cA, .int)] t ∧ va_D (va_A [(h0, .inr (2, [.null, .int 0, .int 0, .int 0]))] sz) [(h0, .inr (2, [.ref q1, .int 0, .int 0, .int 0])), (q1, .inr (0, [.ref q2])), (q2, .inl (cA, 5, .inl (fun _ => 0)))]) (va_A [(h0, .inr (2, [.null, .int 0, .int 0, .int 0]))] sz)) 2 6 (va_A [(h0, .inr (2, [.null, .int 0, .int 0, .int 0]))] sz) := by
  refine Met.ofW (cc := cX2_init) (maxL := 1) (ret := none) (by decide) rfl ?_
  intro p e s m args below meth c s₁ B hml hv
  obtain ⟨rfl, hsz, hP, hK, hD0, hNW⟩ := hv
  have hx := B.exec
  have hb := B.bytes
  have hr := B.returns
  have hts0 := atoms_spec (ws := .code yX2_init cX2_init 1 none :: gtbl) B.pre
  have hts : ∀ w ∈ gtbl, w.before #[Value.ref h0] s = true := fun w hw => hts0 w (List.mem_cons_of_mem _ hw)
  have hown : s.vm.findClass RX2 = some m.cls := findClass_of_methodNamed B.named
  have hlocks := B.notSynchronized
  have hin : meth.name = "<init>" := (name_of_methodNamed B.named B.method).1
  subst hsz
  have hD := hD0.self (sz := s.heap.size)
  generalize hAe : va_A [(h0, .inr (2, [.null, .int 0, .int 0, .int 0]))] s.heap.size = A at hD ⊢
  have hA : ∀ q : Nat, s.heap.size ≤ q → A q := fun q h => by rw [← hAe]; exact Or.inr h
  have hS : va_S A s.heap s.heap [] := va_S.rf
  have hP : va_P D vwCl [(h0, .inr (2, [.null, .int 0, .int 0, .int 0]))] s.heap := hP
  have hl := lv_entry ([.ref h0]) (n := 1) (Nat.le_of_ble_eq_true rfl)
  rw [lg_entry_eq]
  generalize (lg_sl ([.ref h0]) ++ List.replicate (1 - (lg_sl ([.ref h0])).length) Slot.unset).toArray = ls at hl ⊢
  have hl : lv_has ls 1 [(0, .ref h0)] := hl
  generalize hH0 : s.heap = H at hP hS ⊢
  have hS : va_S A s.heap H [] := by rw [hH0]; exact hS
  refine lv_aload_n hx hb dX2_init_0 rfl (lv_at hl 0 rfl) ?_
  refine W.objInit hx hb hown (hts _ kw_44) (hts _ kw_36) (hts _ kw_37) rfl (by rw [hml]; exact hl.1) rfl dX2_init_1 (Nat.le_of_ble_eq_true rfl) (Nat.le_of_ble_eq_true rfl) ?_
  refine W.eq (g2 := F0 m 4 ls []) rfl ?_
  refine lv_aload_n hx hb dX2_init_4 rfl (lv_at hl 0 rfl) ?_
  refine va_new (ci := 0) (fs := [.null]) (C := RX0) (T := TX0) (N := 1) hx hb hts gX0 tyX0 tyX0_ok hown (hts _ kw_45) (hts _ kw_46) (hts _ kw_26) hK hP hD hS hA rfl (fun j hj => by rcases (show j = 0 by omega) with rfl <;> rfl) (Nat.le_of_ble_eq_true rfl) (Nat.le_of_ble_eq_true rfl) dX2_init_5 (fun q1 H hP hD hS => ?_)
  have hP : va_P D vwCl [(h0, .inr (2, [.null, .int 0, .int 0, .int 0])), (q1, .inr (0, [.null]))] H := hP
  have hD : va_D A [(h0, .inr (2, [.null, .int 0, .int 0, .int 0])), (q1, .inr (0, [.null]))] := hD
  refine W.widen (k := 1) (n := 1) (by omega) (by omega) ?_
  refine lv_dup hx hb dX2_init_8 rfl ?_
  have hPc := hP.sub (ws' := [(q1, .inr (0, [.null]))]) [1] rfl
  have hDc := hD.sub (ws' := [(q1, .inr (0, [.null]))]) [1] (by decide) rfl
  have hKc := hK.sub (tys' := []) [] rfl
  have hFc := va_free (wc := [(q1, .inr (0, [.null]))]) hD hS hA [1] rfl
  refine va_callv (va_runIN (As := []) (rest := [.ref q1, .ref h0]) ⟨hx, hb, hml, hown, hts⟩ (c_X0_init l D q1 H.size) ⟨va_cnB 0 hts (gg_1 kw_49) rfl rfl rfl hNW.2.1 (hts _ kw_26) (by decide +kernel) ⟨Nat.le_of_ble_eq_true rfl, Nat.le_of_ble_eq_true rfl⟩, rfl, hts _ kw_48⟩ ⟨PI.blind, fun U hU hW => ⟨rfl, by rw [hU], by rw [hU]; exact hPc, va_K.moved hW.alike hKc, hDc.weaken (fun _ _ _ _ => trivial), hNW.warm hW⟩⟩ rfl rfl hl.1 rfl (lv_room (Nat.le_of_ble_eq_true rfl)) dX2_init_9 ⟨Nat.le_of_ble_eq_true rfl, Nat.le_of_ble_eq_true rfl⟩) hS (fun q _ h => hFc q h) hFc (fun u t H1 locs ht hvm hw hB hz1 hk1 hS => ?_)
  obtain ⟨qa2, cA2, hP1, hK1, hD1⟩ := hB
  rw [ht] at hP1
  have hK1 := va_K.moved hvm.symm hK1
  have hK := hK.app hK1
  obtain ⟨hP, hD⟩ := va_join (wr := [(h0, .inr (2, [.null, .int 0, .int 0, .int 0]))]) (w1 := [(q1, .inr (0, [.ref qa2])), (qa2, .inl (cA2, 5, .inl (fun _ => 0)))]) hP hD [1] [0] rfl rfl (by decide) (by decide) hk1 hFc hP1 hD1
  generalize H1 = H at hP hS ⊢
  have hP : va_P D vwCl [(h0, .inr (2, [.null, .int 0, .int 0, .int 0])), (q1, .inr (0, [.ref qa2])), (qa2, .inl (cA2, 5, .inl (fun _ => 0)))] H := hP
  have hD : va_D A [(h0, .inr (2, [.null, .int 0, .int 0, .int 0])), (q1, .inr (0, [.ref qa2])), (qa2, .inl (cA2, 5, .inl (fun _ => 0)))] := hD
  have hK : va_K D vwCl [(cA2, .int)] s := hK
  refine W.widen (k := 2) (n := 6) (by omega) (by omega) ?_
  refine va_putF (D := D) (ci := 2) (v := .ref q1) (ty := .object "TillHolds$Coins") (C := RX2) (T := TX2) (N := 4) hx hb hts gX2 tyX2 tyX2_ok nmX2 hown hK hP hD hS 0 rfl rfl 0 (by decide) (hts _ kw_57) (fun _ h9 => h9) rfl hin rfl (by decide +kernel) rfl rfl (Nat.le_of_ble_eq_true rfl) dX2_init_12 (fun H locs hP hD hS => ?_)
  have hP : va_P D vwCl [(h0, .inr (2, [.ref q1, .int 0, .int 0, .int 0])), (q1, .inr (0, [.ref qa2])), (qa2, .inl (cA2, 5, .inl (fun _ => 0)))] H := hP
  have hD : va_D A [(h0, .inr (2, [.ref q1, .int 0, .int 0, .int 0])), (q1, .inr (0, [.ref qa2])), (qa2, .inl (cA2, 5, .inl (fun _ => 0)))] := hD
  exact W.vret hx hb hr (fun t ht hW => ⟨⟨(), rfl, trivial, q1, qa2, cA2, by rw [ht]; exact hP, va_K.moved hW.alike hK, hD⟩, hS.F ht⟩) hS.2.2 dX2_init_15
end
